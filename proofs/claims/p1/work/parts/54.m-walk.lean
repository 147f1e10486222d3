/-! taken -/
def wm_taken (post : MS → Int32 → Prop) (σ : MS) : Prop := ∀ s1 : MS, s1 = m_comes_s σ ((m_comes σ) - (1 : Int32)) → vp_in (m_comes s1) 1200 ∧ (post s1 (m_come s1 (m_comes s1).toNatClampNeg))
set_option maxRecDepth 20000 in
theorem km_taken {l : Launch} {D : va_G} {cl : List vw_C} {G : gAd} {post : MS → Int32 → Prop} (hcl : mC cl) {σ : MS} (h : wm_taken post σ) : mMet l D cl G yX13_taken cX13_taken 1 (some .int) 1 [.ref (G.1 0)] σ (qI post) := by
  unfold wm_taken at h
  refine m_enter hcl (by decide +kernel) rfl [(0, .ref (G.1 0))] rfl (Nat.le_of_ble_eq_true rfl) ?_
  intro E hE hm hF
  have hN := hm.2.2.2.2.2.2.1
  refine r_aload_n hE 0 dX13_taken_g0.1 rfl rfl ?_
  refine r_dup hE dX13_taken_g0.2.1 rfl ?_
  refine mg_comes hE hm dX13_taken_g0.2.2.1 ?_
  refine r_iconst (v := (1 : Int32)) hE dX13_taken_g0.2.2.2.1 (by decide) ?_
  refine r_isub hE dX13_taken_g0.2.2.2.2.1 ?_
  refine mp_comes hE hm dX13_taken_g0.2.2.2.2.2.1 h (fun s1 h => ?_)
  refine r_aload_n hE 0 dX13_taken_g0.2.2.2.2.2.2.1 rfl rfl ?_
  refine mg_come hE hm dX13_taken_g0.2.2.2.2.2.2.2.1 ?_
  refine r_aload_n hE 0 dX13_taken_g0.2.2.2.2.2.2.2.2.1 rfl rfl ?_
  refine mg_comes hE hm dX13_taken_g0.2.2.2.2.2.2.2.2.2.1 ?_
  obtain ⟨hi, h⟩ := h
  refine ml_come hE hm dX13_taken_g0.2.2.2.2.2.2.2.2.2.2.1 hi ?_
  exact m_iret hE hm hF dX13_taken_g0.2.2.2.2.2.2.2.2.2.2.2 h
/-! applyAt -/
def wm_applyAt_103 (post : MS → Prop) (σ : MS) (v1 : Int32) (v2 : Int32) (v3 : Int32) (t0 : Int32) : Prop := ((t0 ≤ (0 : Int32)) → (vp_in v3 480 ∧ (vp_in ((7 : Int32) * v2) 3360 ∧ (vp_in (((20 : Int32) * (m_rowOf σ v3.toNatClampNeg)) + ((m_up σ ((7 : Int32) * v2).toNatClampNeg).toInt32)) 9600 ∧ (wm_comes (fun (s1 : MS) => post s1) σ (m_rowItem σ (((20 : Int32) * (m_rowOf σ v3.toNatClampNeg)) + ((m_up σ ((7 : Int32) * v2).toNatClampNeg).toInt32)).toNatClampNeg)))))) ∧ ((¬ (t0 ≤ (0 : Int32))) → (wm_fails (fun (s2 : MS) => post s2) σ t0 v1))
set_option maxRecDepth 20000 in
theorem km_applyAt_103 {E : gEnv} {l : Launch} {D : va_G} {cl : List vw_C} {G : gAd} {post : MS → Prop} (hE : gOK E cX13_applyAt RX13 none 4) (hm : mOK E l D cl G (qV post) 5) (hF : gFin E) (σ : MS) (v1 : Int32) (v2 : Int32) (v3 : Int32) (t0 : Int32) (h : wm_applyAt_103 post σ v1 v2 v3 t0) : GW E (mW G σ) 103 [(0, .ref (G.1 0)), (1, .int v1), (2, .int v2), (3, .int v3)] [.int t0] := by
  unfold wm_applyAt_103 at h
  have hN := hm.2.2.2.2.2.2.1
  refine r_istore hE [(4, .int t0), (0, .ref (G.1 0)), (1, .int v1), (2, .int v2), (3, .int v3)] dX13_applyAt_g3.2.2.2.2.2.2.2.2.2.2.2.2.1 hN (by decide) rfl ?_
  refine r_iload hE 0 dX13_applyAt_g3.2.2.2.2.2.2.2.2.2.2.2.2.2.1 rfl ?_
  refine r_if_le hE 120 dX13_applyAt_g3.2.2.2.2.2.2.2.2.2.2.2.2.2.2.1 (by decide) h (fun h => ?_) (fun h => ?_)
  · refine r_aload_n hE 1 dX13_applyAt_g4.2.2.2.2.1 rfl rfl ?_
    refine r_aload_n hE 1 dX13_applyAt_g4.2.2.2.2.2.1 rfl rfl ?_
    refine mg_rowItem hE hm dX13_applyAt_g4.2.2.2.2.2.2.1 ?_
    refine r_bipush (v := (20 : Int32)) hE dX13_applyAt_g4.2.2.2.2.2.2.2.1 (by decide) ?_
    refine r_aload_n hE 1 dX13_applyAt_g4.2.2.2.2.2.2.2.2.1 rfl rfl ?_
    refine mg_rowOf hE hm dX13_applyAt_g4.2.2.2.2.2.2.2.2.2.1 ?_
    refine r_iload_n hE 4 dX13_applyAt_g4.2.2.2.2.2.2.2.2.2.2.1 rfl rfl ?_
    obtain ⟨hi, h⟩ := h
    refine ml_rowOf hE hm dX13_applyAt_g4.2.2.2.2.2.2.2.2.2.2.2.1 hi ?_
    refine r_imul hE dX13_applyAt_g4.2.2.2.2.2.2.2.2.2.2.2.2.1 ?_
    refine r_aload_n hE 1 dX13_applyAt_g4.2.2.2.2.2.2.2.2.2.2.2.2.2.1 rfl rfl ?_
    refine mg_up hE hm dX13_applyAt_g4.2.2.2.2.2.2.2.2.2.2.2.2.2.2.1 ?_
    refine r_bipush (v := (7 : Int32)) hE dX13_applyAt_g4.2.2.2.2.2.2.2.2.2.2.2.2.2.2.2 (by decide) ?_
    refine r_iload_n hE 3 dX13_applyAt_g5.1 rfl rfl ?_
    refine r_imul hE dX13_applyAt_g5.2.1 ?_
    obtain ⟨hi, h⟩ := h
    refine ml_up hE hm dX13_applyAt_g5.2.2.1 hi ?_
    refine r_l2i hE dX13_applyAt_g5.2.2.2.1 ?_
    refine r_iadd hE dX13_applyAt_g5.2.2.2.2.1 ?_
    obtain ⟨hi, h⟩ := h
    refine ml_rowItem hE hm dX13_applyAt_g5.2.2.2.2.2.1 hi ?_
    refine m_callVv hE hm [.int (m_rowItem σ (((20 : Int32) * (m_rowOf σ v3.toNatClampNeg)) + ((m_up σ ((7 : Int32) * v2).toNatClampNeg).toInt32)).toNatClampNeg)] [] mc_comes (km_comes hm.2.2.2.2.2.2.2.2 h) (by decide) rfl rfl (Nat.le_of_ble_eq_true rfl) dX13_applyAt_g5.2.2.2.2.2.2.1 (fun s1 h => ?_)
    exact m_vret hE hm hF dX13_applyAt_g5.2.2.2.2.2.2.2 h
  · refine r_aload_n hE 1 dX13_applyAt_g3.2.2.2.2.2.2.2.2.2.2.2.2.2.2.2 rfl rfl ?_
    refine r_iload hE 0 dX13_applyAt_g4.1 rfl ?_
    refine r_iload_n hE 2 dX13_applyAt_g4.2.1 rfl rfl ?_
    refine m_callVv hE hm [.int t0, .int v1] [] mc_fails (km_fails hm.2.2.2.2.2.2.2.2 h) (by decide) rfl rfl (Nat.le_of_ble_eq_true rfl) dX13_applyAt_g4.2.2.1 (fun s2 h => ?_)
    refine r_goto hE 149 dX13_applyAt_g4.2.2.2.1 (by decide) ?_
    exact m_vret hE hm hF dX13_applyAt_g5.2.2.2.2.2.2.2 h
def wm_applyAt (post : MS → Prop) (σ : MS) (a1 : Int32) : Prop := wm_taken (fun (s3 : MS) (r4 : Int32) => vp_in a1 600 ∧ (vp_in (((20 : Int32) * (m_depth s3)) + (m_one s3 a1.toNatClampNeg)) 180 ∧ (∀ x5 : Int32, x5 = m_held s3 (((20 : Int32) * (m_depth s3)) + (m_one s3 a1.toNatClampNeg)).toNatClampNeg → (((0 : Int32) ≤ x5) → (vp_in x5 480 ∧ ((((m_sort s3 x5.toNatClampNeg) = (6 : Int32)) → ((((0 : Int32) ≤ r4) → (wm_isWhole (fun (s6 : MS) (r7 : Int32) => ((¬ (r7 = (0 : Int32))) → (vp_in ((7 : Int32) * r4) 3360 ∧ (vp_in x5 480 ∧ (vp_in (m_rowOf s6 x5.toNatClampNeg) 480 ∧ (wm_in (fun (s8 : MS) (r9 : Int32) => ((¬ (r9 = (0 : Int32))) → (wm_applyAt_103 post s8 a1 r4 x5 (0 : Int32))) ∧ ((r9 = (0 : Int32)) → (wm_applyAt_103 post s8 a1 r4 x5 (3 : Int32)))) s6 (m_up s6 ((7 : Int32) * r4).toNatClampNeg) (0 : Int64) (((m_rowSize s6 (m_rowOf s6 x5.toNatClampNeg).toNatClampNeg) - (1 : Int32)).toInt64)))))) ∧ ((r7 = (0 : Int32)) → (wm_applyAt_103 post s6 a1 r4 x5 (2 : Int32)))) s3 r4)) ∧ ((¬ ((0 : Int32) ≤ r4)) → (wm_applyAt_103 post s3 a1 r4 x5 (1 : Int32))))) ∧ ((¬ ((m_sort s3 x5.toNatClampNeg) = (6 : Int32))) → (wm_applyAt_103 post s3 a1 r4 x5 (2 : Int32)))))) ∧ ((¬ ((0 : Int32) ≤ x5)) → (wm_applyAt_103 post s3 a1 r4 x5 (1 : Int32)))))) σ
set_option maxRecDepth 20000 in
theorem km_applyAt {l : Launch} {D : va_G} {cl : List vw_C} {G : gAd} {post : MS → Prop} (hcl : mC cl) {σ : MS} {a1 : Int32} (h : wm_applyAt post σ a1) : mMet l D cl G yX13_applyAt cX13_applyAt 5 none 4 [.ref (G.1 0), .int a1] σ (qV post) := by
  unfold wm_applyAt at h
  refine m_enter hcl (by decide +kernel) rfl [(0, .ref (G.1 0)), (1, .int a1)] rfl (Nat.le_of_ble_eq_true rfl) ?_
  intro E hE hm hF
  have hN := hm.2.2.2.2.2.2.1
  refine r_aload_n hE 0 dX13_applyAt_g0.1 rfl rfl ?_
  refine m_callVi hE hm [] [] mc_taken (km_taken hm.2.2.2.2.2.2.2.2 h) (by decide) rfl rfl (Nat.le_of_ble_eq_true rfl) dX13_applyAt_g0.2.1 (fun s3 r4 h => ?_)
  refine r_istore_n hE [(2, .int r4), (0, .ref (G.1 0)), (1, .int a1)] dX13_applyAt_g0.2.2.1 rfl hN (by decide) rfl ?_
  refine r_aload_n hE 1 dX13_applyAt_g0.2.2.2.1 rfl rfl ?_
  refine mg_held hE hm dX13_applyAt_g0.2.2.2.2.1 ?_
  refine r_bipush (v := (20 : Int32)) hE dX13_applyAt_g0.2.2.2.2.2.1 (by decide) ?_
  refine r_aload_n hE 1 dX13_applyAt_g0.2.2.2.2.2.2.1 rfl rfl ?_
  refine mg_depth hE hm dX13_applyAt_g0.2.2.2.2.2.2.2.1 ?_
  refine r_imul hE dX13_applyAt_g0.2.2.2.2.2.2.2.2.1 ?_
  refine r_aload_n hE 1 dX13_applyAt_g0.2.2.2.2.2.2.2.2.2.1 rfl rfl ?_
  refine mg_one hE hm dX13_applyAt_g0.2.2.2.2.2.2.2.2.2.2.1 ?_
  refine r_iload_n hE 2 dX13_applyAt_g0.2.2.2.2.2.2.2.2.2.2.2.1 rfl rfl ?_
  obtain ⟨hi, h⟩ := h
  refine ml_one hE hm dX13_applyAt_g0.2.2.2.2.2.2.2.2.2.2.2.2.1 hi ?_
  refine r_iadd hE dX13_applyAt_g0.2.2.2.2.2.2.2.2.2.2.2.2.2.1 ?_
  obtain ⟨hi, h⟩ := h
  refine ml_held hE hm dX13_applyAt_g0.2.2.2.2.2.2.2.2.2.2.2.2.2.2.1 hi ?_
  refine r_topi h (fun x5 ex5 h => ?_)
  refine r_istore_n hE [(3, .int x5), (2, .int r4), (0, .ref (G.1 0)), (1, .int a1)] dX13_applyAt_g0.2.2.2.2.2.2.2.2.2.2.2.2.2.2.2 rfl hN (by decide) rfl ?_
  refine r_iload_n hE 0 dX13_applyAt_g1.1 rfl rfl ?_
  refine r_if_ge hE 33 dX13_applyAt_g1.2.1 (by decide) h (fun h => ?_) (fun h => ?_)
  · refine r_aload_n hE 2 dX13_applyAt_g1.2.2.2.2.1 rfl rfl ?_
    refine mg_sort hE hm dX13_applyAt_g1.2.2.2.2.2.1 ?_
    refine r_iload_n hE 0 dX13_applyAt_g1.2.2.2.2.2.2.1 rfl rfl ?_
    obtain ⟨hi, h⟩ := h
    refine ml_sort hE hm dX13_applyAt_g1.2.2.2.2.2.2.2.1 hi ?_
    refine r_bipush (v := (6 : Int32)) hE dX13_applyAt_g1.2.2.2.2.2.2.2.2.1 (by decide) ?_
    refine r_icmp_eq hE 48 dX13_applyAt_g1.2.2.2.2.2.2.2.2.2.1 (by decide) h (fun h => ?_) (fun h => ?_)
    · refine r_iload_n hE 1 dX13_applyAt_g1.2.2.2.2.2.2.2.2.2.2.2.2.1 rfl rfl ?_
      refine r_if_ge hE 56 dX13_applyAt_g1.2.2.2.2.2.2.2.2.2.2.2.2.2.1 (by decide) h (fun h => ?_) (fun h => ?_)
      · refine r_aload_n hE 2 dX13_applyAt_g2.1 rfl rfl ?_
        refine r_iload_n hE 1 dX13_applyAt_g2.2.1 rfl rfl ?_
        refine m_callVi hE hm [.int r4] [] mc_isWhole (km_isWhole hm.2.2.2.2.2.2.2.2 h) (by decide) rfl rfl (Nat.le_of_ble_eq_true rfl) dX13_applyAt_g2.2.2.1 (fun s6 r7 h => ?_)
        refine r_if_ne hE 68 dX13_applyAt_g2.2.2.2.1 (by decide) h (fun h => ?_) (fun h => ?_)
        · refine r_aload_n hE 2 dX13_applyAt_g2.2.2.2.2.2.2.1 rfl rfl ?_
          refine mg_up hE hm dX13_applyAt_g2.2.2.2.2.2.2.2.1 ?_
          refine r_bipush (v := (7 : Int32)) hE dX13_applyAt_g2.2.2.2.2.2.2.2.2.1 (by decide) ?_
          refine r_iload_n hE 1 dX13_applyAt_g2.2.2.2.2.2.2.2.2.2.1 rfl rfl ?_
          refine r_imul hE dX13_applyAt_g2.2.2.2.2.2.2.2.2.2.2.1 ?_
          obtain ⟨hi, h⟩ := h
          refine ml_up hE hm dX13_applyAt_g2.2.2.2.2.2.2.2.2.2.2.2.1 hi ?_
          refine r_lconst (v := (0 : Int64)) hE dX13_applyAt_g2.2.2.2.2.2.2.2.2.2.2.2.2.1 (by decide) ?_
          refine r_aload_n hE 2 dX13_applyAt_g2.2.2.2.2.2.2.2.2.2.2.2.2.2.1 rfl rfl ?_
          refine mg_rowSize hE hm dX13_applyAt_g2.2.2.2.2.2.2.2.2.2.2.2.2.2.2.1 ?_
          refine r_aload_n hE 2 dX13_applyAt_g2.2.2.2.2.2.2.2.2.2.2.2.2.2.2.2 rfl rfl ?_
          refine mg_rowOf hE hm dX13_applyAt_g3.1 ?_
          refine r_iload_n hE 0 dX13_applyAt_g3.2.1 rfl rfl ?_
          obtain ⟨hi, h⟩ := h
          refine ml_rowOf hE hm dX13_applyAt_g3.2.2.1 hi ?_
          obtain ⟨hi, h⟩ := h
          refine ml_rowSize hE hm dX13_applyAt_g3.2.2.2.1 hi ?_
          refine r_iconst (v := (1 : Int32)) hE dX13_applyAt_g3.2.2.2.2.1 (by decide) ?_
          refine r_isub hE dX13_applyAt_g3.2.2.2.2.2.1 ?_
          refine r_i2l hE dX13_applyAt_g3.2.2.2.2.2.2.1 ?_
          refine m_callSi hE hm [.long (m_up s6 ((7 : Int32) * r4).toNatClampNeg), .long (0 : Int64), .long (((m_rowSize s6 (m_rowOf s6 x5.toNatClampNeg).toNatClampNeg) - (1 : Int32)).toInt64)] [] mc_in (km_in hm.2.2.2.2.2.2.2.2 h) (by decide) rfl rfl (Nat.le_of_ble_eq_true rfl) dX13_applyAt_g3.2.2.2.2.2.2.2.1 (fun s8 r9 h => ?_)
          refine r_if_ne hE 102 dX13_applyAt_g3.2.2.2.2.2.2.2.2.1 (by decide) h (fun h => ?_) (fun h => ?_)
          · refine r_iconst (v := (0 : Int32)) hE dX13_applyAt_g3.2.2.2.2.2.2.2.2.2.2.2.1 (by decide) ?_
            refine r_pick [2, 3, 1, 0] rfl ?_
            exact km_applyAt_103 hE hm hF _ _ _ _ _ h
          · refine r_iconst (v := (3 : Int32)) hE dX13_applyAt_g3.2.2.2.2.2.2.2.2.2.1 (by decide) ?_
            refine r_goto hE 103 dX13_applyAt_g3.2.2.2.2.2.2.2.2.2.2.1 (by decide) ?_
            refine r_pick [2, 3, 1, 0] rfl ?_
            exact km_applyAt_103 hE hm hF _ _ _ _ _ h
        · refine r_iconst (v := (2 : Int32)) hE dX13_applyAt_g2.2.2.2.2.1 (by decide) ?_
          refine r_goto hE 103 dX13_applyAt_g2.2.2.2.2.2.1 (by decide) ?_
          refine r_pick [2, 3, 1, 0] rfl ?_
          exact km_applyAt_103 hE hm hF _ _ _ _ _ h
      · refine r_iconst (v := (1 : Int32)) hE dX13_applyAt_g1.2.2.2.2.2.2.2.2.2.2.2.2.2.2.1 (by decide) ?_
        refine r_goto hE 103 dX13_applyAt_g1.2.2.2.2.2.2.2.2.2.2.2.2.2.2.2 (by decide) ?_
        refine r_pick [2, 3, 1, 0] rfl ?_
        exact km_applyAt_103 hE hm hF _ _ _ _ _ h
    · refine r_iconst (v := (2 : Int32)) hE dX13_applyAt_g1.2.2.2.2.2.2.2.2.2.2.1 (by decide) ?_
      refine r_goto hE 103 dX13_applyAt_g1.2.2.2.2.2.2.2.2.2.2.2.1 (by decide) ?_
      refine r_pick [2, 3, 1, 0] rfl ?_
      exact km_applyAt_103 hE hm hF _ _ _ _ _ h
  · refine r_iconst (v := (1 : Int32)) hE dX13_applyAt_g1.2.2.1 (by decide) ?_
    refine r_goto hE 103 dX13_applyAt_g1.2.2.2.1 (by decide) ?_
    refine r_pick [2, 3, 1, 0] rfl ?_
    exact km_applyAt_103 hE hm hF _ _ _ _ _ h
/-! applyMacro -/
def wm_applyMacro_81 (post : MS → Prop) : Nat → MS → Int32 → Int32 → Int32 → Prop
  | 0, _, _, _, _ => False
  | n + 1, σ, v2, v3, v4 => ((v4 < (0 : Int32)) → (wm_later (fun (s1 : MS) => vp_in v2 26 ∧ (wm_later (fun (s2 : MS) => post s2) s1 (0 : Int32) (m_bodyOf s1 v2.toNatClampNeg) (0 : Int64))) σ (5 : Int32) (0 : Int32) (0 : Int64))) ∧ ((¬ (v4 < (0 : Int32))) → (wm_taken (fun (s3 : MS) (r4 : Int32) => vp_in (v3 + v4) 180 ∧ (∀ s5 : MS, s5 = m_held_s s3 (v3 + v4).toNatClampNeg r4 → ∀ x6 : Int32, x6 = v4 + (-1 : Int32) → wm_applyMacro_81 post n s5 v2 v3 x6)) σ))
set_option maxRecDepth 20000 in
theorem km_applyMacro_81 {E : gEnv} {l : Launch} {D : va_G} {cl : List vw_C} {G : gAd} {post : MS → Prop} (hE : gOK E cX13_applyMacro RX13 none 4) (hm : mOK E l D cl G (qV post) 5) (hF : gFin E) : ∀ (n : Nat) (σ : MS) (v2 : Int32) (v3 : Int32) (v4 : Int32), wm_applyMacro_81 post n σ v2 v3 v4 → GW E (mW G σ) 81 [(0, .ref (G.1 0)), (2, .int v2), (3, .int v3), (4, .int v4)] [] := by
  intro n
  induction n with
  | zero => intro σ v2 v3 v4 h; exact h.elim
  | succ n ih =>
    intro σ v2 v3 v4 h
    rw [wm_applyMacro_81] at h
    have hN := hm.2.2.2.2.2.2.1
    refine r_iload hE 3 dX13_applyMacro_g3.1 rfl ?_
    refine r_if_lt hE 105 dX13_applyMacro_g3.2.1 (by decide) h (fun h => ?_) (fun h => ?_)
    · refine r_aload_n hE 0 dX13_applyMacro_g3.2.2.2.2.2.2.2.2.2.2.2.2.1 rfl rfl ?_
      refine r_iconst (v := (5 : Int32)) hE dX13_applyMacro_g3.2.2.2.2.2.2.2.2.2.2.2.2.2.1 (by decide) ?_
      refine r_iconst (v := (0 : Int32)) hE dX13_applyMacro_g3.2.2.2.2.2.2.2.2.2.2.2.2.2.2.1 (by decide) ?_
      refine r_lconst (v := (0 : Int64)) hE dX13_applyMacro_g3.2.2.2.2.2.2.2.2.2.2.2.2.2.2.2 (by decide) ?_
      refine m_callVv hE hm [.int (5 : Int32), .int (0 : Int32), .long (0 : Int64)] [] mc_later (km_later hm.2.2.2.2.2.2.2.2 h) (by decide) rfl rfl (Nat.le_of_ble_eq_true rfl) dX13_applyMacro_g4.1 (fun s1 h => ?_)
      refine r_aload_n hE 0 dX13_applyMacro_g4.2.1 rfl rfl ?_
      refine r_iconst (v := (0 : Int32)) hE dX13_applyMacro_g4.2.2.1 (by decide) ?_
      refine r_aload_n hE 0 dX13_applyMacro_g4.2.2.2.1 rfl rfl ?_
      refine mg_bodyOf hE hm dX13_applyMacro_g4.2.2.2.2.1 ?_
      refine r_iload_n hE 1 dX13_applyMacro_g4.2.2.2.2.2.1 rfl rfl ?_
      obtain ⟨hi, h⟩ := h
      refine ml_bodyOf hE hm dX13_applyMacro_g4.2.2.2.2.2.2.1 hi ?_
      refine r_lconst (v := (0 : Int64)) hE dX13_applyMacro_g4.2.2.2.2.2.2.2.1 (by decide) ?_
      refine m_callVv hE hm [.int (0 : Int32), .int (m_bodyOf s1 v2.toNatClampNeg), .long (0 : Int64)] [] mc_later (km_later hm.2.2.2.2.2.2.2.2 h) (by decide) rfl rfl (Nat.le_of_ble_eq_true rfl) dX13_applyMacro_g4.2.2.2.2.2.2.2.2.1 (fun s2 h => ?_)
      exact m_vret hE hm hF dX13_applyMacro_g4.2.2.2.2.2.2.2.2.2 h
    · refine r_aload_n hE 0 dX13_applyMacro_g3.2.2.1 rfl rfl ?_
      refine mg_held hE hm dX13_applyMacro_g3.2.2.2.1 ?_
      refine r_iload_n hE 2 dX13_applyMacro_g3.2.2.2.2.1 rfl rfl ?_
      refine r_iload hE 3 dX13_applyMacro_g3.2.2.2.2.2.1 rfl ?_
      refine r_iadd hE dX13_applyMacro_g3.2.2.2.2.2.2.1 ?_
      refine r_aload_n hE 0 dX13_applyMacro_g3.2.2.2.2.2.2.2.1 rfl rfl ?_
      refine m_callVi hE hm [] [.int (v3 + v4), .ref (G.1 80)] mc_taken (km_taken hm.2.2.2.2.2.2.2.2 h) (by decide) rfl rfl (Nat.le_of_ble_eq_true rfl) dX13_applyMacro_g3.2.2.2.2.2.2.2.2.1 (fun s3 r4 h => ?_)
      obtain ⟨hi, h⟩ := h
      refine ms_held hE hm dX13_applyMacro_g3.2.2.2.2.2.2.2.2.2.1 hi h (fun s5 h => ?_)
      obtain ⟨x6, ex6⟩ : ∃ z : Int32, z = v4 + (-1 : Int32) := ⟨_, rfl⟩
      have h := h x6 ex6
      refine r_iinc (v := x6) hE [(4, .int x6), (0, .ref (G.1 0)), (2, .int v2), (3, .int v3)] 3 dX13_applyMacro_g3.2.2.2.2.2.2.2.2.2.2.1 rfl (by rw [ex6]; rfl) hN (by decide) rfl ?_
      refine r_goto hE 81 dX13_applyMacro_g3.2.2.2.2.2.2.2.2.2.2.2.1 (by decide) ?_
      refine r_pick [1, 2, 3, 0] rfl ?_
      exact ih _ _ _ _ h
def wm_applyMacro_48 (post : MS → Prop) : Nat → MS → Int32 → Int32 → Int32 → Prop
  | 0, _, _, _, _ => False
  | n + 1, σ, v2, v3, v4 => (((20 : Int32) ≤ v4) → (vp_in v2 26 ∧ (∀ x7 : Int32, x7 = (m_paramMany σ v2.toNatClampNeg) - (1 : Int32) → ∃ k : Nat, wm_applyMacro_81 post k σ v2 v3 x7))) ∧ ((¬ ((20 : Int32) ≤ v4)) → (vp_in (v3 + v4) 180 ∧ (∀ s8 : MS, s8 = m_held_s σ (v3 + v4).toNatClampNeg (-1 : Int32) → ∀ x9 : Int32, x9 = v4 + (1 : Int32) → wm_applyMacro_48 post n s8 v2 v3 x9)))
set_option maxRecDepth 20000 in
theorem km_applyMacro_48 {E : gEnv} {l : Launch} {D : va_G} {cl : List vw_C} {G : gAd} {post : MS → Prop} (hE : gOK E cX13_applyMacro RX13 none 4) (hm : mOK E l D cl G (qV post) 5) (hF : gFin E) : ∀ (n : Nat) (σ : MS) (v2 : Int32) (v3 : Int32) (v4 : Int32), wm_applyMacro_48 post n σ v2 v3 v4 → GW E (mW G σ) 48 [(0, .ref (G.1 0)), (2, .int v2), (3, .int v3), (4, .int v4)] [] := by
  intro n
  induction n with
  | zero => intro σ v2 v3 v4 h; exact h.elim
  | succ n ih =>
    intro σ v2 v3 v4 h
    rw [wm_applyMacro_48] at h
    have hN := hm.2.2.2.2.2.2.1
    refine r_iload hE 3 dX13_applyMacro_g1.2.2.2.2.2.2.2.2.2.2.2.2.2.1 rfl ?_
    refine r_bipush (v := (20 : Int32)) hE dX13_applyMacro_g1.2.2.2.2.2.2.2.2.2.2.2.2.2.2.1 (by decide) ?_
    refine r_icmp_ge hE 71 dX13_applyMacro_g1.2.2.2.2.2.2.2.2.2.2.2.2.2.2.2 (by decide) h (fun h => ?_) (fun h => ?_)
    · refine r_aload_n hE 0 dX13_applyMacro_g2.2.2.2.2.2.2.2.2.2.1 rfl rfl ?_
      refine mg_paramMany hE hm dX13_applyMacro_g2.2.2.2.2.2.2.2.2.2.2.1 ?_
      refine r_iload_n hE 1 dX13_applyMacro_g2.2.2.2.2.2.2.2.2.2.2.2.1 rfl rfl ?_
      obtain ⟨hi, h⟩ := h
      refine ml_paramMany hE hm dX13_applyMacro_g2.2.2.2.2.2.2.2.2.2.2.2.2.1 hi ?_
      refine r_iconst (v := (1 : Int32)) hE dX13_applyMacro_g2.2.2.2.2.2.2.2.2.2.2.2.2.2.1 (by decide) ?_
      refine r_isub hE dX13_applyMacro_g2.2.2.2.2.2.2.2.2.2.2.2.2.2.2.1 ?_
      refine r_topi h (fun x7 ex7 h => ?_)
      refine r_istore hE [(4, .int x7), (0, .ref (G.1 0)), (2, .int v2), (3, .int v3)] dX13_applyMacro_g2.2.2.2.2.2.2.2.2.2.2.2.2.2.2.2 hN (by decide) rfl ?_
      refine r_pick [1, 2, 3, 0] rfl ?_
      obtain ⟨k, h⟩ := h
      exact km_applyMacro_81 hE hm hF k _ _ _ _ h
    · refine r_aload_n hE 0 dX13_applyMacro_g2.1 rfl rfl ?_
      refine mg_held hE hm dX13_applyMacro_g2.2.1 ?_
      refine r_iload_n hE 2 dX13_applyMacro_g2.2.2.1 rfl rfl ?_
      refine r_iload hE 3 dX13_applyMacro_g2.2.2.2.1 rfl ?_
      refine r_iadd hE dX13_applyMacro_g2.2.2.2.2.1 ?_
      refine r_iconst (v := (-1 : Int32)) hE dX13_applyMacro_g2.2.2.2.2.2.1 (by decide) ?_
      obtain ⟨hi, h⟩ := h
      refine ms_held hE hm dX13_applyMacro_g2.2.2.2.2.2.2.1 hi h (fun s8 h => ?_)
      obtain ⟨x9, ex9⟩ : ∃ z : Int32, z = v4 + (1 : Int32) := ⟨_, rfl⟩
      have h := h x9 ex9
      refine r_iinc (v := x9) hE [(4, .int x9), (0, .ref (G.1 0)), (2, .int v2), (3, .int v3)] 3 dX13_applyMacro_g2.2.2.2.2.2.2.2.1 rfl (by rw [ex9]; rfl) hN (by decide) rfl ?_
      refine r_goto hE 48 dX13_applyMacro_g2.2.2.2.2.2.2.2.2.1 (by decide) ?_
      refine r_pick [1, 2, 3, 0] rfl ?_
      exact ih _ _ _ _ h
def wm_applyMacro (post : MS → Prop) (σ : MS) (a1 : Int32) : Prop := vp_in a1 600 ∧ (∀ x10 : Int32, x10 = (m_one σ a1.toNatClampNeg) - (100 : Int32) → ((¬ ((m_depth σ) = (8 : Int32))) → (∀ s11 : MS, s11 = m_depth_s σ ((m_depth σ) + (1 : Int32)) → ∀ x12 : Int32, x12 = (20 : Int32) * (m_depth s11) → ∃ k : Nat, wm_applyMacro_48 post k s11 x10 x12 (0 : Int32))) ∧ (((m_depth σ) = (8 : Int32)) → (wm_fails (fun (s13 : MS) => post s13) σ (9 : Int32) a1)))
set_option maxRecDepth 20000 in
theorem km_applyMacro {l : Launch} {D : va_G} {cl : List vw_C} {G : gAd} {post : MS → Prop} (hcl : mC cl) {σ : MS} {a1 : Int32} (h : wm_applyMacro post σ a1) : mMet l D cl G yX13_applyMacro cX13_applyMacro 5 none 4 [.ref (G.1 0), .int a1] σ (qV post) := by
  unfold wm_applyMacro at h
  refine m_enter hcl (by decide +kernel) rfl [(0, .ref (G.1 0)), (1, .int a1)] rfl (Nat.le_of_ble_eq_true rfl) ?_
  intro E hE hm hF
  have hN := hm.2.2.2.2.2.2.1
  refine r_aload_n hE 0 dX13_applyMacro_g0.1 rfl rfl ?_
  refine mg_one hE hm dX13_applyMacro_g0.2.1 ?_
  refine r_iload_n hE 1 dX13_applyMacro_g0.2.2.1 rfl rfl ?_
  obtain ⟨hi, h⟩ := h
  refine ml_one hE hm dX13_applyMacro_g0.2.2.2.1 hi ?_
  refine r_bipush (v := (100 : Int32)) hE dX13_applyMacro_g0.2.2.2.2.1 (by decide) ?_
  refine r_isub hE dX13_applyMacro_g0.2.2.2.2.2.1 ?_
  refine r_topi h (fun x10 ex10 h => ?_)
  refine r_istore_n hE [(2, .int x10), (0, .ref (G.1 0)), (1, .int a1)] dX13_applyMacro_g0.2.2.2.2.2.2.1 rfl hN (by decide) rfl ?_
  refine r_aload_n hE 1 dX13_applyMacro_g0.2.2.2.2.2.2.2.1 rfl rfl ?_
  refine mg_depth hE hm dX13_applyMacro_g0.2.2.2.2.2.2.2.2.1 ?_
  refine r_bipush (v := (8 : Int32)) hE dX13_applyMacro_g0.2.2.2.2.2.2.2.2.2.1 (by decide) ?_
  refine r_icmp_ne hE 27 dX13_applyMacro_g0.2.2.2.2.2.2.2.2.2.2.1 (by decide) h (fun h => ?_) (fun h => ?_)
  · refine r_aload_n hE 1 dX13_applyMacro_g1.1 rfl rfl ?_
    refine r_dup hE dX13_applyMacro_g1.2.1 rfl ?_
    refine mg_depth hE hm dX13_applyMacro_g1.2.2.1 ?_
    refine r_iconst (v := (1 : Int32)) hE dX13_applyMacro_g1.2.2.2.1 (by decide) ?_
    refine r_iadd hE dX13_applyMacro_g1.2.2.2.2.1 ?_
    refine mp_depth hE hm dX13_applyMacro_g1.2.2.2.2.2.1 h (fun s11 h => ?_)
    refine r_bipush (v := (20 : Int32)) hE dX13_applyMacro_g1.2.2.2.2.2.2.1 (by decide) ?_
    refine r_aload_n hE 1 dX13_applyMacro_g1.2.2.2.2.2.2.2.1 rfl rfl ?_
    refine mg_depth hE hm dX13_applyMacro_g1.2.2.2.2.2.2.2.2.1 ?_
    refine r_imul hE dX13_applyMacro_g1.2.2.2.2.2.2.2.2.2.1 ?_
    refine r_topi h (fun x12 ex12 h => ?_)
    refine r_istore_n hE [(3, .int x12), (2, .int x10), (0, .ref (G.1 0)), (1, .int a1)] dX13_applyMacro_g1.2.2.2.2.2.2.2.2.2.2.1 rfl hN (by decide) rfl ?_
    refine r_iconst (v := (0 : Int32)) hE dX13_applyMacro_g1.2.2.2.2.2.2.2.2.2.2.2.1 (by decide) ?_
    refine r_istore hE [(4, .int (0 : Int32)), (3, .int x12), (2, .int x10), (0, .ref (G.1 0)), (1, .int a1)] dX13_applyMacro_g1.2.2.2.2.2.2.2.2.2.2.2.2.1 hN (by decide) rfl ?_
    refine r_pick [3, 2, 1, 0] rfl ?_
    obtain ⟨k, h⟩ := h
    exact km_applyMacro_48 hE hm hF k _ _ _ _ h
  · refine r_aload_n hE 1 dX13_applyMacro_g0.2.2.2.2.2.2.2.2.2.2.2.1 rfl rfl ?_
    refine r_bipush (v := (9 : Int32)) hE dX13_applyMacro_g0.2.2.2.2.2.2.2.2.2.2.2.2.1 (by decide) ?_
    refine r_iload_n hE 2 dX13_applyMacro_g0.2.2.2.2.2.2.2.2.2.2.2.2.2.1 rfl rfl ?_
    refine m_callVv hE hm [.int (9 : Int32), .int a1] [] mc_fails (km_fails hm.2.2.2.2.2.2.2.2 h) (by decide) rfl rfl (Nat.le_of_ble_eq_true rfl) dX13_applyMacro_g0.2.2.2.2.2.2.2.2.2.2.2.2.2.2.1 (fun s13 h => ?_)
    exact m_vret hE hm hF dX13_applyMacro_g0.2.2.2.2.2.2.2.2.2.2.2.2.2.2.2 h
/-! askedOf -/
def wm_askedOf_116 (post : MS → Int32 → Prop) (σ : MS) (t0 : Int32) : Prop := ((t0 = (0 : Int32)) → (post σ (2 : Int32))) ∧ ((¬ (t0 = (0 : Int32))) → (post σ (0 : Int32)))
set_option maxRecDepth 20000 in
theorem km_askedOf_116 {E : gEnv} {l : Launch} {D : va_G} {cl : List vw_C} {G : gAd} {post : MS → Int32 → Prop} (hE : gOK E cX13_askedOf RX13 (some .int) 2) (hm : mOK E l D cl G (qI post) 5) (hF : gFin E) (σ : MS) (t0 : Int32) (h : wm_askedOf_116 post σ t0) : GW E (mW G σ) 116 [] [.int t0] := by
  unfold wm_askedOf_116 at h
  have hN := hm.2.2.2.2.2.2.1
  refine r_istore hE [(4, .int t0)] dX13_askedOf_g3.2.2.2.2.2.2.2.2.2.2.2.2.2.2.1 hN (by decide) rfl ?_
  refine r_iload hE 0 dX13_askedOf_g3.2.2.2.2.2.2.2.2.2.2.2.2.2.2.2 rfl ?_
  refine r_if_eq hE 127 dX13_askedOf_g4.1 (by decide) h (fun h => ?_) (fun h => ?_)
  · refine r_iconst (v := (2 : Int32)) hE dX13_askedOf_g4.2.2.2.1 (by decide) ?_
    exact m_iret hE hm hF dX13_askedOf_g4.2.2.2.2 h
  · refine r_iconst (v := (0 : Int32)) hE dX13_askedOf_g4.2.1 (by decide) ?_
    refine r_goto hE 128 dX13_askedOf_g4.2.2.1 (by decide) ?_
    exact m_iret hE hm hF dX13_askedOf_g4.2.2.2.2 h
def wm_askedOf_111 (post : MS → Int32 → Prop) (σ : MS) : Prop := wm_askedOf_116 post σ (1 : Int32)
set_option maxRecDepth 20000 in
theorem km_askedOf_111 {E : gEnv} {l : Launch} {D : va_G} {cl : List vw_C} {G : gAd} {post : MS → Int32 → Prop} (hE : gOK E cX13_askedOf RX13 (some .int) 2) (hm : mOK E l D cl G (qI post) 5) (hF : gFin E) (σ : MS) (h : wm_askedOf_111 post σ) : GW E (mW G σ) 111 [] [] := by
  unfold wm_askedOf_111 at h
  have hN := hm.2.2.2.2.2.2.1
  refine r_iconst (v := (1 : Int32)) hE dX13_askedOf_g3.2.2.2.2.2.2.2.2.2.2.2.1 (by decide) ?_
  refine r_goto hE 116 dX13_askedOf_g3.2.2.2.2.2.2.2.2.2.2.2.2.1 (by decide) ?_
  exact km_askedOf_116 hE hm hF _ _ h
def wm_askedOf_115 (post : MS → Int32 → Prop) (σ : MS) : Prop := wm_askedOf_116 post σ (0 : Int32)
set_option maxRecDepth 20000 in
theorem km_askedOf_115 {E : gEnv} {l : Launch} {D : va_G} {cl : List vw_C} {G : gAd} {post : MS → Int32 → Prop} (hE : gOK E cX13_askedOf RX13 (some .int) 2) (hm : mOK E l D cl G (qI post) 5) (hF : gFin E) (σ : MS) (h : wm_askedOf_115 post σ) : GW E (mW G σ) 115 [] [] := by
  unfold wm_askedOf_115 at h
  have hN := hm.2.2.2.2.2.2.1
  refine r_iconst (v := (0 : Int32)) hE dX13_askedOf_g3.2.2.2.2.2.2.2.2.2.2.2.2.2.1 (by decide) ?_
  exact km_askedOf_116 hE hm hF _ _ h
def wm_askedOf_99 (post : MS → Int32 → Prop) (σ : MS) (v2 : Int32) (v3 : Int32) : Prop := ((¬ (v2 = (114 : Int32))) → (wm_askedOf_115 post σ)) ∧ ((v2 = (114 : Int32)) → (((¬ (v3 = (6 : Int32))) → (wm_askedOf_115 post σ)) ∧ ((v3 = (6 : Int32)) → (wm_askedOf_111 post σ))))
set_option maxRecDepth 20000 in
theorem km_askedOf_99 {E : gEnv} {l : Launch} {D : va_G} {cl : List vw_C} {G : gAd} {post : MS → Int32 → Prop} (hE : gOK E cX13_askedOf RX13 (some .int) 2) (hm : mOK E l D cl G (qI post) 5) (hF : gFin E) (σ : MS) (v2 : Int32) (v3 : Int32) (h : wm_askedOf_99 post σ v2 v3) : GW E (mW G σ) 99 [(2, .int v2), (3, .int v3)] [] := by
  unfold wm_askedOf_99 at h
  have hN := hm.2.2.2.2.2.2.1
  refine r_iload_n hE 0 dX13_askedOf_g3.2.2.2.2.2.1 rfl rfl ?_
  refine r_bipush (v := (114 : Int32)) hE dX13_askedOf_g3.2.2.2.2.2.2.1 (by decide) ?_
  refine r_icmp_ne hE 115 dX13_askedOf_g3.2.2.2.2.2.2.2.1 (by decide) h (fun h => ?_) (fun h => ?_)
  · refine r_pick [] rfl ?_
    exact km_askedOf_115 hE hm hF _ h
  · refine r_iload_n hE 1 dX13_askedOf_g3.2.2.2.2.2.2.2.2.1 rfl rfl ?_
    refine r_bipush (v := (6 : Int32)) hE dX13_askedOf_g3.2.2.2.2.2.2.2.2.2.1 (by decide) ?_
    refine r_icmp_ne hE 115 dX13_askedOf_g3.2.2.2.2.2.2.2.2.2.2.1 (by decide) h (fun h => ?_) (fun h => ?_)
    · refine r_pick [] rfl ?_
      exact km_askedOf_115 hE hm hF _ h
    · refine r_pick [] rfl ?_
      exact km_askedOf_111 hE hm hF _ h
def wm_askedOf_88 (post : MS → Int32 → Prop) (σ : MS) (v2 : Int32) (v3 : Int32) : Prop := ((¬ (v2 = (100 : Int32))) → (wm_askedOf_99 post σ v2 v3)) ∧ ((v2 = (100 : Int32)) → (((v3 = (5 : Int32)) → (wm_askedOf_111 post σ)) ∧ ((¬ (v3 = (5 : Int32))) → (wm_askedOf_99 post σ v2 v3))))
set_option maxRecDepth 20000 in
theorem km_askedOf_88 {E : gEnv} {l : Launch} {D : va_G} {cl : List vw_C} {G : gAd} {post : MS → Int32 → Prop} (hE : gOK E cX13_askedOf RX13 (some .int) 2) (hm : mOK E l D cl G (qI post) 5) (hF : gFin E) (σ : MS) (v2 : Int32) (v3 : Int32) (h : wm_askedOf_88 post σ v2 v3) : GW E (mW G σ) 88 [(2, .int v2), (3, .int v3)] [] := by
  unfold wm_askedOf_88 at h
  have hN := hm.2.2.2.2.2.2.1
  refine r_iload_n hE 0 dX13_askedOf_g2.2.2.2.2.2.2.2.2.2.2.2.2.2.2.2 rfl rfl ?_
  refine r_bipush (v := (100 : Int32)) hE dX13_askedOf_g3.1 (by decide) ?_
  refine r_icmp_ne hE 99 dX13_askedOf_g3.2.1 (by decide) h (fun h => ?_) (fun h => ?_)
  · exact km_askedOf_99 hE hm hF _ _ _ h
  · refine r_iload_n hE 1 dX13_askedOf_g3.2.2.1 rfl rfl ?_
    refine r_iconst (v := (5 : Int32)) hE dX13_askedOf_g3.2.2.2.1 (by decide) ?_
    refine r_icmp_eq hE 111 dX13_askedOf_g3.2.2.2.2.1 (by decide) h (fun h => ?_) (fun h => ?_)
    · refine r_pick [] rfl ?_
      exact km_askedOf_111 hE hm hF _ h
    · exact km_askedOf_99 hE hm hF _ _ _ h
def wm_askedOf_77 (post : MS → Int32 → Prop) (σ : MS) (v2 : Int32) (v3 : Int32) : Prop := ((¬ (v2 = (115 : Int32))) → (wm_askedOf_88 post σ v2 v3)) ∧ ((v2 = (115 : Int32)) → (((v3 = (4 : Int32)) → (wm_askedOf_111 post σ)) ∧ ((¬ (v3 = (4 : Int32))) → (wm_askedOf_88 post σ v2 v3))))
set_option maxRecDepth 20000 in
theorem km_askedOf_77 {E : gEnv} {l : Launch} {D : va_G} {cl : List vw_C} {G : gAd} {post : MS → Int32 → Prop} (hE : gOK E cX13_askedOf RX13 (some .int) 2) (hm : mOK E l D cl G (qI post) 5) (hF : gFin E) (σ : MS) (v2 : Int32) (v3 : Int32) (h : wm_askedOf_77 post σ v2 v3) : GW E (mW G σ) 77 [(2, .int v2), (3, .int v3)] [] := by
  unfold wm_askedOf_77 at h
  have hN := hm.2.2.2.2.2.2.1
  refine r_iload_n hE 0 dX13_askedOf_g2.2.2.2.2.2.2.2.2.2.1 rfl rfl ?_
  refine r_bipush (v := (115 : Int32)) hE dX13_askedOf_g2.2.2.2.2.2.2.2.2.2.2.1 (by decide) ?_
  refine r_icmp_ne hE 88 dX13_askedOf_g2.2.2.2.2.2.2.2.2.2.2.2.1 (by decide) h (fun h => ?_) (fun h => ?_)
  · exact km_askedOf_88 hE hm hF _ _ _ h
  · refine r_iload_n hE 1 dX13_askedOf_g2.2.2.2.2.2.2.2.2.2.2.2.2.1 rfl rfl ?_
    refine r_iconst (v := (4 : Int32)) hE dX13_askedOf_g2.2.2.2.2.2.2.2.2.2.2.2.2.2.1 (by decide) ?_
    refine r_icmp_eq hE 111 dX13_askedOf_g2.2.2.2.2.2.2.2.2.2.2.2.2.2.2.1 (by decide) h (fun h => ?_) (fun h => ?_)
    · refine r_pick [] rfl ?_
      exact km_askedOf_111 hE hm hF _ h
    · exact km_askedOf_88 hE hm hF _ _ _ h
def wm_askedOf_64 (post : MS → Int32 → Prop) (σ : MS) (v2 : Int32) (v3 : Int32) : Prop := ((¬ (v2 = (108 : Int32))) → (wm_askedOf_77 post σ v2 v3)) ∧ ((v2 = (108 : Int32)) → (wm_isLine (fun (s1 : MS) (r2 : Int32) => ((¬ (r2 = (0 : Int32))) → (wm_askedOf_111 post s1)) ∧ ((r2 = (0 : Int32)) → (wm_askedOf_77 post s1 v2 v3))) σ v3))
set_option maxRecDepth 20000 in
theorem km_askedOf_64 {E : gEnv} {l : Launch} {D : va_G} {cl : List vw_C} {G : gAd} {post : MS → Int32 → Prop} (hE : gOK E cX13_askedOf RX13 (some .int) 2) (hm : mOK E l D cl G (qI post) 5) (hF : gFin E) (σ : MS) (v2 : Int32) (v3 : Int32) (h : wm_askedOf_64 post σ v2 v3) : GW E (mW G σ) 64 [(2, .int v2), (3, .int v3)] [] := by
  unfold wm_askedOf_64 at h
  have hN := hm.2.2.2.2.2.2.1
  refine r_iload_n hE 0 dX13_askedOf_g2.2.2.2.1 rfl rfl ?_
  refine r_bipush (v := (108 : Int32)) hE dX13_askedOf_g2.2.2.2.2.1 (by decide) ?_
  refine r_icmp_ne hE 77 dX13_askedOf_g2.2.2.2.2.2.1 (by decide) h (fun h => ?_) (fun h => ?_)
  · exact km_askedOf_77 hE hm hF _ _ _ h
  · refine r_iload_n hE 1 dX13_askedOf_g2.2.2.2.2.2.2.1 rfl rfl ?_
    refine m_callSi hE hm [.int v3] [] mc_isLine (km_isLine hm.2.2.2.2.2.2.2.2 h) (by decide) rfl rfl (Nat.le_of_ble_eq_true rfl) dX13_askedOf_g2.2.2.2.2.2.2.2.1 (fun s1 r2 h => ?_)
    refine r_if_ne hE 111 dX13_askedOf_g2.2.2.2.2.2.2.2.2.1 (by decide) h (fun h => ?_) (fun h => ?_)
    · refine r_pick [] rfl ?_
      exact km_askedOf_111 hE hm hF _ h
    · exact km_askedOf_77 hE hm hF _ _ _ h
def wm_askedOf_51 (post : MS → Int32 → Prop) (σ : MS) (v2 : Int32) (v3 : Int32) : Prop := ((¬ (v2 = (112 : Int32))) → (wm_askedOf_64 post σ v2 v3)) ∧ ((v2 = (112 : Int32)) → (wm_isPoint (fun (s3 : MS) (r4 : Int32) => ((¬ (r4 = (0 : Int32))) → (wm_askedOf_111 post s3)) ∧ ((r4 = (0 : Int32)) → (wm_askedOf_64 post s3 v2 v3))) σ v3))
set_option maxRecDepth 20000 in
theorem km_askedOf_51 {E : gEnv} {l : Launch} {D : va_G} {cl : List vw_C} {G : gAd} {post : MS → Int32 → Prop} (hE : gOK E cX13_askedOf RX13 (some .int) 2) (hm : mOK E l D cl G (qI post) 5) (hF : gFin E) (σ : MS) (v2 : Int32) (v3 : Int32) (h : wm_askedOf_51 post σ v2 v3) : GW E (mW G σ) 51 [(2, .int v2), (3, .int v3)] [] := by
  unfold wm_askedOf_51 at h
  have hN := hm.2.2.2.2.2.2.1
  refine r_iload_n hE 0 dX13_askedOf_g1.2.2.2.2.2.2.2.2.2.2.2.2.2.1 rfl rfl ?_
  refine r_bipush (v := (112 : Int32)) hE dX13_askedOf_g1.2.2.2.2.2.2.2.2.2.2.2.2.2.2.1 (by decide) ?_
  refine r_icmp_ne hE 64 dX13_askedOf_g1.2.2.2.2.2.2.2.2.2.2.2.2.2.2.2 (by decide) h (fun h => ?_) (fun h => ?_)
  · exact km_askedOf_64 hE hm hF _ _ _ h
  · refine r_iload_n hE 1 dX13_askedOf_g2.1 rfl rfl ?_
    refine m_callSi hE hm [.int v3] [] mc_isPoint (km_isPoint hm.2.2.2.2.2.2.2.2 h) (by decide) rfl rfl (Nat.le_of_ble_eq_true rfl) dX13_askedOf_g2.2.1 (fun s3 r4 h => ?_)
    refine r_if_ne hE 111 dX13_askedOf_g2.2.2.1 (by decide) h (fun h => ?_) (fun h => ?_)
    · refine r_pick [] rfl ?_
      exact km_askedOf_111 hE hm hF _ h
    · exact km_askedOf_64 hE hm hF _ _ _ h
def wm_askedOf_37 (post : MS → Int32 → Prop) (σ : MS) (v1 : Int32) (v2 : Int32) (v3 : Int32) : Prop := ((¬ (v2 = (107 : Int32))) → (wm_askedOf_51 post σ v2 v3)) ∧ ((v2 = (107 : Int32)) → (wm_isWhole (fun (s5 : MS) (r6 : Int32) => ((¬ (r6 = (0 : Int32))) → (wm_askedOf_111 post s5)) ∧ ((r6 = (0 : Int32)) → (wm_askedOf_51 post s5 v2 v3))) σ v1))
set_option maxRecDepth 20000 in
theorem km_askedOf_37 {E : gEnv} {l : Launch} {D : va_G} {cl : List vw_C} {G : gAd} {post : MS → Int32 → Prop} (hE : gOK E cX13_askedOf RX13 (some .int) 2) (hm : mOK E l D cl G (qI post) 5) (hF : gFin E) (σ : MS) (v1 : Int32) (v2 : Int32) (v3 : Int32) (h : wm_askedOf_37 post σ v1 v2 v3) : GW E (mW G σ) 37 [(0, .ref (G.1 0)), (1, .int v1), (2, .int v2), (3, .int v3)] [] := by
  unfold wm_askedOf_37 at h
  have hN := hm.2.2.2.2.2.2.1
  refine r_iload_n hE 2 dX13_askedOf_g1.2.2.2.2.2.2.1 rfl rfl ?_
  refine r_bipush (v := (107 : Int32)) hE dX13_askedOf_g1.2.2.2.2.2.2.2.1 (by decide) ?_
  refine r_icmp_ne hE 51 dX13_askedOf_g1.2.2.2.2.2.2.2.2.1 (by decide) h (fun h => ?_) (fun h => ?_)
  · refine r_pick [2, 3] rfl ?_
    exact km_askedOf_51 hE hm hF _ _ _ h
  · refine r_aload_n hE 0 dX13_askedOf_g1.2.2.2.2.2.2.2.2.2.1 rfl rfl ?_
    refine r_iload_n hE 1 dX13_askedOf_g1.2.2.2.2.2.2.2.2.2.2.1 rfl rfl ?_
    refine m_callVi hE hm [.int v1] [] mc_isWhole (km_isWhole hm.2.2.2.2.2.2.2.2 h) (by decide) rfl rfl (Nat.le_of_ble_eq_true rfl) dX13_askedOf_g1.2.2.2.2.2.2.2.2.2.2.2.1 (fun s5 r6 h => ?_)
    refine r_if_ne hE 111 dX13_askedOf_g1.2.2.2.2.2.2.2.2.2.2.2.2.1 (by decide) h (fun h => ?_) (fun h => ?_)
    · refine r_pick [] rfl ?_
      exact km_askedOf_111 hE hm hF _ h
    · refine r_pick [2, 3] rfl ?_
      exact km_askedOf_51 hE hm hF _ _ _ h
def wm_askedOf (post : MS → Int32 → Prop) (σ : MS) (a1 : Int32) (a2 : Int32) : Prop := ((¬ (a2 = (110 : Int32))) → ((((0 : Int32) ≤ a1) → (vp_in a1 480 ∧ (∀ x7 : Int32, x7 = m_sort σ a1.toNatClampNeg → ((a2 = (119 : Int32)) → (wm_askedOf_111 post σ)) ∧ ((¬ (a2 = (119 : Int32))) → (((¬ (a2 = (117 : Int32))) → (wm_askedOf_37 post σ a1 a2 x7)) ∧ ((a2 = (117 : Int32)) → (((x7 = (0 : Int32)) → (wm_askedOf_111 post σ)) ∧ ((¬ (x7 = (0 : Int32))) → (wm_askedOf_37 post σ a1 a2 x7))))))))) ∧ ((¬ ((0 : Int32) ≤ a1)) → (post σ (1 : Int32))))) ∧ ((a2 = (110 : Int32)) → (post σ (0 : Int32)))
set_option maxRecDepth 20000 in
theorem km_askedOf {l : Launch} {D : va_G} {cl : List vw_C} {G : gAd} {post : MS → Int32 → Prop} (hcl : mC cl) {σ : MS} {a1 : Int32} {a2 : Int32} (h : wm_askedOf post σ a1 a2) : mMet l D cl G yX13_askedOf cX13_askedOf 5 (some .int) 2 [.ref (G.1 0), .int a1, .int a2] σ (qI post) := by
  unfold wm_askedOf at h
  refine m_enter hcl (by decide +kernel) rfl [(0, .ref (G.1 0)), (1, .int a1), (2, .int a2)] rfl (Nat.le_of_ble_eq_true rfl) ?_
  intro E hE hm hF
  have hN := hm.2.2.2.2.2.2.1
  refine r_iload_n hE 2 dX13_askedOf_g0.1 rfl rfl ?_
  refine r_bipush (v := (110 : Int32)) hE dX13_askedOf_g0.2.1 (by decide) ?_
  refine r_icmp_ne hE 8 dX13_askedOf_g0.2.2.1 (by decide) h (fun h => ?_) (fun h => ?_)
  · refine r_iload_n hE 1 dX13_askedOf_g0.2.2.2.2.2.1 rfl rfl ?_
    refine r_if_ge hE 14 dX13_askedOf_g0.2.2.2.2.2.2.1 (by decide) h (fun h => ?_) (fun h => ?_)
    · refine r_aload_n hE 0 dX13_askedOf_g0.2.2.2.2.2.2.2.2.2.1 rfl rfl ?_
      refine mg_sort hE hm dX13_askedOf_g0.2.2.2.2.2.2.2.2.2.2.1 ?_
      refine r_iload_n hE 1 dX13_askedOf_g0.2.2.2.2.2.2.2.2.2.2.2.1 rfl rfl ?_
      obtain ⟨hi, h⟩ := h
      refine ml_sort hE hm dX13_askedOf_g0.2.2.2.2.2.2.2.2.2.2.2.2.1 hi ?_
      refine r_topi h (fun x7 ex7 h => ?_)
      refine r_istore_n hE [(3, .int x7), (0, .ref (G.1 0)), (1, .int a1), (2, .int a2)] dX13_askedOf_g0.2.2.2.2.2.2.2.2.2.2.2.2.2.1 rfl hN (by decide) rfl ?_
      refine r_iload_n hE 3 dX13_askedOf_g0.2.2.2.2.2.2.2.2.2.2.2.2.2.2.1 rfl rfl ?_
      refine r_bipush (v := (119 : Int32)) hE dX13_askedOf_g0.2.2.2.2.2.2.2.2.2.2.2.2.2.2.2 (by decide) ?_
      refine r_icmp_eq hE 111 dX13_askedOf_g1.1 (by decide) h (fun h => ?_) (fun h => ?_)
      · refine r_pick [] rfl ?_
        exact km_askedOf_111 hE hm hF _ h
      · refine r_iload_n hE 3 dX13_askedOf_g1.2.1 rfl rfl ?_
        refine r_bipush (v := (117 : Int32)) hE dX13_askedOf_g1.2.2.1 (by decide) ?_
        refine r_icmp_ne hE 37 dX13_askedOf_g1.2.2.2.1 (by decide) h (fun h => ?_) (fun h => ?_)
        · refine r_pick [1, 2, 3, 0] rfl ?_
          exact km_askedOf_37 hE hm hF _ _ _ _ h
        · refine r_iload_n hE 0 dX13_askedOf_g1.2.2.2.2.1 rfl rfl ?_
          refine r_if_eq hE 111 dX13_askedOf_g1.2.2.2.2.2.1 (by decide) h (fun h => ?_) (fun h => ?_)
          · refine r_pick [] rfl ?_
            exact km_askedOf_111 hE hm hF _ h
          · refine r_pick [1, 2, 3, 0] rfl ?_
            exact km_askedOf_37 hE hm hF _ _ _ _ h
    · refine r_iconst (v := (1 : Int32)) hE dX13_askedOf_g0.2.2.2.2.2.2.2.1 (by decide) ?_
      exact m_iret hE hm hF dX13_askedOf_g0.2.2.2.2.2.2.2.2.1 h
  · refine r_iconst (v := (0 : Int32)) hE dX13_askedOf_g0.2.2.2.1 (by decide) ?_
    exact m_iret hE hm hF dX13_askedOf_g0.2.2.2.2.1 h
/-! freeLeans -/
def wm_freeLeans (post : MS → Int32 → Prop) (σ : MS) (a1 : Int32) (a2 : Int32) : Prop := ∀ x1 : Int32, x1 = (m_frees σ) - (1 : Int32) → vp_in x1 12 ∧ (∀ s2 : MS, s2 = m_freeThing_s σ x1.toNatClampNeg a1 → vp_in x1 12 ∧ ((((m_isMoved s2 x1.toNatClampNeg) = (0 : Int32)) → (post s2 (((1 : Int32) <<< (x1 &&& 31)) ||| a2))) ∧ ((¬ ((m_isMoved s2 x1.toNatClampNeg) = (0 : Int32))) → (post s2 (((1 : Int32) <<< (x1 &&& 31)) ||| (0 : Int32))))))
set_option maxRecDepth 20000 in
theorem km_freeLeans {l : Launch} {D : va_G} {cl : List vw_C} {G : gAd} {post : MS → Int32 → Prop} (hcl : mC cl) {σ : MS} {a1 : Int32} {a2 : Int32} (h : wm_freeLeans post σ a1 a2) : mMet l D cl G yX13_freeLeans cX13_freeLeans 4 (some .int) 1 [.ref (G.1 0), .int a1, .int a2] σ (qI post) := by
  unfold wm_freeLeans at h
  refine m_enter hcl (by decide +kernel) rfl [(0, .ref (G.1 0)), (1, .int a1), (2, .int a2)] rfl (Nat.le_of_ble_eq_true rfl) ?_
  intro E hE hm hF
  have hN := hm.2.2.2.2.2.2.1
  refine r_aload_n hE 0 dX13_freeLeans_g0.1 rfl rfl ?_
  refine mg_frees hE hm dX13_freeLeans_g0.2.1 ?_
  refine r_iconst (v := (1 : Int32)) hE dX13_freeLeans_g0.2.2.1 (by decide) ?_
  refine r_isub hE dX13_freeLeans_g0.2.2.2.1 ?_
  refine r_topi h (fun x1 ex1 h => ?_)
  refine r_istore_n hE [(3, .int x1), (0, .ref (G.1 0)), (1, .int a1), (2, .int a2)] dX13_freeLeans_g0.2.2.2.2.1 rfl hN (by decide) rfl ?_
  refine r_aload_n hE 1 dX13_freeLeans_g0.2.2.2.2.2.1 rfl rfl ?_
  refine mg_freeThing hE hm dX13_freeLeans_g0.2.2.2.2.2.2.1 ?_
  refine r_iload_n hE 0 dX13_freeLeans_g0.2.2.2.2.2.2.2.1 rfl rfl ?_
  refine r_iload_n hE 2 dX13_freeLeans_g0.2.2.2.2.2.2.2.2.1 rfl rfl ?_
  obtain ⟨hi, h⟩ := h
  refine ms_freeThing hE hm dX13_freeLeans_g0.2.2.2.2.2.2.2.2.2.1 hi h (fun s2 h => ?_)
  refine r_iconst (v := (1 : Int32)) hE dX13_freeLeans_g0.2.2.2.2.2.2.2.2.2.2.1 (by decide) ?_
  refine r_iload_n hE 0 dX13_freeLeans_g0.2.2.2.2.2.2.2.2.2.2.2.1 rfl rfl ?_
  refine r_ishl hE dX13_freeLeans_g0.2.2.2.2.2.2.2.2.2.2.2.2.1 ?_
  refine r_aload_n hE 1 dX13_freeLeans_g0.2.2.2.2.2.2.2.2.2.2.2.2.2.1 rfl rfl ?_
  refine mg_isMoved hE hm dX13_freeLeans_g0.2.2.2.2.2.2.2.2.2.2.2.2.2.2.1 ?_
  refine r_iload_n hE 0 dX13_freeLeans_g0.2.2.2.2.2.2.2.2.2.2.2.2.2.2.2 rfl rfl ?_
  obtain ⟨hi, h⟩ := h
  refine ml_isMoved hE hm dX13_freeLeans_g1.1 hi ?_
  refine r_if_eq hE 30 dX13_freeLeans_g1.2.1 (by decide) h (fun h => ?_) (fun h => ?_)
  · refine r_iload_n hE 3 dX13_freeLeans_g1.2.2.2.2.1 rfl rfl ?_
    refine r_ior hE dX13_freeLeans_g1.2.2.2.2.2.1 ?_
    exact m_iret hE hm hF dX13_freeLeans_g1.2.2.2.2.2.2 h
  · refine r_iconst (v := (0 : Int32)) hE dX13_freeLeans_g1.2.2.1 (by decide) ?_
    refine r_goto hE 31 dX13_freeLeans_g1.2.2.2.1 (by decide) ?_
    refine r_ior hE dX13_freeLeans_g1.2.2.2.2.2.1 ?_
    exact m_iret hE hm hF dX13_freeLeans_g1.2.2.2.2.2.2 h
/-! placeOf12 -/
def wm_placeOf_wantedList_22 (post : MS → Int32 → Prop) (lp4 : MS → Int32 → Int32 → Prop) (σ : MS) (v2 : Int32) (t0 : Int32) (t1 : Int32) : Prop := ∀ x1 : Int32, x1 = t0 - t1 → ∀ x2 : Int32, x2 = v2 + (1 : Int32) → lp4 σ x2 x1
set_option maxRecDepth 20000 in
theorem km_placeOf_wantedList_22 {E : gEnv} {l : Launch} {D : va_G} {cl : List vw_C} {G : gAd} {post : MS → Int32 → Prop} (hE : gOK E cX13_placeOf RX13 (some .int) 1) (hm : mOK E l D cl G (qI post) 4) (hF : gFin E) {lp4 : MS → Int32 → Int32 → Prop} (hl4 : ∀ (σ : MS) (v2 : Int32) (v3 : Int32), lp4 σ v2 v3 → GW E (mW G σ) 4 [(0, .ref (G.1 12)), (2, .int v2), (3, .int v3)] []) (σ : MS) (v2 : Int32) (t0 : Int32) (t1 : Int32) (h : wm_placeOf_wantedList_22 post lp4 σ v2 t0 t1) : GW E (mW G σ) 22 [(0, .ref (G.1 12)), (2, .int v2)] [.int t1, .int t0] := by
  unfold wm_placeOf_wantedList_22 at h
  have hN := hm.2.2.2.2.2.2.1
  refine r_isub hE dX13_placeOf_g0.2.2.2.2.2.2.2.2.2.2.2.2.2.2.2 ?_
  refine r_topi h (fun x1 ex1 h => ?_)
  refine r_istore_n hE [(3, .int x1), (0, .ref (G.1 12)), (2, .int v2)] dX13_placeOf_g1.1 rfl hN (by decide) rfl ?_
  obtain ⟨x2, ex2⟩ : ∃ z : Int32, z = v2 + (1 : Int32) := ⟨_, rfl⟩
  have h := h x2 ex2
  refine r_iinc (v := x2) hE [(2, .int x2), (3, .int x1), (0, .ref (G.1 12))] 2 dX13_placeOf_g1.2.1 rfl (by rw [ex2]; rfl) hN (by decide) rfl ?_
  refine r_goto hE 4 dX13_placeOf_g1.2.2.1 (by decide) ?_
  refine r_pick [2, 0, 1] rfl ?_
  exact hl4 _ _ _ h
def wm_placeOf_wantedList_4 (post : MS → Int32 → Prop) : Nat → MS → Int32 → Int32 → Prop
  | 0, _, _, _ => False
  | n + 1, σ, v2, v3 => ((v3 ≤ (0 : Int32)) → (post σ v2)) ∧ ((¬ (v3 ≤ (0 : Int32))) → (vp_in v2 108 ∧ (((¬ ((m_wantedList σ v2.toNatClampNeg) = (32 : Int32))) → (wm_placeOf_wantedList_22 post (fun (ys : MS) (y0 : Int32) (y1 : Int32) => wm_placeOf_wantedList_4 post n ys y0 y1) σ v2 v3 (0 : Int32))) ∧ (((m_wantedList σ v2.toNatClampNeg) = (32 : Int32)) → (wm_placeOf_wantedList_22 post (fun (ys : MS) (y0 : Int32) (y1 : Int32) => wm_placeOf_wantedList_4 post n ys y0 y1) σ v2 v3 (1 : Int32))))))
set_option maxRecDepth 20000 in
theorem km_placeOf_wantedList_4 {E : gEnv} {l : Launch} {D : va_G} {cl : List vw_C} {G : gAd} {post : MS → Int32 → Prop} (hE : gOK E cX13_placeOf RX13 (some .int) 1) (hm : mOK E l D cl G (qI post) 4) (hF : gFin E) : ∀ (n : Nat) (σ : MS) (v2 : Int32) (v3 : Int32), wm_placeOf_wantedList_4 post n σ v2 v3 → GW E (mW G σ) 4 [(0, .ref (G.1 12)), (2, .int v2), (3, .int v3)] [] := by
  intro n
  induction n with
  | zero => intro σ v2 v3 h; exact h.elim
  | succ n ih =>
    intro σ v2 v3 h
    rw [wm_placeOf_wantedList_4] at h
    have hN := hm.2.2.2.2.2.2.1
    refine r_iload_n hE 2 dX13_placeOf_g0.2.2.2.2.1 rfl rfl ?_
    refine r_if_le hE 30 dX13_placeOf_g0.2.2.2.2.2.1 (by decide) h (fun h => ?_) (fun h => ?_)
    · refine r_iload_n hE 1 dX13_placeOf_g1.2.2.2.1 rfl rfl ?_
      exact m_iret hE hm hF dX13_placeOf_g1.2.2.2.2 h
    · refine r_iload_n hE 2 dX13_placeOf_g0.2.2.2.2.2.2.1 rfl rfl ?_
      refine r_aload_n hE 0 dX13_placeOf_g0.2.2.2.2.2.2.2.1 rfl rfl ?_
      refine r_iload_n hE 1 dX13_placeOf_g0.2.2.2.2.2.2.2.2.1 rfl rfl ?_
      obtain ⟨hi, h⟩ := h
      refine ml_wantedList hE hm dX13_placeOf_g0.2.2.2.2.2.2.2.2.2.1 hi ?_
      refine r_bipush (v := (32 : Int32)) hE dX13_placeOf_g0.2.2.2.2.2.2.2.2.2.2.1 (by decide) ?_
      refine r_icmp_ne hE 21 dX13_placeOf_g0.2.2.2.2.2.2.2.2.2.2.2.1 (by decide) h (fun h => ?_) (fun h => ?_)
      · refine r_iconst (v := (0 : Int32)) hE dX13_placeOf_g0.2.2.2.2.2.2.2.2.2.2.2.2.2.2.1 (by decide) ?_
        refine r_pick [0, 1] rfl ?_
        exact km_placeOf_wantedList_22 hE hm hF ih _ _ _ _ h
      · refine r_iconst (v := (1 : Int32)) hE dX13_placeOf_g0.2.2.2.2.2.2.2.2.2.2.2.2.1 (by decide) ?_
        refine r_goto hE 22 dX13_placeOf_g0.2.2.2.2.2.2.2.2.2.2.2.2.2.1 (by decide) ?_
        refine r_pick [0, 1] rfl ?_
        exact km_placeOf_wantedList_22 hE hm hF ih _ _ _ _ h
def wm_placeOf_wantedList (post : MS → Int32 → Prop) (σ : MS) (a1 : Int32) : Prop := ∃ k : Nat, wm_placeOf_wantedList_4 post k σ (0 : Int32) a1
set_option maxRecDepth 20000 in
theorem km_placeOf_wantedList {l : Launch} {D : va_G} {cl : List vw_C} {G : gAd} {post : MS → Int32 → Prop} (hcl : mC cl) {σ : MS} {a1 : Int32} (h : wm_placeOf_wantedList post σ a1) : mMet l D cl G yX13_placeOf cX13_placeOf 4 (some .int) 1 [.ref (G.1 12), .int a1] σ (qI post) := by
  unfold wm_placeOf_wantedList at h
  refine m_enter hcl (by decide +kernel) rfl [(0, .ref (G.1 12)), (1, .int a1)] rfl (Nat.le_of_ble_eq_true rfl) ?_
  intro E hE hm hF
  have hN := hm.2.2.2.2.2.2.1
  refine r_iconst (v := (0 : Int32)) hE dX13_placeOf_g0.1 (by decide) ?_
  refine r_istore_n hE [(2, .int (0 : Int32)), (0, .ref (G.1 12)), (1, .int a1)] dX13_placeOf_g0.2.1 rfl hN (by decide) rfl ?_
  refine r_iload_n hE 2 dX13_placeOf_g0.2.2.1 rfl rfl ?_
  refine r_istore_n hE [(3, .int a1), (2, .int (0 : Int32)), (0, .ref (G.1 12)), (1, .int a1)] dX13_placeOf_g0.2.2.2.1 rfl hN (by decide) rfl ?_
  refine r_pick [2, 1, 0] rfl ?_
  obtain ⟨k, h⟩ := h
  exact km_placeOf_wantedList_4 hE hm hF k _ _ _ h
/-! newRow -/
def wm_newRow_37 (post : MS → Int32 → Prop) (σ : MS) (v2 : Int32) (t1 : Int32) : Prop := wm_fail (fun (s1 : MS) => post s1 v2) σ t1
set_option maxRecDepth 20000 in
theorem km_newRow_37 {E : gEnv} {l : Launch} {D : va_G} {cl : List vw_C} {G : gAd} {post : MS → Int32 → Prop} (hE : gOK E cX13_newRow RX13 (some .int) 2) (hm : mOK E l D cl G (qI post) 7) (hF : gFin E) (σ : MS) (v2 : Int32) (t1 : Int32) (h : wm_newRow_37 post σ v2 t1) : GW E (mW G σ) 37 [(2, .int v2)] [.int t1, .ref (G.1 0)] := by
  unfold wm_newRow_37 at h
  have hN := hm.2.2.2.2.2.2.1
  refine m_callVv hE hm [.int t1] [] mc_fail (km_fail hm.2.2.2.2.2.2.2.2 h) (by decide) rfl rfl (Nat.le_of_ble_eq_true rfl) dX13_newRow_g1.2.2.2.2.2.2.2.1 (fun s1 h => ?_)
  refine r_iload_n hE 0 dX13_newRow_g1.2.2.2.2.2.2.2.2.1 rfl rfl ?_
  exact m_iret hE hm hF dX13_newRow_g1.2.2.2.2.2.2.2.2.2.1 h
def wm_newRow_24 (post : MS → Int32 → Prop) (σ : MS) (v2 : Int32) (v3 : Int64) : Prop := (((0 : Int32) ≤ (lg_cmp v3 (0 : Int64))) → (wm_newRow_37 post σ v2 (9 : Int32))) ∧ ((¬ ((0 : Int32) ≤ (lg_cmp v3 (0 : Int64)))) → (wm_newRow_37 post σ v2 (4 : Int32)))
set_option maxRecDepth 20000 in
theorem km_newRow_24 {E : gEnv} {l : Launch} {D : va_G} {cl : List vw_C} {G : gAd} {post : MS → Int32 → Prop} (hE : gOK E cX13_newRow RX13 (some .int) 2) (hm : mOK E l D cl G (qI post) 7) (hF : gFin E) (σ : MS) (v2 : Int32) (v3 : Int64) (h : wm_newRow_24 post σ v2 v3) : GW E (mW G σ) 24 [(0, .ref (G.1 0)), (2, .int v2), (3, .long v3)] [] := by
  unfold wm_newRow_24 at h
  have hN := hm.2.2.2.2.2.2.1
  refine r_aload_n hE 0 dX13_newRow_g0.2.2.2.2.2.2.2.2.2.2.2.2.2.2.2 rfl rfl ?_
  refine r_lload_n hE 2 dX13_newRow_g1.1 rfl rfl ?_
  refine r_lconst (v := (0 : Int64)) hE dX13_newRow_g1.2.1 (by decide) ?_
  refine r_lcmp hE dX13_newRow_g1.2.2.1 ?_
  refine r_if_ge hE 35 dX13_newRow_g1.2.2.2.1 (by decide) h (fun h => ?_) (fun h => ?_)
  · refine r_bipush (v := (9 : Int32)) hE dX13_newRow_g1.2.2.2.2.2.2.1 (by decide) ?_
    refine r_pick [1] rfl ?_
    exact km_newRow_37 hE hm hF _ _ _ h
  · refine r_iconst (v := (4 : Int32)) hE dX13_newRow_g1.2.2.2.2.1 (by decide) ?_
    refine r_goto hE 37 dX13_newRow_g1.2.2.2.2.2.1 (by decide) ?_
    refine r_pick [1] rfl ?_
    exact km_newRow_37 hE hm hF _ _ _ h
def wm_newRow_85 (post : MS → Int32 → Prop) : Nat → MS → Int32 → Int32 → Prop
  | 0, _, _, _ => False
  | n + 1, σ, v5, v6 => (((20 : Int32) ≤ v6) → (∀ s2 : MS, s2 = m_rows_s σ ((m_rows σ) + (1 : Int32)) → post s2 v5)) ∧ ((¬ ((20 : Int32) ≤ v6)) → (vp_in (((20 : Int32) * (m_rows σ)) + v6) 9600 ∧ (∀ s3 : MS, s3 = m_rowItem_s σ (((20 : Int32) * (m_rows σ)) + v6).toNatClampNeg (-1 : Int32) → ∀ x4 : Int32, x4 = v6 + (1 : Int32) → wm_newRow_85 post n s3 v5 x4)))
set_option maxRecDepth 20000 in
theorem km_newRow_85 {E : gEnv} {l : Launch} {D : va_G} {cl : List vw_C} {G : gAd} {post : MS → Int32 → Prop} (hE : gOK E cX13_newRow RX13 (some .int) 2) (hm : mOK E l D cl G (qI post) 7) (hF : gFin E) : ∀ (n : Nat) (σ : MS) (v5 : Int32) (v6 : Int32), wm_newRow_85 post n σ v5 v6 → GW E (mW G σ) 85 [(0, .ref (G.1 0)), (5, .int v5), (6, .int v6)] [] := by
  intro n
  induction n with
  | zero => intro σ v5 v6 h; exact h.elim
  | succ n ih =>
    intro σ v5 v6 h
    rw [wm_newRow_85] at h
    have hN := hm.2.2.2.2.2.2.1
    refine r_iload hE 2 dX13_newRow_g3.2.2.2.1 rfl ?_
    refine r_bipush (v := (20 : Int32)) hE dX13_newRow_g3.2.2.2.2.1 (by decide) ?_
    refine r_icmp_ge hE 114 dX13_newRow_g3.2.2.2.2.2.1 (by decide) h (fun h => ?_) (fun h => ?_)
    · refine r_aload_n hE 0 dX13_newRow_g4.2.2.1 rfl rfl ?_
      refine r_dup hE dX13_newRow_g4.2.2.2.1 rfl ?_
      refine mg_rows hE hm dX13_newRow_g4.2.2.2.2.1 ?_
      refine r_iconst (v := (1 : Int32)) hE dX13_newRow_g4.2.2.2.2.2.1 (by decide) ?_
      refine r_iadd hE dX13_newRow_g4.2.2.2.2.2.2.1 ?_
      refine mp_rows hE hm dX13_newRow_g4.2.2.2.2.2.2.2.1 h (fun s2 h => ?_)
      refine r_iload hE 1 dX13_newRow_g4.2.2.2.2.2.2.2.2.1 rfl ?_
      exact m_iret hE hm hF dX13_newRow_g4.2.2.2.2.2.2.2.2.2 h
    · refine r_aload_n hE 0 dX13_newRow_g3.2.2.2.2.2.2.1 rfl rfl ?_
      refine mg_rowItem hE hm dX13_newRow_g3.2.2.2.2.2.2.2.1 ?_
      refine r_bipush (v := (20 : Int32)) hE dX13_newRow_g3.2.2.2.2.2.2.2.2.1 (by decide) ?_
      refine r_aload_n hE 0 dX13_newRow_g3.2.2.2.2.2.2.2.2.2.1 rfl rfl ?_
      refine mg_rows hE hm dX13_newRow_g3.2.2.2.2.2.2.2.2.2.2.1 ?_
      refine r_imul hE dX13_newRow_g3.2.2.2.2.2.2.2.2.2.2.2.1 ?_
      refine r_iload hE 2 dX13_newRow_g3.2.2.2.2.2.2.2.2.2.2.2.2.1 rfl ?_
      refine r_iadd hE dX13_newRow_g3.2.2.2.2.2.2.2.2.2.2.2.2.2.1 ?_
      refine r_iconst (v := (-1 : Int32)) hE dX13_newRow_g3.2.2.2.2.2.2.2.2.2.2.2.2.2.2.1 (by decide) ?_
      obtain ⟨hi, h⟩ := h
      refine ms_rowItem hE hm dX13_newRow_g3.2.2.2.2.2.2.2.2.2.2.2.2.2.2.2 hi h (fun s3 h => ?_)
      obtain ⟨x4, ex4⟩ : ∃ z : Int32, z = v6 + (1 : Int32) := ⟨_, rfl⟩
      have h := h x4 ex4
      refine r_iinc (v := x4) hE [(6, .int x4), (0, .ref (G.1 0)), (5, .int v5)] 2 dX13_newRow_g4.1 rfl (by rw [ex4]; rfl) hN (by decide) rfl ?_
      refine r_goto hE 85 dX13_newRow_g4.2.1 (by decide) ?_
      refine r_pick [1, 2, 0] rfl ?_
      exact ih _ _ _ h
def wm_newRow (post : MS → Int32 → Prop) (σ : MS) (a1 : Int32) (a2 : Int32) : Prop := vp_in ((7 : Int32) * a2) 3360 ∧ (∀ x5 : Int64, x5 = m_up σ ((7 : Int32) * a2).toNatClampNeg → (((lg_cmp x5 (0 : Int64)) < (0 : Int32)) → (wm_newRow_24 post σ a2 x5)) ∧ ((¬ ((lg_cmp x5 (0 : Int64)) < (0 : Int32))) → ((((lg_cmp x5 (20 : Int64)) ≤ (0 : Int32)) → (wm_newThing (fun (s6 : MS) (r7 : Int32) => vp_in r7 480 ∧ (∀ s8 : MS, s8 = m_rowOf_s s6 r7.toNatClampNeg (m_rows s6) → vp_in (m_rows s8) 480 ∧ (∀ s9 : MS, s9 = m_rowSort_s s8 (m_rows s8).toNatClampNeg a1 → vp_in (m_rows s9) 480 ∧ (∀ s10 : MS, s10 = m_rowSize_s s9 (m_rows s9).toNatClampNeg (x5.toInt32) → ∃ k : Nat, wm_newRow_85 post k s10 r7 (0 : Int32))))) σ (6 : Int32))) ∧ ((¬ ((lg_cmp x5 (20 : Int64)) ≤ (0 : Int32))) → (wm_newRow_24 post σ a2 x5)))))
set_option maxRecDepth 20000 in
theorem km_newRow {l : Launch} {D : va_G} {cl : List vw_C} {G : gAd} {post : MS → Int32 → Prop} (hcl : mC cl) {σ : MS} {a1 : Int32} {a2 : Int32} (h : wm_newRow post σ a1 a2) : mMet l D cl G yX13_newRow cX13_newRow 7 (some .int) 2 [.ref (G.1 0), .int a1, .int a2] σ (qI post) := by
  unfold wm_newRow at h
  refine m_enter hcl (by decide +kernel) rfl [(0, .ref (G.1 0)), (1, .int a1), (2, .int a2)] rfl (Nat.le_of_ble_eq_true rfl) ?_
  intro E hE hm hF
  have hN := hm.2.2.2.2.2.2.1
  refine r_aload_n hE 0 dX13_newRow_g0.1 rfl rfl ?_
  refine mg_up hE hm dX13_newRow_g0.2.1 ?_
  refine r_bipush (v := (7 : Int32)) hE dX13_newRow_g0.2.2.1 (by decide) ?_
  refine r_iload_n hE 2 dX13_newRow_g0.2.2.2.1 rfl rfl ?_
  refine r_imul hE dX13_newRow_g0.2.2.2.2.1 ?_
  obtain ⟨hi, h⟩ := h
  refine ml_up hE hm dX13_newRow_g0.2.2.2.2.2.1 hi ?_
  refine r_topl h (fun x5 ex5 h => ?_)
  refine r_lstore_n hE [(3, .long x5), (0, .ref (G.1 0)), (1, .int a1), (2, .int a2)] dX13_newRow_g0.2.2.2.2.2.2.1 rfl hN (by decide) rfl ?_
  refine r_lload_n hE 0 dX13_newRow_g0.2.2.2.2.2.2.2.1 rfl rfl ?_
  refine r_lconst (v := (0 : Int64)) hE dX13_newRow_g0.2.2.2.2.2.2.2.2.1 (by decide) ?_
  refine r_lcmp hE dX13_newRow_g0.2.2.2.2.2.2.2.2.2.1 ?_
  refine r_if_lt hE 24 dX13_newRow_g0.2.2.2.2.2.2.2.2.2.2.1 (by decide) h (fun h => ?_) (fun h => ?_)
  · refine r_pick [1, 3, 0] rfl ?_
    exact km_newRow_24 hE hm hF _ _ _ h
  · refine r_lload_n hE 0 dX13_newRow_g0.2.2.2.2.2.2.2.2.2.2.2.1 rfl rfl ?_
    refine r_ldc2 (v := (20 : Int64)) hE dX13_newRow_g0.2.2.2.2.2.2.2.2.2.2.2.2.1 (gTb_10 (List.mem_of_getElem? (i := 188) rfl) rfl) ?_
    refine r_lcmp hE dX13_newRow_g0.2.2.2.2.2.2.2.2.2.2.2.2.2.1 ?_
    refine r_if_le hE 42 dX13_newRow_g0.2.2.2.2.2.2.2.2.2.2.2.2.2.2.1 (by decide) h (fun h => ?_) (fun h => ?_)
    · refine r_aload_n hE 1 dX13_newRow_g1.2.2.2.2.2.2.2.2.2.2.1 rfl rfl ?_
      refine r_bipush (v := (6 : Int32)) hE dX13_newRow_g1.2.2.2.2.2.2.2.2.2.2.2.1 (by decide) ?_
      refine m_callVi hE hm [.int (6 : Int32)] [] mc_newThing (km_newThing hm.2.2.2.2.2.2.2.2 h) (by decide) rfl rfl (Nat.le_of_ble_eq_true rfl) dX13_newRow_g1.2.2.2.2.2.2.2.2.2.2.2.2.1 (fun s6 r7 h => ?_)
      refine r_istore hE [(5, .int r7), (3, .long x5), (0, .ref (G.1 0)), (1, .int a1), (2, .int a2)] dX13_newRow_g1.2.2.2.2.2.2.2.2.2.2.2.2.2.1 hN (by decide) rfl ?_
      refine r_aload_n hE 2 dX13_newRow_g1.2.2.2.2.2.2.2.2.2.2.2.2.2.2.1 rfl rfl ?_
      refine mg_rowOf hE hm dX13_newRow_g1.2.2.2.2.2.2.2.2.2.2.2.2.2.2.2 ?_
      refine r_iload hE 0 dX13_newRow_g2.1 rfl ?_
      refine r_aload_n hE 2 dX13_newRow_g2.2.1 rfl rfl ?_
      refine mg_rows hE hm dX13_newRow_g2.2.2.1 ?_
      obtain ⟨hi, h⟩ := h
      refine ms_rowOf hE hm dX13_newRow_g2.2.2.2.1 hi h (fun s8 h => ?_)
      refine r_aload_n hE 2 dX13_newRow_g2.2.2.2.2.1 rfl rfl ?_
      refine mg_rowSort hE hm dX13_newRow_g2.2.2.2.2.2.1 ?_
      refine r_aload_n hE 2 dX13_newRow_g2.2.2.2.2.2.2.1 rfl rfl ?_
      refine mg_rows hE hm dX13_newRow_g2.2.2.2.2.2.2.2.1 ?_
      refine r_iload_n hE 3 dX13_newRow_g2.2.2.2.2.2.2.2.2.1 rfl rfl ?_
      obtain ⟨hi, h⟩ := h
      refine ms_rowSort hE hm dX13_newRow_g2.2.2.2.2.2.2.2.2.2.1 hi h (fun s9 h => ?_)
      refine r_aload_n hE 2 dX13_newRow_g2.2.2.2.2.2.2.2.2.2.2.1 rfl rfl ?_
      refine mg_rowSize hE hm dX13_newRow_g2.2.2.2.2.2.2.2.2.2.2.2.1 ?_
      refine r_aload_n hE 2 dX13_newRow_g2.2.2.2.2.2.2.2.2.2.2.2.2.1 rfl rfl ?_
      refine mg_rows hE hm dX13_newRow_g2.2.2.2.2.2.2.2.2.2.2.2.2.2.1 ?_
      refine r_lload_n hE 1 dX13_newRow_g2.2.2.2.2.2.2.2.2.2.2.2.2.2.2.1 rfl rfl ?_
      refine r_l2i hE dX13_newRow_g2.2.2.2.2.2.2.2.2.2.2.2.2.2.2.2 ?_
      obtain ⟨hi, h⟩ := h
      refine ms_rowSize hE hm dX13_newRow_g3.1 hi h (fun s10 h => ?_)
      refine r_iconst (v := (0 : Int32)) hE dX13_newRow_g3.2.1 (by decide) ?_
      refine r_istore hE [(6, .int (0 : Int32)), (5, .int r7), (3, .long x5), (0, .ref (G.1 0)), (1, .int a1), (2, .int a2)] dX13_newRow_g3.2.2.1 hN (by decide) rfl ?_
      refine r_pick [3, 1, 0] rfl ?_
      obtain ⟨k, h⟩ := h
      exact km_newRow_85 hE hm hF k _ _ _ h
    · refine r_pick [1, 3, 0] rfl ?_
      exact km_newRow_24 hE hm hF _ _ _ h
/-! number -/
def wm_number (post : MS → Int32 → Prop) (σ : MS) (a1 : Int64) (a3 : Int64) (a5 : Int32) : Prop := wm_newThing (fun (s1 : MS) (r2 : Int32) => vp_in ((7 : Int32) * r2) 3360 ∧ (∀ s3 : MS, s3 = m_up_s s1 ((7 : Int32) * r2).toNatClampNeg a1 → vp_in ((7 : Int32) * r2) 3360 ∧ (∀ s4 : MS, s4 = m_low_s s3 ((7 : Int32) * r2).toNatClampNeg a3 → vp_in r2 480 ∧ (∀ s5 : MS, s5 = m_lean_s s4 r2.toNatClampNeg a5 → post s5 r2)))) σ (0 : Int32)
set_option maxRecDepth 20000 in
theorem km_number {l : Launch} {D : va_G} {cl : List vw_C} {G : gAd} {post : MS → Int32 → Prop} (hcl : mC cl) {σ : MS} {a1 : Int64} {a3 : Int64} {a5 : Int32} (h : wm_number post σ a1 a3 a5) : mMet l D cl G yX13_number cX13_number 7 (some .int) 2 [.ref (G.1 0), .long a1, .long a3, .int a5] σ (qI post) := by
  unfold wm_number at h
  refine m_enter hcl (by decide +kernel) rfl [(0, .ref (G.1 0)), (1, .long a1), (3, .long a3), (5, .int a5)] rfl (Nat.le_of_ble_eq_true rfl) ?_
  intro E hE hm hF
  have hN := hm.2.2.2.2.2.2.1
  refine r_aload_n hE 0 dX13_number_g0.1 rfl rfl ?_
  refine r_iconst (v := (0 : Int32)) hE dX13_number_g0.2.1 (by decide) ?_
  refine m_callVi hE hm [.int (0 : Int32)] [] mc_newThing (km_newThing hm.2.2.2.2.2.2.2.2 h) (by decide) rfl rfl (Nat.le_of_ble_eq_true rfl) dX13_number_g0.2.2.1 (fun s1 r2 h => ?_)
  refine r_istore hE [(6, .int r2), (0, .ref (G.1 0)), (1, .long a1), (3, .long a3), (5, .int a5)] dX13_number_g0.2.2.2.1 hN (by decide) rfl ?_
  refine r_aload_n hE 1 dX13_number_g0.2.2.2.2.1 rfl rfl ?_
  refine mg_up hE hm dX13_number_g0.2.2.2.2.2.1 ?_
  refine r_bipush (v := (7 : Int32)) hE dX13_number_g0.2.2.2.2.2.2.1 (by decide) ?_
  refine r_iload hE 0 dX13_number_g0.2.2.2.2.2.2.2.1 rfl ?_
  refine r_imul hE dX13_number_g0.2.2.2.2.2.2.2.2.1 ?_
  refine r_lload_n hE 2 dX13_number_g0.2.2.2.2.2.2.2.2.2.1 rfl rfl ?_
  obtain ⟨hi, h⟩ := h
  refine ms_up hE hm dX13_number_g0.2.2.2.2.2.2.2.2.2.2.1 hi h (fun s3 h => ?_)
  refine r_aload_n hE 1 dX13_number_g0.2.2.2.2.2.2.2.2.2.2.2.1 rfl rfl ?_
  refine mg_low hE hm dX13_number_g0.2.2.2.2.2.2.2.2.2.2.2.2.1 ?_
  refine r_bipush (v := (7 : Int32)) hE dX13_number_g0.2.2.2.2.2.2.2.2.2.2.2.2.2.1 (by decide) ?_
  refine r_iload hE 0 dX13_number_g0.2.2.2.2.2.2.2.2.2.2.2.2.2.2.1 rfl ?_
  refine r_imul hE dX13_number_g0.2.2.2.2.2.2.2.2.2.2.2.2.2.2.2 ?_
  refine r_lload_n hE 3 dX13_number_g1.1 rfl rfl ?_
  obtain ⟨hi, h⟩ := h
  refine ms_low hE hm dX13_number_g1.2.1 hi h (fun s4 h => ?_)
  refine r_aload_n hE 1 dX13_number_g1.2.2.1 rfl rfl ?_
  refine mg_lean hE hm dX13_number_g1.2.2.2.1 ?_
  refine r_iload hE 0 dX13_number_g1.2.2.2.2.1 rfl ?_
  refine r_iload hE 4 dX13_number_g1.2.2.2.2.2.1 rfl ?_
  obtain ⟨hi, h⟩ := h
  refine ms_lean hE hm dX13_number_g1.2.2.2.2.2.2.1 hi h (fun s5 h => ?_)
  refine r_iload hE 0 dX13_number_g1.2.2.2.2.2.2.2.1 rfl ?_
  exact m_iret hE hm hF dX13_number_g1.2.2.2.2.2.2.2.2 h
/-! told -/
def wm_told (post : MS → Int32 → Prop) (σ : MS) : Prop := ∀ s1 : MS, s1 = m_piled_s σ ((m_piled σ) - (1 : Int32)) → vp_in (m_piled s1) 40 ∧ (vp_in (m_piled s1) 40 ∧ (wm_number (fun (s2 : MS) (r3 : Int32) => post s2 r3) s1 (m_top s1 (m_piled s1).toNatClampNeg) (m_bottom s1 (m_piled s1).toNatClampNeg) (0 : Int32)))
set_option maxRecDepth 20000 in
theorem km_told {l : Launch} {D : va_G} {cl : List vw_C} {G : gAd} {post : MS → Int32 → Prop} (hcl : mC cl) {σ : MS} (h : wm_told post σ) : mMet l D cl G yX13_told cX13_told 1 (some .int) 3 [.ref (G.1 0)] σ (qI post) := by
  unfold wm_told at h
  refine m_enter hcl (by decide +kernel) rfl [(0, .ref (G.1 0))] rfl (Nat.le_of_ble_eq_true rfl) ?_
  intro E hE hm hF
  have hN := hm.2.2.2.2.2.2.1
  refine r_aload_n hE 0 dX13_told_g0.1 rfl rfl ?_
  refine r_dup hE dX13_told_g0.2.1 rfl ?_
  refine mg_piled hE hm dX13_told_g0.2.2.1 ?_
  refine r_iconst (v := (1 : Int32)) hE dX13_told_g0.2.2.2.1 (by decide) ?_
  refine r_isub hE dX13_told_g0.2.2.2.2.1 ?_
  refine mp_piled hE hm dX13_told_g0.2.2.2.2.2.1 h (fun s1 h => ?_)
  refine r_aload_n hE 0 dX13_told_g0.2.2.2.2.2.2.1 rfl rfl ?_
  refine r_aload_n hE 0 dX13_told_g0.2.2.2.2.2.2.2.1 rfl rfl ?_
  refine mg_top hE hm dX13_told_g0.2.2.2.2.2.2.2.2.1 ?_
  refine r_aload_n hE 0 dX13_told_g0.2.2.2.2.2.2.2.2.2.1 rfl rfl ?_
  refine mg_piled hE hm dX13_told_g0.2.2.2.2.2.2.2.2.2.2.1 ?_
  obtain ⟨hi, h⟩ := h
  refine ml_top hE hm dX13_told_g0.2.2.2.2.2.2.2.2.2.2.2.1 hi ?_
  refine r_aload_n hE 0 dX13_told_g0.2.2.2.2.2.2.2.2.2.2.2.2.1 rfl rfl ?_
  refine mg_bottom hE hm dX13_told_g0.2.2.2.2.2.2.2.2.2.2.2.2.2.1 ?_
  refine r_aload_n hE 0 dX13_told_g0.2.2.2.2.2.2.2.2.2.2.2.2.2.2.1 rfl rfl ?_
  refine mg_piled hE hm dX13_told_g0.2.2.2.2.2.2.2.2.2.2.2.2.2.2.2 ?_
  obtain ⟨hi, h⟩ := h
  refine ml_bottom hE hm dX13_told_g1.1 hi ?_
  refine r_iconst (v := (0 : Int32)) hE dX13_told_g1.2.1 (by decide) ?_
  refine m_callVi hE hm [.long (m_top s1 (m_piled s1).toNatClampNeg), .long (m_bottom s1 (m_piled s1).toNatClampNeg), .int (0 : Int32)] [] mc_number (km_number hm.2.2.2.2.2.2.2.2 h) (by decide) rfl rfl (Nat.le_of_ble_eq_true rfl) dX13_told_g1.2.2.1 (fun s2 r3 h => ?_)
  exact m_iret hE hm hF dX13_told_g1.2.2.2 h
/-! yes -/
def wm_yes_10 (post : MS → Int32 → Prop) (σ : MS) (t1 : Int64) : Prop := wm_number (fun (s1 : MS) (r2 : Int32) => post s1 r2) σ t1 (1 : Int64) (0 : Int32)
set_option maxRecDepth 20000 in
theorem km_yes_10 {E : gEnv} {l : Launch} {D : va_G} {cl : List vw_C} {G : gAd} {post : MS → Int32 → Prop} (hE : gOK E cX13_yes RX13 (some .int) 3) (hm : mOK E l D cl G (qI post) 2) (hF : gFin E) (σ : MS) (t1 : Int64) (h : wm_yes_10 post σ t1) : GW E (mW G σ) 10 [] [.long t1, .ref (G.1 0)] := by
  unfold wm_yes_10 at h
  have hN := hm.2.2.2.2.2.2.1
  refine r_lconst (v := (1 : Int64)) hE dX13_yes_g0.2.2.2.2.2.2.1 (by decide) ?_
  refine r_iconst (v := (0 : Int32)) hE dX13_yes_g0.2.2.2.2.2.2.2.1 (by decide) ?_
  refine m_callVi hE hm [.long t1, .long (1 : Int64), .int (0 : Int32)] [] mc_number (km_number hm.2.2.2.2.2.2.2.2 h) (by decide) rfl rfl (Nat.le_of_ble_eq_true rfl) dX13_yes_g0.2.2.2.2.2.2.2.2.1 (fun s1 r2 h => ?_)
  exact m_iret hE hm hF dX13_yes_g0.2.2.2.2.2.2.2.2.2 h
def wm_yes (post : MS → Int32 → Prop) (σ : MS) (a1 : Int32) : Prop := ((a1 = (0 : Int32)) → (wm_yes_10 post σ (0 : Int64))) ∧ ((¬ (a1 = (0 : Int32))) → (wm_yes_10 post σ (1 : Int64)))
set_option maxRecDepth 20000 in
theorem km_yes {l : Launch} {D : va_G} {cl : List vw_C} {G : gAd} {post : MS → Int32 → Prop} (hcl : mC cl) {σ : MS} {a1 : Int32} (h : wm_yes post σ a1) : mMet l D cl G yX13_yes cX13_yes 2 (some .int) 3 [.ref (G.1 0), .int a1] σ (qI post) := by
  unfold wm_yes at h
  refine m_enter hcl (by decide +kernel) rfl [(0, .ref (G.1 0)), (1, .int a1)] rfl (Nat.le_of_ble_eq_true rfl) ?_
  intro E hE hm hF
  have hN := hm.2.2.2.2.2.2.1
  refine r_aload_n hE 0 dX13_yes_g0.1 rfl rfl ?_
  refine r_iload_n hE 1 dX13_yes_g0.2.1 rfl rfl ?_
  refine r_if_eq hE 9 dX13_yes_g0.2.2.1 (by decide) h (fun h => ?_) (fun h => ?_)
  · refine r_lconst (v := (0 : Int64)) hE dX13_yes_g0.2.2.2.2.2.1 (by decide) ?_
    refine r_pick [] rfl ?_
    exact km_yes_10 hE hm hF _ _ h
  · refine r_lconst (v := (1 : Int64)) hE dX13_yes_g0.2.2.2.1 (by decide) ?_
    refine r_goto hE 10 dX13_yes_g0.2.2.2.2.1 (by decide) ?_
    refine r_pick [] rfl ?_
    exact km_yes_10 hE hm hF _ _ h
/-! toolOne -/
def wm_toolOne_52 (post : MS → Int32 → Prop) (σ : MS) (v1 : Int32) (v2 : Int32) : Prop := wm_part (fun (s1 : MS) => wm_told (fun (s2 : MS) (r3 : Int32) => post s2 r3) s1) σ v2 v1
set_option maxRecDepth 20000 in
theorem km_toolOne_52 {E : gEnv} {l : Launch} {D : va_G} {cl : List vw_C} {G : gAd} {post : MS → Int32 → Prop} (hE : gOK E cX13_toolOne RX13 (some .int) 7) (hm : mOK E l D cl G (qI post) 3) (hF : gFin E) (σ : MS) (v1 : Int32) (v2 : Int32) (h : wm_toolOne_52 post σ v1 v2) : GW E (mW G σ) 52 [(0, .ref (G.1 0)), (1, .int v1), (2, .int v2)] [] := by
  unfold wm_toolOne_52 at h
  have hN := hm.2.2.2.2.2.2.1
  refine r_aload_n hE 0 dX13_toolOne_g0.2.2.1 rfl rfl ?_
  refine r_iload_n hE 2 dX13_toolOne_g0.2.2.2.1 rfl rfl ?_
  refine r_iload_n hE 1 dX13_toolOne_g0.2.2.2.2.1 rfl rfl ?_
  refine m_callVv hE hm [.int v2, .int v1] [] mc_part (km_part hm.2.2.2.2.2.2.2.2 h) (by decide) rfl rfl (Nat.le_of_ble_eq_true rfl) dX13_toolOne_g0.2.2.2.2.2.1 (fun s1 h => ?_)
  refine r_aload_n hE 0 dX13_toolOne_g0.2.2.2.2.2.2.1 rfl rfl ?_
  refine m_callVi hE hm [] [] mc_told (km_told hm.2.2.2.2.2.2.2.2 h) (by decide) rfl rfl (Nat.le_of_ble_eq_true rfl) dX13_toolOne_g0.2.2.2.2.2.2.2.1 (fun s2 r3 h => ?_)
  exact m_iret hE hm hF dX13_toolOne_g0.2.2.2.2.2.2.2.2.1 h
def wm_toolOne_140 (post : MS → Int32 → Prop) (σ : MS) (t1 : Int32) : Prop := wm_yes (fun (s4 : MS) (r5 : Int32) => post s4 r5) σ t1
set_option maxRecDepth 20000 in
theorem km_toolOne_140 {E : gEnv} {l : Launch} {D : va_G} {cl : List vw_C} {G : gAd} {post : MS → Int32 → Prop} (hE : gOK E cX13_toolOne RX13 (some .int) 7) (hm : mOK E l D cl G (qI post) 3) (hF : gFin E) (σ : MS) (t1 : Int32) (h : wm_toolOne_140 post σ t1) : GW E (mW G σ) 140 [] [.int t1, .ref (G.1 0)] := by
  unfold wm_toolOne_140 at h
  have hN := hm.2.2.2.2.2.2.1
  refine m_callVi hE hm [.int t1] [] mc_yes (km_yes hm.2.2.2.2.2.2.2.2 h) (by decide) rfl rfl (Nat.le_of_ble_eq_true rfl) dX13_toolOne_g3.2.2.2.2.2.2.2.2.2.2.1 (fun s4 r5 h => ?_)
  exact m_iret hE hm hF dX13_toolOne_g3.2.2.2.2.2.2.2.2.2.2.2.1 h
def wm_toolOne (post : MS → Int32 → Prop) (σ : MS) (a1 : Int32) (a2 : Int32) : Prop := (a1 = (0 : Int32) → (wm_toolOne_52 post σ a1 a2)) ∧ (¬ a1 = (0 : Int32) → ((a1 = (1 : Int32) → (wm_toolOne_52 post σ a1 a2)) ∧ (¬ a1 = (1 : Int32) → ((a1 = (2 : Int32) → (wm_part (fun (s6 : MS) => wm_negative (fun (s7 : MS) => wm_part (fun (s8 : MS) => wm_by (fun (s9 : MS) => wm_told (fun (s10 : MS) (r11 : Int32) => post s10 r11) s9) s8) s7 a2 (1 : Int32)) s6) σ a2 (0 : Int32))) ∧ (¬ a1 = (2 : Int32) → ((a1 = (3 : Int32) → (wm_centre (fun (s12 : MS) (r13 : Int32) => post s12 r13) σ a2)) ∧ (¬ a1 = (3 : Int32) → ((a1 = (4 : Int32) → (wm_part (fun (s14 : MS) => wm_told (fun (s15 : MS) (r16 : Int32) => post s15 r16) s14) σ a2 (2 : Int32))) ∧ (¬ a1 = (4 : Int32) → ((a1 = (5 : Int32) → (wm_half (fun (s17 : MS) (r18 : Int32) => post s17 r18) σ a2)) ∧ (¬ a1 = (5 : Int32) → ((a1 = (6 : Int32) → (vp_in a2 480 ∧ (vp_in (m_rowOf σ a2.toNatClampNeg) 480 ∧ (wm_number (fun (s19 : MS) (r20 : Int32) => post s19 r20) σ ((m_rowSize σ (m_rowOf σ a2.toNatClampNeg).toNatClampNeg).toInt64) (1 : Int64) (0 : Int32))))) ∧ (¬ a1 = (6 : Int32) → ((a1 = (7 : Int32) → ((((0 : Int32) ≤ a2) → (wm_toolOne_140 post σ (0 : Int32))) ∧ ((¬ ((0 : Int32) ≤ a2)) → (wm_toolOne_140 post σ (1 : Int32))))) ∧ (¬ a1 = (7 : Int32) → ((a1 = (8 : Int32) → (vp_in a2 480 ∧ (wm_number (fun (s21 : MS) (r22 : Int32) => post s21 r22) σ ((m_sort σ a2.toNatClampNeg).toInt64) (1 : Int64) (0 : Int32)))) ∧ (¬ a1 = (8 : Int32) → (wm_newRow (fun (s23 : MS) (r24 : Int32) => post s23 r24) σ (a1 - (9 : Int32)) a2))))))))))))))))))
set_option maxRecDepth 20000 in
theorem km_toolOne {l : Launch} {D : va_G} {cl : List vw_C} {G : gAd} {post : MS → Int32 → Prop} (hcl : mC cl) {σ : MS} {a1 : Int32} {a2 : Int32} (h : wm_toolOne post σ a1 a2) : mMet l D cl G yX13_toolOne cX13_toolOne 3 (some .int) 7 [.ref (G.1 0), .int a1, .int a2] σ (qI post) := by
  unfold wm_toolOne at h
  refine m_enter hcl (by decide +kernel) rfl [(0, .ref (G.1 0)), (1, .int a1), (2, .int a2)] rfl (Nat.le_of_ble_eq_true rfl) ?_
  intro E hE hm hF
  have hN := hm.2.2.2.2.2.2.1
  refine r_iload_n hE 1 dX13_toolOne_g0.1 rfl rfl ?_
  refine r_case (0 : Int32) h (fun q0 h => ?_) (fun q0 h => ?_)
  · refine r_tableAt (off := 51) hE (0 : Int32) 52 dX13_toolOne_g0.2.1 q0 (by decide) (by decide) (by decide) (by decide) ?_
    exact km_toolOne_52 hE hm hF _ _ _ h
  · refine r_case (1 : Int32) h (fun q1 h => ?_) (fun q1 h => ?_)
    · refine r_tableAt (off := 51) hE (1 : Int32) 52 dX13_toolOne_g0.2.1 q1 (by decide) (by decide) (by decide) (by decide) ?_
      exact km_toolOne_52 hE hm hF _ _ _ h
    · refine r_case (2 : Int32) h (fun q2 h => ?_) (fun q2 h => ?_)
      · refine r_tableAt (off := 62) hE (2 : Int32) 63 dX13_toolOne_g0.2.1 q2 (by decide) (by decide) (by decide) (by decide) ?_
        refine r_aload_n hE 0 dX13_toolOne_g0.2.2.2.2.2.2.2.2.2.1 rfl rfl ?_
        refine r_iload_n hE 2 dX13_toolOne_g0.2.2.2.2.2.2.2.2.2.2.1 rfl rfl ?_
        refine r_iconst (v := (0 : Int32)) hE dX13_toolOne_g0.2.2.2.2.2.2.2.2.2.2.2.1 (by decide) ?_
        refine m_callVv hE hm [.int a2, .int (0 : Int32)] [] mc_part (km_part hm.2.2.2.2.2.2.2.2 h) (by decide) rfl rfl (Nat.le_of_ble_eq_true rfl) dX13_toolOne_g0.2.2.2.2.2.2.2.2.2.2.2.2.1 (fun s6 h => ?_)
        refine r_aload_n hE 0 dX13_toolOne_g0.2.2.2.2.2.2.2.2.2.2.2.2.2.1 rfl rfl ?_
        refine m_callVv hE hm [] [] mc_negative (km_negative hm.2.2.2.2.2.2.2.2 h) (by decide) rfl rfl (Nat.le_of_ble_eq_true rfl) dX13_toolOne_g0.2.2.2.2.2.2.2.2.2.2.2.2.2.2.1 (fun s7 h => ?_)
        refine r_aload_n hE 0 dX13_toolOne_g0.2.2.2.2.2.2.2.2.2.2.2.2.2.2.2 rfl rfl ?_
        refine r_iload_n hE 2 dX13_toolOne_g1.1 rfl rfl ?_
        refine r_iconst (v := (1 : Int32)) hE dX13_toolOne_g1.2.1 (by decide) ?_
        refine m_callVv hE hm [.int a2, .int (1 : Int32)] [] mc_part (km_part hm.2.2.2.2.2.2.2.2 h) (by decide) rfl rfl (Nat.le_of_ble_eq_true rfl) dX13_toolOne_g1.2.2.1 (fun s8 h => ?_)
        refine r_aload_n hE 0 dX13_toolOne_g1.2.2.2.1 rfl rfl ?_
        refine m_callVv hE hm [] [] mc_by (km_by hm.2.2.2.2.2.2.2.2 h) (by decide) rfl rfl (Nat.le_of_ble_eq_true rfl) dX13_toolOne_g1.2.2.2.2.1 (fun s9 h => ?_)
        refine r_aload_n hE 0 dX13_toolOne_g1.2.2.2.2.2.1 rfl rfl ?_
        refine m_callVi hE hm [] [] mc_told (km_told hm.2.2.2.2.2.2.2.2 h) (by decide) rfl rfl (Nat.le_of_ble_eq_true rfl) dX13_toolOne_g1.2.2.2.2.2.2.1 (fun s10 r11 h => ?_)
        exact m_iret hE hm hF dX13_toolOne_g1.2.2.2.2.2.2.2.1 h
      · refine r_case (3 : Int32) h (fun q3 h => ?_) (fun q3 h => ?_)
        · refine r_tableAt (off := 87) hE (3 : Int32) 88 dX13_toolOne_g0.2.1 q3 (by decide) (by decide) (by decide) (by decide) ?_
          refine r_aload_n hE 0 dX13_toolOne_g1.2.2.2.2.2.2.2.2.1 rfl rfl ?_
          refine r_iload_n hE 2 dX13_toolOne_g1.2.2.2.2.2.2.2.2.2.1 rfl rfl ?_
          refine m_callVi hE hm [.int a2] [] mc_centre (km_centre hm.2.2.2.2.2.2.2.2 h) (by decide) rfl rfl (Nat.le_of_ble_eq_true rfl) dX13_toolOne_g1.2.2.2.2.2.2.2.2.2.2.1 (fun s12 r13 h => ?_)
          exact m_iret hE hm hF dX13_toolOne_g1.2.2.2.2.2.2.2.2.2.2.2.1 h
        · refine r_case (4 : Int32) h (fun q4 h => ?_) (fun q4 h => ?_)
          · refine r_tableAt (off := 93) hE (4 : Int32) 94 dX13_toolOne_g0.2.1 q4 (by decide) (by decide) (by decide) (by decide) ?_
            refine r_aload_n hE 0 dX13_toolOne_g1.2.2.2.2.2.2.2.2.2.2.2.2.1 rfl rfl ?_
            refine r_iload_n hE 2 dX13_toolOne_g1.2.2.2.2.2.2.2.2.2.2.2.2.2.1 rfl rfl ?_
            refine r_iconst (v := (2 : Int32)) hE dX13_toolOne_g1.2.2.2.2.2.2.2.2.2.2.2.2.2.2.1 (by decide) ?_
            refine m_callVv hE hm [.int a2, .int (2 : Int32)] [] mc_part (km_part hm.2.2.2.2.2.2.2.2 h) (by decide) rfl rfl (Nat.le_of_ble_eq_true rfl) dX13_toolOne_g1.2.2.2.2.2.2.2.2.2.2.2.2.2.2.2 (fun s14 h => ?_)
            refine r_aload_n hE 0 dX13_toolOne_g2.1 rfl rfl ?_
            refine m_callVi hE hm [] [] mc_told (km_told hm.2.2.2.2.2.2.2.2 h) (by decide) rfl rfl (Nat.le_of_ble_eq_true rfl) dX13_toolOne_g2.2.1 (fun s15 r16 h => ?_)
            exact m_iret hE hm hF dX13_toolOne_g2.2.2.1 h
          · refine r_case (5 : Int32) h (fun q5 h => ?_) (fun q5 h => ?_)
            · refine r_tableAt (off := 104) hE (5 : Int32) 105 dX13_toolOne_g0.2.1 q5 (by decide) (by decide) (by decide) (by decide) ?_
              refine r_aload_n hE 0 dX13_toolOne_g2.2.2.2.1 rfl rfl ?_
              refine r_iload_n hE 2 dX13_toolOne_g2.2.2.2.2.1 rfl rfl ?_
              refine m_callVi hE hm [.int a2] [] mc_half (km_half hm.2.2.2.2.2.2.2.2 h) (by decide) rfl rfl (Nat.le_of_ble_eq_true rfl) dX13_toolOne_g2.2.2.2.2.2.1 (fun s17 r18 h => ?_)
              exact m_iret hE hm hF dX13_toolOne_g2.2.2.2.2.2.2.1 h
            · refine r_case (6 : Int32) h (fun q6 h => ?_) (fun q6 h => ?_)
              · refine r_tableAt (off := 110) hE (6 : Int32) 111 dX13_toolOne_g0.2.1 q6 (by decide) (by decide) (by decide) (by decide) ?_
                refine r_aload_n hE 0 dX13_toolOne_g2.2.2.2.2.2.2.2.1 rfl rfl ?_
                refine r_aload_n hE 0 dX13_toolOne_g2.2.2.2.2.2.2.2.2.1 rfl rfl ?_
                refine mg_rowSize hE hm dX13_toolOne_g2.2.2.2.2.2.2.2.2.2.1 ?_
                refine r_aload_n hE 0 dX13_toolOne_g2.2.2.2.2.2.2.2.2.2.2.1 rfl rfl ?_
                refine mg_rowOf hE hm dX13_toolOne_g2.2.2.2.2.2.2.2.2.2.2.2.1 ?_
                refine r_iload_n hE 2 dX13_toolOne_g2.2.2.2.2.2.2.2.2.2.2.2.2.1 rfl rfl ?_
                obtain ⟨hi, h⟩ := h
                refine ml_rowOf hE hm dX13_toolOne_g2.2.2.2.2.2.2.2.2.2.2.2.2.2.1 hi ?_
                obtain ⟨hi, h⟩ := h
                refine ml_rowSize hE hm dX13_toolOne_g2.2.2.2.2.2.2.2.2.2.2.2.2.2.2.1 hi ?_
                refine r_i2l hE dX13_toolOne_g2.2.2.2.2.2.2.2.2.2.2.2.2.2.2.2 ?_
                refine r_lconst (v := (1 : Int64)) hE dX13_toolOne_g3.1 (by decide) ?_
                refine r_iconst (v := (0 : Int32)) hE dX13_toolOne_g3.2.1 (by decide) ?_
                refine m_callVi hE hm [.long ((m_rowSize σ (m_rowOf σ a2.toNatClampNeg).toNatClampNeg).toInt64), .long (1 : Int64), .int (0 : Int32)] [] mc_number (km_number hm.2.2.2.2.2.2.2.2 h) (by decide) rfl rfl (Nat.le_of_ble_eq_true rfl) dX13_toolOne_g3.2.2.1 (fun s19 r20 h => ?_)
                exact m_iret hE hm hF dX13_toolOne_g3.2.2.2.1 h
              · refine r_case (7 : Int32) h (fun q7 h => ?_) (fun q7 h => ?_)
                · refine r_tableAt (off := 129) hE (7 : Int32) 130 dX13_toolOne_g0.2.1 q7 (by decide) (by decide) (by decide) (by decide) ?_
                  refine r_aload_n hE 0 dX13_toolOne_g3.2.2.2.2.1 rfl rfl ?_
                  refine r_iload_n hE 2 dX13_toolOne_g3.2.2.2.2.2.1 rfl rfl ?_
                  refine r_if_ge hE 139 dX13_toolOne_g3.2.2.2.2.2.2.1 (by decide) h (fun h => ?_) (fun h => ?_)
                  · refine r_iconst (v := (0 : Int32)) hE dX13_toolOne_g3.2.2.2.2.2.2.2.2.2.1 (by decide) ?_
                    refine r_pick [] rfl ?_
                    exact km_toolOne_140 hE hm hF _ _ h
                  · refine r_iconst (v := (1 : Int32)) hE dX13_toolOne_g3.2.2.2.2.2.2.2.1 (by decide) ?_
                    refine r_goto hE 140 dX13_toolOne_g3.2.2.2.2.2.2.2.2.1 (by decide) ?_
                    refine r_pick [] rfl ?_
                    exact km_toolOne_140 hE hm hF _ _ h
                · refine r_case (8 : Int32) h (fun q8 h => ?_) (fun q8 h => ?_)
                  · refine r_tableAt (off := 143) hE (8 : Int32) 144 dX13_toolOne_g0.2.1 q8 (by decide) (by decide) (by decide) (by decide) ?_
                    refine r_aload_n hE 0 dX13_toolOne_g3.2.2.2.2.2.2.2.2.2.2.2.2.1 rfl rfl ?_
                    refine r_aload_n hE 0 dX13_toolOne_g3.2.2.2.2.2.2.2.2.2.2.2.2.2.1 rfl rfl ?_
                    refine mg_sort hE hm dX13_toolOne_g3.2.2.2.2.2.2.2.2.2.2.2.2.2.2.1 ?_
                    refine r_iload_n hE 2 dX13_toolOne_g3.2.2.2.2.2.2.2.2.2.2.2.2.2.2.2 rfl rfl ?_
                    obtain ⟨hi, h⟩ := h
                    refine ml_sort hE hm dX13_toolOne_g4.1 hi ?_
                    refine r_i2l hE dX13_toolOne_g4.2.1 ?_
                    refine r_lconst (v := (1 : Int64)) hE dX13_toolOne_g4.2.2.1 (by decide) ?_
                    refine r_iconst (v := (0 : Int32)) hE dX13_toolOne_g4.2.2.2.1 (by decide) ?_
                    refine m_callVi hE hm [.long ((m_sort σ a2.toNatClampNeg).toInt64), .long (1 : Int64), .int (0 : Int32)] [] mc_number (km_number hm.2.2.2.2.2.2.2.2 h) (by decide) rfl rfl (Nat.le_of_ble_eq_true rfl) dX13_toolOne_g4.2.2.2.2.1 (fun s21 r22 h => ?_)
                    exact m_iret hE hm hF dX13_toolOne_g4.2.2.2.2.2.1 h
                  · have n0 := lv_neT q0 (show (0 : Int32).toInt = 0 by decide)
                    have n1 := lv_neT q1 (show (1 : Int32).toInt = 1 by decide)
                    have n2 := lv_neT q2 (show (2 : Int32).toInt = 2 by decide)
                    have n3 := lv_neT q3 (show (3 : Int32).toInt = 3 by decide)
                    have n4 := lv_neT q4 (show (4 : Int32).toInt = 4 by decide)
                    have n5 := lv_neT q5 (show (5 : Int32).toInt = 5 by decide)
                    have n6 := lv_neT q6 (show (6 : Int32).toInt = 6 by decide)
                    have n7 := lv_neT q7 (show (7 : Int32).toInt = 7 by decide)
                    have n8 := lv_neT q8 (show (8 : Int32).toInt = 8 by decide)
                    refine r_tableOut hE 158 dX13_toolOne_g0.2.1 (by omega) (by decide) ?_
                    refine r_aload_n hE 0 dX13_toolOne_g4.2.2.2.2.2.2.1 rfl rfl ?_
                    refine r_iload_n hE 1 dX13_toolOne_g4.2.2.2.2.2.2.2.1 rfl rfl ?_
                    refine r_bipush (v := (9 : Int32)) hE dX13_toolOne_g4.2.2.2.2.2.2.2.2.1 (by decide) ?_
                    refine r_isub hE dX13_toolOne_g4.2.2.2.2.2.2.2.2.2.1 ?_
                    refine r_iload_n hE 2 dX13_toolOne_g4.2.2.2.2.2.2.2.2.2.2.1 rfl rfl ?_
                    refine m_callVi hE hm [.int (a1 - (9 : Int32)), .int a2] [] mc_newRow (km_newRow hm.2.2.2.2.2.2.2.2 h) (by decide) rfl rfl (Nat.le_of_ble_eq_true rfl) dX13_toolOne_g4.2.2.2.2.2.2.2.2.2.2.2.1 (fun s23 r24 h => ?_)
                    exact m_iret hE hm hF dX13_toolOne_g4.2.2.2.2.2.2.2.2.2.2.2.2 h
/-! toolThree -/
def wm_toolThree_110 (post : MS → Int32 → Prop) (σ : MS) (v2 : Int32) : Prop := wm_fail (fun (s1 : MS) => post s1 v2) σ (3 : Int32)
set_option maxRecDepth 20000 in
theorem km_toolThree_110 {E : gEnv} {l : Launch} {D : va_G} {cl : List vw_C} {G : gAd} {post : MS → Int32 → Prop} (hE : gOK E cX13_toolThree RX13 (some .int) 8) (hm : mOK E l D cl G (qI post) 5) (hF : gFin E) (σ : MS) (v2 : Int32) (h : wm_toolThree_110 post σ v2) : GW E (mW G σ) 110 [(0, .ref (G.1 0)), (2, .int v2)] [] := by
  unfold wm_toolThree_110 at h
  have hN := hm.2.2.2.2.2.2.1
  refine r_aload_n hE 0 dX13_toolThree_g3.2.2.2.2.1 rfl rfl ?_
  refine r_iconst (v := (3 : Int32)) hE dX13_toolThree_g3.2.2.2.2.2.1 (by decide) ?_
  refine m_callVv hE hm [.int (3 : Int32)] [] mc_fail (km_fail hm.2.2.2.2.2.2.2.2 h) (by decide) rfl rfl (Nat.le_of_ble_eq_true rfl) dX13_toolThree_g3.2.2.2.2.2.2.1 (fun s1 h => ?_)
  refine r_iload_n hE 1 dX13_toolThree_g3.2.2.2.2.2.2.2.1 rfl rfl ?_
  exact m_iret hE hm hF dX13_toolThree_g3.2.2.2.2.2.2.2.2.1 h
def wm_toolThree (post : MS → Int32 → Prop) (σ : MS) (a1 : Int32) (a2 : Int32) (a3 : Int32) (a4 : Int32) : Prop := (a1 = (0 : Int32) → (vp_in ((7 : Int32) * a4) 3360 ∧ (vp_in ((7 : Int32) * a4) 3360 ∧ (wm_scale (fun (s2 : MS) (r3 : Int32) => post s2 r3) σ a2 a3 (m_up σ ((7 : Int32) * a4).toNatClampNeg) (m_low σ ((7 : Int32) * a4).toNatClampNeg))))) ∧ (¬ a1 = (0 : Int32) → ((a1 = (1 : Int32) → (wm_ring (fun (s4 : MS) (r5 : Int32) => post s4 r5) σ a2 a3 a4)) ∧ (¬ a1 = (1 : Int32) → ((a1 = (2 : Int32) → (wm_area (fun (s6 : MS) => wm_told (fun (s7 : MS) (r8 : Int32) => post s7 r8) s6) σ a2 a3 a4)) ∧ (¬ a1 = (2 : Int32) → (vp_in ((7 : Int32) * a4) 3360 ∧ (((¬ ((lg_cmp (m_low σ ((7 : Int32) * a4).toNatClampNeg) (1 : Int64)) = (0 : Int32))) → (wm_toolThree_110 post σ a2)) ∧ (((lg_cmp (m_low σ ((7 : Int32) * a4).toNatClampNeg) (1 : Int64)) = (0 : Int32)) → (vp_in ((7 : Int32) * a4) 3360 ∧ (wm_in (fun (s9 : MS) (r10 : Int32) => ((¬ (r10 = (0 : Int32))) → (vp_in ((7 : Int32) * a4) 3360 ∧ (wm_cut_ (fun (s11 : MS) (r12 : Int32) => post s11 r12) s9 a2 a3 (m_up s9 ((7 : Int32) * a4).toNatClampNeg)))) ∧ ((r10 = (0 : Int32)) → (wm_toolThree_110 post s9 a2))) σ (m_up σ ((7 : Int32) * a4).toNatClampNeg) (0 : Int64) (1 : Int64)))))))))))
set_option maxRecDepth 20000 in
theorem km_toolThree {l : Launch} {D : va_G} {cl : List vw_C} {G : gAd} {post : MS → Int32 → Prop} (hcl : mC cl) {σ : MS} {a1 : Int32} {a2 : Int32} {a3 : Int32} {a4 : Int32} (h : wm_toolThree post σ a1 a2 a3 a4) : mMet l D cl G yX13_toolThree cX13_toolThree 5 (some .int) 8 [.ref (G.1 0), .int a1, .int a2, .int a3, .int a4] σ (qI post) := by
  unfold wm_toolThree at h
  refine m_enter hcl (by decide +kernel) rfl [(0, .ref (G.1 0)), (1, .int a1), (2, .int a2), (3, .int a3), (4, .int a4)] rfl (Nat.le_of_ble_eq_true rfl) ?_
  intro E hE hm hF
  have hN := hm.2.2.2.2.2.2.1
  refine r_iload_n hE 1 dX13_toolThree_g0.1 rfl rfl ?_
  refine r_case (0 : Int32) h (fun q0 h => ?_) (fun q0 h => ?_)
  · refine r_tableAt (off := 27) hE (0 : Int32) 28 dX13_toolThree_g0.2.1 q0 (by decide) (by decide) (by decide) (by decide) ?_
    refine r_aload_n hE 0 dX13_toolThree_g0.2.2.1 rfl rfl ?_
    refine r_iload_n hE 2 dX13_toolThree_g0.2.2.2.1 rfl rfl ?_
    refine r_iload_n hE 3 dX13_toolThree_g0.2.2.2.2.1 rfl rfl ?_
    refine r_aload_n hE 0 dX13_toolThree_g0.2.2.2.2.2.1 rfl rfl ?_
    refine mg_up hE hm dX13_toolThree_g0.2.2.2.2.2.2.1 ?_
    refine r_bipush (v := (7 : Int32)) hE dX13_toolThree_g0.2.2.2.2.2.2.2.1 (by decide) ?_
    refine r_iload hE 4 dX13_toolThree_g0.2.2.2.2.2.2.2.2.1 rfl ?_
    refine r_imul hE dX13_toolThree_g0.2.2.2.2.2.2.2.2.2.1 ?_
    obtain ⟨hi, h⟩ := h
    refine ml_up hE hm dX13_toolThree_g0.2.2.2.2.2.2.2.2.2.2.1 hi ?_
    refine r_aload_n hE 0 dX13_toolThree_g0.2.2.2.2.2.2.2.2.2.2.2.1 rfl rfl ?_
    refine mg_low hE hm dX13_toolThree_g0.2.2.2.2.2.2.2.2.2.2.2.2.1 ?_
    refine r_bipush (v := (7 : Int32)) hE dX13_toolThree_g0.2.2.2.2.2.2.2.2.2.2.2.2.2.1 (by decide) ?_
    refine r_iload hE 4 dX13_toolThree_g0.2.2.2.2.2.2.2.2.2.2.2.2.2.2.1 rfl ?_
    refine r_imul hE dX13_toolThree_g0.2.2.2.2.2.2.2.2.2.2.2.2.2.2.2 ?_
    obtain ⟨hi, h⟩ := h
    refine ml_low hE hm dX13_toolThree_g1.1 hi ?_
    refine m_callVi hE hm [.int a2, .int a3, .long (m_up σ ((7 : Int32) * a4).toNatClampNeg), .long (m_low σ ((7 : Int32) * a4).toNatClampNeg)] [] mc_scale (km_scale hm.2.2.2.2.2.2.2.2 h) (by decide) rfl rfl (Nat.le_of_ble_eq_true rfl) dX13_toolThree_g1.2.1 (fun s2 r3 h => ?_)
    exact m_iret hE hm hF dX13_toolThree_g1.2.2.1 h
  · refine r_case (1 : Int32) h (fun q1 h => ?_) (fun q1 h => ?_)
    · refine r_tableAt (off := 54) hE (1 : Int32) 55 dX13_toolThree_g0.2.1 q1 (by decide) (by decide) (by decide) (by decide) ?_
      refine r_aload_n hE 0 dX13_toolThree_g1.2.2.2.1 rfl rfl ?_
      refine r_iload_n hE 2 dX13_toolThree_g1.2.2.2.2.1 rfl rfl ?_
      refine r_iload_n hE 3 dX13_toolThree_g1.2.2.2.2.2.1 rfl rfl ?_
      refine r_iload hE 4 dX13_toolThree_g1.2.2.2.2.2.2.1 rfl ?_
      refine m_callVi hE hm [.int a2, .int a3, .int a4] [] mc_ring (km_ring hm.2.2.2.2.2.2.2.2 h) (by decide) rfl rfl (Nat.le_of_ble_eq_true rfl) dX13_toolThree_g1.2.2.2.2.2.2.2.1 (fun s4 r5 h => ?_)
      exact m_iret hE hm hF dX13_toolThree_g1.2.2.2.2.2.2.2.2.1 h
    · refine r_case (2 : Int32) h (fun q2 h => ?_) (fun q2 h => ?_)
      · refine r_tableAt (off := 63) hE (2 : Int32) 64 dX13_toolThree_g0.2.1 q2 (by decide) (by decide) (by decide) (by decide) ?_
        refine r_aload_n hE 0 dX13_toolThree_g1.2.2.2.2.2.2.2.2.2.1 rfl rfl ?_
        refine r_iload_n hE 2 dX13_toolThree_g1.2.2.2.2.2.2.2.2.2.2.1 rfl rfl ?_
        refine r_iload_n hE 3 dX13_toolThree_g1.2.2.2.2.2.2.2.2.2.2.2.1 rfl rfl ?_
        refine r_iload hE 4 dX13_toolThree_g1.2.2.2.2.2.2.2.2.2.2.2.2.1 rfl ?_
        refine m_callVv hE hm [.int a2, .int a3, .int a4] [] mc_area (km_area hm.2.2.2.2.2.2.2.2 h) (by decide) rfl rfl (Nat.le_of_ble_eq_true rfl) dX13_toolThree_g1.2.2.2.2.2.2.2.2.2.2.2.2.2.1 (fun s6 h => ?_)
        refine r_aload_n hE 0 dX13_toolThree_g1.2.2.2.2.2.2.2.2.2.2.2.2.2.2.1 rfl rfl ?_
        refine m_callVi hE hm [] [] mc_told (km_told hm.2.2.2.2.2.2.2.2 h) (by decide) rfl rfl (Nat.le_of_ble_eq_true rfl) dX13_toolThree_g1.2.2.2.2.2.2.2.2.2.2.2.2.2.2.2 (fun s7 r8 h => ?_)
        exact m_iret hE hm hF dX13_toolThree_g2.1 h
      · have n0 := lv_neT q0 (show (0 : Int32).toInt = 0 by decide)
        have n1 := lv_neT q1 (show (1 : Int32).toInt = 1 by decide)
        have n2 := lv_neT q2 (show (2 : Int32).toInt = 2 by decide)
        refine r_tableOut hE 77 dX13_toolThree_g0.2.1 (by omega) (by decide) ?_
        refine r_aload_n hE 0 dX13_toolThree_g2.2.1 rfl rfl ?_
        refine mg_low hE hm dX13_toolThree_g2.2.2.1 ?_
        refine r_bipush (v := (7 : Int32)) hE dX13_toolThree_g2.2.2.2.1 (by decide) ?_
        refine r_iload hE 4 dX13_toolThree_g2.2.2.2.2.1 rfl ?_
        refine r_imul hE dX13_toolThree_g2.2.2.2.2.2.1 ?_
        obtain ⟨hi, h⟩ := h
        refine ml_low hE hm dX13_toolThree_g2.2.2.2.2.2.2.1 hi ?_
        refine r_lconst (v := (1 : Int64)) hE dX13_toolThree_g2.2.2.2.2.2.2.2.1 (by decide) ?_
        refine r_lcmp hE dX13_toolThree_g2.2.2.2.2.2.2.2.2.1 ?_
        refine r_if_ne hE 110 dX13_toolThree_g2.2.2.2.2.2.2.2.2.2.1 (by decide) h (fun h => ?_) (fun h => ?_)
        · refine r_pick [0, 2] rfl ?_
          exact km_toolThree_110 hE hm hF _ _ h
        · refine r_aload_n hE 0 dX13_toolThree_g2.2.2.2.2.2.2.2.2.2.2.1 rfl rfl ?_
          refine mg_up hE hm dX13_toolThree_g2.2.2.2.2.2.2.2.2.2.2.2.1 ?_
          refine r_bipush (v := (7 : Int32)) hE dX13_toolThree_g2.2.2.2.2.2.2.2.2.2.2.2.2.1 (by decide) ?_
          refine r_iload hE 4 dX13_toolThree_g2.2.2.2.2.2.2.2.2.2.2.2.2.2.1 rfl ?_
          refine r_imul hE dX13_toolThree_g2.2.2.2.2.2.2.2.2.2.2.2.2.2.2.1 ?_
          obtain ⟨hi, h⟩ := h
          refine ml_up hE hm dX13_toolThree_g2.2.2.2.2.2.2.2.2.2.2.2.2.2.2.2 hi ?_
          refine r_lconst (v := (0 : Int64)) hE dX13_toolThree_g3.1 (by decide) ?_
          refine r_lconst (v := (1 : Int64)) hE dX13_toolThree_g3.2.1 (by decide) ?_
          refine m_callSi hE hm [.long (m_up σ ((7 : Int32) * a4).toNatClampNeg), .long (0 : Int64), .long (1 : Int64)] [] mc_in (km_in hm.2.2.2.2.2.2.2.2 h) (by decide) rfl rfl (Nat.le_of_ble_eq_true rfl) dX13_toolThree_g3.2.2.1 (fun s9 r10 h => ?_)
          refine r_if_ne hE 117 dX13_toolThree_g3.2.2.2.1 (by decide) h (fun h => ?_) (fun h => ?_)
          · refine r_aload_n hE 0 dX13_toolThree_g3.2.2.2.2.2.2.2.2.2.1 rfl rfl ?_
            refine r_iload_n hE 2 dX13_toolThree_g3.2.2.2.2.2.2.2.2.2.2.1 rfl rfl ?_
            refine r_iload_n hE 3 dX13_toolThree_g3.2.2.2.2.2.2.2.2.2.2.2.1 rfl rfl ?_
            refine r_aload_n hE 0 dX13_toolThree_g3.2.2.2.2.2.2.2.2.2.2.2.2.1 rfl rfl ?_
            refine mg_up hE hm dX13_toolThree_g3.2.2.2.2.2.2.2.2.2.2.2.2.2.1 ?_
            refine r_bipush (v := (7 : Int32)) hE dX13_toolThree_g3.2.2.2.2.2.2.2.2.2.2.2.2.2.2.1 (by decide) ?_
            refine r_iload hE 4 dX13_toolThree_g3.2.2.2.2.2.2.2.2.2.2.2.2.2.2.2 rfl ?_
            refine r_imul hE dX13_toolThree_g4.1 ?_
            obtain ⟨hi, h⟩ := h
            refine ml_up hE hm dX13_toolThree_g4.2.1 hi ?_
            refine m_callVi hE hm [.int a2, .int a3, .long (m_up s9 ((7 : Int32) * a4).toNatClampNeg)] [] mc_cut_ (km_cut_ hm.2.2.2.2.2.2.2.2 h) (by decide) rfl rfl (Nat.le_of_ble_eq_true rfl) dX13_toolThree_g4.2.2.1 (fun s11 r12 h => ?_)
            exact m_iret hE hm hF dX13_toolThree_g4.2.2.2 h
          · refine r_pick [0, 2] rfl ?_
            exact km_toolThree_110 hE hm hF _ _ h
/-! newPoint -/
def wm_newPoint (post : MS → Int32 → Prop) (σ : MS) (a1 : Int32) (a2 : Int32) (a3 : Int32) : Prop := wm_newThing (fun (s1 : MS) (r2 : Int32) => wm_part (fun (s3 : MS) => wm_keep (fun (s4 : MS) => wm_part (fun (s5 : MS) => wm_keep (fun (s6 : MS) => post s6 r2) s5 r2 (1 : Int32)) s4 a3 (0 : Int32)) s3 r2 (0 : Int32)) s1 a2 (0 : Int32)) σ a1
set_option maxRecDepth 20000 in
theorem km_newPoint {l : Launch} {D : va_G} {cl : List vw_C} {G : gAd} {post : MS → Int32 → Prop} (hcl : mC cl) {σ : MS} {a1 : Int32} {a2 : Int32} {a3 : Int32} (h : wm_newPoint post σ a1 a2 a3) : mMet l D cl G yX13_newPoint cX13_newPoint 5 (some .int) 3 [.ref (G.1 0), .int a1, .int a2, .int a3] σ (qI post) := by
  unfold wm_newPoint at h
  refine m_enter hcl (by decide +kernel) rfl [(0, .ref (G.1 0)), (1, .int a1), (2, .int a2), (3, .int a3)] rfl (Nat.le_of_ble_eq_true rfl) ?_
  intro E hE hm hF
  have hN := hm.2.2.2.2.2.2.1
  refine r_aload_n hE 0 dX13_newPoint_g0.1 rfl rfl ?_
  refine r_iload_n hE 1 dX13_newPoint_g0.2.1 rfl rfl ?_
  refine m_callVi hE hm [.int a1] [] mc_newThing (km_newThing hm.2.2.2.2.2.2.2.2 h) (by decide) rfl rfl (Nat.le_of_ble_eq_true rfl) dX13_newPoint_g0.2.2.1 (fun s1 r2 h => ?_)
  refine r_istore hE [(4, .int r2), (0, .ref (G.1 0)), (1, .int a1), (2, .int a2), (3, .int a3)] dX13_newPoint_g0.2.2.2.1 hN (by decide) rfl ?_
  refine r_aload_n hE 1 dX13_newPoint_g0.2.2.2.2.1 rfl rfl ?_
  refine r_iload_n hE 3 dX13_newPoint_g0.2.2.2.2.2.1 rfl rfl ?_
  refine r_iconst (v := (0 : Int32)) hE dX13_newPoint_g0.2.2.2.2.2.2.1 (by decide) ?_
  refine m_callVv hE hm [.int a2, .int (0 : Int32)] [] mc_part (km_part hm.2.2.2.2.2.2.2.2 h) (by decide) rfl rfl (Nat.le_of_ble_eq_true rfl) dX13_newPoint_g0.2.2.2.2.2.2.2.1 (fun s3 h => ?_)
  refine r_aload_n hE 1 dX13_newPoint_g0.2.2.2.2.2.2.2.2.1 rfl rfl ?_
  refine r_iload hE 0 dX13_newPoint_g0.2.2.2.2.2.2.2.2.2.1 rfl ?_
  refine r_iconst (v := (0 : Int32)) hE dX13_newPoint_g0.2.2.2.2.2.2.2.2.2.2.1 (by decide) ?_
  refine m_callVv hE hm [.int r2, .int (0 : Int32)] [] mc_keep (km_keep hm.2.2.2.2.2.2.2.2 h) (by decide) rfl rfl (Nat.le_of_ble_eq_true rfl) dX13_newPoint_g0.2.2.2.2.2.2.2.2.2.2.2.1 (fun s4 h => ?_)
  refine r_aload_n hE 1 dX13_newPoint_g0.2.2.2.2.2.2.2.2.2.2.2.2.1 rfl rfl ?_
  refine r_iload_n hE 4 dX13_newPoint_g0.2.2.2.2.2.2.2.2.2.2.2.2.2.1 rfl rfl ?_
  refine r_iconst (v := (0 : Int32)) hE dX13_newPoint_g0.2.2.2.2.2.2.2.2.2.2.2.2.2.2.1 (by decide) ?_
  refine m_callVv hE hm [.int a3, .int (0 : Int32)] [] mc_part (km_part hm.2.2.2.2.2.2.2.2 h) (by decide) rfl rfl (Nat.le_of_ble_eq_true rfl) dX13_newPoint_g0.2.2.2.2.2.2.2.2.2.2.2.2.2.2.2 (fun s5 h => ?_)
  refine r_aload_n hE 1 dX13_newPoint_g1.1 rfl rfl ?_
  refine r_iload hE 0 dX13_newPoint_g1.2.1 rfl ?_
  refine r_iconst (v := (1 : Int32)) hE dX13_newPoint_g1.2.2.1 (by decide) ?_
  refine m_callVv hE hm [.int r2, .int (1 : Int32)] [] mc_keep (km_keep hm.2.2.2.2.2.2.2.2 h) (by decide) rfl rfl (Nat.le_of_ble_eq_true rfl) dX13_newPoint_g1.2.2.2.1 (fun s6 h => ?_)
  refine r_iload hE 0 dX13_newPoint_g1.2.2.2.2.1 rfl ?_
  exact m_iret hE hm hF dX13_newPoint_g1.2.2.2.2.2 h
/-! newFree -/
def wm_newFree_91 (post : MS → Int32 → Prop) (σ : MS) (v3 : Int32) : Prop := ∀ s1 : MS, s1 = m_frees_s σ ((m_frees σ) + (1 : Int32)) → post s1 v3
set_option maxRecDepth 20000 in
theorem km_newFree_91 {E : gEnv} {l : Launch} {D : va_G} {cl : List vw_C} {G : gAd} {post : MS → Int32 → Prop} (hE : gOK E cX13_newFree RX13 (some .int) 4) (hm : mOK E l D cl G (qI post) 5) (hF : gFin E) (σ : MS) (v3 : Int32) (h : wm_newFree_91 post σ v3) : GW E (mW G σ) 91 [(0, .ref (G.1 0)), (3, .int v3)] [] := by
  unfold wm_newFree_91 at h
  have hN := hm.2.2.2.2.2.2.1
  refine r_aload_n hE 0 dX13_newFree_g3.2.2.2.2.1 rfl rfl ?_
  refine r_dup hE dX13_newFree_g3.2.2.2.2.2.1 rfl ?_
  refine mg_frees hE hm dX13_newFree_g3.2.2.2.2.2.2.1 ?_
  refine r_iconst (v := (1 : Int32)) hE dX13_newFree_g3.2.2.2.2.2.2.2.1 (by decide) ?_
  refine r_iadd hE dX13_newFree_g3.2.2.2.2.2.2.2.2.1 ?_
  refine mp_frees hE hm dX13_newFree_g3.2.2.2.2.2.2.2.2.2.1 h (fun s1 h => ?_)
  refine r_iload_n hE 1 dX13_newFree_g3.2.2.2.2.2.2.2.2.2.2.1 rfl rfl ?_
  exact m_iret hE hm hF dX13_newFree_g3.2.2.2.2.2.2.2.2.2.2.2 h
def wm_newFree_28 (post : MS → Int32 → Prop) : Nat → MS → Int32 → Int32 → Prop
  | 0, _, _, _ => False
  | n + 1, σ, v3, v4 => (((2 : Int32) ≤ v4) → (wm_newFree_91 post σ v3)) ∧ ((¬ ((2 : Int32) ≤ v4)) → (vp_in (m_frees σ) 12 ∧ ((((m_isMoved σ (m_frees σ).toNatClampNeg) = (0 : Int32)) → (wm_newFree_91 post σ v3)) ∧ ((¬ ((m_isMoved σ (m_frees σ).toNatClampNeg) = (0 : Int32))) → (vp_in (((2 : Int32) * (m_frees σ)) + v4) 24 ∧ (vp_in (((2 : Int32) * (m_frees σ)) + v4) 24 ∧ (wm_push (fun (s2 : MS) => wm_keep (fun (s3 : MS) => ∀ x4 : Int32, x4 = v4 + (1 : Int32) → wm_newFree_28 post n s3 v3 x4) s2 v3 v4) σ (m_movedTop σ (((2 : Int32) * (m_frees σ)) + v4).toNatClampNeg) (m_movedBottom σ (((2 : Int32) * (m_frees σ)) + v4).toNatClampNeg))))))))
set_option maxRecDepth 20000 in
theorem km_newFree_28 {E : gEnv} {l : Launch} {D : va_G} {cl : List vw_C} {G : gAd} {post : MS → Int32 → Prop} (hE : gOK E cX13_newFree RX13 (some .int) 4) (hm : mOK E l D cl G (qI post) 5) (hF : gFin E) : ∀ (n : Nat) (σ : MS) (v3 : Int32) (v4 : Int32), wm_newFree_28 post n σ v3 v4 → GW E (mW G σ) 28 [(0, .ref (G.1 0)), (3, .int v3), (4, .int v4)] [] := by
  intro n
  induction n with
  | zero => intro σ v3 v4 h; exact h.elim
  | succ n ih =>
    intro σ v3 v4 h
    rw [wm_newFree_28] at h
    have hN := hm.2.2.2.2.2.2.1
    refine r_iload hE 2 dX13_newFree_g1.2.1 rfl ?_
    refine r_iconst (v := (2 : Int32)) hE dX13_newFree_g1.2.2.1 (by decide) ?_
    refine r_icmp_ge hE 91 dX13_newFree_g1.2.2.2.1 (by decide) h (fun h => ?_) (fun h => ?_)
    · refine r_pick [0, 1] rfl ?_
      exact km_newFree_91 hE hm hF _ _ h
    · refine r_aload_n hE 0 dX13_newFree_g1.2.2.2.2.1 rfl rfl ?_
      refine mg_isMoved hE hm dX13_newFree_g1.2.2.2.2.2.1 ?_
      refine r_aload_n hE 0 dX13_newFree_g1.2.2.2.2.2.2.1 rfl rfl ?_
      refine mg_frees hE hm dX13_newFree_g1.2.2.2.2.2.2.2.1 ?_
      obtain ⟨hi, h⟩ := h
      refine ml_isMoved hE hm dX13_newFree_g1.2.2.2.2.2.2.2.2.1 hi ?_
      refine r_if_eq hE 91 dX13_newFree_g1.2.2.2.2.2.2.2.2.2.1 (by decide) h (fun h => ?_) (fun h => ?_)
      · refine r_pick [0, 1] rfl ?_
        exact km_newFree_91 hE hm hF _ _ h
      · refine r_aload_n hE 0 dX13_newFree_g1.2.2.2.2.2.2.2.2.2.2.1 rfl rfl ?_
        refine r_aload_n hE 0 dX13_newFree_g1.2.2.2.2.2.2.2.2.2.2.2.1 rfl rfl ?_
        refine mg_movedTop hE hm dX13_newFree_g1.2.2.2.2.2.2.2.2.2.2.2.2.1 ?_
        refine r_iconst (v := (2 : Int32)) hE dX13_newFree_g1.2.2.2.2.2.2.2.2.2.2.2.2.2.1 (by decide) ?_
        refine r_aload_n hE 0 dX13_newFree_g1.2.2.2.2.2.2.2.2.2.2.2.2.2.2.1 rfl rfl ?_
        refine mg_frees hE hm dX13_newFree_g1.2.2.2.2.2.2.2.2.2.2.2.2.2.2.2 ?_
        refine r_imul hE dX13_newFree_g2.1 ?_
        refine r_iload hE 2 dX13_newFree_g2.2.1 rfl ?_
        refine r_iadd hE dX13_newFree_g2.2.2.1 ?_
        obtain ⟨hi, h⟩ := h
        refine ml_movedTop hE hm dX13_newFree_g2.2.2.2.1 hi ?_
        refine r_aload_n hE 0 dX13_newFree_g2.2.2.2.2.1 rfl rfl ?_
        refine mg_movedBottom hE hm dX13_newFree_g2.2.2.2.2.2.1 ?_
        refine r_iconst (v := (2 : Int32)) hE dX13_newFree_g2.2.2.2.2.2.2.1 (by decide) ?_
        refine r_aload_n hE 0 dX13_newFree_g2.2.2.2.2.2.2.2.1 rfl rfl ?_
        refine mg_frees hE hm dX13_newFree_g2.2.2.2.2.2.2.2.2.1 ?_
        refine r_imul hE dX13_newFree_g2.2.2.2.2.2.2.2.2.2.1 ?_
        refine r_iload hE 2 dX13_newFree_g2.2.2.2.2.2.2.2.2.2.2.1 rfl ?_
        refine r_iadd hE dX13_newFree_g2.2.2.2.2.2.2.2.2.2.2.2.1 ?_
        obtain ⟨hi, h⟩ := h
        refine ml_movedBottom hE hm dX13_newFree_g2.2.2.2.2.2.2.2.2.2.2.2.2.1 hi ?_
        refine m_callVv hE hm [.long (m_movedTop σ (((2 : Int32) * (m_frees σ)) + v4).toNatClampNeg), .long (m_movedBottom σ (((2 : Int32) * (m_frees σ)) + v4).toNatClampNeg)] [] mc_push (km_push hm.2.2.2.2.2.2.2.2 h) (by decide) rfl rfl (Nat.le_of_ble_eq_true rfl) dX13_newFree_g2.2.2.2.2.2.2.2.2.2.2.2.2.2.1 (fun s2 h => ?_)
        refine r_aload_n hE 0 dX13_newFree_g2.2.2.2.2.2.2.2.2.2.2.2.2.2.2.1 rfl rfl ?_
        refine r_iload_n hE 1 dX13_newFree_g2.2.2.2.2.2.2.2.2.2.2.2.2.2.2.2 rfl rfl ?_
        refine r_iload hE 2 dX13_newFree_g3.1 rfl ?_
        refine m_callVv hE hm [.int v3, .int v4] [] mc_keep (km_keep hm.2.2.2.2.2.2.2.2 h) (by decide) rfl rfl (Nat.le_of_ble_eq_true rfl) dX13_newFree_g3.2.1 (fun s3 h => ?_)
        obtain ⟨x4, ex4⟩ : ∃ z : Int32, z = v4 + (1 : Int32) := ⟨_, rfl⟩
        have h := h x4 ex4
        refine r_iinc (v := x4) hE [(4, .int x4), (0, .ref (G.1 0)), (3, .int v3)] 2 dX13_newFree_g3.2.2.1 rfl (by rw [ex4]; rfl) hN (by decide) rfl ?_
        refine r_goto hE 28 dX13_newFree_g3.2.2.2.1 (by decide) ?_
        refine r_pick [1, 2, 0] rfl ?_
        exact ih _ _ _ h
def wm_newFree (post : MS → Int32 → Prop) (σ : MS) (a1 : Int32) (a2 : Int32) : Prop := ((¬ ((m_frees σ) = (12 : Int32))) → (wm_newPoint (fun (s5 : MS) (r6 : Int32) => ∃ k : Nat, wm_newFree_28 post k s5 r6 (0 : Int32)) σ (2 : Int32) a1 a2)) ∧ (((m_frees σ) = (12 : Int32)) → (wm_fail (fun (s7 : MS) => post s7 a1) σ (9 : Int32)))
set_option maxRecDepth 20000 in
theorem km_newFree {l : Launch} {D : va_G} {cl : List vw_C} {G : gAd} {post : MS → Int32 → Prop} (hcl : mC cl) {σ : MS} {a1 : Int32} {a2 : Int32} (h : wm_newFree post σ a1 a2) : mMet l D cl G yX13_newFree cX13_newFree 5 (some .int) 4 [.ref (G.1 0), .int a1, .int a2] σ (qI post) := by
  unfold wm_newFree at h
  refine m_enter hcl (by decide +kernel) rfl [(0, .ref (G.1 0)), (1, .int a1), (2, .int a2)] rfl (Nat.le_of_ble_eq_true rfl) ?_
  intro E hE hm hF
  have hN := hm.2.2.2.2.2.2.1
  refine r_aload_n hE 0 dX13_newFree_g0.1 rfl rfl ?_
  refine mg_frees hE hm dX13_newFree_g0.2.1 ?_
  refine r_bipush (v := (12 : Int32)) hE dX13_newFree_g0.2.2.1 (by decide) ?_
  refine r_icmp_ne hE 17 dX13_newFree_g0.2.2.2.1 (by decide) h (fun h => ?_) (fun h => ?_)
  · refine r_aload_n hE 0 dX13_newFree_g0.2.2.2.2.2.2.2.2.2.1 rfl rfl ?_
    refine r_iconst (v := (2 : Int32)) hE dX13_newFree_g0.2.2.2.2.2.2.2.2.2.2.1 (by decide) ?_
    refine r_iload_n hE 1 dX13_newFree_g0.2.2.2.2.2.2.2.2.2.2.2.1 rfl rfl ?_
    refine r_iload_n hE 2 dX13_newFree_g0.2.2.2.2.2.2.2.2.2.2.2.2.1 rfl rfl ?_
    refine m_callVi hE hm [.int (2 : Int32), .int a1, .int a2] [] mc_newPoint (km_newPoint hm.2.2.2.2.2.2.2.2 h) (by decide) rfl rfl (Nat.le_of_ble_eq_true rfl) dX13_newFree_g0.2.2.2.2.2.2.2.2.2.2.2.2.2.1 (fun s5 r6 h => ?_)
    refine r_istore_n hE [(3, .int r6), (0, .ref (G.1 0)), (1, .int a1), (2, .int a2)] dX13_newFree_g0.2.2.2.2.2.2.2.2.2.2.2.2.2.2.1 rfl hN (by decide) rfl ?_
    refine r_iconst (v := (0 : Int32)) hE dX13_newFree_g0.2.2.2.2.2.2.2.2.2.2.2.2.2.2.2 (by decide) ?_
    refine r_istore hE [(4, .int (0 : Int32)), (3, .int r6), (0, .ref (G.1 0)), (1, .int a1), (2, .int a2)] dX13_newFree_g1.1 hN (by decide) rfl ?_
    refine r_pick [2, 1, 0] rfl ?_
    obtain ⟨k, h⟩ := h
    exact km_newFree_28 hE hm hF k _ _ _ h
  · refine r_aload_n hE 0 dX13_newFree_g0.2.2.2.2.1 rfl rfl ?_
    refine r_bipush (v := (9 : Int32)) hE dX13_newFree_g0.2.2.2.2.2.1 (by decide) ?_
    refine m_callVv hE hm [.int (9 : Int32)] [] mc_fail (km_fail hm.2.2.2.2.2.2.2.2 h) (by decide) rfl rfl (Nat.le_of_ble_eq_true rfl) dX13_newFree_g0.2.2.2.2.2.2.1 (fun s7 h => ?_)
    refine r_iload_n hE 1 dX13_newFree_g0.2.2.2.2.2.2.2.1 rfl rfl ?_
    exact m_iret hE hm hF dX13_newFree_g0.2.2.2.2.2.2.2.2.1 h
/-! areLike -/
def wm_areLike_28 (post : MS → Int32 → Prop) (σ : MS) (v1 : Int32) (v2 : Int32) (v3 : Int32) (v4 : Int32) : Prop := ((¬ (v3 = v4)) → (post σ (0 : Int32))) ∧ ((v3 = v4) → (vp_in v1 480 ∧ (vp_in v2 480 ∧ (((¬ ((m_rowOf σ v1.toNatClampNeg) = (m_rowOf σ v2.toNatClampNeg))) → (post σ (0 : Int32))) ∧ (((m_rowOf σ v1.toNatClampNeg) = (m_rowOf σ v2.toNatClampNeg)) → (post σ (1 : Int32)))))))
set_option maxRecDepth 20000 in
theorem km_areLike_28 {E : gEnv} {l : Launch} {D : va_G} {cl : List vw_C} {G : gAd} {post : MS → Int32 → Prop} (hE : gOK E cX13_areLike RX13 (some .boolean) 2) (hm : mOK E l D cl G (qI post) 8) (hF : gFin E) (σ : MS) (v1 : Int32) (v2 : Int32) (v3 : Int32) (v4 : Int32) (h : wm_areLike_28 post σ v1 v2 v3 v4) : GW E (mW G σ) 28 [(0, .ref (G.1 0)), (1, .int v1), (2, .int v2), (3, .int v3), (4, .int v4)] [] := by
  unfold wm_areLike_28 at h
  have hN := hm.2.2.2.2.2.2.1
  refine r_iload_n hE 3 dX13_areLike_g1.1 rfl rfl ?_
  refine r_iload hE 4 dX13_areLike_g1.2.1 rfl ?_
  refine r_icmp_ne hE 53 dX13_areLike_g1.2.2.1 (by decide) h (fun h => ?_) (fun h => ?_)
  · refine r_iconst (v := (0 : Int32)) hE dX13_areLike_g1.2.2.2.2.2.2.2.2.2.2.2.2.2.2.1 (by decide) ?_
    exact m_zret hE hm hF dX13_areLike_g1.2.2.2.2.2.2.2.2.2.2.2.2.2.2.2 (Or.inl rfl) h
  · refine r_aload_n hE 0 dX13_areLike_g1.2.2.2.1 rfl rfl ?_
    refine mg_rowOf hE hm dX13_areLike_g1.2.2.2.2.1 ?_
    refine r_iload_n hE 1 dX13_areLike_g1.2.2.2.2.2.1 rfl rfl ?_
    obtain ⟨hi, h⟩ := h
    refine ml_rowOf hE hm dX13_areLike_g1.2.2.2.2.2.2.1 hi ?_
    refine r_aload_n hE 0 dX13_areLike_g1.2.2.2.2.2.2.2.1 rfl rfl ?_
    refine mg_rowOf hE hm dX13_areLike_g1.2.2.2.2.2.2.2.2.1 ?_
    refine r_iload_n hE 2 dX13_areLike_g1.2.2.2.2.2.2.2.2.2.1 rfl rfl ?_
    obtain ⟨hi, h⟩ := h
    refine ml_rowOf hE hm dX13_areLike_g1.2.2.2.2.2.2.2.2.2.2.1 hi ?_
    refine r_icmp_ne hE 53 dX13_areLike_g1.2.2.2.2.2.2.2.2.2.2.2.1 (by decide) h (fun h => ?_) (fun h => ?_)
    · refine r_iconst (v := (0 : Int32)) hE dX13_areLike_g1.2.2.2.2.2.2.2.2.2.2.2.2.2.2.1 (by decide) ?_
      exact m_zret hE hm hF dX13_areLike_g1.2.2.2.2.2.2.2.2.2.2.2.2.2.2.2 (Or.inl rfl) h
    · refine r_iconst (v := (1 : Int32)) hE dX13_areLike_g1.2.2.2.2.2.2.2.2.2.2.2.2.1 (by decide) ?_
      refine r_goto hE 54 dX13_areLike_g1.2.2.2.2.2.2.2.2.2.2.2.2.2.1 (by decide) ?_
      exact m_zret hE hm hF dX13_areLike_g1.2.2.2.2.2.2.2.2.2.2.2.2.2.2.2 (Or.inr rfl) h
def wm_areLike_196 (post : MS → Int32 → Prop) (lp123 : MS → Int32 → Int32 → Int32 → Int32 → Int32 → Prop) (σ : MS) (v1 : Int32) (v2 : Int32) (v6 : Int32) (v7 : Int32) (t0 : Int32) : Prop := ∀ x1 : Int32, x1 = v7 + (1 : Int32) → lp123 σ v1 v2 t0 v6 x1
set_option maxRecDepth 20000 in
theorem km_areLike_196 {E : gEnv} {l : Launch} {D : va_G} {cl : List vw_C} {G : gAd} {post : MS → Int32 → Prop} (hE : gOK E cX13_areLike RX13 (some .boolean) 2) (hm : mOK E l D cl G (qI post) 8) (hF : gFin E) {lp123 : MS → Int32 → Int32 → Int32 → Int32 → Int32 → Prop} (hl123 : ∀ (σ : MS) (v1 : Int32) (v2 : Int32) (v5 : Int32) (v6 : Int32) (v7 : Int32), lp123 σ v1 v2 v5 v6 v7 → GW E (mW G σ) 123 [(0, .ref (G.1 0)), (1, .int v1), (2, .int v2), (5, .int v5), (6, .int v6), (7, .int v7)] []) (σ : MS) (v1 : Int32) (v2 : Int32) (v6 : Int32) (v7 : Int32) (t0 : Int32) (h : wm_areLike_196 post lp123 σ v1 v2 v6 v7 t0) : GW E (mW G σ) 196 [(0, .ref (G.1 0)), (1, .int v1), (2, .int v2), (6, .int v6), (7, .int v7)] [.int t0] := by
  unfold wm_areLike_196 at h
  have hN := hm.2.2.2.2.2.2.1
  refine r_istore hE [(5, .int t0), (0, .ref (G.1 0)), (1, .int v1), (2, .int v2), (6, .int v6), (7, .int v7)] dX13_areLike_g6.2.2.2.2.2.2.2.2.2.2.2.2.1 hN (by decide) rfl ?_
  obtain ⟨x1, ex1⟩ : ∃ z : Int32, z = v7 + (1 : Int32) := ⟨_, rfl⟩
  have h := h x1 ex1
  refine r_iinc (v := x1) hE [(7, .int x1), (5, .int t0), (0, .ref (G.1 0)), (1, .int v1), (2, .int v2), (6, .int v6)] 5 dX13_areLike_g6.2.2.2.2.2.2.2.2.2.2.2.2.2.1 rfl (by rw [ex1]; rfl) hN (by decide) rfl ?_
  refine r_goto hE 123 dX13_areLike_g6.2.2.2.2.2.2.2.2.2.2.2.2.2.2.1 (by decide) ?_
  refine r_pick [2, 3, 4, 1, 5, 0] rfl ?_
  exact hl123 _ _ _ _ _ _ h
def wm_areLike_195 (post : MS → Int32 → Prop) (lp123 : MS → Int32 → Int32 → Int32 → Int32 → Int32 → Prop) (σ : MS) (v1 : Int32) (v2 : Int32) (v6 : Int32) (v7 : Int32) : Prop := wm_areLike_196 post lp123 σ v1 v2 v6 v7 (0 : Int32)
set_option maxRecDepth 20000 in
theorem km_areLike_195 {E : gEnv} {l : Launch} {D : va_G} {cl : List vw_C} {G : gAd} {post : MS → Int32 → Prop} (hE : gOK E cX13_areLike RX13 (some .boolean) 2) (hm : mOK E l D cl G (qI post) 8) (hF : gFin E) {lp123 : MS → Int32 → Int32 → Int32 → Int32 → Int32 → Prop} (hl123 : ∀ (σ : MS) (v1 : Int32) (v2 : Int32) (v5 : Int32) (v6 : Int32) (v7 : Int32), lp123 σ v1 v2 v5 v6 v7 → GW E (mW G σ) 123 [(0, .ref (G.1 0)), (1, .int v1), (2, .int v2), (5, .int v5), (6, .int v6), (7, .int v7)] []) (σ : MS) (v1 : Int32) (v2 : Int32) (v6 : Int32) (v7 : Int32) (h : wm_areLike_195 post lp123 σ v1 v2 v6 v7) : GW E (mW G σ) 195 [(0, .ref (G.1 0)), (1, .int v1), (2, .int v2), (6, .int v6), (7, .int v7)] [] := by
  unfold wm_areLike_195 at h
  have hN := hm.2.2.2.2.2.2.1
  refine r_iconst (v := (0 : Int32)) hE dX13_areLike_g6.2.2.2.2.2.2.2.2.2.2.2.1 (by decide) ?_
  exact km_areLike_196 hE hm hF hl123 _ _ _ _ _ _ h
def wm_areLike_123 (post : MS → Int32 → Prop) : Nat → MS → Int32 → Int32 → Int32 → Int32 → Int32 → Prop
  | 0, _, _, _, _, _, _ => False
  | n + 1, σ, v1, v2, v5, v6, v7 => ((v6 ≤ v7) → (isB v5 ∧ (post σ v5))) ∧ ((¬ (v6 ≤ v7)) → (((v5 = (0 : Int32)) → (isB v5 ∧ (post σ v5))) ∧ ((¬ (v5 = (0 : Int32))) → (vp_in (((7 : Int32) * v1) + v7) 3360 ∧ (vp_in (((7 : Int32) * v2) + v7) 3360 ∧ (((¬ ((lg_cmp (m_up σ (((7 : Int32) * v1) + v7).toNatClampNeg) (m_up σ (((7 : Int32) * v2) + v7).toNatClampNeg)) = (0 : Int32))) → (wm_areLike_195 post (fun (ys : MS) (y0 : Int32) (y1 : Int32) (y2 : Int32) (y3 : Int32) (y4 : Int32) => wm_areLike_123 post n ys y0 y1 y2 y3 y4) σ v1 v2 v6 v7)) ∧ (((lg_cmp (m_up σ (((7 : Int32) * v1) + v7).toNatClampNeg) (m_up σ (((7 : Int32) * v2) + v7).toNatClampNeg)) = (0 : Int32)) → (vp_in (((7 : Int32) * v1) + v7) 3360 ∧ (vp_in (((7 : Int32) * v2) + v7) 3360 ∧ (((¬ ((lg_cmp (m_low σ (((7 : Int32) * v1) + v7).toNatClampNeg) (m_low σ (((7 : Int32) * v2) + v7).toNatClampNeg)) = (0 : Int32))) → (wm_areLike_195 post (fun (ys : MS) (y0 : Int32) (y1 : Int32) (y2 : Int32) (y3 : Int32) (y4 : Int32) => wm_areLike_123 post n ys y0 y1 y2 y3 y4) σ v1 v2 v6 v7)) ∧ (((lg_cmp (m_low σ (((7 : Int32) * v1) + v7).toNatClampNeg) (m_low σ (((7 : Int32) * v2) + v7).toNatClampNeg)) = (0 : Int32)) → (wm_areLike_196 post (fun (ys : MS) (y0 : Int32) (y1 : Int32) (y2 : Int32) (y3 : Int32) (y4 : Int32) => wm_areLike_123 post n ys y0 y1 y2 y3 y4) σ v1 v2 v6 v7 (1 : Int32)))))))))))))
set_option maxRecDepth 20000 in
theorem km_areLike_123 {E : gEnv} {l : Launch} {D : va_G} {cl : List vw_C} {G : gAd} {post : MS → Int32 → Prop} (hE : gOK E cX13_areLike RX13 (some .boolean) 2) (hm : mOK E l D cl G (qI post) 8) (hF : gFin E) : ∀ (n : Nat) (σ : MS) (v1 : Int32) (v2 : Int32) (v5 : Int32) (v6 : Int32) (v7 : Int32), wm_areLike_123 post n σ v1 v2 v5 v6 v7 → GW E (mW G σ) 123 [(0, .ref (G.1 0)), (1, .int v1), (2, .int v2), (5, .int v5), (6, .int v6), (7, .int v7)] [] := by
  intro n
  induction n with
  | zero => intro σ v1 v2 v5 v6 v7 h; exact h.elim
  | succ n ih =>
    intro σ v1 v2 v5 v6 v7 h
    rw [wm_areLike_123] at h
    have hN := hm.2.2.2.2.2.2.1
    refine r_iload hE 5 dX13_areLike_g4.1 rfl ?_
    refine r_iload hE 4 dX13_areLike_g4.2.1 rfl ?_
    refine r_icmp_ge hE 204 dX13_areLike_g4.2.2.1 (by decide) h (fun h => ?_) (fun h => ?_)
    · refine r_iload hE 3 dX13_areLike_g6.2.2.2.2.2.2.2.2.2.2.2.2.2.2.2 rfl ?_
      obtain ⟨hb, h⟩ := h
      exact m_zret hE hm hF dX13_areLike_g7 hb h
    · refine r_iload hE 3 dX13_areLike_g4.2.2.2.1 rfl ?_
      refine r_if_eq hE 204 dX13_areLike_g4.2.2.2.2.1 (by decide) h (fun h => ?_) (fun h => ?_)
      · refine r_iload hE 3 dX13_areLike_g6.2.2.2.2.2.2.2.2.2.2.2.2.2.2.2 rfl ?_
        obtain ⟨hb, h⟩ := h
        exact m_zret hE hm hF dX13_areLike_g7 hb h
      · refine r_aload_n hE 0 dX13_areLike_g4.2.2.2.2.2.1 rfl rfl ?_
        refine mg_up hE hm dX13_areLike_g4.2.2.2.2.2.2.1 ?_
        refine r_bipush (v := (7 : Int32)) hE dX13_areLike_g4.2.2.2.2.2.2.2.1 (by decide) ?_
        refine r_iload_n hE 1 dX13_areLike_g4.2.2.2.2.2.2.2.2.1 rfl rfl ?_
        refine r_imul hE dX13_areLike_g4.2.2.2.2.2.2.2.2.2.1 ?_
        refine r_iload hE 5 dX13_areLike_g4.2.2.2.2.2.2.2.2.2.2.1 rfl ?_
        refine r_iadd hE dX13_areLike_g4.2.2.2.2.2.2.2.2.2.2.2.1 ?_
        obtain ⟨hi, h⟩ := h
        refine ml_up hE hm dX13_areLike_g4.2.2.2.2.2.2.2.2.2.2.2.2.1 hi ?_
        refine r_aload_n hE 0 dX13_areLike_g4.2.2.2.2.2.2.2.2.2.2.2.2.2.1 rfl rfl ?_
        refine mg_up hE hm dX13_areLike_g4.2.2.2.2.2.2.2.2.2.2.2.2.2.2.1 ?_
        refine r_bipush (v := (7 : Int32)) hE dX13_areLike_g4.2.2.2.2.2.2.2.2.2.2.2.2.2.2.2 (by decide) ?_
        refine r_iload_n hE 2 dX13_areLike_g5.1 rfl rfl ?_
        refine r_imul hE dX13_areLike_g5.2.1 ?_
        refine r_iload hE 5 dX13_areLike_g5.2.2.1 rfl ?_
        refine r_iadd hE dX13_areLike_g5.2.2.2.1 ?_
        obtain ⟨hi, h⟩ := h
        refine ml_up hE hm dX13_areLike_g5.2.2.2.2.1 hi ?_
        refine r_lcmp hE dX13_areLike_g5.2.2.2.2.2.1 ?_
        refine r_if_ne hE 195 dX13_areLike_g5.2.2.2.2.2.2.1 (by decide) h (fun h => ?_) (fun h => ?_)
        · refine r_pick [0, 1, 2, 4, 5] rfl ?_
          exact km_areLike_195 hE hm hF ih _ _ _ _ _ h
        · refine r_aload_n hE 0 dX13_areLike_g5.2.2.2.2.2.2.2.1 rfl rfl ?_
          refine mg_low hE hm dX13_areLike_g5.2.2.2.2.2.2.2.2.1 ?_
          refine r_bipush (v := (7 : Int32)) hE dX13_areLike_g5.2.2.2.2.2.2.2.2.2.1 (by decide) ?_
          refine r_iload_n hE 1 dX13_areLike_g5.2.2.2.2.2.2.2.2.2.2.1 rfl rfl ?_
          refine r_imul hE dX13_areLike_g5.2.2.2.2.2.2.2.2.2.2.2.1 ?_
          refine r_iload hE 5 dX13_areLike_g5.2.2.2.2.2.2.2.2.2.2.2.2.1 rfl ?_
          refine r_iadd hE dX13_areLike_g5.2.2.2.2.2.2.2.2.2.2.2.2.2.1 ?_
          obtain ⟨hi, h⟩ := h
          refine ml_low hE hm dX13_areLike_g5.2.2.2.2.2.2.2.2.2.2.2.2.2.2.1 hi ?_
          refine r_aload_n hE 0 dX13_areLike_g5.2.2.2.2.2.2.2.2.2.2.2.2.2.2.2 rfl rfl ?_
          refine mg_low hE hm dX13_areLike_g6.1 ?_
          refine r_bipush (v := (7 : Int32)) hE dX13_areLike_g6.2.1 (by decide) ?_
          refine r_iload_n hE 2 dX13_areLike_g6.2.2.1 rfl rfl ?_
          refine r_imul hE dX13_areLike_g6.2.2.2.1 ?_
          refine r_iload hE 5 dX13_areLike_g6.2.2.2.2.1 rfl ?_
          refine r_iadd hE dX13_areLike_g6.2.2.2.2.2.1 ?_
          obtain ⟨hi, h⟩ := h
          refine ml_low hE hm dX13_areLike_g6.2.2.2.2.2.2.1 hi ?_
          refine r_lcmp hE dX13_areLike_g6.2.2.2.2.2.2.2.1 ?_
          refine r_if_ne hE 195 dX13_areLike_g6.2.2.2.2.2.2.2.2.1 (by decide) h (fun h => ?_) (fun h => ?_)
          · refine r_pick [0, 1, 2, 4, 5] rfl ?_
            exact km_areLike_195 hE hm hF ih _ _ _ _ _ h
          · refine r_iconst (v := (1 : Int32)) hE dX13_areLike_g6.2.2.2.2.2.2.2.2.2.1 (by decide) ?_
            refine r_goto hE 196 dX13_areLike_g6.2.2.2.2.2.2.2.2.2.2.1 (by decide) ?_
            refine r_pick [0, 1, 2, 4, 5] rfl ?_
            exact km_areLike_196 hE hm hF ih _ _ _ _ _ _ h
def wm_areLike_118 (post : MS → Int32 → Prop) (σ : MS) (v1 : Int32) (v2 : Int32) (v5 : Int32) (t0 : Int32) : Prop := ∃ k : Nat, wm_areLike_123 post k σ v1 v2 v5 t0 (0 : Int32)
set_option maxRecDepth 20000 in
theorem km_areLike_118 {E : gEnv} {l : Launch} {D : va_G} {cl : List vw_C} {G : gAd} {post : MS → Int32 → Prop} (hE : gOK E cX13_areLike RX13 (some .boolean) 2) (hm : mOK E l D cl G (qI post) 8) (hF : gFin E) (σ : MS) (v1 : Int32) (v2 : Int32) (v5 : Int32) (t0 : Int32) (h : wm_areLike_118 post σ v1 v2 v5 t0) : GW E (mW G σ) 118 [(0, .ref (G.1 0)), (1, .int v1), (2, .int v2), (5, .int v5)] [.int t0] := by
  unfold wm_areLike_118 at h
  have hN := hm.2.2.2.2.2.2.1
  refine r_istore hE [(6, .int t0), (0, .ref (G.1 0)), (1, .int v1), (2, .int v2), (5, .int v5)] dX13_areLike_g3.2.2.2.2.2.2.2.2.2.2.2.2.2.1 hN (by decide) rfl ?_
  refine r_iconst (v := (0 : Int32)) hE dX13_areLike_g3.2.2.2.2.2.2.2.2.2.2.2.2.2.2.1 (by decide) ?_
  refine r_istore hE [(7, .int (0 : Int32)), (6, .int t0), (0, .ref (G.1 0)), (1, .int v1), (2, .int v2), (5, .int v5)] dX13_areLike_g3.2.2.2.2.2.2.2.2.2.2.2.2.2.2.2 hN (by decide) rfl ?_
  refine r_pick [2, 3, 4, 5, 1, 0] rfl ?_
  obtain ⟨k, h⟩ := h
  exact km_areLike_123 hE hm hF k _ _ _ _ _ _ h
def wm_areLike_96 (post : MS → Int32 → Prop) (σ : MS) (v1 : Int32) (v2 : Int32) (v3 : Int32) (t0 : Int32) : Prop := ((¬ (v3 = (0 : Int32))) → (wm_isPoint (fun (s2 : MS) (r3 : Int32) => ((r3 = (0 : Int32)) → (wm_areLike_118 post s2 v1 v2 t0 (3 : Int32))) ∧ ((¬ (r3 = (0 : Int32))) → (wm_areLike_118 post s2 v1 v2 t0 (2 : Int32)))) σ v3)) ∧ ((v3 = (0 : Int32)) → (wm_areLike_118 post σ v1 v2 t0 (1 : Int32)))
set_option maxRecDepth 20000 in
theorem km_areLike_96 {E : gEnv} {l : Launch} {D : va_G} {cl : List vw_C} {G : gAd} {post : MS → Int32 → Prop} (hE : gOK E cX13_areLike RX13 (some .boolean) 2) (hm : mOK E l D cl G (qI post) 8) (hF : gFin E) (σ : MS) (v1 : Int32) (v2 : Int32) (v3 : Int32) (t0 : Int32) (h : wm_areLike_96 post σ v1 v2 v3 t0) : GW E (mW G σ) 96 [(0, .ref (G.1 0)), (1, .int v1), (2, .int v2), (3, .int v3)] [.int t0] := by
  unfold wm_areLike_96 at h
  have hN := hm.2.2.2.2.2.2.1
  refine r_istore hE [(5, .int t0), (0, .ref (G.1 0)), (1, .int v1), (2, .int v2), (3, .int v3)] dX13_areLike_g3.2.2.1 hN (by decide) rfl ?_
  refine r_iload_n hE 4 dX13_areLike_g3.2.2.2.1 rfl rfl ?_
  refine r_if_ne hE 106 dX13_areLike_g3.2.2.2.2.1 (by decide) h (fun h => ?_) (fun h => ?_)
  · refine r_iload_n hE 4 dX13_areLike_g3.2.2.2.2.2.2.2.1 rfl rfl ?_
    refine m_callSi hE hm [.int v3] [] mc_isPoint (km_isPoint hm.2.2.2.2.2.2.2.2 h) (by decide) rfl rfl (Nat.le_of_ble_eq_true rfl) dX13_areLike_g3.2.2.2.2.2.2.2.2.1 (fun s2 r3 h => ?_)
    refine r_if_eq hE 117 dX13_areLike_g3.2.2.2.2.2.2.2.2.2.1 (by decide) h (fun h => ?_) (fun h => ?_)
    · refine r_iconst (v := (3 : Int32)) hE dX13_areLike_g3.2.2.2.2.2.2.2.2.2.2.2.2.1 (by decide) ?_
      refine r_pick [1, 2, 3, 0] rfl ?_
      exact km_areLike_118 hE hm hF _ _ _ _ _ h
    · refine r_iconst (v := (2 : Int32)) hE dX13_areLike_g3.2.2.2.2.2.2.2.2.2.2.1 (by decide) ?_
      refine r_goto hE 118 dX13_areLike_g3.2.2.2.2.2.2.2.2.2.2.2.1 (by decide) ?_
      refine r_pick [1, 2, 3, 0] rfl ?_
      exact km_areLike_118 hE hm hF _ _ _ _ _ h
  · refine r_iconst (v := (1 : Int32)) hE dX13_areLike_g3.2.2.2.2.2.1 (by decide) ?_
    refine r_goto hE 118 dX13_areLike_g3.2.2.2.2.2.2.1 (by decide) ?_
    refine r_pick [1, 2, 3, 0] rfl ?_
    exact km_areLike_118 hE hm hF _ _ _ _ _ h
def wm_areLike_91 (post : MS → Int32 → Prop) (σ : MS) (v1 : Int32) (v2 : Int32) (v3 : Int32) : Prop := wm_areLike_96 post σ v1 v2 v3 (1 : Int32)
set_option maxRecDepth 20000 in
theorem km_areLike_91 {E : gEnv} {l : Launch} {D : va_G} {cl : List vw_C} {G : gAd} {post : MS → Int32 → Prop} (hE : gOK E cX13_areLike RX13 (some .boolean) 2) (hm : mOK E l D cl G (qI post) 8) (hF : gFin E) (σ : MS) (v1 : Int32) (v2 : Int32) (v3 : Int32) (h : wm_areLike_91 post σ v1 v2 v3) : GW E (mW G σ) 91 [(0, .ref (G.1 0)), (1, .int v1), (2, .int v2), (3, .int v3)] [] := by
  unfold wm_areLike_91 at h
  have hN := hm.2.2.2.2.2.2.1
  refine r_iconst (v := (1 : Int32)) hE dX13_areLike_g2.2.2.2.2.2.2.2.2.2.2.2.2.2.2.2 (by decide) ?_
  refine r_goto hE 96 dX13_areLike_g3.1 (by decide) ?_
  exact km_areLike_96 hE hm hF _ _ _ _ _ h
def wm_areLike_95 (post : MS → Int32 → Prop) (σ : MS) (v1 : Int32) (v2 : Int32) (v3 : Int32) : Prop := wm_areLike_96 post σ v1 v2 v3 (0 : Int32)
set_option maxRecDepth 20000 in
theorem km_areLike_95 {E : gEnv} {l : Launch} {D : va_G} {cl : List vw_C} {G : gAd} {post : MS → Int32 → Prop} (hE : gOK E cX13_areLike RX13 (some .boolean) 2) (hm : mOK E l D cl G (qI post) 8) (hF : gFin E) (σ : MS) (v1 : Int32) (v2 : Int32) (v3 : Int32) (h : wm_areLike_95 post σ v1 v2 v3) : GW E (mW G σ) 95 [(0, .ref (G.1 0)), (1, .int v1), (2, .int v2), (3, .int v3)] [] := by
  unfold wm_areLike_95 at h
  have hN := hm.2.2.2.2.2.2.1
  refine r_iconst (v := (0 : Int32)) hE dX13_areLike_g3.2.1 (by decide) ?_
  exact km_areLike_96 hE hm hF _ _ _ _ _ h
def wm_areLike_76 (post : MS → Int32 → Prop) (σ : MS) (v1 : Int32) (v2 : Int32) (v3 : Int32) (v4 : Int32) : Prop := wm_isLine (fun (s4 : MS) (r5 : Int32) => ((r5 = (0 : Int32)) → (wm_areLike_95 post s4 v1 v2 v3)) ∧ ((¬ (r5 = (0 : Int32))) → (wm_isLine (fun (s6 : MS) (r7 : Int32) => ((r7 = (0 : Int32)) → (wm_areLike_95 post s6 v1 v2 v3)) ∧ ((¬ (r7 = (0 : Int32))) → (wm_areLike_91 post s6 v1 v2 v3))) s4 v4))) σ v3
set_option maxRecDepth 20000 in
theorem km_areLike_76 {E : gEnv} {l : Launch} {D : va_G} {cl : List vw_C} {G : gAd} {post : MS → Int32 → Prop} (hE : gOK E cX13_areLike RX13 (some .boolean) 2) (hm : mOK E l D cl G (qI post) 8) (hF : gFin E) (σ : MS) (v1 : Int32) (v2 : Int32) (v3 : Int32) (v4 : Int32) (h : wm_areLike_76 post σ v1 v2 v3 v4) : GW E (mW G σ) 76 [(0, .ref (G.1 0)), (1, .int v1), (2, .int v2), (3, .int v3), (4, .int v4)] [] := by
  unfold wm_areLike_76 at h
  have hN := hm.2.2.2.2.2.2.1
  refine r_iload_n hE 3 dX13_areLike_g2.2.2.2.2.2.2.2.2.2.1 rfl rfl ?_
  refine m_callSi hE hm [.int v3] [] mc_isLine (km_isLine hm.2.2.2.2.2.2.2.2 h) (by decide) rfl rfl (Nat.le_of_ble_eq_true rfl) dX13_areLike_g2.2.2.2.2.2.2.2.2.2.2.1 (fun s4 r5 h => ?_)
  refine r_if_eq hE 95 dX13_areLike_g2.2.2.2.2.2.2.2.2.2.2.2.1 (by decide) h (fun h => ?_) (fun h => ?_)
  · refine r_pick [0, 1, 2, 3] rfl ?_
    exact km_areLike_95 hE hm hF _ _ _ _ h
  · refine r_iload hE 4 dX13_areLike_g2.2.2.2.2.2.2.2.2.2.2.2.2.1 rfl ?_
    refine m_callSi hE hm [.int v4] [] mc_isLine (km_isLine hm.2.2.2.2.2.2.2.2 h) (by decide) rfl rfl (Nat.le_of_ble_eq_true rfl) dX13_areLike_g2.2.2.2.2.2.2.2.2.2.2.2.2.2.1 (fun s6 r7 h => ?_)
    refine r_if_eq hE 95 dX13_areLike_g2.2.2.2.2.2.2.2.2.2.2.2.2.2.2.1 (by decide) h (fun h => ?_) (fun h => ?_)
    · refine r_pick [0, 1, 2, 3] rfl ?_
      exact km_areLike_95 hE hm hF _ _ _ _ h
    · refine r_pick [0, 1, 2, 3] rfl ?_
      exact km_areLike_91 hE hm hF _ _ _ _ h
def wm_areLike (post : MS → Int32 → Prop) (σ : MS) (a1 : Int32) (a2 : Int32) : Prop := vp_in a1 480 ∧ (∀ x8 : Int32, x8 = m_sort σ a1.toNatClampNeg → vp_in a2 480 ∧ (∀ x9 : Int32, x9 = m_sort σ a2.toNatClampNeg → ((x8 = (6 : Int32)) → (wm_areLike_28 post σ a1 a2 x8 x9)) ∧ ((¬ (x8 = (6 : Int32))) → (((¬ (x9 = (6 : Int32))) → (((x8 = x9) → (wm_areLike_91 post σ a1 a2 x8)) ∧ ((¬ (x8 = x9)) → (wm_isPoint (fun (s10 : MS) (r11 : Int32) => ((r11 = (0 : Int32)) → (wm_areLike_76 post s10 a1 a2 x8 x9)) ∧ ((¬ (r11 = (0 : Int32))) → (wm_isPoint (fun (s12 : MS) (r13 : Int32) => ((¬ (r13 = (0 : Int32))) → (wm_areLike_91 post s12 a1 a2 x8)) ∧ ((r13 = (0 : Int32)) → (wm_areLike_76 post s12 a1 a2 x8 x9))) s10 x9))) σ x8)))) ∧ ((x9 = (6 : Int32)) → (wm_areLike_28 post σ a1 a2 x8 x9))))))
set_option maxRecDepth 20000 in
theorem km_areLike {l : Launch} {D : va_G} {cl : List vw_C} {G : gAd} {post : MS → Int32 → Prop} (hcl : mC cl) {σ : MS} {a1 : Int32} {a2 : Int32} (h : wm_areLike post σ a1 a2) : mMet l D cl G yX13_areLike cX13_areLike 8 (some .boolean) 2 [.ref (G.1 0), .int a1, .int a2] σ (qI post) := by
  unfold wm_areLike at h
  refine m_enter hcl (by decide +kernel) rfl [(0, .ref (G.1 0)), (1, .int a1), (2, .int a2)] rfl (Nat.le_of_ble_eq_true rfl) ?_
  intro E hE hm hF
  have hN := hm.2.2.2.2.2.2.1
  refine r_aload_n hE 0 dX13_areLike_g0.1 rfl rfl ?_
  refine mg_sort hE hm dX13_areLike_g0.2.1 ?_
  refine r_iload_n hE 1 dX13_areLike_g0.2.2.1 rfl rfl ?_
  obtain ⟨hi, h⟩ := h
  refine ml_sort hE hm dX13_areLike_g0.2.2.2.1 hi ?_
  refine r_topi h (fun x8 ex8 h => ?_)
  refine r_istore_n hE [(3, .int x8), (0, .ref (G.1 0)), (1, .int a1), (2, .int a2)] dX13_areLike_g0.2.2.2.2.1 rfl hN (by decide) rfl ?_
  refine r_aload_n hE 1 dX13_areLike_g0.2.2.2.2.2.1 rfl rfl ?_
  refine mg_sort hE hm dX13_areLike_g0.2.2.2.2.2.2.1 ?_
  refine r_iload_n hE 3 dX13_areLike_g0.2.2.2.2.2.2.2.1 rfl rfl ?_
  obtain ⟨hi, h⟩ := h
  refine ml_sort hE hm dX13_areLike_g0.2.2.2.2.2.2.2.2.1 hi ?_
  refine r_topi h (fun x9 ex9 h => ?_)
  refine r_istore hE [(4, .int x9), (3, .int x8), (0, .ref (G.1 0)), (1, .int a1), (2, .int a2)] dX13_areLike_g0.2.2.2.2.2.2.2.2.2.1 hN (by decide) rfl ?_
  refine r_iload_n hE 1 dX13_areLike_g0.2.2.2.2.2.2.2.2.2.2.1 rfl rfl ?_
  refine r_bipush (v := (6 : Int32)) hE dX13_areLike_g0.2.2.2.2.2.2.2.2.2.2.2.1 (by decide) ?_
  refine r_icmp_eq hE 28 dX13_areLike_g0.2.2.2.2.2.2.2.2.2.2.2.2.1 (by decide) h (fun h => ?_) (fun h => ?_)
  · refine r_pick [2, 3, 4, 1, 0] rfl ?_
    exact km_areLike_28 hE hm hF _ _ _ _ _ h
  · refine r_iload hE 0 dX13_areLike_g0.2.2.2.2.2.2.2.2.2.2.2.2.2.1 rfl ?_
    refine r_bipush (v := (6 : Int32)) hE dX13_areLike_g0.2.2.2.2.2.2.2.2.2.2.2.2.2.2.1 (by decide) ?_
    refine r_icmp_ne hE 55 dX13_areLike_g0.2.2.2.2.2.2.2.2.2.2.2.2.2.2.2 (by decide) h (fun h => ?_) (fun h => ?_)
    · refine r_iload_n hE 1 dX13_areLike_g2.1 rfl rfl ?_
      refine r_iload hE 0 dX13_areLike_g2.2.1 rfl ?_
      refine r_icmp_eq hE 91 dX13_areLike_g2.2.2.1 (by decide) h (fun h => ?_) (fun h => ?_)
      · refine r_pick [2, 3, 4, 1] rfl ?_
        exact km_areLike_91 hE hm hF _ _ _ _ h
      · refine r_iload_n hE 1 dX13_areLike_g2.2.2.2.1 rfl rfl ?_
        refine m_callSi hE hm [.int x8] [] mc_isPoint (km_isPoint hm.2.2.2.2.2.2.2.2 h) (by decide) rfl rfl (Nat.le_of_ble_eq_true rfl) dX13_areLike_g2.2.2.2.2.1 (fun s10 r11 h => ?_)
        refine r_if_eq hE 76 dX13_areLike_g2.2.2.2.2.2.1 (by decide) h (fun h => ?_) (fun h => ?_)
        · refine r_pick [2, 3, 4, 1, 0] rfl ?_
          exact km_areLike_76 hE hm hF _ _ _ _ _ h
        · refine r_iload hE 0 dX13_areLike_g2.2.2.2.2.2.2.1 rfl ?_
          refine m_callSi hE hm [.int x9] [] mc_isPoint (km_isPoint hm.2.2.2.2.2.2.2.2 h) (by decide) rfl rfl (Nat.le_of_ble_eq_true rfl) dX13_areLike_g2.2.2.2.2.2.2.2.1 (fun s12 r13 h => ?_)
          refine r_if_ne hE 91 dX13_areLike_g2.2.2.2.2.2.2.2.2.1 (by decide) h (fun h => ?_) (fun h => ?_)
          · refine r_pick [2, 3, 4, 1] rfl ?_
            exact km_areLike_91 hE hm hF _ _ _ _ h
          · refine r_pick [2, 3, 4, 1, 0] rfl ?_
            exact km_areLike_76 hE hm hF _ _ _ _ _ h
    · refine r_pick [2, 3, 4, 1, 0] rfl ?_
      exact km_areLike_28 hE hm hF _ _ _ _ _ h
/-! isWithin -/
def wm_isWithin (post : MS → Int32 → Prop) (σ : MS) (a1 : Int32) (a2 : Int32) (a3 : Int32) : Prop := vp_in (((7 : Int32) * a1) + a2) 3360 ∧ (vp_in (((7 : Int32) * a1) + a2) 3360 ∧ (vp_in ((((7 : Int32) * a3) + (3 : Int32)) + a2) 3360 ∧ (vp_in ((((7 : Int32) * a3) + (3 : Int32)) + a2) 3360 ∧ (wm_compare (fun (s1 : MS) (r2 : Int32) => vp_in (((7 : Int32) * a1) + a2) 3360 ∧ (vp_in (((7 : Int32) * a1) + a2) 3360 ∧ (vp_in ((((7 : Int32) * a3) + (5 : Int32)) + a2) 3360 ∧ (vp_in ((((7 : Int32) * a3) + (5 : Int32)) + a2) 3360 ∧ (wm_compare (fun (s3 : MS) (r4 : Int32) => (((0 : Int32) < (r2 * r4)) → (post s3 (0 : Int32))) ∧ ((¬ ((0 : Int32) < (r2 * r4))) → (post s3 (1 : Int32)))) s1 (m_up s1 (((7 : Int32) * a1) + a2).toNatClampNeg) (m_low s1 (((7 : Int32) * a1) + a2).toNatClampNeg) (m_up s1 ((((7 : Int32) * a3) + (5 : Int32)) + a2).toNatClampNeg) (m_low s1 ((((7 : Int32) * a3) + (5 : Int32)) + a2).toNatClampNeg)))))) σ (m_up σ (((7 : Int32) * a1) + a2).toNatClampNeg) (m_low σ (((7 : Int32) * a1) + a2).toNatClampNeg) (m_up σ ((((7 : Int32) * a3) + (3 : Int32)) + a2).toNatClampNeg) (m_low σ ((((7 : Int32) * a3) + (3 : Int32)) + a2).toNatClampNeg)))))
set_option maxRecDepth 20000 in
theorem km_isWithin {l : Launch} {D : va_G} {cl : List vw_C} {G : gAd} {post : MS → Int32 → Prop} (hcl : mC cl) {σ : MS} {a1 : Int32} {a2 : Int32} {a3 : Int32} (h : wm_isWithin post σ a1 a2 a3) : mMet l D cl G yX13_isWithin cX13_isWithin 6 (some .boolean) 2 [.ref (G.1 0), .int a1, .int a2, .int a3] σ (qI post) := by
  unfold wm_isWithin at h
  refine m_enter hcl (by decide +kernel) rfl [(0, .ref (G.1 0)), (1, .int a1), (2, .int a2), (3, .int a3)] rfl (Nat.le_of_ble_eq_true rfl) ?_
  intro E hE hm hF
  have hN := hm.2.2.2.2.2.2.1
  refine r_aload_n hE 0 dX13_isWithin_g0.1 rfl rfl ?_
  refine mg_up hE hm dX13_isWithin_g0.2.1 ?_
  refine r_bipush (v := (7 : Int32)) hE dX13_isWithin_g0.2.2.1 (by decide) ?_
  refine r_iload_n hE 1 dX13_isWithin_g0.2.2.2.1 rfl rfl ?_
  refine r_imul hE dX13_isWithin_g0.2.2.2.2.1 ?_
  refine r_iload_n hE 2 dX13_isWithin_g0.2.2.2.2.2.1 rfl rfl ?_
  refine r_iadd hE dX13_isWithin_g0.2.2.2.2.2.2.1 ?_
  obtain ⟨hi, h⟩ := h
  refine ml_up hE hm dX13_isWithin_g0.2.2.2.2.2.2.2.1 hi ?_
  refine r_aload_n hE 0 dX13_isWithin_g0.2.2.2.2.2.2.2.2.1 rfl rfl ?_
  refine mg_low hE hm dX13_isWithin_g0.2.2.2.2.2.2.2.2.2.1 ?_
  refine r_bipush (v := (7 : Int32)) hE dX13_isWithin_g0.2.2.2.2.2.2.2.2.2.2.1 (by decide) ?_
  refine r_iload_n hE 1 dX13_isWithin_g0.2.2.2.2.2.2.2.2.2.2.2.1 rfl rfl ?_
  refine r_imul hE dX13_isWithin_g0.2.2.2.2.2.2.2.2.2.2.2.2.1 ?_
  refine r_iload_n hE 2 dX13_isWithin_g0.2.2.2.2.2.2.2.2.2.2.2.2.2.1 rfl rfl ?_
  refine r_iadd hE dX13_isWithin_g0.2.2.2.2.2.2.2.2.2.2.2.2.2.2.1 ?_
  obtain ⟨hi, h⟩ := h
  refine ml_low hE hm dX13_isWithin_g0.2.2.2.2.2.2.2.2.2.2.2.2.2.2.2 hi ?_
  refine r_aload_n hE 0 dX13_isWithin_g1.1 rfl rfl ?_
  refine mg_up hE hm dX13_isWithin_g1.2.1 ?_
  refine r_bipush (v := (7 : Int32)) hE dX13_isWithin_g1.2.2.1 (by decide) ?_
  refine r_iload_n hE 3 dX13_isWithin_g1.2.2.2.1 rfl rfl ?_
  refine r_imul hE dX13_isWithin_g1.2.2.2.2.1 ?_
  refine r_iconst (v := (3 : Int32)) hE dX13_isWithin_g1.2.2.2.2.2.1 (by decide) ?_
  refine r_iadd hE dX13_isWithin_g1.2.2.2.2.2.2.1 ?_
  refine r_iload_n hE 2 dX13_isWithin_g1.2.2.2.2.2.2.2.1 rfl rfl ?_
  refine r_iadd hE dX13_isWithin_g1.2.2.2.2.2.2.2.2.1 ?_
  obtain ⟨hi, h⟩ := h
  refine ml_up hE hm dX13_isWithin_g1.2.2.2.2.2.2.2.2.2.1 hi ?_
  refine r_aload_n hE 0 dX13_isWithin_g1.2.2.2.2.2.2.2.2.2.2.1 rfl rfl ?_
  refine mg_low hE hm dX13_isWithin_g1.2.2.2.2.2.2.2.2.2.2.2.1 ?_
  refine r_bipush (v := (7 : Int32)) hE dX13_isWithin_g1.2.2.2.2.2.2.2.2.2.2.2.2.1 (by decide) ?_
  refine r_iload_n hE 3 dX13_isWithin_g1.2.2.2.2.2.2.2.2.2.2.2.2.2.1 rfl rfl ?_
  refine r_imul hE dX13_isWithin_g1.2.2.2.2.2.2.2.2.2.2.2.2.2.2.1 ?_
  refine r_iconst (v := (3 : Int32)) hE dX13_isWithin_g1.2.2.2.2.2.2.2.2.2.2.2.2.2.2.2 (by decide) ?_
  refine r_iadd hE dX13_isWithin_g2.1 ?_
  refine r_iload_n hE 2 dX13_isWithin_g2.2.1 rfl rfl ?_
  refine r_iadd hE dX13_isWithin_g2.2.2.1 ?_
  obtain ⟨hi, h⟩ := h
  refine ml_low hE hm dX13_isWithin_g2.2.2.2.1 hi ?_
  refine m_callSi hE hm [.long (m_up σ (((7 : Int32) * a1) + a2).toNatClampNeg), .long (m_low σ (((7 : Int32) * a1) + a2).toNatClampNeg), .long (m_up σ ((((7 : Int32) * a3) + (3 : Int32)) + a2).toNatClampNeg), .long (m_low σ ((((7 : Int32) * a3) + (3 : Int32)) + a2).toNatClampNeg)] [] mc_compare (km_compare hm.2.2.2.2.2.2.2.2 h) (by decide) rfl rfl (Nat.le_of_ble_eq_true rfl) dX13_isWithin_g2.2.2.2.2.1 (fun s1 r2 h => ?_)
  refine r_istore hE [(4, .int r2), (0, .ref (G.1 0)), (1, .int a1), (2, .int a2), (3, .int a3)] dX13_isWithin_g2.2.2.2.2.2.1 hN (by decide) rfl ?_
  refine r_aload_n hE 1 dX13_isWithin_g2.2.2.2.2.2.2.1 rfl rfl ?_
  refine mg_up hE hm dX13_isWithin_g2.2.2.2.2.2.2.2.1 ?_
  refine r_bipush (v := (7 : Int32)) hE dX13_isWithin_g2.2.2.2.2.2.2.2.2.1 (by decide) ?_
  refine r_iload_n hE 2 dX13_isWithin_g2.2.2.2.2.2.2.2.2.2.1 rfl rfl ?_
  refine r_imul hE dX13_isWithin_g2.2.2.2.2.2.2.2.2.2.2.1 ?_
  refine r_iload_n hE 3 dX13_isWithin_g2.2.2.2.2.2.2.2.2.2.2.2.1 rfl rfl ?_
  refine r_iadd hE dX13_isWithin_g2.2.2.2.2.2.2.2.2.2.2.2.2.1 ?_
  obtain ⟨hi, h⟩ := h
  refine ml_up hE hm dX13_isWithin_g2.2.2.2.2.2.2.2.2.2.2.2.2.2.1 hi ?_
  refine r_aload_n hE 1 dX13_isWithin_g2.2.2.2.2.2.2.2.2.2.2.2.2.2.2.1 rfl rfl ?_
  refine mg_low hE hm dX13_isWithin_g2.2.2.2.2.2.2.2.2.2.2.2.2.2.2.2 ?_
  refine r_bipush (v := (7 : Int32)) hE dX13_isWithin_g3.1 (by decide) ?_
  refine r_iload_n hE 2 dX13_isWithin_g3.2.1 rfl rfl ?_
  refine r_imul hE dX13_isWithin_g3.2.2.1 ?_
  refine r_iload_n hE 3 dX13_isWithin_g3.2.2.2.1 rfl rfl ?_
  refine r_iadd hE dX13_isWithin_g3.2.2.2.2.1 ?_
  obtain ⟨hi, h⟩ := h
  refine ml_low hE hm dX13_isWithin_g3.2.2.2.2.2.1 hi ?_
  refine r_aload_n hE 1 dX13_isWithin_g3.2.2.2.2.2.2.1 rfl rfl ?_
  refine mg_up hE hm dX13_isWithin_g3.2.2.2.2.2.2.2.1 ?_
  refine r_bipush (v := (7 : Int32)) hE dX13_isWithin_g3.2.2.2.2.2.2.2.2.1 (by decide) ?_
  refine r_iload_n hE 4 dX13_isWithin_g3.2.2.2.2.2.2.2.2.2.1 rfl rfl ?_
  refine r_imul hE dX13_isWithin_g3.2.2.2.2.2.2.2.2.2.2.1 ?_
  refine r_iconst (v := (5 : Int32)) hE dX13_isWithin_g3.2.2.2.2.2.2.2.2.2.2.2.1 (by decide) ?_
  refine r_iadd hE dX13_isWithin_g3.2.2.2.2.2.2.2.2.2.2.2.2.1 ?_
  refine r_iload_n hE 3 dX13_isWithin_g3.2.2.2.2.2.2.2.2.2.2.2.2.2.1 rfl rfl ?_
  refine r_iadd hE dX13_isWithin_g3.2.2.2.2.2.2.2.2.2.2.2.2.2.2.1 ?_
  obtain ⟨hi, h⟩ := h
  refine ml_up hE hm dX13_isWithin_g3.2.2.2.2.2.2.2.2.2.2.2.2.2.2.2 hi ?_
  refine r_aload_n hE 1 dX13_isWithin_g4.1 rfl rfl ?_
  refine mg_low hE hm dX13_isWithin_g4.2.1 ?_
  refine r_bipush (v := (7 : Int32)) hE dX13_isWithin_g4.2.2.1 (by decide) ?_
  refine r_iload_n hE 4 dX13_isWithin_g4.2.2.2.1 rfl rfl ?_
  refine r_imul hE dX13_isWithin_g4.2.2.2.2.1 ?_
  refine r_iconst (v := (5 : Int32)) hE dX13_isWithin_g4.2.2.2.2.2.1 (by decide) ?_
  refine r_iadd hE dX13_isWithin_g4.2.2.2.2.2.2.1 ?_
  refine r_iload_n hE 3 dX13_isWithin_g4.2.2.2.2.2.2.2.1 rfl rfl ?_
  refine r_iadd hE dX13_isWithin_g4.2.2.2.2.2.2.2.2.1 ?_
  obtain ⟨hi, h⟩ := h
  refine ml_low hE hm dX13_isWithin_g4.2.2.2.2.2.2.2.2.2.1 hi ?_
  refine m_callSi hE hm [.long (m_up s1 (((7 : Int32) * a1) + a2).toNatClampNeg), .long (m_low s1 (((7 : Int32) * a1) + a2).toNatClampNeg), .long (m_up s1 ((((7 : Int32) * a3) + (5 : Int32)) + a2).toNatClampNeg), .long (m_low s1 ((((7 : Int32) * a3) + (5 : Int32)) + a2).toNatClampNeg)] [] mc_compare (km_compare hm.2.2.2.2.2.2.2.2 h) (by decide) rfl rfl (Nat.le_of_ble_eq_true rfl) dX13_isWithin_g4.2.2.2.2.2.2.2.2.2.2.1 (fun s3 r4 h => ?_)
  refine r_istore hE [(5, .int r4), (4, .int r2), (0, .ref (G.1 0)), (1, .int a1), (2, .int a2), (3, .int a3)] dX13_isWithin_g4.2.2.2.2.2.2.2.2.2.2.2.1 hN (by decide) rfl ?_
  refine r_iload hE 1 dX13_isWithin_g4.2.2.2.2.2.2.2.2.2.2.2.2.1 rfl ?_
  refine r_iload hE 0 dX13_isWithin_g4.2.2.2.2.2.2.2.2.2.2.2.2.2.1 rfl ?_
  refine r_imul hE dX13_isWithin_g4.2.2.2.2.2.2.2.2.2.2.2.2.2.2.1 ?_
  refine r_if_gt hE 118 dX13_isWithin_g4.2.2.2.2.2.2.2.2.2.2.2.2.2.2.2 (by decide) h (fun h => ?_) (fun h => ?_)
  · refine r_iconst (v := (0 : Int32)) hE dX13_isWithin_g5.2.2.1 (by decide) ?_
    exact m_zret hE hm hF dX13_isWithin_g5.2.2.2 (Or.inl rfl) h
  · refine r_iconst (v := (1 : Int32)) hE dX13_isWithin_g5.1 (by decide) ?_
    refine r_goto hE 119 dX13_isWithin_g5.2.1 (by decide) ?_
    exact m_zret hE hm hF dX13_isWithin_g5.2.2.2 (Or.inr rfl) h
/-! isOn -/
def wm_isOn_205 (post : MS → Int32 → Prop) (σ : MS) (t1 : Int32) : Prop := wm_yes (fun (s1 : MS) (r2 : Int32) => post s1 r2) σ t1
set_option maxRecDepth 20000 in
theorem km_isOn_205 {E : gEnv} {l : Launch} {D : va_G} {cl : List vw_C} {G : gAd} {post : MS → Int32 → Prop} (hE : gOK E cX13_isOn RX13 (some .int) 5) (hm : mOK E l D cl G (qI post) 4) (hF : gFin E) (σ : MS) (t1 : Int32) (h : wm_isOn_205 post σ t1) : GW E (mW G σ) 205 [] [.int t1, .ref (G.1 0)] := by
  unfold wm_isOn_205 at h
  have hN := hm.2.2.2.2.2.2.1
  refine m_callVi hE hm [.int t1] [] mc_yes (km_yes hm.2.2.2.2.2.2.2.2 h) (by decide) rfl rfl (Nat.le_of_ble_eq_true rfl) dX13_isOn_g8.2.1 (fun s1 r2 h => ?_)
  exact m_iret hE hm hF dX13_isOn_g8.2.2 h
def wm_isOn_204 (post : MS → Int32 → Prop) (σ : MS) : Prop := wm_isOn_205 post σ (0 : Int32)
set_option maxRecDepth 20000 in
theorem km_isOn_204 {E : gEnv} {l : Launch} {D : va_G} {cl : List vw_C} {G : gAd} {post : MS → Int32 → Prop} (hE : gOK E cX13_isOn RX13 (some .int) 5) (hm : mOK E l D cl G (qI post) 4) (hF : gFin E) (σ : MS) (h : wm_isOn_204 post σ) : GW E (mW G σ) 204 [] [.ref (G.1 0)] := by
  unfold wm_isOn_204 at h
  have hN := hm.2.2.2.2.2.2.1
  refine r_iconst (v := (0 : Int32)) hE dX13_isOn_g8.1 (by decide) ?_
  exact km_isOn_205 hE hm hF _ _ h
def wm_isOn_116 (post : MS → Int32 → Prop) (σ : MS) (t1 : Int32) : Prop := wm_yes (fun (s3 : MS) (r4 : Int32) => post s3 r4) σ t1
set_option maxRecDepth 20000 in
theorem km_isOn_116 {E : gEnv} {l : Launch} {D : va_G} {cl : List vw_C} {G : gAd} {post : MS → Int32 → Prop} (hE : gOK E cX13_isOn RX13 (some .int) 5) (hm : mOK E l D cl G (qI post) 4) (hF : gFin E) (σ : MS) (t1 : Int32) (h : wm_isOn_116 post σ t1) : GW E (mW G σ) 116 [] [.int t1, .ref (G.1 0)] := by
  unfold wm_isOn_116 at h
  have hN := hm.2.2.2.2.2.2.1
  refine m_callVi hE hm [.int t1] [] mc_yes (km_yes hm.2.2.2.2.2.2.2.2 h) (by decide) rfl rfl (Nat.le_of_ble_eq_true rfl) dX13_isOn_g4.2.2.2.2.2.2.2.2.1 (fun s3 r4 h => ?_)
  exact m_iret hE hm hF dX13_isOn_g4.2.2.2.2.2.2.2.2.2.1 h
def wm_isOn_115 (post : MS → Int32 → Prop) (σ : MS) : Prop := wm_isOn_116 post σ (0 : Int32)
set_option maxRecDepth 20000 in
theorem km_isOn_115 {E : gEnv} {l : Launch} {D : va_G} {cl : List vw_C} {G : gAd} {post : MS → Int32 → Prop} (hE : gOK E cX13_isOn RX13 (some .int) 5) (hm : mOK E l D cl G (qI post) 4) (hF : gFin E) (σ : MS) (h : wm_isOn_115 post σ) : GW E (mW G σ) 115 [] [.ref (G.1 0)] := by
  unfold wm_isOn_115 at h
  have hN := hm.2.2.2.2.2.2.1
  refine r_iconst (v := (0 : Int32)) hE dX13_isOn_g4.2.2.2.2.2.2.2.1 (by decide) ?_
  exact km_isOn_116 hE hm hF _ _ h
def wm_isOn_111 (post : MS → Int32 → Prop) (σ : MS) : Prop := wm_isOn_116 post σ (1 : Int32)
set_option maxRecDepth 20000 in
theorem km_isOn_111 {E : gEnv} {l : Launch} {D : va_G} {cl : List vw_C} {G : gAd} {post : MS → Int32 → Prop} (hE : gOK E cX13_isOn RX13 (some .int) 5) (hm : mOK E l D cl G (qI post) 4) (hF : gFin E) (σ : MS) (h : wm_isOn_111 post σ) : GW E (mW G σ) 111 [] [.ref (G.1 0)] := by
  unfold wm_isOn_111 at h
  have hN := hm.2.2.2.2.2.2.1
  refine r_iconst (v := (1 : Int32)) hE dX13_isOn_g4.2.2.2.2.2.1 (by decide) ?_
  refine r_goto hE 116 dX13_isOn_g4.2.2.2.2.2.2.1 (by decide) ?_
  exact km_isOn_116 hE hm hF _ _ h
def wm_isOn_75 (post : MS → Int32 → Prop) (σ : MS) (v1 : Int32) (v2 : Int32) (t0 : Int32) : Prop := ((t0 = (0 : Int32)) → (wm_isOn_115 post σ)) ∧ ((¬ (t0 = (0 : Int32))) → (vp_in v2 480 ∧ ((((m_sort σ v2.toNatClampNeg) = (3 : Int32)) → (wm_isOn_111 post σ)) ∧ ((¬ ((m_sort σ v2.toNatClampNeg) = (3 : Int32))) → (wm_isWithin (fun (s5 : MS) (r6 : Int32) => ((r6 = (0 : Int32)) → (wm_isOn_115 post s5)) ∧ ((¬ (r6 = (0 : Int32))) → (wm_isWithin (fun (s7 : MS) (r8 : Int32) => ((r8 = (0 : Int32)) → (wm_isOn_115 post s7)) ∧ ((¬ (r8 = (0 : Int32))) → (wm_isOn_111 post s7))) s5 v1 (1 : Int32) v2))) σ v1 (0 : Int32) v2)))))
set_option maxRecDepth 20000 in
theorem km_isOn_75 {E : gEnv} {l : Launch} {D : va_G} {cl : List vw_C} {G : gAd} {post : MS → Int32 → Prop} (hE : gOK E cX13_isOn RX13 (some .int) 5) (hm : mOK E l D cl G (qI post) 4) (hF : gFin E) (σ : MS) (v1 : Int32) (v2 : Int32) (t0 : Int32) (h : wm_isOn_75 post σ v1 v2 t0) : GW E (mW G σ) 75 [(0, .ref (G.1 0)), (1, .int v1), (2, .int v2)] [.int t0] := by
  unfold wm_isOn_75 at h
  have hN := hm.2.2.2.2.2.2.1
  refine r_istore_n hE [(3, .int t0), (0, .ref (G.1 0)), (1, .int v1), (2, .int v2)] dX13_isOn_g2.2.2.2.2.2.2.2.2.2.2.2.2.2.2.2 rfl hN (by decide) rfl ?_
  refine r_aload_n hE 1 dX13_isOn_g3.1 rfl rfl ?_
  refine r_iload_n hE 0 dX13_isOn_g3.2.1 rfl rfl ?_
  refine r_if_eq hE 115 dX13_isOn_g3.2.2.1 (by decide) h (fun h => ?_) (fun h => ?_)
  · refine r_pick [] rfl ?_
    exact km_isOn_115 hE hm hF _ h
  · refine r_aload_n hE 1 dX13_isOn_g3.2.2.2.1 rfl rfl ?_
    refine mg_sort hE hm dX13_isOn_g3.2.2.2.2.1 ?_
    refine r_iload_n hE 3 dX13_isOn_g3.2.2.2.2.2.1 rfl rfl ?_
    obtain ⟨hi, h⟩ := h
    refine ml_sort hE hm dX13_isOn_g3.2.2.2.2.2.2.1 hi ?_
    refine r_iconst (v := (3 : Int32)) hE dX13_isOn_g3.2.2.2.2.2.2.2.1 (by decide) ?_
    refine r_icmp_eq hE 111 dX13_isOn_g3.2.2.2.2.2.2.2.2.1 (by decide) h (fun h => ?_) (fun h => ?_)
    · refine r_pick [] rfl ?_
      exact km_isOn_111 hE hm hF _ h
    · refine r_aload_n hE 1 dX13_isOn_g3.2.2.2.2.2.2.2.2.2.1 rfl rfl ?_
      refine r_iload_n hE 2 dX13_isOn_g3.2.2.2.2.2.2.2.2.2.2.1 rfl rfl ?_
      refine r_iconst (v := (0 : Int32)) hE dX13_isOn_g3.2.2.2.2.2.2.2.2.2.2.2.1 (by decide) ?_
      refine r_iload_n hE 3 dX13_isOn_g3.2.2.2.2.2.2.2.2.2.2.2.2.1 rfl rfl ?_
      refine m_callVi hE hm [.int v1, .int (0 : Int32), .int v2] [.ref (G.1 0)] mc_isWithin (km_isWithin hm.2.2.2.2.2.2.2.2 h) (by decide) rfl rfl (Nat.le_of_ble_eq_true rfl) dX13_isOn_g3.2.2.2.2.2.2.2.2.2.2.2.2.2.1 (fun s5 r6 h => ?_)
      refine r_if_eq hE 115 dX13_isOn_g3.2.2.2.2.2.2.2.2.2.2.2.2.2.2.1 (by decide) h (fun h => ?_) (fun h => ?_)
      · refine r_pick [] rfl ?_
        exact km_isOn_115 hE hm hF _ h
      · refine r_aload_n hE 1 dX13_isOn_g3.2.2.2.2.2.2.2.2.2.2.2.2.2.2.2 rfl rfl ?_
        refine r_iload_n hE 2 dX13_isOn_g4.1 rfl rfl ?_
        refine r_iconst (v := (1 : Int32)) hE dX13_isOn_g4.2.1 (by decide) ?_
        refine r_iload_n hE 3 dX13_isOn_g4.2.2.1 rfl rfl ?_
        refine m_callVi hE hm [.int v1, .int (1 : Int32), .int v2] [.ref (G.1 0)] mc_isWithin (km_isWithin hm.2.2.2.2.2.2.2.2 h) (by decide) rfl rfl (Nat.le_of_ble_eq_true rfl) dX13_isOn_g4.2.2.2.1 (fun s7 r8 h => ?_)
        refine r_if_eq hE 115 dX13_isOn_g4.2.2.2.2.1 (by decide) h (fun h => ?_) (fun h => ?_)
        · refine r_pick [] rfl ?_
          exact km_isOn_115 hE hm hF _ h
        · refine r_pick [] rfl ?_
          exact km_isOn_111 hE hm hF _ h
def wm_isOn_74 (post : MS → Int32 → Prop) (σ : MS) (v1 : Int32) (v2 : Int32) : Prop := wm_isOn_75 post σ v1 v2 (0 : Int32)
set_option maxRecDepth 20000 in
theorem km_isOn_74 {E : gEnv} {l : Launch} {D : va_G} {cl : List vw_C} {G : gAd} {post : MS → Int32 → Prop} (hE : gOK E cX13_isOn RX13 (some .int) 5) (hm : mOK E l D cl G (qI post) 4) (hF : gFin E) (σ : MS) (v1 : Int32) (v2 : Int32) (h : wm_isOn_74 post σ v1 v2) : GW E (mW G σ) 74 [(0, .ref (G.1 0)), (1, .int v1), (2, .int v2)] [] := by
  unfold wm_isOn_74 at h
  have hN := hm.2.2.2.2.2.2.1
  refine r_iconst (v := (0 : Int32)) hE dX13_isOn_g2.2.2.2.2.2.2.2.2.2.2.2.2.2.2.1 (by decide) ?_
  exact km_isOn_75 hE hm hF _ _ _ _ h
def wm_isOn (post : MS → Int32 → Prop) (σ : MS) (a1 : Int32) (a2 : Int32) : Prop := vp_in a2 480 ∧ (wm_isLine (fun (s9 : MS) (r10 : Int32) => ((r10 = (0 : Int32)) → (vp_in a2 480 ∧ ((((m_sort s9 a2.toNatClampNeg) = (5 : Int32)) → (wm_centre (fun (s11 : MS) (r12 : Int32) => wm_dist (fun (s13 : MS) => vp_in ((m_piled s13) - (1 : Int32)) 40 ∧ (vp_in (((7 : Int32) * a2) + (2 : Int32)) 3360 ∧ (((¬ ((lg_cmp (m_top s13 ((m_piled s13) - (1 : Int32)).toNatClampNeg) (m_up s13 (((7 : Int32) * a2) + (2 : Int32)).toNatClampNeg)) = (0 : Int32))) → (wm_isOn_204 post s13)) ∧ (((lg_cmp (m_top s13 ((m_piled s13) - (1 : Int32)).toNatClampNeg) (m_up s13 (((7 : Int32) * a2) + (2 : Int32)).toNatClampNeg)) = (0 : Int32)) → (vp_in ((m_piled s13) - (1 : Int32)) 40 ∧ (vp_in (((7 : Int32) * a2) + (2 : Int32)) 3360 ∧ (((¬ ((lg_cmp (m_bottom s13 ((m_piled s13) - (1 : Int32)).toNatClampNeg) (m_low s13 (((7 : Int32) * a2) + (2 : Int32)).toNatClampNeg)) = (0 : Int32))) → (wm_isOn_204 post s13)) ∧ (((lg_cmp (m_bottom s13 ((m_piled s13) - (1 : Int32)).toNatClampNeg) (m_low s13 (((7 : Int32) * a2) + (2 : Int32)).toNatClampNeg)) = (0 : Int32)) → (wm_isOn_205 post s13 (1 : Int32)))))))))) s11 a1 r12) s9 a2)) ∧ ((¬ ((m_sort s9 a2.toNatClampNeg) = (5 : Int32))) → (wm_fail (fun (s14 : MS) => post s14 a1) s9 (2 : Int32)))))) ∧ ((¬ (r10 = (0 : Int32))) → (wm_through (fun (s15 : MS) => vp_in ((m_piled s15) - (1 : Int32)) 40 ∧ (vp_in (((7 : Int32) * a2) + (2 : Int32)) 3360 ∧ (((¬ ((lg_cmp (m_top s15 ((m_piled s15) - (1 : Int32)).toNatClampNeg) (m_up s15 (((7 : Int32) * a2) + (2 : Int32)).toNatClampNeg)) = (0 : Int32))) → (wm_isOn_74 post s15 a1 a2)) ∧ (((lg_cmp (m_top s15 ((m_piled s15) - (1 : Int32)).toNatClampNeg) (m_up s15 (((7 : Int32) * a2) + (2 : Int32)).toNatClampNeg)) = (0 : Int32)) → (vp_in ((m_piled s15) - (1 : Int32)) 40 ∧ (vp_in (((7 : Int32) * a2) + (2 : Int32)) 3360 ∧ (((¬ ((lg_cmp (m_bottom s15 ((m_piled s15) - (1 : Int32)).toNatClampNeg) (m_low s15 (((7 : Int32) * a2) + (2 : Int32)).toNatClampNeg)) = (0 : Int32))) → (wm_isOn_74 post s15 a1 a2)) ∧ (((lg_cmp (m_bottom s15 ((m_piled s15) - (1 : Int32)).toNatClampNeg) (m_low s15 (((7 : Int32) * a2) + (2 : Int32)).toNatClampNeg)) = (0 : Int32)) → (wm_isOn_75 post s15 a1 a2 (1 : Int32)))))))))) s9 a2 a1))) σ (m_sort σ a2.toNatClampNeg))
set_option maxRecDepth 20000 in
theorem km_isOn {l : Launch} {D : va_G} {cl : List vw_C} {G : gAd} {post : MS → Int32 → Prop} (hcl : mC cl) {σ : MS} {a1 : Int32} {a2 : Int32} (h : wm_isOn post σ a1 a2) : mMet l D cl G yX13_isOn cX13_isOn 4 (some .int) 5 [.ref (G.1 0), .int a1, .int a2] σ (qI post) := by
  unfold wm_isOn at h
  refine m_enter hcl (by decide +kernel) rfl [(0, .ref (G.1 0)), (1, .int a1), (2, .int a2)] rfl (Nat.le_of_ble_eq_true rfl) ?_
  intro E hE hm hF
  have hN := hm.2.2.2.2.2.2.1
  refine r_aload_n hE 0 dX13_isOn_g0.1 rfl rfl ?_
  refine mg_sort hE hm dX13_isOn_g0.2.1 ?_
  refine r_iload_n hE 2 dX13_isOn_g0.2.2.1 rfl rfl ?_
  obtain ⟨hi, h⟩ := h
  refine ml_sort hE hm dX13_isOn_g0.2.2.2.1 hi ?_
  refine m_callSi hE hm [.int (m_sort σ a2.toNatClampNeg)] [] mc_isLine (km_isLine hm.2.2.2.2.2.2.2.2 h) (by decide) rfl rfl (Nat.le_of_ble_eq_true rfl) dX13_isOn_g0.2.2.2.2.1 (fun s9 r10 h => ?_)
  refine r_if_eq hE 120 dX13_isOn_g0.2.2.2.2.2.1 (by decide) h (fun h => ?_) (fun h => ?_)
  · refine r_aload_n hE 0 dX13_isOn_g4.2.2.2.2.2.2.2.2.2.2.1 rfl rfl ?_
    refine mg_sort hE hm dX13_isOn_g4.2.2.2.2.2.2.2.2.2.2.2.1 ?_
    refine r_iload_n hE 2 dX13_isOn_g4.2.2.2.2.2.2.2.2.2.2.2.2.1 rfl rfl ?_
    obtain ⟨hi, h⟩ := h
    refine ml_sort hE hm dX13_isOn_g4.2.2.2.2.2.2.2.2.2.2.2.2.2.1 hi ?_
    refine r_iconst (v := (5 : Int32)) hE dX13_isOn_g4.2.2.2.2.2.2.2.2.2.2.2.2.2.2.1 (by decide) ?_
    refine r_icmp_eq hE 137 dX13_isOn_g4.2.2.2.2.2.2.2.2.2.2.2.2.2.2.2 (by decide) h (fun h => ?_) (fun h => ?_)
    · refine r_aload_n hE 0 dX13_isOn_g5.2.2.2.2.2.1 rfl rfl ?_
      refine r_iload_n hE 1 dX13_isOn_g5.2.2.2.2.2.2.1 rfl rfl ?_
      refine r_aload_n hE 0 dX13_isOn_g5.2.2.2.2.2.2.2.1 rfl rfl ?_
      refine r_iload_n hE 2 dX13_isOn_g5.2.2.2.2.2.2.2.2.1 rfl rfl ?_
      refine m_callVi hE hm [.int a2] [.int a1, .ref (G.1 0)] mc_centre (km_centre hm.2.2.2.2.2.2.2.2 h) (by decide) rfl rfl (Nat.le_of_ble_eq_true rfl) dX13_isOn_g5.2.2.2.2.2.2.2.2.2.1 (fun s11 r12 h => ?_)
      refine m_callVv hE hm [.int a1, .int r12] [] mc_dist (km_dist hm.2.2.2.2.2.2.2.2 h) (by decide) rfl rfl (Nat.le_of_ble_eq_true rfl) dX13_isOn_g5.2.2.2.2.2.2.2.2.2.2.1 (fun s13 h => ?_)
      refine r_aload_n hE 0 dX13_isOn_g5.2.2.2.2.2.2.2.2.2.2.2.1 rfl rfl ?_
      refine r_aload_n hE 0 dX13_isOn_g5.2.2.2.2.2.2.2.2.2.2.2.2.1 rfl rfl ?_
      refine mg_top hE hm dX13_isOn_g5.2.2.2.2.2.2.2.2.2.2.2.2.2.1 ?_
      refine r_aload_n hE 0 dX13_isOn_g5.2.2.2.2.2.2.2.2.2.2.2.2.2.2.1 rfl rfl ?_
      refine mg_piled hE hm dX13_isOn_g5.2.2.2.2.2.2.2.2.2.2.2.2.2.2.2 ?_
      refine r_iconst (v := (1 : Int32)) hE dX13_isOn_g6.1 (by decide) ?_
      refine r_isub hE dX13_isOn_g6.2.1 ?_
      obtain ⟨hi, h⟩ := h
      refine ml_top hE hm dX13_isOn_g6.2.2.1 hi ?_
      refine r_aload_n hE 0 dX13_isOn_g6.2.2.2.1 rfl rfl ?_
      refine mg_up hE hm dX13_isOn_g6.2.2.2.2.1 ?_
      refine r_bipush (v := (7 : Int32)) hE dX13_isOn_g6.2.2.2.2.2.1 (by decide) ?_
      refine r_iload_n hE 2 dX13_isOn_g6.2.2.2.2.2.2.1 rfl rfl ?_
      refine r_imul hE dX13_isOn_g6.2.2.2.2.2.2.2.1 ?_
      refine r_iconst (v := (2 : Int32)) hE dX13_isOn_g6.2.2.2.2.2.2.2.2.1 (by decide) ?_
      refine r_iadd hE dX13_isOn_g6.2.2.2.2.2.2.2.2.2.1 ?_
      obtain ⟨hi, h⟩ := h
      refine ml_up hE hm dX13_isOn_g6.2.2.2.2.2.2.2.2.2.2.1 hi ?_
      refine r_lcmp hE dX13_isOn_g6.2.2.2.2.2.2.2.2.2.2.2.1 ?_
      refine r_if_ne hE 204 dX13_isOn_g6.2.2.2.2.2.2.2.2.2.2.2.2.1 (by decide) h (fun h => ?_) (fun h => ?_)
      · refine r_pick [] rfl ?_
        exact km_isOn_204 hE hm hF _ h
      · refine r_aload_n hE 0 dX13_isOn_g6.2.2.2.2.2.2.2.2.2.2.2.2.2.1 rfl rfl ?_
        refine mg_bottom hE hm dX13_isOn_g6.2.2.2.2.2.2.2.2.2.2.2.2.2.2.1 ?_
        refine r_aload_n hE 0 dX13_isOn_g6.2.2.2.2.2.2.2.2.2.2.2.2.2.2.2 rfl rfl ?_
        refine mg_piled hE hm dX13_isOn_g7.1 ?_
        refine r_iconst (v := (1 : Int32)) hE dX13_isOn_g7.2.1 (by decide) ?_
        refine r_isub hE dX13_isOn_g7.2.2.1 ?_
        obtain ⟨hi, h⟩ := h
        refine ml_bottom hE hm dX13_isOn_g7.2.2.2.1 hi ?_
        refine r_aload_n hE 0 dX13_isOn_g7.2.2.2.2.1 rfl rfl ?_
        refine mg_low hE hm dX13_isOn_g7.2.2.2.2.2.1 ?_
        refine r_bipush (v := (7 : Int32)) hE dX13_isOn_g7.2.2.2.2.2.2.1 (by decide) ?_
        refine r_iload_n hE 2 dX13_isOn_g7.2.2.2.2.2.2.2.1 rfl rfl ?_
        refine r_imul hE dX13_isOn_g7.2.2.2.2.2.2.2.2.1 ?_
        refine r_iconst (v := (2 : Int32)) hE dX13_isOn_g7.2.2.2.2.2.2.2.2.2.1 (by decide) ?_
        refine r_iadd hE dX13_isOn_g7.2.2.2.2.2.2.2.2.2.2.1 ?_
        obtain ⟨hi, h⟩ := h
        refine ml_low hE hm dX13_isOn_g7.2.2.2.2.2.2.2.2.2.2.2.1 hi ?_
        refine r_lcmp hE dX13_isOn_g7.2.2.2.2.2.2.2.2.2.2.2.2.1 ?_
        refine r_if_ne hE 204 dX13_isOn_g7.2.2.2.2.2.2.2.2.2.2.2.2.2.1 (by decide) h (fun h => ?_) (fun h => ?_)
        · refine r_pick [] rfl ?_
          exact km_isOn_204 hE hm hF _ h
        · refine r_iconst (v := (1 : Int32)) hE dX13_isOn_g7.2.2.2.2.2.2.2.2.2.2.2.2.2.2.1 (by decide) ?_
          refine r_goto hE 205 dX13_isOn_g7.2.2.2.2.2.2.2.2.2.2.2.2.2.2.2 (by decide) ?_
          refine r_pick [] rfl ?_
          exact km_isOn_205 hE hm hF _ _ h
    · refine r_aload_n hE 0 dX13_isOn_g5.1 rfl rfl ?_
      refine r_iconst (v := (2 : Int32)) hE dX13_isOn_g5.2.1 (by decide) ?_
      refine m_callVv hE hm [.int (2 : Int32)] [] mc_fail (km_fail hm.2.2.2.2.2.2.2.2 h) (by decide) rfl rfl (Nat.le_of_ble_eq_true rfl) dX13_isOn_g5.2.2.1 (fun s14 h => ?_)
      refine r_iload_n hE 1 dX13_isOn_g5.2.2.2.1 rfl rfl ?_
      exact m_iret hE hm hF dX13_isOn_g5.2.2.2.2.1 h
  · refine r_aload_n hE 0 dX13_isOn_g0.2.2.2.2.2.2.1 rfl rfl ?_
    refine r_iload_n hE 2 dX13_isOn_g0.2.2.2.2.2.2.2.1 rfl rfl ?_
    refine r_iload_n hE 1 dX13_isOn_g0.2.2.2.2.2.2.2.2.1 rfl rfl ?_
    refine m_callVv hE hm [.int a2, .int a1] [] mc_through (km_through hm.2.2.2.2.2.2.2.2 h) (by decide) rfl rfl (Nat.le_of_ble_eq_true rfl) dX13_isOn_g0.2.2.2.2.2.2.2.2.2.1 (fun s15 h => ?_)
    refine r_aload_n hE 0 dX13_isOn_g0.2.2.2.2.2.2.2.2.2.2.1 rfl rfl ?_
    refine mg_top hE hm dX13_isOn_g0.2.2.2.2.2.2.2.2.2.2.2.1 ?_
    refine r_aload_n hE 0 dX13_isOn_g0.2.2.2.2.2.2.2.2.2.2.2.2.1 rfl rfl ?_
    refine mg_piled hE hm dX13_isOn_g0.2.2.2.2.2.2.2.2.2.2.2.2.2.1 ?_
    refine r_iconst (v := (1 : Int32)) hE dX13_isOn_g0.2.2.2.2.2.2.2.2.2.2.2.2.2.2.1 (by decide) ?_
    refine r_isub hE dX13_isOn_g0.2.2.2.2.2.2.2.2.2.2.2.2.2.2.2 ?_
    obtain ⟨hi, h⟩ := h
    refine ml_top hE hm dX13_isOn_g1.1 hi ?_
    refine r_aload_n hE 0 dX13_isOn_g1.2.1 rfl rfl ?_
    refine mg_up hE hm dX13_isOn_g1.2.2.1 ?_
    refine r_bipush (v := (7 : Int32)) hE dX13_isOn_g1.2.2.2.1 (by decide) ?_
    refine r_iload_n hE 2 dX13_isOn_g1.2.2.2.2.1 rfl rfl ?_
    refine r_imul hE dX13_isOn_g1.2.2.2.2.2.1 ?_
    refine r_iconst (v := (2 : Int32)) hE dX13_isOn_g1.2.2.2.2.2.2.1 (by decide) ?_
    refine r_iadd hE dX13_isOn_g1.2.2.2.2.2.2.2.1 ?_
    obtain ⟨hi, h⟩ := h
    refine ml_up hE hm dX13_isOn_g1.2.2.2.2.2.2.2.2.1 hi ?_
    refine r_lcmp hE dX13_isOn_g1.2.2.2.2.2.2.2.2.2.1 ?_
    refine r_if_ne hE 74 dX13_isOn_g1.2.2.2.2.2.2.2.2.2.2.1 (by decide) h (fun h => ?_) (fun h => ?_)
    · exact km_isOn_74 hE hm hF _ _ _ h
    · refine r_aload_n hE 0 dX13_isOn_g1.2.2.2.2.2.2.2.2.2.2.2.1 rfl rfl ?_
      refine mg_bottom hE hm dX13_isOn_g1.2.2.2.2.2.2.2.2.2.2.2.2.1 ?_
      refine r_aload_n hE 0 dX13_isOn_g1.2.2.2.2.2.2.2.2.2.2.2.2.2.1 rfl rfl ?_
      refine mg_piled hE hm dX13_isOn_g1.2.2.2.2.2.2.2.2.2.2.2.2.2.2.1 ?_
      refine r_iconst (v := (1 : Int32)) hE dX13_isOn_g1.2.2.2.2.2.2.2.2.2.2.2.2.2.2.2 (by decide) ?_
      refine r_isub hE dX13_isOn_g2.1 ?_
      obtain ⟨hi, h⟩ := h
      refine ml_bottom hE hm dX13_isOn_g2.2.1 hi ?_
      refine r_aload_n hE 0 dX13_isOn_g2.2.2.1 rfl rfl ?_
      refine mg_low hE hm dX13_isOn_g2.2.2.2.1 ?_
      refine r_bipush (v := (7 : Int32)) hE dX13_isOn_g2.2.2.2.2.1 (by decide) ?_
      refine r_iload_n hE 2 dX13_isOn_g2.2.2.2.2.2.1 rfl rfl ?_
      refine r_imul hE dX13_isOn_g2.2.2.2.2.2.2.1 ?_
      refine r_iconst (v := (2 : Int32)) hE dX13_isOn_g2.2.2.2.2.2.2.2.1 (by decide) ?_
      refine r_iadd hE dX13_isOn_g2.2.2.2.2.2.2.2.2.1 ?_
      obtain ⟨hi, h⟩ := h
      refine ml_low hE hm dX13_isOn_g2.2.2.2.2.2.2.2.2.2.1 hi ?_
      refine r_lcmp hE dX13_isOn_g2.2.2.2.2.2.2.2.2.2.2.1 ?_
      refine r_if_ne hE 74 dX13_isOn_g2.2.2.2.2.2.2.2.2.2.2.2.1 (by decide) h (fun h => ?_) (fun h => ?_)
      · exact km_isOn_74 hE hm hF _ _ _ h
      · refine r_iconst (v := (1 : Int32)) hE dX13_isOn_g2.2.2.2.2.2.2.2.2.2.2.2.2.1 (by decide) ?_
        refine r_goto hE 75 dX13_isOn_g2.2.2.2.2.2.2.2.2.2.2.2.2.2.1 (by decide) ?_
        exact km_isOn_75 hE hm hF _ _ _ _ h
/-! toolMore -/
def wm_toolMore_322 (post : MS → Int32 → Prop) (σ : MS) (t1 : Int32) : Prop := wm_yes (fun (s1 : MS) (r2 : Int32) => post s1 r2) σ t1
set_option maxRecDepth 20000 in
theorem km_toolMore_322 {E : gEnv} {l : Launch} {D : va_G} {cl : List vw_C} {G : gAd} {post : MS → Int32 → Prop} (hE : gOK E cX13_toolMore RX13 (some .int) 6) (hm : mOK E l D cl G (qI post) 4) (hF : gFin E) (σ : MS) (t1 : Int32) (h : wm_toolMore_322 post σ t1) : GW E (mW G σ) 322 [] [.int t1, .ref (G.1 0)] := by
  unfold wm_toolMore_322 at h
  have hN := hm.2.2.2.2.2.2.1
  refine m_callVi hE hm [.int t1] [] mc_yes (km_yes hm.2.2.2.2.2.2.2.2 h) (by decide) rfl rfl (Nat.le_of_ble_eq_true rfl) dX13_toolMore_g10.2.2.2.2.2.2.2.2.2.2.2.2.2.2.2 (fun s1 r2 h => ?_)
  exact m_iret hE hm hF dX13_toolMore_g11 h
def wm_toolMore_129 (post : MS → Int32 → Prop) (σ : MS) (v2 : Int32) : Prop := wm_fail (fun (s3 : MS) => post s3 v2) σ (3 : Int32)
set_option maxRecDepth 20000 in
theorem km_toolMore_129 {E : gEnv} {l : Launch} {D : va_G} {cl : List vw_C} {G : gAd} {post : MS → Int32 → Prop} (hE : gOK E cX13_toolMore RX13 (some .int) 6) (hm : mOK E l D cl G (qI post) 4) (hF : gFin E) (σ : MS) (v2 : Int32) (h : wm_toolMore_129 post σ v2) : GW E (mW G σ) 129 [(0, .ref (G.1 0)), (2, .int v2)] [] := by
  unfold wm_toolMore_129 at h
  have hN := hm.2.2.2.2.2.2.1
  refine r_aload_n hE 0 dX13_toolMore_g3.2.2.2.2.2.1 rfl rfl ?_
  refine r_iconst (v := (3 : Int32)) hE dX13_toolMore_g3.2.2.2.2.2.2.1 (by decide) ?_
  refine m_callVv hE hm [.int (3 : Int32)] [] mc_fail (km_fail hm.2.2.2.2.2.2.2.2 h) (by decide) rfl rfl (Nat.le_of_ble_eq_true rfl) dX13_toolMore_g3.2.2.2.2.2.2.2.1 (fun s3 h => ?_)
  refine r_iload_n hE 1 dX13_toolMore_g3.2.2.2.2.2.2.2.2.1 rfl rfl ?_
  exact m_iret hE hm hF dX13_toolMore_g3.2.2.2.2.2.2.2.2.2.1 h
def wm_toolMore_260 (post : MS → Int32 → Prop) (σ : MS) (t1 : Int32) : Prop := wm_yes (fun (s4 : MS) (r5 : Int32) => post s4 r5) σ t1
set_option maxRecDepth 20000 in
theorem km_toolMore_260 {E : gEnv} {l : Launch} {D : va_G} {cl : List vw_C} {G : gAd} {post : MS → Int32 → Prop} (hE : gOK E cX13_toolMore RX13 (some .int) 6) (hm : mOK E l D cl G (qI post) 4) (hF : gFin E) (σ : MS) (t1 : Int32) (h : wm_toolMore_260 post σ t1) : GW E (mW G σ) 260 [] [.int t1, .ref (G.1 0)] := by
  unfold wm_toolMore_260 at h
  have hN := hm.2.2.2.2.2.2.1
  refine m_callVi hE hm [.int t1] [] mc_yes (km_yes hm.2.2.2.2.2.2.2.2 h) (by decide) rfl rfl (Nat.le_of_ble_eq_true rfl) dX13_toolMore_g8.2.2.2.2.2.2.2.2.2.1 (fun s4 r5 h => ?_)
  exact m_iret hE hm hF dX13_toolMore_g8.2.2.2.2.2.2.2.2.2.2.1 h
def wm_toolMore_259 (post : MS → Int32 → Prop) (σ : MS) : Prop := wm_toolMore_260 post σ (0 : Int32)
set_option maxRecDepth 20000 in
theorem km_toolMore_259 {E : gEnv} {l : Launch} {D : va_G} {cl : List vw_C} {G : gAd} {post : MS → Int32 → Prop} (hE : gOK E cX13_toolMore RX13 (some .int) 6) (hm : mOK E l D cl G (qI post) 4) (hF : gFin E) (σ : MS) (h : wm_toolMore_259 post σ) : GW E (mW G σ) 259 [] [.ref (G.1 0)] := by
  unfold wm_toolMore_259 at h
  have hN := hm.2.2.2.2.2.2.1
  refine r_iconst (v := (0 : Int32)) hE dX13_toolMore_g8.2.2.2.2.2.2.2.2.1 (by decide) ?_
  exact km_toolMore_260 hE hm hF _ _ h
def wm_toolMore (post : MS → Int32 → Prop) (σ : MS) (a1 : Int32) (a2 : Int32) (a3 : Int32) : Prop := (a1 = (13 : Int32) → (wm_centre (fun (s6 : MS) (r7 : Int32) => wm_dist (fun (s8 : MS) => wm_part (fun (s9 : MS) => wm_less (fun (s10 : MS) => wm_told (fun (s11 : MS) (r12 : Int32) => post s11 r12) s10) s9) s8 a3 (2 : Int32)) s6 a2 r7) σ a3)) ∧ (¬ a1 = (13 : Int32) → ((a1 = (14 : Int32) → (wm_polar (fun (s13 : MS) (r14 : Int32) => post s13 r14) σ a2 a3)) ∧ (¬ a1 = (14 : Int32) → ((a1 = (15 : Int32) → (wm_invert (fun (s15 : MS) (r16 : Int32) => post s15 r16) σ a2 a3)) ∧ (¬ a1 = (15 : Int32) → ((a1 = (16 : Int32) → (wm_dist (fun (s17 : MS) => wm_told (fun (s18 : MS) (r19 : Int32) => post s18 r19) s17) σ a2 a3)) ∧ (¬ a1 = (16 : Int32) → ((a1 = (17 : Int32) → (vp_in ((7 : Int32) * a3) 3360 ∧ (((¬ ((lg_cmp (m_low σ ((7 : Int32) * a3).toNatClampNeg) (1 : Int64)) = (0 : Int32))) → (wm_toolMore_129 post σ a2)) ∧ (((lg_cmp (m_low σ ((7 : Int32) * a3).toNatClampNeg) (1 : Int64)) = (0 : Int32)) → (vp_in ((7 : Int32) * a3) 3360 ∧ (wm_in (fun (s20 : MS) (r21 : Int32) => ((¬ (r21 = (0 : Int32))) → (vp_in ((7 : Int32) * a3) 3360 ∧ (wm_endOf (fun (s22 : MS) (r23 : Int32) => post s22 r23) s20 a2 ((m_up s20 ((7 : Int32) * a3).toNatClampNeg).toInt32)))) ∧ ((r21 = (0 : Int32)) → (wm_toolMore_129 post s20 a2))) σ (m_up σ ((7 : Int32) * a3).toNatClampNeg) (0 : Int64) (1 : Int64))))))) ∧ (¬ a1 = (17 : Int32) → ((a1 = (18 : Int32) → (wm_isOn (fun (s24 : MS) (r25 : Int32) => post s24 r25) σ a2 a3)) ∧ (¬ a1 = (18 : Int32) → ((a1 = (19 : Int32) → (wm_areLike (fun (s26 : MS) (r27 : Int32) => wm_yes (fun (s28 : MS) (r29 : Int32) => post s28 r29) s26 r27) σ a2 a3)) ∧ (¬ a1 = (19 : Int32) → ((a1 = (20 : Int32) → (wm_part (fun (s30 : MS) => wm_part (fun (s31 : MS) => wm_times (fun (s32 : MS) => wm_part (fun (s33 : MS) => wm_part (fun (s34 : MS) => wm_times (fun (s35 : MS) => vp_in ((m_piled s35) - (1 : Int32)) 40 ∧ (vp_in ((m_piled s35) - (2 : Int32)) 40 ∧ (((¬ ((lg_cmp (m_top s35 ((m_piled s35) - (1 : Int32)).toNatClampNeg) (m_top s35 ((m_piled s35) - (2 : Int32)).toNatClampNeg)) = (0 : Int32))) → (wm_toolMore_259 post s35)) ∧ (((lg_cmp (m_top s35 ((m_piled s35) - (1 : Int32)).toNatClampNeg) (m_top s35 ((m_piled s35) - (2 : Int32)).toNatClampNeg)) = (0 : Int32)) → (vp_in ((m_piled s35) - (1 : Int32)) 40 ∧ (vp_in ((m_piled s35) - (2 : Int32)) 40 ∧ (((¬ ((lg_cmp (m_bottom s35 ((m_piled s35) - (1 : Int32)).toNatClampNeg) (m_bottom s35 ((m_piled s35) - (2 : Int32)).toNatClampNeg)) = (0 : Int32))) → (wm_toolMore_259 post s35)) ∧ (((lg_cmp (m_bottom s35 ((m_piled s35) - (1 : Int32)).toNatClampNeg) (m_bottom s35 ((m_piled s35) - (2 : Int32)).toNatClampNeg)) = (0 : Int32)) → (wm_toolMore_260 post s35 (1 : Int32)))))))))) s34) s33 a2 (1 : Int32)) s32 a3 (0 : Int32)) s31) s30 a3 (1 : Int32)) σ a2 (0 : Int32))) ∧ (¬ a1 = (20 : Int32) → (wm_part (fun (s36 : MS) => wm_part (fun (s37 : MS) => wm_times (fun (s38 : MS) => wm_part (fun (s39 : MS) => wm_part (fun (s40 : MS) => wm_times (fun (s41 : MS) => wm_plus (fun (s42 : MS) => vp_in ((m_piled s42) - (1 : Int32)) 40 ∧ (((¬ ((lg_cmp (m_top s42 ((m_piled s42) - (1 : Int32)).toNatClampNeg) (0 : Int64)) = (0 : Int32))) → (wm_toolMore_322 post s42 (0 : Int32))) ∧ (((lg_cmp (m_top s42 ((m_piled s42) - (1 : Int32)).toNatClampNeg) (0 : Int64)) = (0 : Int32)) → (wm_toolMore_322 post s42 (1 : Int32))))) s41) s40) s39 a3 (1 : Int32)) s38 a2 (1 : Int32)) s37) s36 a3 (0 : Int32)) σ a2 (0 : Int32)))))))))))))))))
set_option maxRecDepth 20000 in
theorem km_toolMore {l : Launch} {D : va_G} {cl : List vw_C} {G : gAd} {post : MS → Int32 → Prop} (hcl : mC cl) {σ : MS} {a1 : Int32} {a2 : Int32} {a3 : Int32} (h : wm_toolMore post σ a1 a2 a3) : mMet l D cl G yX13_toolMore cX13_toolMore 4 (some .int) 6 [.ref (G.1 0), .int a1, .int a2, .int a3] σ (qI post) := by
  unfold wm_toolMore at h
  refine m_enter hcl (by decide +kernel) rfl [(0, .ref (G.1 0)), (1, .int a1), (2, .int a2), (3, .int a3)] rfl (Nat.le_of_ble_eq_true rfl) ?_
  intro E hE hm hF
  have hN := hm.2.2.2.2.2.2.1
  refine r_iload_n hE 1 dX13_toolMore_g0.1 rfl rfl ?_
  refine r_case (13 : Int32) h (fun q0 h => ?_) (fun q0 h => ?_)
  · refine r_tableAt (off := 47) hE (13 : Int32) 48 dX13_toolMore_g0.2.1 q0 (by decide) (by decide) (by decide) (by decide) ?_
    refine r_aload_n hE 0 dX13_toolMore_g0.2.2.1 rfl rfl ?_
    refine r_iload_n hE 2 dX13_toolMore_g0.2.2.2.1 rfl rfl ?_
    refine r_aload_n hE 0 dX13_toolMore_g0.2.2.2.2.1 rfl rfl ?_
    refine r_iload_n hE 3 dX13_toolMore_g0.2.2.2.2.2.1 rfl rfl ?_
    refine m_callVi hE hm [.int a3] [.int a2, .ref (G.1 0)] mc_centre (km_centre hm.2.2.2.2.2.2.2.2 h) (by decide) rfl rfl (Nat.le_of_ble_eq_true rfl) dX13_toolMore_g0.2.2.2.2.2.2.1 (fun s6 r7 h => ?_)
    refine m_callVv hE hm [.int a2, .int r7] [] mc_dist (km_dist hm.2.2.2.2.2.2.2.2 h) (by decide) rfl rfl (Nat.le_of_ble_eq_true rfl) dX13_toolMore_g0.2.2.2.2.2.2.2.1 (fun s8 h => ?_)
    refine r_aload_n hE 0 dX13_toolMore_g0.2.2.2.2.2.2.2.2.1 rfl rfl ?_
    refine r_iload_n hE 3 dX13_toolMore_g0.2.2.2.2.2.2.2.2.2.1 rfl rfl ?_
    refine r_iconst (v := (2 : Int32)) hE dX13_toolMore_g0.2.2.2.2.2.2.2.2.2.2.1 (by decide) ?_
    refine m_callVv hE hm [.int a3, .int (2 : Int32)] [] mc_part (km_part hm.2.2.2.2.2.2.2.2 h) (by decide) rfl rfl (Nat.le_of_ble_eq_true rfl) dX13_toolMore_g0.2.2.2.2.2.2.2.2.2.2.2.1 (fun s9 h => ?_)
    refine r_aload_n hE 0 dX13_toolMore_g0.2.2.2.2.2.2.2.2.2.2.2.2.1 rfl rfl ?_
    refine m_callVv hE hm [] [] mc_less (km_less hm.2.2.2.2.2.2.2.2 h) (by decide) rfl rfl (Nat.le_of_ble_eq_true rfl) dX13_toolMore_g0.2.2.2.2.2.2.2.2.2.2.2.2.2.1 (fun s10 h => ?_)
    refine r_aload_n hE 0 dX13_toolMore_g0.2.2.2.2.2.2.2.2.2.2.2.2.2.2.1 rfl rfl ?_
    refine m_callVi hE hm [] [] mc_told (km_told hm.2.2.2.2.2.2.2.2 h) (by decide) rfl rfl (Nat.le_of_ble_eq_true rfl) dX13_toolMore_g0.2.2.2.2.2.2.2.2.2.2.2.2.2.2.2 (fun s11 r12 h => ?_)
    exact m_iret hE hm hF dX13_toolMore_g1.1 h
  · refine r_case (14 : Int32) h (fun q1 h => ?_) (fun q1 h => ?_)
    · refine r_tableAt (off := 72) hE (14 : Int32) 73 dX13_toolMore_g0.2.1 q1 (by decide) (by decide) (by decide) (by decide) ?_
      refine r_aload_n hE 0 dX13_toolMore_g1.2.1 rfl rfl ?_
      refine r_iload_n hE 2 dX13_toolMore_g1.2.2.1 rfl rfl ?_
      refine r_iload_n hE 3 dX13_toolMore_g1.2.2.2.1 rfl rfl ?_
      refine m_callVi hE hm [.int a2, .int a3] [] mc_polar (km_polar hm.2.2.2.2.2.2.2.2 h) (by decide) rfl rfl (Nat.le_of_ble_eq_true rfl) dX13_toolMore_g1.2.2.2.2.1 (fun s13 r14 h => ?_)
      exact m_iret hE hm hF dX13_toolMore_g1.2.2.2.2.2.1 h
    · refine r_case (15 : Int32) h (fun q2 h => ?_) (fun q2 h => ?_)
      · refine r_tableAt (off := 79) hE (15 : Int32) 80 dX13_toolMore_g0.2.1 q2 (by decide) (by decide) (by decide) (by decide) ?_
        refine r_aload_n hE 0 dX13_toolMore_g1.2.2.2.2.2.2.1 rfl rfl ?_
        refine r_iload_n hE 2 dX13_toolMore_g1.2.2.2.2.2.2.2.1 rfl rfl ?_
        refine r_iload_n hE 3 dX13_toolMore_g1.2.2.2.2.2.2.2.2.1 rfl rfl ?_
        refine m_callVi hE hm [.int a2, .int a3] [] mc_invert (km_invert hm.2.2.2.2.2.2.2.2 h) (by decide) rfl rfl (Nat.le_of_ble_eq_true rfl) dX13_toolMore_g1.2.2.2.2.2.2.2.2.2.1 (fun s15 r16 h => ?_)
        exact m_iret hE hm hF dX13_toolMore_g1.2.2.2.2.2.2.2.2.2.2.1 h
      · refine r_case (16 : Int32) h (fun q3 h => ?_) (fun q3 h => ?_)
        · refine r_tableAt (off := 86) hE (16 : Int32) 87 dX13_toolMore_g0.2.1 q3 (by decide) (by decide) (by decide) (by decide) ?_
          refine r_aload_n hE 0 dX13_toolMore_g1.2.2.2.2.2.2.2.2.2.2.2.1 rfl rfl ?_
          refine r_iload_n hE 2 dX13_toolMore_g1.2.2.2.2.2.2.2.2.2.2.2.2.1 rfl rfl ?_
          refine r_iload_n hE 3 dX13_toolMore_g1.2.2.2.2.2.2.2.2.2.2.2.2.2.1 rfl rfl ?_
          refine m_callVv hE hm [.int a2, .int a3] [] mc_dist (km_dist hm.2.2.2.2.2.2.2.2 h) (by decide) rfl rfl (Nat.le_of_ble_eq_true rfl) dX13_toolMore_g1.2.2.2.2.2.2.2.2.2.2.2.2.2.2.1 (fun s17 h => ?_)
          refine r_aload_n hE 0 dX13_toolMore_g1.2.2.2.2.2.2.2.2.2.2.2.2.2.2.2 rfl rfl ?_
          refine m_callVi hE hm [] [] mc_told (km_told hm.2.2.2.2.2.2.2.2 h) (by decide) rfl rfl (Nat.le_of_ble_eq_true rfl) dX13_toolMore_g2.1 (fun s18 r19 h => ?_)
          exact m_iret hE hm hF dX13_toolMore_g2.2.1 h
        · refine r_case (17 : Int32) h (fun q4 h => ?_) (fun q4 h => ?_)
          · refine r_tableAt (off := 97) hE (17 : Int32) 98 dX13_toolMore_g0.2.1 q4 (by decide) (by decide) (by decide) (by decide) ?_
            refine r_aload_n hE 0 dX13_toolMore_g2.2.2.1 rfl rfl ?_
            refine mg_low hE hm dX13_toolMore_g2.2.2.2.1 ?_
            refine r_bipush (v := (7 : Int32)) hE dX13_toolMore_g2.2.2.2.2.1 (by decide) ?_
            refine r_iload_n hE 3 dX13_toolMore_g2.2.2.2.2.2.1 rfl rfl ?_
            refine r_imul hE dX13_toolMore_g2.2.2.2.2.2.2.1 ?_
            obtain ⟨hi, h⟩ := h
            refine ml_low hE hm dX13_toolMore_g2.2.2.2.2.2.2.2.1 hi ?_
            refine r_lconst (v := (1 : Int64)) hE dX13_toolMore_g2.2.2.2.2.2.2.2.2.1 (by decide) ?_
            refine r_lcmp hE dX13_toolMore_g2.2.2.2.2.2.2.2.2.2.1 ?_
            refine r_if_ne hE 129 dX13_toolMore_g2.2.2.2.2.2.2.2.2.2.2.1 (by decide) h (fun h => ?_) (fun h => ?_)
            · refine r_pick [0, 2] rfl ?_
              exact km_toolMore_129 hE hm hF _ _ h
            · refine r_aload_n hE 0 dX13_toolMore_g2.2.2.2.2.2.2.2.2.2.2.2.1 rfl rfl ?_
              refine mg_up hE hm dX13_toolMore_g2.2.2.2.2.2.2.2.2.2.2.2.2.1 ?_
              refine r_bipush (v := (7 : Int32)) hE dX13_toolMore_g2.2.2.2.2.2.2.2.2.2.2.2.2.2.1 (by decide) ?_
              refine r_iload_n hE 3 dX13_toolMore_g2.2.2.2.2.2.2.2.2.2.2.2.2.2.2.1 rfl rfl ?_
              refine r_imul hE dX13_toolMore_g2.2.2.2.2.2.2.2.2.2.2.2.2.2.2.2 ?_
              obtain ⟨hi, h⟩ := h
              refine ml_up hE hm dX13_toolMore_g3.1 hi ?_
              refine r_lconst (v := (0 : Int64)) hE dX13_toolMore_g3.2.1 (by decide) ?_
              refine r_lconst (v := (1 : Int64)) hE dX13_toolMore_g3.2.2.1 (by decide) ?_
              refine m_callSi hE hm [.long (m_up σ ((7 : Int32) * a3).toNatClampNeg), .long (0 : Int64), .long (1 : Int64)] [] mc_in (km_in hm.2.2.2.2.2.2.2.2 h) (by decide) rfl rfl (Nat.le_of_ble_eq_true rfl) dX13_toolMore_g3.2.2.2.1 (fun s20 r21 h => ?_)
              refine r_if_ne hE 136 dX13_toolMore_g3.2.2.2.2.1 (by decide) h (fun h => ?_) (fun h => ?_)
              · refine r_aload_n hE 0 dX13_toolMore_g3.2.2.2.2.2.2.2.2.2.2.1 rfl rfl ?_
                refine r_iload_n hE 2 dX13_toolMore_g3.2.2.2.2.2.2.2.2.2.2.2.1 rfl rfl ?_
                refine r_aload_n hE 0 dX13_toolMore_g3.2.2.2.2.2.2.2.2.2.2.2.2.1 rfl rfl ?_
                refine mg_up hE hm dX13_toolMore_g3.2.2.2.2.2.2.2.2.2.2.2.2.2.1 ?_
                refine r_bipush (v := (7 : Int32)) hE dX13_toolMore_g3.2.2.2.2.2.2.2.2.2.2.2.2.2.2.1 (by decide) ?_
                refine r_iload_n hE 3 dX13_toolMore_g3.2.2.2.2.2.2.2.2.2.2.2.2.2.2.2 rfl rfl ?_
                refine r_imul hE dX13_toolMore_g4.1 ?_
                obtain ⟨hi, h⟩ := h
                refine ml_up hE hm dX13_toolMore_g4.2.1 hi ?_
                refine r_l2i hE dX13_toolMore_g4.2.2.1 ?_
                refine m_callVi hE hm [.int a2, .int ((m_up s20 ((7 : Int32) * a3).toNatClampNeg).toInt32)] [] mc_endOf (km_endOf hm.2.2.2.2.2.2.2.2 h) (by decide) rfl rfl (Nat.le_of_ble_eq_true rfl) dX13_toolMore_g4.2.2.2.1 (fun s22 r23 h => ?_)
                exact m_iret hE hm hF dX13_toolMore_g4.2.2.2.2.1 h
              · refine r_pick [0, 2] rfl ?_
                exact km_toolMore_129 hE hm hF _ _ h
          · refine r_case (18 : Int32) h (fun q5 h => ?_) (fun q5 h => ?_)
            · refine r_tableAt (off := 151) hE (18 : Int32) 152 dX13_toolMore_g0.2.1 q5 (by decide) (by decide) (by decide) (by decide) ?_
              refine r_aload_n hE 0 dX13_toolMore_g4.2.2.2.2.2.1 rfl rfl ?_
              refine r_iload_n hE 2 dX13_toolMore_g4.2.2.2.2.2.2.1 rfl rfl ?_
              refine r_iload_n hE 3 dX13_toolMore_g4.2.2.2.2.2.2.2.1 rfl rfl ?_
              refine m_callVi hE hm [.int a2, .int a3] [] mc_isOn (km_isOn hm.2.2.2.2.2.2.2.2 h) (by decide) rfl rfl (Nat.le_of_ble_eq_true rfl) dX13_toolMore_g4.2.2.2.2.2.2.2.2.1 (fun s24 r25 h => ?_)
              exact m_iret hE hm hF dX13_toolMore_g4.2.2.2.2.2.2.2.2.2.1 h
            · refine r_case (19 : Int32) h (fun q6 h => ?_) (fun q6 h => ?_)
              · refine r_tableAt (off := 158) hE (19 : Int32) 159 dX13_toolMore_g0.2.1 q6 (by decide) (by decide) (by decide) (by decide) ?_
                refine r_aload_n hE 0 dX13_toolMore_g4.2.2.2.2.2.2.2.2.2.2.1 rfl rfl ?_
                refine r_aload_n hE 0 dX13_toolMore_g4.2.2.2.2.2.2.2.2.2.2.2.1 rfl rfl ?_
                refine r_iload_n hE 2 dX13_toolMore_g4.2.2.2.2.2.2.2.2.2.2.2.2.1 rfl rfl ?_
                refine r_iload_n hE 3 dX13_toolMore_g4.2.2.2.2.2.2.2.2.2.2.2.2.2.1 rfl rfl ?_
                refine m_callVi hE hm [.int a2, .int a3] [.ref (G.1 0)] mc_areLike (km_areLike hm.2.2.2.2.2.2.2.2 h) (by decide) rfl rfl (Nat.le_of_ble_eq_true rfl) dX13_toolMore_g4.2.2.2.2.2.2.2.2.2.2.2.2.2.2.1 (fun s26 r27 h => ?_)
                refine m_callVi hE hm [.int r27] [] mc_yes (km_yes hm.2.2.2.2.2.2.2.2 h) (by decide) rfl rfl (Nat.le_of_ble_eq_true rfl) dX13_toolMore_g4.2.2.2.2.2.2.2.2.2.2.2.2.2.2.2 (fun s28 r29 h => ?_)
                exact m_iret hE hm hF dX13_toolMore_g5.1 h
              · refine r_case (20 : Int32) h (fun q7 h => ?_) (fun q7 h => ?_)
                · refine r_tableAt (off := 169) hE (20 : Int32) 170 dX13_toolMore_g0.2.1 q7 (by decide) (by decide) (by decide) (by decide) ?_
                  refine r_aload_n hE 0 dX13_toolMore_g5.2.1 rfl rfl ?_
                  refine r_iload_n hE 2 dX13_toolMore_g5.2.2.1 rfl rfl ?_
                  refine r_iconst (v := (0 : Int32)) hE dX13_toolMore_g5.2.2.2.1 (by decide) ?_
                  refine m_callVv hE hm [.int a2, .int (0 : Int32)] [] mc_part (km_part hm.2.2.2.2.2.2.2.2 h) (by decide) rfl rfl (Nat.le_of_ble_eq_true rfl) dX13_toolMore_g5.2.2.2.2.1 (fun s30 h => ?_)
                  refine r_aload_n hE 0 dX13_toolMore_g5.2.2.2.2.2.1 rfl rfl ?_
                  refine r_iload_n hE 3 dX13_toolMore_g5.2.2.2.2.2.2.1 rfl rfl ?_
                  refine r_iconst (v := (1 : Int32)) hE dX13_toolMore_g5.2.2.2.2.2.2.2.1 (by decide) ?_
                  refine m_callVv hE hm [.int a3, .int (1 : Int32)] [] mc_part (km_part hm.2.2.2.2.2.2.2.2 h) (by decide) rfl rfl (Nat.le_of_ble_eq_true rfl) dX13_toolMore_g5.2.2.2.2.2.2.2.2.1 (fun s31 h => ?_)
                  refine r_aload_n hE 0 dX13_toolMore_g5.2.2.2.2.2.2.2.2.2.1 rfl rfl ?_
                  refine m_callVv hE hm [] [] mc_times (km_times hm.2.2.2.2.2.2.2.2 h) (by decide) rfl rfl (Nat.le_of_ble_eq_true rfl) dX13_toolMore_g5.2.2.2.2.2.2.2.2.2.2.1 (fun s32 h => ?_)
                  refine r_aload_n hE 0 dX13_toolMore_g5.2.2.2.2.2.2.2.2.2.2.2.1 rfl rfl ?_
                  refine r_iload_n hE 3 dX13_toolMore_g5.2.2.2.2.2.2.2.2.2.2.2.2.1 rfl rfl ?_
                  refine r_iconst (v := (0 : Int32)) hE dX13_toolMore_g5.2.2.2.2.2.2.2.2.2.2.2.2.2.1 (by decide) ?_
                  refine m_callVv hE hm [.int a3, .int (0 : Int32)] [] mc_part (km_part hm.2.2.2.2.2.2.2.2 h) (by decide) rfl rfl (Nat.le_of_ble_eq_true rfl) dX13_toolMore_g5.2.2.2.2.2.2.2.2.2.2.2.2.2.2.1 (fun s33 h => ?_)
                  refine r_aload_n hE 0 dX13_toolMore_g5.2.2.2.2.2.2.2.2.2.2.2.2.2.2.2 rfl rfl ?_
                  refine r_iload_n hE 2 dX13_toolMore_g6.1 rfl rfl ?_
                  refine r_iconst (v := (1 : Int32)) hE dX13_toolMore_g6.2.1 (by decide) ?_
                  refine m_callVv hE hm [.int a2, .int (1 : Int32)] [] mc_part (km_part hm.2.2.2.2.2.2.2.2 h) (by decide) rfl rfl (Nat.le_of_ble_eq_true rfl) dX13_toolMore_g6.2.2.1 (fun s34 h => ?_)
                  refine r_aload_n hE 0 dX13_toolMore_g6.2.2.2.1 rfl rfl ?_
                  refine m_callVv hE hm [] [] mc_times (km_times hm.2.2.2.2.2.2.2.2 h) (by decide) rfl rfl (Nat.le_of_ble_eq_true rfl) dX13_toolMore_g6.2.2.2.2.1 (fun s35 h => ?_)
                  refine r_aload_n hE 0 dX13_toolMore_g6.2.2.2.2.2.1 rfl rfl ?_
                  refine r_aload_n hE 0 dX13_toolMore_g6.2.2.2.2.2.2.1 rfl rfl ?_
                  refine mg_top hE hm dX13_toolMore_g6.2.2.2.2.2.2.2.1 ?_
                  refine r_aload_n hE 0 dX13_toolMore_g6.2.2.2.2.2.2.2.2.1 rfl rfl ?_
                  refine mg_piled hE hm dX13_toolMore_g6.2.2.2.2.2.2.2.2.2.1 ?_
                  refine r_iconst (v := (1 : Int32)) hE dX13_toolMore_g6.2.2.2.2.2.2.2.2.2.2.1 (by decide) ?_
                  refine r_isub hE dX13_toolMore_g6.2.2.2.2.2.2.2.2.2.2.2.1 ?_
                  obtain ⟨hi, h⟩ := h
                  refine ml_top hE hm dX13_toolMore_g6.2.2.2.2.2.2.2.2.2.2.2.2.1 hi ?_
                  refine r_aload_n hE 0 dX13_toolMore_g6.2.2.2.2.2.2.2.2.2.2.2.2.2.1 rfl rfl ?_
                  refine mg_top hE hm dX13_toolMore_g6.2.2.2.2.2.2.2.2.2.2.2.2.2.2.1 ?_
                  refine r_aload_n hE 0 dX13_toolMore_g6.2.2.2.2.2.2.2.2.2.2.2.2.2.2.2 rfl rfl ?_
                  refine mg_piled hE hm dX13_toolMore_g7.1 ?_
                  refine r_iconst (v := (2 : Int32)) hE dX13_toolMore_g7.2.1 (by decide) ?_
                  refine r_isub hE dX13_toolMore_g7.2.2.1 ?_
                  obtain ⟨hi, h⟩ := h
                  refine ml_top hE hm dX13_toolMore_g7.2.2.2.1 hi ?_
                  refine r_lcmp hE dX13_toolMore_g7.2.2.2.2.1 ?_
                  refine r_if_ne hE 259 dX13_toolMore_g7.2.2.2.2.2.1 (by decide) h (fun h => ?_) (fun h => ?_)
                  · refine r_pick [] rfl ?_
                    exact km_toolMore_259 hE hm hF _ h
                  · refine r_aload_n hE 0 dX13_toolMore_g7.2.2.2.2.2.2.1 rfl rfl ?_
                    refine mg_bottom hE hm dX13_toolMore_g7.2.2.2.2.2.2.2.1 ?_
                    refine r_aload_n hE 0 dX13_toolMore_g7.2.2.2.2.2.2.2.2.1 rfl rfl ?_
                    refine mg_piled hE hm dX13_toolMore_g7.2.2.2.2.2.2.2.2.2.1 ?_
                    refine r_iconst (v := (1 : Int32)) hE dX13_toolMore_g7.2.2.2.2.2.2.2.2.2.2.1 (by decide) ?_
                    refine r_isub hE dX13_toolMore_g7.2.2.2.2.2.2.2.2.2.2.2.1 ?_
                    obtain ⟨hi, h⟩ := h
                    refine ml_bottom hE hm dX13_toolMore_g7.2.2.2.2.2.2.2.2.2.2.2.2.1 hi ?_
                    refine r_aload_n hE 0 dX13_toolMore_g7.2.2.2.2.2.2.2.2.2.2.2.2.2.1 rfl rfl ?_
                    refine mg_bottom hE hm dX13_toolMore_g7.2.2.2.2.2.2.2.2.2.2.2.2.2.2.1 ?_
                    refine r_aload_n hE 0 dX13_toolMore_g7.2.2.2.2.2.2.2.2.2.2.2.2.2.2.2 rfl rfl ?_
                    refine mg_piled hE hm dX13_toolMore_g8.1 ?_
                    refine r_iconst (v := (2 : Int32)) hE dX13_toolMore_g8.2.1 (by decide) ?_
                    refine r_isub hE dX13_toolMore_g8.2.2.1 ?_
                    obtain ⟨hi, h⟩ := h
                    refine ml_bottom hE hm dX13_toolMore_g8.2.2.2.1 hi ?_
                    refine r_lcmp hE dX13_toolMore_g8.2.2.2.2.1 ?_
                    refine r_if_ne hE 259 dX13_toolMore_g8.2.2.2.2.2.1 (by decide) h (fun h => ?_) (fun h => ?_)
                    · refine r_pick [] rfl ?_
                      exact km_toolMore_259 hE hm hF _ h
                    · refine r_iconst (v := (1 : Int32)) hE dX13_toolMore_g8.2.2.2.2.2.2.1 (by decide) ?_
                      refine r_goto hE 260 dX13_toolMore_g8.2.2.2.2.2.2.2.1 (by decide) ?_
                      refine r_pick [] rfl ?_
                      exact km_toolMore_260 hE hm hF _ _ h
                · have n0 := lv_neT q0 (show (13 : Int32).toInt = 13 by decide)
                  have n1 := lv_neT q1 (show (14 : Int32).toInt = 14 by decide)
                  have n2 := lv_neT q2 (show (15 : Int32).toInt = 15 by decide)
                  have n3 := lv_neT q3 (show (16 : Int32).toInt = 16 by decide)
                  have n4 := lv_neT q4 (show (17 : Int32).toInt = 17 by decide)
                  have n5 := lv_neT q5 (show (18 : Int32).toInt = 18 by decide)
                  have n6 := lv_neT q6 (show (19 : Int32).toInt = 19 by decide)
                  have n7 := lv_neT q7 (show (20 : Int32).toInt = 20 by decide)
                  refine r_tableOut hE 264 dX13_toolMore_g0.2.1 (by omega) (by decide) ?_
                  refine r_aload_n hE 0 dX13_toolMore_g8.2.2.2.2.2.2.2.2.2.2.2.1 rfl rfl ?_
                  refine r_iload_n hE 2 dX13_toolMore_g8.2.2.2.2.2.2.2.2.2.2.2.2.1 rfl rfl ?_
                  refine r_iconst (v := (0 : Int32)) hE dX13_toolMore_g8.2.2.2.2.2.2.2.2.2.2.2.2.2.1 (by decide) ?_
                  refine m_callVv hE hm [.int a2, .int (0 : Int32)] [] mc_part (km_part hm.2.2.2.2.2.2.2.2 h) (by decide) rfl rfl (Nat.le_of_ble_eq_true rfl) dX13_toolMore_g8.2.2.2.2.2.2.2.2.2.2.2.2.2.2.1 (fun s36 h => ?_)
                  refine r_aload_n hE 0 dX13_toolMore_g8.2.2.2.2.2.2.2.2.2.2.2.2.2.2.2 rfl rfl ?_
                  refine r_iload_n hE 3 dX13_toolMore_g9.1 rfl rfl ?_
                  refine r_iconst (v := (0 : Int32)) hE dX13_toolMore_g9.2.1 (by decide) ?_
                  refine m_callVv hE hm [.int a3, .int (0 : Int32)] [] mc_part (km_part hm.2.2.2.2.2.2.2.2 h) (by decide) rfl rfl (Nat.le_of_ble_eq_true rfl) dX13_toolMore_g9.2.2.1 (fun s37 h => ?_)
                  refine r_aload_n hE 0 dX13_toolMore_g9.2.2.2.1 rfl rfl ?_
                  refine m_callVv hE hm [] [] mc_times (km_times hm.2.2.2.2.2.2.2.2 h) (by decide) rfl rfl (Nat.le_of_ble_eq_true rfl) dX13_toolMore_g9.2.2.2.2.1 (fun s38 h => ?_)
                  refine r_aload_n hE 0 dX13_toolMore_g9.2.2.2.2.2.1 rfl rfl ?_
                  refine r_iload_n hE 2 dX13_toolMore_g9.2.2.2.2.2.2.1 rfl rfl ?_
                  refine r_iconst (v := (1 : Int32)) hE dX13_toolMore_g9.2.2.2.2.2.2.2.1 (by decide) ?_
                  refine m_callVv hE hm [.int a2, .int (1 : Int32)] [] mc_part (km_part hm.2.2.2.2.2.2.2.2 h) (by decide) rfl rfl (Nat.le_of_ble_eq_true rfl) dX13_toolMore_g9.2.2.2.2.2.2.2.2.1 (fun s39 h => ?_)
                  refine r_aload_n hE 0 dX13_toolMore_g9.2.2.2.2.2.2.2.2.2.1 rfl rfl ?_
                  refine r_iload_n hE 3 dX13_toolMore_g9.2.2.2.2.2.2.2.2.2.2.1 rfl rfl ?_
                  refine r_iconst (v := (1 : Int32)) hE dX13_toolMore_g9.2.2.2.2.2.2.2.2.2.2.2.1 (by decide) ?_
                  refine m_callVv hE hm [.int a3, .int (1 : Int32)] [] mc_part (km_part hm.2.2.2.2.2.2.2.2 h) (by decide) rfl rfl (Nat.le_of_ble_eq_true rfl) dX13_toolMore_g9.2.2.2.2.2.2.2.2.2.2.2.2.1 (fun s40 h => ?_)
                  refine r_aload_n hE 0 dX13_toolMore_g9.2.2.2.2.2.2.2.2.2.2.2.2.2.1 rfl rfl ?_
                  refine m_callVv hE hm [] [] mc_times (km_times hm.2.2.2.2.2.2.2.2 h) (by decide) rfl rfl (Nat.le_of_ble_eq_true rfl) dX13_toolMore_g9.2.2.2.2.2.2.2.2.2.2.2.2.2.2.1 (fun s41 h => ?_)
                  refine r_aload_n hE 0 dX13_toolMore_g9.2.2.2.2.2.2.2.2.2.2.2.2.2.2.2 rfl rfl ?_
                  refine m_callVv hE hm [] [] mc_plus (km_plus hm.2.2.2.2.2.2.2.2 h) (by decide) rfl rfl (Nat.le_of_ble_eq_true rfl) dX13_toolMore_g10.1 (fun s42 h => ?_)
                  refine r_aload_n hE 0 dX13_toolMore_g10.2.1 rfl rfl ?_
                  refine r_aload_n hE 0 dX13_toolMore_g10.2.2.1 rfl rfl ?_
                  refine mg_top hE hm dX13_toolMore_g10.2.2.2.1 ?_
                  refine r_aload_n hE 0 dX13_toolMore_g10.2.2.2.2.1 rfl rfl ?_
                  refine mg_piled hE hm dX13_toolMore_g10.2.2.2.2.2.1 ?_
                  refine r_iconst (v := (1 : Int32)) hE dX13_toolMore_g10.2.2.2.2.2.2.1 (by decide) ?_
                  refine r_isub hE dX13_toolMore_g10.2.2.2.2.2.2.2.1 ?_
                  obtain ⟨hi, h⟩ := h
                  refine ml_top hE hm dX13_toolMore_g10.2.2.2.2.2.2.2.2.1 hi ?_
                  refine r_lconst (v := (0 : Int64)) hE dX13_toolMore_g10.2.2.2.2.2.2.2.2.2.1 (by decide) ?_
                  refine r_lcmp hE dX13_toolMore_g10.2.2.2.2.2.2.2.2.2.2.1 ?_
                  refine r_if_ne hE 321 dX13_toolMore_g10.2.2.2.2.2.2.2.2.2.2.2.1 (by decide) h (fun h => ?_) (fun h => ?_)
                  · refine r_iconst (v := (0 : Int32)) hE dX13_toolMore_g10.2.2.2.2.2.2.2.2.2.2.2.2.2.2.1 (by decide) ?_
                    refine r_pick [] rfl ?_
                    exact km_toolMore_322 hE hm hF _ _ h
                  · refine r_iconst (v := (1 : Int32)) hE dX13_toolMore_g10.2.2.2.2.2.2.2.2.2.2.2.2.1 (by decide) ?_
                    refine r_goto hE 322 dX13_toolMore_g10.2.2.2.2.2.2.2.2.2.2.2.2.2.1 (by decide) ?_
                    refine r_pick [] rfl ?_
                    exact km_toolMore_322 hE hm hF _ _ h
