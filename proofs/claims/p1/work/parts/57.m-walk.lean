/-! printExp -/
def wm_printExp_213 (post : MS → Prop) (σ : MS) (t1 : Int32) (t2 : Int32) (t3 : Int32) : Prop := wm_behind_ (fun (s1 : MS) => post s1) σ t1 t2 t3
set_option maxRecDepth 20000 in
theorem km_printExp_213 {E : gEnv} {l : Launch} {D : va_G} {cl : List vw_C} {G : gAd} {post : MS → Prop} (hE : gOK E cX13_printExp RX13 none 4) (hm : mOK E l D cl G (qV post) 4) (hF : gFin E) (σ : MS) (t1 : Int32) (t2 : Int32) (t3 : Int32) (h : wm_printExp_213 post σ t1 t2 t3) : GW E (mW G σ) 213 [] [.int t3, .int t2, .int t1, .ref (G.1 0)] := by
  unfold wm_printExp_213 at h
  have hN := hm.2.2.2.2.2.2.1
  refine m_callVv hE hm [.int t1, .int t2, .int t3] [] mc_behind_ (km_behind_ hm.2.2.2.2.2.2.2.2 h) (by decide) rfl rfl (Nat.le_of_ble_eq_true rfl) dX13_printExp_g7.2.2.2.2.2.2.2.2.2.2.2.2.2.1 (fun s1 h => ?_)
  refine r_goto hE 224 dX13_printExp_g7.2.2.2.2.2.2.2.2.2.2.2.2.2.2.1 (by decide) ?_
  exact m_vret hE hm hF dX13_printExp_g8.2.2 h
def wm_printExp_25 (post : MS → Prop) (σ : MS) (v1 : Int32) (v3 : Int32) : Prop := vp_in v1 600 ∧ (((¬ ((m_kind σ v1.toNatClampNeg) = (7 : Int32))) → (vp_in v1 600 ∧ (((¬ ((m_kind σ v1.toNatClampNeg) = (8 : Int32))) → (vp_in v1 600 ∧ (((¬ ((m_kind σ v1.toNatClampNeg) = (9 : Int32))) → (vp_in v1 600 ∧ (((¬ ((m_kind σ v1.toNatClampNeg) = (11 : Int32))) → (vp_in v1 600 ∧ (((¬ ((m_kind σ v1.toNatClampNeg) = (12 : Int32))) → (wm_printCall (fun (s2 : MS) => post s2) σ v1)) ∧ (((m_kind σ v1.toNatClampNeg) = (12 : Int32)) → (vp_in v1 600 ∧ (wm_behind_ (fun (s3 : MS) => wm_behind_ (fun (s4 : MS) => vp_in v1 600 ∧ (((¬ (v3 = (1 : Int32))) → (wm_printExp_213 post s4 (0 : Int32) (m_two s4 v1.toNatClampNeg) v3)) ∧ ((v3 = (1 : Int32)) → (wm_printExp_213 post s4 (0 : Int32) (m_two s4 v1.toNatClampNeg) (2 : Int32))))) s3 (5 : Int32) v1 (0 : Int32)) σ (0 : Int32) (m_three σ v1.toNatClampNeg) (v3 + (1 : Int32)))))))) ∧ (((m_kind σ v1.toNatClampNeg) = (11 : Int32)) → (wm_put (fun (s5 : MS) => vp_in v1 600 ∧ (wm_behind_ (fun (s6 : MS) => post s6) s5 (0 : Int32) (m_one s5 v1.toNatClampNeg) (4 : Int32))) σ (45 : Int32)))))) ∧ (((m_kind σ v1.toNatClampNeg) = (9 : Int32)) → (vp_in v1 600 ∧ (wm_printName (fun (s7 : MS) => wm_put (fun (s8 : MS) => wm_behind_ (fun (s9 : MS) => vp_in v1 600 ∧ (wm_behind_ (fun (s10 : MS) => post s10) s9 (0 : Int32) (m_two s9 v1.toNatClampNeg) (1 : Int32))) s8 (4 : Int32) (93 : Int32) (0 : Int32)) s7 (91 : Int32)) σ (m_printScope σ) (m_one σ v1.toNatClampNeg))))))) ∧ (((m_kind σ v1.toNatClampNeg) = (8 : Int32)) → (vp_in v1 600 ∧ (wm_printName (fun (s11 : MS) => post s11) σ (m_printScope σ) (m_one σ v1.toNatClampNeg))))))) ∧ (((m_kind σ v1.toNatClampNeg) = (7 : Int32)) → (vp_in v1 600 ∧ (wm_figures (fun (s12 : MS) => post s12) σ (m_value σ v1.toNatClampNeg)))))
set_option maxRecDepth 20000 in
theorem km_printExp_25 {E : gEnv} {l : Launch} {D : va_G} {cl : List vw_C} {G : gAd} {post : MS → Prop} (hE : gOK E cX13_printExp RX13 none 4) (hm : mOK E l D cl G (qV post) 4) (hF : gFin E) (σ : MS) (v1 : Int32) (v3 : Int32) (h : wm_printExp_25 post σ v1 v3) : GW E (mW G σ) 25 [(0, .ref (G.1 0)), (1, .int v1), (3, .int v3)] [] := by
  unfold wm_printExp_25 at h
  have hN := hm.2.2.2.2.2.2.1
  refine r_aload_n hE 0 dX13_printExp_g0.2.2.2.2.2.2.2.2.2.2.2.2.2.2.2 rfl rfl ?_
  refine mg_kind hE hm dX13_printExp_g1.1 ?_
  refine r_iload_n hE 1 dX13_printExp_g1.2.1 rfl rfl ?_
  obtain ⟨hi, h⟩ := h
  refine ml_kind hE hm dX13_printExp_g1.2.2.1 hi ?_
  refine r_bipush (v := (7 : Int32)) hE dX13_printExp_g1.2.2.2.1 (by decide) ?_
  refine r_icmp_ne hE 49 dX13_printExp_g1.2.2.2.2.1 (by decide) h (fun h => ?_) (fun h => ?_)
  · refine r_aload_n hE 0 dX13_printExp_g1.2.2.2.2.2.2.2.2.2.2.2.2.1 rfl rfl ?_
    refine mg_kind hE hm dX13_printExp_g1.2.2.2.2.2.2.2.2.2.2.2.2.2.1 ?_
    refine r_iload_n hE 1 dX13_printExp_g1.2.2.2.2.2.2.2.2.2.2.2.2.2.2.1 rfl rfl ?_
    obtain ⟨hi, h⟩ := h
    refine ml_kind hE hm dX13_printExp_g1.2.2.2.2.2.2.2.2.2.2.2.2.2.2.2 hi ?_
    refine r_bipush (v := (8 : Int32)) hE dX13_printExp_g2.1 (by decide) ?_
    refine r_icmp_ne hE 77 dX13_printExp_g2.2.1 (by decide) h (fun h => ?_) (fun h => ?_)
    · refine r_aload_n hE 0 dX13_printExp_g2.2.2.2.2.2.2.2.2.2.2.2.1 rfl rfl ?_
      refine mg_kind hE hm dX13_printExp_g2.2.2.2.2.2.2.2.2.2.2.2.2.1 ?_
      refine r_iload_n hE 1 dX13_printExp_g2.2.2.2.2.2.2.2.2.2.2.2.2.2.1 rfl rfl ?_
      obtain ⟨hi, h⟩ := h
      refine ml_kind hE hm dX13_printExp_g2.2.2.2.2.2.2.2.2.2.2.2.2.2.2.1 hi ?_
      refine r_bipush (v := (9 : Int32)) hE dX13_printExp_g2.2.2.2.2.2.2.2.2.2.2.2.2.2.2.2 (by decide) ?_
      refine r_icmp_ne hE 131 dX13_printExp_g3.1 (by decide) h (fun h => ?_) (fun h => ?_)
      · refine r_aload_n hE 0 dX13_printExp_g4.2.2.2.2.2.2.2.2.2.2.1 rfl rfl ?_
        refine mg_kind hE hm dX13_printExp_g4.2.2.2.2.2.2.2.2.2.2.2.1 ?_
        refine r_iload_n hE 1 dX13_printExp_g4.2.2.2.2.2.2.2.2.2.2.2.2.1 rfl rfl ?_
        obtain ⟨hi, h⟩ := h
        refine ml_kind hE hm dX13_printExp_g4.2.2.2.2.2.2.2.2.2.2.2.2.2.1 hi ?_
        refine r_bipush (v := (11 : Int32)) hE dX13_printExp_g4.2.2.2.2.2.2.2.2.2.2.2.2.2.2.1 (by decide) ?_
        refine r_icmp_ne hE 163 dX13_printExp_g4.2.2.2.2.2.2.2.2.2.2.2.2.2.2.2 (by decide) h (fun h => ?_) (fun h => ?_)
        · refine r_aload_n hE 0 dX13_printExp_g5.2.2.2.2.2.2.2.2.2.2.2.2.1 rfl rfl ?_
          refine mg_kind hE hm dX13_printExp_g5.2.2.2.2.2.2.2.2.2.2.2.2.2.1 ?_
          refine r_iload_n hE 1 dX13_printExp_g5.2.2.2.2.2.2.2.2.2.2.2.2.2.2.1 rfl rfl ?_
          obtain ⟨hi, h⟩ := h
          refine ml_kind hE hm dX13_printExp_g5.2.2.2.2.2.2.2.2.2.2.2.2.2.2.2 hi ?_
          refine r_bipush (v := (12 : Int32)) hE dX13_printExp_g6.1 (by decide) ?_
          refine r_icmp_ne hE 219 dX13_printExp_g6.2.1 (by decide) h (fun h => ?_) (fun h => ?_)
          · refine r_aload_n hE 0 dX13_printExp_g7.2.2.2.2.2.2.2.2.2.2.2.2.2.2.2 rfl rfl ?_
            refine r_iload_n hE 1 dX13_printExp_g8.1 rfl rfl ?_
            refine m_callVv hE hm [.int v1] [] mc_printCall (km_printCall hm.2.2.2.2.2.2.2.2 h) (by decide) rfl rfl (Nat.le_of_ble_eq_true rfl) dX13_printExp_g8.2.1 (fun s2 h => ?_)
            exact m_vret hE hm hF dX13_printExp_g8.2.2 h
          · refine r_aload_n hE 0 dX13_printExp_g6.2.2.1 rfl rfl ?_
            refine r_iconst (v := (0 : Int32)) hE dX13_printExp_g6.2.2.2.1 (by decide) ?_
            refine r_aload_n hE 0 dX13_printExp_g6.2.2.2.2.1 rfl rfl ?_
            refine mg_three hE hm dX13_printExp_g6.2.2.2.2.2.1 ?_
            refine r_iload_n hE 1 dX13_printExp_g6.2.2.2.2.2.2.1 rfl rfl ?_
            obtain ⟨hi, h⟩ := h
            refine ml_three hE hm dX13_printExp_g6.2.2.2.2.2.2.2.1 hi ?_
            refine r_iload_n hE 2 dX13_printExp_g6.2.2.2.2.2.2.2.2.1 rfl rfl ?_
            refine r_iconst (v := (1 : Int32)) hE dX13_printExp_g6.2.2.2.2.2.2.2.2.2.1 (by decide) ?_
            refine r_iadd hE dX13_printExp_g6.2.2.2.2.2.2.2.2.2.2.1 ?_
            refine m_callVv hE hm [.int (0 : Int32), .int (m_three σ v1.toNatClampNeg), .int (v3 + (1 : Int32))] [] mc_behind_ (km_behind_ hm.2.2.2.2.2.2.2.2 h) (by decide) rfl rfl (Nat.le_of_ble_eq_true rfl) dX13_printExp_g6.2.2.2.2.2.2.2.2.2.2.2.1 (fun s3 h => ?_)
            refine r_aload_n hE 0 dX13_printExp_g6.2.2.2.2.2.2.2.2.2.2.2.2.1 rfl rfl ?_
            refine r_iconst (v := (5 : Int32)) hE dX13_printExp_g6.2.2.2.2.2.2.2.2.2.2.2.2.2.1 (by decide) ?_
            refine r_iload_n hE 1 dX13_printExp_g6.2.2.2.2.2.2.2.2.2.2.2.2.2.2.1 rfl rfl ?_
            refine r_iconst (v := (0 : Int32)) hE dX13_printExp_g6.2.2.2.2.2.2.2.2.2.2.2.2.2.2.2 (by decide) ?_
            refine m_callVv hE hm [.int (5 : Int32), .int v1, .int (0 : Int32)] [] mc_behind_ (km_behind_ hm.2.2.2.2.2.2.2.2 h) (by decide) rfl rfl (Nat.le_of_ble_eq_true rfl) dX13_printExp_g7.1 (fun s4 h => ?_)
            refine r_aload_n hE 0 dX13_printExp_g7.2.1 rfl rfl ?_
            refine r_iconst (v := (0 : Int32)) hE dX13_printExp_g7.2.2.1 (by decide) ?_
            refine r_aload_n hE 0 dX13_printExp_g7.2.2.2.1 rfl rfl ?_
            refine mg_two hE hm dX13_printExp_g7.2.2.2.2.1 ?_
            refine r_iload_n hE 1 dX13_printExp_g7.2.2.2.2.2.1 rfl rfl ?_
            obtain ⟨hi, h⟩ := h
            refine ml_two hE hm dX13_printExp_g7.2.2.2.2.2.2.1 hi ?_
            refine r_iload_n hE 2 dX13_printExp_g7.2.2.2.2.2.2.2.1 rfl rfl ?_
            refine r_iconst (v := (1 : Int32)) hE dX13_printExp_g7.2.2.2.2.2.2.2.2.1 (by decide) ?_
            refine r_icmp_ne hE 212 dX13_printExp_g7.2.2.2.2.2.2.2.2.2.1 (by decide) h (fun h => ?_) (fun h => ?_)
            · refine r_iload_n hE 2 dX13_printExp_g7.2.2.2.2.2.2.2.2.2.2.2.2.1 rfl rfl ?_
              refine r_pick [] rfl ?_
              exact km_printExp_213 hE hm hF _ _ _ _ h
            · refine r_iconst (v := (2 : Int32)) hE dX13_printExp_g7.2.2.2.2.2.2.2.2.2.2.1 (by decide) ?_
              refine r_goto hE 213 dX13_printExp_g7.2.2.2.2.2.2.2.2.2.2.2.1 (by decide) ?_
              refine r_pick [] rfl ?_
              exact km_printExp_213 hE hm hF _ _ _ _ h
        · refine r_aload_n hE 0 dX13_printExp_g5.1 rfl rfl ?_
          refine r_bipush (v := (45 : Int32)) hE dX13_printExp_g5.2.1 (by decide) ?_
          refine m_callVv hE hm [.int (45 : Int32)] [] mc_put (km_put hm.2.2.2.2.2.2.2.2 h) (by decide) rfl rfl (Nat.le_of_ble_eq_true rfl) dX13_printExp_g5.2.2.1 (fun s5 h => ?_)
          refine r_aload_n hE 0 dX13_printExp_g5.2.2.2.1 rfl rfl ?_
          refine r_iconst (v := (0 : Int32)) hE dX13_printExp_g5.2.2.2.2.1 (by decide) ?_
          refine r_aload_n hE 0 dX13_printExp_g5.2.2.2.2.2.1 rfl rfl ?_
          refine mg_one hE hm dX13_printExp_g5.2.2.2.2.2.2.1 ?_
          refine r_iload_n hE 1 dX13_printExp_g5.2.2.2.2.2.2.2.1 rfl rfl ?_
          obtain ⟨hi, h⟩ := h
          refine ml_one hE hm dX13_printExp_g5.2.2.2.2.2.2.2.2.1 hi ?_
          refine r_iconst (v := (4 : Int32)) hE dX13_printExp_g5.2.2.2.2.2.2.2.2.2.1 (by decide) ?_
          refine m_callVv hE hm [.int (0 : Int32), .int (m_one s5 v1.toNatClampNeg), .int (4 : Int32)] [] mc_behind_ (km_behind_ hm.2.2.2.2.2.2.2.2 h) (by decide) rfl rfl (Nat.le_of_ble_eq_true rfl) dX13_printExp_g5.2.2.2.2.2.2.2.2.2.2.1 (fun s6 h => ?_)
          refine r_goto hE 224 dX13_printExp_g5.2.2.2.2.2.2.2.2.2.2.2.1 (by decide) ?_
          exact m_vret hE hm hF dX13_printExp_g8.2.2 h
      · refine r_aload_n hE 0 dX13_printExp_g3.2.1 rfl rfl ?_
        refine r_aload_n hE 0 dX13_printExp_g3.2.2.1 rfl rfl ?_
        refine mg_printScope hE hm dX13_printExp_g3.2.2.2.1 ?_
        refine r_aload_n hE 0 dX13_printExp_g3.2.2.2.2.1 rfl rfl ?_
        refine mg_one hE hm dX13_printExp_g3.2.2.2.2.2.1 ?_
        refine r_iload_n hE 1 dX13_printExp_g3.2.2.2.2.2.2.1 rfl rfl ?_
        obtain ⟨hi, h⟩ := h
        refine ml_one hE hm dX13_printExp_g3.2.2.2.2.2.2.2.1 hi ?_
        refine m_callVv hE hm [.int (m_printScope σ), .int (m_one σ v1.toNatClampNeg)] [] mc_printName (km_printName hm.2.2.2.2.2.2.2.2 h) (by decide) rfl rfl (Nat.le_of_ble_eq_true rfl) dX13_printExp_g3.2.2.2.2.2.2.2.2.1 (fun s7 h => ?_)
        refine r_aload_n hE 0 dX13_printExp_g3.2.2.2.2.2.2.2.2.2.1 rfl rfl ?_
        refine r_bipush (v := (91 : Int32)) hE dX13_printExp_g3.2.2.2.2.2.2.2.2.2.2.1 (by decide) ?_
        refine m_callVv hE hm [.int (91 : Int32)] [] mc_put (km_put hm.2.2.2.2.2.2.2.2 h) (by decide) rfl rfl (Nat.le_of_ble_eq_true rfl) dX13_printExp_g3.2.2.2.2.2.2.2.2.2.2.2.1 (fun s8 h => ?_)
        refine r_aload_n hE 0 dX13_printExp_g3.2.2.2.2.2.2.2.2.2.2.2.2.1 rfl rfl ?_
        refine r_iconst (v := (4 : Int32)) hE dX13_printExp_g3.2.2.2.2.2.2.2.2.2.2.2.2.2.1 (by decide) ?_
        refine r_bipush (v := (93 : Int32)) hE dX13_printExp_g3.2.2.2.2.2.2.2.2.2.2.2.2.2.2.1 (by decide) ?_
        refine r_iconst (v := (0 : Int32)) hE dX13_printExp_g3.2.2.2.2.2.2.2.2.2.2.2.2.2.2.2 (by decide) ?_
        refine m_callVv hE hm [.int (4 : Int32), .int (93 : Int32), .int (0 : Int32)] [] mc_behind_ (km_behind_ hm.2.2.2.2.2.2.2.2 h) (by decide) rfl rfl (Nat.le_of_ble_eq_true rfl) dX13_printExp_g4.1 (fun s9 h => ?_)
        refine r_aload_n hE 0 dX13_printExp_g4.2.1 rfl rfl ?_
        refine r_iconst (v := (0 : Int32)) hE dX13_printExp_g4.2.2.1 (by decide) ?_
        refine r_aload_n hE 0 dX13_printExp_g4.2.2.2.1 rfl rfl ?_
        refine mg_two hE hm dX13_printExp_g4.2.2.2.2.1 ?_
        refine r_iload_n hE 1 dX13_printExp_g4.2.2.2.2.2.1 rfl rfl ?_
        obtain ⟨hi, h⟩ := h
        refine ml_two hE hm dX13_printExp_g4.2.2.2.2.2.2.1 hi ?_
        refine r_iconst (v := (1 : Int32)) hE dX13_printExp_g4.2.2.2.2.2.2.2.1 (by decide) ?_
        refine m_callVv hE hm [.int (0 : Int32), .int (m_two s9 v1.toNatClampNeg), .int (1 : Int32)] [] mc_behind_ (km_behind_ hm.2.2.2.2.2.2.2.2 h) (by decide) rfl rfl (Nat.le_of_ble_eq_true rfl) dX13_printExp_g4.2.2.2.2.2.2.2.2.1 (fun s10 h => ?_)
        refine r_goto hE 224 dX13_printExp_g4.2.2.2.2.2.2.2.2.2.1 (by decide) ?_
        exact m_vret hE hm hF dX13_printExp_g8.2.2 h
    · refine r_aload_n hE 0 dX13_printExp_g2.2.2.1 rfl rfl ?_
      refine r_aload_n hE 0 dX13_printExp_g2.2.2.2.1 rfl rfl ?_
      refine mg_printScope hE hm dX13_printExp_g2.2.2.2.2.1 ?_
      refine r_aload_n hE 0 dX13_printExp_g2.2.2.2.2.2.1 rfl rfl ?_
      refine mg_one hE hm dX13_printExp_g2.2.2.2.2.2.2.1 ?_
      refine r_iload_n hE 1 dX13_printExp_g2.2.2.2.2.2.2.2.1 rfl rfl ?_
      obtain ⟨hi, h⟩ := h
      refine ml_one hE hm dX13_printExp_g2.2.2.2.2.2.2.2.2.1 hi ?_
      refine m_callVv hE hm [.int (m_printScope σ), .int (m_one σ v1.toNatClampNeg)] [] mc_printName (km_printName hm.2.2.2.2.2.2.2.2 h) (by decide) rfl rfl (Nat.le_of_ble_eq_true rfl) dX13_printExp_g2.2.2.2.2.2.2.2.2.2.1 (fun s11 h => ?_)
      refine r_goto hE 224 dX13_printExp_g2.2.2.2.2.2.2.2.2.2.2.1 (by decide) ?_
      exact m_vret hE hm hF dX13_printExp_g8.2.2 h
  · refine r_aload_n hE 0 dX13_printExp_g1.2.2.2.2.2.1 rfl rfl ?_
    refine r_aload_n hE 0 dX13_printExp_g1.2.2.2.2.2.2.1 rfl rfl ?_
    refine mg_value hE hm dX13_printExp_g1.2.2.2.2.2.2.2.1 ?_
    refine r_iload_n hE 1 dX13_printExp_g1.2.2.2.2.2.2.2.2.1 rfl rfl ?_
    obtain ⟨hi, h⟩ := h
    refine ml_value hE hm dX13_printExp_g1.2.2.2.2.2.2.2.2.2.1 hi ?_
    refine m_callVv hE hm [.long (m_value σ v1.toNatClampNeg)] [] mc_figures (km_figures hm.2.2.2.2.2.2.2.2 h) (by decide) rfl rfl (Nat.le_of_ble_eq_true rfl) dX13_printExp_g1.2.2.2.2.2.2.2.2.2.2.1 (fun s12 h => ?_)
    refine r_goto hE 224 dX13_printExp_g1.2.2.2.2.2.2.2.2.2.2.2.1 (by decide) ?_
    exact m_vret hE hm hF dX13_printExp_g8.2.2 h
def wm_printExp (post : MS → Prop) (σ : MS) (a1 : Int32) (a2 : Int32) : Prop := wm_rank (fun (s13 : MS) (r14 : Int32) => ((a2 ≤ r14) → (wm_printExp_25 post s13 a1 r14)) ∧ ((¬ (a2 ≤ r14)) → (wm_put (fun (s15 : MS) => wm_behind_ (fun (s16 : MS) => wm_printExp_25 post s16 a1 r14) s15 (4 : Int32) (41 : Int32) (0 : Int32)) s13 (40 : Int32)))) σ a1
set_option maxRecDepth 20000 in
theorem km_printExp {l : Launch} {D : va_G} {cl : List vw_C} {G : gAd} {post : MS → Prop} (hcl : mC cl) {σ : MS} {a1 : Int32} {a2 : Int32} (h : wm_printExp post σ a1 a2) : mMet l D cl G yX13_printExp cX13_printExp 4 none 4 [.ref (G.1 0), .int a1, .int a2] σ (qV post) := by
  unfold wm_printExp at h
  refine m_enter hcl (by decide +kernel) rfl [(0, .ref (G.1 0)), (1, .int a1), (2, .int a2)] rfl (Nat.le_of_ble_eq_true rfl) ?_
  intro E hE hm hF
  have hN := hm.2.2.2.2.2.2.1
  refine r_aload_n hE 0 dX13_printExp_g0.1 rfl rfl ?_
  refine r_iload_n hE 1 dX13_printExp_g0.2.1 rfl rfl ?_
  refine m_callVi hE hm [.int a1] [] mc_rank (km_rank hm.2.2.2.2.2.2.2.2 h) (by decide) rfl rfl (Nat.le_of_ble_eq_true rfl) dX13_printExp_g0.2.2.1 (fun s13 r14 h => ?_)
  refine r_istore_n hE [(3, .int r14), (0, .ref (G.1 0)), (1, .int a1), (2, .int a2)] dX13_printExp_g0.2.2.2.1 rfl hN (by decide) rfl ?_
  refine r_iload_n hE 0 dX13_printExp_g0.2.2.2.2.1 rfl rfl ?_
  refine r_iload_n hE 3 dX13_printExp_g0.2.2.2.2.2.1 rfl rfl ?_
  refine r_icmp_ge hE 25 dX13_printExp_g0.2.2.2.2.2.2.1 (by decide) h (fun h => ?_) (fun h => ?_)
  · refine r_pick [1, 2, 0] rfl ?_
    exact km_printExp_25 hE hm hF _ _ _ h
  · refine r_aload_n hE 1 dX13_printExp_g0.2.2.2.2.2.2.2.1 rfl rfl ?_
    refine r_bipush (v := (40 : Int32)) hE dX13_printExp_g0.2.2.2.2.2.2.2.2.1 (by decide) ?_
    refine m_callVv hE hm [.int (40 : Int32)] [] mc_put (km_put hm.2.2.2.2.2.2.2.2 h) (by decide) rfl rfl (Nat.le_of_ble_eq_true rfl) dX13_printExp_g0.2.2.2.2.2.2.2.2.2.1 (fun s15 h => ?_)
    refine r_aload_n hE 1 dX13_printExp_g0.2.2.2.2.2.2.2.2.2.2.1 rfl rfl ?_
    refine r_iconst (v := (4 : Int32)) hE dX13_printExp_g0.2.2.2.2.2.2.2.2.2.2.2.1 (by decide) ?_
    refine r_bipush (v := (41 : Int32)) hE dX13_printExp_g0.2.2.2.2.2.2.2.2.2.2.2.2.1 (by decide) ?_
    refine r_iconst (v := (0 : Int32)) hE dX13_printExp_g0.2.2.2.2.2.2.2.2.2.2.2.2.2.1 (by decide) ?_
    refine m_callVv hE hm [.int (4 : Int32), .int (41 : Int32), .int (0 : Int32)] [] mc_behind_ (km_behind_ hm.2.2.2.2.2.2.2.2 h) (by decide) rfl rfl (Nat.le_of_ble_eq_true rfl) dX13_printExp_g0.2.2.2.2.2.2.2.2.2.2.2.2.2.2.1 (fun s16 h => ?_)
    refine r_pick [1, 2, 0] rfl ?_
    exact km_printExp_25 hE hm hF _ _ _ h
/-! indent -/
def wm_indent_2 (post : MS → Prop) : Nat → MS → Int32 → Int32 → Prop
  | 0, _, _, _ => False
  | n + 1, σ, v1, v2 => ((((2 : Int32) * v1) ≤ v2) → (post σ)) ∧ ((¬ (((2 : Int32) * v1) ≤ v2)) → (wm_put (fun (s1 : MS) => ∀ x2 : Int32, x2 = v2 + (1 : Int32) → wm_indent_2 post n s1 v1 x2) σ (32 : Int32)))
set_option maxRecDepth 20000 in
theorem km_indent_2 {E : gEnv} {l : Launch} {D : va_G} {cl : List vw_C} {G : gAd} {post : MS → Prop} (hE : gOK E cX13_indent RX13 none 2) (hm : mOK E l D cl G (qV post) 3) (hF : gFin E) : ∀ (n : Nat) (σ : MS) (v1 : Int32) (v2 : Int32), wm_indent_2 post n σ v1 v2 → GW E (mW G σ) 2 [(0, .ref (G.1 0)), (1, .int v1), (2, .int v2)] [] := by
  intro n
  induction n with
  | zero => intro σ v1 v2 h; exact h.elim
  | succ n ih =>
    intro σ v1 v2 h
    rw [wm_indent_2] at h
    have hN := hm.2.2.2.2.2.2.1
    refine r_iload_n hE 2 dX13_indent_g0.2.2.1 rfl rfl ?_
    refine r_iconst (v := (2 : Int32)) hE dX13_indent_g0.2.2.2.1 (by decide) ?_
    refine r_iload_n hE 1 dX13_indent_g0.2.2.2.2.1 rfl rfl ?_
    refine r_imul hE dX13_indent_g0.2.2.2.2.2.1 ?_
    refine r_icmp_ge hE 21 dX13_indent_g0.2.2.2.2.2.2.1 (by decide) h (fun h => ?_) (fun h => ?_)
    · exact m_vret hE hm hF dX13_indent_g0.2.2.2.2.2.2.2.2.2.2.2.2 h
    · refine r_aload_n hE 0 dX13_indent_g0.2.2.2.2.2.2.2.1 rfl rfl ?_
      refine r_bipush (v := (32 : Int32)) hE dX13_indent_g0.2.2.2.2.2.2.2.2.1 (by decide) ?_
      refine m_callVv hE hm [.int (32 : Int32)] [] mc_put (km_put hm.2.2.2.2.2.2.2.2 h) (by decide) rfl rfl (Nat.le_of_ble_eq_true rfl) dX13_indent_g0.2.2.2.2.2.2.2.2.2.1 (fun s1 h => ?_)
      obtain ⟨x2, ex2⟩ : ∃ z : Int32, z = v2 + (1 : Int32) := ⟨_, rfl⟩
      have h := h x2 ex2
      refine r_iinc (v := x2) hE [(2, .int x2), (0, .ref (G.1 0)), (1, .int v1)] 2 dX13_indent_g0.2.2.2.2.2.2.2.2.2.2.1 rfl (by rw [ex2]; rfl) hN (by decide) rfl ?_
      refine r_goto hE 2 dX13_indent_g0.2.2.2.2.2.2.2.2.2.2.2.1 (by decide) ?_
      refine r_pick [1, 2, 0] rfl ?_
      exact ih _ _ _ h
def wm_indent (post : MS → Prop) (σ : MS) (a1 : Int32) : Prop := ∃ k : Nat, wm_indent_2 post k σ a1 (0 : Int32)
set_option maxRecDepth 20000 in
theorem km_indent {l : Launch} {D : va_G} {cl : List vw_C} {G : gAd} {post : MS → Prop} (hcl : mC cl) {σ : MS} {a1 : Int32} (h : wm_indent post σ a1) : mMet l D cl G yX13_indent cX13_indent 3 none 2 [.ref (G.1 0), .int a1] σ (qV post) := by
  unfold wm_indent at h
  refine m_enter hcl (by decide +kernel) rfl [(0, .ref (G.1 0)), (1, .int a1)] rfl (Nat.le_of_ble_eq_true rfl) ?_
  intro E hE hm hF
  have hN := hm.2.2.2.2.2.2.1
  refine r_iconst (v := (0 : Int32)) hE dX13_indent_g0.1 (by decide) ?_
  refine r_istore_n hE [(2, .int (0 : Int32)), (0, .ref (G.1 0)), (1, .int a1)] dX13_indent_g0.2.1 rfl hN (by decide) rfl ?_
  refine r_pick [1, 2, 0] rfl ?_
  obtain ⟨k, h⟩ := h
  exact km_indent_2 hE hm hF k _ _ _ h
/-! placeOf10 -/
def wm_placeOf_wordList_22 (post : MS → Int32 → Prop) (lp4 : MS → Int32 → Int32 → Prop) (σ : MS) (v2 : Int32) (t0 : Int32) (t1 : Int32) : Prop := ∀ x1 : Int32, x1 = t0 - t1 → ∀ x2 : Int32, x2 = v2 + (1 : Int32) → lp4 σ x2 x1
set_option maxRecDepth 20000 in
theorem km_placeOf_wordList_22 {E : gEnv} {l : Launch} {D : va_G} {cl : List vw_C} {G : gAd} {post : MS → Int32 → Prop} (hE : gOK E cX13_placeOf RX13 (some .int) 1) (hm : mOK E l D cl G (qI post) 4) (hF : gFin E) {lp4 : MS → Int32 → Int32 → Prop} (hl4 : ∀ (σ : MS) (v2 : Int32) (v3 : Int32), lp4 σ v2 v3 → GW E (mW G σ) 4 [(0, .ref (G.1 10)), (2, .int v2), (3, .int v3)] []) (σ : MS) (v2 : Int32) (t0 : Int32) (t1 : Int32) (h : wm_placeOf_wordList_22 post lp4 σ v2 t0 t1) : GW E (mW G σ) 22 [(0, .ref (G.1 10)), (2, .int v2)] [.int t1, .int t0] := by
  unfold wm_placeOf_wordList_22 at h
  have hN := hm.2.2.2.2.2.2.1
  refine r_isub hE dX13_placeOf_g0.2.2.2.2.2.2.2.2.2.2.2.2.2.2.2 ?_
  refine r_topi h (fun x1 ex1 h => ?_)
  refine r_istore_n hE [(3, .int x1), (0, .ref (G.1 10)), (2, .int v2)] dX13_placeOf_g1.1 rfl hN (by decide) rfl ?_
  obtain ⟨x2, ex2⟩ : ∃ z : Int32, z = v2 + (1 : Int32) := ⟨_, rfl⟩
  have h := h x2 ex2
  refine r_iinc (v := x2) hE [(2, .int x2), (3, .int x1), (0, .ref (G.1 10))] 2 dX13_placeOf_g1.2.1 rfl (by rw [ex2]; rfl) hN (by decide) rfl ?_
  refine r_goto hE 4 dX13_placeOf_g1.2.2.1 (by decide) ?_
  refine r_pick [2, 0, 1] rfl ?_
  exact hl4 _ _ _ h
def wm_placeOf_wordList_4 (post : MS → Int32 → Prop) : Nat → MS → Int32 → Int32 → Prop
  | 0, _, _, _ => False
  | n + 1, σ, v2, v3 => ((v3 ≤ (0 : Int32)) → (post σ v2)) ∧ ((¬ (v3 ≤ (0 : Int32))) → (vp_in v2 36 ∧ (((¬ ((m_wordList σ v2.toNatClampNeg) = (32 : Int32))) → (wm_placeOf_wordList_22 post (fun (ys : MS) (y0 : Int32) (y1 : Int32) => wm_placeOf_wordList_4 post n ys y0 y1) σ v2 v3 (0 : Int32))) ∧ (((m_wordList σ v2.toNatClampNeg) = (32 : Int32)) → (wm_placeOf_wordList_22 post (fun (ys : MS) (y0 : Int32) (y1 : Int32) => wm_placeOf_wordList_4 post n ys y0 y1) σ v2 v3 (1 : Int32))))))
set_option maxRecDepth 20000 in
theorem km_placeOf_wordList_4 {E : gEnv} {l : Launch} {D : va_G} {cl : List vw_C} {G : gAd} {post : MS → Int32 → Prop} (hE : gOK E cX13_placeOf RX13 (some .int) 1) (hm : mOK E l D cl G (qI post) 4) (hF : gFin E) : ∀ (n : Nat) (σ : MS) (v2 : Int32) (v3 : Int32), wm_placeOf_wordList_4 post n σ v2 v3 → GW E (mW G σ) 4 [(0, .ref (G.1 10)), (2, .int v2), (3, .int v3)] [] := by
  intro n
  induction n with
  | zero => intro σ v2 v3 h; exact h.elim
  | succ n ih =>
    intro σ v2 v3 h
    rw [wm_placeOf_wordList_4] at h
    have hN := hm.2.2.2.2.2.2.1
    refine r_iload_n hE 2 dX13_placeOf_g0.2.2.2.2.1 rfl rfl ?_
    refine r_if_le hE 30 dX13_placeOf_g0.2.2.2.2.2.1 (by decide) h (fun h => ?_) (fun h => ?_)
    · refine r_iload_n hE 1 dX13_placeOf_g1.2.2.2.1 rfl rfl ?_
      exact m_iret hE hm hF dX13_placeOf_g1.2.2.2.2 h
    · refine r_iload_n hE 2 dX13_placeOf_g0.2.2.2.2.2.2.1 rfl rfl ?_
      refine r_aload_n hE 0 dX13_placeOf_g0.2.2.2.2.2.2.2.1 rfl rfl ?_
      refine r_iload_n hE 1 dX13_placeOf_g0.2.2.2.2.2.2.2.2.1 rfl rfl ?_
      obtain ⟨hi, h⟩ := h
      refine ml_wordList hE hm dX13_placeOf_g0.2.2.2.2.2.2.2.2.2.1 hi ?_
      refine r_bipush (v := (32 : Int32)) hE dX13_placeOf_g0.2.2.2.2.2.2.2.2.2.2.1 (by decide) ?_
      refine r_icmp_ne hE 21 dX13_placeOf_g0.2.2.2.2.2.2.2.2.2.2.2.1 (by decide) h (fun h => ?_) (fun h => ?_)
      · refine r_iconst (v := (0 : Int32)) hE dX13_placeOf_g0.2.2.2.2.2.2.2.2.2.2.2.2.2.2.1 (by decide) ?_
        refine r_pick [0, 1] rfl ?_
        exact km_placeOf_wordList_22 hE hm hF ih _ _ _ _ h
      · refine r_iconst (v := (1 : Int32)) hE dX13_placeOf_g0.2.2.2.2.2.2.2.2.2.2.2.2.1 (by decide) ?_
        refine r_goto hE 22 dX13_placeOf_g0.2.2.2.2.2.2.2.2.2.2.2.2.2.1 (by decide) ?_
        refine r_pick [0, 1] rfl ?_
        exact km_placeOf_wordList_22 hE hm hF ih _ _ _ _ h
def wm_placeOf_wordList (post : MS → Int32 → Prop) (σ : MS) (a1 : Int32) : Prop := ∃ k : Nat, wm_placeOf_wordList_4 post k σ (0 : Int32) a1
set_option maxRecDepth 20000 in
theorem km_placeOf_wordList {l : Launch} {D : va_G} {cl : List vw_C} {G : gAd} {post : MS → Int32 → Prop} (hcl : mC cl) {σ : MS} {a1 : Int32} (h : wm_placeOf_wordList post σ a1) : mMet l D cl G yX13_placeOf cX13_placeOf 4 (some .int) 1 [.ref (G.1 10), .int a1] σ (qI post) := by
  unfold wm_placeOf_wordList at h
  refine m_enter hcl (by decide +kernel) rfl [(0, .ref (G.1 10)), (1, .int a1)] rfl (Nat.le_of_ble_eq_true rfl) ?_
  intro E hE hm hF
  have hN := hm.2.2.2.2.2.2.1
  refine r_iconst (v := (0 : Int32)) hE dX13_placeOf_g0.1 (by decide) ?_
  refine r_istore_n hE [(2, .int (0 : Int32)), (0, .ref (G.1 10)), (1, .int a1)] dX13_placeOf_g0.2.1 rfl hN (by decide) rfl ?_
  refine r_iload_n hE 2 dX13_placeOf_g0.2.2.1 rfl rfl ?_
  refine r_istore_n hE [(3, .int a1), (2, .int (0 : Int32)), (0, .ref (G.1 10)), (1, .int a1)] dX13_placeOf_g0.2.2.2.1 rfl hN (by decide) rfl ?_
  refine r_pick [2, 1, 0] rfl ?_
  obtain ⟨k, h⟩ := h
  exact km_placeOf_wordList_4 hE hm hF k _ _ _ h
/-! sizeOf10 -/
def wm_sizeOf_wordList_2 (post : MS → Int32 → Prop) : Nat → MS → Int32 → Int32 → Prop
  | 0, _, _, _ => False
  | n + 1, σ, v1, v2 => vp_in (v1 + v2) 36 ∧ ((((m_wordList σ (v1 + v2).toNatClampNeg) = (32 : Int32)) → (post σ v2)) ∧ ((¬ ((m_wordList σ (v1 + v2).toNatClampNeg) = (32 : Int32))) → (∀ x1 : Int32, x1 = v2 + (1 : Int32) → wm_sizeOf_wordList_2 post n σ v1 x1)))
set_option maxRecDepth 20000 in
theorem km_sizeOf_wordList_2 {E : gEnv} {l : Launch} {D : va_G} {cl : List vw_C} {G : gAd} {post : MS → Int32 → Prop} (hE : gOK E cX13_sizeOf RX13 (some .int) 1) (hm : mOK E l D cl G (qI post) 3) (hF : gFin E) : ∀ (n : Nat) (σ : MS) (v1 : Int32) (v2 : Int32), wm_sizeOf_wordList_2 post n σ v1 v2 → GW E (mW G σ) 2 [(0, .ref (G.1 10)), (1, .int v1), (2, .int v2)] [] := by
  intro n
  induction n with
  | zero => intro σ v1 v2 h; exact h.elim
  | succ n ih =>
    intro σ v1 v2 h
    rw [wm_sizeOf_wordList_2] at h
    have hN := hm.2.2.2.2.2.2.1
    refine r_aload_n hE 0 dX13_sizeOf_g0.2.2.1 rfl rfl ?_
    refine r_iload_n hE 1 dX13_sizeOf_g0.2.2.2.1 rfl rfl ?_
    refine r_iload_n hE 2 dX13_sizeOf_g0.2.2.2.2.1 rfl rfl ?_
    refine r_iadd hE dX13_sizeOf_g0.2.2.2.2.2.1 ?_
    obtain ⟨hi, h⟩ := h
    refine ml_wordList hE hm dX13_sizeOf_g0.2.2.2.2.2.2.1 hi ?_
    refine r_bipush (v := (32 : Int32)) hE dX13_sizeOf_g0.2.2.2.2.2.2.2.1 (by decide) ?_
    refine r_icmp_eq hE 18 dX13_sizeOf_g0.2.2.2.2.2.2.2.2.1 (by decide) h (fun h => ?_) (fun h => ?_)
    · refine r_iload_n hE 2 dX13_sizeOf_g0.2.2.2.2.2.2.2.2.2.2.2.1 rfl rfl ?_
      exact m_iret hE hm hF dX13_sizeOf_g0.2.2.2.2.2.2.2.2.2.2.2.2 h
    · obtain ⟨x1, ex1⟩ : ∃ z : Int32, z = v2 + (1 : Int32) := ⟨_, rfl⟩
      have h := h x1 ex1
      refine r_iinc (v := x1) hE [(2, .int x1), (0, .ref (G.1 10)), (1, .int v1)] 2 dX13_sizeOf_g0.2.2.2.2.2.2.2.2.2.1 rfl (by rw [ex1]; rfl) hN (by decide) rfl ?_
      refine r_goto hE 2 dX13_sizeOf_g0.2.2.2.2.2.2.2.2.2.2.1 (by decide) ?_
      refine r_pick [1, 2, 0] rfl ?_
      exact ih _ _ _ h
def wm_sizeOf_wordList (post : MS → Int32 → Prop) (σ : MS) (a1 : Int32) : Prop := ∃ k : Nat, wm_sizeOf_wordList_2 post k σ a1 (0 : Int32)
set_option maxRecDepth 20000 in
theorem km_sizeOf_wordList {l : Launch} {D : va_G} {cl : List vw_C} {G : gAd} {post : MS → Int32 → Prop} (hcl : mC cl) {σ : MS} {a1 : Int32} (h : wm_sizeOf_wordList post σ a1) : mMet l D cl G yX13_sizeOf cX13_sizeOf 3 (some .int) 1 [.ref (G.1 10), .int a1] σ (qI post) := by
  unfold wm_sizeOf_wordList at h
  refine m_enter hcl (by decide +kernel) rfl [(0, .ref (G.1 10)), (1, .int a1)] rfl (Nat.le_of_ble_eq_true rfl) ?_
  intro E hE hm hF
  have hN := hm.2.2.2.2.2.2.1
  refine r_iconst (v := (0 : Int32)) hE dX13_sizeOf_g0.1 (by decide) ?_
  refine r_istore_n hE [(2, .int (0 : Int32)), (0, .ref (G.1 10)), (1, .int a1)] dX13_sizeOf_g0.2.1 rfl hN (by decide) rfl ?_
  refine r_pick [1, 2, 0] rfl ?_
  obtain ⟨k, h⟩ := h
  exact km_sizeOf_wordList_2 hE hm hF k _ _ _ h
/-! word10 -/
def wm_word_wordList_9 (post : MS → Prop) : Nat → MS → Int32 → Int32 → Prop
  | 0, _, _, _ => False
  | n + 1, σ, v3, v4 => wm_sizeOf_wordList (fun (s1 : MS) (r2 : Int32) => ((r2 ≤ v4) → (post s1)) ∧ ((¬ (r2 ≤ v4)) → (vp_in (v3 + v4) 36 ∧ (wm_put (fun (s3 : MS) => ∀ x4 : Int32, x4 = v4 + (1 : Int32) → wm_word_wordList_9 post n s3 v3 x4) s1 (m_wordList s1 (v3 + v4).toNatClampNeg))))) σ v3
set_option maxRecDepth 20000 in
theorem km_word_wordList_9 {E : gEnv} {l : Launch} {D : va_G} {cl : List vw_C} {G : gAd} {post : MS → Prop} (hE : gOK E cX13_word RX13 none 2) (hm : mOK E l D cl G (qV post) 5) (hF : gFin E) : ∀ (n : Nat) (σ : MS) (v3 : Int32) (v4 : Int32), wm_word_wordList_9 post n σ v3 v4 → GW E (mW G σ) 9 [(0, .ref (G.1 0)), (1, .ref (G.1 10)), (3, .int v3), (4, .int v4)] [] := by
  intro n
  induction n with
  | zero => intro σ v3 v4 h; exact h.elim
  | succ n ih =>
    intro σ v3 v4 h
    rw [wm_word_wordList_9] at h
    have hN := hm.2.2.2.2.2.2.1
    refine r_iload hE 3 dX13_word_g0.2.2.2.2.2.2.1 rfl ?_
    refine r_aload_n hE 1 dX13_word_g0.2.2.2.2.2.2.2.1 rfl rfl ?_
    refine r_iload_n hE 2 dX13_word_g0.2.2.2.2.2.2.2.2.1 rfl rfl ?_
    refine m_callSi hE hm [.ref (G.1 10), .int v3] [.int v4] mc_sizeOf (km_sizeOf_wordList hm.2.2.2.2.2.2.2.2 h) (by decide) rfl rfl (Nat.le_of_ble_eq_true rfl) dX13_word_g0.2.2.2.2.2.2.2.2.2.1 (fun s1 r2 h => ?_)
    refine r_icmp_ge hE 35 dX13_word_g0.2.2.2.2.2.2.2.2.2.2.1 (by decide) h (fun h => ?_) (fun h => ?_)
    · exact m_vret hE hm hF dX13_word_g1.2.2.2.2 h
    · refine r_aload_n hE 0 dX13_word_g0.2.2.2.2.2.2.2.2.2.2.2.1 rfl rfl ?_
      refine r_aload_n hE 1 dX13_word_g0.2.2.2.2.2.2.2.2.2.2.2.2.1 rfl rfl ?_
      refine r_iload_n hE 2 dX13_word_g0.2.2.2.2.2.2.2.2.2.2.2.2.2.1 rfl rfl ?_
      refine r_iload hE 3 dX13_word_g0.2.2.2.2.2.2.2.2.2.2.2.2.2.2.1 rfl ?_
      refine r_iadd hE dX13_word_g0.2.2.2.2.2.2.2.2.2.2.2.2.2.2.2 ?_
      obtain ⟨hi, h⟩ := h
      refine ml_wordList hE hm dX13_word_g1.1 hi ?_
      refine m_callVv hE hm [.int (m_wordList s1 (v3 + v4).toNatClampNeg)] [] mc_put (km_put hm.2.2.2.2.2.2.2.2 h) (by decide) rfl rfl (Nat.le_of_ble_eq_true rfl) dX13_word_g1.2.1 (fun s3 h => ?_)
      obtain ⟨x4, ex4⟩ : ∃ z : Int32, z = v4 + (1 : Int32) := ⟨_, rfl⟩
      have h := h x4 ex4
      refine r_iinc (v := x4) hE [(4, .int x4), (0, .ref (G.1 0)), (1, .ref (G.1 10)), (3, .int v3)] 3 dX13_word_g1.2.2.1 rfl (by rw [ex4]; rfl) hN (by decide) rfl ?_
      refine r_goto hE 9 dX13_word_g1.2.2.2.1 (by decide) ?_
      refine r_pick [1, 2, 3, 0] rfl ?_
      exact ih _ _ _ h
def wm_word_wordList (post : MS → Prop) (σ : MS) (a2 : Int32) : Prop := wm_placeOf_wordList (fun (s5 : MS) (r6 : Int32) => ∃ k : Nat, wm_word_wordList_9 post k s5 r6 (0 : Int32)) σ a2
set_option maxRecDepth 20000 in
theorem km_word_wordList {l : Launch} {D : va_G} {cl : List vw_C} {G : gAd} {post : MS → Prop} (hcl : mC cl) {σ : MS} {a2 : Int32} (h : wm_word_wordList post σ a2) : mMet l D cl G yX13_word cX13_word 5 none 2 [.ref (G.1 0), .ref (G.1 10), .int a2] σ (qV post) := by
  unfold wm_word_wordList at h
  refine m_enter hcl (by decide +kernel) rfl [(0, .ref (G.1 0)), (1, .ref (G.1 10)), (2, .int a2)] rfl (Nat.le_of_ble_eq_true rfl) ?_
  intro E hE hm hF
  have hN := hm.2.2.2.2.2.2.1
  refine r_aload_n hE 1 dX13_word_g0.1 rfl rfl ?_
  refine r_iload_n hE 2 dX13_word_g0.2.1 rfl rfl ?_
  refine m_callSi hE hm [.ref (G.1 10), .int a2] [] mc_placeOf (km_placeOf_wordList hm.2.2.2.2.2.2.2.2 h) (by decide) rfl rfl (Nat.le_of_ble_eq_true rfl) dX13_word_g0.2.2.1 (fun s5 r6 h => ?_)
  refine r_istore_n hE [(3, .int r6), (0, .ref (G.1 0)), (1, .ref (G.1 10)), (2, .int a2)] dX13_word_g0.2.2.2.1 rfl hN (by decide) rfl ?_
  refine r_iconst (v := (0 : Int32)) hE dX13_word_g0.2.2.2.2.1 (by decide) ?_
  refine r_istore hE [(4, .int (0 : Int32)), (3, .int r6), (0, .ref (G.1 0)), (1, .ref (G.1 10)), (2, .int a2)] dX13_word_g0.2.2.2.2.2.1 hN (by decide) rfl ?_
  refine r_pick [2, 3, 1, 0] rfl ?_
  obtain ⟨k, h⟩ := h
  exact km_word_wordList_9 hE hm hF k _ _ _ h
/-! printDeeds -/
def wm_printDeeds_41 (post : MS → Prop) (σ : MS) (v1 : Int32) : Prop := vp_in v1 600 ∧ (wm_printName (fun (s1 : MS) => wm_behind_ (fun (s2 : MS) => vp_in v1 600 ∧ (wm_behind_ (fun (s3 : MS) => wm_behind_ (fun (s4 : MS) => vp_in v1 600 ∧ (((¬ ((m_kind s4 v1.toNatClampNeg) = (1 : Int32))) → (post s4)) ∧ (((m_kind s4 v1.toNatClampNeg) = (1 : Int32)) → (wm_put (fun (s5 : MS) => wm_behind_ (fun (s6 : MS) => vp_in v1 600 ∧ (wm_behind_ (fun (s7 : MS) => post s7) s6 (0 : Int32) (m_two s6 v1.toNatClampNeg) (1 : Int32))) s5 (4 : Int32) (93 : Int32) (0 : Int32)) s4 (91 : Int32))))) s3 (9 : Int32) (0 : Int32) (0 : Int32)) s2 (0 : Int32) (m_three s2 v1.toNatClampNeg) (1 : Int32))) s1 (8 : Int32) (0 : Int32) (0 : Int32)) σ (m_printScope σ) (m_one σ v1.toNatClampNeg))
set_option maxRecDepth 20000 in
theorem km_printDeeds_41 {E : gEnv} {l : Launch} {D : va_G} {cl : List vw_C} {G : gAd} {post : MS → Prop} (hE : gOK E cX13_printDeeds RX13 none 3) (hm : mOK E l D cl G (qV post) 3) (hF : gFin E) (σ : MS) (v1 : Int32) (h : wm_printDeeds_41 post σ v1) : GW E (mW G σ) 41 [(0, .ref (G.1 0)), (1, .int v1)] [] := by
  unfold wm_printDeeds_41 at h
  have hN := hm.2.2.2.2.2.2.1
  refine r_aload_n hE 0 dX13_printDeeds_g1.2.2.2.2.2.2.2.2.2.1 rfl rfl ?_
  refine r_aload_n hE 0 dX13_printDeeds_g1.2.2.2.2.2.2.2.2.2.2.1 rfl rfl ?_
  refine mg_printScope hE hm dX13_printDeeds_g1.2.2.2.2.2.2.2.2.2.2.2.1 ?_
  refine r_aload_n hE 0 dX13_printDeeds_g1.2.2.2.2.2.2.2.2.2.2.2.2.1 rfl rfl ?_
  refine mg_one hE hm dX13_printDeeds_g1.2.2.2.2.2.2.2.2.2.2.2.2.2.1 ?_
  refine r_iload_n hE 1 dX13_printDeeds_g1.2.2.2.2.2.2.2.2.2.2.2.2.2.2.1 rfl rfl ?_
  obtain ⟨hi, h⟩ := h
  refine ml_one hE hm dX13_printDeeds_g1.2.2.2.2.2.2.2.2.2.2.2.2.2.2.2 hi ?_
  refine m_callVv hE hm [.int (m_printScope σ), .int (m_one σ v1.toNatClampNeg)] [] mc_printName (km_printName hm.2.2.2.2.2.2.2.2 h) (by decide) rfl rfl (Nat.le_of_ble_eq_true rfl) dX13_printDeeds_g2.1 (fun s1 h => ?_)
  refine r_aload_n hE 0 dX13_printDeeds_g2.2.1 rfl rfl ?_
  refine r_bipush (v := (8 : Int32)) hE dX13_printDeeds_g2.2.2.1 (by decide) ?_
  refine r_iconst (v := (0 : Int32)) hE dX13_printDeeds_g2.2.2.2.1 (by decide) ?_
  refine r_iconst (v := (0 : Int32)) hE dX13_printDeeds_g2.2.2.2.2.1 (by decide) ?_
  refine m_callVv hE hm [.int (8 : Int32), .int (0 : Int32), .int (0 : Int32)] [] mc_behind_ (km_behind_ hm.2.2.2.2.2.2.2.2 h) (by decide) rfl rfl (Nat.le_of_ble_eq_true rfl) dX13_printDeeds_g2.2.2.2.2.2.1 (fun s2 h => ?_)
  refine r_aload_n hE 0 dX13_printDeeds_g2.2.2.2.2.2.2.1 rfl rfl ?_
  refine r_iconst (v := (0 : Int32)) hE dX13_printDeeds_g2.2.2.2.2.2.2.2.1 (by decide) ?_
  refine r_aload_n hE 0 dX13_printDeeds_g2.2.2.2.2.2.2.2.2.1 rfl rfl ?_
  refine mg_three hE hm dX13_printDeeds_g2.2.2.2.2.2.2.2.2.2.1 ?_
  refine r_iload_n hE 1 dX13_printDeeds_g2.2.2.2.2.2.2.2.2.2.2.1 rfl rfl ?_
  obtain ⟨hi, h⟩ := h
  refine ml_three hE hm dX13_printDeeds_g2.2.2.2.2.2.2.2.2.2.2.2.1 hi ?_
  refine r_iconst (v := (1 : Int32)) hE dX13_printDeeds_g2.2.2.2.2.2.2.2.2.2.2.2.2.1 (by decide) ?_
  refine m_callVv hE hm [.int (0 : Int32), .int (m_three s2 v1.toNatClampNeg), .int (1 : Int32)] [] mc_behind_ (km_behind_ hm.2.2.2.2.2.2.2.2 h) (by decide) rfl rfl (Nat.le_of_ble_eq_true rfl) dX13_printDeeds_g2.2.2.2.2.2.2.2.2.2.2.2.2.2.1 (fun s3 h => ?_)
  refine r_aload_n hE 0 dX13_printDeeds_g2.2.2.2.2.2.2.2.2.2.2.2.2.2.2.1 rfl rfl ?_
  refine r_bipush (v := (9 : Int32)) hE dX13_printDeeds_g2.2.2.2.2.2.2.2.2.2.2.2.2.2.2.2 (by decide) ?_
  refine r_iconst (v := (0 : Int32)) hE dX13_printDeeds_g3.1 (by decide) ?_
  refine r_iconst (v := (0 : Int32)) hE dX13_printDeeds_g3.2.1 (by decide) ?_
  refine m_callVv hE hm [.int (9 : Int32), .int (0 : Int32), .int (0 : Int32)] [] mc_behind_ (km_behind_ hm.2.2.2.2.2.2.2.2 h) (by decide) rfl rfl (Nat.le_of_ble_eq_true rfl) dX13_printDeeds_g3.2.2.1 (fun s4 h => ?_)
  refine r_aload_n hE 0 dX13_printDeeds_g3.2.2.2.1 rfl rfl ?_
  refine mg_kind hE hm dX13_printDeeds_g3.2.2.2.2.1 ?_
  refine r_iload_n hE 1 dX13_printDeeds_g3.2.2.2.2.2.1 rfl rfl ?_
  obtain ⟨hi, h⟩ := h
  refine ml_kind hE hm dX13_printDeeds_g3.2.2.2.2.2.2.1 hi ?_
  refine r_iconst (v := (1 : Int32)) hE dX13_printDeeds_g3.2.2.2.2.2.2.2.1 (by decide) ?_
  refine r_icmp_ne hE 119 dX13_printDeeds_g3.2.2.2.2.2.2.2.2.1 (by decide) h (fun h => ?_) (fun h => ?_)
  · exact m_vret hE hm hF dX13_printDeeds_g4.2.2.2.2.2.2.2.2.2.1 h
  · refine r_aload_n hE 0 dX13_printDeeds_g3.2.2.2.2.2.2.2.2.2.1 rfl rfl ?_
    refine r_bipush (v := (91 : Int32)) hE dX13_printDeeds_g3.2.2.2.2.2.2.2.2.2.2.1 (by decide) ?_
    refine m_callVv hE hm [.int (91 : Int32)] [] mc_put (km_put hm.2.2.2.2.2.2.2.2 h) (by decide) rfl rfl (Nat.le_of_ble_eq_true rfl) dX13_printDeeds_g3.2.2.2.2.2.2.2.2.2.2.2.1 (fun s5 h => ?_)
    refine r_aload_n hE 0 dX13_printDeeds_g3.2.2.2.2.2.2.2.2.2.2.2.2.1 rfl rfl ?_
    refine r_iconst (v := (4 : Int32)) hE dX13_printDeeds_g3.2.2.2.2.2.2.2.2.2.2.2.2.2.1 (by decide) ?_
    refine r_bipush (v := (93 : Int32)) hE dX13_printDeeds_g3.2.2.2.2.2.2.2.2.2.2.2.2.2.2.1 (by decide) ?_
    refine r_iconst (v := (0 : Int32)) hE dX13_printDeeds_g3.2.2.2.2.2.2.2.2.2.2.2.2.2.2.2 (by decide) ?_
    refine m_callVv hE hm [.int (4 : Int32), .int (93 : Int32), .int (0 : Int32)] [] mc_behind_ (km_behind_ hm.2.2.2.2.2.2.2.2 h) (by decide) rfl rfl (Nat.le_of_ble_eq_true rfl) dX13_printDeeds_g4.1 (fun s6 h => ?_)
    refine r_aload_n hE 0 dX13_printDeeds_g4.2.1 rfl rfl ?_
    refine r_iconst (v := (0 : Int32)) hE dX13_printDeeds_g4.2.2.1 (by decide) ?_
    refine r_aload_n hE 0 dX13_printDeeds_g4.2.2.2.1 rfl rfl ?_
    refine mg_two hE hm dX13_printDeeds_g4.2.2.2.2.1 ?_
    refine r_iload_n hE 1 dX13_printDeeds_g4.2.2.2.2.2.1 rfl rfl ?_
    obtain ⟨hi, h⟩ := h
    refine ml_two hE hm dX13_printDeeds_g4.2.2.2.2.2.2.1 hi ?_
    refine r_iconst (v := (1 : Int32)) hE dX13_printDeeds_g4.2.2.2.2.2.2.2.1 (by decide) ?_
    refine m_callVv hE hm [.int (0 : Int32), .int (m_two s6 v1.toNatClampNeg), .int (1 : Int32)] [] mc_behind_ (km_behind_ hm.2.2.2.2.2.2.2.2 h) (by decide) rfl rfl (Nat.le_of_ble_eq_true rfl) dX13_printDeeds_g4.2.2.2.2.2.2.2.2.1 (fun s7 h => ?_)
    exact m_vret hE hm hF dX13_printDeeds_g4.2.2.2.2.2.2.2.2.2.1 h
def wm_printDeeds_214 (post : MS → Prop) (σ : MS) (v1 : Int32) : Prop := vp_in v1 600 ∧ (wm_behind_ (fun (s8 : MS) => post s8) σ (0 : Int32) (m_one σ v1.toNatClampNeg) (1 : Int32))
set_option maxRecDepth 20000 in
theorem km_printDeeds_214 {E : gEnv} {l : Launch} {D : va_G} {cl : List vw_C} {G : gAd} {post : MS → Prop} (hE : gOK E cX13_printDeeds RX13 none 3) (hm : mOK E l D cl G (qV post) 3) (hF : gFin E) (σ : MS) (v1 : Int32) (h : wm_printDeeds_214 post σ v1) : GW E (mW G σ) 214 [(0, .ref (G.1 0)), (1, .int v1)] [] := by
  unfold wm_printDeeds_214 at h
  have hN := hm.2.2.2.2.2.2.1
  refine r_aload_n hE 0 dX13_printDeeds_g8.2.2.2.1 rfl rfl ?_
  refine r_iconst (v := (0 : Int32)) hE dX13_printDeeds_g8.2.2.2.2.1 (by decide) ?_
  refine r_aload_n hE 0 dX13_printDeeds_g8.2.2.2.2.2.1 rfl rfl ?_
  refine mg_one hE hm dX13_printDeeds_g8.2.2.2.2.2.2.1 ?_
  refine r_iload_n hE 1 dX13_printDeeds_g8.2.2.2.2.2.2.2.1 rfl rfl ?_
  obtain ⟨hi, h⟩ := h
  refine ml_one hE hm dX13_printDeeds_g8.2.2.2.2.2.2.2.2.1 hi ?_
  refine r_iconst (v := (1 : Int32)) hE dX13_printDeeds_g8.2.2.2.2.2.2.2.2.2.1 (by decide) ?_
  refine m_callVv hE hm [.int (0 : Int32), .int (m_one σ v1.toNatClampNeg), .int (1 : Int32)] [] mc_behind_ (km_behind_ hm.2.2.2.2.2.2.2.2 h) (by decide) rfl rfl (Nat.le_of_ble_eq_true rfl) dX13_printDeeds_g8.2.2.2.2.2.2.2.2.2.2.1 (fun s8 h => ?_)
  exact m_vret hE hm hF dX13_printDeeds_g8.2.2.2.2.2.2.2.2.2.2.2 h
def wm_printDeeds_174 (post : MS → Prop) (σ : MS) (v1 : Int32) (v2 : Int32) : Prop := wm_behind_ (fun (s9 : MS) => vp_in v1 600 ∧ (wm_behind_ (fun (s10 : MS) => wm_behind_ (fun (s11 : MS) => wm_printDeeds_214 post s11 v1) s10 (7 : Int32) (0 : Int32) (0 : Int32)) s9 (1 : Int32) (m_two s9 v1.toNatClampNeg) (v2 + (1 : Int32)))) σ (2 : Int32) v1 v2
set_option maxRecDepth 20000 in
theorem km_printDeeds_174 {E : gEnv} {l : Launch} {D : va_G} {cl : List vw_C} {G : gAd} {post : MS → Prop} (hE : gOK E cX13_printDeeds RX13 none 3) (hm : mOK E l D cl G (qV post) 3) (hF : gFin E) (σ : MS) (v1 : Int32) (v2 : Int32) (h : wm_printDeeds_174 post σ v1 v2) : GW E (mW G σ) 174 [(0, .ref (G.1 0)), (1, .int v1), (2, .int v2)] [] := by
  unfold wm_printDeeds_174 at h
  have hN := hm.2.2.2.2.2.2.1
  refine r_aload_n hE 0 dX13_printDeeds_g6.2.2.2.2.2.2.2.2.2.1 rfl rfl ?_
  refine r_iconst (v := (2 : Int32)) hE dX13_printDeeds_g6.2.2.2.2.2.2.2.2.2.2.1 (by decide) ?_
  refine r_iload_n hE 1 dX13_printDeeds_g6.2.2.2.2.2.2.2.2.2.2.2.1 rfl rfl ?_
  refine r_iload_n hE 2 dX13_printDeeds_g6.2.2.2.2.2.2.2.2.2.2.2.2.1 rfl rfl ?_
  refine m_callVv hE hm [.int (2 : Int32), .int v1, .int v2] [] mc_behind_ (km_behind_ hm.2.2.2.2.2.2.2.2 h) (by decide) rfl rfl (Nat.le_of_ble_eq_true rfl) dX13_printDeeds_g6.2.2.2.2.2.2.2.2.2.2.2.2.2.1 (fun s9 h => ?_)
  refine r_aload_n hE 0 dX13_printDeeds_g6.2.2.2.2.2.2.2.2.2.2.2.2.2.2.1 rfl rfl ?_
  refine r_iconst (v := (1 : Int32)) hE dX13_printDeeds_g6.2.2.2.2.2.2.2.2.2.2.2.2.2.2.2 (by decide) ?_
  refine r_aload_n hE 0 dX13_printDeeds_g7.1 rfl rfl ?_
  refine mg_two hE hm dX13_printDeeds_g7.2.1 ?_
  refine r_iload_n hE 1 dX13_printDeeds_g7.2.2.1 rfl rfl ?_
  obtain ⟨hi, h⟩ := h
  refine ml_two hE hm dX13_printDeeds_g7.2.2.2.1 hi ?_
  refine r_iload_n hE 2 dX13_printDeeds_g7.2.2.2.2.1 rfl rfl ?_
  refine r_iconst (v := (1 : Int32)) hE dX13_printDeeds_g7.2.2.2.2.2.1 (by decide) ?_
  refine r_iadd hE dX13_printDeeds_g7.2.2.2.2.2.2.1 ?_
  refine m_callVv hE hm [.int (1 : Int32), .int (m_two s9 v1.toNatClampNeg), .int (v2 + (1 : Int32))] [] mc_behind_ (km_behind_ hm.2.2.2.2.2.2.2.2 h) (by decide) rfl rfl (Nat.le_of_ble_eq_true rfl) dX13_printDeeds_g7.2.2.2.2.2.2.2.1 (fun s10 h => ?_)
  refine r_aload_n hE 0 dX13_printDeeds_g7.2.2.2.2.2.2.2.2.1 rfl rfl ?_
  refine r_bipush (v := (7 : Int32)) hE dX13_printDeeds_g7.2.2.2.2.2.2.2.2.2.1 (by decide) ?_
  refine r_iconst (v := (0 : Int32)) hE dX13_printDeeds_g7.2.2.2.2.2.2.2.2.2.2.1 (by decide) ?_
  refine r_iconst (v := (0 : Int32)) hE dX13_printDeeds_g7.2.2.2.2.2.2.2.2.2.2.2.1 (by decide) ?_
  refine m_callVv hE hm [.int (7 : Int32), .int (0 : Int32), .int (0 : Int32)] [] mc_behind_ (km_behind_ hm.2.2.2.2.2.2.2.2 h) (by decide) rfl rfl (Nat.le_of_ble_eq_true rfl) dX13_printDeeds_g7.2.2.2.2.2.2.2.2.2.2.2.2.1 (fun s11 h => ?_)
  refine r_goto hE 214 dX13_printDeeds_g7.2.2.2.2.2.2.2.2.2.2.2.2.2.1 (by decide) ?_
  refine r_pick [0, 1] rfl ?_
  exact km_printDeeds_214 hE hm hF _ _ h
def wm_printDeeds_145 (post : MS → Prop) (σ : MS) (v1 : Int32) (v2 : Int32) (t2 : Int32) : Prop := wm_word_wordList (fun (s12 : MS) => wm_put (fun (s13 : MS) => vp_in v1 600 ∧ ((((m_kind s13 v1.toNatClampNeg) = (2 : Int32)) → (wm_printDeeds_174 post s13 v1 v2)) ∧ ((¬ ((m_kind s13 v1.toNatClampNeg) = (2 : Int32))) → (vp_in v1 600 ∧ (((¬ ((m_kind s13 v1.toNatClampNeg) = (3 : Int32))) → (wm_behind_ (fun (s14 : MS) => wm_printDeeds_214 post s14 v1) s13 (8 : Int32) (0 : Int32) (0 : Int32))) ∧ (((m_kind s13 v1.toNatClampNeg) = (3 : Int32)) → (wm_printDeeds_174 post s13 v1 v2))))))) s12 (32 : Int32)) σ t2
set_option maxRecDepth 20000 in
theorem km_printDeeds_145 {E : gEnv} {l : Launch} {D : va_G} {cl : List vw_C} {G : gAd} {post : MS → Prop} (hE : gOK E cX13_printDeeds RX13 none 3) (hm : mOK E l D cl G (qV post) 3) (hF : gFin E) (σ : MS) (v1 : Int32) (v2 : Int32) (t2 : Int32) (h : wm_printDeeds_145 post σ v1 v2 t2) : GW E (mW G σ) 145 [(0, .ref (G.1 0)), (1, .int v1), (2, .int v2)] [.int t2, .ref (G.1 10), .ref (G.1 0)] := by
  unfold wm_printDeeds_145 at h
  have hN := hm.2.2.2.2.2.2.1
  refine m_callVv hE hm [.ref (G.1 10), .int t2] [] mc_word (km_word_wordList hm.2.2.2.2.2.2.2.2 h) (by decide) rfl rfl (Nat.le_of_ble_eq_true rfl) dX13_printDeeds_g5.2.2.2.2.2.2.2.2.2.1 (fun s12 h => ?_)
  refine r_aload_n hE 0 dX13_printDeeds_g5.2.2.2.2.2.2.2.2.2.2.1 rfl rfl ?_
  refine r_bipush (v := (32 : Int32)) hE dX13_printDeeds_g5.2.2.2.2.2.2.2.2.2.2.2.1 (by decide) ?_
  refine m_callVv hE hm [.int (32 : Int32)] [] mc_put (km_put hm.2.2.2.2.2.2.2.2 h) (by decide) rfl rfl (Nat.le_of_ble_eq_true rfl) dX13_printDeeds_g5.2.2.2.2.2.2.2.2.2.2.2.2.1 (fun s13 h => ?_)
  refine r_aload_n hE 0 dX13_printDeeds_g5.2.2.2.2.2.2.2.2.2.2.2.2.2.1 rfl rfl ?_
  refine mg_kind hE hm dX13_printDeeds_g5.2.2.2.2.2.2.2.2.2.2.2.2.2.2.1 ?_
  refine r_iload_n hE 1 dX13_printDeeds_g5.2.2.2.2.2.2.2.2.2.2.2.2.2.2.2 rfl rfl ?_
  obtain ⟨hi, h⟩ := h
  refine ml_kind hE hm dX13_printDeeds_g6.1 hi ?_
  refine r_iconst (v := (2 : Int32)) hE dX13_printDeeds_g6.2.1 (by decide) ?_
  refine r_icmp_eq hE 174 dX13_printDeeds_g6.2.2.1 (by decide) h (fun h => ?_) (fun h => ?_)
  · exact km_printDeeds_174 hE hm hF _ _ _ h
  · refine r_aload_n hE 0 dX13_printDeeds_g6.2.2.2.1 rfl rfl ?_
    refine mg_kind hE hm dX13_printDeeds_g6.2.2.2.2.1 ?_
    refine r_iload_n hE 1 dX13_printDeeds_g6.2.2.2.2.2.1 rfl rfl ?_
    obtain ⟨hi, h⟩ := h
    refine ml_kind hE hm dX13_printDeeds_g6.2.2.2.2.2.2.1 hi ?_
    refine r_iconst (v := (3 : Int32)) hE dX13_printDeeds_g6.2.2.2.2.2.2.2.1 (by decide) ?_
    refine r_icmp_ne hE 206 dX13_printDeeds_g6.2.2.2.2.2.2.2.2.1 (by decide) h (fun h => ?_) (fun h => ?_)
    · refine r_aload_n hE 0 dX13_printDeeds_g7.2.2.2.2.2.2.2.2.2.2.2.2.2.2.1 rfl rfl ?_
      refine r_bipush (v := (8 : Int32)) hE dX13_printDeeds_g7.2.2.2.2.2.2.2.2.2.2.2.2.2.2.2 (by decide) ?_
      refine r_iconst (v := (0 : Int32)) hE dX13_printDeeds_g8.1 (by decide) ?_
      refine r_iconst (v := (0 : Int32)) hE dX13_printDeeds_g8.2.1 (by decide) ?_
      refine m_callVv hE hm [.int (8 : Int32), .int (0 : Int32), .int (0 : Int32)] [] mc_behind_ (km_behind_ hm.2.2.2.2.2.2.2.2 h) (by decide) rfl rfl (Nat.le_of_ble_eq_true rfl) dX13_printDeeds_g8.2.2.1 (fun s14 h => ?_)
      refine r_pick [0, 1] rfl ?_
      exact km_printDeeds_214 hE hm hF _ _ h
    · exact km_printDeeds_174 hE hm hF _ _ _ h
def wm_printDeeds (post : MS → Prop) (σ : MS) (a1 : Int32) (a2 : Int32) : Prop := (((0 : Int32) ≤ a1) → (vp_in a1 600 ∧ (wm_behind_ (fun (s15 : MS) => wm_indent (fun (s16 : MS) => vp_in a1 600 ∧ ((((m_kind s16 a1.toNatClampNeg) = (0 : Int32)) → (wm_printDeeds_41 post s16 a1)) ∧ ((¬ ((m_kind s16 a1.toNatClampNeg) = (0 : Int32))) → (vp_in a1 600 ∧ (((¬ ((m_kind s16 a1.toNatClampNeg) = (1 : Int32))) → (vp_in a1 600 ∧ (((¬ ((m_kind s16 a1.toNatClampNeg) = (2 : Int32))) → (vp_in a1 600 ∧ (wm_printDeeds_145 post s16 a1 a2 (m_kind s16 a1.toNatClampNeg)))) ∧ (((m_kind s16 a1.toNatClampNeg) = (2 : Int32)) → (wm_printDeeds_145 post s16 a1 a2 (1 : Int32)))))) ∧ (((m_kind s16 a1.toNatClampNeg) = (1 : Int32)) → (wm_printDeeds_41 post s16 a1))))))) s15 a2) σ (1 : Int32) (m_sister σ a1.toNatClampNeg) a2))) ∧ ((¬ ((0 : Int32) ≤ a1)) → (post σ))
set_option maxRecDepth 20000 in
theorem km_printDeeds {l : Launch} {D : va_G} {cl : List vw_C} {G : gAd} {post : MS → Prop} (hcl : mC cl) {σ : MS} {a1 : Int32} {a2 : Int32} (h : wm_printDeeds post σ a1 a2) : mMet l D cl G yX13_printDeeds cX13_printDeeds 3 none 3 [.ref (G.1 0), .int a1, .int a2] σ (qV post) := by
  unfold wm_printDeeds at h
  refine m_enter hcl (by decide +kernel) rfl [(0, .ref (G.1 0)), (1, .int a1), (2, .int a2)] rfl (Nat.le_of_ble_eq_true rfl) ?_
  intro E hE hm hF
  have hN := hm.2.2.2.2.2.2.1
  refine r_iload_n hE 1 dX13_printDeeds_g0.1 rfl rfl ?_
  refine r_if_ge hE 5 dX13_printDeeds_g0.2.1 (by decide) h (fun h => ?_) (fun h => ?_)
  · refine r_aload_n hE 0 dX13_printDeeds_g0.2.2.2.1 rfl rfl ?_
    refine r_iconst (v := (1 : Int32)) hE dX13_printDeeds_g0.2.2.2.2.1 (by decide) ?_
    refine r_aload_n hE 0 dX13_printDeeds_g0.2.2.2.2.2.1 rfl rfl ?_
    refine mg_sister hE hm dX13_printDeeds_g0.2.2.2.2.2.2.1 ?_
    refine r_iload_n hE 1 dX13_printDeeds_g0.2.2.2.2.2.2.2.1 rfl rfl ?_
    obtain ⟨hi, h⟩ := h
    refine ml_sister hE hm dX13_printDeeds_g0.2.2.2.2.2.2.2.2.1 hi ?_
    refine r_iload_n hE 2 dX13_printDeeds_g0.2.2.2.2.2.2.2.2.2.1 rfl rfl ?_
    refine m_callVv hE hm [.int (1 : Int32), .int (m_sister σ a1.toNatClampNeg), .int a2] [] mc_behind_ (km_behind_ hm.2.2.2.2.2.2.2.2 h) (by decide) rfl rfl (Nat.le_of_ble_eq_true rfl) dX13_printDeeds_g0.2.2.2.2.2.2.2.2.2.2.1 (fun s15 h => ?_)
    refine r_aload_n hE 0 dX13_printDeeds_g0.2.2.2.2.2.2.2.2.2.2.2.1 rfl rfl ?_
    refine r_iload_n hE 2 dX13_printDeeds_g0.2.2.2.2.2.2.2.2.2.2.2.2.1 rfl rfl ?_
    refine m_callVv hE hm [.int a2] [] mc_indent (km_indent hm.2.2.2.2.2.2.2.2 h) (by decide) rfl rfl (Nat.le_of_ble_eq_true rfl) dX13_printDeeds_g0.2.2.2.2.2.2.2.2.2.2.2.2.2.1 (fun s16 h => ?_)
    refine r_aload_n hE 0 dX13_printDeeds_g0.2.2.2.2.2.2.2.2.2.2.2.2.2.2.1 rfl rfl ?_
    refine mg_kind hE hm dX13_printDeeds_g0.2.2.2.2.2.2.2.2.2.2.2.2.2.2.2 ?_
    refine r_iload_n hE 1 dX13_printDeeds_g1.1 rfl rfl ?_
    obtain ⟨hi, h⟩ := h
    refine ml_kind hE hm dX13_printDeeds_g1.2.1 hi ?_
    refine r_if_eq hE 41 dX13_printDeeds_g1.2.2.1 (by decide) h (fun h => ?_) (fun h => ?_)
    · refine r_pick [0, 1] rfl ?_
      exact km_printDeeds_41 hE hm hF _ _ h
    · refine r_aload_n hE 0 dX13_printDeeds_g1.2.2.2.1 rfl rfl ?_
      refine mg_kind hE hm dX13_printDeeds_g1.2.2.2.2.1 ?_
      refine r_iload_n hE 1 dX13_printDeeds_g1.2.2.2.2.2.1 rfl rfl ?_
      obtain ⟨hi, h⟩ := h
      refine ml_kind hE hm dX13_printDeeds_g1.2.2.2.2.2.2.1 hi ?_
      refine r_iconst (v := (1 : Int32)) hE dX13_printDeeds_g1.2.2.2.2.2.2.2.1 (by decide) ?_
      refine r_icmp_ne hE 120 dX13_printDeeds_g1.2.2.2.2.2.2.2.2.1 (by decide) h (fun h => ?_) (fun h => ?_)
      · refine r_aload_n hE 0 dX13_printDeeds_g4.2.2.2.2.2.2.2.2.2.2.1 rfl rfl ?_
        refine r_aload_n hE 0 dX13_printDeeds_g4.2.2.2.2.2.2.2.2.2.2.2.1 rfl rfl ?_
        refine mg_wordList hE hm dX13_printDeeds_g4.2.2.2.2.2.2.2.2.2.2.2.2.1 ?_
        refine r_aload_n hE 0 dX13_printDeeds_g4.2.2.2.2.2.2.2.2.2.2.2.2.2.1 rfl rfl ?_
        refine mg_kind hE hm dX13_printDeeds_g4.2.2.2.2.2.2.2.2.2.2.2.2.2.2.1 ?_
        refine r_iload_n hE 1 dX13_printDeeds_g4.2.2.2.2.2.2.2.2.2.2.2.2.2.2.2 rfl rfl ?_
        obtain ⟨hi, h⟩ := h
        refine ml_kind hE hm dX13_printDeeds_g5.1 hi ?_
        refine r_iconst (v := (2 : Int32)) hE dX13_printDeeds_g5.2.1 (by decide) ?_
        refine r_icmp_ne hE 139 dX13_printDeeds_g5.2.2.1 (by decide) h (fun h => ?_) (fun h => ?_)
        · refine r_aload_n hE 0 dX13_printDeeds_g5.2.2.2.2.2.1 rfl rfl ?_
          refine mg_kind hE hm dX13_printDeeds_g5.2.2.2.2.2.2.1 ?_
          refine r_iload_n hE 1 dX13_printDeeds_g5.2.2.2.2.2.2.2.1 rfl rfl ?_
          obtain ⟨hi, h⟩ := h
          refine ml_kind hE hm dX13_printDeeds_g5.2.2.2.2.2.2.2.2.1 hi ?_
          exact km_printDeeds_145 hE hm hF _ _ _ _ h
        · refine r_iconst (v := (1 : Int32)) hE dX13_printDeeds_g5.2.2.2.1 (by decide) ?_
          refine r_goto hE 145 dX13_printDeeds_g5.2.2.2.2.1 (by decide) ?_
          exact km_printDeeds_145 hE hm hF _ _ _ _ h
      · refine r_pick [0, 1] rfl ?_
        exact km_printDeeds_41 hE hm hF _ _ h
  · exact m_vret hE hm hF dX13_printDeeds_g0.2.2.1 h
/-! printBehind -/
def wm_printBehind_79 (post : MS → Prop) (σ : MS) : Prop := wm_put (fun (s1 : MS) => post s1) σ (10 : Int32)
set_option maxRecDepth 20000 in
theorem km_printBehind_79 {E : gEnv} {l : Launch} {D : va_G} {cl : List vw_C} {G : gAd} {post : MS → Prop} (hE : gOK E cX13_printBehind RX13 none 3) (hm : mOK E l D cl G (qV post) 3) (hF : gFin E) (σ : MS) (h : wm_printBehind_79 post σ) : GW E (mW G σ) 79 [(0, .ref (G.1 0))] [] := by
  unfold wm_printBehind_79 at h
  have hN := hm.2.2.2.2.2.2.1
  refine r_aload_n hE 0 dX13_printBehind_g3.1 rfl rfl ?_
  refine r_bipush (v := (10 : Int32)) hE dX13_printBehind_g3.2.1 (by decide) ?_
  refine m_callVv hE hm [.int (10 : Int32)] [] mc_put (km_put hm.2.2.2.2.2.2.2.2 h) (by decide) rfl rfl (Nat.le_of_ble_eq_true rfl) dX13_printBehind_g3.2.2.1 (fun s1 h => ?_)
  exact m_vret hE hm hF dX13_printBehind_g3.2.2.2 h
def wm_printBehind (post : MS → Prop) (σ : MS) (a1 : Int32) (a2 : Int32) : Prop := wm_indent (fun (s2 : MS) => wm_put (fun (s3 : MS) => vp_in a1 600 ∧ (((¬ ((m_kind s3 a1.toNatClampNeg) = (2 : Int32))) → (wm_printBehind_79 post s3)) ∧ (((m_kind s3 a1.toNatClampNeg) = (2 : Int32)) → (vp_in a1 600 ∧ (((¬ ((lg_cmp (m_value s3 a1.toNatClampNeg) (1 : Int64)) = (0 : Int32))) → (wm_printBehind_79 post s3)) ∧ (((lg_cmp (m_value s3 a1.toNatClampNeg) (1 : Int64)) = (0 : Int32)) → (wm_put (fun (s4 : MS) => wm_word_wordList (fun (s5 : MS) => wm_behind_ (fun (s6 : MS) => vp_in a1 600 ∧ (wm_behind_ (fun (s7 : MS) => wm_behind_ (fun (s8 : MS) => post s8) s7 (7 : Int32) (1 : Int32) (0 : Int32)) s6 (1 : Int32) (m_three s6 a1.toNatClampNeg) (a2 + (1 : Int32)))) s5 (3 : Int32) a1 a2) s4 (2 : Int32)) s3 (32 : Int32)))))))) s2 (125 : Int32)) σ a2
set_option maxRecDepth 20000 in
theorem km_printBehind {l : Launch} {D : va_G} {cl : List vw_C} {G : gAd} {post : MS → Prop} (hcl : mC cl) {σ : MS} {a1 : Int32} {a2 : Int32} (h : wm_printBehind post σ a1 a2) : mMet l D cl G yX13_printBehind cX13_printBehind 3 none 3 [.ref (G.1 0), .int a1, .int a2] σ (qV post) := by
  unfold wm_printBehind at h
  refine m_enter hcl (by decide +kernel) rfl [(0, .ref (G.1 0)), (1, .int a1), (2, .int a2)] rfl (Nat.le_of_ble_eq_true rfl) ?_
  intro E hE hm hF
  have hN := hm.2.2.2.2.2.2.1
  refine r_aload_n hE 0 dX13_printBehind_g0.1 rfl rfl ?_
  refine r_iload_n hE 2 dX13_printBehind_g0.2.1 rfl rfl ?_
  refine m_callVv hE hm [.int a2] [] mc_indent (km_indent hm.2.2.2.2.2.2.2.2 h) (by decide) rfl rfl (Nat.le_of_ble_eq_true rfl) dX13_printBehind_g0.2.2.1 (fun s2 h => ?_)
  refine r_aload_n hE 0 dX13_printBehind_g0.2.2.2.1 rfl rfl ?_
  refine r_bipush (v := (125 : Int32)) hE dX13_printBehind_g0.2.2.2.2.1 (by decide) ?_
  refine m_callVv hE hm [.int (125 : Int32)] [] mc_put (km_put hm.2.2.2.2.2.2.2.2 h) (by decide) rfl rfl (Nat.le_of_ble_eq_true rfl) dX13_printBehind_g0.2.2.2.2.2.1 (fun s3 h => ?_)
  refine r_aload_n hE 0 dX13_printBehind_g0.2.2.2.2.2.2.1 rfl rfl ?_
  refine mg_kind hE hm dX13_printBehind_g0.2.2.2.2.2.2.2.1 ?_
  refine r_iload_n hE 1 dX13_printBehind_g0.2.2.2.2.2.2.2.2.1 rfl rfl ?_
  obtain ⟨hi, h⟩ := h
  refine ml_kind hE hm dX13_printBehind_g0.2.2.2.2.2.2.2.2.2.1 hi ?_
  refine r_iconst (v := (2 : Int32)) hE dX13_printBehind_g0.2.2.2.2.2.2.2.2.2.2.1 (by decide) ?_
  refine r_icmp_ne hE 79 dX13_printBehind_g0.2.2.2.2.2.2.2.2.2.2.2.1 (by decide) h (fun h => ?_) (fun h => ?_)
  · refine r_pick [0] rfl ?_
    exact km_printBehind_79 hE hm hF _ h
  · refine r_aload_n hE 0 dX13_printBehind_g0.2.2.2.2.2.2.2.2.2.2.2.2.1 rfl rfl ?_
    refine mg_value hE hm dX13_printBehind_g0.2.2.2.2.2.2.2.2.2.2.2.2.2.1 ?_
    refine r_iload_n hE 1 dX13_printBehind_g0.2.2.2.2.2.2.2.2.2.2.2.2.2.2.1 rfl rfl ?_
    obtain ⟨hi, h⟩ := h
    refine ml_value hE hm dX13_printBehind_g0.2.2.2.2.2.2.2.2.2.2.2.2.2.2.2 hi ?_
    refine r_lconst (v := (1 : Int64)) hE dX13_printBehind_g1.1 (by decide) ?_
    refine r_lcmp hE dX13_printBehind_g1.2.1 ?_
    refine r_if_ne hE 79 dX13_printBehind_g1.2.2.1 (by decide) h (fun h => ?_) (fun h => ?_)
    · refine r_pick [0] rfl ?_
      exact km_printBehind_79 hE hm hF _ h
    · refine r_aload_n hE 0 dX13_printBehind_g1.2.2.2.1 rfl rfl ?_
      refine r_bipush (v := (32 : Int32)) hE dX13_printBehind_g1.2.2.2.2.1 (by decide) ?_
      refine m_callVv hE hm [.int (32 : Int32)] [] mc_put (km_put hm.2.2.2.2.2.2.2.2 h) (by decide) rfl rfl (Nat.le_of_ble_eq_true rfl) dX13_printBehind_g1.2.2.2.2.2.1 (fun s4 h => ?_)
      refine r_aload_n hE 0 dX13_printBehind_g1.2.2.2.2.2.2.1 rfl rfl ?_
      refine r_aload_n hE 0 dX13_printBehind_g1.2.2.2.2.2.2.2.1 rfl rfl ?_
      refine mg_wordList hE hm dX13_printBehind_g1.2.2.2.2.2.2.2.2.1 ?_
      refine r_iconst (v := (2 : Int32)) hE dX13_printBehind_g1.2.2.2.2.2.2.2.2.2.1 (by decide) ?_
      refine m_callVv hE hm [.ref (G.1 10), .int (2 : Int32)] [] mc_word (km_word_wordList hm.2.2.2.2.2.2.2.2 h) (by decide) rfl rfl (Nat.le_of_ble_eq_true rfl) dX13_printBehind_g1.2.2.2.2.2.2.2.2.2.2.1 (fun s5 h => ?_)
      refine r_aload_n hE 0 dX13_printBehind_g1.2.2.2.2.2.2.2.2.2.2.2.1 rfl rfl ?_
      refine r_iconst (v := (3 : Int32)) hE dX13_printBehind_g1.2.2.2.2.2.2.2.2.2.2.2.2.1 (by decide) ?_
      refine r_iload_n hE 1 dX13_printBehind_g1.2.2.2.2.2.2.2.2.2.2.2.2.2.1 rfl rfl ?_
      refine r_iload_n hE 2 dX13_printBehind_g1.2.2.2.2.2.2.2.2.2.2.2.2.2.2.1 rfl rfl ?_
      refine m_callVv hE hm [.int (3 : Int32), .int a1, .int a2] [] mc_behind_ (km_behind_ hm.2.2.2.2.2.2.2.2 h) (by decide) rfl rfl (Nat.le_of_ble_eq_true rfl) dX13_printBehind_g1.2.2.2.2.2.2.2.2.2.2.2.2.2.2.2 (fun s6 h => ?_)
      refine r_aload_n hE 0 dX13_printBehind_g2.1 rfl rfl ?_
      refine r_iconst (v := (1 : Int32)) hE dX13_printBehind_g2.2.1 (by decide) ?_
      refine r_aload_n hE 0 dX13_printBehind_g2.2.2.1 rfl rfl ?_
      refine mg_three hE hm dX13_printBehind_g2.2.2.2.1 ?_
      refine r_iload_n hE 1 dX13_printBehind_g2.2.2.2.2.1 rfl rfl ?_
      obtain ⟨hi, h⟩ := h
      refine ml_three hE hm dX13_printBehind_g2.2.2.2.2.2.1 hi ?_
      refine r_iload_n hE 2 dX13_printBehind_g2.2.2.2.2.2.2.1 rfl rfl ?_
      refine r_iconst (v := (1 : Int32)) hE dX13_printBehind_g2.2.2.2.2.2.2.2.1 (by decide) ?_
      refine r_iadd hE dX13_printBehind_g2.2.2.2.2.2.2.2.2.1 ?_
      refine m_callVv hE hm [.int (1 : Int32), .int (m_three s6 a1.toNatClampNeg), .int (a2 + (1 : Int32))] [] mc_behind_ (km_behind_ hm.2.2.2.2.2.2.2.2 h) (by decide) rfl rfl (Nat.le_of_ble_eq_true rfl) dX13_printBehind_g2.2.2.2.2.2.2.2.2.2.1 (fun s7 h => ?_)
      refine r_aload_n hE 0 dX13_printBehind_g2.2.2.2.2.2.2.2.2.2.2.1 rfl rfl ?_
      refine r_bipush (v := (7 : Int32)) hE dX13_printBehind_g2.2.2.2.2.2.2.2.2.2.2.2.1 (by decide) ?_
      refine r_iconst (v := (1 : Int32)) hE dX13_printBehind_g2.2.2.2.2.2.2.2.2.2.2.2.2.1 (by decide) ?_
      refine r_iconst (v := (0 : Int32)) hE dX13_printBehind_g2.2.2.2.2.2.2.2.2.2.2.2.2.2.1 (by decide) ?_
      refine m_callVv hE hm [.int (7 : Int32), .int (1 : Int32), .int (0 : Int32)] [] mc_behind_ (km_behind_ hm.2.2.2.2.2.2.2.2 h) (by decide) rfl rfl (Nat.le_of_ble_eq_true rfl) dX13_printBehind_g2.2.2.2.2.2.2.2.2.2.2.2.2.2.2.1 (fun s8 h => ?_)
      refine r_goto hE 85 dX13_printBehind_g2.2.2.2.2.2.2.2.2.2.2.2.2.2.2.2 (by decide) ?_
      exact m_vret hE hm hF dX13_printBehind_g3.2.2.2 h
/-! printAll -/
def wm_printAll_274 (post : MS → Prop) (lp17 : MS → Prop) (σ : MS) : Prop := lp17 σ
set_option maxRecDepth 20000 in
theorem km_printAll_274 {E : gEnv} {l : Launch} {D : va_G} {cl : List vw_C} {G : gAd} {post : MS → Prop} (hE : gOK E cX13_printAll RX13 none 5) (hm : mOK E l D cl G (qV post) 6) (hF : gFin E) {lp17 : MS → Prop} (hl17 : ∀ (σ : MS), lp17 σ → GW E (mW G σ) 17 [(0, .ref (G.1 0))] []) (σ : MS) (h : wm_printAll_274 post lp17 σ) : GW E (mW G σ) 274 [(0, .ref (G.1 0))] [] := by
  unfold wm_printAll_274 at h
  have hN := hm.2.2.2.2.2.2.1
  refine r_goto hE 17 dX13_printAll_g7.2.1 (by decide) ?_
  exact hl17 _ h
def wm_printAll_17 (post : MS → Prop) : Nat → MS → Prop
  | 0, _ => False
  | n + 1, σ => (((m_prints σ) ≤ (0 : Int32)) → (post σ)) ∧ ((¬ ((m_prints σ) ≤ (0 : Int32))) → (∀ s1 : MS, s1 = m_prints_s σ ((m_prints σ) - (1 : Int32)) → vp_in (m_prints s1) 3000 ∧ (∀ x2 : Int32, x2 = m_printOf s1 (m_prints s1).toNatClampNeg → vp_in (m_prints s1) 3000 ∧ (∀ x3 : Int32, x3 = m_printWith s1 (m_prints s1).toNatClampNeg → vp_in (m_prints s1) 3000 ∧ (((m_print s1 (m_prints s1).toNatClampNeg) = (0 : Int32) → (wm_printExp (fun (s4 : MS) => wm_printAll_274 post (fun (ys : MS) => wm_printAll_17 post n ys) s4) s1 x2 x3)) ∧ (¬ (m_print s1 (m_prints s1).toNatClampNeg) = (0 : Int32) → (((m_print s1 (m_prints s1).toNatClampNeg) = (1 : Int32) → (wm_printDeeds (fun (s5 : MS) => wm_printAll_274 post (fun (ys : MS) => wm_printAll_17 post n ys) s5) s1 x2 x3)) ∧ (¬ (m_print s1 (m_prints s1).toNatClampNeg) = (1 : Int32) → (((m_print s1 (m_prints s1).toNatClampNeg) = (2 : Int32) → (wm_printBehind (fun (s6 : MS) => wm_printAll_274 post (fun (ys : MS) => wm_printAll_17 post n ys) s6) s1 x2 x3)) ∧ (¬ (m_print s1 (m_prints s1).toNatClampNeg) = (2 : Int32) → (((m_print s1 (m_prints s1).toNatClampNeg) = (3 : Int32) → (wm_indent (fun (s7 : MS) => wm_put (fun (s8 : MS) => wm_put (fun (s9 : MS) => wm_printAll_274 post (fun (ys : MS) => wm_printAll_17 post n ys) s9) s8 (10 : Int32)) s7 (125 : Int32)) s1 x3)) ∧ (¬ (m_print s1 (m_prints s1).toNatClampNeg) = (3 : Int32) → (((m_print s1 (m_prints s1).toNatClampNeg) = (4 : Int32) → (wm_put (fun (s10 : MS) => wm_printAll_274 post (fun (ys : MS) => wm_printAll_17 post n ys) s10) s1 x2)) ∧ (¬ (m_print s1 (m_prints s1).toNatClampNeg) = (4 : Int32) → (((m_print s1 (m_prints s1).toNatClampNeg) = (5 : Int32) → (wm_put (fun (s11 : MS) => vp_in x2 600 ∧ (wm_put (fun (s12 : MS) => wm_put (fun (s13 : MS) => wm_printAll_274 post (fun (ys : MS) => wm_printAll_17 post n ys) s13) s12 (32 : Int32)) s11 (m_one s11 x2.toNatClampNeg))) s1 (32 : Int32))) ∧ (¬ (m_print s1 (m_prints s1).toNatClampNeg) = (5 : Int32) → (((m_print s1 (m_prints s1).toNatClampNeg) = (6 : Int32) → (wm_put (fun (s14 : MS) => wm_put (fun (s15 : MS) => wm_printAll_274 post (fun (ys : MS) => wm_printAll_17 post n ys) s15) s14 (32 : Int32)) s1 (44 : Int32))) ∧ (¬ (m_print s1 (m_prints s1).toNatClampNeg) = (6 : Int32) → (((m_print s1 (m_prints s1).toNatClampNeg) = (7 : Int32) → (wm_put (fun (s16 : MS) => wm_put (fun (s17 : MS) => wm_put (fun (s18 : MS) => wm_printAll_274 post (fun (ys : MS) => wm_printAll_17 post n ys) s18) s17 (10 : Int32)) s16 (123 : Int32)) s1 (32 : Int32))) ∧ (¬ (m_print s1 (m_prints s1).toNatClampNeg) = (7 : Int32) → (((m_print s1 (m_prints s1).toNatClampNeg) = (8 : Int32) → (wm_put (fun (s19 : MS) => wm_put (fun (s20 : MS) => wm_printAll_274 post (fun (ys : MS) => wm_printAll_17 post n ys) s20) s19 (10 : Int32)) s1 (59 : Int32))) ∧ (¬ (m_print s1 (m_prints s1).toNatClampNeg) = (8 : Int32) → (wm_put (fun (s21 : MS) => wm_put (fun (s22 : MS) => wm_put (fun (s23 : MS) => wm_printAll_274 post (fun (ys : MS) => wm_printAll_17 post n ys) s23) s22 (32 : Int32)) s21 (61 : Int32)) s1 (32 : Int32))))))))))))))))))))))))
set_option maxRecDepth 20000 in
theorem km_printAll_17 {E : gEnv} {l : Launch} {D : va_G} {cl : List vw_C} {G : gAd} {post : MS → Prop} (hE : gOK E cX13_printAll RX13 none 5) (hm : mOK E l D cl G (qV post) 6) (hF : gFin E) : ∀ (n : Nat) (σ : MS), wm_printAll_17 post n σ → GW E (mW G σ) 17 [(0, .ref (G.1 0))] [] := by
  intro n
  induction n with
  | zero => intro σ h; exact h.elim
  | succ n ih =>
    intro σ h
    rw [wm_printAll_17] at h
    have hN := hm.2.2.2.2.2.2.1
    refine r_aload_n hE 0 dX13_printAll_g0.2.2.2.2.2.2.2.2.2.2.2.1 rfl rfl ?_
    refine mg_prints hE hm dX13_printAll_g0.2.2.2.2.2.2.2.2.2.2.2.2.1 ?_
    refine r_if_le hE 277 dX13_printAll_g0.2.2.2.2.2.2.2.2.2.2.2.2.2.1 (by decide) h (fun h => ?_) (fun h => ?_)
    · exact m_vret hE hm hF dX13_printAll_g7.2.2 h
    · refine r_aload_n hE 0 dX13_printAll_g0.2.2.2.2.2.2.2.2.2.2.2.2.2.2.1 rfl rfl ?_
      refine r_dup hE dX13_printAll_g0.2.2.2.2.2.2.2.2.2.2.2.2.2.2.2 rfl ?_
      refine mg_prints hE hm dX13_printAll_g1.1 ?_
      refine r_iconst (v := (1 : Int32)) hE dX13_printAll_g1.2.1 (by decide) ?_
      refine r_isub hE dX13_printAll_g1.2.2.1 ?_
      refine mp_prints hE hm dX13_printAll_g1.2.2.2.1 h (fun s1 h => ?_)
      refine r_aload_n hE 0 dX13_printAll_g1.2.2.2.2.1 rfl rfl ?_
      refine mg_printOf hE hm dX13_printAll_g1.2.2.2.2.2.1 ?_
      refine r_aload_n hE 0 dX13_printAll_g1.2.2.2.2.2.2.1 rfl rfl ?_
      refine mg_prints hE hm dX13_printAll_g1.2.2.2.2.2.2.2.1 ?_
      obtain ⟨hi, h⟩ := h
      refine ml_printOf hE hm dX13_printAll_g1.2.2.2.2.2.2.2.2.1 hi ?_
      refine r_topi h (fun x2 ex2 h => ?_)
      refine r_istore hE [(4, .int x2), (0, .ref (G.1 0))] dX13_printAll_g1.2.2.2.2.2.2.2.2.2.1 hN (by decide) rfl ?_
      refine r_aload_n hE 1 dX13_printAll_g1.2.2.2.2.2.2.2.2.2.2.1 rfl rfl ?_
      refine mg_printWith hE hm dX13_printAll_g1.2.2.2.2.2.2.2.2.2.2.2.1 ?_
      refine r_aload_n hE 1 dX13_printAll_g1.2.2.2.2.2.2.2.2.2.2.2.2.1 rfl rfl ?_
      refine mg_prints hE hm dX13_printAll_g1.2.2.2.2.2.2.2.2.2.2.2.2.2.1 ?_
      obtain ⟨hi, h⟩ := h
      refine ml_printWith hE hm dX13_printAll_g1.2.2.2.2.2.2.2.2.2.2.2.2.2.2.1 hi ?_
      refine r_topi h (fun x3 ex3 h => ?_)
      refine r_istore hE [(5, .int x3), (4, .int x2), (0, .ref (G.1 0))] dX13_printAll_g1.2.2.2.2.2.2.2.2.2.2.2.2.2.2.2 hN (by decide) rfl ?_
      refine r_aload_n hE 2 dX13_printAll_g2.1 rfl rfl ?_
      refine mg_print hE hm dX13_printAll_g2.2.1 ?_
      refine r_aload_n hE 2 dX13_printAll_g2.2.2.1 rfl rfl ?_
      refine mg_prints hE hm dX13_printAll_g2.2.2.2.1 ?_
      obtain ⟨hi, h⟩ := h
      refine ml_print hE hm dX13_printAll_g2.2.2.2.2.1 hi ?_
      refine r_case (0 : Int32) h (fun q0 h => ?_) (fun q0 h => ?_)
      · refine r_tableAt (off := 51) hE (0 : Int32) 116 dX13_printAll_g2.2.2.2.2.2.1 q0 (by decide) (by decide) (by decide) (by decide) ?_
        refine r_aload_n hE 2 dX13_printAll_g2.2.2.2.2.2.2.1 rfl rfl ?_
        refine r_iload hE 1 dX13_printAll_g2.2.2.2.2.2.2.2.1 rfl ?_
        refine r_iload hE 0 dX13_printAll_g2.2.2.2.2.2.2.2.2.1 rfl ?_
        refine m_callVv hE hm [.int x2, .int x3] [] mc_printExp (km_printExp hm.2.2.2.2.2.2.2.2 h) (by decide) rfl rfl (Nat.le_of_ble_eq_true rfl) dX13_printAll_g2.2.2.2.2.2.2.2.2.2.1 (fun s4 h => ?_)
        refine r_goto hE 274 dX13_printAll_g2.2.2.2.2.2.2.2.2.2.2.1 (by decide) ?_
        refine r_pick [2] rfl ?_
        exact km_printAll_274 hE hm hF ih _ h
      · refine r_case (1 : Int32) h (fun q1 h => ?_) (fun q1 h => ?_)
        · refine r_tableAt (off := 62) hE (1 : Int32) 127 dX13_printAll_g2.2.2.2.2.2.1 q1 (by decide) (by decide) (by decide) (by decide) ?_
          refine r_aload_n hE 2 dX13_printAll_g2.2.2.2.2.2.2.2.2.2.2.2.1 rfl rfl ?_
          refine r_iload hE 1 dX13_printAll_g2.2.2.2.2.2.2.2.2.2.2.2.2.1 rfl ?_
          refine r_iload hE 0 dX13_printAll_g2.2.2.2.2.2.2.2.2.2.2.2.2.2.1 rfl ?_
          refine m_callVv hE hm [.int x2, .int x3] [] mc_printDeeds (km_printDeeds hm.2.2.2.2.2.2.2.2 h) (by decide) rfl rfl (Nat.le_of_ble_eq_true rfl) dX13_printAll_g2.2.2.2.2.2.2.2.2.2.2.2.2.2.2.1 (fun s5 h => ?_)
          refine r_goto hE 274 dX13_printAll_g2.2.2.2.2.2.2.2.2.2.2.2.2.2.2.2 (by decide) ?_
          refine r_pick [2] rfl ?_
          exact km_printAll_274 hE hm hF ih _ h
        · refine r_case (2 : Int32) h (fun q2 h => ?_) (fun q2 h => ?_)
          · refine r_tableAt (off := 73) hE (2 : Int32) 138 dX13_printAll_g2.2.2.2.2.2.1 q2 (by decide) (by decide) (by decide) (by decide) ?_
            refine r_aload_n hE 2 dX13_printAll_g3.1 rfl rfl ?_
            refine r_iload hE 1 dX13_printAll_g3.2.1 rfl ?_
            refine r_iload hE 0 dX13_printAll_g3.2.2.1 rfl ?_
            refine m_callVv hE hm [.int x2, .int x3] [] mc_printBehind (km_printBehind hm.2.2.2.2.2.2.2.2 h) (by decide) rfl rfl (Nat.le_of_ble_eq_true rfl) dX13_printAll_g3.2.2.2.1 (fun s6 h => ?_)
            refine r_goto hE 274 dX13_printAll_g3.2.2.2.2.1 (by decide) ?_
            refine r_pick [2] rfl ?_
            exact km_printAll_274 hE hm hF ih _ h
          · refine r_case (3 : Int32) h (fun q3 h => ?_) (fun q3 h => ?_)
            · refine r_tableAt (off := 84) hE (3 : Int32) 149 dX13_printAll_g2.2.2.2.2.2.1 q3 (by decide) (by decide) (by decide) (by decide) ?_
              refine r_aload_n hE 2 dX13_printAll_g3.2.2.2.2.2.1 rfl rfl ?_
              refine r_iload hE 0 dX13_printAll_g3.2.2.2.2.2.2.1 rfl ?_
              refine m_callVv hE hm [.int x3] [] mc_indent (km_indent hm.2.2.2.2.2.2.2.2 h) (by decide) rfl rfl (Nat.le_of_ble_eq_true rfl) dX13_printAll_g3.2.2.2.2.2.2.2.1 (fun s7 h => ?_)
              refine r_aload_n hE 2 dX13_printAll_g3.2.2.2.2.2.2.2.2.1 rfl rfl ?_
              refine r_bipush (v := (125 : Int32)) hE dX13_printAll_g3.2.2.2.2.2.2.2.2.2.1 (by decide) ?_
              refine m_callVv hE hm [.int (125 : Int32)] [] mc_put (km_put hm.2.2.2.2.2.2.2.2 h) (by decide) rfl rfl (Nat.le_of_ble_eq_true rfl) dX13_printAll_g3.2.2.2.2.2.2.2.2.2.2.1 (fun s8 h => ?_)
              refine r_aload_n hE 2 dX13_printAll_g3.2.2.2.2.2.2.2.2.2.2.2.1 rfl rfl ?_
              refine r_bipush (v := (10 : Int32)) hE dX13_printAll_g3.2.2.2.2.2.2.2.2.2.2.2.2.1 (by decide) ?_
              refine m_callVv hE hm [.int (10 : Int32)] [] mc_put (km_put hm.2.2.2.2.2.2.2.2 h) (by decide) rfl rfl (Nat.le_of_ble_eq_true rfl) dX13_printAll_g3.2.2.2.2.2.2.2.2.2.2.2.2.2.1 (fun s9 h => ?_)
              refine r_goto hE 274 dX13_printAll_g3.2.2.2.2.2.2.2.2.2.2.2.2.2.2.1 (by decide) ?_
              refine r_pick [2] rfl ?_
              exact km_printAll_274 hE hm hF ih _ h
            · refine r_case (4 : Int32) h (fun q4 h => ?_) (fun q4 h => ?_)
              · refine r_tableAt (off := 105) hE (4 : Int32) 170 dX13_printAll_g2.2.2.2.2.2.1 q4 (by decide) (by decide) (by decide) (by decide) ?_
                refine r_aload_n hE 2 dX13_printAll_g3.2.2.2.2.2.2.2.2.2.2.2.2.2.2.2 rfl rfl ?_
                refine r_iload hE 1 dX13_printAll_g4.1 rfl ?_
                refine m_callVv hE hm [.int x2] [] mc_put (km_put hm.2.2.2.2.2.2.2.2 h) (by decide) rfl rfl (Nat.le_of_ble_eq_true rfl) dX13_printAll_g4.2.1 (fun s10 h => ?_)
                refine r_goto hE 274 dX13_printAll_g4.2.2.1 (by decide) ?_
                refine r_pick [2] rfl ?_
                exact km_printAll_274 hE hm hF ih _ h
              · refine r_case (5 : Int32) h (fun q5 h => ?_) (fun q5 h => ?_)
                · refine r_tableAt (off := 114) hE (5 : Int32) 179 dX13_printAll_g2.2.2.2.2.2.1 q5 (by decide) (by decide) (by decide) (by decide) ?_
                  refine r_aload_n hE 2 dX13_printAll_g4.2.2.2.1 rfl rfl ?_
                  refine r_bipush (v := (32 : Int32)) hE dX13_printAll_g4.2.2.2.2.1 (by decide) ?_
                  refine m_callVv hE hm [.int (32 : Int32)] [] mc_put (km_put hm.2.2.2.2.2.2.2.2 h) (by decide) rfl rfl (Nat.le_of_ble_eq_true rfl) dX13_printAll_g4.2.2.2.2.2.1 (fun s11 h => ?_)
                  refine r_aload_n hE 2 dX13_printAll_g4.2.2.2.2.2.2.1 rfl rfl ?_
                  refine r_aload_n hE 2 dX13_printAll_g4.2.2.2.2.2.2.2.1 rfl rfl ?_
                  refine mg_one hE hm dX13_printAll_g4.2.2.2.2.2.2.2.2.1 ?_
                  refine r_iload hE 1 dX13_printAll_g4.2.2.2.2.2.2.2.2.2.1 rfl ?_
                  obtain ⟨hi, h⟩ := h
                  refine ml_one hE hm dX13_printAll_g4.2.2.2.2.2.2.2.2.2.2.1 hi ?_
                  refine m_callVv hE hm [.int (m_one s11 x2.toNatClampNeg)] [] mc_put (km_put hm.2.2.2.2.2.2.2.2 h) (by decide) rfl rfl (Nat.le_of_ble_eq_true rfl) dX13_printAll_g4.2.2.2.2.2.2.2.2.2.2.2.1 (fun s12 h => ?_)
                  refine r_aload_n hE 2 dX13_printAll_g4.2.2.2.2.2.2.2.2.2.2.2.2.1 rfl rfl ?_
                  refine r_bipush (v := (32 : Int32)) hE dX13_printAll_g4.2.2.2.2.2.2.2.2.2.2.2.2.2.1 (by decide) ?_
                  refine m_callVv hE hm [.int (32 : Int32)] [] mc_put (km_put hm.2.2.2.2.2.2.2.2 h) (by decide) rfl rfl (Nat.le_of_ble_eq_true rfl) dX13_printAll_g4.2.2.2.2.2.2.2.2.2.2.2.2.2.2.1 (fun s13 h => ?_)
                  refine r_goto hE 274 dX13_printAll_g4.2.2.2.2.2.2.2.2.2.2.2.2.2.2.2 (by decide) ?_
                  refine r_pick [2] rfl ?_
                  exact km_printAll_274 hE hm hF ih _ h
                · refine r_case (6 : Int32) h (fun q6 h => ?_) (fun q6 h => ?_)
                  · refine r_tableAt (off := 140) hE (6 : Int32) 205 dX13_printAll_g2.2.2.2.2.2.1 q6 (by decide) (by decide) (by decide) (by decide) ?_
                    refine r_aload_n hE 2 dX13_printAll_g5.1 rfl rfl ?_
                    refine r_bipush (v := (44 : Int32)) hE dX13_printAll_g5.2.1 (by decide) ?_
                    refine m_callVv hE hm [.int (44 : Int32)] [] mc_put (km_put hm.2.2.2.2.2.2.2.2 h) (by decide) rfl rfl (Nat.le_of_ble_eq_true rfl) dX13_printAll_g5.2.2.1 (fun s14 h => ?_)
                    refine r_aload_n hE 2 dX13_printAll_g5.2.2.2.1 rfl rfl ?_
                    refine r_bipush (v := (32 : Int32)) hE dX13_printAll_g5.2.2.2.2.1 (by decide) ?_
                    refine m_callVv hE hm [.int (32 : Int32)] [] mc_put (km_put hm.2.2.2.2.2.2.2.2 h) (by decide) rfl rfl (Nat.le_of_ble_eq_true rfl) dX13_printAll_g5.2.2.2.2.2.1 (fun s15 h => ?_)
                    refine r_goto hE 274 dX13_printAll_g5.2.2.2.2.2.2.1 (by decide) ?_
                    refine r_pick [2] rfl ?_
                    exact km_printAll_274 hE hm hF ih _ h
                  · refine r_case (7 : Int32) h (fun q7 h => ?_) (fun q7 h => ?_)
                    · refine r_tableAt (off := 155) hE (7 : Int32) 220 dX13_printAll_g2.2.2.2.2.2.1 q7 (by decide) (by decide) (by decide) (by decide) ?_
                      refine r_aload_n hE 2 dX13_printAll_g5.2.2.2.2.2.2.2.1 rfl rfl ?_
                      refine r_bipush (v := (32 : Int32)) hE dX13_printAll_g5.2.2.2.2.2.2.2.2.1 (by decide) ?_
                      refine m_callVv hE hm [.int (32 : Int32)] [] mc_put (km_put hm.2.2.2.2.2.2.2.2 h) (by decide) rfl rfl (Nat.le_of_ble_eq_true rfl) dX13_printAll_g5.2.2.2.2.2.2.2.2.2.1 (fun s16 h => ?_)
                      refine r_aload_n hE 2 dX13_printAll_g5.2.2.2.2.2.2.2.2.2.2.1 rfl rfl ?_
                      refine r_bipush (v := (123 : Int32)) hE dX13_printAll_g5.2.2.2.2.2.2.2.2.2.2.2.1 (by decide) ?_
                      refine m_callVv hE hm [.int (123 : Int32)] [] mc_put (km_put hm.2.2.2.2.2.2.2.2 h) (by decide) rfl rfl (Nat.le_of_ble_eq_true rfl) dX13_printAll_g5.2.2.2.2.2.2.2.2.2.2.2.2.1 (fun s17 h => ?_)
                      refine r_aload_n hE 2 dX13_printAll_g5.2.2.2.2.2.2.2.2.2.2.2.2.2.1 rfl rfl ?_
                      refine r_bipush (v := (10 : Int32)) hE dX13_printAll_g5.2.2.2.2.2.2.2.2.2.2.2.2.2.2.1 (by decide) ?_
                      refine m_callVv hE hm [.int (10 : Int32)] [] mc_put (km_put hm.2.2.2.2.2.2.2.2 h) (by decide) rfl rfl (Nat.le_of_ble_eq_true rfl) dX13_printAll_g5.2.2.2.2.2.2.2.2.2.2.2.2.2.2.2 (fun s18 h => ?_)
                      refine r_goto hE 274 dX13_printAll_g6.1 (by decide) ?_
                      refine r_pick [2] rfl ?_
                      exact km_printAll_274 hE hm hF ih _ h
                    · refine r_case (8 : Int32) h (fun q8 h => ?_) (fun q8 h => ?_)
                      · refine r_tableAt (off := 176) hE (8 : Int32) 241 dX13_printAll_g2.2.2.2.2.2.1 q8 (by decide) (by decide) (by decide) (by decide) ?_
                        refine r_aload_n hE 2 dX13_printAll_g6.2.1 rfl rfl ?_
                        refine r_bipush (v := (59 : Int32)) hE dX13_printAll_g6.2.2.1 (by decide) ?_
                        refine m_callVv hE hm [.int (59 : Int32)] [] mc_put (km_put hm.2.2.2.2.2.2.2.2 h) (by decide) rfl rfl (Nat.le_of_ble_eq_true rfl) dX13_printAll_g6.2.2.2.1 (fun s19 h => ?_)
                        refine r_aload_n hE 2 dX13_printAll_g6.2.2.2.2.1 rfl rfl ?_
                        refine r_bipush (v := (10 : Int32)) hE dX13_printAll_g6.2.2.2.2.2.1 (by decide) ?_
                        refine m_callVv hE hm [.int (10 : Int32)] [] mc_put (km_put hm.2.2.2.2.2.2.2.2 h) (by decide) rfl rfl (Nat.le_of_ble_eq_true rfl) dX13_printAll_g6.2.2.2.2.2.2.1 (fun s20 h => ?_)
                        refine r_goto hE 274 dX13_printAll_g6.2.2.2.2.2.2.2.1 (by decide) ?_
                        refine r_pick [2] rfl ?_
                        exact km_printAll_274 hE hm hF ih _ h
                      · have n0 := lv_neT q0 (show (0 : Int32).toInt = 0 by decide)
                        have n1 := lv_neT q1 (show (1 : Int32).toInt = 1 by decide)
                        have n2 := lv_neT q2 (show (2 : Int32).toInt = 2 by decide)
                        have n3 := lv_neT q3 (show (3 : Int32).toInt = 3 by decide)
                        have n4 := lv_neT q4 (show (4 : Int32).toInt = 4 by decide)
                        have n5 := lv_neT q5 (show (5 : Int32).toInt = 5 by decide)
                        have n6 := lv_neT q6 (show (6 : Int32).toInt = 6 by decide)
                        have n7 := lv_neT q7 (show (7 : Int32).toInt = 7 by decide)
                        have n8 := lv_neT q8 (show (8 : Int32).toInt = 8 by decide)
                        refine r_tableOut hE 256 dX13_printAll_g2.2.2.2.2.2.1 (by omega) (by decide) ?_
                        refine r_aload_n hE 2 dX13_printAll_g6.2.2.2.2.2.2.2.2.1 rfl rfl ?_
                        refine r_bipush (v := (32 : Int32)) hE dX13_printAll_g6.2.2.2.2.2.2.2.2.2.1 (by decide) ?_
                        refine m_callVv hE hm [.int (32 : Int32)] [] mc_put (km_put hm.2.2.2.2.2.2.2.2 h) (by decide) rfl rfl (Nat.le_of_ble_eq_true rfl) dX13_printAll_g6.2.2.2.2.2.2.2.2.2.2.1 (fun s21 h => ?_)
                        refine r_aload_n hE 2 dX13_printAll_g6.2.2.2.2.2.2.2.2.2.2.2.1 rfl rfl ?_
                        refine r_bipush (v := (61 : Int32)) hE dX13_printAll_g6.2.2.2.2.2.2.2.2.2.2.2.2.1 (by decide) ?_
                        refine m_callVv hE hm [.int (61 : Int32)] [] mc_put (km_put hm.2.2.2.2.2.2.2.2 h) (by decide) rfl rfl (Nat.le_of_ble_eq_true rfl) dX13_printAll_g6.2.2.2.2.2.2.2.2.2.2.2.2.2.1 (fun s22 h => ?_)
                        refine r_aload_n hE 2 dX13_printAll_g6.2.2.2.2.2.2.2.2.2.2.2.2.2.2.1 rfl rfl ?_
                        refine r_bipush (v := (32 : Int32)) hE dX13_printAll_g6.2.2.2.2.2.2.2.2.2.2.2.2.2.2.2 (by decide) ?_
                        refine m_callVv hE hm [.int (32 : Int32)] [] mc_put (km_put hm.2.2.2.2.2.2.2.2 h) (by decide) rfl rfl (Nat.le_of_ble_eq_true rfl) dX13_printAll_g7.1 (fun s23 h => ?_)
                        refine r_pick [2] rfl ?_
                        exact km_printAll_274 hE hm hF ih _ h
def wm_printAll (post : MS → Prop) (σ : MS) (a1 : Int32) (a2 : Int32) (a3 : Int32) : Prop := ∀ s24 : MS, s24 = m_printScope_s σ a2 → ∀ s25 : MS, s25 = m_prints_s s24 (0 : Int32) → wm_behind_ (fun (s26 : MS) => ∃ k : Nat, wm_printAll_17 post k s26) s25 (1 : Int32) a1 a3
set_option maxRecDepth 20000 in
theorem km_printAll {l : Launch} {D : va_G} {cl : List vw_C} {G : gAd} {post : MS → Prop} (hcl : mC cl) {σ : MS} {a1 : Int32} {a2 : Int32} {a3 : Int32} (h : wm_printAll post σ a1 a2 a3) : mMet l D cl G yX13_printAll cX13_printAll 6 none 5 [.ref (G.1 0), .int a1, .int a2, .int a3] σ (qV post) := by
  unfold wm_printAll at h
  refine m_enter hcl (by decide +kernel) rfl [(0, .ref (G.1 0)), (1, .int a1), (2, .int a2), (3, .int a3)] rfl (Nat.le_of_ble_eq_true rfl) ?_
  intro E hE hm hF
  have hN := hm.2.2.2.2.2.2.1
  refine r_aload_n hE 0 dX13_printAll_g0.1 rfl rfl ?_
  refine r_iload_n hE 2 dX13_printAll_g0.2.1 rfl rfl ?_
  refine mp_printScope hE hm dX13_printAll_g0.2.2.1 h (fun s24 h => ?_)
  refine r_aload_n hE 0 dX13_printAll_g0.2.2.2.1 rfl rfl ?_
  refine r_iconst (v := (0 : Int32)) hE dX13_printAll_g0.2.2.2.2.1 (by decide) ?_
  refine mp_prints hE hm dX13_printAll_g0.2.2.2.2.2.1 h (fun s25 h => ?_)
  refine r_aload_n hE 0 dX13_printAll_g0.2.2.2.2.2.2.1 rfl rfl ?_
  refine r_iconst (v := (1 : Int32)) hE dX13_printAll_g0.2.2.2.2.2.2.2.1 (by decide) ?_
  refine r_iload_n hE 1 dX13_printAll_g0.2.2.2.2.2.2.2.2.1 rfl rfl ?_
  refine r_iload_n hE 3 dX13_printAll_g0.2.2.2.2.2.2.2.2.2.1 rfl rfl ?_
  refine m_callVv hE hm [.int (1 : Int32), .int a1, .int a3] [] mc_behind_ (km_behind_ hm.2.2.2.2.2.2.2.2 h) (by decide) rfl rfl (Nat.le_of_ble_eq_true rfl) dX13_printAll_g0.2.2.2.2.2.2.2.2.2.2.1 (fun s26 h => ?_)
  refine r_pick [0] rfl ?_
  obtain ⟨k, h⟩ := h
  exact km_printAll_17 hE hm hF k _ h
/-! print -/
def wm_print_84 (post : MS → Int32 → Prop) (lp22 : MS → Int32 → Prop) (lp58 : MS → Int32 → Int32 → Prop) (σ : MS) (v1 : Int32) (v2 : Int32) : Prop := wm_printName (fun (s1 : MS) => ∀ x2 : Int32, x2 = v2 + (1 : Int32) → lp58 s1 v1 x2) σ v1 v2
set_option maxRecDepth 20000 in
theorem km_print_84 {E : gEnv} {l : Launch} {D : va_G} {cl : List vw_C} {G : gAd} {post : MS → Int32 → Prop} (hE : gOK E cX13_print RX13 (some .int) 6) (hm : mOK E l D cl G (qI post) 3) (hF : gFin E) {lp22 : MS → Int32 → Prop} {lp58 : MS → Int32 → Int32 → Prop} (hl22 : ∀ (σ : MS) (v1 : Int32), lp22 σ v1 → GW E (mW G σ) 22 [(0, .ref (G.1 0)), (1, .int v1)] []) (hl58 : ∀ (σ : MS) (v1 : Int32) (v2 : Int32), lp58 σ v1 v2 → GW E (mW G σ) 58 [(0, .ref (G.1 0)), (1, .int v1), (2, .int v2)] []) (σ : MS) (v1 : Int32) (v2 : Int32) (h : wm_print_84 post lp22 lp58 σ v1 v2) : GW E (mW G σ) 84 [(0, .ref (G.1 0)), (1, .int v1), (2, .int v2)] [] := by
  unfold wm_print_84 at h
  have hN := hm.2.2.2.2.2.2.1
  refine r_aload_n hE 0 dX13_print_g2.2.2.2.2.2.2.2.2.2.2.2.2.2.2.2 rfl rfl ?_
  refine r_iload_n hE 1 dX13_print_g3.1 rfl rfl ?_
  refine r_iload_n hE 2 dX13_print_g3.2.1 rfl rfl ?_
  refine m_callVv hE hm [.int v1, .int v2] [] mc_printName (km_printName hm.2.2.2.2.2.2.2.2 h) (by decide) rfl rfl (Nat.le_of_ble_eq_true rfl) dX13_print_g3.2.2.1 (fun s1 h => ?_)
  obtain ⟨x2, ex2⟩ : ∃ z : Int32, z = v2 + (1 : Int32) := ⟨_, rfl⟩
  have h := h x2 ex2
  refine r_iinc (v := x2) hE [(2, .int x2), (0, .ref (G.1 0)), (1, .int v1)] 2 dX13_print_g3.2.2.2.1 rfl (by rw [ex2]; rfl) hN (by decide) rfl ?_
  refine r_goto hE 58 dX13_print_g3.2.2.2.2.1 (by decide) ?_
  refine r_pick [1, 2, 0] rfl ?_
  exact hl58 _ _ _ h
def wm_print_58 (post : MS → Int32 → Prop) (lp22 : MS → Int32 → Prop) : Nat → MS → Int32 → Int32 → Prop
  | 0, _, _, _ => False
  | n + 1, σ, v1, v2 => vp_in v1 26 ∧ ((((m_paramMany σ v1.toNatClampNeg) ≤ v2) → (wm_put (fun (s3 : MS) => wm_put (fun (s4 : MS) => wm_put (fun (s5 : MS) => wm_put (fun (s6 : MS) => vp_in v1 26 ∧ (wm_printAll (fun (s7 : MS) => wm_put (fun (s8 : MS) => wm_put (fun (s9 : MS) => ∀ x10 : Int32, x10 = v1 + (1 : Int32) → lp22 s9 x10) s8 (10 : Int32)) s7 (125 : Int32)) s6 (m_bodyOf s6 v1.toNatClampNeg) v1 (1 : Int32))) s5 (10 : Int32)) s4 (123 : Int32)) s3 (32 : Int32)) σ (41 : Int32))) ∧ ((¬ ((m_paramMany σ v1.toNatClampNeg) ≤ v2)) → (((v2 ≤ (0 : Int32)) → (wm_print_84 post lp22 (fun (ys : MS) (y0 : Int32) (y1 : Int32) => wm_print_58 post lp22 n ys y0 y1) σ v1 v2)) ∧ ((¬ (v2 ≤ (0 : Int32))) → (wm_put (fun (s11 : MS) => wm_put (fun (s12 : MS) => wm_print_84 post lp22 (fun (ys : MS) (y0 : Int32) (y1 : Int32) => wm_print_58 post lp22 n ys y0 y1) s12 v1 v2) s11 (32 : Int32)) σ (44 : Int32))))))
set_option maxRecDepth 20000 in
theorem km_print_58 {E : gEnv} {l : Launch} {D : va_G} {cl : List vw_C} {G : gAd} {post : MS → Int32 → Prop} (hE : gOK E cX13_print RX13 (some .int) 6) (hm : mOK E l D cl G (qI post) 3) (hF : gFin E) {lp22 : MS → Int32 → Prop} (hl22 : ∀ (σ : MS) (v1 : Int32), lp22 σ v1 → GW E (mW G σ) 22 [(0, .ref (G.1 0)), (1, .int v1)] []) : ∀ (n : Nat) (σ : MS) (v1 : Int32) (v2 : Int32), wm_print_58 post lp22 n σ v1 v2 → GW E (mW G σ) 58 [(0, .ref (G.1 0)), (1, .int v1), (2, .int v2)] [] := by
  intro n
  induction n with
  | zero => intro σ v1 v2 h; exact h.elim
  | succ n ih =>
    intro σ v1 v2 h
    rw [wm_print_58] at h
    have hN := hm.2.2.2.2.2.2.1
    refine r_iload_n hE 2 dX13_print_g2.2.1 rfl rfl ?_
    refine r_aload_n hE 0 dX13_print_g2.2.2.1 rfl rfl ?_
    refine mg_paramMany hE hm dX13_print_g2.2.2.2.1 ?_
    refine r_iload_n hE 1 dX13_print_g2.2.2.2.2.1 rfl rfl ?_
    obtain ⟨hi, h⟩ := h
    refine ml_paramMany hE hm dX13_print_g2.2.2.2.2.2.1 hi ?_
    refine r_icmp_ge hE 96 dX13_print_g2.2.2.2.2.2.2.1 (by decide) h (fun h => ?_) (fun h => ?_)
    · refine r_aload_n hE 0 dX13_print_g3.2.2.2.2.2.1 rfl rfl ?_
      refine r_bipush (v := (41 : Int32)) hE dX13_print_g3.2.2.2.2.2.2.1 (by decide) ?_
      refine m_callVv hE hm [.int (41 : Int32)] [] mc_put (km_put hm.2.2.2.2.2.2.2.2 h) (by decide) rfl rfl (Nat.le_of_ble_eq_true rfl) dX13_print_g3.2.2.2.2.2.2.2.1 (fun s3 h => ?_)
      refine r_aload_n hE 0 dX13_print_g3.2.2.2.2.2.2.2.2.1 rfl rfl ?_
      refine r_bipush (v := (32 : Int32)) hE dX13_print_g3.2.2.2.2.2.2.2.2.2.1 (by decide) ?_
      refine m_callVv hE hm [.int (32 : Int32)] [] mc_put (km_put hm.2.2.2.2.2.2.2.2 h) (by decide) rfl rfl (Nat.le_of_ble_eq_true rfl) dX13_print_g3.2.2.2.2.2.2.2.2.2.2.1 (fun s4 h => ?_)
      refine r_aload_n hE 0 dX13_print_g3.2.2.2.2.2.2.2.2.2.2.2.1 rfl rfl ?_
      refine r_bipush (v := (123 : Int32)) hE dX13_print_g3.2.2.2.2.2.2.2.2.2.2.2.2.1 (by decide) ?_
      refine m_callVv hE hm [.int (123 : Int32)] [] mc_put (km_put hm.2.2.2.2.2.2.2.2 h) (by decide) rfl rfl (Nat.le_of_ble_eq_true rfl) dX13_print_g3.2.2.2.2.2.2.2.2.2.2.2.2.2.1 (fun s5 h => ?_)
      refine r_aload_n hE 0 dX13_print_g3.2.2.2.2.2.2.2.2.2.2.2.2.2.2.1 rfl rfl ?_
      refine r_bipush (v := (10 : Int32)) hE dX13_print_g3.2.2.2.2.2.2.2.2.2.2.2.2.2.2.2 (by decide) ?_
      refine m_callVv hE hm [.int (10 : Int32)] [] mc_put (km_put hm.2.2.2.2.2.2.2.2 h) (by decide) rfl rfl (Nat.le_of_ble_eq_true rfl) dX13_print_g4.1 (fun s6 h => ?_)
      refine r_aload_n hE 0 dX13_print_g4.2.1 rfl rfl ?_
      refine r_aload_n hE 0 dX13_print_g4.2.2.1 rfl rfl ?_
      refine mg_bodyOf hE hm dX13_print_g4.2.2.2.1 ?_
      refine r_iload_n hE 1 dX13_print_g4.2.2.2.2.1 rfl rfl ?_
      obtain ⟨hi, h⟩ := h
      refine ml_bodyOf hE hm dX13_print_g4.2.2.2.2.2.1 hi ?_
      refine r_iload_n hE 1 dX13_print_g4.2.2.2.2.2.2.1 rfl rfl ?_
      refine r_iconst (v := (1 : Int32)) hE dX13_print_g4.2.2.2.2.2.2.2.1 (by decide) ?_
      refine m_callVv hE hm [.int (m_bodyOf s6 v1.toNatClampNeg), .int v1, .int (1 : Int32)] [] mc_printAll (km_printAll hm.2.2.2.2.2.2.2.2 h) (by decide) rfl rfl (Nat.le_of_ble_eq_true rfl) dX13_print_g4.2.2.2.2.2.2.2.2.1 (fun s7 h => ?_)
      refine r_aload_n hE 0 dX13_print_g4.2.2.2.2.2.2.2.2.2.1 rfl rfl ?_
      refine r_bipush (v := (125 : Int32)) hE dX13_print_g4.2.2.2.2.2.2.2.2.2.2.1 (by decide) ?_
      refine m_callVv hE hm [.int (125 : Int32)] [] mc_put (km_put hm.2.2.2.2.2.2.2.2 h) (by decide) rfl rfl (Nat.le_of_ble_eq_true rfl) dX13_print_g4.2.2.2.2.2.2.2.2.2.2.2.1 (fun s8 h => ?_)
      refine r_aload_n hE 0 dX13_print_g4.2.2.2.2.2.2.2.2.2.2.2.2.1 rfl rfl ?_
      refine r_bipush (v := (10 : Int32)) hE dX13_print_g4.2.2.2.2.2.2.2.2.2.2.2.2.2.1 (by decide) ?_
      refine m_callVv hE hm [.int (10 : Int32)] [] mc_put (km_put hm.2.2.2.2.2.2.2.2 h) (by decide) rfl rfl (Nat.le_of_ble_eq_true rfl) dX13_print_g4.2.2.2.2.2.2.2.2.2.2.2.2.2.2.1 (fun s9 h => ?_)
      obtain ⟨x10, ex10⟩ : ∃ z : Int32, z = v1 + (1 : Int32) := ⟨_, rfl⟩
      have h := h x10 ex10
      refine r_iinc (v := x10) hE [(1, .int x10), (0, .ref (G.1 0)), (2, .int v2)] 1 dX13_print_g4.2.2.2.2.2.2.2.2.2.2.2.2.2.2.2 rfl (by rw [ex10]; rfl) hN (by decide) rfl ?_
      refine r_goto hE 22 dX13_print_g5.1 (by decide) ?_
      refine r_pick [1, 0] rfl ?_
      exact hl22 _ _ h
    · refine r_iload_n hE 2 dX13_print_g2.2.2.2.2.2.2.2.1 rfl rfl ?_
      refine r_if_le hE 84 dX13_print_g2.2.2.2.2.2.2.2.2.1 (by decide) h (fun h => ?_) (fun h => ?_)
      · exact km_print_84 hE hm hF hl22 ih _ _ _ h
      · refine r_aload_n hE 0 dX13_print_g2.2.2.2.2.2.2.2.2.2.1 rfl rfl ?_
        refine r_bipush (v := (44 : Int32)) hE dX13_print_g2.2.2.2.2.2.2.2.2.2.2.1 (by decide) ?_
        refine m_callVv hE hm [.int (44 : Int32)] [] mc_put (km_put hm.2.2.2.2.2.2.2.2 h) (by decide) rfl rfl (Nat.le_of_ble_eq_true rfl) dX13_print_g2.2.2.2.2.2.2.2.2.2.2.2.1 (fun s11 h => ?_)
        refine r_aload_n hE 0 dX13_print_g2.2.2.2.2.2.2.2.2.2.2.2.2.1 rfl rfl ?_
        refine r_bipush (v := (32 : Int32)) hE dX13_print_g2.2.2.2.2.2.2.2.2.2.2.2.2.2.1 (by decide) ?_
        refine m_callVv hE hm [.int (32 : Int32)] [] mc_put (km_put hm.2.2.2.2.2.2.2.2 h) (by decide) rfl rfl (Nat.le_of_ble_eq_true rfl) dX13_print_g2.2.2.2.2.2.2.2.2.2.2.2.2.2.2.1 (fun s12 h => ?_)
        exact km_print_84 hE hm hF hl22 ih _ _ _ h
def wm_print_22 (post : MS → Int32 → Prop) : Nat → MS → Int32 → Prop
  | 0, _, _ => False
  | n + 1, σ, v1 => (((m_macros σ) ≤ v1) → (wm_printAll (fun (s13 : MS) => post s13 (m_outMany s13)) σ (m_firstDeed σ) (12 : Int32) (0 : Int32))) ∧ ((¬ ((m_macros σ) ≤ v1)) → (wm_word_wordList (fun (s14 : MS) => wm_put (fun (s15 : MS) => wm_printMacro (fun (s16 : MS) => wm_put (fun (s17 : MS) => ∃ k : Nat, wm_print_58 post (fun (ys : MS) (y0 : Int32) => wm_print_22 post n ys y0) k s17 v1 (0 : Int32)) s16 (40 : Int32)) s15 v1) s14 (32 : Int32)) σ (0 : Int32)))
set_option maxRecDepth 20000 in
theorem km_print_22 {E : gEnv} {l : Launch} {D : va_G} {cl : List vw_C} {G : gAd} {post : MS → Int32 → Prop} (hE : gOK E cX13_print RX13 (some .int) 6) (hm : mOK E l D cl G (qI post) 3) (hF : gFin E) : ∀ (n : Nat) (σ : MS) (v1 : Int32), wm_print_22 post n σ v1 → GW E (mW G σ) 22 [(0, .ref (G.1 0)), (1, .int v1)] [] := by
  intro n
  induction n with
  | zero => intro σ v1 h; exact h.elim
  | succ n ih =>
    intro σ v1 h
    rw [wm_print_22] at h
    have hN := hm.2.2.2.2.2.2.1
    refine r_iload_n hE 1 dX13_print_g0.2.2.2.2.2.2.2.2.2.2.2.2.2.1 rfl rfl ?_
    refine r_aload_n hE 0 dX13_print_g0.2.2.2.2.2.2.2.2.2.2.2.2.2.2.1 rfl rfl ?_
    refine mg_macros hE hm dX13_print_g0.2.2.2.2.2.2.2.2.2.2.2.2.2.2.2 ?_
    refine r_icmp_ge hE 150 dX13_print_g1.1 (by decide) h (fun h => ?_) (fun h => ?_)
    · refine r_aload_n hE 0 dX13_print_g5.2.1 rfl rfl ?_
      refine r_aload_n hE 0 dX13_print_g5.2.2.1 rfl rfl ?_
      refine mg_firstDeed hE hm dX13_print_g5.2.2.2.1 ?_
      refine r_bipush (v := (12 : Int32)) hE dX13_print_g5.2.2.2.2.1 (by decide) ?_
      refine r_iconst (v := (0 : Int32)) hE dX13_print_g5.2.2.2.2.2.1 (by decide) ?_
      refine m_callVv hE hm [.int (m_firstDeed σ), .int (12 : Int32), .int (0 : Int32)] [] mc_printAll (km_printAll hm.2.2.2.2.2.2.2.2 h) (by decide) rfl rfl (Nat.le_of_ble_eq_true rfl) dX13_print_g5.2.2.2.2.2.2.1 (fun s13 h => ?_)
      refine r_aload_n hE 0 dX13_print_g5.2.2.2.2.2.2.2.1 rfl rfl ?_
      refine mg_outMany hE hm dX13_print_g5.2.2.2.2.2.2.2.2.1 ?_
      exact m_iret hE hm hF dX13_print_g5.2.2.2.2.2.2.2.2.2 h
    · refine r_aload_n hE 0 dX13_print_g1.2.1 rfl rfl ?_
      refine r_aload_n hE 0 dX13_print_g1.2.2.1 rfl rfl ?_
      refine mg_wordList hE hm dX13_print_g1.2.2.2.1 ?_
      refine r_iconst (v := (0 : Int32)) hE dX13_print_g1.2.2.2.2.1 (by decide) ?_
      refine m_callVv hE hm [.ref (G.1 10), .int (0 : Int32)] [] mc_word (km_word_wordList hm.2.2.2.2.2.2.2.2 h) (by decide) rfl rfl (Nat.le_of_ble_eq_true rfl) dX13_print_g1.2.2.2.2.2.1 (fun s14 h => ?_)
      refine r_aload_n hE 0 dX13_print_g1.2.2.2.2.2.2.1 rfl rfl ?_
      refine r_bipush (v := (32 : Int32)) hE dX13_print_g1.2.2.2.2.2.2.2.1 (by decide) ?_
      refine m_callVv hE hm [.int (32 : Int32)] [] mc_put (km_put hm.2.2.2.2.2.2.2.2 h) (by decide) rfl rfl (Nat.le_of_ble_eq_true rfl) dX13_print_g1.2.2.2.2.2.2.2.2.1 (fun s15 h => ?_)
      refine r_aload_n hE 0 dX13_print_g1.2.2.2.2.2.2.2.2.2.1 rfl rfl ?_
      refine r_iload_n hE 1 dX13_print_g1.2.2.2.2.2.2.2.2.2.2.1 rfl rfl ?_
      refine m_callVv hE hm [.int v1] [] mc_printMacro (km_printMacro hm.2.2.2.2.2.2.2.2 h) (by decide) rfl rfl (Nat.le_of_ble_eq_true rfl) dX13_print_g1.2.2.2.2.2.2.2.2.2.2.2.1 (fun s16 h => ?_)
      refine r_aload_n hE 0 dX13_print_g1.2.2.2.2.2.2.2.2.2.2.2.2.1 rfl rfl ?_
      refine r_bipush (v := (40 : Int32)) hE dX13_print_g1.2.2.2.2.2.2.2.2.2.2.2.2.2.1 (by decide) ?_
      refine m_callVv hE hm [.int (40 : Int32)] [] mc_put (km_put hm.2.2.2.2.2.2.2.2 h) (by decide) rfl rfl (Nat.le_of_ble_eq_true rfl) dX13_print_g1.2.2.2.2.2.2.2.2.2.2.2.2.2.2.1 (fun s17 h => ?_)
      refine r_iconst (v := (0 : Int32)) hE dX13_print_g1.2.2.2.2.2.2.2.2.2.2.2.2.2.2.2 (by decide) ?_
      refine r_istore_n hE [(2, .int (0 : Int32)), (0, .ref (G.1 0)), (1, .int v1)] dX13_print_g2.1 rfl hN (by decide) rfl ?_
      refine r_pick [1, 2, 0] rfl ?_
      obtain ⟨k, h⟩ := h
      exact km_print_58 hE hm hF ih k _ _ _ h
def wm_print (post : MS → Int32 → Prop) (σ : MS) : Prop := ∀ s18 : MS, s18 = m_code_s σ (0 : Int32) → ((¬ ((m_hasFigure s18) = (0 : Int32))) → (∀ s19 : MS, s19 = m_outMany_s s18 (0 : Int32) → ∃ k : Nat, wm_print_22 post k s19 (0 : Int32))) ∧ (((m_hasFigure s18) = (0 : Int32)) → (post s18 (-2000000003 : Int32)))
set_option maxRecDepth 20000 in
theorem km_print {l : Launch} {D : va_G} {cl : List vw_C} {G : gAd} {post : MS → Int32 → Prop} (hcl : mC cl) {σ : MS} (h : wm_print post σ) : mMet l D cl G yX13_print cX13_print 3 (some .int) 6 [.ref (G.1 0)] σ (qI post) := by
  unfold wm_print at h
  refine m_enter hcl (by decide +kernel) rfl [(0, .ref (G.1 0))] rfl (Nat.le_of_ble_eq_true rfl) ?_
  intro E hE hm hF
  have hN := hm.2.2.2.2.2.2.1
  refine r_aload_n hE 0 dX13_print_g0.1 rfl rfl ?_
  refine r_iconst (v := (0 : Int32)) hE dX13_print_g0.2.1 (by decide) ?_
  refine mp_code hE hm dX13_print_g0.2.2.1 h (fun s18 h => ?_)
  refine r_aload_n hE 0 dX13_print_g0.2.2.2.1 rfl rfl ?_
  refine mg_hasFigure hE hm dX13_print_g0.2.2.2.2.1 ?_
  refine r_if_ne hE 15 dX13_print_g0.2.2.2.2.2.1 (by decide) h (fun h => ?_) (fun h => ?_)
  · refine r_aload_n hE 0 dX13_print_g0.2.2.2.2.2.2.2.2.1 rfl rfl ?_
    refine r_iconst (v := (0 : Int32)) hE dX13_print_g0.2.2.2.2.2.2.2.2.2.1 (by decide) ?_
    refine mp_outMany hE hm dX13_print_g0.2.2.2.2.2.2.2.2.2.2.1 h (fun s19 h => ?_)
    refine r_iconst (v := (0 : Int32)) hE dX13_print_g0.2.2.2.2.2.2.2.2.2.2.2.1 (by decide) ?_
    refine r_istore_n hE [(1, .int (0 : Int32)), (0, .ref (G.1 0))] dX13_print_g0.2.2.2.2.2.2.2.2.2.2.2.2.1 rfl hN (by decide) rfl ?_
    refine r_pick [1, 0] rfl ?_
    obtain ⟨k, h⟩ := h
    exact km_print_22 hE hm hF k _ _ h
  · refine r_ldc (v := (-2000000003 : Int32)) hE dX13_print_g0.2.2.2.2.2.2.1 (gTb_9 (List.mem_of_getElem? (i := 19) rfl) rfl) ?_
    exact m_iret hE hm hF dX13_print_g0.2.2.2.2.2.2.2.1 h
/-! writeFraction -/
def wm_writeFraction_25 (post : MS → Prop) (σ : MS) (v3 : Int64) (t1 : Int64) : Prop := wm_figures (fun (s1 : MS) => (((lg_cmp v3 (1 : Int64)) = (0 : Int32)) → (post s1)) ∧ ((¬ ((lg_cmp v3 (1 : Int64)) = (0 : Int32))) → (wm_put (fun (s2 : MS) => wm_figures (fun (s3 : MS) => post s3) s2 v3) s1 (47 : Int32)))) σ t1
set_option maxRecDepth 20000 in
theorem km_writeFraction_25 {E : gEnv} {l : Launch} {D : va_G} {cl : List vw_C} {G : gAd} {post : MS → Prop} (hE : gOK E cX13_writeFraction RX13 none 3) (hm : mOK E l D cl G (qV post) 5) (hF : gFin E) (σ : MS) (v3 : Int64) (t1 : Int64) (h : wm_writeFraction_25 post σ v3 t1) : GW E (mW G σ) 25 [(0, .ref (G.1 0)), (3, .long v3)] [.long t1, .ref (G.1 0)] := by
  unfold wm_writeFraction_25 at h
  have hN := hm.2.2.2.2.2.2.1
  refine m_callVv hE hm [.long t1] [] mc_figures (km_figures hm.2.2.2.2.2.2.2.2 h) (by decide) rfl rfl (Nat.le_of_ble_eq_true rfl) dX13_writeFraction_g1.1 (fun s1 h => ?_)
  refine r_lload_n hE 1 dX13_writeFraction_g1.2.1 rfl rfl ?_
  refine r_lconst (v := (1 : Int64)) hE dX13_writeFraction_g1.2.2.1 (by decide) ?_
  refine r_lcmp hE dX13_writeFraction_g1.2.2.2.1 ?_
  refine r_if_eq hE 45 dX13_writeFraction_g1.2.2.2.2.1 (by decide) h (fun h => ?_) (fun h => ?_)
  · exact m_vret hE hm hF dX13_writeFraction_g1.2.2.2.2.2.2.2.2.2.2.2 h
  · refine r_aload_n hE 0 dX13_writeFraction_g1.2.2.2.2.2.1 rfl rfl ?_
    refine r_bipush (v := (47 : Int32)) hE dX13_writeFraction_g1.2.2.2.2.2.2.1 (by decide) ?_
    refine m_callVv hE hm [.int (47 : Int32)] [] mc_put (km_put hm.2.2.2.2.2.2.2.2 h) (by decide) rfl rfl (Nat.le_of_ble_eq_true rfl) dX13_writeFraction_g1.2.2.2.2.2.2.2.1 (fun s2 h => ?_)
    refine r_aload_n hE 0 dX13_writeFraction_g1.2.2.2.2.2.2.2.2.1 rfl rfl ?_
    refine r_lload_n hE 1 dX13_writeFraction_g1.2.2.2.2.2.2.2.2.2.1 rfl rfl ?_
    refine m_callVv hE hm [.long v3] [] mc_figures (km_figures hm.2.2.2.2.2.2.2.2 h) (by decide) rfl rfl (Nat.le_of_ble_eq_true rfl) dX13_writeFraction_g1.2.2.2.2.2.2.2.2.2.2.1 (fun s3 h => ?_)
    exact m_vret hE hm hF dX13_writeFraction_g1.2.2.2.2.2.2.2.2.2.2.2 h
def wm_writeFraction_12 (post : MS → Prop) (σ : MS) (v1 : Int64) (v3 : Int64) : Prop := (((0 : Int32) ≤ (lg_cmp v1 (0 : Int64))) → (wm_writeFraction_25 post σ v3 v1)) ∧ ((¬ ((0 : Int32) ≤ (lg_cmp v1 (0 : Int64)))) → (wm_writeFraction_25 post σ v3 (-v1)))
set_option maxRecDepth 20000 in
theorem km_writeFraction_12 {E : gEnv} {l : Launch} {D : va_G} {cl : List vw_C} {G : gAd} {post : MS → Prop} (hE : gOK E cX13_writeFraction RX13 none 3) (hm : mOK E l D cl G (qV post) 5) (hF : gFin E) (σ : MS) (v1 : Int64) (v3 : Int64) (h : wm_writeFraction_12 post σ v1 v3) : GW E (mW G σ) 12 [(0, .ref (G.1 0)), (1, .long v1), (3, .long v3)] [] := by
  unfold wm_writeFraction_12 at h
  have hN := hm.2.2.2.2.2.2.1
  refine r_aload_n hE 0 dX13_writeFraction_g0.2.2.2.2.2.2.2.1 rfl rfl ?_
  refine r_lload_n hE 1 dX13_writeFraction_g0.2.2.2.2.2.2.2.2.1 rfl rfl ?_
  refine r_lconst (v := (0 : Int64)) hE dX13_writeFraction_g0.2.2.2.2.2.2.2.2.2.1 (by decide) ?_
  refine r_lcmp hE dX13_writeFraction_g0.2.2.2.2.2.2.2.2.2.2.1 ?_
  refine r_if_ge hE 24 dX13_writeFraction_g0.2.2.2.2.2.2.2.2.2.2.2.1 (by decide) h (fun h => ?_) (fun h => ?_)
  · refine r_lload_n hE 1 dX13_writeFraction_g0.2.2.2.2.2.2.2.2.2.2.2.2.2.2.2 rfl rfl ?_
    refine r_pick [0, 2] rfl ?_
    exact km_writeFraction_25 hE hm hF _ _ _ h
  · refine r_lload_n hE 1 dX13_writeFraction_g0.2.2.2.2.2.2.2.2.2.2.2.2.1 rfl rfl ?_
    refine r_lneg hE dX13_writeFraction_g0.2.2.2.2.2.2.2.2.2.2.2.2.2.1 ?_
    refine r_goto hE 25 dX13_writeFraction_g0.2.2.2.2.2.2.2.2.2.2.2.2.2.2.1 (by decide) ?_
    refine r_pick [0, 2] rfl ?_
    exact km_writeFraction_25 hE hm hF _ _ _ h
def wm_writeFraction (post : MS → Prop) (σ : MS) (a1 : Int64) (a3 : Int64) : Prop := (((0 : Int32) ≤ (lg_cmp a1 (0 : Int64))) → (wm_writeFraction_12 post σ a1 a3)) ∧ ((¬ ((0 : Int32) ≤ (lg_cmp a1 (0 : Int64)))) → (wm_put (fun (s4 : MS) => wm_writeFraction_12 post s4 a1 a3) σ (45 : Int32)))
set_option maxRecDepth 20000 in
theorem km_writeFraction {l : Launch} {D : va_G} {cl : List vw_C} {G : gAd} {post : MS → Prop} (hcl : mC cl) {σ : MS} {a1 : Int64} {a3 : Int64} (h : wm_writeFraction post σ a1 a3) : mMet l D cl G yX13_writeFraction cX13_writeFraction 5 none 3 [.ref (G.1 0), .long a1, .long a3] σ (qV post) := by
  unfold wm_writeFraction at h
  refine m_enter hcl (by decide +kernel) rfl [(0, .ref (G.1 0)), (1, .long a1), (3, .long a3)] rfl (Nat.le_of_ble_eq_true rfl) ?_
  intro E hE hm hF
  have hN := hm.2.2.2.2.2.2.1
  refine r_lload_n hE 1 dX13_writeFraction_g0.1 rfl rfl ?_
  refine r_lconst (v := (0 : Int64)) hE dX13_writeFraction_g0.2.1 (by decide) ?_
  refine r_lcmp hE dX13_writeFraction_g0.2.2.1 ?_
  refine r_if_ge hE 12 dX13_writeFraction_g0.2.2.2.1 (by decide) h (fun h => ?_) (fun h => ?_)
  · exact km_writeFraction_12 hE hm hF _ _ _ h
  · refine r_aload_n hE 0 dX13_writeFraction_g0.2.2.2.2.1 rfl rfl ?_
    refine r_bipush (v := (45 : Int32)) hE dX13_writeFraction_g0.2.2.2.2.2.1 (by decide) ?_
    refine m_callVv hE hm [.int (45 : Int32)] [] mc_put (km_put hm.2.2.2.2.2.2.2.2 h) (by decide) rfl rfl (Nat.le_of_ble_eq_true rfl) dX13_writeFraction_g0.2.2.2.2.2.2.1 (fun s4 h => ?_)
    exact km_writeFraction_12 hE hm hF _ _ _ h
/-! write -/
def wm_write_229 (post : MS → Int32 → Prop) (σ : MS) (t1 : Int32) : Prop := wm_put (fun (s1 : MS) => post s1 (m_outMany s1)) σ t1
set_option maxRecDepth 20000 in
theorem km_write_229 {E : gEnv} {l : Launch} {D : va_G} {cl : List vw_C} {G : gAd} {post : MS → Int32 → Prop} (hE : gOK E cX13_write RX13 (some .int) 4) (hm : mOK E l D cl G (qI post) 6) (hF : gFin E) (σ : MS) (t1 : Int32) (h : wm_write_229 post σ t1) : GW E (mW G σ) 229 [(0, .ref (G.1 0))] [.int t1, .ref (G.1 0)] := by
  unfold wm_write_229 at h
  have hN := hm.2.2.2.2.2.2.1
  refine m_callVv hE hm [.int t1] [] mc_put (km_put hm.2.2.2.2.2.2.2.2 h) (by decide) rfl rfl (Nat.le_of_ble_eq_true rfl) dX13_write_g7.2.2.2.2.2.2.2.2.1 (fun s1 h => ?_)
  refine r_aload_n hE 0 dX13_write_g7.2.2.2.2.2.2.2.2.2.1 rfl rfl ?_
  refine mg_outMany hE hm dX13_write_g7.2.2.2.2.2.2.2.2.2.2.1 ?_
  exact m_iret hE hm hF dX13_write_g7.2.2.2.2.2.2.2.2.2.2.2 h
def wm_write_188 (post : MS → Int32 → Prop) (σ : MS) (v3 : Int32) : Prop := ((v3 = (0 : Int32)) → (post σ (m_outMany σ))) ∧ ((¬ (v3 = (0 : Int32))) → (wm_isPoint (fun (s2 : MS) (r3 : Int32) => ((r3 = (0 : Int32)) → (wm_isLine (fun (s4 : MS) (r5 : Int32) => ((r5 = (0 : Int32)) → (((¬ (v3 = (5 : Int32))) → (wm_write_229 post s4 (125 : Int32))) ∧ ((v3 = (5 : Int32)) → (wm_write_229 post s4 (62 : Int32))))) ∧ ((¬ (r5 = (0 : Int32))) → (wm_write_229 post s4 (93 : Int32)))) s2 v3)) ∧ ((¬ (r3 = (0 : Int32))) → (wm_write_229 post s2 (41 : Int32)))) σ v3))
set_option maxRecDepth 20000 in
theorem km_write_188 {E : gEnv} {l : Launch} {D : va_G} {cl : List vw_C} {G : gAd} {post : MS → Int32 → Prop} (hE : gOK E cX13_write RX13 (some .int) 4) (hm : mOK E l D cl G (qI post) 6) (hF : gFin E) (σ : MS) (v3 : Int32) (h : wm_write_188 post σ v3) : GW E (mW G σ) 188 [(0, .ref (G.1 0)), (3, .int v3)] [] := by
  unfold wm_write_188 at h
  have hN := hm.2.2.2.2.2.2.1
  refine r_iload_n hE 1 dX13_write_g6.2.2.2.2.2.1 rfl rfl ?_
  refine r_if_eq hE 232 dX13_write_g6.2.2.2.2.2.2.1 (by decide) h (fun h => ?_) (fun h => ?_)
  · refine r_aload_n hE 0 dX13_write_g7.2.2.2.2.2.2.2.2.2.1 rfl rfl ?_
    refine mg_outMany hE hm dX13_write_g7.2.2.2.2.2.2.2.2.2.2.1 ?_
    exact m_iret hE hm hF dX13_write_g7.2.2.2.2.2.2.2.2.2.2.2 h
  · refine r_aload_n hE 0 dX13_write_g6.2.2.2.2.2.2.2.1 rfl rfl ?_
    refine r_iload_n hE 1 dX13_write_g6.2.2.2.2.2.2.2.2.1 rfl rfl ?_
    refine m_callSi hE hm [.int v3] [.ref (G.1 0)] mc_isPoint (km_isPoint hm.2.2.2.2.2.2.2.2 h) (by decide) rfl rfl (Nat.le_of_ble_eq_true rfl) dX13_write_g6.2.2.2.2.2.2.2.2.2.1 (fun s2 r3 h => ?_)
    refine r_if_eq hE 205 dX13_write_g6.2.2.2.2.2.2.2.2.2.2.1 (by decide) h (fun h => ?_) (fun h => ?_)
    · refine r_iload_n hE 1 dX13_write_g6.2.2.2.2.2.2.2.2.2.2.2.2.2.1 rfl rfl ?_
      refine m_callSi hE hm [.int v3] [.ref (G.1 0)] mc_isLine (km_isLine hm.2.2.2.2.2.2.2.2 h) (by decide) rfl rfl (Nat.le_of_ble_eq_true rfl) dX13_write_g6.2.2.2.2.2.2.2.2.2.2.2.2.2.2.1 (fun s4 r5 h => ?_)
      refine r_if_eq hE 217 dX13_write_g6.2.2.2.2.2.2.2.2.2.2.2.2.2.2.2 (by decide) h (fun h => ?_) (fun h => ?_)
      · refine r_iload_n hE 1 dX13_write_g7.2.2.1 rfl rfl ?_
        refine r_iconst (v := (5 : Int32)) hE dX13_write_g7.2.2.2.1 (by decide) ?_
        refine r_icmp_ne hE 227 dX13_write_g7.2.2.2.2.1 (by decide) h (fun h => ?_) (fun h => ?_)
        · refine r_bipush (v := (125 : Int32)) hE dX13_write_g7.2.2.2.2.2.2.2.1 (by decide) ?_
          refine r_pick [0] rfl ?_
          exact km_write_229 hE hm hF _ _ h
        · refine r_bipush (v := (62 : Int32)) hE dX13_write_g7.2.2.2.2.2.1 (by decide) ?_
          refine r_goto hE 229 dX13_write_g7.2.2.2.2.2.2.1 (by decide) ?_
          refine r_pick [0] rfl ?_
          exact km_write_229 hE hm hF _ _ h
      · refine r_bipush (v := (93 : Int32)) hE dX13_write_g7.1 (by decide) ?_
        refine r_goto hE 229 dX13_write_g7.2.1 (by decide) ?_
        refine r_pick [0] rfl ?_
        exact km_write_229 hE hm hF _ _ h
    · refine r_bipush (v := (41 : Int32)) hE dX13_write_g6.2.2.2.2.2.2.2.2.2.2.2.1 (by decide) ?_
      refine r_goto hE 229 dX13_write_g6.2.2.2.2.2.2.2.2.2.2.2.2.1 (by decide) ?_
      refine r_pick [0] rfl ?_
      exact km_write_229 hE hm hF _ _ h
def wm_write_132 (post : MS → Int32 → Prop) (lp108 : MS → Int32 → Int32 → Int32 → Int32 → Prop) (σ : MS) (v2 : Int32) (v3 : Int32) (v4 : Int32) (v5 : Int32) : Prop := vp_in (((7 : Int32) * v2) + v5) 3360 ∧ (vp_in (((7 : Int32) * v2) + v5) 3360 ∧ (wm_writeFraction (fun (s6 : MS) => ∀ x7 : Int32, x7 = v5 + (1 : Int32) → lp108 s6 v2 v3 v4 x7) σ (m_up σ (((7 : Int32) * v2) + v5).toNatClampNeg) (m_low σ (((7 : Int32) * v2) + v5).toNatClampNeg)))
set_option maxRecDepth 20000 in
theorem km_write_132 {E : gEnv} {l : Launch} {D : va_G} {cl : List vw_C} {G : gAd} {post : MS → Int32 → Prop} (hE : gOK E cX13_write RX13 (some .int) 4) (hm : mOK E l D cl G (qI post) 6) (hF : gFin E) {lp108 : MS → Int32 → Int32 → Int32 → Int32 → Prop} (hl108 : ∀ (σ : MS) (v2 : Int32) (v3 : Int32) (v4 : Int32) (v5 : Int32), lp108 σ v2 v3 v4 v5 → GW E (mW G σ) 108 [(0, .ref (G.1 0)), (2, .int v2), (3, .int v3), (4, .int v4), (5, .int v5)] []) (σ : MS) (v2 : Int32) (v3 : Int32) (v4 : Int32) (v5 : Int32) (h : wm_write_132 post lp108 σ v2 v3 v4 v5) : GW E (mW G σ) 132 [(0, .ref (G.1 0)), (2, .int v2), (3, .int v3), (4, .int v4), (5, .int v5)] [] := by
  unfold wm_write_132 at h
  have hN := hm.2.2.2.2.2.2.1
  refine r_aload_n hE 0 dX13_write_g4.2.2.2.2.1 rfl rfl ?_
  refine r_aload_n hE 0 dX13_write_g4.2.2.2.2.2.1 rfl rfl ?_
  refine mg_up hE hm dX13_write_g4.2.2.2.2.2.2.1 ?_
  refine r_bipush (v := (7 : Int32)) hE dX13_write_g4.2.2.2.2.2.2.2.1 (by decide) ?_
  refine r_iload_n hE 1 dX13_write_g4.2.2.2.2.2.2.2.2.1 rfl rfl ?_
  refine r_imul hE dX13_write_g4.2.2.2.2.2.2.2.2.2.1 ?_
  refine r_iload hE 4 dX13_write_g4.2.2.2.2.2.2.2.2.2.2.1 rfl ?_
  refine r_iadd hE dX13_write_g4.2.2.2.2.2.2.2.2.2.2.2.1 ?_
  obtain ⟨hi, h⟩ := h
  refine ml_up hE hm dX13_write_g4.2.2.2.2.2.2.2.2.2.2.2.2.1 hi ?_
  refine r_aload_n hE 0 dX13_write_g4.2.2.2.2.2.2.2.2.2.2.2.2.2.1 rfl rfl ?_
  refine mg_low hE hm dX13_write_g4.2.2.2.2.2.2.2.2.2.2.2.2.2.2.1 ?_
  refine r_bipush (v := (7 : Int32)) hE dX13_write_g4.2.2.2.2.2.2.2.2.2.2.2.2.2.2.2 (by decide) ?_
  refine r_iload_n hE 1 dX13_write_g5.1 rfl rfl ?_
  refine r_imul hE dX13_write_g5.2.1 ?_
  refine r_iload hE 4 dX13_write_g5.2.2.1 rfl ?_
  refine r_iadd hE dX13_write_g5.2.2.2.1 ?_
  obtain ⟨hi, h⟩ := h
  refine ml_low hE hm dX13_write_g5.2.2.2.2.1 hi ?_
  refine m_callVv hE hm [.long (m_up σ (((7 : Int32) * v2) + v5).toNatClampNeg), .long (m_low σ (((7 : Int32) * v2) + v5).toNatClampNeg)] [] mc_writeFraction (km_writeFraction hm.2.2.2.2.2.2.2.2 h) (by decide) rfl rfl (Nat.le_of_ble_eq_true rfl) dX13_write_g5.2.2.2.2.2.1 (fun s6 h => ?_)
  obtain ⟨x7, ex7⟩ : ∃ z : Int32, z = v5 + (1 : Int32) := ⟨_, rfl⟩
  have h := h x7 ex7
  refine r_iinc (v := x7) hE [(5, .int x7), (0, .ref (G.1 0)), (2, .int v2), (3, .int v3), (4, .int v4)] 4 dX13_write_g5.2.2.2.2.2.2.1 rfl (by rw [ex7]; rfl) hN (by decide) rfl ?_
  refine r_goto hE 108 dX13_write_g5.2.2.2.2.2.2.2.1 (by decide) ?_
  refine r_pick [1, 2, 3, 4, 0] rfl ?_
  exact hl108 _ _ _ _ _ h
def wm_write_108 (post : MS → Int32 → Prop) : Nat → MS → Int32 → Int32 → Int32 → Int32 → Prop
  | 0, _, _, _, _, _ => False
  | n + 1, σ, v2, v3, v4, v5 => ((v4 ≤ v5) → (((¬ (v3 = (6 : Int32))) → (wm_write_188 post σ v3)) ∧ ((v3 = (6 : Int32)) → (vp_in v2 480 ∧ (vp_in (m_rowOf σ v2.toNatClampNeg) 480 ∧ (wm_figures (fun (s8 : MS) => wm_write_188 post s8 v3) σ ((m_rowSize σ (m_rowOf σ v2.toNatClampNeg).toNatClampNeg).toInt64))))))) ∧ ((¬ (v4 ≤ v5)) → (((v5 ≤ (0 : Int32)) → (wm_write_132 post (fun (ys : MS) (y0 : Int32) (y1 : Int32) (y2 : Int32) (y3 : Int32) => wm_write_108 post n ys y0 y1 y2 y3) σ v2 v3 v4 v5)) ∧ ((¬ (v5 ≤ (0 : Int32))) → (wm_put (fun (s9 : MS) => wm_put (fun (s10 : MS) => wm_write_132 post (fun (ys : MS) (y0 : Int32) (y1 : Int32) (y2 : Int32) (y3 : Int32) => wm_write_108 post n ys y0 y1 y2 y3) s10 v2 v3 v4 v5) s9 (32 : Int32)) σ (44 : Int32)))))
set_option maxRecDepth 20000 in
theorem km_write_108 {E : gEnv} {l : Launch} {D : va_G} {cl : List vw_C} {G : gAd} {post : MS → Int32 → Prop} (hE : gOK E cX13_write RX13 (some .int) 4) (hm : mOK E l D cl G (qI post) 6) (hF : gFin E) : ∀ (n : Nat) (σ : MS) (v2 : Int32) (v3 : Int32) (v4 : Int32) (v5 : Int32), wm_write_108 post n σ v2 v3 v4 v5 → GW E (mW G σ) 108 [(0, .ref (G.1 0)), (2, .int v2), (3, .int v3), (4, .int v4), (5, .int v5)] [] := by
  intro n
  induction n with
  | zero => intro σ v2 v3 v4 v5 h; exact h.elim
  | succ n ih =>
    intro σ v2 v3 v4 v5 h
    rw [wm_write_108] at h
    have hN := hm.2.2.2.2.2.2.1
    refine r_iload hE 4 dX13_write_g3.2.2.2.2.2.2.2.2.2.1 rfl ?_
    refine r_iload hE 3 dX13_write_g3.2.2.2.2.2.2.2.2.2.2.1 rfl ?_
    refine r_icmp_ge hE 166 dX13_write_g3.2.2.2.2.2.2.2.2.2.2.2.1 (by decide) h (fun h => ?_) (fun h => ?_)
    · refine r_iload_n hE 2 dX13_write_g5.2.2.2.2.2.2.2.2.1 rfl rfl ?_
      refine r_bipush (v := (6 : Int32)) hE dX13_write_g5.2.2.2.2.2.2.2.2.2.1 (by decide) ?_
      refine r_icmp_ne hE 188 dX13_write_g5.2.2.2.2.2.2.2.2.2.2.1 (by decide) h (fun h => ?_) (fun h => ?_)
      · refine r_pick [0, 2] rfl ?_
        exact km_write_188 hE hm hF _ _ h
      · refine r_aload_n hE 0 dX13_write_g5.2.2.2.2.2.2.2.2.2.2.2.1 rfl rfl ?_
        refine r_aload_n hE 0 dX13_write_g5.2.2.2.2.2.2.2.2.2.2.2.2.1 rfl rfl ?_
        refine mg_rowSize hE hm dX13_write_g5.2.2.2.2.2.2.2.2.2.2.2.2.2.1 ?_
        refine r_aload_n hE 0 dX13_write_g5.2.2.2.2.2.2.2.2.2.2.2.2.2.2.1 rfl rfl ?_
        refine mg_rowOf hE hm dX13_write_g5.2.2.2.2.2.2.2.2.2.2.2.2.2.2.2 ?_
        refine r_iload_n hE 1 dX13_write_g6.1 rfl rfl ?_
        obtain ⟨hi, h⟩ := h
        refine ml_rowOf hE hm dX13_write_g6.2.1 hi ?_
        obtain ⟨hi, h⟩ := h
        refine ml_rowSize hE hm dX13_write_g6.2.2.1 hi ?_
        refine r_i2l hE dX13_write_g6.2.2.2.1 ?_
        refine m_callVv hE hm [.long ((m_rowSize σ (m_rowOf σ v2.toNatClampNeg).toNatClampNeg).toInt64)] [] mc_figures (km_figures hm.2.2.2.2.2.2.2.2 h) (by decide) rfl rfl (Nat.le_of_ble_eq_true rfl) dX13_write_g6.2.2.2.2.1 (fun s8 h => ?_)
        refine r_pick [0, 2] rfl ?_
        exact km_write_188 hE hm hF _ _ h
    · refine r_iload hE 4 dX13_write_g3.2.2.2.2.2.2.2.2.2.2.2.2.1 rfl ?_
      refine r_if_le hE 132 dX13_write_g3.2.2.2.2.2.2.2.2.2.2.2.2.2.1 (by decide) h (fun h => ?_) (fun h => ?_)
      · exact km_write_132 hE hm hF ih _ _ _ _ _ h
      · refine r_aload_n hE 0 dX13_write_g3.2.2.2.2.2.2.2.2.2.2.2.2.2.2.1 rfl rfl ?_
        refine r_bipush (v := (44 : Int32)) hE dX13_write_g3.2.2.2.2.2.2.2.2.2.2.2.2.2.2.2 (by decide) ?_
        refine m_callVv hE hm [.int (44 : Int32)] [] mc_put (km_put hm.2.2.2.2.2.2.2.2 h) (by decide) rfl rfl (Nat.le_of_ble_eq_true rfl) dX13_write_g4.1 (fun s9 h => ?_)
        refine r_aload_n hE 0 dX13_write_g4.2.1 rfl rfl ?_
        refine r_bipush (v := (32 : Int32)) hE dX13_write_g4.2.2.1 (by decide) ?_
        refine m_callVv hE hm [.int (32 : Int32)] [] mc_put (km_put hm.2.2.2.2.2.2.2.2 h) (by decide) rfl rfl (Nat.le_of_ble_eq_true rfl) dX13_write_g4.2.2.2.1 (fun s10 h => ?_)
        exact km_write_132 hE hm hF ih _ _ _ _ _ h
def wm_write_105 (post : MS → Int32 → Prop) (σ : MS) (v2 : Int32) (v3 : Int32) (v4 : Int32) : Prop := ∃ k : Nat, wm_write_108 post k σ v2 v3 v4 (0 : Int32)
set_option maxRecDepth 20000 in
theorem km_write_105 {E : gEnv} {l : Launch} {D : va_G} {cl : List vw_C} {G : gAd} {post : MS → Int32 → Prop} (hE : gOK E cX13_write RX13 (some .int) 4) (hm : mOK E l D cl G (qI post) 6) (hF : gFin E) (σ : MS) (v2 : Int32) (v3 : Int32) (v4 : Int32) (h : wm_write_105 post σ v2 v3 v4) : GW E (mW G σ) 105 [(0, .ref (G.1 0)), (2, .int v2), (3, .int v3), (4, .int v4)] [] := by
  unfold wm_write_105 at h
  have hN := hm.2.2.2.2.2.2.1
  refine r_iconst (v := (0 : Int32)) hE dX13_write_g3.2.2.2.2.2.2.2.1 (by decide) ?_
  refine r_istore hE [(5, .int (0 : Int32)), (0, .ref (G.1 0)), (2, .int v2), (3, .int v3), (4, .int v4)] dX13_write_g3.2.2.2.2.2.2.2.2.1 hN (by decide) rfl ?_
  refine r_pick [1, 2, 3, 4, 0] rfl ?_
  obtain ⟨k, h⟩ := h
  exact km_write_108 hE hm hF k _ _ _ _ _ h
def wm_write_102 (post : MS → Int32 → Prop) (σ : MS) (v2 : Int32) (v3 : Int32) (v4 : Int32) (t1 : Int32) : Prop := wm_put (fun (s11 : MS) => wm_write_105 post s11 v2 v3 v4) σ t1
set_option maxRecDepth 20000 in
theorem km_write_102 {E : gEnv} {l : Launch} {D : va_G} {cl : List vw_C} {G : gAd} {post : MS → Int32 → Prop} (hE : gOK E cX13_write RX13 (some .int) 4) (hm : mOK E l D cl G (qI post) 6) (hF : gFin E) (σ : MS) (v2 : Int32) (v3 : Int32) (v4 : Int32) (t1 : Int32) (h : wm_write_102 post σ v2 v3 v4 t1) : GW E (mW G σ) 102 [(0, .ref (G.1 0)), (2, .int v2), (3, .int v3), (4, .int v4)] [.int t1, .ref (G.1 0)] := by
  unfold wm_write_102 at h
  have hN := hm.2.2.2.2.2.2.1
  refine m_callVv hE hm [.int t1] [] mc_put (km_put hm.2.2.2.2.2.2.2.2 h) (by decide) rfl rfl (Nat.le_of_ble_eq_true rfl) dX13_write_g3.2.2.2.2.2.2.1 (fun s11 h => ?_)
  exact km_write_105 hE hm hF _ _ _ _ h
def wm_write_59 (post : MS → Int32 → Prop) (σ : MS) (v2 : Int32) (v3 : Int32) (t0 : Int32) : Prop := ((v3 = (0 : Int32)) → (wm_write_105 post σ v2 v3 t0)) ∧ ((¬ (v3 = (0 : Int32))) → (wm_isPoint (fun (s12 : MS) (r13 : Int32) => ((r13 = (0 : Int32)) → (wm_isLine (fun (s14 : MS) (r15 : Int32) => ((r15 = (0 : Int32)) → (((¬ (v3 = (5 : Int32))) → (wm_write_102 post s14 v2 v3 t0 (123 : Int32))) ∧ ((v3 = (5 : Int32)) → (wm_write_102 post s14 v2 v3 t0 (60 : Int32))))) ∧ ((¬ (r15 = (0 : Int32))) → (wm_write_102 post s14 v2 v3 t0 (91 : Int32)))) s12 v3)) ∧ ((¬ (r13 = (0 : Int32))) → (wm_write_102 post s12 v2 v3 t0 (40 : Int32)))) σ v3))
set_option maxRecDepth 20000 in
theorem km_write_59 {E : gEnv} {l : Launch} {D : va_G} {cl : List vw_C} {G : gAd} {post : MS → Int32 → Prop} (hE : gOK E cX13_write RX13 (some .int) 4) (hm : mOK E l D cl G (qI post) 6) (hF : gFin E) (σ : MS) (v2 : Int32) (v3 : Int32) (t0 : Int32) (h : wm_write_59 post σ v2 v3 t0) : GW E (mW G σ) 59 [(0, .ref (G.1 0)), (2, .int v2), (3, .int v3)] [.int t0] := by
  unfold wm_write_59 at h
  have hN := hm.2.2.2.2.2.2.1
  refine r_istore hE [(4, .int t0), (0, .ref (G.1 0)), (2, .int v2), (3, .int v3)] dX13_write_g2.2.2.1 hN (by decide) rfl ?_
  refine r_iload_n hE 3 dX13_write_g2.2.2.2.1 rfl rfl ?_
  refine r_if_eq hE 105 dX13_write_g2.2.2.2.2.1 (by decide) h (fun h => ?_) (fun h => ?_)
  · refine r_pick [1, 2, 3, 0] rfl ?_
    exact km_write_105 hE hm hF _ _ _ _ h
  · refine r_aload_n hE 1 dX13_write_g2.2.2.2.2.2.1 rfl rfl ?_
    refine r_iload_n hE 3 dX13_write_g2.2.2.2.2.2.2.1 rfl rfl ?_
    refine m_callSi hE hm [.int v3] [.ref (G.1 0)] mc_isPoint (km_isPoint hm.2.2.2.2.2.2.2.2 h) (by decide) rfl rfl (Nat.le_of_ble_eq_true rfl) dX13_write_g2.2.2.2.2.2.2.2.1 (fun s12 r13 h => ?_)
    refine r_if_eq hE 78 dX13_write_g2.2.2.2.2.2.2.2.2.1 (by decide) h (fun h => ?_) (fun h => ?_)
    · refine r_iload_n hE 3 dX13_write_g2.2.2.2.2.2.2.2.2.2.2.2.1 rfl rfl ?_
      refine m_callSi hE hm [.int v3] [.ref (G.1 0)] mc_isLine (km_isLine hm.2.2.2.2.2.2.2.2 h) (by decide) rfl rfl (Nat.le_of_ble_eq_true rfl) dX13_write_g2.2.2.2.2.2.2.2.2.2.2.2.2.1 (fun s14 r15 h => ?_)
      refine r_if_eq hE 90 dX13_write_g2.2.2.2.2.2.2.2.2.2.2.2.2.2.1 (by decide) h (fun h => ?_) (fun h => ?_)
      · refine r_iload_n hE 3 dX13_write_g3.1 rfl rfl ?_
        refine r_iconst (v := (5 : Int32)) hE dX13_write_g3.2.1 (by decide) ?_
        refine r_icmp_ne hE 100 dX13_write_g3.2.2.1 (by decide) h (fun h => ?_) (fun h => ?_)
        · refine r_bipush (v := (123 : Int32)) hE dX13_write_g3.2.2.2.2.2.1 (by decide) ?_
          refine r_pick [1, 2, 3, 0] rfl ?_
          exact km_write_102 hE hm hF _ _ _ _ _ h
        · refine r_bipush (v := (60 : Int32)) hE dX13_write_g3.2.2.2.1 (by decide) ?_
          refine r_goto hE 102 dX13_write_g3.2.2.2.2.1 (by decide) ?_
          refine r_pick [1, 2, 3, 0] rfl ?_
          exact km_write_102 hE hm hF _ _ _ _ _ h
      · refine r_bipush (v := (91 : Int32)) hE dX13_write_g2.2.2.2.2.2.2.2.2.2.2.2.2.2.2.1 (by decide) ?_
        refine r_goto hE 102 dX13_write_g2.2.2.2.2.2.2.2.2.2.2.2.2.2.2.2 (by decide) ?_
        refine r_pick [1, 2, 3, 0] rfl ?_
        exact km_write_102 hE hm hF _ _ _ _ _ h
    · refine r_bipush (v := (40 : Int32)) hE dX13_write_g2.2.2.2.2.2.2.2.2.2.1 (by decide) ?_
      refine r_goto hE 102 dX13_write_g2.2.2.2.2.2.2.2.2.2.2.1 (by decide) ?_
      refine r_pick [1, 2, 3, 0] rfl ?_
      exact km_write_102 hE hm hF _ _ _ _ _ h
def wm_write (post : MS → Int32 → Prop) (σ : MS) (a1 : Int32) : Prop := wm_noDrawn (fun (s16 : MS) (r17 : Int32) => ((r17 = (0 : Int32)) → (vp_in a1 40 ∧ (∀ x18 : Int32, x18 = m_drawn s16 a1.toNatClampNeg → vp_in x18 480 ∧ (∀ x19 : Int32, x19 = m_sort s16 x18.toNatClampNeg → ∀ s20 : MS, s20 = m_outMany_s s16 (0 : Int32) → ((¬ (x19 = (0 : Int32))) → (wm_isPoint (fun (s21 : MS) (r22 : Int32) => ((r22 = (0 : Int32)) → (((¬ (x19 = (6 : Int32))) → (wm_write_59 post s21 x18 x19 (3 : Int32))) ∧ ((x19 = (6 : Int32)) → (wm_write_59 post s21 x18 x19 (0 : Int32))))) ∧ ((¬ (r22 = (0 : Int32))) → (wm_write_59 post s21 x18 x19 (2 : Int32)))) s20 x19)) ∧ ((x19 = (0 : Int32)) → (wm_write_59 post s20 x18 x19 (1 : Int32))))))) ∧ ((¬ (r17 = (0 : Int32))) → (post s16 (0 : Int32)))) σ a1
set_option maxRecDepth 20000 in
theorem km_write {l : Launch} {D : va_G} {cl : List vw_C} {G : gAd} {post : MS → Int32 → Prop} (hcl : mC cl) {σ : MS} {a1 : Int32} (h : wm_write post σ a1) : mMet l D cl G yX13_write cX13_write 6 (some .int) 4 [.ref (G.1 0), .int a1] σ (qI post) := by
  unfold wm_write at h
  refine m_enter hcl (by decide +kernel) rfl [(0, .ref (G.1 0)), (1, .int a1)] rfl (Nat.le_of_ble_eq_true rfl) ?_
  intro E hE hm hF
  have hN := hm.2.2.2.2.2.2.1
  refine r_aload_n hE 0 dX13_write_g0.1 rfl rfl ?_
  refine r_iload_n hE 1 dX13_write_g0.2.1 rfl rfl ?_
  refine m_callVi hE hm [.int a1] [] mc_noDrawn (km_noDrawn hm.2.2.2.2.2.2.2.2 h) (by decide) rfl rfl (Nat.le_of_ble_eq_true rfl) dX13_write_g0.2.2.1 (fun s16 r17 h => ?_)
  refine r_if_eq hE 10 dX13_write_g0.2.2.2.1 (by decide) h (fun h => ?_) (fun h => ?_)
  · refine r_aload_n hE 0 dX13_write_g0.2.2.2.2.2.2.1 rfl rfl ?_
    refine mg_drawn hE hm dX13_write_g0.2.2.2.2.2.2.2.1 ?_
    refine r_iload_n hE 1 dX13_write_g0.2.2.2.2.2.2.2.2.1 rfl rfl ?_
    obtain ⟨hi, h⟩ := h
    refine ml_drawn hE hm dX13_write_g0.2.2.2.2.2.2.2.2.2.1 hi ?_
    refine r_topi h (fun x18 ex18 h => ?_)
    refine r_istore_n hE [(2, .int x18), (0, .ref (G.1 0)), (1, .int a1)] dX13_write_g0.2.2.2.2.2.2.2.2.2.2.1 rfl hN (by decide) rfl ?_
    refine r_aload_n hE 1 dX13_write_g0.2.2.2.2.2.2.2.2.2.2.2.1 rfl rfl ?_
    refine mg_sort hE hm dX13_write_g0.2.2.2.2.2.2.2.2.2.2.2.2.1 ?_
    refine r_iload_n hE 0 dX13_write_g0.2.2.2.2.2.2.2.2.2.2.2.2.2.1 rfl rfl ?_
    obtain ⟨hi, h⟩ := h
    refine ml_sort hE hm dX13_write_g0.2.2.2.2.2.2.2.2.2.2.2.2.2.2.1 hi ?_
    refine r_topi h (fun x19 ex19 h => ?_)
    refine r_istore_n hE [(3, .int x19), (2, .int x18), (0, .ref (G.1 0)), (1, .int a1)] dX13_write_g0.2.2.2.2.2.2.2.2.2.2.2.2.2.2.2 rfl hN (by decide) rfl ?_
    refine r_aload_n hE 2 dX13_write_g1.1 rfl rfl ?_
    refine r_iconst (v := (0 : Int32)) hE dX13_write_g1.2.1 (by decide) ?_
    refine mp_outMany hE hm dX13_write_g1.2.2.1 h (fun s20 h => ?_)
    refine r_iload_n hE 0 dX13_write_g1.2.2.2.1 rfl rfl ?_
    refine r_if_ne hE 37 dX13_write_g1.2.2.2.2.1 (by decide) h (fun h => ?_) (fun h => ?_)
    · refine r_iload_n hE 0 dX13_write_g1.2.2.2.2.2.2.2.1 rfl rfl ?_
      refine m_callSi hE hm [.int x19] [] mc_isPoint (km_isPoint hm.2.2.2.2.2.2.2.2 h) (by decide) rfl rfl (Nat.le_of_ble_eq_true rfl) dX13_write_g1.2.2.2.2.2.2.2.2.1 (fun s21 r22 h => ?_)
      refine r_if_eq hE 48 dX13_write_g1.2.2.2.2.2.2.2.2.2.1 (by decide) h (fun h => ?_) (fun h => ?_)
      · refine r_iload_n hE 0 dX13_write_g1.2.2.2.2.2.2.2.2.2.2.2.2.1 rfl rfl ?_
        refine r_bipush (v := (6 : Int32)) hE dX13_write_g1.2.2.2.2.2.2.2.2.2.2.2.2.2.1 (by decide) ?_
        refine r_icmp_ne hE 58 dX13_write_g1.2.2.2.2.2.2.2.2.2.2.2.2.2.2.1 (by decide) h (fun h => ?_) (fun h => ?_)
        · refine r_iconst (v := (3 : Int32)) hE dX13_write_g2.2.1 (by decide) ?_
          refine r_pick [2, 1, 0] rfl ?_
          exact km_write_59 hE hm hF _ _ _ _ h
        · refine r_iconst (v := (0 : Int32)) hE dX13_write_g1.2.2.2.2.2.2.2.2.2.2.2.2.2.2.2 (by decide) ?_
          refine r_goto hE 59 dX13_write_g2.1 (by decide) ?_
          refine r_pick [2, 1, 0] rfl ?_
          exact km_write_59 hE hm hF _ _ _ _ h
      · refine r_iconst (v := (2 : Int32)) hE dX13_write_g1.2.2.2.2.2.2.2.2.2.2.1 (by decide) ?_
        refine r_goto hE 59 dX13_write_g1.2.2.2.2.2.2.2.2.2.2.2.1 (by decide) ?_
        refine r_pick [2, 1, 0] rfl ?_
        exact km_write_59 hE hm hF _ _ _ _ h
    · refine r_iconst (v := (1 : Int32)) hE dX13_write_g1.2.2.2.2.2.1 (by decide) ?_
      refine r_goto hE 59 dX13_write_g1.2.2.2.2.2.2.1 (by decide) ?_
      refine r_pick [2, 1, 0] rfl ?_
      exact km_write_59 hE hm hF _ _ _ _ h
  · refine r_iconst (v := (0 : Int32)) hE dX13_write_g0.2.2.2.2.1 (by decide) ?_
    exact m_iret hE hm hF dX13_write_g0.2.2.2.2.2.1 h
/-! out -/
def wm_out_22 (post : MS → Int32 → Prop) (σ : MS) (v1 : Int32) (t1 : Int32) : Prop := ∀ s1 : MS, s1 = m_code_s σ t1 → (((m_code s1) ≤ (0 : Int32)) → (vp_in v1 40000 ∧ (post s1 (m_out s1 v1.toNatClampNeg)))) ∧ ((¬ ((m_code s1) ≤ (0 : Int32))) → (post s1 (0 : Int32)))
set_option maxRecDepth 20000 in
theorem km_out_22 {E : gEnv} {l : Launch} {D : va_G} {cl : List vw_C} {G : gAd} {post : MS → Int32 → Prop} (hE : gOK E cX13_out RX13 (some .int) 2) (hm : mOK E l D cl G (qI post) 2) (hF : gFin E) (σ : MS) (v1 : Int32) (t1 : Int32) (h : wm_out_22 post σ v1 t1) : GW E (mW G σ) 22 [(0, .ref (G.1 0)), (1, .int v1)] [.int t1, .ref (G.1 0)] := by
  unfold wm_out_22 at h
  have hN := hm.2.2.2.2.2.2.1
  refine mp_code hE hm dX13_out_g0.2.2.2.2.2.2.2.2.2.2.2.2.2.2.1 h (fun s1 h => ?_)
  refine r_aload_n hE 0 dX13_out_g0.2.2.2.2.2.2.2.2.2.2.2.2.2.2.2 rfl rfl ?_
  refine mg_code hE hm dX13_out_g1.1 ?_
  refine r_if_le hE 36 dX13_out_g1.2.1 (by decide) h (fun h => ?_) (fun h => ?_)
  · refine r_aload_n hE 0 dX13_out_g1.2.2.2.2.1 rfl rfl ?_
    refine mg_out hE hm dX13_out_g1.2.2.2.2.2.1 ?_
    refine r_iload_n hE 1 dX13_out_g1.2.2.2.2.2.2.1 rfl rfl ?_
    obtain ⟨hi, h⟩ := h
    refine ml_out hE hm dX13_out_g1.2.2.2.2.2.2.2.1 hi ?_
    exact m_iret hE hm hF dX13_out_g1.2.2.2.2.2.2.2.2 h
  · refine r_iconst (v := (0 : Int32)) hE dX13_out_g1.2.2.1 (by decide) ?_
    refine r_goto hE 42 dX13_out_g1.2.2.2.1 (by decide) ?_
    exact m_iret hE hm hF dX13_out_g1.2.2.2.2.2.2.2.2 h
def wm_out (post : MS → Int32 → Prop) (σ : MS) (a1 : Int32) : Prop := wm_in (fun (s2 : MS) (r3 : Int32) => ((r3 = (0 : Int32)) → (wm_out_22 post s2 a1 (1 : Int32))) ∧ ((¬ (r3 = (0 : Int32))) → (wm_out_22 post s2 a1 (0 : Int32)))) σ (a1.toInt64) (0 : Int64) (((m_outMany σ) - (1 : Int32)).toInt64)
set_option maxRecDepth 20000 in
theorem km_out {l : Launch} {D : va_G} {cl : List vw_C} {G : gAd} {post : MS → Int32 → Prop} (hcl : mC cl) {σ : MS} {a1 : Int32} (h : wm_out post σ a1) : mMet l D cl G yX13_out cX13_out 2 (some .int) 2 [.ref (G.1 0), .int a1] σ (qI post) := by
  unfold wm_out at h
  refine m_enter hcl (by decide +kernel) rfl [(0, .ref (G.1 0)), (1, .int a1)] rfl (Nat.le_of_ble_eq_true rfl) ?_
  intro E hE hm hF
  have hN := hm.2.2.2.2.2.2.1
  refine r_aload_n hE 0 dX13_out_g0.1 rfl rfl ?_
  refine r_iload_n hE 1 dX13_out_g0.2.1 rfl rfl ?_
  refine r_i2l hE dX13_out_g0.2.2.1 ?_
  refine r_lconst (v := (0 : Int64)) hE dX13_out_g0.2.2.2.1 (by decide) ?_
  refine r_aload_n hE 0 dX13_out_g0.2.2.2.2.1 rfl rfl ?_
  refine mg_outMany hE hm dX13_out_g0.2.2.2.2.2.1 ?_
  refine r_iconst (v := (1 : Int32)) hE dX13_out_g0.2.2.2.2.2.2.1 (by decide) ?_
  refine r_isub hE dX13_out_g0.2.2.2.2.2.2.2.1 ?_
  refine r_i2l hE dX13_out_g0.2.2.2.2.2.2.2.2.1 ?_
  refine m_callSi hE hm [.long (a1.toInt64), .long (0 : Int64), .long (((m_outMany σ) - (1 : Int32)).toInt64)] [.ref (G.1 0)] mc_in (km_in hm.2.2.2.2.2.2.2.2 h) (by decide) rfl rfl (Nat.le_of_ble_eq_true rfl) dX13_out_g0.2.2.2.2.2.2.2.2.2.1 (fun s2 r3 h => ?_)
  refine r_if_eq hE 21 dX13_out_g0.2.2.2.2.2.2.2.2.2.2.1 (by decide) h (fun h => ?_) (fun h => ?_)
  · refine r_iconst (v := (1 : Int32)) hE dX13_out_g0.2.2.2.2.2.2.2.2.2.2.2.2.2.1 (by decide) ?_
    exact km_out_22 hE hm hF _ _ _ h
  · refine r_iconst (v := (0 : Int32)) hE dX13_out_g0.2.2.2.2.2.2.2.2.2.2.2.1 (by decide) ?_
    refine r_goto hE 22 dX13_out_g0.2.2.2.2.2.2.2.2.2.2.2.2.1 (by decide) ?_
    exact km_out_22 hE hm hF _ _ _ h
/-! back -/
def wm_back_20 (post : MS → Int32 → Prop) : Nat → MS → Int32 → Prop
  | 0, _, _ => False
  | n + 1, σ, v1 => (((m_outMany σ) ≤ v1) → (∀ s1 : MS, s1 = m_taped_s σ (m_outMany σ) → post s1 (m_taped s1))) ∧ ((¬ ((m_outMany σ) ≤ v1)) → (vp_in v1 40000 ∧ (vp_in v1 3000 ∧ (∀ s2 : MS, s2 = m_tape_s σ v1.toNatClampNeg ((m_out σ v1.toNatClampNeg).toInt8.toInt32) → ∀ x3 : Int32, x3 = v1 + (1 : Int32) → wm_back_20 post n s2 x3))))
set_option maxRecDepth 20000 in
theorem km_back_20 {E : gEnv} {l : Launch} {D : va_G} {cl : List vw_C} {G : gAd} {post : MS → Int32 → Prop} (hE : gOK E cX13_back RX13 (some .int) 1) (hm : mOK E l D cl G (qI post) 2) (hF : gFin E) : ∀ (n : Nat) (σ : MS) (v1 : Int32), wm_back_20 post n σ v1 → GW E (mW G σ) 20 [(0, .ref (G.1 0)), (1, .int v1)] [] := by
  intro n
  induction n with
  | zero => intro σ v1 h; exact h.elim
  | succ n ih =>
    intro σ v1 h
    rw [wm_back_20] at h
    have hN := hm.2.2.2.2.2.2.1
    refine r_iload_n hE 1 dX13_back_g0.2.2.2.2.2.2.2.2.2.2.2.1 rfl rfl ?_
    refine r_aload_n hE 0 dX13_back_g0.2.2.2.2.2.2.2.2.2.2.2.2.1 rfl rfl ?_
    refine mg_outMany hE hm dX13_back_g0.2.2.2.2.2.2.2.2.2.2.2.2.2.1 ?_
    refine r_icmp_ge hE 46 dX13_back_g0.2.2.2.2.2.2.2.2.2.2.2.2.2.2.1 (by decide) h (fun h => ?_) (fun h => ?_)
    · refine r_aload_n hE 0 dX13_back_g1.2.2.2.2.2.2.2.2.2.1 rfl rfl ?_
      refine r_aload_n hE 0 dX13_back_g1.2.2.2.2.2.2.2.2.2.2.1 rfl rfl ?_
      refine mg_outMany hE hm dX13_back_g1.2.2.2.2.2.2.2.2.2.2.2.1 ?_
      refine mp_taped hE hm dX13_back_g1.2.2.2.2.2.2.2.2.2.2.2.2.1 h (fun s1 h => ?_)
      refine r_aload_n hE 0 dX13_back_g1.2.2.2.2.2.2.2.2.2.2.2.2.2.1 rfl rfl ?_
      refine mg_taped hE hm dX13_back_g1.2.2.2.2.2.2.2.2.2.2.2.2.2.2.1 ?_
      exact m_iret hE hm hF dX13_back_g1.2.2.2.2.2.2.2.2.2.2.2.2.2.2.2 h
    · refine r_aload_n hE 0 dX13_back_g0.2.2.2.2.2.2.2.2.2.2.2.2.2.2.2 rfl rfl ?_
      refine mg_tape hE hm dX13_back_g1.1 ?_
      refine r_iload_n hE 1 dX13_back_g1.2.1 rfl rfl ?_
      refine r_aload_n hE 0 dX13_back_g1.2.2.1 rfl rfl ?_
      refine mg_out hE hm dX13_back_g1.2.2.2.1 ?_
      refine r_iload_n hE 1 dX13_back_g1.2.2.2.2.1 rfl rfl ?_
      obtain ⟨hi, h⟩ := h
      refine ml_out hE hm dX13_back_g1.2.2.2.2.2.1 hi ?_
      obtain ⟨hi, h⟩ := h
      refine ms_tape hE hm dX13_back_g1.2.2.2.2.2.2.1 hi h (fun s2 h => ?_)
      obtain ⟨x3, ex3⟩ : ∃ z : Int32, z = v1 + (1 : Int32) := ⟨_, rfl⟩
      have h := h x3 ex3
      refine r_iinc (v := x3) hE [(1, .int x3), (0, .ref (G.1 0))] 1 dX13_back_g1.2.2.2.2.2.2.2.1 rfl (by rw [ex3]; rfl) hN (by decide) rfl ?_
      refine r_goto hE 20 dX13_back_g1.2.2.2.2.2.2.2.2.1 (by decide) ?_
      refine r_pick [1, 0] rfl ?_
      exact ih _ _ h
def wm_back (post : MS → Int32 → Prop) (σ : MS) : Prop := ∀ s4 : MS, s4 = m_code_s σ (0 : Int32) → (((m_outMany s4) ≤ (3000 : Int32)) → (∃ k : Nat, wm_back_20 post k s4 (0 : Int32))) ∧ ((¬ ((m_outMany s4) ≤ (3000 : Int32))) → (post s4 (-2000000003 : Int32)))
set_option maxRecDepth 20000 in
theorem km_back {l : Launch} {D : va_G} {cl : List vw_C} {G : gAd} {post : MS → Int32 → Prop} (hcl : mC cl) {σ : MS} (h : wm_back post σ) : mMet l D cl G yX13_back cX13_back 2 (some .int) 1 [.ref (G.1 0)] σ (qI post) := by
  unfold wm_back at h
  refine m_enter hcl (by decide +kernel) rfl [(0, .ref (G.1 0))] rfl (Nat.le_of_ble_eq_true rfl) ?_
  intro E hE hm hF
  have hN := hm.2.2.2.2.2.2.1
  refine r_aload_n hE 0 dX13_back_g0.1 rfl rfl ?_
  refine r_iconst (v := (0 : Int32)) hE dX13_back_g0.2.1 (by decide) ?_
  refine mp_code hE hm dX13_back_g0.2.2.1 h (fun s4 h => ?_)
  refine r_aload_n hE 0 dX13_back_g0.2.2.2.1 rfl rfl ?_
  refine mg_outMany hE hm dX13_back_g0.2.2.2.2.1 ?_
  refine r_sipush (v := (3000 : Int32)) hE dX13_back_g0.2.2.2.2.2.1 (by decide) ?_
  refine r_icmp_le hE 18 dX13_back_g0.2.2.2.2.2.2.1 (by decide) h (fun h => ?_) (fun h => ?_)
  · refine r_iconst (v := (0 : Int32)) hE dX13_back_g0.2.2.2.2.2.2.2.2.2.1 (by decide) ?_
    refine r_istore_n hE [(1, .int (0 : Int32)), (0, .ref (G.1 0))] dX13_back_g0.2.2.2.2.2.2.2.2.2.2.1 rfl hN (by decide) rfl ?_
    refine r_pick [1, 0] rfl ?_
    obtain ⟨k, h⟩ := h
    exact km_back_20 hE hm hF k _ _ h
  · refine r_ldc (v := (-2000000003 : Int32)) hE dX13_back_g0.2.2.2.2.2.2.2.1 (gTb_9 (List.mem_of_getElem? (i := 19) rfl) rfl) ?_
    exact m_iret hE hm hF dX13_back_g0.2.2.2.2.2.2.2.2.1 h
/-! statedOr -/
def wm_statedOr (post : MS → Int32 → Prop) (σ : MS) (a1 : Int32) : Prop := (((m_statedMany σ) ≤ a1) → (post σ (-1 : Int32))) ∧ ((¬ ((m_statedMany σ) ≤ a1)) → (vp_in a1 40 ∧ (post σ (m_stated σ a1.toNatClampNeg))))
set_option maxRecDepth 20000 in
theorem km_statedOr {l : Launch} {D : va_G} {cl : List vw_C} {G : gAd} {post : MS → Int32 → Prop} (hcl : mC cl) {σ : MS} {a1 : Int32} (h : wm_statedOr post σ a1) : mMet l D cl G yX13_statedOr cX13_statedOr 2 (some .int) 1 [.ref (G.1 0), .int a1] σ (qI post) := by
  unfold wm_statedOr at h
  refine m_enter hcl (by decide +kernel) rfl [(0, .ref (G.1 0)), (1, .int a1)] rfl (Nat.le_of_ble_eq_true rfl) ?_
  intro E hE hm hF
  have hN := hm.2.2.2.2.2.2.1
  refine r_iload_n hE 1 dX13_statedOr_g0.1 rfl rfl ?_
  refine r_aload_n hE 0 dX13_statedOr_g0.2.1 rfl rfl ?_
  refine mg_statedMany hE hm dX13_statedOr_g0.2.2.1 ?_
  refine r_icmp_ge hE 17 dX13_statedOr_g0.2.2.2.1 (by decide) h (fun h => ?_) (fun h => ?_)
  · refine r_iconst (v := (-1 : Int32)) hE dX13_statedOr_g0.2.2.2.2.2.2.2.2.2.1 (by decide) ?_
    exact m_iret hE hm hF dX13_statedOr_g0.2.2.2.2.2.2.2.2.2.2 h
  · refine r_aload_n hE 0 dX13_statedOr_g0.2.2.2.2.1 rfl rfl ?_
    refine mg_stated hE hm dX13_statedOr_g0.2.2.2.2.2.1 ?_
    refine r_iload_n hE 1 dX13_statedOr_g0.2.2.2.2.2.2.1 rfl rfl ?_
    obtain ⟨hi, h⟩ := h
    refine ml_stated hE hm dX13_statedOr_g0.2.2.2.2.2.2.2.1 hi ?_
    refine r_goto hE 18 dX13_statedOr_g0.2.2.2.2.2.2.2.2.1 (by decide) ?_
    exact m_iret hE hm hF dX13_statedOr_g0.2.2.2.2.2.2.2.2.2.2 h
/-! lay -/
def wm_lay_95 (post : MS → Prop) (lp2 : MS → Int32 → Int32 → Prop) (σ : MS) (v1 : Int32) (v2 : Int32) : Prop := ∀ x1 : Int32, x1 = v2 + (1 : Int32) → lp2 σ v1 x1
set_option maxRecDepth 20000 in
theorem km_lay_95 {E : gEnv} {l : Launch} {D : va_G} {cl : List vw_C} {G : gAd} {post : MS → Prop} (hE : gOK E cX13_lay RX13 none 1) (hm : mOK E l D cl G (qV post) 3) (hF : gFin E) {lp2 : MS → Int32 → Int32 → Prop} (hl2 : ∀ (σ : MS) (v1 : Int32) (v2 : Int32), lp2 σ v1 v2 → GW E (mW G σ) 2 [(0, .ref (G.1 0)), (1, .int v1), (2, .int v2)] []) (σ : MS) (v1 : Int32) (v2 : Int32) (h : wm_lay_95 post lp2 σ v1 v2) : GW E (mW G σ) 95 [(0, .ref (G.1 0)), (1, .int v1), (2, .int v2)] [] := by
  unfold wm_lay_95 at h
  have hN := hm.2.2.2.2.2.2.1
  obtain ⟨x1, ex1⟩ : ∃ z : Int32, z = v2 + (1 : Int32) := ⟨_, rfl⟩
  have h := h x1 ex1
  refine r_iinc (v := x1) hE [(2, .int x1), (0, .ref (G.1 0)), (1, .int v1)] 2 dX13_lay_g4.1 rfl (by rw [ex1]; rfl) hN (by decide) rfl ?_
  refine r_goto hE 2 dX13_lay_g4.2.1 (by decide) ?_
  refine r_pick [1, 2, 0] rfl ?_
  exact hl2 _ _ _ h
def wm_lay_2 (post : MS → Prop) : Nat → MS → Int32 → Int32 → Prop
  | 0, _, _, _ => False
  | n + 1, σ, v1, v2 => (((24 : Int32) ≤ v2) → (post σ)) ∧ ((¬ ((24 : Int32) ≤ v2)) → (((v1 = (0 : Int32)) → (vp_in v2 24 ∧ (vp_in v2 24 ∧ (∀ s2 : MS, s2 = m_movedTop_s σ v2.toNatClampNeg (m_wasTop σ v2.toNatClampNeg) → vp_in v2 24 ∧ (vp_in v2 24 ∧ (∀ s3 : MS, s3 = m_movedBottom_s s2 v2.toNatClampNeg (m_wasBottom s2 v2.toNatClampNeg) → vp_in (v2 / (2 : Int32)) 12 ∧ (vp_in (v2 / (2 : Int32)) 12 ∧ (isB (m_wasMoved s3 (v2 / (2 : Int32)).toNatClampNeg) ∧ (∀ s4 : MS, s4 = m_isMoved_s s3 (v2 / (2 : Int32)).toNatClampNeg (m_wasMoved s3 (v2 / (2 : Int32)).toNatClampNeg) → wm_lay_95 post (fun (ys : MS) (y0 : Int32) (y1 : Int32) => wm_lay_2 post n ys y0 y1) s4 v1 v2))))))))) ∧ ((¬ (v1 = (0 : Int32))) → (vp_in v2 24 ∧ (vp_in v2 24 ∧ (∀ s5 : MS, s5 = m_wasTop_s σ v2.toNatClampNeg (m_movedTop σ v2.toNatClampNeg) → vp_in v2 24 ∧ (vp_in v2 24 ∧ (∀ s6 : MS, s6 = m_wasBottom_s s5 v2.toNatClampNeg (m_movedBottom s5 v2.toNatClampNeg) → vp_in (v2 / (2 : Int32)) 12 ∧ (vp_in (v2 / (2 : Int32)) 12 ∧ (isB (m_isMoved s6 (v2 / (2 : Int32)).toNatClampNeg) ∧ (∀ s7 : MS, s7 = m_wasMoved_s s6 (v2 / (2 : Int32)).toNatClampNeg (m_isMoved s6 (v2 / (2 : Int32)).toNatClampNeg) → wm_lay_95 post (fun (ys : MS) (y0 : Int32) (y1 : Int32) => wm_lay_2 post n ys y0 y1) s7 v1 v2)))))))))))
set_option maxRecDepth 20000 in
theorem km_lay_2 {E : gEnv} {l : Launch} {D : va_G} {cl : List vw_C} {G : gAd} {post : MS → Prop} (hE : gOK E cX13_lay RX13 none 1) (hm : mOK E l D cl G (qV post) 3) (hF : gFin E) : ∀ (n : Nat) (σ : MS) (v1 : Int32) (v2 : Int32), wm_lay_2 post n σ v1 v2 → GW E (mW G σ) 2 [(0, .ref (G.1 0)), (1, .int v1), (2, .int v2)] [] := by
  intro n
  induction n with
  | zero => intro σ v1 v2 h; exact h.elim
  | succ n ih =>
    intro σ v1 v2 h
    rw [wm_lay_2] at h
    have hN := hm.2.2.2.2.2.2.1
    refine r_iload_n hE 2 dX13_lay_g0.2.2.1 rfl rfl ?_
    refine r_bipush (v := (24 : Int32)) hE dX13_lay_g0.2.2.2.1 (by decide) ?_
    refine r_icmp_ge hE 101 dX13_lay_g0.2.2.2.2.1 (by decide) h (fun h => ?_) (fun h => ?_)
    · exact m_vret hE hm hF dX13_lay_g4.2.2 h
    · refine r_iload_n hE 1 dX13_lay_g0.2.2.2.2.2.1 rfl rfl ?_
      refine r_if_eq hE 55 dX13_lay_g0.2.2.2.2.2.2.1 (by decide) h (fun h => ?_) (fun h => ?_)
      · refine r_aload_n hE 0 dX13_lay_g2.2.2.2.2.1 rfl rfl ?_
        refine mg_movedTop hE hm dX13_lay_g2.2.2.2.2.2.1 ?_
        refine r_iload_n hE 2 dX13_lay_g2.2.2.2.2.2.2.1 rfl rfl ?_
        refine r_aload_n hE 0 dX13_lay_g2.2.2.2.2.2.2.2.1 rfl rfl ?_
        refine mg_wasTop hE hm dX13_lay_g2.2.2.2.2.2.2.2.2.1 ?_
        refine r_iload_n hE 2 dX13_lay_g2.2.2.2.2.2.2.2.2.2.1 rfl rfl ?_
        obtain ⟨hi, h⟩ := h
        refine ml_wasTop hE hm dX13_lay_g2.2.2.2.2.2.2.2.2.2.2.1 hi ?_
        obtain ⟨hi, h⟩ := h
        refine ms_movedTop hE hm dX13_lay_g2.2.2.2.2.2.2.2.2.2.2.2.1 hi h (fun s2 h => ?_)
        refine r_aload_n hE 0 dX13_lay_g2.2.2.2.2.2.2.2.2.2.2.2.2.1 rfl rfl ?_
        refine mg_movedBottom hE hm dX13_lay_g2.2.2.2.2.2.2.2.2.2.2.2.2.2.1 ?_
        refine r_iload_n hE 2 dX13_lay_g2.2.2.2.2.2.2.2.2.2.2.2.2.2.2.1 rfl rfl ?_
        refine r_aload_n hE 0 dX13_lay_g2.2.2.2.2.2.2.2.2.2.2.2.2.2.2.2 rfl rfl ?_
        refine mg_wasBottom hE hm dX13_lay_g3.1 ?_
        refine r_iload_n hE 2 dX13_lay_g3.2.1 rfl rfl ?_
        obtain ⟨hi, h⟩ := h
        refine ml_wasBottom hE hm dX13_lay_g3.2.2.1 hi ?_
        obtain ⟨hi, h⟩ := h
        refine ms_movedBottom hE hm dX13_lay_g3.2.2.2.1 hi h (fun s3 h => ?_)
        refine r_aload_n hE 0 dX13_lay_g3.2.2.2.2.1 rfl rfl ?_
        refine mg_isMoved hE hm dX13_lay_g3.2.2.2.2.2.1 ?_
        refine r_iload_n hE 2 dX13_lay_g3.2.2.2.2.2.2.1 rfl rfl ?_
        refine r_iconst (v := (2 : Int32)) hE dX13_lay_g3.2.2.2.2.2.2.2.1 (by decide) ?_
        refine r_idiv hE dX13_lay_g3.2.2.2.2.2.2.2.2.1 (by decide) ?_
        refine r_aload_n hE 0 dX13_lay_g3.2.2.2.2.2.2.2.2.2.1 rfl rfl ?_
        refine mg_wasMoved hE hm dX13_lay_g3.2.2.2.2.2.2.2.2.2.2.1 ?_
        refine r_iload_n hE 2 dX13_lay_g3.2.2.2.2.2.2.2.2.2.2.2.1 rfl rfl ?_
        refine r_iconst (v := (2 : Int32)) hE dX13_lay_g3.2.2.2.2.2.2.2.2.2.2.2.2.1 (by decide) ?_
        refine r_idiv hE dX13_lay_g3.2.2.2.2.2.2.2.2.2.2.2.2.2.1 (by decide) ?_
        obtain ⟨hi, h⟩ := h
        refine ml_wasMoved hE hm dX13_lay_g3.2.2.2.2.2.2.2.2.2.2.2.2.2.2.1 hi ?_
        obtain ⟨hi, h⟩ := h
        obtain ⟨hb, h⟩ := h
        refine ms_isMoved hE hm dX13_lay_g3.2.2.2.2.2.2.2.2.2.2.2.2.2.2.2 hi hb h (fun s4 h => ?_)
        exact km_lay_95 hE hm hF ih _ _ _ h
      · refine r_aload_n hE 0 dX13_lay_g0.2.2.2.2.2.2.2.1 rfl rfl ?_
        refine mg_wasTop hE hm dX13_lay_g0.2.2.2.2.2.2.2.2.1 ?_
        refine r_iload_n hE 2 dX13_lay_g0.2.2.2.2.2.2.2.2.2.1 rfl rfl ?_
        refine r_aload_n hE 0 dX13_lay_g0.2.2.2.2.2.2.2.2.2.2.1 rfl rfl ?_
        refine mg_movedTop hE hm dX13_lay_g0.2.2.2.2.2.2.2.2.2.2.2.1 ?_
        refine r_iload_n hE 2 dX13_lay_g0.2.2.2.2.2.2.2.2.2.2.2.2.1 rfl rfl ?_
        obtain ⟨hi, h⟩ := h
        refine ml_movedTop hE hm dX13_lay_g0.2.2.2.2.2.2.2.2.2.2.2.2.2.1 hi ?_
        obtain ⟨hi, h⟩ := h
        refine ms_wasTop hE hm dX13_lay_g0.2.2.2.2.2.2.2.2.2.2.2.2.2.2.1 hi h (fun s5 h => ?_)
        refine r_aload_n hE 0 dX13_lay_g0.2.2.2.2.2.2.2.2.2.2.2.2.2.2.2 rfl rfl ?_
        refine mg_wasBottom hE hm dX13_lay_g1.1 ?_
        refine r_iload_n hE 2 dX13_lay_g1.2.1 rfl rfl ?_
        refine r_aload_n hE 0 dX13_lay_g1.2.2.1 rfl rfl ?_
        refine mg_movedBottom hE hm dX13_lay_g1.2.2.2.1 ?_
        refine r_iload_n hE 2 dX13_lay_g1.2.2.2.2.1 rfl rfl ?_
        obtain ⟨hi, h⟩ := h
        refine ml_movedBottom hE hm dX13_lay_g1.2.2.2.2.2.1 hi ?_
        obtain ⟨hi, h⟩ := h
        refine ms_wasBottom hE hm dX13_lay_g1.2.2.2.2.2.2.1 hi h (fun s6 h => ?_)
        refine r_aload_n hE 0 dX13_lay_g1.2.2.2.2.2.2.2.1 rfl rfl ?_
        refine mg_wasMoved hE hm dX13_lay_g1.2.2.2.2.2.2.2.2.1 ?_
        refine r_iload_n hE 2 dX13_lay_g1.2.2.2.2.2.2.2.2.2.1 rfl rfl ?_
        refine r_iconst (v := (2 : Int32)) hE dX13_lay_g1.2.2.2.2.2.2.2.2.2.2.1 (by decide) ?_
        refine r_idiv hE dX13_lay_g1.2.2.2.2.2.2.2.2.2.2.2.1 (by decide) ?_
        refine r_aload_n hE 0 dX13_lay_g1.2.2.2.2.2.2.2.2.2.2.2.2.1 rfl rfl ?_
        refine mg_isMoved hE hm dX13_lay_g1.2.2.2.2.2.2.2.2.2.2.2.2.2.1 ?_
        refine r_iload_n hE 2 dX13_lay_g1.2.2.2.2.2.2.2.2.2.2.2.2.2.2.1 rfl rfl ?_
        refine r_iconst (v := (2 : Int32)) hE dX13_lay_g1.2.2.2.2.2.2.2.2.2.2.2.2.2.2.2 (by decide) ?_
        refine r_idiv hE dX13_lay_g2.1 (by decide) ?_
        obtain ⟨hi, h⟩ := h
        refine ml_isMoved hE hm dX13_lay_g2.2.1 hi ?_
        obtain ⟨hi, h⟩ := h
        obtain ⟨hb, h⟩ := h
        refine ms_wasMoved hE hm dX13_lay_g2.2.2.1 hi hb h (fun s7 h => ?_)
        refine r_goto hE 95 dX13_lay_g2.2.2.2.1 (by decide) ?_
        exact km_lay_95 hE hm hF ih _ _ _ h
def wm_lay (post : MS → Prop) (σ : MS) (a1 : Int32) : Prop := ∃ k : Nat, wm_lay_2 post k σ a1 (0 : Int32)
set_option maxRecDepth 20000 in
theorem km_lay {l : Launch} {D : va_G} {cl : List vw_C} {G : gAd} {post : MS → Prop} (hcl : mC cl) {σ : MS} {a1 : Int32} (h : wm_lay post σ a1) : mMet l D cl G yX13_lay cX13_lay 3 none 1 [.ref (G.1 0), .int a1] σ (qV post) := by
  unfold wm_lay at h
  refine m_enter hcl (by decide +kernel) rfl [(0, .ref (G.1 0)), (1, .int a1)] rfl (Nat.le_of_ble_eq_true rfl) ?_
  intro E hE hm hF
  have hN := hm.2.2.2.2.2.2.1
  refine r_iconst (v := (0 : Int32)) hE dX13_lay_g0.1 (by decide) ?_
  refine r_istore_n hE [(2, .int (0 : Int32)), (0, .ref (G.1 0)), (1, .int a1)] dX13_lay_g0.2.1 rfl hN (by decide) rfl ?_
  refine r_pick [1, 2, 0] rfl ?_
  obtain ⟨k, h⟩ := h
  exact km_lay_2 hE hm hF k _ _ _ h
/-! findWay -/
def wm_findWay_136 (post : MS → Int32 → Prop) (σ : MS) (t0 : Int32) : Prop := ∀ s1 : MS, s1 = m_failure_s σ (0 : Int32) → ∀ s2 : MS, s2 = m_piled_s s1 (0 : Int32) → isB t0 ∧ (post s2 t0)
set_option maxRecDepth 20000 in
theorem km_findWay_136 {E : gEnv} {l : Launch} {D : va_G} {cl : List vw_C} {G : gAd} {post : MS → Int32 → Prop} (hE : gOK E cX13_findWay RX13 (some .boolean) 4) (hm : mOK E l D cl G (qI post) 8) (hF : gFin E) (σ : MS) (t0 : Int32) (h : wm_findWay_136 post σ t0) : GW E (mW G σ) 136 [(0, .ref (G.1 0))] [.int t0] := by
  unfold wm_findWay_136 at h
  have hN := hm.2.2.2.2.2.2.1
  refine r_istore hE [(6, .int t0), (0, .ref (G.1 0))] dX13_findWay_g4.2.2.2.2.2.2.2.2.2.2.2.2.1 hN (by decide) rfl ?_
  refine r_aload_n hE 1 dX13_findWay_g4.2.2.2.2.2.2.2.2.2.2.2.2.2.1 rfl rfl ?_
  refine r_iconst (v := (0 : Int32)) hE dX13_findWay_g4.2.2.2.2.2.2.2.2.2.2.2.2.2.2.1 (by decide) ?_
  refine mp_failure hE hm dX13_findWay_g4.2.2.2.2.2.2.2.2.2.2.2.2.2.2.2 h (fun s1 h => ?_)
  refine r_aload_n hE 1 dX13_findWay_g5.1 rfl rfl ?_
  refine r_iconst (v := (0 : Int32)) hE dX13_findWay_g5.2.1 (by decide) ?_
  refine mp_piled hE hm dX13_findWay_g5.2.2.1 h (fun s2 h => ?_)
  refine r_iload hE 0 dX13_findWay_g5.2.2.2.1 rfl ?_
  obtain ⟨hb, h⟩ := h
  exact m_zret hE hm hF dX13_findWay_g5.2.2.2.2 hb h
def wm_findWay_65 (post : MS → Int32 → Prop) (lp16 : MS → Int32 → Int32 → Int32 → Int32 → Int32 → Prop) (lp26 : MS → Int32 → Int32 → Int32 → Int32 → Int32 → Int32 → Prop) (σ : MS) (v2 : Int32) (v3 : Int32) (v4 : Int32) (v5 : Int32) (v6 : Int32) (v7 : Int32) (t1 : Int64) : Prop := wm_whole (fun (s3 : MS) => wm_times (fun (s4 : MS) => wm_plus (fun (s5 : MS) => vp_in (0 : Int32) 40 ∧ (vp_in (((2 : Int32) * v6) + v7) 42 ∧ (∀ s6 : MS, s6 = m_wayTop_s s5 (((2 : Int32) * v6) + v7).toNatClampNeg (m_top s5 (0 : Int32).toNatClampNeg) → vp_in (0 : Int32) 40 ∧ (vp_in (((2 : Int32) * v6) + v7) 42 ∧ (∀ s7 : MS, s7 = m_wayBottom_s s6 (((2 : Int32) * v6) + v7).toNatClampNeg (m_bottom s6 (0 : Int32).toNatClampNeg) → ∀ x8 : Int32, x8 = v7 + (1 : Int32) → lp26 s7 v2 v3 v4 v5 v6 x8))))) s4) s3) σ t1
set_option maxRecDepth 20000 in
theorem km_findWay_65 {E : gEnv} {l : Launch} {D : va_G} {cl : List vw_C} {G : gAd} {post : MS → Int32 → Prop} (hE : gOK E cX13_findWay RX13 (some .boolean) 4) (hm : mOK E l D cl G (qI post) 8) (hF : gFin E) {lp16 : MS → Int32 → Int32 → Int32 → Int32 → Int32 → Prop} {lp26 : MS → Int32 → Int32 → Int32 → Int32 → Int32 → Int32 → Prop} (hl16 : ∀ (σ : MS) (v2 : Int32) (v3 : Int32) (v4 : Int32) (v5 : Int32) (v6 : Int32), lp16 σ v2 v3 v4 v5 v6 → GW E (mW G σ) 16 [(0, .ref (G.1 0)), (2, .int v2), (3, .int v3), (4, .int v4), (5, .int v5), (6, .int v6)] []) (hl26 : ∀ (σ : MS) (v2 : Int32) (v3 : Int32) (v4 : Int32) (v5 : Int32) (v6 : Int32) (v7 : Int32), lp26 σ v2 v3 v4 v5 v6 v7 → GW E (mW G σ) 26 [(0, .ref (G.1 0)), (2, .int v2), (3, .int v3), (4, .int v4), (5, .int v5), (6, .int v6), (7, .int v7)] []) (σ : MS) (v2 : Int32) (v3 : Int32) (v4 : Int32) (v5 : Int32) (v6 : Int32) (v7 : Int32) (t1 : Int64) (h : wm_findWay_65 post lp16 lp26 σ v2 v3 v4 v5 v6 v7 t1) : GW E (mW G σ) 65 [(0, .ref (G.1 0)), (2, .int v2), (3, .int v3), (4, .int v4), (5, .int v5), (6, .int v6), (7, .int v7)] [.long t1, .ref (G.1 0)] := by
  unfold wm_findWay_65 at h
  have hN := hm.2.2.2.2.2.2.1
  refine m_callVv hE hm [.long t1] [] mc_whole (km_whole hm.2.2.2.2.2.2.2.2 h) (by decide) rfl rfl (Nat.le_of_ble_eq_true rfl) dX13_findWay_g2.2.2.2.2.2.1 (fun s3 h => ?_)
  refine r_aload_n hE 0 dX13_findWay_g2.2.2.2.2.2.2.1 rfl rfl ?_
  refine m_callVv hE hm [] [] mc_times (km_times hm.2.2.2.2.2.2.2.2 h) (by decide) rfl rfl (Nat.le_of_ble_eq_true rfl) dX13_findWay_g2.2.2.2.2.2.2.2.1 (fun s4 h => ?_)
  refine r_aload_n hE 0 dX13_findWay_g2.2.2.2.2.2.2.2.2.1 rfl rfl ?_
  refine m_callVv hE hm [] [] mc_plus (km_plus hm.2.2.2.2.2.2.2.2 h) (by decide) rfl rfl (Nat.le_of_ble_eq_true rfl) dX13_findWay_g2.2.2.2.2.2.2.2.2.2.1 (fun s5 h => ?_)
  refine r_aload_n hE 0 dX13_findWay_g2.2.2.2.2.2.2.2.2.2.2.1 rfl rfl ?_
  refine mg_wayTop hE hm dX13_findWay_g2.2.2.2.2.2.2.2.2.2.2.2.1 ?_
  refine r_iconst (v := (2 : Int32)) hE dX13_findWay_g2.2.2.2.2.2.2.2.2.2.2.2.2.1 (by decide) ?_
  refine r_iload hE 5 dX13_findWay_g2.2.2.2.2.2.2.2.2.2.2.2.2.2.1 rfl ?_
  refine r_imul hE dX13_findWay_g2.2.2.2.2.2.2.2.2.2.2.2.2.2.2.1 ?_
  refine r_iload hE 6 dX13_findWay_g2.2.2.2.2.2.2.2.2.2.2.2.2.2.2.2 rfl ?_
  refine r_iadd hE dX13_findWay_g3.1 ?_
  refine r_aload_n hE 0 dX13_findWay_g3.2.1 rfl rfl ?_
  refine mg_top hE hm dX13_findWay_g3.2.2.1 ?_
  refine r_iconst (v := (0 : Int32)) hE dX13_findWay_g3.2.2.2.1 (by decide) ?_
  obtain ⟨hi, h⟩ := h
  refine ml_top hE hm dX13_findWay_g3.2.2.2.2.1 hi ?_
  obtain ⟨hi, h⟩ := h
  refine ms_wayTop hE hm dX13_findWay_g3.2.2.2.2.2.1 hi h (fun s6 h => ?_)
  refine r_aload_n hE 0 dX13_findWay_g3.2.2.2.2.2.2.1 rfl rfl ?_
  refine mg_wayBottom hE hm dX13_findWay_g3.2.2.2.2.2.2.2.1 ?_
  refine r_iconst (v := (2 : Int32)) hE dX13_findWay_g3.2.2.2.2.2.2.2.2.1 (by decide) ?_
  refine r_iload hE 5 dX13_findWay_g3.2.2.2.2.2.2.2.2.2.1 rfl ?_
  refine r_imul hE dX13_findWay_g3.2.2.2.2.2.2.2.2.2.2.1 ?_
  refine r_iload hE 6 dX13_findWay_g3.2.2.2.2.2.2.2.2.2.2.2.1 rfl ?_
  refine r_iadd hE dX13_findWay_g3.2.2.2.2.2.2.2.2.2.2.2.2.1 ?_
  refine r_aload_n hE 0 dX13_findWay_g3.2.2.2.2.2.2.2.2.2.2.2.2.2.1 rfl rfl ?_
  refine mg_bottom hE hm dX13_findWay_g3.2.2.2.2.2.2.2.2.2.2.2.2.2.2.1 ?_
  refine r_iconst (v := (0 : Int32)) hE dX13_findWay_g3.2.2.2.2.2.2.2.2.2.2.2.2.2.2.2 (by decide) ?_
  obtain ⟨hi, h⟩ := h
  refine ml_bottom hE hm dX13_findWay_g4.1 hi ?_
  obtain ⟨hi, h⟩ := h
  refine ms_wayBottom hE hm dX13_findWay_g4.2.1 hi h (fun s7 h => ?_)
  obtain ⟨x8, ex8⟩ : ∃ z : Int32, z = v7 + (1 : Int32) := ⟨_, rfl⟩
  have h := h x8 ex8
  refine r_iinc (v := x8) hE [(7, .int x8), (0, .ref (G.1 0)), (2, .int v2), (3, .int v3), (4, .int v4), (5, .int v5), (6, .int v6)] 6 dX13_findWay_g4.2.2.1 rfl (by rw [ex8]; rfl) hN (by decide) rfl ?_
  refine r_goto hE 26 dX13_findWay_g4.2.2.2.1 (by decide) ?_
  refine r_pick [1, 2, 3, 4, 5, 6, 0] rfl ?_
  exact hl26 _ _ _ _ _ _ _ h
def wm_findWay_26 (post : MS → Int32 → Prop) (lp16 : MS → Int32 → Int32 → Int32 → Int32 → Int32 → Prop) : Nat → MS → Int32 → Int32 → Int32 → Int32 → Int32 → Int32 → Prop
  | 0, _, _, _, _, _, _, _ => False
  | n + 1, σ, v2, v3, v4, v5, v6, v7 => (((2 : Int32) ≤ v7) → (∀ x9 : Int32, x9 = v6 + (1 : Int32) → lp16 σ v2 v3 v4 v5 x9)) ∧ ((¬ ((2 : Int32) ≤ v7)) → (∀ s10 : MS, s10 = m_piled_s σ (0 : Int32) → wm_part (fun (s11 : MS) => wm_whole (fun (s12 : MS) => ((¬ (v7 = (0 : Int32))) → (wm_findWay_65 post lp16 (fun (ys : MS) (y0 : Int32) (y1 : Int32) (y2 : Int32) (y3 : Int32) (y4 : Int32) (y5 : Int32) => wm_findWay_26 post lp16 n ys y0 y1 y2 y3 y4 y5) s12 v2 v3 v4 v5 v6 v7 (v3.toInt64))) ∧ ((v7 = (0 : Int32)) → (wm_findWay_65 post lp16 (fun (ys : MS) (y0 : Int32) (y1 : Int32) (y2 : Int32) (y3 : Int32) (y4 : Int32) (y5 : Int32) => wm_findWay_26 post lp16 n ys y0 y1 y2 y3 y4 y5) s12 v2 v3 v4 v5 v6 v7 (v2.toInt64)))) s11 (v6.toInt64)) s10 v5 v7))
set_option maxRecDepth 20000 in
theorem km_findWay_26 {E : gEnv} {l : Launch} {D : va_G} {cl : List vw_C} {G : gAd} {post : MS → Int32 → Prop} (hE : gOK E cX13_findWay RX13 (some .boolean) 4) (hm : mOK E l D cl G (qI post) 8) (hF : gFin E) {lp16 : MS → Int32 → Int32 → Int32 → Int32 → Int32 → Prop} (hl16 : ∀ (σ : MS) (v2 : Int32) (v3 : Int32) (v4 : Int32) (v5 : Int32) (v6 : Int32), lp16 σ v2 v3 v4 v5 v6 → GW E (mW G σ) 16 [(0, .ref (G.1 0)), (2, .int v2), (3, .int v3), (4, .int v4), (5, .int v5), (6, .int v6)] []) : ∀ (n : Nat) (σ : MS) (v2 : Int32) (v3 : Int32) (v4 : Int32) (v5 : Int32) (v6 : Int32) (v7 : Int32), wm_findWay_26 post lp16 n σ v2 v3 v4 v5 v6 v7 → GW E (mW G σ) 26 [(0, .ref (G.1 0)), (2, .int v2), (3, .int v3), (4, .int v4), (5, .int v5), (6, .int v6), (7, .int v7)] [] := by
  intro n
  induction n with
  | zero => intro σ v2 v3 v4 v5 v6 v7 h; exact h.elim
  | succ n ih =>
    intro σ v2 v3 v4 v5 v6 v7 h
    rw [wm_findWay_26] at h
    have hN := hm.2.2.2.2.2.2.1
    refine r_iload hE 6 dX13_findWay_g0.2.2.2.2.2.2.2.2.2.2.2.2.2.2.2 rfl ?_
    refine r_iconst (v := (2 : Int32)) hE dX13_findWay_g1.1 (by decide) ?_
    refine r_icmp_ge hE 118 dX13_findWay_g1.2.1 (by decide) h (fun h => ?_) (fun h => ?_)
    · obtain ⟨x9, ex9⟩ : ∃ z : Int32, z = v6 + (1 : Int32) := ⟨_, rfl⟩
      have h := h x9 ex9
      refine r_iinc (v := x9) hE [(6, .int x9), (0, .ref (G.1 0)), (2, .int v2), (3, .int v3), (4, .int v4), (5, .int v5), (7, .int v7)] 5 dX13_findWay_g4.2.2.2.2.1 rfl (by rw [ex9]; rfl) hN (by decide) rfl ?_
      refine r_goto hE 16 dX13_findWay_g4.2.2.2.2.2.1 (by decide) ?_
      refine r_pick [1, 2, 3, 4, 5, 0] rfl ?_
      exact hl16 _ _ _ _ _ _ h
    · refine r_aload_n hE 0 dX13_findWay_g1.2.2.1 rfl rfl ?_
      refine r_iconst (v := (0 : Int32)) hE dX13_findWay_g1.2.2.2.1 (by decide) ?_
      refine mp_piled hE hm dX13_findWay_g1.2.2.2.2.1 h (fun s10 h => ?_)
      refine r_aload_n hE 0 dX13_findWay_g1.2.2.2.2.2.1 rfl rfl ?_
      refine r_iload hE 4 dX13_findWay_g1.2.2.2.2.2.2.1 rfl ?_
      refine r_iload hE 6 dX13_findWay_g1.2.2.2.2.2.2.2.1 rfl ?_
      refine m_callVv hE hm [.int v5, .int v7] [] mc_part (km_part hm.2.2.2.2.2.2.2.2 h) (by decide) rfl rfl (Nat.le_of_ble_eq_true rfl) dX13_findWay_g1.2.2.2.2.2.2.2.2.1 (fun s11 h => ?_)
      refine r_aload_n hE 0 dX13_findWay_g1.2.2.2.2.2.2.2.2.2.1 rfl rfl ?_
      refine r_iload hE 5 dX13_findWay_g1.2.2.2.2.2.2.2.2.2.2.1 rfl ?_
      refine r_i2l hE dX13_findWay_g1.2.2.2.2.2.2.2.2.2.2.2.1 ?_
      refine m_callVv hE hm [.long (v6.toInt64)] [] mc_whole (km_whole hm.2.2.2.2.2.2.2.2 h) (by decide) rfl rfl (Nat.le_of_ble_eq_true rfl) dX13_findWay_g1.2.2.2.2.2.2.2.2.2.2.2.2.1 (fun s12 h => ?_)
      refine r_aload_n hE 0 dX13_findWay_g1.2.2.2.2.2.2.2.2.2.2.2.2.2.1 rfl rfl ?_
      refine r_iload hE 6 dX13_findWay_g1.2.2.2.2.2.2.2.2.2.2.2.2.2.2.1 rfl ?_
      refine r_if_ne hE 63 dX13_findWay_g1.2.2.2.2.2.2.2.2.2.2.2.2.2.2.2 (by decide) h (fun h => ?_) (fun h => ?_)
      · refine r_iload_n hE 2 dX13_findWay_g2.2.2.2.1 rfl rfl ?_
        refine r_i2l hE dX13_findWay_g2.2.2.2.2.1 ?_
        exact km_findWay_65 hE hm hF hl16 ih _ _ _ _ _ _ _ _ h
      · refine r_iload_n hE 1 dX13_findWay_g2.1 rfl rfl ?_
        refine r_i2l hE dX13_findWay_g2.2.1 ?_
        refine r_goto hE 65 dX13_findWay_g2.2.2.1 (by decide) ?_
        exact km_findWay_65 hE hm hF hl16 ih _ _ _ _ _ _ _ _ h
def wm_findWay_16 (post : MS → Int32 → Prop) : Nat → MS → Int32 → Int32 → Int32 → Int32 → Int32 → Prop
  | 0, _, _, _, _, _, _ => False
  | n + 1, σ, v2, v3, v4, v5, v6 => ((v4 < v6) → (((¬ ((m_failure σ) = (0 : Int32))) → (wm_findWay_136 post σ (0 : Int32))) ∧ (((m_failure σ) = (0 : Int32)) → (wm_findWay_136 post σ (1 : Int32))))) ∧ ((¬ (v4 < v6)) → (∃ k : Nat, wm_findWay_26 post (fun (ys : MS) (y0 : Int32) (y1 : Int32) (y2 : Int32) (y3 : Int32) (y4 : Int32) => wm_findWay_16 post n ys y0 y1 y2 y3 y4) k σ v2 v3 v4 v5 v6 (0 : Int32)))
set_option maxRecDepth 20000 in
theorem km_findWay_16 {E : gEnv} {l : Launch} {D : va_G} {cl : List vw_C} {G : gAd} {post : MS → Int32 → Prop} (hE : gOK E cX13_findWay RX13 (some .boolean) 4) (hm : mOK E l D cl G (qI post) 8) (hF : gFin E) : ∀ (n : Nat) (σ : MS) (v2 : Int32) (v3 : Int32) (v4 : Int32) (v5 : Int32) (v6 : Int32), wm_findWay_16 post n σ v2 v3 v4 v5 v6 → GW E (mW G σ) 16 [(0, .ref (G.1 0)), (2, .int v2), (3, .int v3), (4, .int v4), (5, .int v5), (6, .int v6)] [] := by
  intro n
  induction n with
  | zero => intro σ v2 v3 v4 v5 v6 h; exact h.elim
  | succ n ih =>
    intro σ v2 v3 v4 v5 v6 h
    rw [wm_findWay_16] at h
    have hN := hm.2.2.2.2.2.2.1
    refine r_iload hE 5 dX13_findWay_g0.2.2.2.2.2.2.2.2.2.2.1 rfl ?_
    refine r_iload hE 3 dX13_findWay_g0.2.2.2.2.2.2.2.2.2.2.2.1 rfl ?_
    refine r_icmp_gt hE 124 dX13_findWay_g0.2.2.2.2.2.2.2.2.2.2.2.2.1 (by decide) h (fun h => ?_) (fun h => ?_)
    · refine r_aload_n hE 0 dX13_findWay_g4.2.2.2.2.2.2.1 rfl rfl ?_
      refine mg_failure hE hm dX13_findWay_g4.2.2.2.2.2.2.2.1 ?_
      refine r_if_ne hE 135 dX13_findWay_g4.2.2.2.2.2.2.2.2.1 (by decide) h (fun h => ?_) (fun h => ?_)
      · refine r_iconst (v := (0 : Int32)) hE dX13_findWay_g4.2.2.2.2.2.2.2.2.2.2.2.1 (by decide) ?_
        refine r_pick [0] rfl ?_
        exact km_findWay_136 hE hm hF _ _ h
      · refine r_iconst (v := (1 : Int32)) hE dX13_findWay_g4.2.2.2.2.2.2.2.2.2.1 (by decide) ?_
        refine r_goto hE 136 dX13_findWay_g4.2.2.2.2.2.2.2.2.2.2.1 (by decide) ?_
        refine r_pick [0] rfl ?_
        exact km_findWay_136 hE hm hF _ _ h
    · refine r_iconst (v := (0 : Int32)) hE dX13_findWay_g0.2.2.2.2.2.2.2.2.2.2.2.2.2.1 (by decide) ?_
      refine r_istore hE [(7, .int (0 : Int32)), (0, .ref (G.1 0)), (2, .int v2), (3, .int v3), (4, .int v4), (5, .int v5), (6, .int v6)] dX13_findWay_g0.2.2.2.2.2.2.2.2.2.2.2.2.2.2.1 hN (by decide) rfl ?_
      refine r_pick [1, 2, 3, 4, 5, 6, 0] rfl ?_
      obtain ⟨k, h⟩ := h
      exact km_findWay_26 hE hm hF ih k _ _ _ _ _ _ _ h
def wm_findWay (post : MS → Int32 → Prop) (σ : MS) (a1 : Int32) (a2 : Int32) (a3 : Int32) (a4 : Int32) : Prop := vp_in a1 12 ∧ (∀ x13 : Int32, x13 = m_freeThing σ a1.toNatClampNeg → ∀ s14 : MS, s14 = m_failure_s σ (0 : Int32) → ∃ k : Nat, wm_findWay_16 post k s14 a2 a3 a4 x13 (0 : Int32))
set_option maxRecDepth 20000 in
theorem km_findWay {l : Launch} {D : va_G} {cl : List vw_C} {G : gAd} {post : MS → Int32 → Prop} (hcl : mC cl) {σ : MS} {a1 : Int32} {a2 : Int32} {a3 : Int32} {a4 : Int32} (h : wm_findWay post σ a1 a2 a3 a4) : mMet l D cl G yX13_findWay cX13_findWay 8 (some .boolean) 4 [.ref (G.1 0), .int a1, .int a2, .int a3, .int a4] σ (qI post) := by
  unfold wm_findWay at h
  refine m_enter hcl (by decide +kernel) rfl [(0, .ref (G.1 0)), (1, .int a1), (2, .int a2), (3, .int a3), (4, .int a4)] rfl (Nat.le_of_ble_eq_true rfl) ?_
  intro E hE hm hF
  have hN := hm.2.2.2.2.2.2.1
  refine r_aload_n hE 0 dX13_findWay_g0.1 rfl rfl ?_
  refine mg_freeThing hE hm dX13_findWay_g0.2.1 ?_
  refine r_iload_n hE 1 dX13_findWay_g0.2.2.1 rfl rfl ?_
  obtain ⟨hi, h⟩ := h
  refine ml_freeThing hE hm dX13_findWay_g0.2.2.2.1 hi ?_
  refine r_topi h (fun x13 ex13 h => ?_)
  refine r_istore hE [(5, .int x13), (0, .ref (G.1 0)), (1, .int a1), (2, .int a2), (3, .int a3), (4, .int a4)] dX13_findWay_g0.2.2.2.2.1 hN (by decide) rfl ?_
  refine r_aload_n hE 1 dX13_findWay_g0.2.2.2.2.2.1 rfl rfl ?_
  refine r_iconst (v := (0 : Int32)) hE dX13_findWay_g0.2.2.2.2.2.2.1 (by decide) ?_
  refine mp_failure hE hm dX13_findWay_g0.2.2.2.2.2.2.2.1 h (fun s14 h => ?_)
  refine r_iconst (v := (0 : Int32)) hE dX13_findWay_g0.2.2.2.2.2.2.2.2.1 (by decide) ?_
  refine r_istore hE [(6, .int (0 : Int32)), (5, .int x13), (0, .ref (G.1 0)), (1, .int a1), (2, .int a2), (3, .int a3), (4, .int a4)] dX13_findWay_g0.2.2.2.2.2.2.2.2.2.1 hN (by decide) rfl ?_
  refine r_pick [2, 4, 5, 6, 1, 0] rfl ?_
  obtain ⟨k, h⟩ := h
  exact km_findWay_16 hE hm hF k _ _ _ _ _ _ h
