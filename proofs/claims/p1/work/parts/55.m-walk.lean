/-! toolTwo -/
def wm_toolTwo_180 (post : MS → Int32 → Prop) (σ : MS) (v2 : Int32) (v3 : Int32) : Prop := wm_part (fun (s1 : MS) => wm_circle (fun (s2 : MS) (r3 : Int32) => post s2 r3) s1 v2) σ v3 (0 : Int32)
set_option maxRecDepth 20000 in
theorem km_toolTwo_180 {E : gEnv} {l : Launch} {D : va_G} {cl : List vw_C} {G : gAd} {post : MS → Int32 → Prop} (hE : gOK E cX13_toolTwo RX13 (some .int) 8) (hm : mOK E l D cl G (qI post) 4) (hF : gFin E) (σ : MS) (v2 : Int32) (v3 : Int32) (h : wm_toolTwo_180 post σ v2 v3) : GW E (mW G σ) 180 [(0, .ref (G.1 0)), (2, .int v2), (3, .int v3)] [] := by
  unfold wm_toolTwo_180 at h
  have hN := hm.2.2.2.2.2.2.1
  refine r_aload_n hE 0 dX13_toolTwo_g5.1 rfl rfl ?_
  refine r_iload_n hE 2 dX13_toolTwo_g5.2.1 rfl rfl ?_
  refine r_iconst (v := (0 : Int32)) hE dX13_toolTwo_g5.2.2.1 (by decide) ?_
  refine m_callVv hE hm [.int v3, .int (0 : Int32)] [] mc_part (km_part hm.2.2.2.2.2.2.2.2 h) (by decide) rfl rfl (Nat.le_of_ble_eq_true rfl) dX13_toolTwo_g5.2.2.2.1 (fun s1 h => ?_)
  refine r_aload_n hE 0 dX13_toolTwo_g5.2.2.2.2.1 rfl rfl ?_
  refine r_iload_n hE 1 dX13_toolTwo_g5.2.2.2.2.2.1 rfl rfl ?_
  refine m_callVi hE hm [.int v2] [] mc_circle (km_circle hm.2.2.2.2.2.2.2.2 h) (by decide) rfl rfl (Nat.le_of_ble_eq_true rfl) dX13_toolTwo_g5.2.2.2.2.2.2.1 (fun s2 r3 h => ?_)
  exact m_iret hE hm hF dX13_toolTwo_g5.2.2.2.2.2.2.2.1 h
def wm_toolTwo (post : MS → Int32 → Prop) (σ : MS) (a1 : Int32) (a2 : Int32) (a3 : Int32) : Prop := (a1 = (0 : Int32) → (wm_newPoint (fun (s4 : MS) (r5 : Int32) => post s4 r5) σ (1 : Int32) a2 a3)) ∧ (¬ a1 = (0 : Int32) → ((a1 = (1 : Int32) → (wm_newFree (fun (s6 : MS) (r7 : Int32) => post s6 r7) σ a2 a3)) ∧ (¬ a1 = (1 : Int32) → ((a1 = (2 : Int32) → (wm_line (fun (s8 : MS) (r9 : Int32) => post s8 r9) σ a2 a3 (3 : Int32))) ∧ (¬ a1 = (2 : Int32) → ((a1 = (3 : Int32) → (wm_line (fun (s10 : MS) (r11 : Int32) => post s10 r11) σ a2 a3 (4 : Int32))) ∧ (¬ a1 = (3 : Int32) → ((a1 = (4 : Int32) → (wm_mid (fun (s12 : MS) (r13 : Int32) => post s12 r13) σ a2 a3)) ∧ (¬ a1 = (4 : Int32) → ((a1 = (5 : Int32) → (wm_foot (fun (s14 : MS) (r15 : Int32) => post s14 r15) σ a2 a3)) ∧ (¬ a1 = (5 : Int32) → ((a1 = (6 : Int32) → (wm_mirror (fun (s16 : MS) (r17 : Int32) => post s16 r17) σ a2 a3)) ∧ (¬ a1 = (6 : Int32) → ((a1 = (7 : Int32) → (wm_turn (fun (s18 : MS) (r19 : Int32) => post s18 r19) σ a2 a3)) ∧ (¬ a1 = (7 : Int32) → ((a1 = (8 : Int32) → (wm_par (fun (s20 : MS) (r21 : Int32) => post s20 r21) σ a2 a3)) ∧ (¬ a1 = (8 : Int32) → ((a1 = (9 : Int32) → (wm_perp (fun (s22 : MS) (r23 : Int32) => post s22 r23) σ a2 a3)) ∧ (¬ a1 = (9 : Int32) → ((a1 = (10 : Int32) → (wm_meet (fun (s24 : MS) (r25 : Int32) => post s24 r25) σ a2 a3)) ∧ (¬ a1 = (10 : Int32) → ((a1 = (11 : Int32) → (wm_dist (fun (s26 : MS) => wm_circle (fun (s27 : MS) (r28 : Int32) => post s27 r28) s26 a2) σ a2 a3)) ∧ (¬ a1 = (11 : Int32) → ((a1 = (12 : Int32) → (vp_in ((7 : Int32) * a3) 3360 ∧ ((((0 : Int32) ≤ (lg_cmp (m_up σ ((7 : Int32) * a3).toNatClampNeg) (0 : Int64))) → (wm_toolTwo_180 post σ a2 a3)) ∧ ((¬ ((0 : Int32) ≤ (lg_cmp (m_up σ ((7 : Int32) * a3).toNatClampNeg) (0 : Int64)))) → (wm_fail (fun (s29 : MS) => wm_toolTwo_180 post s29 a2 a3) σ (8 : Int32)))))) ∧ (¬ a1 = (12 : Int32) → (wm_toolMore (fun (s30 : MS) (r31 : Int32) => post s30 r31) σ a1 a2 a3))))))))))))))))))))))))))
set_option maxRecDepth 20000 in
theorem km_toolTwo {l : Launch} {D : va_G} {cl : List vw_C} {G : gAd} {post : MS → Int32 → Prop} (hcl : mC cl) {σ : MS} {a1 : Int32} {a2 : Int32} {a3 : Int32} (h : wm_toolTwo post σ a1 a2 a3) : mMet l D cl G yX13_toolTwo cX13_toolTwo 4 (some .int) 8 [.ref (G.1 0), .int a1, .int a2, .int a3] σ (qI post) := by
  unfold wm_toolTwo at h
  refine m_enter hcl (by decide +kernel) rfl [(0, .ref (G.1 0)), (1, .int a1), (2, .int a2), (3, .int a3)] rfl (Nat.le_of_ble_eq_true rfl) ?_
  intro E hE hm hF
  have hN := hm.2.2.2.2.2.2.1
  refine r_iload_n hE 1 dX13_toolTwo_g0.1 rfl rfl ?_
  refine r_case (0 : Int32) h (fun q0 h => ?_) (fun q0 h => ?_)
  · refine r_tableAt (off := 67) hE (0 : Int32) 68 dX13_toolTwo_g0.2.1 q0 (by decide) (by decide) (by decide) (by decide) ?_
    refine r_aload_n hE 0 dX13_toolTwo_g0.2.2.1 rfl rfl ?_
    refine r_iconst (v := (1 : Int32)) hE dX13_toolTwo_g0.2.2.2.1 (by decide) ?_
    refine r_iload_n hE 2 dX13_toolTwo_g0.2.2.2.2.1 rfl rfl ?_
    refine r_iload_n hE 3 dX13_toolTwo_g0.2.2.2.2.2.1 rfl rfl ?_
    refine m_callVi hE hm [.int (1 : Int32), .int a2, .int a3] [] mc_newPoint (km_newPoint hm.2.2.2.2.2.2.2.2 h) (by decide) rfl rfl (Nat.le_of_ble_eq_true rfl) dX13_toolTwo_g0.2.2.2.2.2.2.1 (fun s4 r5 h => ?_)
    exact m_iret hE hm hF dX13_toolTwo_g0.2.2.2.2.2.2.2.1 h
  · refine r_case (1 : Int32) h (fun q1 h => ?_) (fun q1 h => ?_)
    · refine r_tableAt (off := 75) hE (1 : Int32) 76 dX13_toolTwo_g0.2.1 q1 (by decide) (by decide) (by decide) (by decide) ?_
      refine r_aload_n hE 0 dX13_toolTwo_g0.2.2.2.2.2.2.2.2.1 rfl rfl ?_
      refine r_iload_n hE 2 dX13_toolTwo_g0.2.2.2.2.2.2.2.2.2.1 rfl rfl ?_
      refine r_iload_n hE 3 dX13_toolTwo_g0.2.2.2.2.2.2.2.2.2.2.1 rfl rfl ?_
      refine m_callVi hE hm [.int a2, .int a3] [] mc_newFree (km_newFree hm.2.2.2.2.2.2.2.2 h) (by decide) rfl rfl (Nat.le_of_ble_eq_true rfl) dX13_toolTwo_g0.2.2.2.2.2.2.2.2.2.2.2.1 (fun s6 r7 h => ?_)
      exact m_iret hE hm hF dX13_toolTwo_g0.2.2.2.2.2.2.2.2.2.2.2.2.1 h
    · refine r_case (2 : Int32) h (fun q2 h => ?_) (fun q2 h => ?_)
      · refine r_tableAt (off := 82) hE (2 : Int32) 83 dX13_toolTwo_g0.2.1 q2 (by decide) (by decide) (by decide) (by decide) ?_
        refine r_aload_n hE 0 dX13_toolTwo_g0.2.2.2.2.2.2.2.2.2.2.2.2.2.1 rfl rfl ?_
        refine r_iload_n hE 2 dX13_toolTwo_g0.2.2.2.2.2.2.2.2.2.2.2.2.2.2.1 rfl rfl ?_
        refine r_iload_n hE 3 dX13_toolTwo_g0.2.2.2.2.2.2.2.2.2.2.2.2.2.2.2 rfl rfl ?_
        refine r_iconst (v := (3 : Int32)) hE dX13_toolTwo_g1.1 (by decide) ?_
        refine m_callVi hE hm [.int a2, .int a3, .int (3 : Int32)] [] mc_line (km_line hm.2.2.2.2.2.2.2.2 h) (by decide) rfl rfl (Nat.le_of_ble_eq_true rfl) dX13_toolTwo_g1.2.1 (fun s8 r9 h => ?_)
        exact m_iret hE hm hF dX13_toolTwo_g1.2.2.1 h
      · refine r_case (3 : Int32) h (fun q3 h => ?_) (fun q3 h => ?_)
        · refine r_tableAt (off := 90) hE (3 : Int32) 91 dX13_toolTwo_g0.2.1 q3 (by decide) (by decide) (by decide) (by decide) ?_
          refine r_aload_n hE 0 dX13_toolTwo_g1.2.2.2.1 rfl rfl ?_
          refine r_iload_n hE 2 dX13_toolTwo_g1.2.2.2.2.1 rfl rfl ?_
          refine r_iload_n hE 3 dX13_toolTwo_g1.2.2.2.2.2.1 rfl rfl ?_
          refine r_iconst (v := (4 : Int32)) hE dX13_toolTwo_g1.2.2.2.2.2.2.1 (by decide) ?_
          refine m_callVi hE hm [.int a2, .int a3, .int (4 : Int32)] [] mc_line (km_line hm.2.2.2.2.2.2.2.2 h) (by decide) rfl rfl (Nat.le_of_ble_eq_true rfl) dX13_toolTwo_g1.2.2.2.2.2.2.2.1 (fun s10 r11 h => ?_)
          exact m_iret hE hm hF dX13_toolTwo_g1.2.2.2.2.2.2.2.2.1 h
        · refine r_case (4 : Int32) h (fun q4 h => ?_) (fun q4 h => ?_)
          · refine r_tableAt (off := 98) hE (4 : Int32) 99 dX13_toolTwo_g0.2.1 q4 (by decide) (by decide) (by decide) (by decide) ?_
            refine r_aload_n hE 0 dX13_toolTwo_g1.2.2.2.2.2.2.2.2.2.1 rfl rfl ?_
            refine r_iload_n hE 2 dX13_toolTwo_g1.2.2.2.2.2.2.2.2.2.2.1 rfl rfl ?_
            refine r_iload_n hE 3 dX13_toolTwo_g1.2.2.2.2.2.2.2.2.2.2.2.1 rfl rfl ?_
            refine m_callVi hE hm [.int a2, .int a3] [] mc_mid (km_mid hm.2.2.2.2.2.2.2.2 h) (by decide) rfl rfl (Nat.le_of_ble_eq_true rfl) dX13_toolTwo_g1.2.2.2.2.2.2.2.2.2.2.2.2.1 (fun s12 r13 h => ?_)
            exact m_iret hE hm hF dX13_toolTwo_g1.2.2.2.2.2.2.2.2.2.2.2.2.2.1 h
          · refine r_case (5 : Int32) h (fun q5 h => ?_) (fun q5 h => ?_)
            · refine r_tableAt (off := 105) hE (5 : Int32) 106 dX13_toolTwo_g0.2.1 q5 (by decide) (by decide) (by decide) (by decide) ?_
              refine r_aload_n hE 0 dX13_toolTwo_g1.2.2.2.2.2.2.2.2.2.2.2.2.2.2.1 rfl rfl ?_
              refine r_iload_n hE 2 dX13_toolTwo_g1.2.2.2.2.2.2.2.2.2.2.2.2.2.2.2 rfl rfl ?_
              refine r_iload_n hE 3 dX13_toolTwo_g2.1 rfl rfl ?_
              refine m_callVi hE hm [.int a2, .int a3] [] mc_foot (km_foot hm.2.2.2.2.2.2.2.2 h) (by decide) rfl rfl (Nat.le_of_ble_eq_true rfl) dX13_toolTwo_g2.2.1 (fun s14 r15 h => ?_)
              exact m_iret hE hm hF dX13_toolTwo_g2.2.2.1 h
            · refine r_case (6 : Int32) h (fun q6 h => ?_) (fun q6 h => ?_)
              · refine r_tableAt (off := 112) hE (6 : Int32) 113 dX13_toolTwo_g0.2.1 q6 (by decide) (by decide) (by decide) (by decide) ?_
                refine r_aload_n hE 0 dX13_toolTwo_g2.2.2.2.1 rfl rfl ?_
                refine r_iload_n hE 2 dX13_toolTwo_g2.2.2.2.2.1 rfl rfl ?_
                refine r_iload_n hE 3 dX13_toolTwo_g2.2.2.2.2.2.1 rfl rfl ?_
                refine m_callVi hE hm [.int a2, .int a3] [] mc_mirror (km_mirror hm.2.2.2.2.2.2.2.2 h) (by decide) rfl rfl (Nat.le_of_ble_eq_true rfl) dX13_toolTwo_g2.2.2.2.2.2.2.1 (fun s16 r17 h => ?_)
                exact m_iret hE hm hF dX13_toolTwo_g2.2.2.2.2.2.2.2.1 h
              · refine r_case (7 : Int32) h (fun q7 h => ?_) (fun q7 h => ?_)
                · refine r_tableAt (off := 119) hE (7 : Int32) 120 dX13_toolTwo_g0.2.1 q7 (by decide) (by decide) (by decide) (by decide) ?_
                  refine r_aload_n hE 0 dX13_toolTwo_g2.2.2.2.2.2.2.2.2.1 rfl rfl ?_
                  refine r_iload_n hE 2 dX13_toolTwo_g2.2.2.2.2.2.2.2.2.2.1 rfl rfl ?_
                  refine r_iload_n hE 3 dX13_toolTwo_g2.2.2.2.2.2.2.2.2.2.2.1 rfl rfl ?_
                  refine m_callVi hE hm [.int a2, .int a3] [] mc_turn (km_turn hm.2.2.2.2.2.2.2.2 h) (by decide) rfl rfl (Nat.le_of_ble_eq_true rfl) dX13_toolTwo_g2.2.2.2.2.2.2.2.2.2.2.2.1 (fun s18 r19 h => ?_)
                  exact m_iret hE hm hF dX13_toolTwo_g2.2.2.2.2.2.2.2.2.2.2.2.2.1 h
                · refine r_case (8 : Int32) h (fun q8 h => ?_) (fun q8 h => ?_)
                  · refine r_tableAt (off := 126) hE (8 : Int32) 127 dX13_toolTwo_g0.2.1 q8 (by decide) (by decide) (by decide) (by decide) ?_
                    refine r_aload_n hE 0 dX13_toolTwo_g2.2.2.2.2.2.2.2.2.2.2.2.2.2.1 rfl rfl ?_
                    refine r_iload_n hE 2 dX13_toolTwo_g2.2.2.2.2.2.2.2.2.2.2.2.2.2.2.1 rfl rfl ?_
                    refine r_iload_n hE 3 dX13_toolTwo_g2.2.2.2.2.2.2.2.2.2.2.2.2.2.2.2 rfl rfl ?_
                    refine m_callVi hE hm [.int a2, .int a3] [] mc_par (km_par hm.2.2.2.2.2.2.2.2 h) (by decide) rfl rfl (Nat.le_of_ble_eq_true rfl) dX13_toolTwo_g3.1 (fun s20 r21 h => ?_)
                    exact m_iret hE hm hF dX13_toolTwo_g3.2.1 h
                  · refine r_case (9 : Int32) h (fun q9 h => ?_) (fun q9 h => ?_)
                    · refine r_tableAt (off := 133) hE (9 : Int32) 134 dX13_toolTwo_g0.2.1 q9 (by decide) (by decide) (by decide) (by decide) ?_
                      refine r_aload_n hE 0 dX13_toolTwo_g3.2.2.1 rfl rfl ?_
                      refine r_iload_n hE 2 dX13_toolTwo_g3.2.2.2.1 rfl rfl ?_
                      refine r_iload_n hE 3 dX13_toolTwo_g3.2.2.2.2.1 rfl rfl ?_
                      refine m_callVi hE hm [.int a2, .int a3] [] mc_perp (km_perp hm.2.2.2.2.2.2.2.2 h) (by decide) rfl rfl (Nat.le_of_ble_eq_true rfl) dX13_toolTwo_g3.2.2.2.2.2.1 (fun s22 r23 h => ?_)
                      exact m_iret hE hm hF dX13_toolTwo_g3.2.2.2.2.2.2.1 h
                    · refine r_case (10 : Int32) h (fun q10 h => ?_) (fun q10 h => ?_)
                      · refine r_tableAt (off := 140) hE (10 : Int32) 141 dX13_toolTwo_g0.2.1 q10 (by decide) (by decide) (by decide) (by decide) ?_
                        refine r_aload_n hE 0 dX13_toolTwo_g3.2.2.2.2.2.2.2.1 rfl rfl ?_
                        refine r_iload_n hE 2 dX13_toolTwo_g3.2.2.2.2.2.2.2.2.1 rfl rfl ?_
                        refine r_iload_n hE 3 dX13_toolTwo_g3.2.2.2.2.2.2.2.2.2.1 rfl rfl ?_
                        refine m_callVi hE hm [.int a2, .int a3] [] mc_meet (km_meet hm.2.2.2.2.2.2.2.2 h) (by decide) rfl rfl (Nat.le_of_ble_eq_true rfl) dX13_toolTwo_g3.2.2.2.2.2.2.2.2.2.2.1 (fun s24 r25 h => ?_)
                        exact m_iret hE hm hF dX13_toolTwo_g3.2.2.2.2.2.2.2.2.2.2.2.1 h
                      · refine r_case (11 : Int32) h (fun q11 h => ?_) (fun q11 h => ?_)
                        · refine r_tableAt (off := 147) hE (11 : Int32) 148 dX13_toolTwo_g0.2.1 q11 (by decide) (by decide) (by decide) (by decide) ?_
                          refine r_aload_n hE 0 dX13_toolTwo_g3.2.2.2.2.2.2.2.2.2.2.2.2.1 rfl rfl ?_
                          refine r_iload_n hE 2 dX13_toolTwo_g3.2.2.2.2.2.2.2.2.2.2.2.2.2.1 rfl rfl ?_
                          refine r_iload_n hE 3 dX13_toolTwo_g3.2.2.2.2.2.2.2.2.2.2.2.2.2.2.1 rfl rfl ?_
                          refine m_callVv hE hm [.int a2, .int a3] [] mc_dist (km_dist hm.2.2.2.2.2.2.2.2 h) (by decide) rfl rfl (Nat.le_of_ble_eq_true rfl) dX13_toolTwo_g3.2.2.2.2.2.2.2.2.2.2.2.2.2.2.2 (fun s26 h => ?_)
                          refine r_aload_n hE 0 dX13_toolTwo_g4.1 rfl rfl ?_
                          refine r_iload_n hE 2 dX13_toolTwo_g4.2.1 rfl rfl ?_
                          refine m_callVi hE hm [.int a2] [] mc_circle (km_circle hm.2.2.2.2.2.2.2.2 h) (by decide) rfl rfl (Nat.le_of_ble_eq_true rfl) dX13_toolTwo_g4.2.2.1 (fun s27 r28 h => ?_)
                          exact m_iret hE hm hF dX13_toolTwo_g4.2.2.2.1 h
                        · refine r_case (12 : Int32) h (fun q12 h => ?_) (fun q12 h => ?_)
                          · refine r_tableAt (off := 159) hE (12 : Int32) 160 dX13_toolTwo_g0.2.1 q12 (by decide) (by decide) (by decide) (by decide) ?_
                            refine r_aload_n hE 0 dX13_toolTwo_g4.2.2.2.2.1 rfl rfl ?_
                            refine mg_up hE hm dX13_toolTwo_g4.2.2.2.2.2.1 ?_
                            refine r_bipush (v := (7 : Int32)) hE dX13_toolTwo_g4.2.2.2.2.2.2.1 (by decide) ?_
                            refine r_iload_n hE 3 dX13_toolTwo_g4.2.2.2.2.2.2.2.1 rfl rfl ?_
                            refine r_imul hE dX13_toolTwo_g4.2.2.2.2.2.2.2.2.1 ?_
                            obtain ⟨hi, h⟩ := h
                            refine ml_up hE hm dX13_toolTwo_g4.2.2.2.2.2.2.2.2.2.1 hi ?_
                            refine r_lconst (v := (0 : Int64)) hE dX13_toolTwo_g4.2.2.2.2.2.2.2.2.2.2.1 (by decide) ?_
                            refine r_lcmp hE dX13_toolTwo_g4.2.2.2.2.2.2.2.2.2.2.2.1 ?_
                            refine r_if_ge hE 180 dX13_toolTwo_g4.2.2.2.2.2.2.2.2.2.2.2.2.1 (by decide) h (fun h => ?_) (fun h => ?_)
                            · refine r_pick [0, 2, 3] rfl ?_
                              exact km_toolTwo_180 hE hm hF _ _ _ h
                            · refine r_aload_n hE 0 dX13_toolTwo_g4.2.2.2.2.2.2.2.2.2.2.2.2.2.1 rfl rfl ?_
                              refine r_bipush (v := (8 : Int32)) hE dX13_toolTwo_g4.2.2.2.2.2.2.2.2.2.2.2.2.2.2.1 (by decide) ?_
                              refine m_callVv hE hm [.int (8 : Int32)] [] mc_fail (km_fail hm.2.2.2.2.2.2.2.2 h) (by decide) rfl rfl (Nat.le_of_ble_eq_true rfl) dX13_toolTwo_g4.2.2.2.2.2.2.2.2.2.2.2.2.2.2.2 (fun s29 h => ?_)
                              refine r_pick [0, 2, 3] rfl ?_
                              exact km_toolTwo_180 hE hm hF _ _ _ h
                          · have n0 := lv_neT q0 (show (0 : Int32).toInt = 0 by decide)
                            have n1 := lv_neT q1 (show (1 : Int32).toInt = 1 by decide)
                            have n2 := lv_neT q2 (show (2 : Int32).toInt = 2 by decide)
                            have n3 := lv_neT q3 (show (3 : Int32).toInt = 3 by decide)
                            have n4 := lv_neT q4 (show (4 : Int32).toInt = 4 by decide)
                            have n5 := lv_neT q5 (show (5 : Int32).toInt = 5 by decide)
                            have n6 := lv_neT q6 (show (6 : Int32).toInt = 6 by decide)
                            have n7 := lv_neT q7 (show (7 : Int32).toInt = 7 by decide)
                            have n8 := lv_neT q8 (show (8 : Int32).toInt = 8 by decide)
                            have n9 := lv_neT q9 (show (9 : Int32).toInt = 9 by decide)
                            have n10 := lv_neT q10 (show (10 : Int32).toInt = 10 by decide)
                            have n11 := lv_neT q11 (show (11 : Int32).toInt = 11 by decide)
                            have n12 := lv_neT q12 (show (12 : Int32).toInt = 12 by decide)
                            refine r_tableOut hE 192 dX13_toolTwo_g0.2.1 (by omega) (by decide) ?_
                            refine r_aload_n hE 0 dX13_toolTwo_g5.2.2.2.2.2.2.2.2.1 rfl rfl ?_
                            refine r_iload_n hE 1 dX13_toolTwo_g5.2.2.2.2.2.2.2.2.2.1 rfl rfl ?_
                            refine r_iload_n hE 2 dX13_toolTwo_g5.2.2.2.2.2.2.2.2.2.2.1 rfl rfl ?_
                            refine r_iload_n hE 3 dX13_toolTwo_g5.2.2.2.2.2.2.2.2.2.2.2.1 rfl rfl ?_
                            refine m_callVi hE hm [.int a1, .int a2, .int a3] [] mc_toolMore (km_toolMore hm.2.2.2.2.2.2.2.2 h) (by decide) rfl rfl (Nat.le_of_ble_eq_true rfl) dX13_toolTwo_g5.2.2.2.2.2.2.2.2.2.2.2.2.1 (fun s30 r31 h => ?_)
                            exact m_iret hE hm hF dX13_toolTwo_g5.2.2.2.2.2.2.2.2.2.2.2.2.2 h
/-! applyTool -/
def wm_applyTool_439 (post : MS → Prop) (σ : MS) (v10 : Int32) (t1 : Int32) (t2 : Int32) : Prop := vp_in t1 480 ∧ (∀ s1 : MS, s1 = m_lean_s σ t1.toNatClampNeg t2 → wm_comes (fun (s2 : MS) => post s2) s1 v10)
set_option maxRecDepth 20000 in
theorem km_applyTool_439 {E : gEnv} {l : Launch} {D : va_G} {cl : List vw_C} {G : gAd} {post : MS → Prop} (hE : gOK E cX13_applyTool RX13 none 9) (hm : mOK E l D cl G (qV post) 13) (hF : gFin E) (σ : MS) (v10 : Int32) (t1 : Int32) (t2 : Int32) (h : wm_applyTool_439 post σ v10 t1 t2) : GW E (mW G σ) 439 [(0, .ref (G.1 0)), (10, .int v10)] [.int t2, .int t1, .ref (G.1 57)] := by
  unfold wm_applyTool_439 at h
  have hN := hm.2.2.2.2.2.2.1
  obtain ⟨hi, h⟩ := h
  refine ms_lean hE hm dX13_applyTool_g14.2.2.2.2.2.2.2.2.2.2.2.2.2.1 hi h (fun s1 h => ?_)
  refine r_aload_n hE 0 dX13_applyTool_g14.2.2.2.2.2.2.2.2.2.2.2.2.2.2.1 rfl rfl ?_
  refine r_iload hE 1 dX13_applyTool_g14.2.2.2.2.2.2.2.2.2.2.2.2.2.2.2 rfl ?_
  refine m_callVv hE hm [.int v10] [] mc_comes (km_comes hm.2.2.2.2.2.2.2.2 h) (by decide) rfl rfl (Nat.le_of_ble_eq_true rfl) dX13_applyTool_g15.1 (fun s2 h => ?_)
  exact m_vret hE hm hF dX13_applyTool_g15.2 h
def wm_applyTool_415 (post : MS → Prop) (σ : MS) (v9 : Int32) (v10 : Int32) (t1 : Int32) : Prop := vp_in v10 480 ∧ (((¬ ((m_sort σ v10.toNatClampNeg) = (2 : Int32))) → (wm_applyTool_439 post σ v10 t1 v9)) ∧ (((m_sort σ v10.toNatClampNeg) = (2 : Int32)) → (wm_freeLeans (fun (s3 : MS) (r4 : Int32) => wm_applyTool_439 post s3 v10 t1 r4) σ v10 v9)))
set_option maxRecDepth 20000 in
theorem km_applyTool_415 {E : gEnv} {l : Launch} {D : va_G} {cl : List vw_C} {G : gAd} {post : MS → Prop} (hE : gOK E cX13_applyTool RX13 none 9) (hm : mOK E l D cl G (qV post) 13) (hF : gFin E) (σ : MS) (v9 : Int32) (v10 : Int32) (t1 : Int32) (h : wm_applyTool_415 post σ v9 v10 t1) : GW E (mW G σ) 415 [(0, .ref (G.1 0)), (9, .int v9), (10, .int v10)] [.int t1, .ref (G.1 57)] := by
  unfold wm_applyTool_415 at h
  have hN := hm.2.2.2.2.2.2.1
  refine r_aload_n hE 0 dX13_applyTool_g14.2.1 rfl rfl ?_
  refine mg_sort hE hm dX13_applyTool_g14.2.2.1 ?_
  refine r_iload hE 2 dX13_applyTool_g14.2.2.2.1 rfl ?_
  obtain ⟨hi, h⟩ := h
  refine ml_sort hE hm dX13_applyTool_g14.2.2.2.2.1 hi ?_
  refine r_iconst (v := (2 : Int32)) hE dX13_applyTool_g14.2.2.2.2.2.1 (by decide) ?_
  refine r_icmp_ne hE 437 dX13_applyTool_g14.2.2.2.2.2.2.1 (by decide) h (fun h => ?_) (fun h => ?_)
  · refine r_iload hE 1 dX13_applyTool_g14.2.2.2.2.2.2.2.2.2.2.2.2.1 rfl ?_
    refine r_pick [0, 2] rfl ?_
    exact km_applyTool_439 hE hm hF _ _ _ _ h
  · refine r_aload_n hE 0 dX13_applyTool_g14.2.2.2.2.2.2.2.1 rfl rfl ?_
    refine r_iload hE 2 dX13_applyTool_g14.2.2.2.2.2.2.2.2.1 rfl ?_
    refine r_iload hE 1 dX13_applyTool_g14.2.2.2.2.2.2.2.2.2.1 rfl ?_
    refine m_callVi hE hm [.int v10, .int v9] [.int t1, .ref (G.1 57)] mc_freeLeans (km_freeLeans hm.2.2.2.2.2.2.2.2 h) (by decide) rfl rfl (Nat.le_of_ble_eq_true rfl) dX13_applyTool_g14.2.2.2.2.2.2.2.2.2.2.1 (fun s3 r4 h => ?_)
    refine r_goto hE 439 dX13_applyTool_g14.2.2.2.2.2.2.2.2.2.2.2.1 (by decide) ?_
    refine r_pick [0, 2] rfl ?_
    exact km_applyTool_439 hE hm hF _ _ _ _ h
def wm_applyTool_320 (post : MS → Prop) : Nat → MS → Int32 → Int32 → Int32 → Int32 → Int32 → Prop
  | 0, _, _, _, _, _, _ => False
  | n + 1, σ, v2, v9, v10, v11, v12 => (((7 : Int32) ≤ v12) → (∀ s5 : MS, s5 = m_things_s σ (v10 + (1 : Int32)) → ((v2 < (9 : Int32)) → (wm_applyTool_415 post s5 v9 v10 v10)) ∧ ((¬ (v2 < (9 : Int32))) → ((((13 : Int32) ≤ v2) → (wm_applyTool_415 post s5 v9 v10 v10)) ∧ ((¬ ((13 : Int32) ≤ v2)) → (wm_applyTool_439 post s5 v10 v10 (0 : Int32))))))) ∧ ((¬ ((7 : Int32) ≤ v12)) → (vp_in (((7 : Int32) * v11) + v12) 3360 ∧ (vp_in (((7 : Int32) * v10) + v12) 3360 ∧ (∀ s6 : MS, s6 = m_up_s σ (((7 : Int32) * v10) + v12).toNatClampNeg (m_up σ (((7 : Int32) * v11) + v12).toNatClampNeg) → vp_in (((7 : Int32) * v11) + v12) 3360 ∧ (vp_in (((7 : Int32) * v10) + v12) 3360 ∧ (∀ s7 : MS, s7 = m_low_s s6 (((7 : Int32) * v10) + v12).toNatClampNeg (m_low s6 (((7 : Int32) * v11) + v12).toNatClampNeg) → ∀ x8 : Int32, x8 = v12 + (1 : Int32) → wm_applyTool_320 post n s7 v2 v9 v10 v11 x8))))))
set_option maxRecDepth 20000 in
theorem km_applyTool_320 {E : gEnv} {l : Launch} {D : va_G} {cl : List vw_C} {G : gAd} {post : MS → Prop} (hE : gOK E cX13_applyTool RX13 none 9) (hm : mOK E l D cl G (qV post) 13) (hF : gFin E) : ∀ (n : Nat) (σ : MS) (v2 : Int32) (v9 : Int32) (v10 : Int32) (v11 : Int32) (v12 : Int32), wm_applyTool_320 post n σ v2 v9 v10 v11 v12 → GW E (mW G σ) 320 [(0, .ref (G.1 0)), (2, .int v2), (9, .int v9), (10, .int v10), (11, .int v11), (12, .int v12)] [] := by
  intro n
  induction n with
  | zero => intro σ v2 v9 v10 v11 v12 h; exact h.elim
  | succ n ih =>
    intro σ v2 v9 v10 v11 v12 h
    rw [wm_applyTool_320] at h
    have hN := hm.2.2.2.2.2.2.1
    refine r_iload hE 5 dX13_applyTool_g10.2.2.2.2.2.2.2.2.2.2.2.2.1 rfl ?_
    refine r_bipush (v := (7 : Int32)) hE dX13_applyTool_g10.2.2.2.2.2.2.2.2.2.2.2.2.2.1 (by decide) ?_
    refine r_icmp_ge hE 385 dX13_applyTool_g10.2.2.2.2.2.2.2.2.2.2.2.2.2.2.1 (by decide) h (fun h => ?_) (fun h => ?_)
    · refine r_aload_n hE 0 dX13_applyTool_g13.2.1 rfl rfl ?_
      refine r_iload hE 3 dX13_applyTool_g13.2.2.1 rfl ?_
      refine r_iconst (v := (1 : Int32)) hE dX13_applyTool_g13.2.2.2.1 (by decide) ?_
      refine r_iadd hE dX13_applyTool_g13.2.2.2.2.1 ?_
      refine mp_things hE hm dX13_applyTool_g13.2.2.2.2.2.1 h (fun s5 h => ?_)
      refine r_aload_n hE 0 dX13_applyTool_g13.2.2.2.2.2.2.1 rfl rfl ?_
      refine mg_lean hE hm dX13_applyTool_g13.2.2.2.2.2.2.2.1 ?_
      refine r_iload hE 3 dX13_applyTool_g13.2.2.2.2.2.2.2.2.1 rfl ?_
      refine r_iload_n hE 1 dX13_applyTool_g13.2.2.2.2.2.2.2.2.2.1 rfl rfl ?_
      refine r_bipush (v := (9 : Int32)) hE dX13_applyTool_g13.2.2.2.2.2.2.2.2.2.2.1 (by decide) ?_
      refine r_icmp_lt hE 415 dX13_applyTool_g13.2.2.2.2.2.2.2.2.2.2.2.1 (by decide) h (fun h => ?_) (fun h => ?_)
      · refine r_pick [0, 2, 3] rfl ?_
        exact km_applyTool_415 hE hm hF _ _ _ _ h
      · refine r_iload_n hE 1 dX13_applyTool_g13.2.2.2.2.2.2.2.2.2.2.2.2.1 rfl rfl ?_
        refine r_bipush (v := (13 : Int32)) hE dX13_applyTool_g13.2.2.2.2.2.2.2.2.2.2.2.2.2.1 (by decide) ?_
        refine r_icmp_ge hE 415 dX13_applyTool_g13.2.2.2.2.2.2.2.2.2.2.2.2.2.2.1 (by decide) h (fun h => ?_) (fun h => ?_)
        · refine r_pick [0, 2, 3] rfl ?_
          exact km_applyTool_415 hE hm hF _ _ _ _ h
        · refine r_iconst (v := (0 : Int32)) hE dX13_applyTool_g13.2.2.2.2.2.2.2.2.2.2.2.2.2.2.2 (by decide) ?_
          refine r_goto hE 439 dX13_applyTool_g14.1 (by decide) ?_
          refine r_pick [0, 3] rfl ?_
          exact km_applyTool_439 hE hm hF _ _ _ _ h
    · refine r_aload_n hE 0 dX13_applyTool_g10.2.2.2.2.2.2.2.2.2.2.2.2.2.2.2 rfl rfl ?_
      refine mg_up hE hm dX13_applyTool_g11.1 ?_
      refine r_bipush (v := (7 : Int32)) hE dX13_applyTool_g11.2.1 (by decide) ?_
      refine r_iload hE 3 dX13_applyTool_g11.2.2.1 rfl ?_
      refine r_imul hE dX13_applyTool_g11.2.2.2.1 ?_
      refine r_iload hE 5 dX13_applyTool_g11.2.2.2.2.1 rfl ?_
      refine r_iadd hE dX13_applyTool_g11.2.2.2.2.2.1 ?_
      refine r_aload_n hE 0 dX13_applyTool_g11.2.2.2.2.2.2.1 rfl rfl ?_
      refine mg_up hE hm dX13_applyTool_g11.2.2.2.2.2.2.2.1 ?_
      refine r_bipush (v := (7 : Int32)) hE dX13_applyTool_g11.2.2.2.2.2.2.2.2.1 (by decide) ?_
      refine r_iload hE 4 dX13_applyTool_g11.2.2.2.2.2.2.2.2.2.1 rfl ?_
      refine r_imul hE dX13_applyTool_g11.2.2.2.2.2.2.2.2.2.2.1 ?_
      refine r_iload hE 5 dX13_applyTool_g11.2.2.2.2.2.2.2.2.2.2.2.1 rfl ?_
      refine r_iadd hE dX13_applyTool_g11.2.2.2.2.2.2.2.2.2.2.2.2.1 ?_
      obtain ⟨hi, h⟩ := h
      refine ml_up hE hm dX13_applyTool_g11.2.2.2.2.2.2.2.2.2.2.2.2.2.1 hi ?_
      obtain ⟨hi, h⟩ := h
      refine ms_up hE hm dX13_applyTool_g11.2.2.2.2.2.2.2.2.2.2.2.2.2.2.1 hi h (fun s6 h => ?_)
      refine r_aload_n hE 0 dX13_applyTool_g11.2.2.2.2.2.2.2.2.2.2.2.2.2.2.2 rfl rfl ?_
      refine mg_low hE hm dX13_applyTool_g12.1 ?_
      refine r_bipush (v := (7 : Int32)) hE dX13_applyTool_g12.2.1 (by decide) ?_
      refine r_iload hE 3 dX13_applyTool_g12.2.2.1 rfl ?_
      refine r_imul hE dX13_applyTool_g12.2.2.2.1 ?_
      refine r_iload hE 5 dX13_applyTool_g12.2.2.2.2.1 rfl ?_
      refine r_iadd hE dX13_applyTool_g12.2.2.2.2.2.1 ?_
      refine r_aload_n hE 0 dX13_applyTool_g12.2.2.2.2.2.2.1 rfl rfl ?_
      refine mg_low hE hm dX13_applyTool_g12.2.2.2.2.2.2.2.1 ?_
      refine r_bipush (v := (7 : Int32)) hE dX13_applyTool_g12.2.2.2.2.2.2.2.2.1 (by decide) ?_
      refine r_iload hE 4 dX13_applyTool_g12.2.2.2.2.2.2.2.2.2.1 rfl ?_
      refine r_imul hE dX13_applyTool_g12.2.2.2.2.2.2.2.2.2.2.1 ?_
      refine r_iload hE 5 dX13_applyTool_g12.2.2.2.2.2.2.2.2.2.2.2.1 rfl ?_
      refine r_iadd hE dX13_applyTool_g12.2.2.2.2.2.2.2.2.2.2.2.2.1 ?_
      obtain ⟨hi, h⟩ := h
      refine ml_low hE hm dX13_applyTool_g12.2.2.2.2.2.2.2.2.2.2.2.2.2.1 hi ?_
      obtain ⟨hi, h⟩ := h
      refine ms_low hE hm dX13_applyTool_g12.2.2.2.2.2.2.2.2.2.2.2.2.2.2.1 hi h (fun s7 h => ?_)
      obtain ⟨x8, ex8⟩ : ∃ z : Int32, z = v12 + (1 : Int32) := ⟨_, rfl⟩
      have h := h x8 ex8
      refine r_iinc (v := x8) hE [(12, .int x8), (0, .ref (G.1 0)), (2, .int v2), (9, .int v9), (10, .int v10), (11, .int v11)] 5 dX13_applyTool_g12.2.2.2.2.2.2.2.2.2.2.2.2.2.2.2 rfl (by rw [ex8]; rfl) hN (by decide) rfl ?_
      refine r_goto hE 320 dX13_applyTool_g13.1 (by decide) ?_
      refine r_pick [1, 2, 3, 4, 5, 0] rfl ?_
      exact ih _ _ _ _ _ _ h
def wm_applyTool_264 (post : MS → Prop) (σ : MS) (v1 : Int32) (v2 : Int32) (v9 : Int32) (v10 : Int32) (t0 : Int32) : Prop := (((m_failure σ) ≤ (0 : Int32)) → (vp_in t0 480 ∧ (vp_in v10 480 ∧ (∀ s9 : MS, s9 = m_sort_s σ v10.toNatClampNeg (m_sort σ t0.toNatClampNeg) → vp_in t0 480 ∧ (vp_in v10 480 ∧ (∀ s10 : MS, s10 = m_rowOf_s s9 v10.toNatClampNeg (m_rowOf s9 t0.toNatClampNeg) → ∃ k : Nat, wm_applyTool_320 post k s10 v2 v9 v10 t0 (0 : Int32))))))) ∧ ((¬ ((m_failure σ) ≤ (0 : Int32))) → (∀ s11 : MS, s11 = m_things_s σ v10 → wm_fails (fun (s12 : MS) => post s12) s11 (m_failure s11) v1))
set_option maxRecDepth 20000 in
theorem km_applyTool_264 {E : gEnv} {l : Launch} {D : va_G} {cl : List vw_C} {G : gAd} {post : MS → Prop} (hE : gOK E cX13_applyTool RX13 none 9) (hm : mOK E l D cl G (qV post) 13) (hF : gFin E) (σ : MS) (v1 : Int32) (v2 : Int32) (v9 : Int32) (v10 : Int32) (t0 : Int32) (h : wm_applyTool_264 post σ v1 v2 v9 v10 t0) : GW E (mW G σ) 264 [(0, .ref (G.1 0)), (1, .int v1), (2, .int v2), (9, .int v9), (10, .int v10)] [.int t0] := by
  unfold wm_applyTool_264 at h
  have hN := hm.2.2.2.2.2.2.1
  refine r_istore hE [(11, .int t0), (0, .ref (G.1 0)), (1, .int v1), (2, .int v2), (9, .int v9), (10, .int v10)] dX13_applyTool_g8.2.2.2.2.2.2.2.2.2.2.2.2.2.1 hN (by decide) rfl ?_
  refine r_aload_n hE 1 dX13_applyTool_g8.2.2.2.2.2.2.2.2.2.2.2.2.2.2.1 rfl rfl ?_
  refine mg_failure hE hm dX13_applyTool_g8.2.2.2.2.2.2.2.2.2.2.2.2.2.2.2 ?_
  refine r_if_le hE 289 dX13_applyTool_g9.1 (by decide) h (fun h => ?_) (fun h => ?_)
  · refine r_aload_n hE 1 dX13_applyTool_g9.2.2.2.2.2.2.2.2.2.2.1 rfl rfl ?_
    refine mg_sort hE hm dX13_applyTool_g9.2.2.2.2.2.2.2.2.2.2.2.1 ?_
    refine r_iload hE 5 dX13_applyTool_g9.2.2.2.2.2.2.2.2.2.2.2.2.1 rfl ?_
    refine r_aload_n hE 1 dX13_applyTool_g9.2.2.2.2.2.2.2.2.2.2.2.2.2.1 rfl rfl ?_
    refine mg_sort hE hm dX13_applyTool_g9.2.2.2.2.2.2.2.2.2.2.2.2.2.2.1 ?_
    refine r_iload hE 0 dX13_applyTool_g9.2.2.2.2.2.2.2.2.2.2.2.2.2.2.2 rfl ?_
    obtain ⟨hi, h⟩ := h
    refine ml_sort hE hm dX13_applyTool_g10.1 hi ?_
    obtain ⟨hi, h⟩ := h
    refine ms_sort hE hm dX13_applyTool_g10.2.1 hi h (fun s9 h => ?_)
    refine r_aload_n hE 1 dX13_applyTool_g10.2.2.1 rfl rfl ?_
    refine mg_rowOf hE hm dX13_applyTool_g10.2.2.2.1 ?_
    refine r_iload hE 5 dX13_applyTool_g10.2.2.2.2.1 rfl ?_
    refine r_aload_n hE 1 dX13_applyTool_g10.2.2.2.2.2.1 rfl rfl ?_
    refine mg_rowOf hE hm dX13_applyTool_g10.2.2.2.2.2.2.1 ?_
    refine r_iload hE 0 dX13_applyTool_g10.2.2.2.2.2.2.2.1 rfl ?_
    obtain ⟨hi, h⟩ := h
    refine ml_rowOf hE hm dX13_applyTool_g10.2.2.2.2.2.2.2.2.1 hi ?_
    obtain ⟨hi, h⟩ := h
    refine ms_rowOf hE hm dX13_applyTool_g10.2.2.2.2.2.2.2.2.2.1 hi h (fun s10 h => ?_)
    refine r_iconst (v := (0 : Int32)) hE dX13_applyTool_g10.2.2.2.2.2.2.2.2.2.2.1 (by decide) ?_
    refine r_istore hE [(12, .int (0 : Int32)), (11, .int t0), (0, .ref (G.1 0)), (1, .int v1), (2, .int v2), (9, .int v9), (10, .int v10)] dX13_applyTool_g10.2.2.2.2.2.2.2.2.2.2.2.1 hN (by decide) rfl ?_
    refine r_pick [2, 4, 5, 6, 1, 0] rfl ?_
    obtain ⟨k, h⟩ := h
    exact km_applyTool_320 hE hm hF k _ _ _ _ _ _ h
  · refine r_aload_n hE 1 dX13_applyTool_g9.2.1 rfl rfl ?_
    refine r_iload hE 5 dX13_applyTool_g9.2.2.1 rfl ?_
    refine mp_things hE hm dX13_applyTool_g9.2.2.2.1 h (fun s11 h => ?_)
    refine r_aload_n hE 1 dX13_applyTool_g9.2.2.2.2.1 rfl rfl ?_
    refine r_aload_n hE 1 dX13_applyTool_g9.2.2.2.2.2.1 rfl rfl ?_
    refine mg_failure hE hm dX13_applyTool_g9.2.2.2.2.2.2.1 ?_
    refine r_iload_n hE 2 dX13_applyTool_g9.2.2.2.2.2.2.2.1 rfl rfl ?_
    refine m_callVv hE hm [.int (m_failure s11), .int v1] [] mc_fails (km_fails hm.2.2.2.2.2.2.2.2 h) (by decide) rfl rfl (Nat.le_of_ble_eq_true rfl) dX13_applyTool_g9.2.2.2.2.2.2.2.2.1 (fun s12 h => ?_)
    exact m_vret hE hm hF dX13_applyTool_g9.2.2.2.2.2.2.2.2.2.1 h
def wm_applyTool_199 (post : MS → Prop) (σ : MS) (v1 : Int32) (v2 : Int32) (v4 : Int32) (v5 : Int32) (v6 : Int32) (t0 : Int32) (t1 : Int32) : Prop := ∀ x13 : Int32, x13 = t0 ||| t1 → ∀ x14 : Int32, x14 = m_things σ → ∀ s15 : MS, s15 = m_piled_s σ (0 : Int32) → (((13 : Int32) ≤ v2) → ((((35 : Int32) ≤ v2) → (wm_toolThree (fun (s16 : MS) (r17 : Int32) => wm_applyTool_264 post s16 v1 v2 x13 x14 r17) s15 (v2 - (35 : Int32)) v6 v5 v4)) ∧ ((¬ ((35 : Int32) ≤ v2)) → (wm_toolTwo (fun (s18 : MS) (r19 : Int32) => wm_applyTool_264 post s18 v1 v2 x13 x14 r19) s15 (v2 - (13 : Int32)) v6 v5)))) ∧ ((¬ ((13 : Int32) ≤ v2)) → (wm_toolOne (fun (s20 : MS) (r21 : Int32) => wm_applyTool_264 post s20 v1 v2 x13 x14 r21) s15 v2 v6))
set_option maxRecDepth 20000 in
theorem km_applyTool_199 {E : gEnv} {l : Launch} {D : va_G} {cl : List vw_C} {G : gAd} {post : MS → Prop} (hE : gOK E cX13_applyTool RX13 none 9) (hm : mOK E l D cl G (qV post) 13) (hF : gFin E) (σ : MS) (v1 : Int32) (v2 : Int32) (v4 : Int32) (v5 : Int32) (v6 : Int32) (t0 : Int32) (t1 : Int32) (h : wm_applyTool_199 post σ v1 v2 v4 v5 v6 t0 t1) : GW E (mW G σ) 199 [(0, .ref (G.1 0)), (1, .int v1), (2, .int v2), (4, .int v4), (5, .int v5), (6, .int v6)] [.int t1, .int t0] := by
  unfold wm_applyTool_199 at h
  have hN := hm.2.2.2.2.2.2.1
  refine r_ior hE dX13_applyTool_g6.2.2.2.2.2.2.2.2.2.2.1 ?_
  refine r_topi h (fun x13 ex13 h => ?_)
  refine r_istore hE [(9, .int x13), (0, .ref (G.1 0)), (1, .int v1), (2, .int v2), (4, .int v4), (5, .int v5), (6, .int v6)] dX13_applyTool_g6.2.2.2.2.2.2.2.2.2.2.2.1 hN (by decide) rfl ?_
  refine r_aload_n hE 1 dX13_applyTool_g6.2.2.2.2.2.2.2.2.2.2.2.2.1 rfl rfl ?_
  refine mg_things hE hm dX13_applyTool_g6.2.2.2.2.2.2.2.2.2.2.2.2.2.1 ?_
  refine r_topi h (fun x14 ex14 h => ?_)
  refine r_istore hE [(10, .int x14), (9, .int x13), (0, .ref (G.1 0)), (1, .int v1), (2, .int v2), (4, .int v4), (5, .int v5), (6, .int v6)] dX13_applyTool_g6.2.2.2.2.2.2.2.2.2.2.2.2.2.2.1 hN (by decide) rfl ?_
  refine r_aload_n hE 2 dX13_applyTool_g6.2.2.2.2.2.2.2.2.2.2.2.2.2.2.2 rfl rfl ?_
  refine r_iconst (v := (0 : Int32)) hE dX13_applyTool_g7.1 (by decide) ?_
  refine mp_piled hE hm dX13_applyTool_g7.2.1 h (fun s15 h => ?_)
  refine r_iload_n hE 4 dX13_applyTool_g7.2.2.1 rfl rfl ?_
  refine r_bipush (v := (13 : Int32)) hE dX13_applyTool_g7.2.2.2.1 (by decide) ?_
  refine r_icmp_ge hE 229 dX13_applyTool_g7.2.2.2.2.1 (by decide) h (fun h => ?_) (fun h => ?_)
  · refine r_iload_n hE 4 dX13_applyTool_g7.2.2.2.2.2.2.2.2.2.2.1 rfl rfl ?_
    refine r_bipush (v := (35 : Int32)) hE dX13_applyTool_g7.2.2.2.2.2.2.2.2.2.2.2.1 (by decide) ?_
    refine r_icmp_ge hE 250 dX13_applyTool_g7.2.2.2.2.2.2.2.2.2.2.2.2.1 (by decide) h (fun h => ?_) (fun h => ?_)
    · refine r_aload_n hE 2 dX13_applyTool_g8.2.2.2.2.2.1 rfl rfl ?_
      refine r_iload_n hE 4 dX13_applyTool_g8.2.2.2.2.2.2.1 rfl rfl ?_
      refine r_bipush (v := (35 : Int32)) hE dX13_applyTool_g8.2.2.2.2.2.2.2.1 (by decide) ?_
      refine r_isub hE dX13_applyTool_g8.2.2.2.2.2.2.2.2.1 ?_
      refine r_iload hE 7 dX13_applyTool_g8.2.2.2.2.2.2.2.2.2.1 rfl ?_
      refine r_iload hE 6 dX13_applyTool_g8.2.2.2.2.2.2.2.2.2.2.1 rfl ?_
      refine r_iload hE 5 dX13_applyTool_g8.2.2.2.2.2.2.2.2.2.2.2.1 rfl ?_
      refine m_callVi hE hm [.int (v2 - (35 : Int32)), .int v6, .int v5, .int v4] [] mc_toolThree (km_toolThree hm.2.2.2.2.2.2.2.2 h) (by decide) rfl rfl (Nat.le_of_ble_eq_true rfl) dX13_applyTool_g8.2.2.2.2.2.2.2.2.2.2.2.2.1 (fun s16 r17 h => ?_)
      refine r_pick [2, 3, 4, 1, 0] rfl ?_
      exact km_applyTool_264 hE hm hF _ _ _ _ _ _ h
    · refine r_aload_n hE 2 dX13_applyTool_g7.2.2.2.2.2.2.2.2.2.2.2.2.2.1 rfl rfl ?_
      refine r_iload_n hE 4 dX13_applyTool_g7.2.2.2.2.2.2.2.2.2.2.2.2.2.2.1 rfl rfl ?_
      refine r_bipush (v := (13 : Int32)) hE dX13_applyTool_g7.2.2.2.2.2.2.2.2.2.2.2.2.2.2.2 (by decide) ?_
      refine r_isub hE dX13_applyTool_g8.1 ?_
      refine r_iload hE 7 dX13_applyTool_g8.2.1 rfl ?_
      refine r_iload hE 6 dX13_applyTool_g8.2.2.1 rfl ?_
      refine m_callVi hE hm [.int (v2 - (13 : Int32)), .int v6, .int v5] [] mc_toolTwo (km_toolTwo hm.2.2.2.2.2.2.2.2 h) (by decide) rfl rfl (Nat.le_of_ble_eq_true rfl) dX13_applyTool_g8.2.2.2.1 (fun s18 r19 h => ?_)
      refine r_goto hE 264 dX13_applyTool_g8.2.2.2.2.1 (by decide) ?_
      refine r_pick [2, 3, 4, 1, 0] rfl ?_
      exact km_applyTool_264 hE hm hF _ _ _ _ _ _ h
  · refine r_aload_n hE 2 dX13_applyTool_g7.2.2.2.2.2.1 rfl rfl ?_
    refine r_iload_n hE 4 dX13_applyTool_g7.2.2.2.2.2.2.1 rfl rfl ?_
    refine r_iload hE 7 dX13_applyTool_g7.2.2.2.2.2.2.2.1 rfl ?_
    refine m_callVi hE hm [.int v2, .int v6] [] mc_toolOne (km_toolOne hm.2.2.2.2.2.2.2.2 h) (by decide) rfl rfl (Nat.le_of_ble_eq_true rfl) dX13_applyTool_g7.2.2.2.2.2.2.2.2.1 (fun s20 r21 h => ?_)
    refine r_goto hE 264 dX13_applyTool_g7.2.2.2.2.2.2.2.2.2.1 (by decide) ?_
    refine r_pick [2, 3, 4, 1, 0] rfl ?_
    exact km_applyTool_264 hE hm hF _ _ _ _ _ _ h
def wm_applyTool_182 (post : MS → Prop) (σ : MS) (v1 : Int32) (v2 : Int32) (v4 : Int32) (v5 : Int32) (v6 : Int32) (t0 : Int32) (t1 : Int32) : Prop := (((0 : Int32) ≤ v4) → (vp_in v4 480 ∧ (wm_applyTool_199 post σ v1 v2 v4 v5 v6 (t0 ||| t1) (m_lean σ v4.toNatClampNeg)))) ∧ ((¬ ((0 : Int32) ≤ v4)) → (wm_applyTool_199 post σ v1 v2 v4 v5 v6 (t0 ||| t1) (0 : Int32)))
set_option maxRecDepth 20000 in
theorem km_applyTool_182 {E : gEnv} {l : Launch} {D : va_G} {cl : List vw_C} {G : gAd} {post : MS → Prop} (hE : gOK E cX13_applyTool RX13 none 9) (hm : mOK E l D cl G (qV post) 13) (hF : gFin E) (σ : MS) (v1 : Int32) (v2 : Int32) (v4 : Int32) (v5 : Int32) (v6 : Int32) (t0 : Int32) (t1 : Int32) (h : wm_applyTool_182 post σ v1 v2 v4 v5 v6 t0 t1) : GW E (mW G σ) 182 [(0, .ref (G.1 0)), (1, .int v1), (2, .int v2), (4, .int v4), (5, .int v5), (6, .int v6)] [.int t1, .int t0] := by
  unfold wm_applyTool_182 at h
  have hN := hm.2.2.2.2.2.2.1
  refine r_ior hE dX13_applyTool_g6.2.1 ?_
  refine r_iload hE 3 dX13_applyTool_g6.2.2.1 rfl ?_
  refine r_if_ge hE 192 dX13_applyTool_g6.2.2.2.1 (by decide) h (fun h => ?_) (fun h => ?_)
  · refine r_aload_n hE 0 dX13_applyTool_g6.2.2.2.2.2.2.1 rfl rfl ?_
    refine mg_lean hE hm dX13_applyTool_g6.2.2.2.2.2.2.2.1 ?_
    refine r_iload hE 3 dX13_applyTool_g6.2.2.2.2.2.2.2.2.1 rfl ?_
    obtain ⟨hi, h⟩ := h
    refine ml_lean hE hm dX13_applyTool_g6.2.2.2.2.2.2.2.2.2.1 hi ?_
    exact km_applyTool_199 hE hm hF _ _ _ _ _ _ _ _ h
  · refine r_iconst (v := (0 : Int32)) hE dX13_applyTool_g6.2.2.2.2.1 (by decide) ?_
    refine r_goto hE 199 dX13_applyTool_g6.2.2.2.2.2.1 (by decide) ?_
    exact km_applyTool_199 hE hm hF _ _ _ _ _ _ _ _ h
def wm_applyTool_166 (post : MS → Prop) (σ : MS) (v1 : Int32) (v2 : Int32) (v4 : Int32) (v5 : Int32) (v6 : Int32) (t0 : Int32) : Prop := (((0 : Int32) ≤ v5) → (vp_in v5 480 ∧ (wm_applyTool_182 post σ v1 v2 v4 v5 v6 t0 (m_lean σ v5.toNatClampNeg)))) ∧ ((¬ ((0 : Int32) ≤ v5)) → (wm_applyTool_182 post σ v1 v2 v4 v5 v6 t0 (0 : Int32)))
set_option maxRecDepth 20000 in
theorem km_applyTool_166 {E : gEnv} {l : Launch} {D : va_G} {cl : List vw_C} {G : gAd} {post : MS → Prop} (hE : gOK E cX13_applyTool RX13 none 9) (hm : mOK E l D cl G (qV post) 13) (hF : gFin E) (σ : MS) (v1 : Int32) (v2 : Int32) (v4 : Int32) (v5 : Int32) (v6 : Int32) (t0 : Int32) (h : wm_applyTool_166 post σ v1 v2 v4 v5 v6 t0) : GW E (mW G σ) 166 [(0, .ref (G.1 0)), (1, .int v1), (2, .int v2), (4, .int v4), (5, .int v5), (6, .int v6)] [.int t0] := by
  unfold wm_applyTool_166 at h
  have hN := hm.2.2.2.2.2.2.1
  refine r_iload hE 4 dX13_applyTool_g5.2.2.2.2.2.2.2.2.2.1 rfl ?_
  refine r_if_ge hE 175 dX13_applyTool_g5.2.2.2.2.2.2.2.2.2.2.1 (by decide) h (fun h => ?_) (fun h => ?_)
  · refine r_aload_n hE 0 dX13_applyTool_g5.2.2.2.2.2.2.2.2.2.2.2.2.2.1 rfl rfl ?_
    refine mg_lean hE hm dX13_applyTool_g5.2.2.2.2.2.2.2.2.2.2.2.2.2.2.1 ?_
    refine r_iload hE 4 dX13_applyTool_g5.2.2.2.2.2.2.2.2.2.2.2.2.2.2.2 rfl ?_
    obtain ⟨hi, h⟩ := h
    refine ml_lean hE hm dX13_applyTool_g6.1 hi ?_
    exact km_applyTool_182 hE hm hF _ _ _ _ _ _ _ _ h
  · refine r_iconst (v := (0 : Int32)) hE dX13_applyTool_g5.2.2.2.2.2.2.2.2.2.2.2.1 (by decide) ?_
    refine r_goto hE 182 dX13_applyTool_g5.2.2.2.2.2.2.2.2.2.2.2.2.1 (by decide) ?_
    exact km_applyTool_182 hE hm hF _ _ _ _ _ _ _ _ h
def wm_applyTool_135 (post : MS → Prop) (σ : MS) (v1 : Int32) (v2 : Int32) (v4 : Int32) (v5 : Int32) (v6 : Int32) (t0 : Int32) : Prop := ((t0 ≤ (0 : Int32)) → ((((0 : Int32) ≤ v6) → (vp_in v6 480 ∧ (wm_applyTool_166 post σ v1 v2 v4 v5 v6 (m_lean σ v6.toNatClampNeg)))) ∧ ((¬ ((0 : Int32) ≤ v6)) → (wm_applyTool_166 post σ v1 v2 v4 v5 v6 (0 : Int32))))) ∧ ((¬ (t0 ≤ (0 : Int32))) → (wm_fails (fun (s22 : MS) => post s22) σ t0 v1))
set_option maxRecDepth 20000 in
theorem km_applyTool_135 {E : gEnv} {l : Launch} {D : va_G} {cl : List vw_C} {G : gAd} {post : MS → Prop} (hE : gOK E cX13_applyTool RX13 none 9) (hm : mOK E l D cl G (qV post) 13) (hF : gFin E) (σ : MS) (v1 : Int32) (v2 : Int32) (v4 : Int32) (v5 : Int32) (v6 : Int32) (t0 : Int32) (h : wm_applyTool_135 post σ v1 v2 v4 v5 v6 t0) : GW E (mW G σ) 135 [(0, .ref (G.1 0)), (1, .int v1), (2, .int v2), (4, .int v4), (5, .int v5), (6, .int v6)] [.int t0] := by
  unfold wm_applyTool_135 at h
  have hN := hm.2.2.2.2.2.2.1
  refine r_istore hE [(8, .int t0), (0, .ref (G.1 0)), (1, .int v1), (2, .int v2), (4, .int v4), (5, .int v5), (6, .int v6)] dX13_applyTool_g4.2.2.2.2.2.2.2.2.2.1 hN (by decide) rfl ?_
  refine r_iload hE 0 dX13_applyTool_g4.2.2.2.2.2.2.2.2.2.2.1 rfl ?_
  refine r_if_le hE 150 dX13_applyTool_g4.2.2.2.2.2.2.2.2.2.2.2.1 (by decide) h (fun h => ?_) (fun h => ?_)
  · refine r_iload hE 6 dX13_applyTool_g5.2.1 rfl ?_
    refine r_if_ge hE 159 dX13_applyTool_g5.2.2.1 (by decide) h (fun h => ?_) (fun h => ?_)
    · refine r_aload_n hE 1 dX13_applyTool_g5.2.2.2.2.2.1 rfl rfl ?_
      refine mg_lean hE hm dX13_applyTool_g5.2.2.2.2.2.2.1 ?_
      refine r_iload hE 6 dX13_applyTool_g5.2.2.2.2.2.2.2.1 rfl ?_
      obtain ⟨hi, h⟩ := h
      refine ml_lean hE hm dX13_applyTool_g5.2.2.2.2.2.2.2.2.1 hi ?_
      refine r_pick [1, 2, 3, 4, 5, 6] rfl ?_
      exact km_applyTool_166 hE hm hF _ _ _ _ _ _ _ h
    · refine r_iconst (v := (0 : Int32)) hE dX13_applyTool_g5.2.2.2.1 (by decide) ?_
      refine r_goto hE 166 dX13_applyTool_g5.2.2.2.2.1 (by decide) ?_
      refine r_pick [1, 2, 3, 4, 5, 6] rfl ?_
      exact km_applyTool_166 hE hm hF _ _ _ _ _ _ _ h
  · refine r_aload_n hE 1 dX13_applyTool_g4.2.2.2.2.2.2.2.2.2.2.2.2.1 rfl rfl ?_
    refine r_iload hE 0 dX13_applyTool_g4.2.2.2.2.2.2.2.2.2.2.2.2.2.1 rfl ?_
    refine r_iload_n hE 2 dX13_applyTool_g4.2.2.2.2.2.2.2.2.2.2.2.2.2.2.1 rfl rfl ?_
    refine m_callVv hE hm [.int t0, .int v1] [] mc_fails (km_fails hm.2.2.2.2.2.2.2.2 h) (by decide) rfl rfl (Nat.le_of_ble_eq_true rfl) dX13_applyTool_g4.2.2.2.2.2.2.2.2.2.2.2.2.2.2.2 (fun s22 h => ?_)
    exact m_vret hE hm hF dX13_applyTool_g5.1 h
def wm_applyTool_133 (post : MS → Prop) (σ : MS) (v1 : Int32) (v2 : Int32) (v4 : Int32) (v5 : Int32) (v6 : Int32) (v8 : Int32) : Prop := wm_applyTool_135 post σ v1 v2 v4 v5 v6 v8
set_option maxRecDepth 20000 in
theorem km_applyTool_133 {E : gEnv} {l : Launch} {D : va_G} {cl : List vw_C} {G : gAd} {post : MS → Prop} (hE : gOK E cX13_applyTool RX13 none 9) (hm : mOK E l D cl G (qV post) 13) (hF : gFin E) (σ : MS) (v1 : Int32) (v2 : Int32) (v4 : Int32) (v5 : Int32) (v6 : Int32) (v8 : Int32) (h : wm_applyTool_133 post σ v1 v2 v4 v5 v6 v8) : GW E (mW G σ) 133 [(0, .ref (G.1 0)), (1, .int v1), (2, .int v2), (4, .int v4), (5, .int v5), (6, .int v6), (8, .int v8)] [] := by
  unfold wm_applyTool_133 at h
  have hN := hm.2.2.2.2.2.2.1
  refine r_iload hE 6 dX13_applyTool_g4.2.2.2.2.2.2.2.2.1 rfl ?_
  refine r_pick [0, 1, 2, 3, 4, 5] rfl ?_
  exact km_applyTool_135 hE hm hF _ _ _ _ _ _ _ h
def wm_applyTool_103 (post : MS → Prop) (σ : MS) (v1 : Int32) (v2 : Int32) (v3 : Int32) (v4 : Int32) (v5 : Int32) (v6 : Int32) (v7 : Int32) (t0 : Int32) : Prop := ((¬ (t0 = (0 : Int32))) → (wm_applyTool_133 post σ v1 v2 v4 v5 v6 t0)) ∧ ((t0 = (0 : Int32)) → (((v3 ≤ (2 : Int32)) → (wm_applyTool_133 post σ v1 v2 v4 v5 v6 t0)) ∧ ((¬ (v3 ≤ (2 : Int32))) → (vp_in (v7 + (2 : Int32)) 108 ∧ (wm_askedOf (fun (s23 : MS) (r24 : Int32) => wm_applyTool_135 post s23 v1 v2 v4 v5 v6 r24) σ v4 (m_wantedList σ (v7 + (2 : Int32)).toNatClampNeg))))))
set_option maxRecDepth 20000 in
theorem km_applyTool_103 {E : gEnv} {l : Launch} {D : va_G} {cl : List vw_C} {G : gAd} {post : MS → Prop} (hE : gOK E cX13_applyTool RX13 none 9) (hm : mOK E l D cl G (qV post) 13) (hF : gFin E) (σ : MS) (v1 : Int32) (v2 : Int32) (v3 : Int32) (v4 : Int32) (v5 : Int32) (v6 : Int32) (v7 : Int32) (t0 : Int32) (h : wm_applyTool_103 post σ v1 v2 v3 v4 v5 v6 v7 t0) : GW E (mW G σ) 103 [(0, .ref (G.1 0)), (1, .int v1), (2, .int v2), (3, .int v3), (4, .int v4), (5, .int v5), (6, .int v6), (7, .int v7)] [.int t0] := by
  unfold wm_applyTool_103 at h
  have hN := hm.2.2.2.2.2.2.1
  refine r_istore hE [(8, .int t0), (0, .ref (G.1 0)), (1, .int v1), (2, .int v2), (3, .int v3), (4, .int v4), (5, .int v5), (6, .int v6), (7, .int v7)] dX13_applyTool_g3.2.2.2.2.2.2.2.2.1 hN (by decide) rfl ?_
  refine r_iload hE 0 dX13_applyTool_g3.2.2.2.2.2.2.2.2.2.1 rfl ?_
  refine r_if_ne hE 133 dX13_applyTool_g3.2.2.2.2.2.2.2.2.2.2.1 (by decide) h (fun h => ?_) (fun h => ?_)
  · refine r_pick [1, 2, 3, 5, 6, 7, 0] rfl ?_
    exact km_applyTool_133 hE hm hF _ _ _ _ _ _ _ h
  · refine r_iload_n hE 4 dX13_applyTool_g3.2.2.2.2.2.2.2.2.2.2.2.1 rfl rfl ?_
    refine r_iconst (v := (2 : Int32)) hE dX13_applyTool_g3.2.2.2.2.2.2.2.2.2.2.2.2.1 (by decide) ?_
    refine r_icmp_le hE 133 dX13_applyTool_g3.2.2.2.2.2.2.2.2.2.2.2.2.2.1 (by decide) h (fun h => ?_) (fun h => ?_)
    · refine r_pick [1, 2, 3, 5, 6, 7, 0] rfl ?_
      exact km_applyTool_133 hE hm hF _ _ _ _ _ _ _ h
    · refine r_aload_n hE 1 dX13_applyTool_g3.2.2.2.2.2.2.2.2.2.2.2.2.2.2.1 rfl rfl ?_
      refine r_iload hE 5 dX13_applyTool_g3.2.2.2.2.2.2.2.2.2.2.2.2.2.2.2 rfl ?_
      refine r_aload_n hE 1 dX13_applyTool_g4.1 rfl rfl ?_
      refine mg_wantedList hE hm dX13_applyTool_g4.2.1 ?_
      refine r_iload hE 8 dX13_applyTool_g4.2.2.1 rfl ?_
      refine r_iconst (v := (2 : Int32)) hE dX13_applyTool_g4.2.2.2.1 (by decide) ?_
      refine r_iadd hE dX13_applyTool_g4.2.2.2.2.1 ?_
      obtain ⟨hi, h⟩ := h
      refine ml_wantedList hE hm dX13_applyTool_g4.2.2.2.2.2.1 hi ?_
      refine m_callVi hE hm [.int v4, .int (m_wantedList σ (v7 + (2 : Int32)).toNatClampNeg)] [] mc_askedOf (km_askedOf hm.2.2.2.2.2.2.2.2 h) (by decide) rfl rfl (Nat.le_of_ble_eq_true rfl) dX13_applyTool_g4.2.2.2.2.2.2.1 (fun s23 r24 h => ?_)
      refine r_goto hE 135 dX13_applyTool_g4.2.2.2.2.2.2.2.1 (by decide) ?_
      refine r_pick [1, 2, 3, 5, 6, 7] rfl ?_
      exact km_applyTool_135 hE hm hF _ _ _ _ _ _ _ h
def wm_applyTool_101 (post : MS → Prop) (σ : MS) (v1 : Int32) (v2 : Int32) (v3 : Int32) (v4 : Int32) (v5 : Int32) (v6 : Int32) (v7 : Int32) (v8 : Int32) : Prop := wm_applyTool_103 post σ v1 v2 v3 v4 v5 v6 v7 v8
set_option maxRecDepth 20000 in
theorem km_applyTool_101 {E : gEnv} {l : Launch} {D : va_G} {cl : List vw_C} {G : gAd} {post : MS → Prop} (hE : gOK E cX13_applyTool RX13 none 9) (hm : mOK E l D cl G (qV post) 13) (hF : gFin E) (σ : MS) (v1 : Int32) (v2 : Int32) (v3 : Int32) (v4 : Int32) (v5 : Int32) (v6 : Int32) (v7 : Int32) (v8 : Int32) (h : wm_applyTool_101 post σ v1 v2 v3 v4 v5 v6 v7 v8) : GW E (mW G σ) 101 [(0, .ref (G.1 0)), (1, .int v1), (2, .int v2), (3, .int v3), (4, .int v4), (5, .int v5), (6, .int v6), (7, .int v7), (8, .int v8)] [] := by
  unfold wm_applyTool_101 at h
  have hN := hm.2.2.2.2.2.2.1
  refine r_iload hE 8 dX13_applyTool_g3.2.2.2.2.2.2.2.1 rfl ?_
  refine r_pick [0, 1, 2, 3, 4, 5, 6, 7] rfl ?_
  exact km_applyTool_103 hE hm hF _ _ _ _ _ _ _ _ _ h
def wm_applyTool_40 (post : MS → Prop) (σ : MS) (v1 : Int32) (v2 : Int32) (v3 : Int32) (v4 : Int32) (t0 : Int32) : Prop := wm_taken (fun (s25 : MS) (r26 : Int32) => wm_placeOf_wantedList (fun (s27 : MS) (r28 : Int32) => vp_in r28 108 ∧ (wm_askedOf (fun (s29 : MS) (r30 : Int32) => ((¬ (r30 = (0 : Int32))) → (wm_applyTool_101 post s29 v1 v2 v3 v4 t0 r26 r28 r30)) ∧ ((r30 = (0 : Int32)) → (((v3 ≤ (1 : Int32)) → (wm_applyTool_101 post s29 v1 v2 v3 v4 t0 r26 r28 r30)) ∧ ((¬ (v3 ≤ (1 : Int32))) → (vp_in (r28 + (1 : Int32)) 108 ∧ (wm_askedOf (fun (s31 : MS) (r32 : Int32) => wm_applyTool_103 post s31 v1 v2 v3 v4 t0 r26 r28 r32) s29 t0 (m_wantedList s29 (r28 + (1 : Int32)).toNatClampNeg))))))) s27 r26 (m_wantedList s27 r28.toNatClampNeg))) s25 v2) σ
set_option maxRecDepth 20000 in
theorem km_applyTool_40 {E : gEnv} {l : Launch} {D : va_G} {cl : List vw_C} {G : gAd} {post : MS → Prop} (hE : gOK E cX13_applyTool RX13 none 9) (hm : mOK E l D cl G (qV post) 13) (hF : gFin E) (σ : MS) (v1 : Int32) (v2 : Int32) (v3 : Int32) (v4 : Int32) (t0 : Int32) (h : wm_applyTool_40 post σ v1 v2 v3 v4 t0) : GW E (mW G σ) 40 [(0, .ref (G.1 0)), (1, .int v1), (2, .int v2), (3, .int v3), (4, .int v4)] [.int t0] := by
  unfold wm_applyTool_40 at h
  have hN := hm.2.2.2.2.2.2.1
  refine r_istore hE [(5, .int t0), (0, .ref (G.1 0)), (1, .int v1), (2, .int v2), (3, .int v3), (4, .int v4)] dX13_applyTool_g1.2.2.2.2.2.2.2.1 hN (by decide) rfl ?_
  refine r_aload_n hE 1 dX13_applyTool_g1.2.2.2.2.2.2.2.2.1 rfl rfl ?_
  refine m_callVi hE hm [] [] mc_taken (km_taken hm.2.2.2.2.2.2.2.2 h) (by decide) rfl rfl (Nat.le_of_ble_eq_true rfl) dX13_applyTool_g1.2.2.2.2.2.2.2.2.2.1 (fun s25 r26 h => ?_)
  refine r_istore hE [(6, .int r26), (5, .int t0), (0, .ref (G.1 0)), (1, .int v1), (2, .int v2), (3, .int v3), (4, .int v4)] dX13_applyTool_g1.2.2.2.2.2.2.2.2.2.2.1 hN (by decide) rfl ?_
  refine r_aload_n hE 2 dX13_applyTool_g1.2.2.2.2.2.2.2.2.2.2.2.1 rfl rfl ?_
  refine mg_wantedList hE hm dX13_applyTool_g1.2.2.2.2.2.2.2.2.2.2.2.2.1 ?_
  refine r_iload_n hE 4 dX13_applyTool_g1.2.2.2.2.2.2.2.2.2.2.2.2.2.1 rfl rfl ?_
  refine m_callSi hE hm [.ref (G.1 12), .int v2] [] mc_placeOf (km_placeOf_wantedList hm.2.2.2.2.2.2.2.2 h) (by decide) rfl rfl (Nat.le_of_ble_eq_true rfl) dX13_applyTool_g1.2.2.2.2.2.2.2.2.2.2.2.2.2.2.1 (fun s27 r28 h => ?_)
  refine r_istore hE [(7, .int r28), (6, .int r26), (5, .int t0), (0, .ref (G.1 0)), (1, .int v1), (2, .int v2), (3, .int v3), (4, .int v4)] dX13_applyTool_g1.2.2.2.2.2.2.2.2.2.2.2.2.2.2.2 hN (by decide) rfl ?_
  refine r_aload_n hE 3 dX13_applyTool_g2.1 rfl rfl ?_
  refine r_iload hE 1 dX13_applyTool_g2.2.1 rfl ?_
  refine r_aload_n hE 3 dX13_applyTool_g2.2.2.1 rfl rfl ?_
  refine mg_wantedList hE hm dX13_applyTool_g2.2.2.2.1 ?_
  refine r_iload hE 0 dX13_applyTool_g2.2.2.2.2.1 rfl ?_
  obtain ⟨hi, h⟩ := h
  refine ml_wantedList hE hm dX13_applyTool_g2.2.2.2.2.2.1 hi ?_
  refine m_callVi hE hm [.int r26, .int (m_wantedList s27 r28.toNatClampNeg)] [] mc_askedOf (km_askedOf hm.2.2.2.2.2.2.2.2 h) (by decide) rfl rfl (Nat.le_of_ble_eq_true rfl) dX13_applyTool_g2.2.2.2.2.2.2.1 (fun s29 r30 h => ?_)
  refine r_istore hE [(8, .int r30), (7, .int r28), (6, .int r26), (5, .int t0), (0, .ref (G.1 0)), (1, .int v1), (2, .int v2), (3, .int v3), (4, .int v4)] dX13_applyTool_g2.2.2.2.2.2.2.2.1 hN (by decide) rfl ?_
  refine r_iload hE 0 dX13_applyTool_g2.2.2.2.2.2.2.2.2.1 rfl ?_
  refine r_if_ne hE 101 dX13_applyTool_g2.2.2.2.2.2.2.2.2.2.1 (by decide) h (fun h => ?_) (fun h => ?_)
  · refine r_pick [4, 5, 6, 7, 8, 3, 2, 1, 0] rfl ?_
    exact km_applyTool_101 hE hm hF _ _ _ _ _ _ _ _ _ h
  · refine r_iload_n hE 7 dX13_applyTool_g2.2.2.2.2.2.2.2.2.2.2.1 rfl rfl ?_
    refine r_iconst (v := (1 : Int32)) hE dX13_applyTool_g2.2.2.2.2.2.2.2.2.2.2.2.1 (by decide) ?_
    refine r_icmp_le hE 101 dX13_applyTool_g2.2.2.2.2.2.2.2.2.2.2.2.2.1 (by decide) h (fun h => ?_) (fun h => ?_)
    · refine r_pick [4, 5, 6, 7, 8, 3, 2, 1, 0] rfl ?_
      exact km_applyTool_101 hE hm hF _ _ _ _ _ _ _ _ _ h
    · refine r_aload_n hE 4 dX13_applyTool_g2.2.2.2.2.2.2.2.2.2.2.2.2.2.1 rfl rfl ?_
      refine r_iload hE 3 dX13_applyTool_g2.2.2.2.2.2.2.2.2.2.2.2.2.2.2.1 rfl ?_
      refine r_aload_n hE 4 dX13_applyTool_g2.2.2.2.2.2.2.2.2.2.2.2.2.2.2.2 rfl rfl ?_
      refine mg_wantedList hE hm dX13_applyTool_g3.1 ?_
      refine r_iload hE 1 dX13_applyTool_g3.2.1 rfl ?_
      refine r_iconst (v := (1 : Int32)) hE dX13_applyTool_g3.2.2.1 (by decide) ?_
      refine r_iadd hE dX13_applyTool_g3.2.2.2.1 ?_
      obtain ⟨hi, h⟩ := h
      refine ml_wantedList hE hm dX13_applyTool_g3.2.2.2.2.1 hi ?_
      refine m_callVi hE hm [.int t0, .int (m_wantedList s29 (r28 + (1 : Int32)).toNatClampNeg)] [] mc_askedOf (km_askedOf hm.2.2.2.2.2.2.2.2 h) (by decide) rfl rfl (Nat.le_of_ble_eq_true rfl) dX13_applyTool_g3.2.2.2.2.2.1 (fun s31 r32 h => ?_)
      refine r_goto hE 103 dX13_applyTool_g3.2.2.2.2.2.2.1 (by decide) ?_
      refine r_pick [4, 5, 6, 7, 8, 3, 2, 1] rfl ?_
      exact km_applyTool_103 hE hm hF _ _ _ _ _ _ _ _ _ h
def wm_applyTool_25 (post : MS → Prop) (σ : MS) (v1 : Int32) (v2 : Int32) (v3 : Int32) (t0 : Int32) : Prop := ((v3 ≤ (1 : Int32)) → (wm_applyTool_40 post σ v1 v2 v3 t0 (-1 : Int32))) ∧ ((¬ (v3 ≤ (1 : Int32))) → (wm_taken (fun (s33 : MS) (r34 : Int32) => wm_applyTool_40 post s33 v1 v2 v3 t0 r34) σ))
set_option maxRecDepth 20000 in
theorem km_applyTool_25 {E : gEnv} {l : Launch} {D : va_G} {cl : List vw_C} {G : gAd} {post : MS → Prop} (hE : gOK E cX13_applyTool RX13 none 9) (hm : mOK E l D cl G (qV post) 13) (hF : gFin E) (σ : MS) (v1 : Int32) (v2 : Int32) (v3 : Int32) (t0 : Int32) (h : wm_applyTool_25 post σ v1 v2 v3 t0) : GW E (mW G σ) 25 [(0, .ref (G.1 0)), (1, .int v1), (2, .int v2), (3, .int v3)] [.int t0] := by
  unfold wm_applyTool_25 at h
  have hN := hm.2.2.2.2.2.2.1
  refine r_istore hE [(4, .int t0), (0, .ref (G.1 0)), (1, .int v1), (2, .int v2), (3, .int v3)] dX13_applyTool_g0.2.2.2.2.2.2.2.2.2.2.2.2.2.2.2 hN (by decide) rfl ?_
  refine r_iload_n hE 4 dX13_applyTool_g1.1 rfl rfl ?_
  refine r_iconst (v := (1 : Int32)) hE dX13_applyTool_g1.2.1 (by decide) ?_
  refine r_icmp_le hE 39 dX13_applyTool_g1.2.2.1 (by decide) h (fun h => ?_) (fun h => ?_)
  · refine r_iconst (v := (-1 : Int32)) hE dX13_applyTool_g1.2.2.2.2.2.2.1 (by decide) ?_
    refine r_pick [1, 2, 3, 4, 0] rfl ?_
    exact km_applyTool_40 hE hm hF _ _ _ _ _ _ h
  · refine r_aload_n hE 1 dX13_applyTool_g1.2.2.2.1 rfl rfl ?_
    refine m_callVi hE hm [] [] mc_taken (km_taken hm.2.2.2.2.2.2.2.2 h) (by decide) rfl rfl (Nat.le_of_ble_eq_true rfl) dX13_applyTool_g1.2.2.2.2.1 (fun s33 r34 h => ?_)
    refine r_goto hE 40 dX13_applyTool_g1.2.2.2.2.2.1 (by decide) ?_
    refine r_pick [1, 2, 3, 4, 0] rfl ?_
    exact km_applyTool_40 hE hm hF _ _ _ _ _ _ h
def wm_applyTool (post : MS → Prop) (σ : MS) (a1 : Int32) : Prop := vp_in a1 600 ∧ (∀ x35 : Int32, x35 = m_one σ a1.toNatClampNeg → wm_wantedBy (fun (s36 : MS) (r37 : Int32) => ((r37 ≤ (2 : Int32)) → (wm_applyTool_25 post s36 a1 x35 r37 (-1 : Int32))) ∧ ((¬ (r37 ≤ (2 : Int32))) → (wm_taken (fun (s38 : MS) (r39 : Int32) => wm_applyTool_25 post s38 a1 x35 r37 r39) s36))) σ x35)
set_option maxRecDepth 20000 in
theorem km_applyTool {l : Launch} {D : va_G} {cl : List vw_C} {G : gAd} {post : MS → Prop} (hcl : mC cl) {σ : MS} {a1 : Int32} (h : wm_applyTool post σ a1) : mMet l D cl G yX13_applyTool cX13_applyTool 13 none 9 [.ref (G.1 0), .int a1] σ (qV post) := by
  unfold wm_applyTool at h
  refine m_enter hcl (by decide +kernel) rfl [(0, .ref (G.1 0)), (1, .int a1)] rfl (Nat.le_of_ble_eq_true rfl) ?_
  intro E hE hm hF
  have hN := hm.2.2.2.2.2.2.1
  refine r_aload_n hE 0 dX13_applyTool_g0.1 rfl rfl ?_
  refine mg_one hE hm dX13_applyTool_g0.2.1 ?_
  refine r_iload_n hE 1 dX13_applyTool_g0.2.2.1 rfl rfl ?_
  obtain ⟨hi, h⟩ := h
  refine ml_one hE hm dX13_applyTool_g0.2.2.2.1 hi ?_
  refine r_topi h (fun x35 ex35 h => ?_)
  refine r_istore_n hE [(2, .int x35), (0, .ref (G.1 0)), (1, .int a1)] dX13_applyTool_g0.2.2.2.2.1 rfl hN (by decide) rfl ?_
  refine r_iload_n hE 0 dX13_applyTool_g0.2.2.2.2.2.1 rfl rfl ?_
  refine m_callSi hE hm [.int x35] [] mc_wantedBy (km_wantedBy hm.2.2.2.2.2.2.2.2 h) (by decide) rfl rfl (Nat.le_of_ble_eq_true rfl) dX13_applyTool_g0.2.2.2.2.2.2.1 (fun s36 r37 h => ?_)
  refine r_istore_n hE [(3, .int r37), (2, .int x35), (0, .ref (G.1 0)), (1, .int a1)] dX13_applyTool_g0.2.2.2.2.2.2.2.1 rfl hN (by decide) rfl ?_
  refine r_iload_n hE 0 dX13_applyTool_g0.2.2.2.2.2.2.2.2.1 rfl rfl ?_
  refine r_iconst (v := (2 : Int32)) hE dX13_applyTool_g0.2.2.2.2.2.2.2.2.2.1 (by decide) ?_
  refine r_icmp_le hE 24 dX13_applyTool_g0.2.2.2.2.2.2.2.2.2.2.1 (by decide) h (fun h => ?_) (fun h => ?_)
  · refine r_iconst (v := (-1 : Int32)) hE dX13_applyTool_g0.2.2.2.2.2.2.2.2.2.2.2.2.2.2.1 (by decide) ?_
    refine r_pick [2, 3, 1, 0] rfl ?_
    exact km_applyTool_25 hE hm hF _ _ _ _ _ h
  · refine r_aload_n hE 2 dX13_applyTool_g0.2.2.2.2.2.2.2.2.2.2.2.1 rfl rfl ?_
    refine m_callVi hE hm [] [] mc_taken (km_taken hm.2.2.2.2.2.2.2.2 h) (by decide) rfl rfl (Nat.le_of_ble_eq_true rfl) dX13_applyTool_g0.2.2.2.2.2.2.2.2.2.2.2.2.1 (fun s38 r39 h => ?_)
    refine r_goto hE 25 dX13_applyTool_g0.2.2.2.2.2.2.2.2.2.2.2.2.2.1 (by decide) ?_
    refine r_pick [2, 3, 1, 0] rfl ?_
    exact km_applyTool_25 hE hm hF _ _ _ _ _ h
/-! applyTwo -/
def wm_applyTwo_177 (post : MS → Prop) (σ : MS) (v5 : Int32) (t2 : Int64) : Prop := wm_number (fun (s1 : MS) (r2 : Int32) => wm_comes (fun (s3 : MS) => post s3) s1 r2) σ t2 (1 : Int64) v5
set_option maxRecDepth 20000 in
theorem km_applyTwo_177 {E : gEnv} {l : Launch} {D : va_G} {cl : List vw_C} {G : gAd} {post : MS → Prop} (hE : gOK E cX13_applyTwo RX13 none 4) (hm : mOK E l D cl G (qV post) 7) (hF : gFin E) (σ : MS) (v5 : Int32) (t2 : Int64) (h : wm_applyTwo_177 post σ v5 t2) : GW E (mW G σ) 177 [(5, .int v5)] [.long t2, .ref (G.1 0), .ref (G.1 0)] := by
  unfold wm_applyTwo_177 at h
  have hN := hm.2.2.2.2.2.2.1
  refine r_lconst (v := (1 : Int64)) hE dX13_applyTwo_g6.2.2.2.2.2.1 (by decide) ?_
  refine r_iload hE 0 dX13_applyTwo_g6.2.2.2.2.2.2.1 rfl ?_
  refine m_callVi hE hm [.long t2, .long (1 : Int64), .int v5] [.ref (G.1 0)] mc_number (km_number hm.2.2.2.2.2.2.2.2 h) (by decide) rfl rfl (Nat.le_of_ble_eq_true rfl) dX13_applyTwo_g6.2.2.2.2.2.2.2.1 (fun s1 r2 h => ?_)
  refine m_callVv hE hm [.int r2] [] mc_comes (km_comes hm.2.2.2.2.2.2.2.2 h) (by decide) rfl rfl (Nat.le_of_ble_eq_true rfl) dX13_applyTwo_g6.2.2.2.2.2.2.2.2.1 (fun s3 h => ?_)
  exact m_vret hE hm hF dX13_applyTwo_g6.2.2.2.2.2.2.2.2.2.1 h
def wm_applyTwo_176 (post : MS → Prop) (σ : MS) (v5 : Int32) : Prop := wm_applyTwo_177 post σ v5 (0 : Int64)
set_option maxRecDepth 20000 in
theorem km_applyTwo_176 {E : gEnv} {l : Launch} {D : va_G} {cl : List vw_C} {G : gAd} {post : MS → Prop} (hE : gOK E cX13_applyTwo RX13 none 4) (hm : mOK E l D cl G (qV post) 7) (hF : gFin E) (σ : MS) (v5 : Int32) (h : wm_applyTwo_176 post σ v5) : GW E (mW G σ) 176 [(5, .int v5)] [.ref (G.1 0), .ref (G.1 0)] := by
  unfold wm_applyTwo_176 at h
  have hN := hm.2.2.2.2.2.2.1
  refine r_lconst (v := (0 : Int64)) hE dX13_applyTwo_g6.2.2.2.2.1 (by decide) ?_
  exact km_applyTwo_177 hE hm hF _ _ _ h
def wm_applyTwo_172 (post : MS → Prop) (σ : MS) (v5 : Int32) : Prop := wm_applyTwo_177 post σ v5 (1 : Int64)
set_option maxRecDepth 20000 in
theorem km_applyTwo_172 {E : gEnv} {l : Launch} {D : va_G} {cl : List vw_C} {G : gAd} {post : MS → Prop} (hE : gOK E cX13_applyTwo RX13 none 4) (hm : mOK E l D cl G (qV post) 7) (hF : gFin E) (σ : MS) (v5 : Int32) (h : wm_applyTwo_172 post σ v5) : GW E (mW G σ) 172 [(5, .int v5)] [.ref (G.1 0), .ref (G.1 0)] := by
  unfold wm_applyTwo_172 at h
  have hN := hm.2.2.2.2.2.2.1
  refine r_lconst (v := (1 : Int64)) hE dX13_applyTwo_g6.2.2.1 (by decide) ?_
  refine r_goto hE 177 dX13_applyTwo_g6.2.2.2.1 (by decide) ?_
  exact km_applyTwo_177 hE hm hF _ _ _ h
def wm_applyTwo_105 (post : MS → Prop) (σ : MS) (v1 : Int32) (v2 : Int32) (v3 : Int32) (v5 : Int32) : Prop := vp_in ((7 : Int32) * v3) 3360 ∧ (vp_in ((7 : Int32) * v3) 3360 ∧ (vp_in ((7 : Int32) * v2) 3360 ∧ (vp_in ((7 : Int32) * v2) 3360 ∧ (wm_compare (fun (s4 : MS) (r5 : Int32) => vp_in v1 600 ∧ (((¬ ((m_one s4 v1.toNatClampNeg) = (61 : Int32))) → ((((0 : Int32) ≤ r5) → (wm_applyTwo_176 post s4 v5)) ∧ ((¬ ((0 : Int32) ≤ r5)) → (wm_applyTwo_172 post s4 v5)))) ∧ (((m_one s4 v1.toNatClampNeg) = (61 : Int32)) → (((¬ (r5 = (0 : Int32))) → (wm_applyTwo_176 post s4 v5)) ∧ ((r5 = (0 : Int32)) → (wm_applyTwo_172 post s4 v5)))))) σ (m_up σ ((7 : Int32) * v3).toNatClampNeg) (m_low σ ((7 : Int32) * v3).toNatClampNeg) (m_up σ ((7 : Int32) * v2).toNatClampNeg) (m_low σ ((7 : Int32) * v2).toNatClampNeg)))))
set_option maxRecDepth 20000 in
theorem km_applyTwo_105 {E : gEnv} {l : Launch} {D : va_G} {cl : List vw_C} {G : gAd} {post : MS → Prop} (hE : gOK E cX13_applyTwo RX13 none 4) (hm : mOK E l D cl G (qV post) 7) (hF : gFin E) (σ : MS) (v1 : Int32) (v2 : Int32) (v3 : Int32) (v5 : Int32) (h : wm_applyTwo_105 post σ v1 v2 v3 v5) : GW E (mW G σ) 105 [(0, .ref (G.1 0)), (1, .int v1), (2, .int v2), (3, .int v3), (5, .int v5)] [] := by
  unfold wm_applyTwo_105 at h
  have hN := hm.2.2.2.2.2.2.1
  refine r_aload_n hE 0 dX13_applyTwo_g3.2.2.2.2.2.2.2.2.2.2.2.1 rfl rfl ?_
  refine mg_up hE hm dX13_applyTwo_g3.2.2.2.2.2.2.2.2.2.2.2.2.1 ?_
  refine r_bipush (v := (7 : Int32)) hE dX13_applyTwo_g3.2.2.2.2.2.2.2.2.2.2.2.2.2.1 (by decide) ?_
  refine r_iload_n hE 3 dX13_applyTwo_g3.2.2.2.2.2.2.2.2.2.2.2.2.2.2.1 rfl rfl ?_
  refine r_imul hE dX13_applyTwo_g3.2.2.2.2.2.2.2.2.2.2.2.2.2.2.2 ?_
  obtain ⟨hi, h⟩ := h
  refine ml_up hE hm dX13_applyTwo_g4.1 hi ?_
  refine r_aload_n hE 0 dX13_applyTwo_g4.2.1 rfl rfl ?_
  refine mg_low hE hm dX13_applyTwo_g4.2.2.1 ?_
  refine r_bipush (v := (7 : Int32)) hE dX13_applyTwo_g4.2.2.2.1 (by decide) ?_
  refine r_iload_n hE 3 dX13_applyTwo_g4.2.2.2.2.1 rfl rfl ?_
  refine r_imul hE dX13_applyTwo_g4.2.2.2.2.2.1 ?_
  obtain ⟨hi, h⟩ := h
  refine ml_low hE hm dX13_applyTwo_g4.2.2.2.2.2.2.1 hi ?_
  refine r_aload_n hE 0 dX13_applyTwo_g4.2.2.2.2.2.2.2.1 rfl rfl ?_
  refine mg_up hE hm dX13_applyTwo_g4.2.2.2.2.2.2.2.2.1 ?_
  refine r_bipush (v := (7 : Int32)) hE dX13_applyTwo_g4.2.2.2.2.2.2.2.2.2.1 (by decide) ?_
  refine r_iload_n hE 2 dX13_applyTwo_g4.2.2.2.2.2.2.2.2.2.2.1 rfl rfl ?_
  refine r_imul hE dX13_applyTwo_g4.2.2.2.2.2.2.2.2.2.2.2.1 ?_
  obtain ⟨hi, h⟩ := h
  refine ml_up hE hm dX13_applyTwo_g4.2.2.2.2.2.2.2.2.2.2.2.2.1 hi ?_
  refine r_aload_n hE 0 dX13_applyTwo_g4.2.2.2.2.2.2.2.2.2.2.2.2.2.1 rfl rfl ?_
  refine mg_low hE hm dX13_applyTwo_g4.2.2.2.2.2.2.2.2.2.2.2.2.2.2.1 ?_
  refine r_bipush (v := (7 : Int32)) hE dX13_applyTwo_g4.2.2.2.2.2.2.2.2.2.2.2.2.2.2.2 (by decide) ?_
  refine r_iload_n hE 2 dX13_applyTwo_g5.1 rfl rfl ?_
  refine r_imul hE dX13_applyTwo_g5.2.1 ?_
  obtain ⟨hi, h⟩ := h
  refine ml_low hE hm dX13_applyTwo_g5.2.2.1 hi ?_
  refine m_callSi hE hm [.long (m_up σ ((7 : Int32) * v3).toNatClampNeg), .long (m_low σ ((7 : Int32) * v3).toNatClampNeg), .long (m_up σ ((7 : Int32) * v2).toNatClampNeg), .long (m_low σ ((7 : Int32) * v2).toNatClampNeg)] [] mc_compare (km_compare hm.2.2.2.2.2.2.2.2 h) (by decide) rfl rfl (Nat.le_of_ble_eq_true rfl) dX13_applyTwo_g5.2.2.2.1 (fun s4 r5 h => ?_)
  refine r_istore hE [(6, .int r5), (0, .ref (G.1 0)), (1, .int v1), (2, .int v2), (3, .int v3), (5, .int v5)] dX13_applyTwo_g5.2.2.2.2.1 hN (by decide) rfl ?_
  refine r_aload_n hE 1 dX13_applyTwo_g5.2.2.2.2.2.1 rfl rfl ?_
  refine r_aload_n hE 1 dX13_applyTwo_g5.2.2.2.2.2.2.1 rfl rfl ?_
  refine r_aload_n hE 1 dX13_applyTwo_g5.2.2.2.2.2.2.2.1 rfl rfl ?_
  refine mg_one hE hm dX13_applyTwo_g5.2.2.2.2.2.2.2.2.1 ?_
  refine r_iload_n hE 2 dX13_applyTwo_g5.2.2.2.2.2.2.2.2.2.1 rfl rfl ?_
  obtain ⟨hi, h⟩ := h
  refine ml_one hE hm dX13_applyTwo_g5.2.2.2.2.2.2.2.2.2.2.1 hi ?_
  refine r_bipush (v := (61 : Int32)) hE dX13_applyTwo_g5.2.2.2.2.2.2.2.2.2.2.2.1 (by decide) ?_
  refine r_icmp_ne hE 167 dX13_applyTwo_g5.2.2.2.2.2.2.2.2.2.2.2.2.1 (by decide) h (fun h => ?_) (fun h => ?_)
  · refine r_iload hE 0 dX13_applyTwo_g6.1 rfl ?_
    refine r_if_ge hE 176 dX13_applyTwo_g6.2.1 (by decide) h (fun h => ?_) (fun h => ?_)
    · refine r_pick [5] rfl ?_
      exact km_applyTwo_176 hE hm hF _ _ h
    · refine r_pick [5] rfl ?_
      exact km_applyTwo_172 hE hm hF _ _ h
  · refine r_iload hE 0 dX13_applyTwo_g5.2.2.2.2.2.2.2.2.2.2.2.2.2.1 rfl ?_
    refine r_if_ne hE 176 dX13_applyTwo_g5.2.2.2.2.2.2.2.2.2.2.2.2.2.2.1 (by decide) h (fun h => ?_) (fun h => ?_)
    · refine r_pick [5] rfl ?_
      exact km_applyTwo_176 hE hm hF _ _ h
    · refine r_goto hE 172 dX13_applyTwo_g5.2.2.2.2.2.2.2.2.2.2.2.2.2.2.2 (by decide) ?_
      refine r_pick [5] rfl ?_
      exact km_applyTwo_172 hE hm hF _ _ h
def wm_applyTwo_257 (post : MS → Prop) (σ : MS) (v1 : Int32) (v5 : Int32) : Prop := ∀ s6 : MS, s6 = m_piled_s σ ((m_piled σ) - (1 : Int32)) → (((m_failure s6) ≤ (0 : Int32)) → (vp_in (m_piled s6) 40 ∧ (vp_in (m_piled s6) 40 ∧ (wm_number (fun (s7 : MS) (r8 : Int32) => wm_comes (fun (s9 : MS) => post s9) s7 r8) s6 (m_top s6 (m_piled s6).toNatClampNeg) (m_bottom s6 (m_piled s6).toNatClampNeg) v5)))) ∧ ((¬ ((m_failure s6) ≤ (0 : Int32))) → (wm_fails (fun (s10 : MS) => post s10) s6 (m_failure s6) v1))
set_option maxRecDepth 20000 in
theorem km_applyTwo_257 {E : gEnv} {l : Launch} {D : va_G} {cl : List vw_C} {G : gAd} {post : MS → Prop} (hE : gOK E cX13_applyTwo RX13 none 4) (hm : mOK E l D cl G (qV post) 7) (hF : gFin E) (σ : MS) (v1 : Int32) (v5 : Int32) (h : wm_applyTwo_257 post σ v1 v5) : GW E (mW G σ) 257 [(0, .ref (G.1 0)), (1, .int v1), (5, .int v5)] [] := by
  unfold wm_applyTwo_257 at h
  have hN := hm.2.2.2.2.2.2.1
  refine r_aload_n hE 0 dX13_applyTwo_g8.2.2.2.2.2.2.2.2.2.2.2.2.2.2.2 rfl rfl ?_
  refine r_dup hE dX13_applyTwo_g9.1 rfl ?_
  refine mg_piled hE hm dX13_applyTwo_g9.2.1 ?_
  refine r_iconst (v := (1 : Int32)) hE dX13_applyTwo_g9.2.2.1 (by decide) ?_
  refine r_isub hE dX13_applyTwo_g9.2.2.2.1 ?_
  refine mp_piled hE hm dX13_applyTwo_g9.2.2.2.2.1 h (fun s6 h => ?_)
  refine r_aload_n hE 0 dX13_applyTwo_g9.2.2.2.2.2.1 rfl rfl ?_
  refine mg_failure hE hm dX13_applyTwo_g9.2.2.2.2.2.2.1 ?_
  refine r_if_le hE 286 dX13_applyTwo_g9.2.2.2.2.2.2.2.1 (by decide) h (fun h => ?_) (fun h => ?_)
  · refine r_aload_n hE 0 dX13_applyTwo_g9.2.2.2.2.2.2.2.2.2.2.2.2.2.2.1 rfl rfl ?_
    refine r_aload_n hE 0 dX13_applyTwo_g9.2.2.2.2.2.2.2.2.2.2.2.2.2.2.2 rfl rfl ?_
    refine r_aload_n hE 0 dX13_applyTwo_g10.1 rfl rfl ?_
    refine mg_top hE hm dX13_applyTwo_g10.2.1 ?_
    refine r_aload_n hE 0 dX13_applyTwo_g10.2.2.1 rfl rfl ?_
    refine mg_piled hE hm dX13_applyTwo_g10.2.2.2.1 ?_
    obtain ⟨hi, h⟩ := h
    refine ml_top hE hm dX13_applyTwo_g10.2.2.2.2.1 hi ?_
    refine r_aload_n hE 0 dX13_applyTwo_g10.2.2.2.2.2.1 rfl rfl ?_
    refine mg_bottom hE hm dX13_applyTwo_g10.2.2.2.2.2.2.1 ?_
    refine r_aload_n hE 0 dX13_applyTwo_g10.2.2.2.2.2.2.2.1 rfl rfl ?_
    refine mg_piled hE hm dX13_applyTwo_g10.2.2.2.2.2.2.2.2.1 ?_
    obtain ⟨hi, h⟩ := h
    refine ml_bottom hE hm dX13_applyTwo_g10.2.2.2.2.2.2.2.2.2.1 hi ?_
    refine r_iload hE 2 dX13_applyTwo_g10.2.2.2.2.2.2.2.2.2.2.1 rfl ?_
    refine m_callVi hE hm [.long (m_top s6 (m_piled s6).toNatClampNeg), .long (m_bottom s6 (m_piled s6).toNatClampNeg), .int v5] [.ref (G.1 0)] mc_number (km_number hm.2.2.2.2.2.2.2.2 h) (by decide) rfl rfl (Nat.le_of_ble_eq_true rfl) dX13_applyTwo_g10.2.2.2.2.2.2.2.2.2.2.2.1 (fun s7 r8 h => ?_)
    refine m_callVv hE hm [.int r8] [] mc_comes (km_comes hm.2.2.2.2.2.2.2.2 h) (by decide) rfl rfl (Nat.le_of_ble_eq_true rfl) dX13_applyTwo_g10.2.2.2.2.2.2.2.2.2.2.2.2.1 (fun s9 h => ?_)
    exact m_vret hE hm hF dX13_applyTwo_g10.2.2.2.2.2.2.2.2.2.2.2.2.2 h
  · refine r_aload_n hE 0 dX13_applyTwo_g9.2.2.2.2.2.2.2.2.1 rfl rfl ?_
    refine r_aload_n hE 0 dX13_applyTwo_g9.2.2.2.2.2.2.2.2.2.1 rfl rfl ?_
    refine mg_failure hE hm dX13_applyTwo_g9.2.2.2.2.2.2.2.2.2.2.1 ?_
    refine r_iload_n hE 1 dX13_applyTwo_g9.2.2.2.2.2.2.2.2.2.2.2.1 rfl rfl ?_
    refine m_callVv hE hm [.int (m_failure s6), .int v1] [] mc_fails (km_fails hm.2.2.2.2.2.2.2.2 h) (by decide) rfl rfl (Nat.le_of_ble_eq_true rfl) dX13_applyTwo_g9.2.2.2.2.2.2.2.2.2.2.2.2.1 (fun s10 h => ?_)
    refine r_goto hE 314 dX13_applyTwo_g9.2.2.2.2.2.2.2.2.2.2.2.2.2.1 (by decide) ?_
    exact m_vret hE hm hF dX13_applyTwo_g10.2.2.2.2.2.2.2.2.2.2.2.2.2 h
def wm_applyTwo_53 (post : MS → Prop) (σ : MS) (v1 : Int32) (v2 : Int32) (v3 : Int32) (t0 : Int32) : Prop := ((t0 ≤ (0 : Int32)) → (vp_in v3 480 ∧ (vp_in v2 480 ∧ (∀ x11 : Int32, x11 = (m_lean σ v3.toNatClampNeg) ||| (m_lean σ v2.toNatClampNeg) → vp_in v1 600 ∧ ((((m_one σ v1.toNatClampNeg) = (61 : Int32)) → (wm_applyTwo_105 post σ v1 v2 v3 x11)) ∧ ((¬ ((m_one σ v1.toNatClampNeg) = (61 : Int32))) → (vp_in v1 600 ∧ (((¬ ((m_one σ v1.toNatClampNeg) = (60 : Int32))) → (wm_part (fun (s12 : MS) => wm_part (fun (s13 : MS) => vp_in v1 600 ∧ (((¬ ((m_one s13 v1.toNatClampNeg) = (43 : Int32))) → (vp_in v1 600 ∧ (((¬ ((m_one s13 v1.toNatClampNeg) = (45 : Int32))) → (vp_in v1 600 ∧ (((¬ ((m_one s13 v1.toNatClampNeg) = (42 : Int32))) → (wm_by (fun (s14 : MS) => wm_applyTwo_257 post s14 v1 x11) s13)) ∧ (((m_one s13 v1.toNatClampNeg) = (42 : Int32)) → (wm_times (fun (s15 : MS) => wm_applyTwo_257 post s15 v1 x11) s13))))) ∧ (((m_one s13 v1.toNatClampNeg) = (45 : Int32)) → (wm_less (fun (s16 : MS) => wm_applyTwo_257 post s16 v1 x11) s13))))) ∧ (((m_one s13 v1.toNatClampNeg) = (43 : Int32)) → (wm_plus (fun (s17 : MS) => wm_applyTwo_257 post s17 v1 x11) s13)))) s12 v2 (0 : Int32)) σ v3 (0 : Int32))) ∧ (((m_one σ v1.toNatClampNeg) = (60 : Int32)) → (wm_applyTwo_105 post σ v1 v2 v3 x11)))))))))) ∧ ((¬ (t0 ≤ (0 : Int32))) → (wm_fails (fun (s18 : MS) => post s18) σ t0 v1))
set_option maxRecDepth 20000 in
theorem km_applyTwo_53 {E : gEnv} {l : Launch} {D : va_G} {cl : List vw_C} {G : gAd} {post : MS → Prop} (hE : gOK E cX13_applyTwo RX13 none 4) (hm : mOK E l D cl G (qV post) 7) (hF : gFin E) (σ : MS) (v1 : Int32) (v2 : Int32) (v3 : Int32) (t0 : Int32) (h : wm_applyTwo_53 post σ v1 v2 v3 t0) : GW E (mW G σ) 53 [(0, .ref (G.1 0)), (1, .int v1), (2, .int v2), (3, .int v3)] [.int t0] := by
  unfold wm_applyTwo_53 at h
  have hN := hm.2.2.2.2.2.2.1
  refine r_istore hE [(4, .int t0), (0, .ref (G.1 0)), (1, .int v1), (2, .int v2), (3, .int v3)] dX13_applyTwo_g1.2.2.2.2.2.2.2.2.2.2.2.2.2.1 hN (by decide) rfl ?_
  refine r_iload hE 0 dX13_applyTwo_g1.2.2.2.2.2.2.2.2.2.2.2.2.2.2.1 rfl ?_
  refine r_if_le hE 68 dX13_applyTwo_g1.2.2.2.2.2.2.2.2.2.2.2.2.2.2.2 (by decide) h (fun h => ?_) (fun h => ?_)
  · refine r_aload_n hE 1 dX13_applyTwo_g2.2.2.2.2.2.1 rfl rfl ?_
    refine mg_lean hE hm dX13_applyTwo_g2.2.2.2.2.2.2.1 ?_
    refine r_iload_n hE 4 dX13_applyTwo_g2.2.2.2.2.2.2.2.1 rfl rfl ?_
    obtain ⟨hi, h⟩ := h
    refine ml_lean hE hm dX13_applyTwo_g2.2.2.2.2.2.2.2.2.1 hi ?_
    refine r_aload_n hE 1 dX13_applyTwo_g2.2.2.2.2.2.2.2.2.2.1 rfl rfl ?_
    refine mg_lean hE hm dX13_applyTwo_g2.2.2.2.2.2.2.2.2.2.2.1 ?_
    refine r_iload_n hE 3 dX13_applyTwo_g2.2.2.2.2.2.2.2.2.2.2.2.1 rfl rfl ?_
    obtain ⟨hi, h⟩ := h
    refine ml_lean hE hm dX13_applyTwo_g2.2.2.2.2.2.2.2.2.2.2.2.2.1 hi ?_
    refine r_ior hE dX13_applyTwo_g2.2.2.2.2.2.2.2.2.2.2.2.2.2.1 ?_
    refine r_topi h (fun x11 ex11 h => ?_)
    refine r_istore hE [(5, .int x11), (4, .int t0), (0, .ref (G.1 0)), (1, .int v1), (2, .int v2), (3, .int v3)] dX13_applyTwo_g2.2.2.2.2.2.2.2.2.2.2.2.2.2.2.1 hN (by decide) rfl ?_
    refine r_aload_n hE 2 dX13_applyTwo_g2.2.2.2.2.2.2.2.2.2.2.2.2.2.2.2 rfl rfl ?_
    refine mg_one hE hm dX13_applyTwo_g3.1 ?_
    refine r_iload_n hE 3 dX13_applyTwo_g3.2.1 rfl rfl ?_
    obtain ⟨hi, h⟩ := h
    refine ml_one hE hm dX13_applyTwo_g3.2.2.1 hi ?_
    refine r_bipush (v := (61 : Int32)) hE dX13_applyTwo_g3.2.2.2.1 (by decide) ?_
    refine r_icmp_eq hE 105 dX13_applyTwo_g3.2.2.2.2.1 (by decide) h (fun h => ?_) (fun h => ?_)
    · refine r_pick [2, 3, 4, 5, 0] rfl ?_
      exact km_applyTwo_105 hE hm hF _ _ _ _ _ h
    · refine r_aload_n hE 2 dX13_applyTwo_g3.2.2.2.2.2.1 rfl rfl ?_
      refine mg_one hE hm dX13_applyTwo_g3.2.2.2.2.2.2.1 ?_
      refine r_iload_n hE 3 dX13_applyTwo_g3.2.2.2.2.2.2.2.1 rfl rfl ?_
      obtain ⟨hi, h⟩ := h
      refine ml_one hE hm dX13_applyTwo_g3.2.2.2.2.2.2.2.2.1 hi ?_
      refine r_bipush (v := (60 : Int32)) hE dX13_applyTwo_g3.2.2.2.2.2.2.2.2.2.1 (by decide) ?_
      refine r_icmp_ne hE 187 dX13_applyTwo_g3.2.2.2.2.2.2.2.2.2.2.1 (by decide) h (fun h => ?_) (fun h => ?_)
      · refine r_aload_n hE 2 dX13_applyTwo_g6.2.2.2.2.2.2.2.2.2.2.1 rfl rfl ?_
        refine r_iload_n hE 5 dX13_applyTwo_g6.2.2.2.2.2.2.2.2.2.2.2.1 rfl rfl ?_
        refine r_iconst (v := (0 : Int32)) hE dX13_applyTwo_g6.2.2.2.2.2.2.2.2.2.2.2.2.1 (by decide) ?_
        refine m_callVv hE hm [.int v3, .int (0 : Int32)] [] mc_part (km_part hm.2.2.2.2.2.2.2.2 h) (by decide) rfl rfl (Nat.le_of_ble_eq_true rfl) dX13_applyTwo_g6.2.2.2.2.2.2.2.2.2.2.2.2.2.1 (fun s12 h => ?_)
        refine r_aload_n hE 2 dX13_applyTwo_g6.2.2.2.2.2.2.2.2.2.2.2.2.2.2.1 rfl rfl ?_
        refine r_iload_n hE 4 dX13_applyTwo_g6.2.2.2.2.2.2.2.2.2.2.2.2.2.2.2 rfl rfl ?_
        refine r_iconst (v := (0 : Int32)) hE dX13_applyTwo_g7.1 (by decide) ?_
        refine m_callVv hE hm [.int v2, .int (0 : Int32)] [] mc_part (km_part hm.2.2.2.2.2.2.2.2 h) (by decide) rfl rfl (Nat.le_of_ble_eq_true rfl) dX13_applyTwo_g7.2.1 (fun s13 h => ?_)
        refine r_aload_n hE 2 dX13_applyTwo_g7.2.2.1 rfl rfl ?_
        refine mg_one hE hm dX13_applyTwo_g7.2.2.2.1 ?_
        refine r_iload_n hE 3 dX13_applyTwo_g7.2.2.2.2.1 rfl rfl ?_
        obtain ⟨hi, h⟩ := h
        refine ml_one hE hm dX13_applyTwo_g7.2.2.2.2.2.1 hi ?_
        refine r_bipush (v := (43 : Int32)) hE dX13_applyTwo_g7.2.2.2.2.2.2.1 (by decide) ?_
        refine r_icmp_ne hE 217 dX13_applyTwo_g7.2.2.2.2.2.2.2.1 (by decide) h (fun h => ?_) (fun h => ?_)
        · refine r_aload_n hE 2 dX13_applyTwo_g7.2.2.2.2.2.2.2.2.2.2.2.1 rfl rfl ?_
          refine mg_one hE hm dX13_applyTwo_g7.2.2.2.2.2.2.2.2.2.2.2.2.1 ?_
          refine r_iload_n hE 3 dX13_applyTwo_g7.2.2.2.2.2.2.2.2.2.2.2.2.2.1 rfl rfl ?_
          obtain ⟨hi, h⟩ := h
          refine ml_one hE hm dX13_applyTwo_g7.2.2.2.2.2.2.2.2.2.2.2.2.2.2.1 hi ?_
          refine r_bipush (v := (45 : Int32)) hE dX13_applyTwo_g7.2.2.2.2.2.2.2.2.2.2.2.2.2.2.2 (by decide) ?_
          refine r_icmp_ne hE 235 dX13_applyTwo_g8.1 (by decide) h (fun h => ?_) (fun h => ?_)
          · refine r_aload_n hE 2 dX13_applyTwo_g8.2.2.2.2.1 rfl rfl ?_
            refine mg_one hE hm dX13_applyTwo_g8.2.2.2.2.2.1 ?_
            refine r_iload_n hE 3 dX13_applyTwo_g8.2.2.2.2.2.2.1 rfl rfl ?_
            obtain ⟨hi, h⟩ := h
            refine ml_one hE hm dX13_applyTwo_g8.2.2.2.2.2.2.2.1 hi ?_
            refine r_bipush (v := (42 : Int32)) hE dX13_applyTwo_g8.2.2.2.2.2.2.2.2.1 (by decide) ?_
            refine r_icmp_ne hE 253 dX13_applyTwo_g8.2.2.2.2.2.2.2.2.2.1 (by decide) h (fun h => ?_) (fun h => ?_)
            · refine r_aload_n hE 2 dX13_applyTwo_g8.2.2.2.2.2.2.2.2.2.2.2.2.2.1 rfl rfl ?_
              refine m_callVv hE hm [] [] mc_by (km_by hm.2.2.2.2.2.2.2.2 h) (by decide) rfl rfl (Nat.le_of_ble_eq_true rfl) dX13_applyTwo_g8.2.2.2.2.2.2.2.2.2.2.2.2.2.2.1 (fun s14 h => ?_)
              refine r_pick [2, 3, 0] rfl ?_
              exact km_applyTwo_257 hE hm hF _ _ _ h
            · refine r_aload_n hE 2 dX13_applyTwo_g8.2.2.2.2.2.2.2.2.2.2.1 rfl rfl ?_
              refine m_callVv hE hm [] [] mc_times (km_times hm.2.2.2.2.2.2.2.2 h) (by decide) rfl rfl (Nat.le_of_ble_eq_true rfl) dX13_applyTwo_g8.2.2.2.2.2.2.2.2.2.2.2.1 (fun s15 h => ?_)
              refine r_goto hE 257 dX13_applyTwo_g8.2.2.2.2.2.2.2.2.2.2.2.2.1 (by decide) ?_
              refine r_pick [2, 3, 0] rfl ?_
              exact km_applyTwo_257 hE hm hF _ _ _ h
          · refine r_aload_n hE 2 dX13_applyTwo_g8.2.1 rfl rfl ?_
            refine m_callVv hE hm [] [] mc_less (km_less hm.2.2.2.2.2.2.2.2 h) (by decide) rfl rfl (Nat.le_of_ble_eq_true rfl) dX13_applyTwo_g8.2.2.1 (fun s16 h => ?_)
            refine r_goto hE 257 dX13_applyTwo_g8.2.2.2.1 (by decide) ?_
            refine r_pick [2, 3, 0] rfl ?_
            exact km_applyTwo_257 hE hm hF _ _ _ h
        · refine r_aload_n hE 2 dX13_applyTwo_g7.2.2.2.2.2.2.2.2.1 rfl rfl ?_
          refine m_callVv hE hm [] [] mc_plus (km_plus hm.2.2.2.2.2.2.2.2 h) (by decide) rfl rfl (Nat.le_of_ble_eq_true rfl) dX13_applyTwo_g7.2.2.2.2.2.2.2.2.2.1 (fun s17 h => ?_)
          refine r_goto hE 257 dX13_applyTwo_g7.2.2.2.2.2.2.2.2.2.2.1 (by decide) ?_
          refine r_pick [2, 3, 0] rfl ?_
          exact km_applyTwo_257 hE hm hF _ _ _ h
      · refine r_pick [2, 3, 4, 5, 0] rfl ?_
        exact km_applyTwo_105 hE hm hF _ _ _ _ _ h
  · refine r_aload_n hE 1 dX13_applyTwo_g2.1 rfl rfl ?_
    refine r_iload hE 0 dX13_applyTwo_g2.2.1 rfl ?_
    refine r_iload_n hE 2 dX13_applyTwo_g2.2.2.1 rfl rfl ?_
    refine m_callVv hE hm [.int t0, .int v1] [] mc_fails (km_fails hm.2.2.2.2.2.2.2.2 h) (by decide) rfl rfl (Nat.le_of_ble_eq_true rfl) dX13_applyTwo_g2.2.2.2.1 (fun s18 h => ?_)
    exact m_vret hE hm hF dX13_applyTwo_g2.2.2.2.2.1 h
def wm_applyTwo (post : MS → Prop) (σ : MS) (a1 : Int32) : Prop := wm_taken (fun (s19 : MS) (r20 : Int32) => wm_taken (fun (s21 : MS) (r22 : Int32) => (((0 : Int32) ≤ r22) → (vp_in r22 480 ∧ ((((m_sort s21 r22.toNatClampNeg) = (0 : Int32)) → ((((0 : Int32) ≤ r20) → (vp_in r20 480 ∧ ((((m_sort s21 r20.toNatClampNeg) = (0 : Int32)) → (wm_applyTwo_53 post s21 a1 r20 r22 (0 : Int32))) ∧ ((¬ ((m_sort s21 r20.toNatClampNeg) = (0 : Int32))) → (wm_applyTwo_53 post s21 a1 r20 r22 (2 : Int32)))))) ∧ ((¬ ((0 : Int32) ≤ r20)) → (wm_applyTwo_53 post s21 a1 r20 r22 (1 : Int32))))) ∧ ((¬ ((m_sort s21 r22.toNatClampNeg) = (0 : Int32))) → (wm_applyTwo_53 post s21 a1 r20 r22 (2 : Int32)))))) ∧ ((¬ ((0 : Int32) ≤ r22)) → (wm_applyTwo_53 post s21 a1 r20 r22 (1 : Int32)))) s19) σ
set_option maxRecDepth 20000 in
theorem km_applyTwo {l : Launch} {D : va_G} {cl : List vw_C} {G : gAd} {post : MS → Prop} (hcl : mC cl) {σ : MS} {a1 : Int32} (h : wm_applyTwo post σ a1) : mMet l D cl G yX13_applyTwo cX13_applyTwo 7 none 4 [.ref (G.1 0), .int a1] σ (qV post) := by
  unfold wm_applyTwo at h
  refine m_enter hcl (by decide +kernel) rfl [(0, .ref (G.1 0)), (1, .int a1)] rfl (Nat.le_of_ble_eq_true rfl) ?_
  intro E hE hm hF
  have hN := hm.2.2.2.2.2.2.1
  refine r_aload_n hE 0 dX13_applyTwo_g0.1 rfl rfl ?_
  refine m_callVi hE hm [] [] mc_taken (km_taken hm.2.2.2.2.2.2.2.2 h) (by decide) rfl rfl (Nat.le_of_ble_eq_true rfl) dX13_applyTwo_g0.2.1 (fun s19 r20 h => ?_)
  refine r_istore_n hE [(2, .int r20), (0, .ref (G.1 0)), (1, .int a1)] dX13_applyTwo_g0.2.2.1 rfl hN (by decide) rfl ?_
  refine r_aload_n hE 1 dX13_applyTwo_g0.2.2.2.1 rfl rfl ?_
  refine m_callVi hE hm [] [] mc_taken (km_taken hm.2.2.2.2.2.2.2.2 h) (by decide) rfl rfl (Nat.le_of_ble_eq_true rfl) dX13_applyTwo_g0.2.2.2.2.1 (fun s21 r22 h => ?_)
  refine r_istore_n hE [(3, .int r22), (2, .int r20), (0, .ref (G.1 0)), (1, .int a1)] dX13_applyTwo_g0.2.2.2.2.2.1 rfl hN (by decide) rfl ?_
  refine r_iload_n hE 0 dX13_applyTwo_g0.2.2.2.2.2.2.1 rfl rfl ?_
  refine r_if_ge hE 18 dX13_applyTwo_g0.2.2.2.2.2.2.2.1 (by decide) h (fun h => ?_) (fun h => ?_)
  · refine r_aload_n hE 2 dX13_applyTwo_g0.2.2.2.2.2.2.2.2.2.2.1 rfl rfl ?_
    refine mg_sort hE hm dX13_applyTwo_g0.2.2.2.2.2.2.2.2.2.2.2.1 ?_
    refine r_iload_n hE 0 dX13_applyTwo_g0.2.2.2.2.2.2.2.2.2.2.2.2.1 rfl rfl ?_
    obtain ⟨hi, h⟩ := h
    refine ml_sort hE hm dX13_applyTwo_g0.2.2.2.2.2.2.2.2.2.2.2.2.2.1 hi ?_
    refine r_if_eq hE 31 dX13_applyTwo_g0.2.2.2.2.2.2.2.2.2.2.2.2.2.2.1 (by decide) h (fun h => ?_) (fun h => ?_)
    · refine r_iload_n hE 1 dX13_applyTwo_g1.2.1 rfl rfl ?_
      refine r_if_ge hE 39 dX13_applyTwo_g1.2.2.1 (by decide) h (fun h => ?_) (fun h => ?_)
      · refine r_aload_n hE 2 dX13_applyTwo_g1.2.2.2.2.2.1 rfl rfl ?_
        refine mg_sort hE hm dX13_applyTwo_g1.2.2.2.2.2.2.1 ?_
        refine r_iload_n hE 1 dX13_applyTwo_g1.2.2.2.2.2.2.2.1 rfl rfl ?_
        obtain ⟨hi, h⟩ := h
        refine ml_sort hE hm dX13_applyTwo_g1.2.2.2.2.2.2.2.2.1 hi ?_
        refine r_if_eq hE 52 dX13_applyTwo_g1.2.2.2.2.2.2.2.2.2.1 (by decide) h (fun h => ?_) (fun h => ?_)
        · refine r_iconst (v := (0 : Int32)) hE dX13_applyTwo_g1.2.2.2.2.2.2.2.2.2.2.2.2.1 (by decide) ?_
          refine r_pick [2, 3, 1, 0] rfl ?_
          exact km_applyTwo_53 hE hm hF _ _ _ _ _ h
        · refine r_iconst (v := (2 : Int32)) hE dX13_applyTwo_g1.2.2.2.2.2.2.2.2.2.2.1 (by decide) ?_
          refine r_goto hE 53 dX13_applyTwo_g1.2.2.2.2.2.2.2.2.2.2.2.1 (by decide) ?_
          refine r_pick [2, 3, 1, 0] rfl ?_
          exact km_applyTwo_53 hE hm hF _ _ _ _ _ h
      · refine r_iconst (v := (1 : Int32)) hE dX13_applyTwo_g1.2.2.2.1 (by decide) ?_
        refine r_goto hE 53 dX13_applyTwo_g1.2.2.2.2.1 (by decide) ?_
        refine r_pick [2, 3, 1, 0] rfl ?_
        exact km_applyTwo_53 hE hm hF _ _ _ _ _ h
    · refine r_iconst (v := (2 : Int32)) hE dX13_applyTwo_g0.2.2.2.2.2.2.2.2.2.2.2.2.2.2.2 (by decide) ?_
      refine r_goto hE 53 dX13_applyTwo_g1.1 (by decide) ?_
      refine r_pick [2, 3, 1, 0] rfl ?_
      exact km_applyTwo_53 hE hm hF _ _ _ _ _ h
  · refine r_iconst (v := (1 : Int32)) hE dX13_applyTwo_g0.2.2.2.2.2.2.2.2.1 (by decide) ?_
    refine r_goto hE 53 dX13_applyTwo_g0.2.2.2.2.2.2.2.2.2.1 (by decide) ?_
    refine r_pick [2, 3, 1, 0] rfl ?_
    exact km_applyTwo_53 hE hm hF _ _ _ _ _ h
/-! apply -/
def wm_apply_104 (post : MS → Prop) (σ : MS) : Prop := post σ
set_option maxRecDepth 20000 in
theorem km_apply_104 {E : gEnv} {l : Launch} {D : va_G} {cl : List vw_C} {G : gAd} {post : MS → Prop} (hE : gOK E cX13_apply RX13 none 10) (hm : mOK E l D cl G (qV post) 4) (hF : gFin E) (σ : MS) (h : wm_apply_104 post σ) : GW E (mW G σ) 104 [] [] := by
  unfold wm_apply_104 at h
  have hN := hm.2.2.2.2.2.2.1
  refine r_goto hE 150 dX13_apply_g3.2.2.2.2.2.2.2.2.2.2.2.2.1 (by decide) ?_
  exact m_vret hE hm hF dX13_apply_g5.2.2.2.2 h
def wm_apply_57 (post : MS → Prop) (σ : MS) (v1 : Int32) (v2 : Int32) (t0 : Int32) : Prop := ((t0 ≤ (0 : Int32)) → (vp_in ((7 : Int32) * v2) 3360 ∧ (vp_in ((7 : Int32) * v2) 3360 ∧ (vp_in v2 480 ∧ (wm_number (fun (s1 : MS) (r2 : Int32) => wm_comes (fun (s3 : MS) => wm_apply_104 post s3) s1 r2) σ (-(m_up σ ((7 : Int32) * v2).toNatClampNeg)) (m_low σ ((7 : Int32) * v2).toNatClampNeg) (m_lean σ v2.toNatClampNeg)))))) ∧ ((¬ (t0 ≤ (0 : Int32))) → (wm_fails (fun (s4 : MS) => wm_apply_104 post s4) σ t0 v1))
set_option maxRecDepth 20000 in
theorem km_apply_57 {E : gEnv} {l : Launch} {D : va_G} {cl : List vw_C} {G : gAd} {post : MS → Prop} (hE : gOK E cX13_apply RX13 none 10) (hm : mOK E l D cl G (qV post) 4) (hF : gFin E) (σ : MS) (v1 : Int32) (v2 : Int32) (t0 : Int32) (h : wm_apply_57 post σ v1 v2 t0) : GW E (mW G σ) 57 [(0, .ref (G.1 0)), (1, .int v1), (2, .int v2)] [.int t0] := by
  unfold wm_apply_57 at h
  have hN := hm.2.2.2.2.2.2.1
  refine r_istore_n hE [(3, .int t0), (0, .ref (G.1 0)), (1, .int v1), (2, .int v2)] dX13_apply_g1.2.2.2.2.2.2.2.2.2.2.2.2.2.2.2 rfl hN (by decide) rfl ?_
  refine r_iload_n hE 0 dX13_apply_g2.1 rfl rfl ?_
  refine r_if_le hE 71 dX13_apply_g2.2.1 (by decide) h (fun h => ?_) (fun h => ?_)
  · refine r_aload_n hE 1 dX13_apply_g2.2.2.2.2.2.2.2.1 rfl rfl ?_
    refine r_aload_n hE 1 dX13_apply_g2.2.2.2.2.2.2.2.2.1 rfl rfl ?_
    refine r_aload_n hE 1 dX13_apply_g2.2.2.2.2.2.2.2.2.2.1 rfl rfl ?_
    refine mg_up hE hm dX13_apply_g2.2.2.2.2.2.2.2.2.2.2.1 ?_
    refine r_bipush (v := (7 : Int32)) hE dX13_apply_g2.2.2.2.2.2.2.2.2.2.2.2.1 (by decide) ?_
    refine r_iload_n hE 3 dX13_apply_g2.2.2.2.2.2.2.2.2.2.2.2.2.1 rfl rfl ?_
    refine r_imul hE dX13_apply_g2.2.2.2.2.2.2.2.2.2.2.2.2.2.1 ?_
    obtain ⟨hi, h⟩ := h
    refine ml_up hE hm dX13_apply_g2.2.2.2.2.2.2.2.2.2.2.2.2.2.2.1 hi ?_
    refine r_lneg hE dX13_apply_g2.2.2.2.2.2.2.2.2.2.2.2.2.2.2.2 ?_
    refine r_aload_n hE 1 dX13_apply_g3.1 rfl rfl ?_
    refine mg_low hE hm dX13_apply_g3.2.1 ?_
    refine r_bipush (v := (7 : Int32)) hE dX13_apply_g3.2.2.1 (by decide) ?_
    refine r_iload_n hE 3 dX13_apply_g3.2.2.2.1 rfl rfl ?_
    refine r_imul hE dX13_apply_g3.2.2.2.2.1 ?_
    obtain ⟨hi, h⟩ := h
    refine ml_low hE hm dX13_apply_g3.2.2.2.2.2.1 hi ?_
    refine r_aload_n hE 1 dX13_apply_g3.2.2.2.2.2.2.1 rfl rfl ?_
    refine mg_lean hE hm dX13_apply_g3.2.2.2.2.2.2.2.1 ?_
    refine r_iload_n hE 3 dX13_apply_g3.2.2.2.2.2.2.2.2.1 rfl rfl ?_
    obtain ⟨hi, h⟩ := h
    refine ml_lean hE hm dX13_apply_g3.2.2.2.2.2.2.2.2.2.1 hi ?_
    refine m_callVi hE hm [.long (-(m_up σ ((7 : Int32) * v2).toNatClampNeg)), .long (m_low σ ((7 : Int32) * v2).toNatClampNeg), .int (m_lean σ v2.toNatClampNeg)] [.ref (G.1 0)] mc_number (km_number hm.2.2.2.2.2.2.2.2 h) (by decide) rfl rfl (Nat.le_of_ble_eq_true rfl) dX13_apply_g3.2.2.2.2.2.2.2.2.2.2.1 (fun s1 r2 h => ?_)
    refine m_callVv hE hm [.int r2] [] mc_comes (km_comes hm.2.2.2.2.2.2.2.2 h) (by decide) rfl rfl (Nat.le_of_ble_eq_true rfl) dX13_apply_g3.2.2.2.2.2.2.2.2.2.2.2.1 (fun s3 h => ?_)
    refine r_pick [] rfl ?_
    exact km_apply_104 hE hm hF _ h
  · refine r_aload_n hE 1 dX13_apply_g2.2.2.1 rfl rfl ?_
    refine r_iload_n hE 0 dX13_apply_g2.2.2.2.1 rfl rfl ?_
    refine r_iload_n hE 2 dX13_apply_g2.2.2.2.2.1 rfl rfl ?_
    refine m_callVv hE hm [.int t0, .int v1] [] mc_fails (km_fails hm.2.2.2.2.2.2.2.2 h) (by decide) rfl rfl (Nat.le_of_ble_eq_true rfl) dX13_apply_g2.2.2.2.2.2.1 (fun s4 h => ?_)
    refine r_goto hE 104 dX13_apply_g2.2.2.2.2.2.2.1 (by decide) ?_
    refine r_pick [] rfl ?_
    exact km_apply_104 hE hm hF _ h
def wm_apply (post : MS → Prop) (σ : MS) (a1 : Int32) : Prop := vp_in a1 600 ∧ (((¬ ((m_kind σ a1.toNatClampNeg) = (9 : Int32))) → (vp_in a1 600 ∧ (((¬ ((m_kind σ a1.toNatClampNeg) = (11 : Int32))) → (vp_in a1 600 ∧ (((¬ ((m_kind σ a1.toNatClampNeg) = (12 : Int32))) → (vp_in a1 600 ∧ ((((m_one σ a1.toNatClampNeg) < (100 : Int32)) → (wm_applyTool (fun (s5 : MS) => post s5) σ a1)) ∧ ((¬ ((m_one σ a1.toNatClampNeg) < (100 : Int32))) → (wm_applyMacro (fun (s6 : MS) => post s6) σ a1))))) ∧ (((m_kind σ a1.toNatClampNeg) = (12 : Int32)) → (wm_applyTwo (fun (s7 : MS) => post s7) σ a1))))) ∧ (((m_kind σ a1.toNatClampNeg) = (11 : Int32)) → (wm_taken (fun (s8 : MS) (r9 : Int32) => (((0 : Int32) ≤ r9) → (vp_in r9 480 ∧ ((((m_sort s8 r9.toNatClampNeg) = (0 : Int32)) → (wm_apply_57 post s8 a1 r9 (0 : Int32))) ∧ ((¬ ((m_sort s8 r9.toNatClampNeg) = (0 : Int32))) → (wm_apply_57 post s8 a1 r9 (2 : Int32)))))) ∧ ((¬ ((0 : Int32) ≤ r9)) → (wm_apply_57 post s8 a1 r9 (1 : Int32)))) σ))))) ∧ (((m_kind σ a1.toNatClampNeg) = (9 : Int32)) → (wm_applyAt (fun (s10 : MS) => post s10) σ a1)))
set_option maxRecDepth 20000 in
theorem km_apply {l : Launch} {D : va_G} {cl : List vw_C} {G : gAd} {post : MS → Prop} (hcl : mC cl) {σ : MS} {a1 : Int32} (h : wm_apply post σ a1) : mMet l D cl G yX13_apply cX13_apply 4 none 10 [.ref (G.1 0), .int a1] σ (qV post) := by
  unfold wm_apply at h
  refine m_enter hcl (by decide +kernel) rfl [(0, .ref (G.1 0)), (1, .int a1)] rfl (Nat.le_of_ble_eq_true rfl) ?_
  intro E hE hm hF
  have hN := hm.2.2.2.2.2.2.1
  refine r_aload_n hE 0 dX13_apply_g0.1 rfl rfl ?_
  refine mg_kind hE hm dX13_apply_g0.2.1 ?_
  refine r_iload_n hE 1 dX13_apply_g0.2.2.1 rfl rfl ?_
  obtain ⟨hi, h⟩ := h
  refine ml_kind hE hm dX13_apply_g0.2.2.2.1 hi ?_
  refine r_bipush (v := (9 : Int32)) hE dX13_apply_g0.2.2.2.2.1 (by decide) ?_
  refine r_icmp_ne hE 19 dX13_apply_g0.2.2.2.2.2.1 (by decide) h (fun h => ?_) (fun h => ?_)
  · refine r_aload_n hE 0 dX13_apply_g0.2.2.2.2.2.2.2.2.2.2.1 rfl rfl ?_
    refine mg_kind hE hm dX13_apply_g0.2.2.2.2.2.2.2.2.2.2.2.1 ?_
    refine r_iload_n hE 1 dX13_apply_g0.2.2.2.2.2.2.2.2.2.2.2.2.1 rfl rfl ?_
    obtain ⟨hi, h⟩ := h
    refine ml_kind hE hm dX13_apply_g0.2.2.2.2.2.2.2.2.2.2.2.2.2.1 hi ?_
    refine r_bipush (v := (11 : Int32)) hE dX13_apply_g0.2.2.2.2.2.2.2.2.2.2.2.2.2.2.1 (by decide) ?_
    refine r_icmp_ne hE 107 dX13_apply_g0.2.2.2.2.2.2.2.2.2.2.2.2.2.2.2 (by decide) h (fun h => ?_) (fun h => ?_)
    · refine r_aload_n hE 0 dX13_apply_g3.2.2.2.2.2.2.2.2.2.2.2.2.2.1 rfl rfl ?_
      refine mg_kind hE hm dX13_apply_g3.2.2.2.2.2.2.2.2.2.2.2.2.2.2.1 ?_
      refine r_iload_n hE 1 dX13_apply_g3.2.2.2.2.2.2.2.2.2.2.2.2.2.2.2 rfl rfl ?_
      obtain ⟨hi, h⟩ := h
      refine ml_kind hE hm dX13_apply_g4.1 hi ?_
      refine r_bipush (v := (12 : Int32)) hE dX13_apply_g4.2.1 (by decide) ?_
      refine r_icmp_ne hE 126 dX13_apply_g4.2.2.1 (by decide) h (fun h => ?_) (fun h => ?_)
      · refine r_aload_n hE 0 dX13_apply_g4.2.2.2.2.2.2.2.1 rfl rfl ?_
        refine mg_one hE hm dX13_apply_g4.2.2.2.2.2.2.2.2.1 ?_
        refine r_iload_n hE 1 dX13_apply_g4.2.2.2.2.2.2.2.2.2.1 rfl rfl ?_
        obtain ⟨hi, h⟩ := h
        refine ml_one hE hm dX13_apply_g4.2.2.2.2.2.2.2.2.2.2.1 hi ?_
        refine r_bipush (v := (100 : Int32)) hE dX13_apply_g4.2.2.2.2.2.2.2.2.2.2.2.1 (by decide) ?_
        refine r_icmp_lt hE 145 dX13_apply_g4.2.2.2.2.2.2.2.2.2.2.2.2.1 (by decide) h (fun h => ?_) (fun h => ?_)
        · refine r_aload_n hE 0 dX13_apply_g5.2.1 rfl rfl ?_
          refine r_iload_n hE 1 dX13_apply_g5.2.2.1 rfl rfl ?_
          refine m_callVv hE hm [.int a1] [] mc_applyTool (km_applyTool hm.2.2.2.2.2.2.2.2 h) (by decide) rfl rfl (Nat.le_of_ble_eq_true rfl) dX13_apply_g5.2.2.2.1 (fun s5 h => ?_)
          exact m_vret hE hm hF dX13_apply_g5.2.2.2.2 h
        · refine r_aload_n hE 0 dX13_apply_g4.2.2.2.2.2.2.2.2.2.2.2.2.2.1 rfl rfl ?_
          refine r_iload_n hE 1 dX13_apply_g4.2.2.2.2.2.2.2.2.2.2.2.2.2.2.1 rfl rfl ?_
          refine m_callVv hE hm [.int a1] [] mc_applyMacro (km_applyMacro hm.2.2.2.2.2.2.2.2 h) (by decide) rfl rfl (Nat.le_of_ble_eq_true rfl) dX13_apply_g4.2.2.2.2.2.2.2.2.2.2.2.2.2.2.2 (fun s6 h => ?_)
          refine r_goto hE 150 dX13_apply_g5.1 (by decide) ?_
          exact m_vret hE hm hF dX13_apply_g5.2.2.2.2 h
      · refine r_aload_n hE 0 dX13_apply_g4.2.2.2.1 rfl rfl ?_
        refine r_iload_n hE 1 dX13_apply_g4.2.2.2.2.1 rfl rfl ?_
        refine m_callVv hE hm [.int a1] [] mc_applyTwo (km_applyTwo hm.2.2.2.2.2.2.2.2 h) (by decide) rfl rfl (Nat.le_of_ble_eq_true rfl) dX13_apply_g4.2.2.2.2.2.1 (fun s7 h => ?_)
        refine r_goto hE 150 dX13_apply_g4.2.2.2.2.2.2.1 (by decide) ?_
        exact m_vret hE hm hF dX13_apply_g5.2.2.2.2 h
    · refine r_aload_n hE 0 dX13_apply_g1.1 rfl rfl ?_
      refine m_callVi hE hm [] [] mc_taken (km_taken hm.2.2.2.2.2.2.2.2 h) (by decide) rfl rfl (Nat.le_of_ble_eq_true rfl) dX13_apply_g1.2.1 (fun s8 r9 h => ?_)
      refine r_istore_n hE [(2, .int r9), (0, .ref (G.1 0)), (1, .int a1)] dX13_apply_g1.2.2.1 rfl hN (by decide) rfl ?_
      refine r_iload_n hE 0 dX13_apply_g1.2.2.2.1 rfl rfl ?_
      refine r_if_ge hE 43 dX13_apply_g1.2.2.2.2.1 (by decide) h (fun h => ?_) (fun h => ?_)
      · refine r_aload_n hE 1 dX13_apply_g1.2.2.2.2.2.2.2.1 rfl rfl ?_
        refine mg_sort hE hm dX13_apply_g1.2.2.2.2.2.2.2.2.1 ?_
        refine r_iload_n hE 0 dX13_apply_g1.2.2.2.2.2.2.2.2.2.1 rfl rfl ?_
        obtain ⟨hi, h⟩ := h
        refine ml_sort hE hm dX13_apply_g1.2.2.2.2.2.2.2.2.2.2.1 hi ?_
        refine r_if_eq hE 56 dX13_apply_g1.2.2.2.2.2.2.2.2.2.2.2.1 (by decide) h (fun h => ?_) (fun h => ?_)
        · refine r_iconst (v := (0 : Int32)) hE dX13_apply_g1.2.2.2.2.2.2.2.2.2.2.2.2.2.2.1 (by decide) ?_
          refine r_pick [1, 2, 0] rfl ?_
          exact km_apply_57 hE hm hF _ _ _ _ h
        · refine r_iconst (v := (2 : Int32)) hE dX13_apply_g1.2.2.2.2.2.2.2.2.2.2.2.2.1 (by decide) ?_
          refine r_goto hE 57 dX13_apply_g1.2.2.2.2.2.2.2.2.2.2.2.2.2.1 (by decide) ?_
          refine r_pick [1, 2, 0] rfl ?_
          exact km_apply_57 hE hm hF _ _ _ _ h
      · refine r_iconst (v := (1 : Int32)) hE dX13_apply_g1.2.2.2.2.2.1 (by decide) ?_
        refine r_goto hE 57 dX13_apply_g1.2.2.2.2.2.2.1 (by decide) ?_
        refine r_pick [1, 2, 0] rfl ?_
        exact km_apply_57 hE hm hF _ _ _ _ h
  · refine r_aload_n hE 0 dX13_apply_g0.2.2.2.2.2.2.1 rfl rfl ?_
    refine r_iload_n hE 1 dX13_apply_g0.2.2.2.2.2.2.2.1 rfl rfl ?_
    refine m_callVv hE hm [.int a1] [] mc_applyAt (km_applyAt hm.2.2.2.2.2.2.2.2 h) (by decide) rfl rfl (Nat.le_of_ble_eq_true rfl) dX13_apply_g0.2.2.2.2.2.2.2.2.1 (fun s10 h => ?_)
    refine r_goto hE 150 dX13_apply_g0.2.2.2.2.2.2.2.2.2.1 (by decide) ?_
    exact m_vret hE hm hF dX13_apply_g5.2.2.2.2 h
/-! beginDeed -/
def wm_beginDeed_81 (post : MS → Prop) (σ : MS) (v1 : Int32) : Prop := vp_in v1 600 ∧ (wm_later (fun (s1 : MS) => vp_in v1 600 ∧ (((¬ ((m_kind s1 v1.toNatClampNeg) = (1 : Int32))) → (post s1)) ∧ (((m_kind s1 v1.toNatClampNeg) = (1 : Int32)) → (vp_in v1 600 ∧ (wm_later (fun (s2 : MS) => post s2) s1 (1 : Int32) (m_two s1 v1.toNatClampNeg) (0 : Int64)))))) σ (1 : Int32) (m_three σ v1.toNatClampNeg) (0 : Int64))
set_option maxRecDepth 20000 in
theorem km_beginDeed_81 {E : gEnv} {l : Launch} {D : va_G} {cl : List vw_C} {G : gAd} {post : MS → Prop} (hE : gOK E cX13_beginDeed RX13 none 2) (hm : mOK E l D cl G (qV post) 2) (hF : gFin E) (σ : MS) (v1 : Int32) (h : wm_beginDeed_81 post σ v1) : GW E (mW G σ) 81 [(0, .ref (G.1 0)), (1, .int v1)] [] := by
  unfold wm_beginDeed_81 at h
  have hN := hm.2.2.2.2.2.2.1
  refine r_aload_n hE 0 dX13_beginDeed_g2.2.2.2.2.2.2.2.2.2.2.2.2.2.2.1 rfl rfl ?_
  refine r_iconst (v := (1 : Int32)) hE dX13_beginDeed_g2.2.2.2.2.2.2.2.2.2.2.2.2.2.2.2 (by decide) ?_
  refine r_aload_n hE 0 dX13_beginDeed_g3.1 rfl rfl ?_
  refine mg_three hE hm dX13_beginDeed_g3.2.1 ?_
  refine r_iload_n hE 1 dX13_beginDeed_g3.2.2.1 rfl rfl ?_
  obtain ⟨hi, h⟩ := h
  refine ml_three hE hm dX13_beginDeed_g3.2.2.2.1 hi ?_
  refine r_lconst (v := (0 : Int64)) hE dX13_beginDeed_g3.2.2.2.2.1 (by decide) ?_
  refine m_callVv hE hm [.int (1 : Int32), .int (m_three σ v1.toNatClampNeg), .long (0 : Int64)] [] mc_later (km_later hm.2.2.2.2.2.2.2.2 h) (by decide) rfl rfl (Nat.le_of_ble_eq_true rfl) dX13_beginDeed_g3.2.2.2.2.2.1 (fun s1 h => ?_)
  refine r_aload_n hE 0 dX13_beginDeed_g3.2.2.2.2.2.2.1 rfl rfl ?_
  refine mg_kind hE hm dX13_beginDeed_g3.2.2.2.2.2.2.2.1 ?_
  refine r_iload_n hE 1 dX13_beginDeed_g3.2.2.2.2.2.2.2.2.1 rfl rfl ?_
  obtain ⟨hi, h⟩ := h
  refine ml_kind hE hm dX13_beginDeed_g3.2.2.2.2.2.2.2.2.2.1 hi ?_
  refine r_iconst (v := (1 : Int32)) hE dX13_beginDeed_g3.2.2.2.2.2.2.2.2.2.2.1 (by decide) ?_
  refine r_icmp_ne hE 130 dX13_beginDeed_g3.2.2.2.2.2.2.2.2.2.2.2.1 (by decide) h (fun h => ?_) (fun h => ?_)
  · exact m_vret hE hm hF dX13_beginDeed_g4.2.2.2.2.2.2.2.2.2.2.2.2.2 h
  · refine r_aload_n hE 0 dX13_beginDeed_g3.2.2.2.2.2.2.2.2.2.2.2.2.1 rfl rfl ?_
    refine r_iconst (v := (1 : Int32)) hE dX13_beginDeed_g3.2.2.2.2.2.2.2.2.2.2.2.2.2.1 (by decide) ?_
    refine r_aload_n hE 0 dX13_beginDeed_g3.2.2.2.2.2.2.2.2.2.2.2.2.2.2.1 rfl rfl ?_
    refine mg_two hE hm dX13_beginDeed_g3.2.2.2.2.2.2.2.2.2.2.2.2.2.2.2 ?_
    refine r_iload_n hE 1 dX13_beginDeed_g4.1 rfl rfl ?_
    obtain ⟨hi, h⟩ := h
    refine ml_two hE hm dX13_beginDeed_g4.2.1 hi ?_
    refine r_lconst (v := (0 : Int64)) hE dX13_beginDeed_g4.2.2.1 (by decide) ?_
    refine m_callVv hE hm [.int (1 : Int32), .int (m_two s1 v1.toNatClampNeg), .long (0 : Int64)] [] mc_later (km_later hm.2.2.2.2.2.2.2.2 h) (by decide) rfl rfl (Nat.le_of_ble_eq_true rfl) dX13_beginDeed_g4.2.2.2.1 (fun s2 h => ?_)
    refine r_goto hE 130 dX13_beginDeed_g4.2.2.2.2.1 (by decide) ?_
    exact m_vret hE hm hF dX13_beginDeed_g4.2.2.2.2.2.2.2.2.2.2.2.2.2 h
def wm_beginDeed_51 (post : MS → Prop) (σ : MS) (v1 : Int32) : Prop := wm_later (fun (s3 : MS) => vp_in v1 600 ∧ ((((m_kind s3 v1.toNatClampNeg) = (0 : Int32)) → (wm_beginDeed_81 post s3 v1)) ∧ ((¬ ((m_kind s3 v1.toNatClampNeg) = (0 : Int32))) → (vp_in v1 600 ∧ (((¬ ((m_kind s3 v1.toNatClampNeg) = (1 : Int32))) → (vp_in v1 600 ∧ (wm_later (fun (s4 : MS) => post s4) s3 (1 : Int32) (m_one s3 v1.toNatClampNeg) (0 : Int64)))) ∧ (((m_kind s3 v1.toNatClampNeg) = (1 : Int32)) → (wm_beginDeed_81 post s3 v1))))))) σ (3 : Int32) v1 ((m_comes σ).toInt64)
set_option maxRecDepth 20000 in
theorem km_beginDeed_51 {E : gEnv} {l : Launch} {D : va_G} {cl : List vw_C} {G : gAd} {post : MS → Prop} (hE : gOK E cX13_beginDeed RX13 none 2) (hm : mOK E l D cl G (qV post) 2) (hF : gFin E) (σ : MS) (v1 : Int32) (h : wm_beginDeed_51 post σ v1) : GW E (mW G σ) 51 [(0, .ref (G.1 0)), (1, .int v1)] [] := by
  unfold wm_beginDeed_51 at h
  have hN := hm.2.2.2.2.2.2.1
  refine r_aload_n hE 0 dX13_beginDeed_g1.2.2.2.2.2.2.2.2.2.2.2.2.1 rfl rfl ?_
  refine r_iconst (v := (3 : Int32)) hE dX13_beginDeed_g1.2.2.2.2.2.2.2.2.2.2.2.2.2.1 (by decide) ?_
  refine r_iload_n hE 1 dX13_beginDeed_g1.2.2.2.2.2.2.2.2.2.2.2.2.2.2.1 rfl rfl ?_
  refine r_aload_n hE 0 dX13_beginDeed_g1.2.2.2.2.2.2.2.2.2.2.2.2.2.2.2 rfl rfl ?_
  refine mg_comes hE hm dX13_beginDeed_g2.1 ?_
  refine r_i2l hE dX13_beginDeed_g2.2.1 ?_
  refine m_callVv hE hm [.int (3 : Int32), .int v1, .long ((m_comes σ).toInt64)] [] mc_later (km_later hm.2.2.2.2.2.2.2.2 h) (by decide) rfl rfl (Nat.le_of_ble_eq_true rfl) dX13_beginDeed_g2.2.2.1 (fun s3 h => ?_)
  refine r_aload_n hE 0 dX13_beginDeed_g2.2.2.2.1 rfl rfl ?_
  refine mg_kind hE hm dX13_beginDeed_g2.2.2.2.2.1 ?_
  refine r_iload_n hE 1 dX13_beginDeed_g2.2.2.2.2.2.1 rfl rfl ?_
  obtain ⟨hi, h⟩ := h
  refine ml_kind hE hm dX13_beginDeed_g2.2.2.2.2.2.2.1 hi ?_
  refine r_if_eq hE 81 dX13_beginDeed_g2.2.2.2.2.2.2.2.1 (by decide) h (fun h => ?_) (fun h => ?_)
  · exact km_beginDeed_81 hE hm hF _ _ h
  · refine r_aload_n hE 0 dX13_beginDeed_g2.2.2.2.2.2.2.2.2.1 rfl rfl ?_
    refine mg_kind hE hm dX13_beginDeed_g2.2.2.2.2.2.2.2.2.2.1 ?_
    refine r_iload_n hE 1 dX13_beginDeed_g2.2.2.2.2.2.2.2.2.2.2.1 rfl rfl ?_
    obtain ⟨hi, h⟩ := h
    refine ml_kind hE hm dX13_beginDeed_g2.2.2.2.2.2.2.2.2.2.2.2.1 hi ?_
    refine r_iconst (v := (1 : Int32)) hE dX13_beginDeed_g2.2.2.2.2.2.2.2.2.2.2.2.2.1 (by decide) ?_
    refine r_icmp_ne hE 118 dX13_beginDeed_g2.2.2.2.2.2.2.2.2.2.2.2.2.2.1 (by decide) h (fun h => ?_) (fun h => ?_)
    · refine r_aload_n hE 0 dX13_beginDeed_g4.2.2.2.2.2.1 rfl rfl ?_
      refine r_iconst (v := (1 : Int32)) hE dX13_beginDeed_g4.2.2.2.2.2.2.1 (by decide) ?_
      refine r_aload_n hE 0 dX13_beginDeed_g4.2.2.2.2.2.2.2.1 rfl rfl ?_
      refine mg_one hE hm dX13_beginDeed_g4.2.2.2.2.2.2.2.2.1 ?_
      refine r_iload_n hE 1 dX13_beginDeed_g4.2.2.2.2.2.2.2.2.2.1 rfl rfl ?_
      obtain ⟨hi, h⟩ := h
      refine ml_one hE hm dX13_beginDeed_g4.2.2.2.2.2.2.2.2.2.2.1 hi ?_
      refine r_lconst (v := (0 : Int64)) hE dX13_beginDeed_g4.2.2.2.2.2.2.2.2.2.2.2.1 (by decide) ?_
      refine m_callVv hE hm [.int (1 : Int32), .int (m_one s3 v1.toNatClampNeg), .long (0 : Int64)] [] mc_later (km_later hm.2.2.2.2.2.2.2.2 h) (by decide) rfl rfl (Nat.le_of_ble_eq_true rfl) dX13_beginDeed_g4.2.2.2.2.2.2.2.2.2.2.2.2.1 (fun s4 h => ?_)
      exact m_vret hE hm hF dX13_beginDeed_g4.2.2.2.2.2.2.2.2.2.2.2.2.2 h
    · exact km_beginDeed_81 hE hm hF _ _ h
def wm_beginDeed_38 (post : MS → Prop) (σ : MS) (v1 : Int32) : Prop := vp_in v1 600 ∧ (wm_note (fun (s5 : MS) => post s5) σ (9 : Int32) (m_byteOf σ v1.toNatClampNeg))
set_option maxRecDepth 20000 in
theorem km_beginDeed_38 {E : gEnv} {l : Launch} {D : va_G} {cl : List vw_C} {G : gAd} {post : MS → Prop} (hE : gOK E cX13_beginDeed RX13 none 2) (hm : mOK E l D cl G (qV post) 2) (hF : gFin E) (σ : MS) (v1 : Int32) (h : wm_beginDeed_38 post σ v1) : GW E (mW G σ) 38 [(0, .ref (G.1 0)), (1, .int v1)] [] := by
  unfold wm_beginDeed_38 at h
  have hN := hm.2.2.2.2.2.2.1
  refine r_aload_n hE 0 dX13_beginDeed_g1.2.2.2.2.1 rfl rfl ?_
  refine r_bipush (v := (9 : Int32)) hE dX13_beginDeed_g1.2.2.2.2.2.1 (by decide) ?_
  refine r_aload_n hE 0 dX13_beginDeed_g1.2.2.2.2.2.2.1 rfl rfl ?_
  refine mg_byteOf hE hm dX13_beginDeed_g1.2.2.2.2.2.2.2.1 ?_
  refine r_iload_n hE 1 dX13_beginDeed_g1.2.2.2.2.2.2.2.2.1 rfl rfl ?_
  obtain ⟨hi, h⟩ := h
  refine ml_byteOf hE hm dX13_beginDeed_g1.2.2.2.2.2.2.2.2.2.1 hi ?_
  refine m_callVv hE hm [.int (9 : Int32), .int (m_byteOf σ v1.toNatClampNeg)] [] mc_note (km_note hm.2.2.2.2.2.2.2.2 h) (by decide) rfl rfl (Nat.le_of_ble_eq_true rfl) dX13_beginDeed_g1.2.2.2.2.2.2.2.2.2.2.1 (fun s5 h => ?_)
  exact m_vret hE hm hF dX13_beginDeed_g1.2.2.2.2.2.2.2.2.2.2.2.1 h
def wm_beginDeed_19 (post : MS → Prop) (σ : MS) (v1 : Int32) : Prop := vp_in v1 600 ∧ (((¬ ((m_kind σ v1.toNatClampNeg) = (5 : Int32))) → (wm_beginDeed_51 post σ v1)) ∧ (((m_kind σ v1.toNatClampNeg) = (5 : Int32)) → (((¬ ((m_drawnMany σ) = (40 : Int32))) → (wm_beginDeed_51 post σ v1)) ∧ (((m_drawnMany σ) = (40 : Int32)) → (wm_beginDeed_38 post σ v1)))))
set_option maxRecDepth 20000 in
theorem km_beginDeed_19 {E : gEnv} {l : Launch} {D : va_G} {cl : List vw_C} {G : gAd} {post : MS → Prop} (hE : gOK E cX13_beginDeed RX13 none 2) (hm : mOK E l D cl G (qV post) 2) (hF : gFin E) (σ : MS) (v1 : Int32) (h : wm_beginDeed_19 post σ v1) : GW E (mW G σ) 19 [(0, .ref (G.1 0)), (1, .int v1)] [] := by
  unfold wm_beginDeed_19 at h
  have hN := hm.2.2.2.2.2.2.1
  refine r_aload_n hE 0 dX13_beginDeed_g0.2.2.2.2.2.2.2.2.2.2.1 rfl rfl ?_
  refine mg_kind hE hm dX13_beginDeed_g0.2.2.2.2.2.2.2.2.2.2.2.1 ?_
  refine r_iload_n hE 1 dX13_beginDeed_g0.2.2.2.2.2.2.2.2.2.2.2.2.1 rfl rfl ?_
  obtain ⟨hi, h⟩ := h
  refine ml_kind hE hm dX13_beginDeed_g0.2.2.2.2.2.2.2.2.2.2.2.2.2.1 hi ?_
  refine r_iconst (v := (5 : Int32)) hE dX13_beginDeed_g0.2.2.2.2.2.2.2.2.2.2.2.2.2.2.1 (by decide) ?_
  refine r_icmp_ne hE 51 dX13_beginDeed_g0.2.2.2.2.2.2.2.2.2.2.2.2.2.2.2 (by decide) h (fun h => ?_) (fun h => ?_)
  · exact km_beginDeed_51 hE hm hF _ _ h
  · refine r_aload_n hE 0 dX13_beginDeed_g1.1 rfl rfl ?_
    refine mg_drawnMany hE hm dX13_beginDeed_g1.2.1 ?_
    refine r_bipush (v := (40 : Int32)) hE dX13_beginDeed_g1.2.2.1 (by decide) ?_
    refine r_icmp_ne hE 51 dX13_beginDeed_g1.2.2.2.1 (by decide) h (fun h => ?_) (fun h => ?_)
    · exact km_beginDeed_51 hE hm hF _ _ h
    · exact km_beginDeed_38 hE hm hF _ _ h
def wm_beginDeed (post : MS → Prop) (σ : MS) (a1 : Int32) : Prop := vp_in a1 600 ∧ (((¬ ((m_kind σ a1.toNatClampNeg) = (4 : Int32))) → (wm_beginDeed_19 post σ a1)) ∧ (((m_kind σ a1.toNatClampNeg) = (4 : Int32)) → ((((m_statedMany σ) = (40 : Int32)) → (wm_beginDeed_38 post σ a1)) ∧ ((¬ ((m_statedMany σ) = (40 : Int32))) → (wm_beginDeed_19 post σ a1)))))
set_option maxRecDepth 20000 in
theorem km_beginDeed {l : Launch} {D : va_G} {cl : List vw_C} {G : gAd} {post : MS → Prop} (hcl : mC cl) {σ : MS} {a1 : Int32} (h : wm_beginDeed post σ a1) : mMet l D cl G yX13_beginDeed cX13_beginDeed 2 none 2 [.ref (G.1 0), .int a1] σ (qV post) := by
  unfold wm_beginDeed at h
  refine m_enter hcl (by decide +kernel) rfl [(0, .ref (G.1 0)), (1, .int a1)] rfl (Nat.le_of_ble_eq_true rfl) ?_
  intro E hE hm hF
  have hN := hm.2.2.2.2.2.2.1
  refine r_aload_n hE 0 dX13_beginDeed_g0.1 rfl rfl ?_
  refine mg_kind hE hm dX13_beginDeed_g0.2.1 ?_
  refine r_iload_n hE 1 dX13_beginDeed_g0.2.2.1 rfl rfl ?_
  obtain ⟨hi, h⟩ := h
  refine ml_kind hE hm dX13_beginDeed_g0.2.2.2.1 hi ?_
  refine r_iconst (v := (4 : Int32)) hE dX13_beginDeed_g0.2.2.2.2.1 (by decide) ?_
  refine r_icmp_ne hE 19 dX13_beginDeed_g0.2.2.2.2.2.1 (by decide) h (fun h => ?_) (fun h => ?_)
  · exact km_beginDeed_19 hE hm hF _ _ h
  · refine r_aload_n hE 0 dX13_beginDeed_g0.2.2.2.2.2.2.1 rfl rfl ?_
    refine mg_statedMany hE hm dX13_beginDeed_g0.2.2.2.2.2.2.2.1 ?_
    refine r_bipush (v := (40 : Int32)) hE dX13_beginDeed_g0.2.2.2.2.2.2.2.2.1 (by decide) ?_
    refine r_icmp_eq hE 38 dX13_beginDeed_g0.2.2.2.2.2.2.2.2.2.1 (by decide) h (fun h => ?_) (fun h => ?_)
    · exact km_beginDeed_38 hE hm hF _ _ h
    · exact km_beginDeed_19 hE hm hF _ _ h
/-! falls -/
def wm_falls (post : MS → Prop) (σ : MS) (a1 : Int32) (a2 : Int32) : Prop := vp_in a2 600 ∧ (wm_note (fun (s1 : MS) => ((¬ ((m_spent s1) = (0 : Int32))) → (post s1)) ∧ (((m_spent s1) = (0 : Int32)) → (wm_behindFall (fun (s2 : MS) => post s2) s1 a2))) σ a1 (m_byteOf σ a2.toNatClampNeg))
set_option maxRecDepth 20000 in
theorem km_falls {l : Launch} {D : va_G} {cl : List vw_C} {G : gAd} {post : MS → Prop} (hcl : mC cl) {σ : MS} {a1 : Int32} {a2 : Int32} (h : wm_falls post σ a1 a2) : mMet l D cl G yX13_falls cX13_falls 3 none 3 [.ref (G.1 0), .int a1, .int a2] σ (qV post) := by
  unfold wm_falls at h
  refine m_enter hcl (by decide +kernel) rfl [(0, .ref (G.1 0)), (1, .int a1), (2, .int a2)] rfl (Nat.le_of_ble_eq_true rfl) ?_
  intro E hE hm hF
  have hN := hm.2.2.2.2.2.2.1
  refine r_aload_n hE 0 dX13_falls_g0.1 rfl rfl ?_
  refine r_iload_n hE 1 dX13_falls_g0.2.1 rfl rfl ?_
  refine r_aload_n hE 0 dX13_falls_g0.2.2.1 rfl rfl ?_
  refine mg_byteOf hE hm dX13_falls_g0.2.2.2.1 ?_
  refine r_iload_n hE 2 dX13_falls_g0.2.2.2.2.1 rfl rfl ?_
  obtain ⟨hi, h⟩ := h
  refine ml_byteOf hE hm dX13_falls_g0.2.2.2.2.2.1 hi ?_
  refine m_callVv hE hm [.int a1, .int (m_byteOf σ a2.toNatClampNeg)] [] mc_note (km_note hm.2.2.2.2.2.2.2.2 h) (by decide) rfl rfl (Nat.le_of_ble_eq_true rfl) dX13_falls_g0.2.2.2.2.2.2.1 (fun s1 h => ?_)
  refine r_aload_n hE 0 dX13_falls_g0.2.2.2.2.2.2.2.1 rfl rfl ?_
  refine mg_spent hE hm dX13_falls_g0.2.2.2.2.2.2.2.2.1 ?_
  refine r_if_ne hE 23 dX13_falls_g0.2.2.2.2.2.2.2.2.2.1 (by decide) h (fun h => ?_) (fun h => ?_)
  · exact m_vret hE hm hF dX13_falls_g0.2.2.2.2.2.2.2.2.2.2.2.2.2 h
  · refine r_aload_n hE 0 dX13_falls_g0.2.2.2.2.2.2.2.2.2.2.1 rfl rfl ?_
    refine r_iload_n hE 2 dX13_falls_g0.2.2.2.2.2.2.2.2.2.2.2.1 rfl rfl ?_
    refine m_callVv hE hm [.int a2] [] mc_behindFall (km_behindFall hm.2.2.2.2.2.2.2.2 h) (by decide) rfl rfl (Nat.le_of_ble_eq_true rfl) dX13_falls_g0.2.2.2.2.2.2.2.2.2.2.2.2.1 (fun s2 h => ?_)
    exact m_vret hE hm hF dX13_falls_g0.2.2.2.2.2.2.2.2.2.2.2.2.2 h
/-! endNumber -/
def wm_endNumber_165 (post : MS → Prop) (σ : MS) (t1 : Int32) (t2 : Int32) : Prop := wm_later (fun (s1 : MS) => post s1) σ t1 t2 (0 : Int64)
set_option maxRecDepth 20000 in
theorem km_endNumber_165 {E : gEnv} {l : Launch} {D : va_G} {cl : List vw_C} {G : gAd} {post : MS → Prop} (hE : gOK E cX13_endNumber RX13 none 4) (hm : mOK E l D cl G (qV post) 4) (hF : gFin E) (σ : MS) (t1 : Int32) (t2 : Int32) (h : wm_endNumber_165 post σ t1 t2) : GW E (mW G σ) 165 [] [.int t2, .int t1, .ref (G.1 0)] := by
  unfold wm_endNumber_165 at h
  have hN := hm.2.2.2.2.2.2.1
  refine r_lconst (v := (0 : Int64)) hE dX13_endNumber_g6.2.2.2.1 (by decide) ?_
  refine m_callVv hE hm [.int t1, .int t2, .long (0 : Int64)] [] mc_later (km_later hm.2.2.2.2.2.2.2.2 h) (by decide) rfl rfl (Nat.le_of_ble_eq_true rfl) dX13_endNumber_g6.2.2.2.2.1 (fun s1 h => ?_)
  refine r_goto hE 187 dX13_endNumber_g6.2.2.2.2.2.1 (by decide) ?_
  exact m_vret hE hm hF dX13_endNumber_g7 h
def wm_endNumber_118 (post : MS → Prop) (σ : MS) (t1 : Int32) : Prop := wm_show (fun (s2 : MS) => post s2) σ t1
set_option maxRecDepth 20000 in
theorem km_endNumber_118 {E : gEnv} {l : Launch} {D : va_G} {cl : List vw_C} {G : gAd} {post : MS → Prop} (hE : gOK E cX13_endNumber RX13 none 4) (hm : mOK E l D cl G (qV post) 4) (hF : gFin E) (σ : MS) (t1 : Int32) (h : wm_endNumber_118 post σ t1) : GW E (mW G σ) 118 [] [.int t1, .ref (G.1 0)] := by
  unfold wm_endNumber_118 at h
  have hN := hm.2.2.2.2.2.2.1
  refine m_callVv hE hm [.int t1] [] mc_show (km_show hm.2.2.2.2.2.2.2.2 h) (by decide) rfl rfl (Nat.le_of_ble_eq_true rfl) dX13_endNumber_g4.2.2.2.2.2.2.2.1 (fun s2 h => ?_)
  refine r_goto hE 187 dX13_endNumber_g4.2.2.2.2.2.2.2.2.1 (by decide) ?_
  exact m_vret hE hm hF dX13_endNumber_g7 h
def wm_endNumber_75 (post : MS → Prop) (σ : MS) (v1 : Int32) (v2 : Int32) (v3 : Int32) : Prop := ((v3 ≤ (0 : Int32)) → (vp_in v1 600 ∧ (((¬ ((m_kind σ v1.toNatClampNeg) = (4 : Int32))) → (vp_in v1 600 ∧ (((¬ ((m_kind σ v1.toNatClampNeg) = (2 : Int32))) → (vp_in ((7 : Int32) * v2) 3360 ∧ (wm_later (fun (s3 : MS) => post s3) σ (4 : Int32) v1 (m_up σ ((7 : Int32) * v2).toNatClampNeg)))) ∧ (((m_kind σ v1.toNatClampNeg) = (2 : Int32)) → (vp_in ((7 : Int32) * v2) 3360 ∧ ((((lg_cmp (m_up σ ((7 : Int32) * v2).toNatClampNeg) (0 : Int64)) = (0 : Int32)) → (vp_in v1 600 ∧ (wm_endNumber_165 post σ (0 : Int32) (m_three σ v1.toNatClampNeg)))) ∧ ((¬ ((lg_cmp (m_up σ ((7 : Int32) * v2).toNatClampNeg) (0 : Int64)) = (0 : Int32))) → (vp_in v1 600 ∧ (wm_endNumber_165 post σ (0 : Int32) (m_two σ v1.toNatClampNeg)))))))))) ∧ (((m_kind σ v1.toNatClampNeg) = (4 : Int32)) → (vp_in ((7 : Int32) * v2) 3360 ∧ ((((lg_cmp (m_up σ ((7 : Int32) * v2).toNatClampNeg) (0 : Int64)) = (0 : Int32)) → (wm_endNumber_118 post σ (0 : Int32))) ∧ ((¬ ((lg_cmp (m_up σ ((7 : Int32) * v2).toNatClampNeg) (0 : Int64)) = (0 : Int32))) → (wm_endNumber_118 post σ (1 : Int32))))))))) ∧ ((¬ (v3 ≤ (0 : Int32))) → (wm_falls (fun (s4 : MS) => post s4) σ v3 v1))
set_option maxRecDepth 20000 in
theorem km_endNumber_75 {E : gEnv} {l : Launch} {D : va_G} {cl : List vw_C} {G : gAd} {post : MS → Prop} (hE : gOK E cX13_endNumber RX13 none 4) (hm : mOK E l D cl G (qV post) 4) (hF : gFin E) (σ : MS) (v1 : Int32) (v2 : Int32) (v3 : Int32) (h : wm_endNumber_75 post σ v1 v2 v3) : GW E (mW G σ) 75 [(0, .ref (G.1 0)), (1, .int v1), (2, .int v2), (3, .int v3)] [] := by
  unfold wm_endNumber_75 at h
  have hN := hm.2.2.2.2.2.2.1
  refine r_iload_n hE 3 dX13_endNumber_g2.2.2.2.2.2.2.2.2.2.2.2.2.2.1 rfl rfl ?_
  refine r_if_le hE 88 dX13_endNumber_g2.2.2.2.2.2.2.2.2.2.2.2.2.2.2.1 (by decide) h (fun h => ?_) (fun h => ?_)
  · refine r_aload_n hE 0 dX13_endNumber_g3.2.2.2.2.1 rfl rfl ?_
    refine mg_kind hE hm dX13_endNumber_g3.2.2.2.2.2.1 ?_
    refine r_iload_n hE 1 dX13_endNumber_g3.2.2.2.2.2.2.1 rfl rfl ?_
    obtain ⟨hi, h⟩ := h
    refine ml_kind hE hm dX13_endNumber_g3.2.2.2.2.2.2.2.1 hi ?_
    refine r_iconst (v := (4 : Int32)) hE dX13_endNumber_g3.2.2.2.2.2.2.2.2.1 (by decide) ?_
    refine r_icmp_ne hE 124 dX13_endNumber_g3.2.2.2.2.2.2.2.2.2.1 (by decide) h (fun h => ?_) (fun h => ?_)
    · refine r_aload_n hE 0 dX13_endNumber_g4.2.2.2.2.2.2.2.2.2.1 rfl rfl ?_
      refine mg_kind hE hm dX13_endNumber_g4.2.2.2.2.2.2.2.2.2.2.1 ?_
      refine r_iload_n hE 1 dX13_endNumber_g4.2.2.2.2.2.2.2.2.2.2.2.1 rfl rfl ?_
      obtain ⟨hi, h⟩ := h
      refine ml_kind hE hm dX13_endNumber_g4.2.2.2.2.2.2.2.2.2.2.2.2.1 hi ?_
      refine r_iconst (v := (2 : Int32)) hE dX13_endNumber_g4.2.2.2.2.2.2.2.2.2.2.2.2.2.1 (by decide) ?_
      refine r_icmp_ne hE 172 dX13_endNumber_g4.2.2.2.2.2.2.2.2.2.2.2.2.2.2.1 (by decide) h (fun h => ?_) (fun h => ?_)
      · refine r_aload_n hE 0 dX13_endNumber_g6.2.2.2.2.2.2.1 rfl rfl ?_
        refine r_iconst (v := (4 : Int32)) hE dX13_endNumber_g6.2.2.2.2.2.2.2.1 (by decide) ?_
        refine r_iload_n hE 1 dX13_endNumber_g6.2.2.2.2.2.2.2.2.1 rfl rfl ?_
        refine r_aload_n hE 0 dX13_endNumber_g6.2.2.2.2.2.2.2.2.2.1 rfl rfl ?_
        refine mg_up hE hm dX13_endNumber_g6.2.2.2.2.2.2.2.2.2.2.1 ?_
        refine r_bipush (v := (7 : Int32)) hE dX13_endNumber_g6.2.2.2.2.2.2.2.2.2.2.2.1 (by decide) ?_
        refine r_iload_n hE 2 dX13_endNumber_g6.2.2.2.2.2.2.2.2.2.2.2.2.1 rfl rfl ?_
        refine r_imul hE dX13_endNumber_g6.2.2.2.2.2.2.2.2.2.2.2.2.2.1 ?_
        obtain ⟨hi, h⟩ := h
        refine ml_up hE hm dX13_endNumber_g6.2.2.2.2.2.2.2.2.2.2.2.2.2.2.1 hi ?_
        refine m_callVv hE hm [.int (4 : Int32), .int v1, .long (m_up σ ((7 : Int32) * v2).toNatClampNeg)] [] mc_later (km_later hm.2.2.2.2.2.2.2.2 h) (by decide) rfl rfl (Nat.le_of_ble_eq_true rfl) dX13_endNumber_g6.2.2.2.2.2.2.2.2.2.2.2.2.2.2.2 (fun s3 h => ?_)
        exact m_vret hE hm hF dX13_endNumber_g7 h
      · refine r_aload_n hE 0 dX13_endNumber_g4.2.2.2.2.2.2.2.2.2.2.2.2.2.2.2 rfl rfl ?_
        refine r_iconst (v := (0 : Int32)) hE dX13_endNumber_g5.1 (by decide) ?_
        refine r_aload_n hE 0 dX13_endNumber_g5.2.1 rfl rfl ?_
        refine mg_up hE hm dX13_endNumber_g5.2.2.1 ?_
        refine r_bipush (v := (7 : Int32)) hE dX13_endNumber_g5.2.2.2.1 (by decide) ?_
        refine r_iload_n hE 2 dX13_endNumber_g5.2.2.2.2.1 rfl rfl ?_
        refine r_imul hE dX13_endNumber_g5.2.2.2.2.2.1 ?_
        obtain ⟨hi, h⟩ := h
        refine ml_up hE hm dX13_endNumber_g5.2.2.2.2.2.2.1 hi ?_
        refine r_lconst (v := (0 : Int64)) hE dX13_endNumber_g5.2.2.2.2.2.2.2.1 (by decide) ?_
        refine r_lcmp hE dX13_endNumber_g5.2.2.2.2.2.2.2.2.1 ?_
        refine r_if_eq hE 159 dX13_endNumber_g5.2.2.2.2.2.2.2.2.2.1 (by decide) h (fun h => ?_) (fun h => ?_)
        · refine r_aload_n hE 0 dX13_endNumber_g5.2.2.2.2.2.2.2.2.2.2.2.2.2.2.2 rfl rfl ?_
          refine mg_three hE hm dX13_endNumber_g6.1 ?_
          refine r_iload_n hE 1 dX13_endNumber_g6.2.1 rfl rfl ?_
          obtain ⟨hi, h⟩ := h
          refine ml_three hE hm dX13_endNumber_g6.2.2.1 hi ?_
          refine r_pick [] rfl ?_
          exact km_endNumber_165 hE hm hF _ _ _ h
        · refine r_aload_n hE 0 dX13_endNumber_g5.2.2.2.2.2.2.2.2.2.2.1 rfl rfl ?_
          refine mg_two hE hm dX13_endNumber_g5.2.2.2.2.2.2.2.2.2.2.2.1 ?_
          refine r_iload_n hE 1 dX13_endNumber_g5.2.2.2.2.2.2.2.2.2.2.2.2.1 rfl rfl ?_
          obtain ⟨hi, h⟩ := h
          refine ml_two hE hm dX13_endNumber_g5.2.2.2.2.2.2.2.2.2.2.2.2.2.1 hi ?_
          refine r_goto hE 165 dX13_endNumber_g5.2.2.2.2.2.2.2.2.2.2.2.2.2.2.1 (by decide) ?_
          refine r_pick [] rfl ?_
          exact km_endNumber_165 hE hm hF _ _ _ h
    · refine r_aload_n hE 0 dX13_endNumber_g3.2.2.2.2.2.2.2.2.2.2.1 rfl rfl ?_
      refine r_aload_n hE 0 dX13_endNumber_g3.2.2.2.2.2.2.2.2.2.2.2.1 rfl rfl ?_
      refine mg_up hE hm dX13_endNumber_g3.2.2.2.2.2.2.2.2.2.2.2.2.1 ?_
      refine r_bipush (v := (7 : Int32)) hE dX13_endNumber_g3.2.2.2.2.2.2.2.2.2.2.2.2.2.1 (by decide) ?_
      refine r_iload_n hE 2 dX13_endNumber_g3.2.2.2.2.2.2.2.2.2.2.2.2.2.2.1 rfl rfl ?_
      refine r_imul hE dX13_endNumber_g3.2.2.2.2.2.2.2.2.2.2.2.2.2.2.2 ?_
      obtain ⟨hi, h⟩ := h
      refine ml_up hE hm dX13_endNumber_g4.1 hi ?_
      refine r_lconst (v := (0 : Int64)) hE dX13_endNumber_g4.2.1 (by decide) ?_
      refine r_lcmp hE dX13_endNumber_g4.2.2.1 ?_
      refine r_if_eq hE 117 dX13_endNumber_g4.2.2.2.1 (by decide) h (fun h => ?_) (fun h => ?_)
      · refine r_iconst (v := (0 : Int32)) hE dX13_endNumber_g4.2.2.2.2.2.2.1 (by decide) ?_
        refine r_pick [] rfl ?_
        exact km_endNumber_118 hE hm hF _ _ h
      · refine r_iconst (v := (1 : Int32)) hE dX13_endNumber_g4.2.2.2.2.1 (by decide) ?_
        refine r_goto hE 118 dX13_endNumber_g4.2.2.2.2.2.1 (by decide) ?_
        refine r_pick [] rfl ?_
        exact km_endNumber_118 hE hm hF _ _ h
  · refine r_aload_n hE 0 dX13_endNumber_g2.2.2.2.2.2.2.2.2.2.2.2.2.2.2.2 rfl rfl ?_
    refine r_iload_n hE 3 dX13_endNumber_g3.1 rfl rfl ?_
    refine r_iload_n hE 1 dX13_endNumber_g3.2.1 rfl rfl ?_
    refine m_callVv hE hm [.int v3, .int v1] [] mc_falls (km_falls hm.2.2.2.2.2.2.2.2 h) (by decide) rfl rfl (Nat.le_of_ble_eq_true rfl) dX13_endNumber_g3.2.2.1 (fun s4 h => ?_)
    refine r_goto hE 187 dX13_endNumber_g3.2.2.2.1 (by decide) ?_
    exact m_vret hE hm hF dX13_endNumber_g7 h
def wm_endNumber_74 (post : MS → Prop) (σ : MS) (v1 : Int32) (v2 : Int32) (t0 : Int32) : Prop := wm_endNumber_75 post σ v1 v2 t0
set_option maxRecDepth 20000 in
theorem km_endNumber_74 {E : gEnv} {l : Launch} {D : va_G} {cl : List vw_C} {G : gAd} {post : MS → Prop} (hE : gOK E cX13_endNumber RX13 none 4) (hm : mOK E l D cl G (qV post) 4) (hF : gFin E) (σ : MS) (v1 : Int32) (v2 : Int32) (t0 : Int32) (h : wm_endNumber_74 post σ v1 v2 t0) : GW E (mW G σ) 74 [(0, .ref (G.1 0)), (1, .int v1), (2, .int v2)] [.int t0] := by
  unfold wm_endNumber_74 at h
  have hN := hm.2.2.2.2.2.2.1
  refine r_istore_n hE [(3, .int t0), (0, .ref (G.1 0)), (1, .int v1), (2, .int v2)] dX13_endNumber_g2.2.2.2.2.2.2.2.2.2.2.2.2.1 rfl hN (by decide) rfl ?_
  refine r_pick [1, 2, 3, 0] rfl ?_
  exact km_endNumber_75 hE hm hF _ _ _ _ h
def wm_endNumber_22 (post : MS → Prop) (σ : MS) (v1 : Int32) (v2 : Int32) (t0 : Int32) : Prop := ((¬ (t0 = (0 : Int32))) → (wm_endNumber_75 post σ v1 v2 t0)) ∧ ((t0 = (0 : Int32)) → (vp_in v1 600 ∧ (((¬ ((m_kind σ v1.toNatClampNeg) = (3 : Int32))) → (wm_endNumber_75 post σ v1 v2 t0)) ∧ (((m_kind σ v1.toNatClampNeg) = (3 : Int32)) → (vp_in ((7 : Int32) * v2) 3360 ∧ ((((lg_cmp (m_low σ ((7 : Int32) * v2).toNatClampNeg) (1 : Int64)) = (0 : Int32)) → (vp_in ((7 : Int32) * v2) 3360 ∧ ((((0 : Int32) ≤ (lg_cmp (m_up σ ((7 : Int32) * v2).toNatClampNeg) (0 : Int64))) → (wm_endNumber_74 post σ v1 v2 (0 : Int32))) ∧ ((¬ ((0 : Int32) ≤ (lg_cmp (m_up σ ((7 : Int32) * v2).toNatClampNeg) (0 : Int64)))) → (wm_endNumber_74 post σ v1 v2 (4 : Int32)))))) ∧ ((¬ ((lg_cmp (m_low σ ((7 : Int32) * v2).toNatClampNeg) (1 : Int64)) = (0 : Int32))) → (wm_endNumber_74 post σ v1 v2 (2 : Int32)))))))))
set_option maxRecDepth 20000 in
theorem km_endNumber_22 {E : gEnv} {l : Launch} {D : va_G} {cl : List vw_C} {G : gAd} {post : MS → Prop} (hE : gOK E cX13_endNumber RX13 none 4) (hm : mOK E l D cl G (qV post) 4) (hF : gFin E) (σ : MS) (v1 : Int32) (v2 : Int32) (t0 : Int32) (h : wm_endNumber_22 post σ v1 v2 t0) : GW E (mW G σ) 22 [(0, .ref (G.1 0)), (1, .int v1), (2, .int v2)] [.int t0] := by
  unfold wm_endNumber_22 at h
  have hN := hm.2.2.2.2.2.2.1
  refine r_istore_n hE [(3, .int t0), (0, .ref (G.1 0)), (1, .int v1), (2, .int v2)] dX13_endNumber_g0.2.2.2.2.2.2.2.2.2.2.2.2.1 rfl hN (by decide) rfl ?_
  refine r_iload_n hE 0 dX13_endNumber_g0.2.2.2.2.2.2.2.2.2.2.2.2.2.1 rfl rfl ?_
  refine r_if_ne hE 75 dX13_endNumber_g0.2.2.2.2.2.2.2.2.2.2.2.2.2.2.1 (by decide) h (fun h => ?_) (fun h => ?_)
  · refine r_pick [1, 2, 3, 0] rfl ?_
    exact km_endNumber_75 hE hm hF _ _ _ _ h
  · refine r_aload_n hE 1 dX13_endNumber_g0.2.2.2.2.2.2.2.2.2.2.2.2.2.2.2 rfl rfl ?_
    refine mg_kind hE hm dX13_endNumber_g1.1 ?_
    refine r_iload_n hE 2 dX13_endNumber_g1.2.1 rfl rfl ?_
    obtain ⟨hi, h⟩ := h
    refine ml_kind hE hm dX13_endNumber_g1.2.2.1 hi ?_
    refine r_iconst (v := (3 : Int32)) hE dX13_endNumber_g1.2.2.2.1 (by decide) ?_
    refine r_icmp_ne hE 75 dX13_endNumber_g1.2.2.2.2.1 (by decide) h (fun h => ?_) (fun h => ?_)
    · refine r_pick [1, 2, 3, 0] rfl ?_
      exact km_endNumber_75 hE hm hF _ _ _ _ h
    · refine r_aload_n hE 1 dX13_endNumber_g1.2.2.2.2.2.1 rfl rfl ?_
      refine mg_low hE hm dX13_endNumber_g1.2.2.2.2.2.2.1 ?_
      refine r_bipush (v := (7 : Int32)) hE dX13_endNumber_g1.2.2.2.2.2.2.2.1 (by decide) ?_
      refine r_iload_n hE 3 dX13_endNumber_g1.2.2.2.2.2.2.2.2.1 rfl rfl ?_
      refine r_imul hE dX13_endNumber_g1.2.2.2.2.2.2.2.2.2.1 ?_
      obtain ⟨hi, h⟩ := h
      refine ml_low hE hm dX13_endNumber_g1.2.2.2.2.2.2.2.2.2.2.1 hi ?_
      refine r_lconst (v := (1 : Int64)) hE dX13_endNumber_g1.2.2.2.2.2.2.2.2.2.2.2.1 (by decide) ?_
      refine r_lcmp hE dX13_endNumber_g1.2.2.2.2.2.2.2.2.2.2.2.2.1 ?_
      refine r_if_eq hE 55 dX13_endNumber_g1.2.2.2.2.2.2.2.2.2.2.2.2.2.1 (by decide) h (fun h => ?_) (fun h => ?_)
      · refine r_aload_n hE 1 dX13_endNumber_g2.1 rfl rfl ?_
        refine mg_up hE hm dX13_endNumber_g2.2.1 ?_
        refine r_bipush (v := (7 : Int32)) hE dX13_endNumber_g2.2.2.1 (by decide) ?_
        refine r_iload_n hE 3 dX13_endNumber_g2.2.2.2.1 rfl rfl ?_
        refine r_imul hE dX13_endNumber_g2.2.2.2.2.1 ?_
        obtain ⟨hi, h⟩ := h
        refine ml_up hE hm dX13_endNumber_g2.2.2.2.2.2.1 hi ?_
        refine r_lconst (v := (0 : Int64)) hE dX13_endNumber_g2.2.2.2.2.2.2.1 (by decide) ?_
        refine r_lcmp hE dX13_endNumber_g2.2.2.2.2.2.2.2.1 ?_
        refine r_if_ge hE 73 dX13_endNumber_g2.2.2.2.2.2.2.2.2.1 (by decide) h (fun h => ?_) (fun h => ?_)
        · refine r_iconst (v := (0 : Int32)) hE dX13_endNumber_g2.2.2.2.2.2.2.2.2.2.2.2.1 (by decide) ?_
          refine r_pick [1, 2, 3] rfl ?_
          exact km_endNumber_74 hE hm hF _ _ _ _ h
        · refine r_iconst (v := (4 : Int32)) hE dX13_endNumber_g2.2.2.2.2.2.2.2.2.2.1 (by decide) ?_
          refine r_goto hE 74 dX13_endNumber_g2.2.2.2.2.2.2.2.2.2.2.1 (by decide) ?_
          refine r_pick [1, 2, 3] rfl ?_
          exact km_endNumber_74 hE hm hF _ _ _ _ h
      · refine r_iconst (v := (2 : Int32)) hE dX13_endNumber_g1.2.2.2.2.2.2.2.2.2.2.2.2.2.2.1 (by decide) ?_
        refine r_goto hE 74 dX13_endNumber_g1.2.2.2.2.2.2.2.2.2.2.2.2.2.2.2 (by decide) ?_
        refine r_pick [1, 2, 3] rfl ?_
        exact km_endNumber_74 hE hm hF _ _ _ _ h
def wm_endNumber (post : MS → Prop) (σ : MS) (a1 : Int32) (a2 : Int32) : Prop := (((0 : Int32) ≤ a2) → (vp_in a2 480 ∧ ((((m_sort σ a2.toNatClampNeg) = (0 : Int32)) → (wm_endNumber_22 post σ a1 a2 (0 : Int32))) ∧ ((¬ ((m_sort σ a2.toNatClampNeg) = (0 : Int32))) → (wm_endNumber_22 post σ a1 a2 (2 : Int32)))))) ∧ ((¬ ((0 : Int32) ≤ a2)) → (wm_endNumber_22 post σ a1 a2 (1 : Int32)))
set_option maxRecDepth 20000 in
theorem km_endNumber {l : Launch} {D : va_G} {cl : List vw_C} {G : gAd} {post : MS → Prop} (hcl : mC cl) {σ : MS} {a1 : Int32} {a2 : Int32} (h : wm_endNumber post σ a1 a2) : mMet l D cl G yX13_endNumber cX13_endNumber 4 none 4 [.ref (G.1 0), .int a1, .int a2] σ (qV post) := by
  unfold wm_endNumber at h
  refine m_enter hcl (by decide +kernel) rfl [(0, .ref (G.1 0)), (1, .int a1), (2, .int a2)] rfl (Nat.le_of_ble_eq_true rfl) ?_
  intro E hE hm hF
  have hN := hm.2.2.2.2.2.2.1
  refine r_iload_n hE 2 dX13_endNumber_g0.1 rfl rfl ?_
  refine r_if_ge hE 8 dX13_endNumber_g0.2.1 (by decide) h (fun h => ?_) (fun h => ?_)
  · refine r_aload_n hE 0 dX13_endNumber_g0.2.2.2.2.1 rfl rfl ?_
    refine mg_sort hE hm dX13_endNumber_g0.2.2.2.2.2.1 ?_
    refine r_iload_n hE 2 dX13_endNumber_g0.2.2.2.2.2.2.1 rfl rfl ?_
    obtain ⟨hi, h⟩ := h
    refine ml_sort hE hm dX13_endNumber_g0.2.2.2.2.2.2.2.1 hi ?_
    refine r_if_eq hE 21 dX13_endNumber_g0.2.2.2.2.2.2.2.2.1 (by decide) h (fun h => ?_) (fun h => ?_)
    · refine r_iconst (v := (0 : Int32)) hE dX13_endNumber_g0.2.2.2.2.2.2.2.2.2.2.2.1 (by decide) ?_
      exact km_endNumber_22 hE hm hF _ _ _ _ h
    · refine r_iconst (v := (2 : Int32)) hE dX13_endNumber_g0.2.2.2.2.2.2.2.2.2.1 (by decide) ?_
      refine r_goto hE 22 dX13_endNumber_g0.2.2.2.2.2.2.2.2.2.2.1 (by decide) ?_
      exact km_endNumber_22 hE hm hF _ _ _ _ h
  · refine r_iconst (v := (1 : Int32)) hE dX13_endNumber_g0.2.2.1 (by decide) ?_
    refine r_goto hE 22 dX13_endNumber_g0.2.2.2.1 (by decide) ?_
    exact km_endNumber_22 hE hm hF _ _ _ _ h
/-! endPut -/
def wm_endPut_200 (post : MS → Prop) (σ : MS) (v1 : Int32) (v2 : Int32) (v3 : Int32) (v4 : Int32) (v5 : Int32) : Prop := ((v5 ≤ (0 : Int32)) → (vp_in v4 480 ∧ (vp_in ((7 : Int32) * v2) 3360 ∧ (vp_in (((20 : Int32) * (m_rowOf σ v4.toNatClampNeg)) + ((m_up σ ((7 : Int32) * v2).toNatClampNeg).toInt32)) 9600 ∧ (∀ s1 : MS, s1 = m_rowItem_s σ (((20 : Int32) * (m_rowOf σ v4.toNatClampNeg)) + ((m_up σ ((7 : Int32) * v2).toNatClampNeg).toInt32)).toNatClampNeg v3 → post s1))))) ∧ ((¬ (v5 ≤ (0 : Int32))) → (wm_falls (fun (s2 : MS) => post s2) σ v5 v1))
set_option maxRecDepth 20000 in
theorem km_endPut_200 {E : gEnv} {l : Launch} {D : va_G} {cl : List vw_C} {G : gAd} {post : MS → Prop} (hE : gOK E cX13_endPut RX13 none 4) (hm : mOK E l D cl G (qV post) 8) (hF : gFin E) (σ : MS) (v1 : Int32) (v2 : Int32) (v3 : Int32) (v4 : Int32) (v5 : Int32) (h : wm_endPut_200 post σ v1 v2 v3 v4 v5) : GW E (mW G σ) 200 [(0, .ref (G.1 0)), (1, .int v1), (2, .int v2), (3, .int v3), (4, .int v4), (5, .int v5)] [] := by
  unfold wm_endPut_200 at h
  have hN := hm.2.2.2.2.2.2.1
  refine r_iload hE 5 dX13_endPut_g6.2.2.2.2.2.2.2.2.2.2.2.1 rfl ?_
  refine r_if_le hE 215 dX13_endPut_g6.2.2.2.2.2.2.2.2.2.2.2.2.1 (by decide) h (fun h => ?_) (fun h => ?_)
  · refine r_aload_n hE 0 dX13_endPut_g7.2.2.1 rfl rfl ?_
    refine mg_rowItem hE hm dX13_endPut_g7.2.2.2.1 ?_
    refine r_bipush (v := (20 : Int32)) hE dX13_endPut_g7.2.2.2.2.1 (by decide) ?_
    refine r_aload_n hE 0 dX13_endPut_g7.2.2.2.2.2.1 rfl rfl ?_
    refine mg_rowOf hE hm dX13_endPut_g7.2.2.2.2.2.2.1 ?_
    refine r_iload hE 4 dX13_endPut_g7.2.2.2.2.2.2.2.1 rfl ?_
    obtain ⟨hi, h⟩ := h
    refine ml_rowOf hE hm dX13_endPut_g7.2.2.2.2.2.2.2.2.1 hi ?_
    refine r_imul hE dX13_endPut_g7.2.2.2.2.2.2.2.2.2.1 ?_
    refine r_aload_n hE 0 dX13_endPut_g7.2.2.2.2.2.2.2.2.2.2.1 rfl rfl ?_
    refine mg_up hE hm dX13_endPut_g7.2.2.2.2.2.2.2.2.2.2.2.1 ?_
    refine r_bipush (v := (7 : Int32)) hE dX13_endPut_g7.2.2.2.2.2.2.2.2.2.2.2.2.1 (by decide) ?_
    refine r_iload_n hE 2 dX13_endPut_g7.2.2.2.2.2.2.2.2.2.2.2.2.2.1 rfl rfl ?_
    refine r_imul hE dX13_endPut_g7.2.2.2.2.2.2.2.2.2.2.2.2.2.2.1 ?_
    obtain ⟨hi, h⟩ := h
    refine ml_up hE hm dX13_endPut_g7.2.2.2.2.2.2.2.2.2.2.2.2.2.2.2 hi ?_
    refine r_l2i hE dX13_endPut_g8.1 ?_
    refine r_iadd hE dX13_endPut_g8.2.1 ?_
    refine r_iload_n hE 3 dX13_endPut_g8.2.2.1 rfl rfl ?_
    obtain ⟨hi, h⟩ := h
    refine ms_rowItem hE hm dX13_endPut_g8.2.2.2.1 hi h (fun s1 h => ?_)
    exact m_vret hE hm hF dX13_endPut_g8.2.2.2.2 h
  · refine r_aload_n hE 0 dX13_endPut_g6.2.2.2.2.2.2.2.2.2.2.2.2.2.1 rfl rfl ?_
    refine r_iload hE 5 dX13_endPut_g6.2.2.2.2.2.2.2.2.2.2.2.2.2.2.1 rfl ?_
    refine r_iload_n hE 1 dX13_endPut_g6.2.2.2.2.2.2.2.2.2.2.2.2.2.2.2 rfl rfl ?_
    refine m_callVv hE hm [.int v5, .int v1] [] mc_falls (km_falls hm.2.2.2.2.2.2.2.2 h) (by decide) rfl rfl (Nat.le_of_ble_eq_true rfl) dX13_endPut_g7.1 (fun s2 h => ?_)
    refine r_goto hE 242 dX13_endPut_g7.2.1 (by decide) ?_
    exact m_vret hE hm hF dX13_endPut_g8.2.2.2.2 h
def wm_endPut_198 (post : MS → Prop) (σ : MS) (v1 : Int32) (v2 : Int32) (v3 : Int32) (v4 : Int32) (t0 : Int32) : Prop := wm_endPut_200 post σ v1 v2 v3 v4 t0
set_option maxRecDepth 20000 in
theorem km_endPut_198 {E : gEnv} {l : Launch} {D : va_G} {cl : List vw_C} {G : gAd} {post : MS → Prop} (hE : gOK E cX13_endPut RX13 none 4) (hm : mOK E l D cl G (qV post) 8) (hF : gFin E) (σ : MS) (v1 : Int32) (v2 : Int32) (v3 : Int32) (v4 : Int32) (t0 : Int32) (h : wm_endPut_198 post σ v1 v2 v3 v4 t0) : GW E (mW G σ) 198 [(0, .ref (G.1 0)), (1, .int v1), (2, .int v2), (3, .int v3), (4, .int v4)] [.int t0] := by
  unfold wm_endPut_198 at h
  have hN := hm.2.2.2.2.2.2.1
  refine r_istore hE [(5, .int t0), (0, .ref (G.1 0)), (1, .int v1), (2, .int v2), (3, .int v3), (4, .int v4)] dX13_endPut_g6.2.2.2.2.2.2.2.2.2.2.1 hN (by decide) rfl ?_
  refine r_pick [1, 2, 3, 4, 5, 0] rfl ?_
  exact km_endPut_200 hE hm hF _ _ _ _ _ _ h
def wm_endPut_186 (post : MS → Prop) (σ : MS) (v1 : Int32) (v2 : Int32) (v3 : Int32) (v4 : Int32) (t0 : Int32) : Prop := ((t0 = (0 : Int32)) → (wm_endPut_198 post σ v1 v2 v3 v4 (5 : Int32))) ∧ ((¬ (t0 = (0 : Int32))) → (wm_endPut_198 post σ v1 v2 v3 v4 (0 : Int32)))
set_option maxRecDepth 20000 in
theorem km_endPut_186 {E : gEnv} {l : Launch} {D : va_G} {cl : List vw_C} {G : gAd} {post : MS → Prop} (hE : gOK E cX13_endPut RX13 none 4) (hm : mOK E l D cl G (qV post) 8) (hF : gFin E) (σ : MS) (v1 : Int32) (v2 : Int32) (v3 : Int32) (v4 : Int32) (t0 : Int32) (h : wm_endPut_186 post σ v1 v2 v3 v4 t0) : GW E (mW G σ) 186 [(0, .ref (G.1 0)), (1, .int v1), (2, .int v2), (3, .int v3), (4, .int v4)] [.int t0] := by
  unfold wm_endPut_186 at h
  have hN := hm.2.2.2.2.2.2.1
  refine r_istore hE [(7, .int t0), (0, .ref (G.1 0)), (1, .int v1), (2, .int v2), (3, .int v3), (4, .int v4)] dX13_endPut_g6.2.2.2.2.1 hN (by decide) rfl ?_
  refine r_iload hE 0 dX13_endPut_g6.2.2.2.2.2.1 rfl ?_
  refine r_if_eq hE 197 dX13_endPut_g6.2.2.2.2.2.2.1 (by decide) h (fun h => ?_) (fun h => ?_)
  · refine r_iconst (v := (5 : Int32)) hE dX13_endPut_g6.2.2.2.2.2.2.2.2.2.1 (by decide) ?_
    refine r_pick [1, 2, 3, 4, 5] rfl ?_
    exact km_endPut_198 hE hm hF _ _ _ _ _ _ h
  · refine r_iconst (v := (0 : Int32)) hE dX13_endPut_g6.2.2.2.2.2.2.2.1 (by decide) ?_
    refine r_goto hE 198 dX13_endPut_g6.2.2.2.2.2.2.2.2.1 (by decide) ?_
    refine r_pick [1, 2, 3, 4, 5] rfl ?_
    exact km_endPut_198 hE hm hF _ _ _ _ _ _ h
def wm_endPut_125 (post : MS → Prop) (σ : MS) (v1 : Int32) (v2 : Int32) (v3 : Int32) (v4 : Int32) (v5 : Int32) (t0 : Int32) : Prop := ((v3 < (0 : Int32)) → (wm_endPut_200 post σ v1 v2 v3 v4 v5)) ∧ ((¬ (v3 < (0 : Int32))) → (((t0 ≤ (0 : Int32)) → (wm_endPut_200 post σ v1 v2 v3 v4 v5)) ∧ ((¬ (t0 ≤ (0 : Int32))) → (((¬ (t0 = (1 : Int32))) → (((¬ (t0 = (2 : Int32))) → (vp_in v3 480 ∧ (((¬ ((m_sort σ v3.toNatClampNeg) = (0 : Int32))) → (wm_endPut_186 post σ v1 v2 v3 v4 (0 : Int32))) ∧ (((m_sort σ v3.toNatClampNeg) = (0 : Int32)) → (wm_endPut_186 post σ v1 v2 v3 v4 (1 : Int32)))))) ∧ ((t0 = (2 : Int32)) → (vp_in v3 480 ∧ (wm_isLine (fun (s3 : MS) (r4 : Int32) => wm_endPut_186 post s3 v1 v2 v3 v4 r4) σ (m_sort σ v3.toNatClampNeg)))))) ∧ ((t0 = (1 : Int32)) → (vp_in v3 480 ∧ (wm_isPoint (fun (s5 : MS) (r6 : Int32) => wm_endPut_186 post s5 v1 v2 v3 v4 r6) σ (m_sort σ v3.toNatClampNeg))))))))
set_option maxRecDepth 20000 in
theorem km_endPut_125 {E : gEnv} {l : Launch} {D : va_G} {cl : List vw_C} {G : gAd} {post : MS → Prop} (hE : gOK E cX13_endPut RX13 none 4) (hm : mOK E l D cl G (qV post) 8) (hF : gFin E) (σ : MS) (v1 : Int32) (v2 : Int32) (v3 : Int32) (v4 : Int32) (v5 : Int32) (t0 : Int32) (h : wm_endPut_125 post σ v1 v2 v3 v4 v5 t0) : GW E (mW G σ) 125 [(0, .ref (G.1 0)), (1, .int v1), (2, .int v2), (3, .int v3), (4, .int v4), (5, .int v5)] [.int t0] := by
  unfold wm_endPut_125 at h
  have hN := hm.2.2.2.2.2.2.1
  refine r_istore hE [(6, .int t0), (0, .ref (G.1 0)), (1, .int v1), (2, .int v2), (3, .int v3), (4, .int v4), (5, .int v5)] dX13_endPut_g4.2.2.2.2.2.1 hN (by decide) rfl ?_
  refine r_iload_n hE 4 dX13_endPut_g4.2.2.2.2.2.2.1 rfl rfl ?_
  refine r_if_lt hE 200 dX13_endPut_g4.2.2.2.2.2.2.2.1 (by decide) h (fun h => ?_) (fun h => ?_)
  · refine r_pick [1, 2, 3, 4, 5, 6] rfl ?_
    exact km_endPut_200 hE hm hF _ _ _ _ _ _ h
  · refine r_iload hE 0 dX13_endPut_g4.2.2.2.2.2.2.2.2.1 rfl ?_
    refine r_if_le hE 200 dX13_endPut_g4.2.2.2.2.2.2.2.2.2.1 (by decide) h (fun h => ?_) (fun h => ?_)
    · refine r_pick [1, 2, 3, 4, 5, 6] rfl ?_
      exact km_endPut_200 hE hm hF _ _ _ _ _ _ h
    · refine r_iload hE 0 dX13_endPut_g4.2.2.2.2.2.2.2.2.2.2.1 rfl ?_
      refine r_iconst (v := (1 : Int32)) hE dX13_endPut_g4.2.2.2.2.2.2.2.2.2.2.2.1 (by decide) ?_
      refine r_icmp_ne hE 154 dX13_endPut_g4.2.2.2.2.2.2.2.2.2.2.2.2.1 (by decide) h (fun h => ?_) (fun h => ?_)
      · refine r_iload hE 0 dX13_endPut_g5.2.2.2.1 rfl ?_
        refine r_iconst (v := (2 : Int32)) hE dX13_endPut_g5.2.2.2.2.1 (by decide) ?_
        refine r_icmp_ne hE 172 dX13_endPut_g5.2.2.2.2.2.1 (by decide) h (fun h => ?_) (fun h => ?_)
        · refine r_aload_n hE 1 dX13_endPut_g5.2.2.2.2.2.2.2.2.2.2.2.2.1 rfl rfl ?_
          refine mg_sort hE hm dX13_endPut_g5.2.2.2.2.2.2.2.2.2.2.2.2.2.1 ?_
          refine r_iload_n hE 4 dX13_endPut_g5.2.2.2.2.2.2.2.2.2.2.2.2.2.2.1 rfl rfl ?_
          obtain ⟨hi, h⟩ := h
          refine ml_sort hE hm dX13_endPut_g5.2.2.2.2.2.2.2.2.2.2.2.2.2.2.2 hi ?_
          refine r_if_ne hE 185 dX13_endPut_g6.1 (by decide) h (fun h => ?_) (fun h => ?_)
          · refine r_iconst (v := (0 : Int32)) hE dX13_endPut_g6.2.2.2.1 (by decide) ?_
            refine r_pick [1, 2, 3, 4, 5] rfl ?_
            exact km_endPut_186 hE hm hF _ _ _ _ _ _ h
          · refine r_iconst (v := (1 : Int32)) hE dX13_endPut_g6.2.1 (by decide) ?_
            refine r_goto hE 186 dX13_endPut_g6.2.2.1 (by decide) ?_
            refine r_pick [1, 2, 3, 4, 5] rfl ?_
            exact km_endPut_186 hE hm hF _ _ _ _ _ _ h
        · refine r_aload_n hE 1 dX13_endPut_g5.2.2.2.2.2.2.1 rfl rfl ?_
          refine mg_sort hE hm dX13_endPut_g5.2.2.2.2.2.2.2.1 ?_
          refine r_iload_n hE 4 dX13_endPut_g5.2.2.2.2.2.2.2.2.1 rfl rfl ?_
          obtain ⟨hi, h⟩ := h
          refine ml_sort hE hm dX13_endPut_g5.2.2.2.2.2.2.2.2.2.1 hi ?_
          refine m_callSi hE hm [.int (m_sort σ v3.toNatClampNeg)] [] mc_isLine (km_isLine hm.2.2.2.2.2.2.2.2 h) (by decide) rfl rfl (Nat.le_of_ble_eq_true rfl) dX13_endPut_g5.2.2.2.2.2.2.2.2.2.2.1 (fun s3 r4 h => ?_)
          refine r_goto hE 186 dX13_endPut_g5.2.2.2.2.2.2.2.2.2.2.2.1 (by decide) ?_
          refine r_pick [1, 2, 3, 4, 5] rfl ?_
          exact km_endPut_186 hE hm hF _ _ _ _ _ _ h
      · refine r_aload_n hE 1 dX13_endPut_g4.2.2.2.2.2.2.2.2.2.2.2.2.2.1 rfl rfl ?_
        refine mg_sort hE hm dX13_endPut_g4.2.2.2.2.2.2.2.2.2.2.2.2.2.2.1 ?_
        refine r_iload_n hE 4 dX13_endPut_g4.2.2.2.2.2.2.2.2.2.2.2.2.2.2.2 rfl rfl ?_
        obtain ⟨hi, h⟩ := h
        refine ml_sort hE hm dX13_endPut_g5.1 hi ?_
        refine m_callSi hE hm [.int (m_sort σ v3.toNatClampNeg)] [] mc_isPoint (km_isPoint hm.2.2.2.2.2.2.2.2 h) (by decide) rfl rfl (Nat.le_of_ble_eq_true rfl) dX13_endPut_g5.2.1 (fun s5 r6 h => ?_)
        refine r_goto hE 186 dX13_endPut_g5.2.2.1 (by decide) ?_
        refine r_pick [1, 2, 3, 4, 5] rfl ?_
        exact km_endPut_186 hE hm hF _ _ _ _ _ _ h
def wm_endPut_102 (post : MS → Prop) (σ : MS) (v1 : Int32) (v2 : Int32) (v3 : Int32) (v4 : Int32) (t0 : Int32) : Prop := ((t0 ≤ (0 : Int32)) → (vp_in v4 480 ∧ (vp_in (m_rowOf σ v4.toNatClampNeg) 480 ∧ (wm_endPut_125 post σ v1 v2 v3 v4 t0 (m_rowSort σ (m_rowOf σ v4.toNatClampNeg).toNatClampNeg))))) ∧ ((¬ (t0 ≤ (0 : Int32))) → (wm_endPut_125 post σ v1 v2 v3 v4 t0 (0 : Int32)))
set_option maxRecDepth 20000 in
theorem km_endPut_102 {E : gEnv} {l : Launch} {D : va_G} {cl : List vw_C} {G : gAd} {post : MS → Prop} (hE : gOK E cX13_endPut RX13 none 4) (hm : mOK E l D cl G (qV post) 8) (hF : gFin E) (σ : MS) (v1 : Int32) (v2 : Int32) (v3 : Int32) (v4 : Int32) (t0 : Int32) (h : wm_endPut_102 post σ v1 v2 v3 v4 t0) : GW E (mW G σ) 102 [(0, .ref (G.1 0)), (1, .int v1), (2, .int v2), (3, .int v3), (4, .int v4)] [.int t0] := by
  unfold wm_endPut_102 at h
  have hN := hm.2.2.2.2.2.2.1
  refine r_istore hE [(5, .int t0), (0, .ref (G.1 0)), (1, .int v1), (2, .int v2), (3, .int v3), (4, .int v4)] dX13_endPut_g3.2.2.2.2.2.2.2.2.2.1 hN (by decide) rfl ?_
  refine r_iload hE 0 dX13_endPut_g3.2.2.2.2.2.2.2.2.2.2.1 rfl ?_
  refine r_if_le hE 113 dX13_endPut_g3.2.2.2.2.2.2.2.2.2.2.2.1 (by decide) h (fun h => ?_) (fun h => ?_)
  · refine r_aload_n hE 1 dX13_endPut_g3.2.2.2.2.2.2.2.2.2.2.2.2.2.2.1 rfl rfl ?_
    refine mg_rowSort hE hm dX13_endPut_g3.2.2.2.2.2.2.2.2.2.2.2.2.2.2.2 ?_
    refine r_aload_n hE 1 dX13_endPut_g4.1 rfl rfl ?_
    refine mg_rowOf hE hm dX13_endPut_g4.2.1 ?_
    refine r_iload hE 5 dX13_endPut_g4.2.2.1 rfl ?_
    obtain ⟨hi, h⟩ := h
    refine ml_rowOf hE hm dX13_endPut_g4.2.2.2.1 hi ?_
    obtain ⟨hi, h⟩ := h
    refine ml_rowSort hE hm dX13_endPut_g4.2.2.2.2.1 hi ?_
    refine r_pick [1, 2, 3, 4, 5, 0] rfl ?_
    exact km_endPut_125 hE hm hF _ _ _ _ _ _ _ h
  · refine r_iconst (v := (0 : Int32)) hE dX13_endPut_g3.2.2.2.2.2.2.2.2.2.2.2.2.1 (by decide) ?_
    refine r_goto hE 125 dX13_endPut_g3.2.2.2.2.2.2.2.2.2.2.2.2.2.1 (by decide) ?_
    refine r_pick [1, 2, 3, 4, 5, 0] rfl ?_
    exact km_endPut_125 hE hm hF _ _ _ _ _ _ _ h
def wm_endPut (post : MS → Prop) (σ : MS) (a1 : Int32) (a2 : Int32) (a3 : Int32) : Prop := vp_in a1 600 ∧ (vp_in (((20 : Int32) * (m_depth σ)) + (m_one σ a1.toNatClampNeg)) 180 ∧ (∀ x7 : Int32, x7 = m_held σ (((20 : Int32) * (m_depth σ)) + (m_one σ a1.toNatClampNeg)).toNatClampNeg → (((0 : Int32) ≤ x7) → (vp_in x7 480 ∧ ((((m_sort σ x7.toNatClampNeg) = (6 : Int32)) → ((((0 : Int32) ≤ a2) → (wm_isWhole (fun (s8 : MS) (r9 : Int32) => ((¬ (r9 = (0 : Int32))) → (vp_in ((7 : Int32) * a2) 3360 ∧ (vp_in x7 480 ∧ (vp_in (m_rowOf s8 x7.toNatClampNeg) 480 ∧ (wm_in (fun (s10 : MS) (r11 : Int32) => ((¬ (r11 = (0 : Int32))) → (wm_endPut_102 post s10 a1 a2 a3 x7 (0 : Int32))) ∧ ((r11 = (0 : Int32)) → (wm_endPut_102 post s10 a1 a2 a3 x7 (3 : Int32)))) s8 (m_up s8 ((7 : Int32) * a2).toNatClampNeg) (0 : Int64) (((m_rowSize s8 (m_rowOf s8 x7.toNatClampNeg).toNatClampNeg) - (1 : Int32)).toInt64)))))) ∧ ((r9 = (0 : Int32)) → (wm_endPut_102 post s8 a1 a2 a3 x7 (2 : Int32)))) σ a2)) ∧ ((¬ ((0 : Int32) ≤ a2)) → (wm_endPut_102 post σ a1 a2 a3 x7 (1 : Int32))))) ∧ ((¬ ((m_sort σ x7.toNatClampNeg) = (6 : Int32))) → (wm_endPut_102 post σ a1 a2 a3 x7 (2 : Int32)))))) ∧ ((¬ ((0 : Int32) ≤ x7)) → (wm_endPut_102 post σ a1 a2 a3 x7 (1 : Int32)))))
set_option maxRecDepth 20000 in
theorem km_endPut {l : Launch} {D : va_G} {cl : List vw_C} {G : gAd} {post : MS → Prop} (hcl : mC cl) {σ : MS} {a1 : Int32} {a2 : Int32} {a3 : Int32} (h : wm_endPut post σ a1 a2 a3) : mMet l D cl G yX13_endPut cX13_endPut 8 none 4 [.ref (G.1 0), .int a1, .int a2, .int a3] σ (qV post) := by
  unfold wm_endPut at h
  refine m_enter hcl (by decide +kernel) rfl [(0, .ref (G.1 0)), (1, .int a1), (2, .int a2), (3, .int a3)] rfl (Nat.le_of_ble_eq_true rfl) ?_
  intro E hE hm hF
  have hN := hm.2.2.2.2.2.2.1
  refine r_aload_n hE 0 dX13_endPut_g0.1 rfl rfl ?_
  refine mg_held hE hm dX13_endPut_g0.2.1 ?_
  refine r_bipush (v := (20 : Int32)) hE dX13_endPut_g0.2.2.1 (by decide) ?_
  refine r_aload_n hE 0 dX13_endPut_g0.2.2.2.1 rfl rfl ?_
  refine mg_depth hE hm dX13_endPut_g0.2.2.2.2.1 ?_
  refine r_imul hE dX13_endPut_g0.2.2.2.2.2.1 ?_
  refine r_aload_n hE 0 dX13_endPut_g0.2.2.2.2.2.2.1 rfl rfl ?_
  refine mg_one hE hm dX13_endPut_g0.2.2.2.2.2.2.2.1 ?_
  refine r_iload_n hE 1 dX13_endPut_g0.2.2.2.2.2.2.2.2.1 rfl rfl ?_
  obtain ⟨hi, h⟩ := h
  refine ml_one hE hm dX13_endPut_g0.2.2.2.2.2.2.2.2.2.1 hi ?_
  refine r_iadd hE dX13_endPut_g0.2.2.2.2.2.2.2.2.2.2.1 ?_
  obtain ⟨hi, h⟩ := h
  refine ml_held hE hm dX13_endPut_g0.2.2.2.2.2.2.2.2.2.2.2.1 hi ?_
  refine r_topi h (fun x7 ex7 h => ?_)
  refine r_istore hE [(4, .int x7), (0, .ref (G.1 0)), (1, .int a1), (2, .int a2), (3, .int a3)] dX13_endPut_g0.2.2.2.2.2.2.2.2.2.2.2.2.1 hN (by decide) rfl ?_
  refine r_iload hE 0 dX13_endPut_g0.2.2.2.2.2.2.2.2.2.2.2.2.2.1 rfl ?_
  refine r_if_ge hE 30 dX13_endPut_g0.2.2.2.2.2.2.2.2.2.2.2.2.2.2.1 (by decide) h (fun h => ?_) (fun h => ?_)
  · refine r_aload_n hE 1 dX13_endPut_g1.2.1 rfl rfl ?_
    refine mg_sort hE hm dX13_endPut_g1.2.2.1 ?_
    refine r_iload hE 0 dX13_endPut_g1.2.2.2.1 rfl ?_
    obtain ⟨hi, h⟩ := h
    refine ml_sort hE hm dX13_endPut_g1.2.2.2.2.1 hi ?_
    refine r_bipush (v := (6 : Int32)) hE dX13_endPut_g1.2.2.2.2.2.1 (by decide) ?_
    refine r_icmp_eq hE 46 dX13_endPut_g1.2.2.2.2.2.2.1 (by decide) h (fun h => ?_) (fun h => ?_)
    · refine r_iload_n hE 3 dX13_endPut_g1.2.2.2.2.2.2.2.2.2.1 rfl rfl ?_
      refine r_if_ge hE 54 dX13_endPut_g1.2.2.2.2.2.2.2.2.2.2.1 (by decide) h (fun h => ?_) (fun h => ?_)
      · refine r_aload_n hE 1 dX13_endPut_g1.2.2.2.2.2.2.2.2.2.2.2.2.2.1 rfl rfl ?_
        refine r_iload_n hE 3 dX13_endPut_g1.2.2.2.2.2.2.2.2.2.2.2.2.2.2.1 rfl rfl ?_
        refine m_callVi hE hm [.int a2] [] mc_isWhole (km_isWhole hm.2.2.2.2.2.2.2.2 h) (by decide) rfl rfl (Nat.le_of_ble_eq_true rfl) dX13_endPut_g1.2.2.2.2.2.2.2.2.2.2.2.2.2.2.2 (fun s8 r9 h => ?_)
        refine r_if_ne hE 66 dX13_endPut_g2.1 (by decide) h (fun h => ?_) (fun h => ?_)
        · refine r_aload_n hE 1 dX13_endPut_g2.2.2.2.1 rfl rfl ?_
          refine mg_up hE hm dX13_endPut_g2.2.2.2.2.1 ?_
          refine r_bipush (v := (7 : Int32)) hE dX13_endPut_g2.2.2.2.2.2.1 (by decide) ?_
          refine r_iload_n hE 3 dX13_endPut_g2.2.2.2.2.2.2.1 rfl rfl ?_
          refine r_imul hE dX13_endPut_g2.2.2.2.2.2.2.2.1 ?_
          obtain ⟨hi, h⟩ := h
          refine ml_up hE hm dX13_endPut_g2.2.2.2.2.2.2.2.2.1 hi ?_
          refine r_lconst (v := (0 : Int64)) hE dX13_endPut_g2.2.2.2.2.2.2.2.2.2.1 (by decide) ?_
          refine r_aload_n hE 1 dX13_endPut_g2.2.2.2.2.2.2.2.2.2.2.1 rfl rfl ?_
          refine mg_rowSize hE hm dX13_endPut_g2.2.2.2.2.2.2.2.2.2.2.2.1 ?_
          refine r_aload_n hE 1 dX13_endPut_g2.2.2.2.2.2.2.2.2.2.2.2.2.1 rfl rfl ?_
          refine mg_rowOf hE hm dX13_endPut_g2.2.2.2.2.2.2.2.2.2.2.2.2.2.1 ?_
          refine r_iload hE 0 dX13_endPut_g2.2.2.2.2.2.2.2.2.2.2.2.2.2.2.1 rfl ?_
          obtain ⟨hi, h⟩ := h
          refine ml_rowOf hE hm dX13_endPut_g2.2.2.2.2.2.2.2.2.2.2.2.2.2.2.2 hi ?_
          obtain ⟨hi, h⟩ := h
          refine ml_rowSize hE hm dX13_endPut_g3.1 hi ?_
          refine r_iconst (v := (1 : Int32)) hE dX13_endPut_g3.2.1 (by decide) ?_
          refine r_isub hE dX13_endPut_g3.2.2.1 ?_
          refine r_i2l hE dX13_endPut_g3.2.2.2.1 ?_
          refine m_callSi hE hm [.long (m_up s8 ((7 : Int32) * a2).toNatClampNeg), .long (0 : Int64), .long (((m_rowSize s8 (m_rowOf s8 x7.toNatClampNeg).toNatClampNeg) - (1 : Int32)).toInt64)] [] mc_in (km_in hm.2.2.2.2.2.2.2.2 h) (by decide) rfl rfl (Nat.le_of_ble_eq_true rfl) dX13_endPut_g3.2.2.2.2.1 (fun s10 r11 h => ?_)
          refine r_if_ne hE 101 dX13_endPut_g3.2.2.2.2.2.1 (by decide) h (fun h => ?_) (fun h => ?_)
          · refine r_iconst (v := (0 : Int32)) hE dX13_endPut_g3.2.2.2.2.2.2.2.2.1 (by decide) ?_
            refine r_pick [1, 2, 3, 4, 0] rfl ?_
            exact km_endPut_102 hE hm hF _ _ _ _ _ _ h
          · refine r_iconst (v := (3 : Int32)) hE dX13_endPut_g3.2.2.2.2.2.2.1 (by decide) ?_
            refine r_goto hE 102 dX13_endPut_g3.2.2.2.2.2.2.2.1 (by decide) ?_
            refine r_pick [1, 2, 3, 4, 0] rfl ?_
            exact km_endPut_102 hE hm hF _ _ _ _ _ _ h
        · refine r_iconst (v := (2 : Int32)) hE dX13_endPut_g2.2.1 (by decide) ?_
          refine r_goto hE 102 dX13_endPut_g2.2.2.1 (by decide) ?_
          refine r_pick [1, 2, 3, 4, 0] rfl ?_
          exact km_endPut_102 hE hm hF _ _ _ _ _ _ h
      · refine r_iconst (v := (1 : Int32)) hE dX13_endPut_g1.2.2.2.2.2.2.2.2.2.2.2.1 (by decide) ?_
        refine r_goto hE 102 dX13_endPut_g1.2.2.2.2.2.2.2.2.2.2.2.2.1 (by decide) ?_
        refine r_pick [1, 2, 3, 4, 0] rfl ?_
        exact km_endPut_102 hE hm hF _ _ _ _ _ _ h
    · refine r_iconst (v := (2 : Int32)) hE dX13_endPut_g1.2.2.2.2.2.2.2.1 (by decide) ?_
      refine r_goto hE 102 dX13_endPut_g1.2.2.2.2.2.2.2.2.1 (by decide) ?_
      refine r_pick [1, 2, 3, 4, 0] rfl ?_
      exact km_endPut_102 hE hm hF _ _ _ _ _ _ h
  · refine r_iconst (v := (1 : Int32)) hE dX13_endPut_g0.2.2.2.2.2.2.2.2.2.2.2.2.2.2.2 (by decide) ?_
    refine r_goto hE 102 dX13_endPut_g1.1 (by decide) ?_
    refine r_pick [1, 2, 3, 4, 0] rfl ?_
    exact km_endPut_102 hE hm hF _ _ _ _ _ _ h
/-! endDeed -/
def wm_endDeed_147 (post : MS → Prop) (σ : MS) (v1 : Int32) (v2 : Int32) : Prop := wm_endNumber (fun (s1 : MS) => post s1) σ v1 v2
set_option maxRecDepth 20000 in
theorem km_endDeed_147 {E : gEnv} {l : Launch} {D : va_G} {cl : List vw_C} {G : gAd} {post : MS → Prop} (hE : gOK E cX13_endDeed RX13 none 5) (hm : mOK E l D cl G (qV post) 3) (hF : gFin E) (σ : MS) (v1 : Int32) (v2 : Int32) (h : wm_endDeed_147 post σ v1 v2) : GW E (mW G σ) 147 [(0, .ref (G.1 0)), (1, .int v1), (2, .int v2)] [] := by
  unfold wm_endDeed_147 at h
  have hN := hm.2.2.2.2.2.2.1
  refine r_aload_n hE 0 dX13_endDeed_g3.2.2.2.2.2.2.2.2.2.2.2.2.2.1 rfl rfl ?_
  refine r_iload_n hE 1 dX13_endDeed_g3.2.2.2.2.2.2.2.2.2.2.2.2.2.2.1 rfl rfl ?_
  refine r_iload_n hE 2 dX13_endDeed_g3.2.2.2.2.2.2.2.2.2.2.2.2.2.2.2 rfl rfl ?_
  refine m_callVv hE hm [.int v1, .int v2] [] mc_endNumber (km_endNumber hm.2.2.2.2.2.2.2.2 h) (by decide) rfl rfl (Nat.le_of_ble_eq_true rfl) dX13_endDeed_g4.1 (fun s1 h => ?_)
  exact m_vret hE hm hF dX13_endDeed_g4.2 h
def wm_endDeed (post : MS → Prop) (σ : MS) (a1 : Int32) : Prop := vp_in (m_comes σ) 1200 ∧ (∀ x2 : Int32, x2 = m_come σ (m_comes σ).toNatClampNeg → vp_in a1 600 ∧ (((m_kind σ a1.toNatClampNeg) = (0 : Int32) → (vp_in a1 600 ∧ (vp_in (((20 : Int32) * (m_depth σ)) + (m_one σ a1.toNatClampNeg)) 180 ∧ (∀ s3 : MS, s3 = m_held_s σ (((20 : Int32) * (m_depth σ)) + (m_one σ a1.toNatClampNeg)).toNatClampNeg x2 → post s3)))) ∧ (¬ (m_kind σ a1.toNatClampNeg) = (0 : Int32) → (((m_kind σ a1.toNatClampNeg) = (1 : Int32) → (vp_in ((m_comes σ) + (1 : Int32)) 1200 ∧ (wm_endPut (fun (s4 : MS) => post s4) σ a1 x2 (m_come σ ((m_comes σ) + (1 : Int32)).toNatClampNeg)))) ∧ (¬ (m_kind σ a1.toNatClampNeg) = (1 : Int32) → (((m_kind σ a1.toNatClampNeg) = (2 : Int32) → (wm_endDeed_147 post σ a1 x2)) ∧ (¬ (m_kind σ a1.toNatClampNeg) = (2 : Int32) → (((m_kind σ a1.toNatClampNeg) = (3 : Int32) → (wm_endDeed_147 post σ a1 x2)) ∧ (¬ (m_kind σ a1.toNatClampNeg) = (3 : Int32) → (((m_kind σ a1.toNatClampNeg) = (4 : Int32) → (wm_endDeed_147 post σ a1 x2)) ∧ (¬ (m_kind σ a1.toNatClampNeg) = (4 : Int32) → (((m_kind σ a1.toNatClampNeg) = (5 : Int32) → ((((0 : Int32) ≤ x2) → (vp_in (m_drawnMany σ) 40 ∧ (∀ s5 : MS, s5 = m_drawn_s σ (m_drawnMany σ).toNatClampNeg x2 → ∀ s6 : MS, s6 = m_drawnMany_s s5 ((m_drawnMany s5) + (1 : Int32)) → post s6))) ∧ ((¬ ((0 : Int32) ≤ x2)) → (wm_falls (fun (s7 : MS) => post s7) σ (1 : Int32) a1)))) ∧ (¬ (m_kind σ a1.toNatClampNeg) = (5 : Int32) → (((m_kind σ a1.toNatClampNeg) = (6 : Int32) → (wm_give (fun (s8 : MS) => post s8) σ x2)) ∧ (¬ (m_kind σ a1.toNatClampNeg) = (6 : Int32) → (wm_endDeed_147 post σ a1 x2))))))))))))))))
set_option maxRecDepth 20000 in
theorem km_endDeed {l : Launch} {D : va_G} {cl : List vw_C} {G : gAd} {post : MS → Prop} (hcl : mC cl) {σ : MS} {a1 : Int32} (h : wm_endDeed post σ a1) : mMet l D cl G yX13_endDeed cX13_endDeed 3 none 5 [.ref (G.1 0), .int a1] σ (qV post) := by
  unfold wm_endDeed at h
  refine m_enter hcl (by decide +kernel) rfl [(0, .ref (G.1 0)), (1, .int a1)] rfl (Nat.le_of_ble_eq_true rfl) ?_
  intro E hE hm hF
  have hN := hm.2.2.2.2.2.2.1
  refine r_aload_n hE 0 dX13_endDeed_g0.1 rfl rfl ?_
  refine mg_come hE hm dX13_endDeed_g0.2.1 ?_
  refine r_aload_n hE 0 dX13_endDeed_g0.2.2.1 rfl rfl ?_
  refine mg_comes hE hm dX13_endDeed_g0.2.2.2.1 ?_
  obtain ⟨hi, h⟩ := h
  refine ml_come hE hm dX13_endDeed_g0.2.2.2.2.1 hi ?_
  refine r_topi h (fun x2 ex2 h => ?_)
  refine r_istore_n hE [(2, .int x2), (0, .ref (G.1 0)), (1, .int a1)] dX13_endDeed_g0.2.2.2.2.2.1 rfl hN (by decide) rfl ?_
  refine r_aload_n hE 1 dX13_endDeed_g0.2.2.2.2.2.2.1 rfl rfl ?_
  refine mg_kind hE hm dX13_endDeed_g0.2.2.2.2.2.2.2.1 ?_
  refine r_iload_n hE 2 dX13_endDeed_g0.2.2.2.2.2.2.2.2.1 rfl rfl ?_
  obtain ⟨hi, h⟩ := h
  refine ml_kind hE hm dX13_endDeed_g0.2.2.2.2.2.2.2.2.2.1 hi ?_
  refine r_case (0 : Int32) h (fun q0 h => ?_) (fun q0 h => ?_)
  · refine r_tableAt (off := 44) hE (0 : Int32) 60 dX13_endDeed_g0.2.2.2.2.2.2.2.2.2.2.1 q0 (by decide) (by decide) (by decide) (by decide) ?_
    refine r_aload_n hE 1 dX13_endDeed_g0.2.2.2.2.2.2.2.2.2.2.2.1 rfl rfl ?_
    refine mg_held hE hm dX13_endDeed_g0.2.2.2.2.2.2.2.2.2.2.2.2.1 ?_
    refine r_bipush (v := (20 : Int32)) hE dX13_endDeed_g0.2.2.2.2.2.2.2.2.2.2.2.2.2.1 (by decide) ?_
    refine r_aload_n hE 1 dX13_endDeed_g0.2.2.2.2.2.2.2.2.2.2.2.2.2.2.1 rfl rfl ?_
    refine mg_depth hE hm dX13_endDeed_g0.2.2.2.2.2.2.2.2.2.2.2.2.2.2.2 ?_
    refine r_imul hE dX13_endDeed_g1.1 ?_
    refine r_aload_n hE 1 dX13_endDeed_g1.2.1 rfl rfl ?_
    refine mg_one hE hm dX13_endDeed_g1.2.2.1 ?_
    refine r_iload_n hE 2 dX13_endDeed_g1.2.2.2.1 rfl rfl ?_
    obtain ⟨hi, h⟩ := h
    refine ml_one hE hm dX13_endDeed_g1.2.2.2.2.1 hi ?_
    refine r_iadd hE dX13_endDeed_g1.2.2.2.2.2.1 ?_
    refine r_iload_n hE 0 dX13_endDeed_g1.2.2.2.2.2.2.1 rfl rfl ?_
    obtain ⟨hi, h⟩ := h
    refine ms_held hE hm dX13_endDeed_g1.2.2.2.2.2.2.2.1 hi h (fun s3 h => ?_)
    refine r_goto hE 153 dX13_endDeed_g1.2.2.2.2.2.2.2.2.1 (by decide) ?_
    exact m_vret hE hm hF dX13_endDeed_g4.2 h
  · refine r_case (1 : Int32) h (fun q1 h => ?_) (fun q1 h => ?_)
    · refine r_tableAt (off := 67) hE (1 : Int32) 83 dX13_endDeed_g0.2.2.2.2.2.2.2.2.2.2.1 q1 (by decide) (by decide) (by decide) (by decide) ?_
      refine r_aload_n hE 1 dX13_endDeed_g1.2.2.2.2.2.2.2.2.2.1 rfl rfl ?_
      refine r_iload_n hE 2 dX13_endDeed_g1.2.2.2.2.2.2.2.2.2.2.1 rfl rfl ?_
      refine r_iload_n hE 0 dX13_endDeed_g1.2.2.2.2.2.2.2.2.2.2.2.1 rfl rfl ?_
      refine r_aload_n hE 1 dX13_endDeed_g1.2.2.2.2.2.2.2.2.2.2.2.2.1 rfl rfl ?_
      refine mg_come hE hm dX13_endDeed_g1.2.2.2.2.2.2.2.2.2.2.2.2.2.1 ?_
      refine r_aload_n hE 1 dX13_endDeed_g1.2.2.2.2.2.2.2.2.2.2.2.2.2.2.1 rfl rfl ?_
      refine mg_comes hE hm dX13_endDeed_g1.2.2.2.2.2.2.2.2.2.2.2.2.2.2.2 ?_
      refine r_iconst (v := (1 : Int32)) hE dX13_endDeed_g2.1 (by decide) ?_
      refine r_iadd hE dX13_endDeed_g2.2.1 ?_
      obtain ⟨hi, h⟩ := h
      refine ml_come hE hm dX13_endDeed_g2.2.2.1 hi ?_
      refine m_callVv hE hm [.int a1, .int x2, .int (m_come σ ((m_comes σ) + (1 : Int32)).toNatClampNeg)] [] mc_endPut (km_endPut hm.2.2.2.2.2.2.2.2 h) (by decide) rfl rfl (Nat.le_of_ble_eq_true rfl) dX13_endDeed_g2.2.2.2.1 (fun s4 h => ?_)
      refine r_goto hE 153 dX13_endDeed_g2.2.2.2.2.1 (by decide) ?_
      exact m_vret hE hm hF dX13_endDeed_g4.2 h
    · refine r_case (2 : Int32) h (fun q2 h => ?_) (fun q2 h => ?_)
      · refine r_tableAt (off := 131) hE (2 : Int32) 147 dX13_endDeed_g0.2.2.2.2.2.2.2.2.2.2.1 q2 (by decide) (by decide) (by decide) (by decide) ?_
        refine r_pick [1, 2, 0] rfl ?_
        exact km_endDeed_147 hE hm hF _ _ _ h
      · refine r_case (3 : Int32) h (fun q3 h => ?_) (fun q3 h => ?_)
        · refine r_tableAt (off := 131) hE (3 : Int32) 147 dX13_endDeed_g0.2.2.2.2.2.2.2.2.2.2.1 q3 (by decide) (by decide) (by decide) (by decide) ?_
          refine r_pick [1, 2, 0] rfl ?_
          exact km_endDeed_147 hE hm hF _ _ _ h
        · refine r_case (4 : Int32) h (fun q4 h => ?_) (fun q4 h => ?_)
          · refine r_tableAt (off := 131) hE (4 : Int32) 147 dX13_endDeed_g0.2.2.2.2.2.2.2.2.2.2.1 q4 (by decide) (by decide) (by decide) (by decide) ?_
            refine r_pick [1, 2, 0] rfl ?_
            exact km_endDeed_147 hE hm hF _ _ _ h
          · refine r_case (5 : Int32) h (fun q5 h => ?_) (fun q5 h => ?_)
            · refine r_tableAt (off := 87) hE (5 : Int32) 103 dX13_endDeed_g0.2.2.2.2.2.2.2.2.2.2.1 q5 (by decide) (by decide) (by decide) (by decide) ?_
              refine r_iload_n hE 0 dX13_endDeed_g2.2.2.2.2.2.1 rfl rfl ?_
              refine r_if_ge hE 116 dX13_endDeed_g2.2.2.2.2.2.2.1 (by decide) h (fun h => ?_) (fun h => ?_)
              · refine r_aload_n hE 1 dX13_endDeed_g2.2.2.2.2.2.2.2.2.2.2.2.2.1 rfl rfl ?_
                refine mg_drawn hE hm dX13_endDeed_g2.2.2.2.2.2.2.2.2.2.2.2.2.2.1 ?_
                refine r_aload_n hE 1 dX13_endDeed_g2.2.2.2.2.2.2.2.2.2.2.2.2.2.2.1 rfl rfl ?_
                refine mg_drawnMany hE hm dX13_endDeed_g2.2.2.2.2.2.2.2.2.2.2.2.2.2.2.2 ?_
                refine r_iload_n hE 0 dX13_endDeed_g3.1 rfl rfl ?_
                obtain ⟨hi, h⟩ := h
                refine ms_drawn hE hm dX13_endDeed_g3.2.1 hi h (fun s5 h => ?_)
                refine r_aload_n hE 1 dX13_endDeed_g3.2.2.1 rfl rfl ?_
                refine r_dup hE dX13_endDeed_g3.2.2.2.1 rfl ?_
                refine mg_drawnMany hE hm dX13_endDeed_g3.2.2.2.2.1 ?_
                refine r_iconst (v := (1 : Int32)) hE dX13_endDeed_g3.2.2.2.2.2.1 (by decide) ?_
                refine r_iadd hE dX13_endDeed_g3.2.2.2.2.2.2.1 ?_
                refine mp_drawnMany hE hm dX13_endDeed_g3.2.2.2.2.2.2.2.1 h (fun s6 h => ?_)
                refine r_goto hE 153 dX13_endDeed_g3.2.2.2.2.2.2.2.2.1 (by decide) ?_
                exact m_vret hE hm hF dX13_endDeed_g4.2 h
              · refine r_aload_n hE 1 dX13_endDeed_g2.2.2.2.2.2.2.2.1 rfl rfl ?_
                refine r_iconst (v := (1 : Int32)) hE dX13_endDeed_g2.2.2.2.2.2.2.2.2.1 (by decide) ?_
                refine r_iload_n hE 2 dX13_endDeed_g2.2.2.2.2.2.2.2.2.2.1 rfl rfl ?_
                refine m_callVv hE hm [.int (1 : Int32), .int a1] [] mc_falls (km_falls hm.2.2.2.2.2.2.2.2 h) (by decide) rfl rfl (Nat.le_of_ble_eq_true rfl) dX13_endDeed_g2.2.2.2.2.2.2.2.2.2.2.1 (fun s7 h => ?_)
                refine r_goto hE 153 dX13_endDeed_g2.2.2.2.2.2.2.2.2.2.2.2.1 (by decide) ?_
                exact m_vret hE hm hF dX13_endDeed_g4.2 h
            · refine r_case (6 : Int32) h (fun q6 h => ?_) (fun q6 h => ?_)
              · refine r_tableAt (off := 123) hE (6 : Int32) 139 dX13_endDeed_g0.2.2.2.2.2.2.2.2.2.2.1 q6 (by decide) (by decide) (by decide) (by decide) ?_
                refine r_aload_n hE 1 dX13_endDeed_g3.2.2.2.2.2.2.2.2.2.1 rfl rfl ?_
                refine r_iload_n hE 0 dX13_endDeed_g3.2.2.2.2.2.2.2.2.2.2.1 rfl rfl ?_
                refine m_callVv hE hm [.int x2] [] mc_give (km_give hm.2.2.2.2.2.2.2.2 h) (by decide) rfl rfl (Nat.le_of_ble_eq_true rfl) dX13_endDeed_g3.2.2.2.2.2.2.2.2.2.2.2.1 (fun s8 h => ?_)
                refine r_goto hE 153 dX13_endDeed_g3.2.2.2.2.2.2.2.2.2.2.2.2.1 (by decide) ?_
                exact m_vret hE hm hF dX13_endDeed_g4.2 h
              · have n0 := lv_neT q0 (show (0 : Int32).toInt = 0 by decide)
                have n1 := lv_neT q1 (show (1 : Int32).toInt = 1 by decide)
                have n2 := lv_neT q2 (show (2 : Int32).toInt = 2 by decide)
                have n3 := lv_neT q3 (show (3 : Int32).toInt = 3 by decide)
                have n4 := lv_neT q4 (show (4 : Int32).toInt = 4 by decide)
                have n5 := lv_neT q5 (show (5 : Int32).toInt = 5 by decide)
                have n6 := lv_neT q6 (show (6 : Int32).toInt = 6 by decide)
                refine r_tableOut hE 147 dX13_endDeed_g0.2.2.2.2.2.2.2.2.2.2.1 (by omega) (by decide) ?_
                refine r_pick [1, 2, 0] rfl ?_
                exact km_endDeed_147 hE hm hF _ _ _ h
