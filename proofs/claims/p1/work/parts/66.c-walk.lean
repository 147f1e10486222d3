/-! ru_finishTimes -/
def wc_ru_finishTimes_81 (post : CS → Prop) (σ : CS) (v1 : Int32) : Prop := vp_in (c_ru_top σ) 401 ∧ ((((0 : Int32) < (c_ru_turns σ (c_ru_top σ).toNatClampNeg)) → (wc_to_goOn (fun (s1 : CS) (r2 : Int32) => ((r2 = (0 : Int32)) → (post s1)) ∧ ((¬ (r2 = (0 : Int32))) → (∀ x3 : Int32, x3 = c_ru_top s1 → vp_in x3 401 ∧ (vp_in x3 401 ∧ (∀ s4 : CS, s4 = c_ru_turns_s s1 x3.toNatClampNeg ((c_ru_turns s1 x3.toNatClampNeg) - (1 : Int32)) → c_ru_figure s4 = 300 ∧ (wc_fg_bodyOf (fun (s5 : CS) (r6 : Int32) => wc_ru_enterBlock (fun (s7 : CS) => post s7) s5 r6) s4 v1)))))) σ)) ∧ ((¬ ((0 : Int32) < (c_ru_turns σ (c_ru_top σ).toNatClampNeg))) → (wc_ru_drop (fun (s8 : CS) => post s8) σ)))
set_option maxRecDepth 20000 in
theorem kc_ru_finishTimes_81  {E : gEnv} {l : Launch} {D : va_G} {G : gAd} {post : CS → Prop} (hE : gOK E cX7_finishTimes RX7 none 5) (hm : cOK E l D G (pV post) 3) (hF : gFin E) (σ : CS) (v1 : Int32) (h : wc_ru_finishTimes_81 post σ v1) : GW E (cW G σ) 81 [(0, .ref (G.1 1200)), (1, .int v1)] [] := by
  unfold wc_ru_finishTimes_81 at h
  have hN := hm.2.2.2.2.2.2.1
  refine r_aload_n hE 0 dX7_finishTimes_g2.2.2.2.2.2.2.2.2.2.2.1 rfl rfl ?_
  refine cg_ru_turns hE hm fk_X7_25 dX7_finishTimes_g2.2.2.2.2.2.2.2.2.2.2.2.1 ?_
  refine r_aload_n hE 0 dX7_finishTimes_g2.2.2.2.2.2.2.2.2.2.2.2.2.1 rfl rfl ?_
  refine cg_ru_top hE hm fk_X7_28 dX7_finishTimes_g2.2.2.2.2.2.2.2.2.2.2.2.2.2.1 ?_
  obtain ⟨hi, h⟩ := h
  refine cl_ru_turns hE hm dX7_finishTimes_g2.2.2.2.2.2.2.2.2.2.2.2.2.2.2.1 hi ?_
  refine r_if_gt hE 100 dX7_finishTimes_g2.2.2.2.2.2.2.2.2.2.2.2.2.2.2.2 (by decide) h (fun h => ?_) (fun h => ?_)
  · refine r_aload_n hE 0 dX7_finishTimes_g3.2.2.2.1 rfl rfl ?_
    refine cg_ru_told hE hm fk_X7_52 dX7_finishTimes_g3.2.2.2.2.1 ?_
    refine c_callVi hE hm [] [] ck_X7_134 (cr_to hm rfl) (kc_to_goOn h) (by decide) rfl rfl (Nat.le_of_ble_eq_true rfl) dX7_finishTimes_g3.2.2.2.2.2.1 (fun s1 r2 h => ?_)
    refine r_if_eq hE 135 dX7_finishTimes_g3.2.2.2.2.2.2.1 (by decide) h (fun h => ?_) (fun h => ?_)
    · exact c_vret hE hm hF dX7_finishTimes_g4.2.2.2.2.2.2 h
    · refine r_aload_n hE 0 dX7_finishTimes_g3.2.2.2.2.2.2.2.1 rfl rfl ?_
      refine cg_ru_turns hE hm fk_X7_25 dX7_finishTimes_g3.2.2.2.2.2.2.2.2.1 ?_
      refine r_aload_n hE 0 dX7_finishTimes_g3.2.2.2.2.2.2.2.2.2.1 rfl rfl ?_
      refine cg_ru_top hE hm fk_X7_28 dX7_finishTimes_g3.2.2.2.2.2.2.2.2.2.2.1 ?_
      refine r_topi h (fun x3 ex3 h => ?_)
      refine r_dup2 hE dX7_finishTimes_g3.2.2.2.2.2.2.2.2.2.2.2.1 rfl rfl ?_
      obtain ⟨hi, h⟩ := h
      refine cl_ru_turns hE hm dX7_finishTimes_g3.2.2.2.2.2.2.2.2.2.2.2.2.1 hi ?_
      refine r_iconst (v := (1 : Int32)) hE dX7_finishTimes_g3.2.2.2.2.2.2.2.2.2.2.2.2.2.1 (by decide) ?_
      refine r_isub hE dX7_finishTimes_g3.2.2.2.2.2.2.2.2.2.2.2.2.2.2.1 ?_
      obtain ⟨hi, h⟩ := h
      refine cs_ru_turns hE hm dX7_finishTimes_g3.2.2.2.2.2.2.2.2.2.2.2.2.2.2.2 hi h (fun s4 h => ?_)
      refine r_aload_n hE 0 dX7_finishTimes_g4.1 rfl rfl ?_
      refine r_aload_n hE 0 dX7_finishTimes_g4.2.1 rfl rfl ?_
      obtain ⟨hj, h⟩ := h
      refine cg_ru_figure hE hm fk_X7_44 dX7_finishTimes_g4.2.2.1 hj ?_
      refine r_iload_n hE 1 dX7_finishTimes_g4.2.2.2.1 rfl rfl ?_
      refine c_callVi hE hm [.int v1] [.ref (G.1 1200)] ck_X7_230 (cr_fg hm rfl) (kc_fg_bodyOf h) (by decide) rfl rfl (Nat.le_of_ble_eq_true rfl) dX7_finishTimes_g4.2.2.2.2.1 (fun s5 r6 h => ?_)
      refine c_callVv hE hm [.int r6] [] ck_X7_219 (cr_ru hm rfl) (kc_ru_enterBlock h) (by decide) rfl rfl (Nat.le_of_ble_eq_true rfl) dX7_finishTimes_g4.2.2.2.2.2.1 (fun s7 h => ?_)
      exact c_vret hE hm hF dX7_finishTimes_g4.2.2.2.2.2.2 h
  · refine r_aload_n hE 0 dX7_finishTimes_g3.1 rfl rfl ?_
    refine c_callVv hE hm [] [] ck_X7_168 (cr_ru hm rfl) (kc_ru_drop h) (by decide) rfl rfl (Nat.le_of_ble_eq_true rfl) dX7_finishTimes_g3.2.1 (fun s8 h => ?_)
    refine r_goto hE 135 dX7_finishTimes_g3.2.2.1 (by decide) ?_
    exact c_vret hE hm hF dX7_finishTimes_g4.2.2.2.2.2.2 h
def wc_ru_finishTimes (post : CS → Prop) (σ : CS) (a1 : Int32) : Prop := vp_in (c_ru_top σ) 401 ∧ (((¬ ((c_ru_inBlock σ (c_ru_top σ).toNatClampNeg) = (0 : Int32))) → (wc_ru_finishTimes_81 post σ a1)) ∧ (((c_ru_inBlock σ (c_ru_top σ).toNatClampNeg) = (0 : Int32)) → (wc_ru_valueAt (fun (s9 : CS) (r10 : Int32) => wc_wo_accepts (fun (s11 : CS) (r12 : Int32) => ((¬ (r12 = (0 : Int32))) → (wc_ru_valueAt (fun (s13 : CS) (r14 : Int32) => wc_th_wholeOf (fun (s15 : CS) (r16 : Int32) => (((0 : Int32) ≤ r16) → (vp_in (c_ru_top s15) 401 ∧ (∀ s17 : CS, s17 = c_ru_turns_s s15 (c_ru_top s15).toNatClampNeg r16 → wc_ru_finishTimes_81 post s17 a1))) ∧ ((¬ ((0 : Int32) ≤ r16)) → (wc_ru_fallDown (fun (s18 : CS) => post s18) s15 (4 : Int32)))) s13 r14 (0 : Int32)) s11 (0 : Int32))) ∧ ((r12 = (0 : Int32)) → (wc_ru_fallDown (fun (s19 : CS) => post s19) s11 (c_rk_failure s11)))) s9 r10 (87 : Int32)) σ (0 : Int32))))
set_option maxRecDepth 20000 in
theorem kc_ru_finishTimes {l : Launch} {D : va_G} {G : gAd} {post : CS → Prop} {σ : CS} {a1 : Int32} (h : wc_ru_finishTimes post σ a1) : cMet l D G yX7_finishTimes cX7_finishTimes 3 none 5 [.ref (G.1 1200), .int a1] σ (pV post) := by
  unfold wc_ru_finishTimes at h
  refine c_enter (own := RX7) (by decide +kernel) rfl [(0, .ref (G.1 1200)), (1, .int a1)] rfl (Nat.le_of_ble_eq_true rfl) ?_
  intro E hE hm hF
  have hN := hm.2.2.2.2.2.2.1
  refine r_aload_n hE 0 dX7_finishTimes_g0.1 rfl rfl ?_
  refine cg_ru_inBlock hE hm fk_X7_21 dX7_finishTimes_g0.2.1 ?_
  refine r_aload_n hE 0 dX7_finishTimes_g0.2.2.1 rfl rfl ?_
  refine cg_ru_top hE hm fk_X7_28 dX7_finishTimes_g0.2.2.2.1 ?_
  obtain ⟨hi, h⟩ := h
  refine cl_ru_inBlock hE hm dX7_finishTimes_g0.2.2.2.2.1 hi ?_
  refine r_if_ne hE 81 dX7_finishTimes_g0.2.2.2.2.2.1 (by decide) h (fun h => ?_) (fun h => ?_)
  · exact kc_ru_finishTimes_81 hE hm hF _ _ h
  · refine r_aload_n hE 0 dX7_finishTimes_g0.2.2.2.2.2.2.1 rfl rfl ?_
    refine cg_ru_shop hE hm fk_X7_48 dX7_finishTimes_g0.2.2.2.2.2.2.2.1 ?_
    refine r_aload_n hE 0 dX7_finishTimes_g0.2.2.2.2.2.2.2.2.1 rfl rfl ?_
    refine r_iconst (v := (0 : Int32)) hE dX7_finishTimes_g0.2.2.2.2.2.2.2.2.2.1 (by decide) ?_
    refine c_callVi hE hm [.int (0 : Int32)] [.ref (G.1 1300)] ck_X7_171 (cr_ru hm rfl) (kc_ru_valueAt h) (by decide) rfl rfl (Nat.le_of_ble_eq_true rfl) dX7_finishTimes_g0.2.2.2.2.2.2.2.2.2.2.1 (fun s9 r10 h => ?_)
    refine r_bipush (v := (87 : Int32)) hE dX7_finishTimes_g0.2.2.2.2.2.2.2.2.2.2.2.1 (by decide) ?_
    refine c_callVi hE hm [.int r10, .int (87 : Int32)] [] ck_X7_222 (cr_wo hm rfl) (kc_wo_accepts h) (by decide) rfl rfl (Nat.le_of_ble_eq_true rfl) dX7_finishTimes_g0.2.2.2.2.2.2.2.2.2.2.2.2.1 (fun s11 r12 h => ?_)
    refine r_if_ne hE 44 dX7_finishTimes_g0.2.2.2.2.2.2.2.2.2.2.2.2.2.1 (by decide) h (fun h => ?_) (fun h => ?_)
    · refine r_aload_n hE 0 dX7_finishTimes_g1.2.2.2.2.2.1 rfl rfl ?_
      refine cg_ru_shop hE hm fk_X7_48 dX7_finishTimes_g1.2.2.2.2.2.2.1 ?_
      refine cg_wo_things hE hm fk_X7_61 dX7_finishTimes_g1.2.2.2.2.2.2.2.1 ?_
      refine r_aload_n hE 0 dX7_finishTimes_g1.2.2.2.2.2.2.2.2.1 rfl rfl ?_
      refine r_iconst (v := (0 : Int32)) hE dX7_finishTimes_g1.2.2.2.2.2.2.2.2.2.1 (by decide) ?_
      refine c_callVi hE hm [.int (0 : Int32)] [.ref (G.1 900)] ck_X7_171 (cr_ru hm rfl) (kc_ru_valueAt h) (by decide) rfl rfl (Nat.le_of_ble_eq_true rfl) dX7_finishTimes_g1.2.2.2.2.2.2.2.2.2.2.1 (fun s13 r14 h => ?_)
      refine r_iconst (v := (0 : Int32)) hE dX7_finishTimes_g1.2.2.2.2.2.2.2.2.2.2.2.1 (by decide) ?_
      refine c_callVi hE hm [.int r14, .int (0 : Int32)] [] ck_X7_236 (cr_th hm rfl) (kc_th_wholeOf h) (by decide) rfl rfl (Nat.le_of_ble_eq_true rfl) dX7_finishTimes_g1.2.2.2.2.2.2.2.2.2.2.2.2.1 (fun s15 r16 h => ?_)
      refine r_istore_n hE [(2, .int r16), (0, .ref (G.1 1200)), (1, .int a1)] dX7_finishTimes_g1.2.2.2.2.2.2.2.2.2.2.2.2.2.1 rfl hN (by decide) rfl ?_
      refine r_iload_n hE 0 dX7_finishTimes_g1.2.2.2.2.2.2.2.2.2.2.2.2.2.2.1 rfl rfl ?_
      refine r_if_ge hE 71 dX7_finishTimes_g1.2.2.2.2.2.2.2.2.2.2.2.2.2.2.2 (by decide) h (fun h => ?_) (fun h => ?_)
      · refine r_aload_n hE 1 dX7_finishTimes_g2.2.2.2.2.1 rfl rfl ?_
        refine cg_ru_turns hE hm fk_X7_25 dX7_finishTimes_g2.2.2.2.2.2.1 ?_
        refine r_aload_n hE 1 dX7_finishTimes_g2.2.2.2.2.2.2.1 rfl rfl ?_
        refine cg_ru_top hE hm fk_X7_28 dX7_finishTimes_g2.2.2.2.2.2.2.2.1 ?_
        refine r_iload_n hE 0 dX7_finishTimes_g2.2.2.2.2.2.2.2.2.1 rfl rfl ?_
        obtain ⟨hi, h⟩ := h
        refine cs_ru_turns hE hm dX7_finishTimes_g2.2.2.2.2.2.2.2.2.2.1 hi h (fun s17 h => ?_)
        refine r_pick [1, 2] rfl ?_
        exact kc_ru_finishTimes_81 hE hm hF _ _ h
      · refine r_aload_n hE 1 dX7_finishTimes_g2.1 rfl rfl ?_
        refine r_iconst (v := (4 : Int32)) hE dX7_finishTimes_g2.2.1 (by decide) ?_
        refine c_callVv hE hm [.int (4 : Int32)] [] ck_X7_158 (cr_ru hm rfl) (kc_ru_fallDown h) (by decide) rfl rfl (Nat.le_of_ble_eq_true rfl) dX7_finishTimes_g2.2.2.1 (fun s18 h => ?_)
        exact c_vret hE hm hF dX7_finishTimes_g2.2.2.2.1 h
    · refine r_aload_n hE 0 dX7_finishTimes_g0.2.2.2.2.2.2.2.2.2.2.2.2.2.2.1 rfl rfl ?_
      refine r_aload_n hE 0 dX7_finishTimes_g0.2.2.2.2.2.2.2.2.2.2.2.2.2.2.2 rfl rfl ?_
      refine cg_ru_shop hE hm fk_X7_48 dX7_finishTimes_g1.1 ?_
      refine cg_wo_reckoner hE hm fk_X7_161 dX7_finishTimes_g1.2.1 ?_
      refine cg_rk_failure hE hm fk_X7_165 dX7_finishTimes_g1.2.2.1 ?_
      refine c_callVv hE hm [.int (c_rk_failure s11)] [] ck_X7_158 (cr_ru hm rfl) (kc_ru_fallDown h) (by decide) rfl rfl (Nat.le_of_ble_eq_true rfl) dX7_finishTimes_g1.2.2.2.1 (fun s19 h => ?_)
      exact c_vret hE hm hF dX7_finishTimes_g1.2.2.2.2.1 h
/-! ru_finish -/
def wc_ru_finish_272 (post : CS → Prop) (σ : CS) : Prop := wc_ru_drop (fun (s1 : CS) => post s1) σ
set_option maxRecDepth 20000 in
theorem kc_ru_finish_272  {E : gEnv} {l : Launch} {D : va_G} {G : gAd} {post : CS → Prop} (hE : gOK E cX7_finish RX7 none 6) (hm : cOK E l D G (pV post) 3) (hF : gFin E) (σ : CS) (h : wc_ru_finish_272 post σ) : GW E (cW G σ) 272 [(0, .ref (G.1 1200))] [] := by
  unfold wc_ru_finish_272 at h
  have hN := hm.2.2.2.2.2.2.1
  refine r_aload_n hE 0 dX7_finish_g6.2.2.2.2.2.2.1 rfl rfl ?_
  refine c_callVv hE hm [] [] ck_X7_168 (cr_ru hm rfl) (kc_ru_drop h) (by decide) rfl rfl (Nat.le_of_ble_eq_true rfl) dX7_finish_g6.2.2.2.2.2.2.2.1 (fun s1 h => ?_)
  exact c_vret hE hm hF dX7_finish_g6.2.2.2.2.2.2.2.2 h
def wc_ru_finish (post : CS → Prop) (σ : CS) (a1 : Int32) : Prop := c_ru_figure σ = 300 ∧ (wc_fg_dataOf (fun (s2 : CS) (r3 : Int32) => c_ru_figure s2 = 300 ∧ (wc_fg_typeOf (fun (s4 : CS) (r5 : Int32) => (r5 = (0 : Int32) → (wc_ru_valueAt (fun (s6 : CS) (r7 : Int32) => wc_ru_hold (fun (s8 : CS) => wc_ru_drop (fun (s9 : CS) => post s9) s8) s6 r3 r7) s4 (0 : Int32))) ∧ (¬ r5 = (0 : Int32) → ((r5 = (1 : Int32) → (wc_ru_heldBy (fun (s10 : CS) (r11 : Int32) => wc_ru_valueAt (fun (s12 : CS) (r13 : Int32) => wc_ru_valueAt (fun (s14 : CS) (r15 : Int32) => wc_wo_store (fun (s16 : CS) => wc_ru_endDeed (fun (s17 : CS) => post s17) s16 (c_rk_failure s16)) s14 r11 r13 r15) s12 (1 : Int32)) s10 (0 : Int32)) s4 r3)) ∧ (¬ r5 = (1 : Int32) → ((r5 = (2 : Int32) → (wc_ru_finishIf (fun (s18 : CS) => post s18) s4 a1)) ∧ (¬ r5 = (2 : Int32) → ((r5 = (3 : Int32) → (wc_ru_finishTimes (fun (s19 : CS) => post s19) s4 a1)) ∧ (¬ r5 = (3 : Int32) → ((r5 = (4 : Int32) → (wc_ru_valueAt (fun (s20 : CS) (r21 : Int32) => wc_ru_finishState (fun (s22 : CS) => post s22) s20 r21) s4 (0 : Int32))) ∧ (¬ r5 = (4 : Int32) → ((r5 = (5 : Int32) → (wc_ru_valueAt (fun (s23 : CS) (r24 : Int32) => wc_ru_finishDraw (fun (s25 : CS) => post s25) s23 r24) s4 (0 : Int32))) ∧ (¬ r5 = (5 : Int32) → ((r5 = (6 : Int32) → (wc_ru_valueAt (fun (s26 : CS) (r27 : Int32) => wc_ru_giveBack (fun (s28 : CS) => post s28) s26 r27) s4 (0 : Int32))) ∧ (¬ r5 = (6 : Int32) → ((r5 = (7 : Int32) → (wc_ru_finish_272 post s4)) ∧ (¬ r5 = (7 : Int32) → ((r5 = (8 : Int32) → (wc_ru_finish_272 post s4)) ∧ (¬ r5 = (8 : Int32) → ((r5 = (9 : Int32) → (wc_ru_heldBy (fun (s29 : CS) (r30 : Int32) => wc_ru_valueAt (fun (s31 : CS) (r32 : Int32) => wc_wo_picked (fun (s33 : CS) (r34 : Int32) => wc_ru_endPart (fun (s35 : CS) => post s35) s33 r34) s31 r30 r32) s29 (0 : Int32)) s4 r3)) ∧ (¬ r5 = (9 : Int32) → ((r5 = (10 : Int32) → (wc_ru_finish_272 post s4)) ∧ (¬ r5 = (10 : Int32) → ((r5 = (11 : Int32) → (wc_ru_finishCall (fun (s36 : CS) => post s36) s4 r3)) ∧ (¬ r5 = (11 : Int32) → ((r5 = (12 : Int32) → (wc_ru_valueAt (fun (s37 : CS) (r38 : Int32) => wc_wo_negated (fun (s39 : CS) (r40 : Int32) => wc_ru_endPart (fun (s41 : CS) => post s41) s39 r40) s37 r38) s4 (0 : Int32))) ∧ (¬ r5 = (12 : Int32) → ((r5 = (13 : Int32) → (wc_ru_valueAt (fun (s42 : CS) (r43 : Int32) => wc_ru_valueAt (fun (s44 : CS) (r45 : Int32) => wc_wo_between (fun (s46 : CS) (r47 : Int32) => wc_ru_endPart (fun (s48 : CS) => post s48) s46 r47) s44 r3 r43 r45) s42 (1 : Int32)) s4 (0 : Int32))) ∧ (¬ r5 = (13 : Int32) → (wc_ru_finish_272 post s4))))))))))))))))))))))))))))) s2 a1)) σ a1)
set_option maxRecDepth 20000 in
theorem kc_ru_finish {l : Launch} {D : va_G} {G : gAd} {post : CS → Prop} {σ : CS} {a1 : Int32} (h : wc_ru_finish post σ a1) : cMet l D G yX7_finish cX7_finish 3 none 6 [.ref (G.1 1200), .int a1] σ (pV post) := by
  unfold wc_ru_finish at h
  refine c_enter (own := RX7) (by decide +kernel) rfl [(0, .ref (G.1 1200)), (1, .int a1)] rfl (Nat.le_of_ble_eq_true rfl) ?_
  intro E hE hm hF
  have hN := hm.2.2.2.2.2.2.1
  refine r_aload_n hE 0 dX7_finish_g0.1 rfl rfl ?_
  obtain ⟨hj, h⟩ := h
  refine cg_ru_figure hE hm fk_X7_44 dX7_finish_g0.2.1 hj ?_
  refine r_iload_n hE 1 dX7_finish_g0.2.2.1 rfl rfl ?_
  refine c_callVi hE hm [.int a1] [] ck_X7_110 (cr_fg hm rfl) (kc_fg_dataOf h) (by decide) rfl rfl (Nat.le_of_ble_eq_true rfl) dX7_finish_g0.2.2.2.1 (fun s2 r3 h => ?_)
  refine r_istore_n hE [(2, .int r3), (0, .ref (G.1 1200)), (1, .int a1)] dX7_finish_g0.2.2.2.2.1 rfl hN (by decide) rfl ?_
  refine r_aload_n hE 1 dX7_finish_g0.2.2.2.2.2.1 rfl rfl ?_
  obtain ⟨hj, h⟩ := h
  refine cg_ru_figure hE hm fk_X7_44 dX7_finish_g0.2.2.2.2.2.2.1 hj ?_
  refine r_iload_n hE 2 dX7_finish_g0.2.2.2.2.2.2.2.1 rfl rfl ?_
  refine c_callVi hE hm [.int a1] [] ck_X7_107 (cr_fg hm rfl) (kc_fg_typeOf h) (by decide) rfl rfl (Nat.le_of_ble_eq_true rfl) dX7_finish_g0.2.2.2.2.2.2.2.2.1 (fun s4 r5 h => ?_)
  refine r_case (0 : Int32) h (fun q0 h => ?_) (fun q0 h => ?_)
  · refine r_tableAt (off := 147) hE (0 : Int32) 164 dX7_finish_g0.2.2.2.2.2.2.2.2.2.1 q0 (by decide) (by decide) (by decide) (by decide) ?_
    refine r_aload_n hE 1 dX7_finish_g3.1 rfl rfl ?_
    refine r_iload_n hE 0 dX7_finish_g3.2.1 rfl rfl ?_
    refine r_aload_n hE 1 dX7_finish_g3.2.2.1 rfl rfl ?_
    refine r_iconst (v := (0 : Int32)) hE dX7_finish_g3.2.2.2.1 (by decide) ?_
    refine c_callVi hE hm [.int (0 : Int32)] [.int r3, .ref (G.1 1200)] ck_X7_171 (cr_ru hm rfl) (kc_ru_valueAt h) (by decide) rfl rfl (Nat.le_of_ble_eq_true rfl) dX7_finish_g3.2.2.2.2.1 (fun s6 r7 h => ?_)
    refine c_callVv hE hm [.int r3, .int r7] [] ck_X7_127 (cr_ru hm rfl) (kc_ru_hold h) (by decide) rfl rfl (Nat.le_of_ble_eq_true rfl) dX7_finish_g3.2.2.2.2.2.1 (fun s8 h => ?_)
    refine r_aload_n hE 1 dX7_finish_g3.2.2.2.2.2.2.1 rfl rfl ?_
    refine c_callVv hE hm [] [] ck_X7_168 (cr_ru hm rfl) (kc_ru_drop h) (by decide) rfl rfl (Nat.le_of_ble_eq_true rfl) dX7_finish_g3.2.2.2.2.2.2.2.1 (fun s9 h => ?_)
    refine r_goto hE 276 dX7_finish_g3.2.2.2.2.2.2.2.2.1 (by decide) ?_
    exact c_vret hE hm hF dX7_finish_g6.2.2.2.2.2.2.2.2 h
  · refine r_case (1 : Int32) h (fun q1 h => ?_) (fun q1 h => ?_)
    · refine r_tableAt (off := 164) hE (1 : Int32) 181 dX7_finish_g0.2.2.2.2.2.2.2.2.2.1 q1 (by decide) (by decide) (by decide) (by decide) ?_
      refine r_aload_n hE 1 dX7_finish_g3.2.2.2.2.2.2.2.2.2.1 rfl rfl ?_
      refine cg_ru_shop hE hm fk_X7_48 dX7_finish_g3.2.2.2.2.2.2.2.2.2.2.1 ?_
      refine r_aload_n hE 1 dX7_finish_g3.2.2.2.2.2.2.2.2.2.2.2.1 rfl rfl ?_
      refine r_iload_n hE 0 dX7_finish_g3.2.2.2.2.2.2.2.2.2.2.2.2.1 rfl rfl ?_
      refine c_callVi hE hm [.int r3] [.ref (G.1 1300)] ck_X7_151 (cr_ru hm rfl) (kc_ru_heldBy h) (by decide) rfl rfl (Nat.le_of_ble_eq_true rfl) dX7_finish_g3.2.2.2.2.2.2.2.2.2.2.2.2.2.1 (fun s10 r11 h => ?_)
      refine r_aload_n hE 1 dX7_finish_g3.2.2.2.2.2.2.2.2.2.2.2.2.2.2.1 rfl rfl ?_
      refine r_iconst (v := (0 : Int32)) hE dX7_finish_g3.2.2.2.2.2.2.2.2.2.2.2.2.2.2.2 (by decide) ?_
      refine c_callVi hE hm [.int (0 : Int32)] [.int r11, .ref (G.1 1300)] ck_X7_171 (cr_ru hm rfl) (kc_ru_valueAt h) (by decide) rfl rfl (Nat.le_of_ble_eq_true rfl) dX7_finish_g4.1 (fun s12 r13 h => ?_)
      refine r_aload_n hE 1 dX7_finish_g4.2.1 rfl rfl ?_
      refine r_iconst (v := (1 : Int32)) hE dX7_finish_g4.2.2.1 (by decide) ?_
      refine c_callVi hE hm [.int (1 : Int32)] [.int r13, .int r11, .ref (G.1 1300)] ck_X7_171 (cr_ru hm rfl) (kc_ru_valueAt h) (by decide) rfl rfl (Nat.le_of_ble_eq_true rfl) dX7_finish_g4.2.2.2.1 (fun s14 r15 h => ?_)
      refine c_callVv hE hm [.int r11, .int r13, .int r15] [] ck_X7_188 (cr_wo hm rfl) (kc_wo_store h) (by decide) rfl rfl (Nat.le_of_ble_eq_true rfl) dX7_finish_g4.2.2.2.2.1 (fun s16 h => ?_)
      refine r_aload_n hE 1 dX7_finish_g4.2.2.2.2.2.1 rfl rfl ?_
      refine r_aload_n hE 1 dX7_finish_g4.2.2.2.2.2.2.1 rfl rfl ?_
      refine cg_ru_shop hE hm fk_X7_48 dX7_finish_g4.2.2.2.2.2.2.2.1 ?_
      refine cg_wo_reckoner hE hm fk_X7_161 dX7_finish_g4.2.2.2.2.2.2.2.2.1 ?_
      refine cg_rk_failure hE hm fk_X7_165 dX7_finish_g4.2.2.2.2.2.2.2.2.2.1 ?_
      refine c_callVv hE hm [.int (c_rk_failure s16)] [] ck_X7_192 (cr_ru hm rfl) (kc_ru_endDeed h) (by decide) rfl rfl (Nat.le_of_ble_eq_true rfl) dX7_finish_g4.2.2.2.2.2.2.2.2.2.2.1 (fun s17 h => ?_)
      refine r_goto hE 276 dX7_finish_g4.2.2.2.2.2.2.2.2.2.2.2.1 (by decide) ?_
      exact c_vret hE hm hF dX7_finish_g6.2.2.2.2.2.2.2.2 h
    · refine r_case (2 : Int32) h (fun q2 h => ?_) (fun q2 h => ?_)
      · refine r_tableAt (off := 203) hE (2 : Int32) 220 dX7_finish_g0.2.2.2.2.2.2.2.2.2.1 q2 (by decide) (by decide) (by decide) (by decide) ?_
        refine r_aload_n hE 1 dX7_finish_g4.2.2.2.2.2.2.2.2.2.2.2.2.1 rfl rfl ?_
        refine r_iload_n hE 2 dX7_finish_g4.2.2.2.2.2.2.2.2.2.2.2.2.2.1 rfl rfl ?_
        refine c_callVv hE hm [.int a1] [] ck_X7_195 (cr_ru hm rfl) (kc_ru_finishIf h) (by decide) rfl rfl (Nat.le_of_ble_eq_true rfl) dX7_finish_g4.2.2.2.2.2.2.2.2.2.2.2.2.2.2.1 (fun s18 h => ?_)
        refine r_goto hE 276 dX7_finish_g4.2.2.2.2.2.2.2.2.2.2.2.2.2.2.2 (by decide) ?_
        exact c_vret hE hm hF dX7_finish_g6.2.2.2.2.2.2.2.2 h
      · refine r_case (3 : Int32) h (fun q3 h => ?_) (fun q3 h => ?_)
        · refine r_tableAt (off := 211) hE (3 : Int32) 228 dX7_finish_g0.2.2.2.2.2.2.2.2.2.1 q3 (by decide) (by decide) (by decide) (by decide) ?_
          refine r_aload_n hE 1 dX7_finish_g5.1 rfl rfl ?_
          refine r_iload_n hE 2 dX7_finish_g5.2.1 rfl rfl ?_
          refine c_callVv hE hm [.int a1] [] ck_X7_198 (cr_ru hm rfl) (kc_ru_finishTimes h) (by decide) rfl rfl (Nat.le_of_ble_eq_true rfl) dX7_finish_g5.2.2.1 (fun s19 h => ?_)
          refine r_goto hE 276 dX7_finish_g5.2.2.2.1 (by decide) ?_
          exact c_vret hE hm hF dX7_finish_g6.2.2.2.2.2.2.2.2 h
        · refine r_case (4 : Int32) h (fun q4 h => ?_) (fun q4 h => ?_)
          · refine r_tableAt (off := 219) hE (4 : Int32) 236 dX7_finish_g0.2.2.2.2.2.2.2.2.2.1 q4 (by decide) (by decide) (by decide) (by decide) ?_
            refine r_aload_n hE 1 dX7_finish_g5.2.2.2.2.1 rfl rfl ?_
            refine r_aload_n hE 1 dX7_finish_g5.2.2.2.2.2.1 rfl rfl ?_
            refine r_iconst (v := (0 : Int32)) hE dX7_finish_g5.2.2.2.2.2.2.1 (by decide) ?_
            refine c_callVi hE hm [.int (0 : Int32)] [.ref (G.1 1200)] ck_X7_171 (cr_ru hm rfl) (kc_ru_valueAt h) (by decide) rfl rfl (Nat.le_of_ble_eq_true rfl) dX7_finish_g5.2.2.2.2.2.2.2.1 (fun s20 r21 h => ?_)
            refine c_callVv hE hm [.int r21] [] ck_X7_201 (cr_ru hm rfl) (kc_ru_finishState h) (by decide) rfl rfl (Nat.le_of_ble_eq_true rfl) dX7_finish_g5.2.2.2.2.2.2.2.2.1 (fun s22 h => ?_)
            refine r_goto hE 276 dX7_finish_g5.2.2.2.2.2.2.2.2.2.1 (by decide) ?_
            exact c_vret hE hm hF dX7_finish_g6.2.2.2.2.2.2.2.2 h
          · refine r_case (5 : Int32) h (fun q5 h => ?_) (fun q5 h => ?_)
            · refine r_tableAt (off := 231) hE (5 : Int32) 248 dX7_finish_g0.2.2.2.2.2.2.2.2.2.1 q5 (by decide) (by decide) (by decide) (by decide) ?_
              refine r_aload_n hE 1 dX7_finish_g5.2.2.2.2.2.2.2.2.2.2.1 rfl rfl ?_
              refine r_aload_n hE 1 dX7_finish_g5.2.2.2.2.2.2.2.2.2.2.2.1 rfl rfl ?_
              refine r_iconst (v := (0 : Int32)) hE dX7_finish_g5.2.2.2.2.2.2.2.2.2.2.2.2.1 (by decide) ?_
              refine c_callVi hE hm [.int (0 : Int32)] [.ref (G.1 1200)] ck_X7_171 (cr_ru hm rfl) (kc_ru_valueAt h) (by decide) rfl rfl (Nat.le_of_ble_eq_true rfl) dX7_finish_g5.2.2.2.2.2.2.2.2.2.2.2.2.2.1 (fun s23 r24 h => ?_)
              refine c_callVv hE hm [.int r24] [] ck_X7_204 (cr_ru hm rfl) (kc_ru_finishDraw h) (by decide) rfl rfl (Nat.le_of_ble_eq_true rfl) dX7_finish_g5.2.2.2.2.2.2.2.2.2.2.2.2.2.2.1 (fun s25 h => ?_)
              refine r_goto hE 276 dX7_finish_g5.2.2.2.2.2.2.2.2.2.2.2.2.2.2.2 (by decide) ?_
              exact c_vret hE hm hF dX7_finish_g6.2.2.2.2.2.2.2.2 h
            · refine r_case (6 : Int32) h (fun q6 h => ?_) (fun q6 h => ?_)
              · refine r_tableAt (off := 243) hE (6 : Int32) 260 dX7_finish_g0.2.2.2.2.2.2.2.2.2.1 q6 (by decide) (by decide) (by decide) (by decide) ?_
                refine r_aload_n hE 1 dX7_finish_g6.1 rfl rfl ?_
                refine r_aload_n hE 1 dX7_finish_g6.2.1 rfl rfl ?_
                refine r_iconst (v := (0 : Int32)) hE dX7_finish_g6.2.2.1 (by decide) ?_
                refine c_callVi hE hm [.int (0 : Int32)] [.ref (G.1 1200)] ck_X7_171 (cr_ru hm rfl) (kc_ru_valueAt h) (by decide) rfl rfl (Nat.le_of_ble_eq_true rfl) dX7_finish_g6.2.2.2.1 (fun s26 r27 h => ?_)
                refine c_callVv hE hm [.int r27] [] ck_X7_207 (cr_ru hm rfl) (kc_ru_giveBack h) (by decide) rfl rfl (Nat.le_of_ble_eq_true rfl) dX7_finish_g6.2.2.2.2.1 (fun s28 h => ?_)
                refine r_goto hE 276 dX7_finish_g6.2.2.2.2.2.1 (by decide) ?_
                exact c_vret hE hm hF dX7_finish_g6.2.2.2.2.2.2.2.2 h
              · refine r_case (7 : Int32) h (fun q7 h => ?_) (fun q7 h => ?_)
                · refine r_tableAt (off := 255) hE (7 : Int32) 272 dX7_finish_g0.2.2.2.2.2.2.2.2.2.1 q7 (by decide) (by decide) (by decide) (by decide) ?_
                  refine r_pick [1] rfl ?_
                  exact kc_ru_finish_272 hE hm hF _ h
                · refine r_case (8 : Int32) h (fun q8 h => ?_) (fun q8 h => ?_)
                  · refine r_tableAt (off := 255) hE (8 : Int32) 272 dX7_finish_g0.2.2.2.2.2.2.2.2.2.1 q8 (by decide) (by decide) (by decide) (by decide) ?_
                    refine r_pick [1] rfl ?_
                    exact kc_ru_finish_272 hE hm hF _ h
                  · refine r_case (9 : Int32) h (fun q9 h => ?_) (fun q9 h => ?_)
                    · refine r_tableAt (off := 115) hE (9 : Int32) 132 dX7_finish_g0.2.2.2.2.2.2.2.2.2.1 q9 (by decide) (by decide) (by decide) (by decide) ?_
                      refine r_aload_n hE 1 dX7_finish_g2.1 rfl rfl ?_
                      refine r_aload_n hE 1 dX7_finish_g2.2.1 rfl rfl ?_
                      refine cg_ru_shop hE hm fk_X7_48 dX7_finish_g2.2.2.1 ?_
                      refine r_aload_n hE 1 dX7_finish_g2.2.2.2.1 rfl rfl ?_
                      refine r_iload_n hE 0 dX7_finish_g2.2.2.2.2.1 rfl rfl ?_
                      refine c_callVi hE hm [.int r3] [.ref (G.1 1300), .ref (G.1 1200)] ck_X7_151 (cr_ru hm rfl) (kc_ru_heldBy h) (by decide) rfl rfl (Nat.le_of_ble_eq_true rfl) dX7_finish_g2.2.2.2.2.2.1 (fun s29 r30 h => ?_)
                      refine r_aload_n hE 1 dX7_finish_g2.2.2.2.2.2.2.1 rfl rfl ?_
                      refine r_iconst (v := (0 : Int32)) hE dX7_finish_g2.2.2.2.2.2.2.2.1 (by decide) ?_
                      refine c_callVi hE hm [.int (0 : Int32)] [.int r30, .ref (G.1 1300), .ref (G.1 1200)] ck_X7_171 (cr_ru hm rfl) (kc_ru_valueAt h) (by decide) rfl rfl (Nat.le_of_ble_eq_true rfl) dX7_finish_g2.2.2.2.2.2.2.2.2.1 (fun s31 r32 h => ?_)
                      refine c_callVi hE hm [.int r30, .int r32] [.ref (G.1 1200)] ck_X7_181 (cr_wo hm rfl) (kc_wo_picked h) (by decide) rfl rfl (Nat.le_of_ble_eq_true rfl) dX7_finish_g2.2.2.2.2.2.2.2.2.2.1 (fun s33 r34 h => ?_)
                      refine c_callVv hE hm [.int r34] [] ck_X7_121 (cr_ru hm rfl) (kc_ru_endPart h) (by decide) rfl rfl (Nat.le_of_ble_eq_true rfl) dX7_finish_g2.2.2.2.2.2.2.2.2.2.2.1 (fun s35 h => ?_)
                      refine r_goto hE 276 dX7_finish_g2.2.2.2.2.2.2.2.2.2.2.2.1 (by decide) ?_
                      exact c_vret hE hm hF dX7_finish_g6.2.2.2.2.2.2.2.2 h
                    · refine r_case (10 : Int32) h (fun q10 h => ?_) (fun q10 h => ?_)
                      · refine r_tableAt (off := 255) hE (10 : Int32) 272 dX7_finish_g0.2.2.2.2.2.2.2.2.2.1 q10 (by decide) (by decide) (by decide) (by decide) ?_
                        refine r_pick [1] rfl ?_
                        exact kc_ru_finish_272 hE hm hF _ h
                      · refine r_case (11 : Int32) h (fun q11 h => ?_) (fun q11 h => ?_)
                        · refine r_tableAt (off := 139) hE (11 : Int32) 156 dX7_finish_g0.2.2.2.2.2.2.2.2.2.1 q11 (by decide) (by decide) (by decide) (by decide) ?_
                          refine r_aload_n hE 1 dX7_finish_g2.2.2.2.2.2.2.2.2.2.2.2.2.1 rfl rfl ?_
                          refine r_iload_n hE 0 dX7_finish_g2.2.2.2.2.2.2.2.2.2.2.2.2.2.1 rfl rfl ?_
                          refine c_callVv hE hm [.int r3] [] ck_X7_185 (cr_ru hm rfl) (kc_ru_finishCall h) (by decide) rfl rfl (Nat.le_of_ble_eq_true rfl) dX7_finish_g2.2.2.2.2.2.2.2.2.2.2.2.2.2.2.1 (fun s36 h => ?_)
                          refine r_goto hE 276 dX7_finish_g2.2.2.2.2.2.2.2.2.2.2.2.2.2.2.2 (by decide) ?_
                          exact c_vret hE hm hF dX7_finish_g6.2.2.2.2.2.2.2.2 h
                        · refine r_case (12 : Int32) h (fun q12 h => ?_) (fun q12 h => ?_)
                          · refine r_tableAt (off := 96) hE (12 : Int32) 113 dX7_finish_g0.2.2.2.2.2.2.2.2.2.1 q12 (by decide) (by decide) (by decide) (by decide) ?_
                            refine r_aload_n hE 1 dX7_finish_g1.2.2.2.2.2.2.2.1 rfl rfl ?_
                            refine r_aload_n hE 1 dX7_finish_g1.2.2.2.2.2.2.2.2.1 rfl rfl ?_
                            refine cg_ru_shop hE hm fk_X7_48 dX7_finish_g1.2.2.2.2.2.2.2.2.2.1 ?_
                            refine r_aload_n hE 1 dX7_finish_g1.2.2.2.2.2.2.2.2.2.2.1 rfl rfl ?_
                            refine r_iconst (v := (0 : Int32)) hE dX7_finish_g1.2.2.2.2.2.2.2.2.2.2.2.1 (by decide) ?_
                            refine c_callVi hE hm [.int (0 : Int32)] [.ref (G.1 1300), .ref (G.1 1200)] ck_X7_171 (cr_ru hm rfl) (kc_ru_valueAt h) (by decide) rfl rfl (Nat.le_of_ble_eq_true rfl) dX7_finish_g1.2.2.2.2.2.2.2.2.2.2.2.2.1 (fun s37 r38 h => ?_)
                            refine c_callVi hE hm [.int r38] [.ref (G.1 1200)] ck_X7_178 (cr_wo hm rfl) (kc_wo_negated h) (by decide) rfl rfl (Nat.le_of_ble_eq_true rfl) dX7_finish_g1.2.2.2.2.2.2.2.2.2.2.2.2.2.1 (fun s39 r40 h => ?_)
                            refine c_callVv hE hm [.int r40] [] ck_X7_121 (cr_ru hm rfl) (kc_ru_endPart h) (by decide) rfl rfl (Nat.le_of_ble_eq_true rfl) dX7_finish_g1.2.2.2.2.2.2.2.2.2.2.2.2.2.2.1 (fun s41 h => ?_)
                            refine r_goto hE 276 dX7_finish_g1.2.2.2.2.2.2.2.2.2.2.2.2.2.2.2 (by decide) ?_
                            exact c_vret hE hm hF dX7_finish_g6.2.2.2.2.2.2.2.2 h
                          · refine r_case (13 : Int32) h (fun q13 h => ?_) (fun q13 h => ?_)
                            · refine r_tableAt (off := 71) hE (13 : Int32) 88 dX7_finish_g0.2.2.2.2.2.2.2.2.2.1 q13 (by decide) (by decide) (by decide) (by decide) ?_
                              refine r_aload_n hE 1 dX7_finish_g0.2.2.2.2.2.2.2.2.2.2.1 rfl rfl ?_
                              refine r_aload_n hE 1 dX7_finish_g0.2.2.2.2.2.2.2.2.2.2.2.1 rfl rfl ?_
                              refine cg_ru_shop hE hm fk_X7_48 dX7_finish_g0.2.2.2.2.2.2.2.2.2.2.2.2.1 ?_
                              refine r_iload_n hE 0 dX7_finish_g0.2.2.2.2.2.2.2.2.2.2.2.2.2.1 rfl rfl ?_
                              refine r_aload_n hE 1 dX7_finish_g0.2.2.2.2.2.2.2.2.2.2.2.2.2.2.1 rfl rfl ?_
                              refine r_iconst (v := (0 : Int32)) hE dX7_finish_g0.2.2.2.2.2.2.2.2.2.2.2.2.2.2.2 (by decide) ?_
                              refine c_callVi hE hm [.int (0 : Int32)] [.int r3, .ref (G.1 1300), .ref (G.1 1200)] ck_X7_171 (cr_ru hm rfl) (kc_ru_valueAt h) (by decide) rfl rfl (Nat.le_of_ble_eq_true rfl) dX7_finish_g1.1 (fun s42 r43 h => ?_)
                              refine r_aload_n hE 1 dX7_finish_g1.2.1 rfl rfl ?_
                              refine r_iconst (v := (1 : Int32)) hE dX7_finish_g1.2.2.1 (by decide) ?_
                              refine c_callVi hE hm [.int (1 : Int32)] [.int r43, .int r3, .ref (G.1 1300), .ref (G.1 1200)] ck_X7_171 (cr_ru hm rfl) (kc_ru_valueAt h) (by decide) rfl rfl (Nat.le_of_ble_eq_true rfl) dX7_finish_g1.2.2.2.1 (fun s44 r45 h => ?_)
                              refine c_callVi hE hm [.int r3, .int r43, .int r45] [.ref (G.1 1200)] ck_X7_174 (cr_wo hm rfl) (kc_wo_between h) (by decide) rfl rfl (Nat.le_of_ble_eq_true rfl) dX7_finish_g1.2.2.2.2.1 (fun s46 r47 h => ?_)
                              refine c_callVv hE hm [.int r47] [] ck_X7_121 (cr_ru hm rfl) (kc_ru_endPart h) (by decide) rfl rfl (Nat.le_of_ble_eq_true rfl) dX7_finish_g1.2.2.2.2.2.1 (fun s48 h => ?_)
                              refine r_goto hE 276 dX7_finish_g1.2.2.2.2.2.2.1 (by decide) ?_
                              exact c_vret hE hm hF dX7_finish_g6.2.2.2.2.2.2.2.2 h
                            · have n0 := lv_neT q0 (show (0 : Int32).toInt = 0 by decide)
                              have n1 := lv_neT q1 (show (1 : Int32).toInt = 1 by decide)
                              have n2 := lv_neT q2 (show (2 : Int32).toInt = 2 by decide)
                              have n3 := lv_neT q3 (show (3 : Int32).toInt = 3 by decide)
                              have n4 := lv_neT q4 (show (4 : Int32).toInt = 4 by decide)
                              have n5 := lv_neT q5 (show (5 : Int32).toInt = 5 by decide)
                              have n6 := lv_neT q6 (show (6 : Int32).toInt = 6 by decide)
                              have n7 := lv_neT q7 (show (7 : Int32).toInt = 7 by decide)
                              have n8 := lv_neT q8 (show (8 : Int32).toInt = 8 by decide)
                              have n9 := lv_neT q9 (show (9 : Int32).toInt = 9 by decide)
                              have n10 := lv_neT q10 (show (10 : Int32).toInt = 10 by decide)
                              have n11 := lv_neT q11 (show (11 : Int32).toInt = 11 by decide)
                              have n12 := lv_neT q12 (show (12 : Int32).toInt = 12 by decide)
                              have n13 := lv_neT q13 (show (13 : Int32).toInt = 13 by decide)
                              refine r_tableOut hE 272 dX7_finish_g0.2.2.2.2.2.2.2.2.2.1 (by omega) (by decide) ?_
                              refine r_pick [1] rfl ?_
                              exact kc_ru_finish_272 hE hm hF _ h
/-! ru_work_fg -/
def wc_ru_work_fg_248 (post : CS → Prop) (lp72 : CS → Int32 → Prop) (σ : CS) (v2 : Int32) : Prop := ∀ x1 : Int32, x1 = v2 + (1 : Int32) → lp72 σ x1
set_option maxRecDepth 20000 in
theorem kc_ru_work_fg_248  {E : gEnv} {l : Launch} {D : va_G} {G : gAd} {post : CS → Prop} (hE : gOK E cX7_work RX7 none 7) (hm : cOK E l D G (pV post) 4) (hF : gFin E) {lp72 : CS → Int32 → Prop} (hl72 : ∀ (σ : CS) (v2 : Int32), lp72 σ v2 → GW E (cW G σ) 72 [(0, .ref (G.1 1200)), (2, .int v2)] []) (σ : CS) (v2 : Int32) (h : wc_ru_work_fg_248 post lp72 σ v2) : GW E (cW G σ) 248 [(0, .ref (G.1 1200)), (2, .int v2)] [] := by
  unfold wc_ru_work_fg_248 at h
  have hN := hm.2.2.2.2.2.2.1
  obtain ⟨x1, ex1⟩ : ∃ z : Int32, z = v2 + (1 : Int32) := ⟨_, rfl⟩
  have h := h x1 ex1
  refine r_iinc (v := x1) hE [(2, .int x1), (0, .ref (G.1 1200))] 1 dX7_work_g7.2.2.2.2.2.2.2.2.2.2.2.2.1 rfl (by rw [ex1]; rfl) hN (by decide) rfl ?_
  refine r_goto hE 72 dX7_work_g7.2.2.2.2.2.2.2.2.2.2.2.2.2.1 (by decide) ?_
  refine r_pick [1, 0] rfl ?_
  exact hl72 _ _ h
def wc_ru_work_fg_235 (post : CS → Prop) (lp72 : CS → Int32 → Prop) (σ : CS) (v2 : Int32) : Prop := vp_in (c_ru_top σ) 401 ∧ (wc_ru_finish (fun (s2 : CS) => wc_ru_work_fg_248 post lp72 s2 v2) σ (c_ru_node σ (c_ru_top σ).toNatClampNeg))
set_option maxRecDepth 20000 in
theorem kc_ru_work_fg_235  {E : gEnv} {l : Launch} {D : va_G} {G : gAd} {post : CS → Prop} (hE : gOK E cX7_work RX7 none 7) (hm : cOK E l D G (pV post) 4) (hF : gFin E) {lp72 : CS → Int32 → Prop} (hl72 : ∀ (σ : CS) (v2 : Int32), lp72 σ v2 → GW E (cW G σ) 72 [(0, .ref (G.1 1200)), (2, .int v2)] []) (σ : CS) (v2 : Int32) (h : wc_ru_work_fg_235 post lp72 σ v2) : GW E (cW G σ) 235 [(0, .ref (G.1 1200)), (2, .int v2)] [] := by
  unfold wc_ru_work_fg_235 at h
  have hN := hm.2.2.2.2.2.2.1
  refine r_aload_n hE 0 dX7_work_g7.2.2.2.2.2.1 rfl rfl ?_
  refine r_aload_n hE 0 dX7_work_g7.2.2.2.2.2.2.1 rfl rfl ?_
  refine cg_ru_node hE hm fk_X7_11 dX7_work_g7.2.2.2.2.2.2.2.1 ?_
  refine r_aload_n hE 0 dX7_work_g7.2.2.2.2.2.2.2.2.1 rfl rfl ?_
  refine cg_ru_top hE hm fk_X7_28 dX7_work_g7.2.2.2.2.2.2.2.2.2.1 ?_
  obtain ⟨hi, h⟩ := h
  refine cl_ru_node hE hm dX7_work_g7.2.2.2.2.2.2.2.2.2.2.1 hi ?_
  refine c_callVv hE hm [.int (c_ru_node σ (c_ru_top σ).toNatClampNeg)] [] ck_X7_124 (cr_ru hm rfl) (kc_ru_finish h) (by decide) rfl rfl (Nat.le_of_ble_eq_true rfl) dX7_work_g7.2.2.2.2.2.2.2.2.2.2.2.1 (fun s2 h => ?_)
  exact kc_ru_work_fg_248 hE hm hF hl72 _ _ h
def wc_ru_work_fg_72 (post : CS → Prop) : Nat → CS → Int32 → Prop
  | 0, _, _ => False
  | n + 1, σ, v2 => (((1000000 : Int32) ≤ v2) → (post σ)) ∧ ((¬ ((1000000 : Int32) ≤ v2)) → (wc_SX12_inside (fun (s3 : CS) (r4 : Int32) => ((r4 = (0 : Int32)) → (post s3)) ∧ ((¬ (r4 = (0 : Int32))) → (((¬ ((c_to_spent s3) = (0 : Int32))) → (post s3)) ∧ (((c_to_spent s3) = (0 : Int32)) → (vp_in (c_ru_top s3) 401 ∧ (∀ x5 : Int32, x5 = c_ru_cursor s3 (c_ru_top s3).toNatClampNeg → ((x5 = (-1 : Int32)) → (c_ru_figure s3 = 300 ∧ (vp_in (c_ru_top s3) 401 ∧ (wc_fg_typeOf (fun (s6 : CS) (r7 : Int32) => ((¬ (r7 = (10 : Int32))) → (wc_ru_work_fg_235 post (fun (ys : CS) (y0 : Int32) => wc_ru_work_fg_72 post n ys y0) s6 v2)) ∧ ((r7 = (10 : Int32)) → (c_ru_figure s6 = 300 ∧ (vp_in (c_ru_top s6) 401 ∧ (wc_fg_dataOf (fun (s8 : CS) (r9 : Int32) => wc_SX12_inside (fun (s10 : CS) (r11 : Int32) => ((r11 = (0 : Int32)) → (wc_ru_work_fg_235 post (fun (ys : CS) (y0 : Int32) => wc_ru_work_fg_72 post n ys y0) s10 v2)) ∧ ((¬ (r11 = (0 : Int32))) → (c_ru_figure s10 = 300 ∧ (vp_in (c_ru_top s10) 401 ∧ (wc_fg_dataOf (fun (s12 : CS) (r13 : Int32) => vp_in r13 39 ∧ (vp_in (c_ru_top s12) 401 ∧ (wc_wo_use_t_ru_value (fun (s14 : CS) (r15 : Int32) => wc_ru_endPart (fun (s16 : CS) => wc_ru_work_fg_248 post (fun (ys : CS) (y0 : Int32) => wc_ru_work_fg_72 post n ys y0) s16 v2) s14 r15) s12 (r13.toNatClampNeg) (c_ru_floor s12 (c_ru_top s12).toNatClampNeg)))) s10 (c_ru_node s10 (c_ru_top s10).toNatClampNeg)))))) s8 r9 (39 : Int32)) s6 (c_ru_node s6 (c_ru_top s6).toNatClampNeg)))))) s3 (c_ru_node s3 (c_ru_top s3).toNatClampNeg))))) ∧ ((¬ (x5 = (-1 : Int32))) → (c_ru_figure s3 = 300 ∧ (wc_fg_nextOf (fun (s17 : CS) (r18 : Int32) => vp_in (c_ru_top s3) 401 ∧ (∀ s19 : CS, s19 = c_ru_cursor_s s17 (c_ru_top s3).toNatClampNeg r18 → wc_ru_enter (fun (s20 : CS) => wc_ru_work_fg_248 post (fun (ys : CS) (y0 : Int32) => wc_ru_work_fg_72 post n ys y0) s20 v2) s19 x5)) s3 x5))))))))) σ (c_ru_top σ) (401 : Int32)))
set_option maxRecDepth 20000 in
theorem kc_ru_work_fg_72  {E : gEnv} {l : Launch} {D : va_G} {G : gAd} {post : CS → Prop} (hE : gOK E cX7_work RX7 none 7) (hm : cOK E l D G (pV post) 4) (hF : gFin E) : ∀ (n0 : Nat) (σ : CS) (v2 : Int32), wc_ru_work_fg_72 post n0 σ v2 → GW E (cW G σ) 72 [(0, .ref (G.1 1200)), (2, .int v2)] [] := by
  intro n0
  induction n0 with
  | zero => intro σ v2 h; exact h.elim
  | succ n0 ih =>
    intro σ v2 h
    rw [wc_ru_work_fg_72] at h
    have hN := hm.2.2.2.2.2.2.1
    refine r_iload_n hE 1 dX7_work_g2.2.2.2.2.2.2.1 rfl rfl ?_
    refine r_ldc (v := (1000000 : Int32)) hE dX7_work_g2.2.2.2.2.2.2.2.1 (gTb_4 (List.mem_of_getElem? (i := 132) rfl) rfl) ?_
    refine r_icmp_ge hE 254 dX7_work_g2.2.2.2.2.2.2.2.2.1 (by decide) h (fun h => ?_) (fun h => ?_)
    · exact c_vret hE hm hF dX7_work_g7.2.2.2.2.2.2.2.2.2.2.2.2.2.2 h
    · refine r_aload_n hE 0 dX7_work_g2.2.2.2.2.2.2.2.2.2.1 rfl rfl ?_
      refine cg_ru_top hE hm fk_X7_28 dX7_work_g2.2.2.2.2.2.2.2.2.2.2.1 ?_
      refine r_sipush (v := (401 : Int32)) hE dX7_work_g2.2.2.2.2.2.2.2.2.2.2.2.1 (by decide) ?_
      refine c_callSNi hE hm [.int (c_ru_top σ), .int (401 : Int32)] [] ck_X7_92 cw_X7_92 (kc_SX12_inside h) (by decide) rfl rfl (Nat.le_of_ble_eq_true rfl) dX7_work_g2.2.2.2.2.2.2.2.2.2.2.2.2.1 (fun s3 r4 h => ?_)
      refine r_if_eq hE 254 dX7_work_g2.2.2.2.2.2.2.2.2.2.2.2.2.2.1 (by decide) h (fun h => ?_) (fun h => ?_)
      · exact c_vret hE hm hF dX7_work_g7.2.2.2.2.2.2.2.2.2.2.2.2.2.2 h
      · refine r_aload_n hE 0 dX7_work_g2.2.2.2.2.2.2.2.2.2.2.2.2.2.2.1 rfl rfl ?_
        refine cg_ru_told hE hm fk_X7_52 dX7_work_g2.2.2.2.2.2.2.2.2.2.2.2.2.2.2.2 ?_
        refine cg_to_spent hE hm fk_X7_96 dX7_work_g3.1 ?_
        refine r_if_ne hE 254 dX7_work_g3.2.1 (by decide) h (fun h => ?_) (fun h => ?_)
        · exact c_vret hE hm hF dX7_work_g7.2.2.2.2.2.2.2.2.2.2.2.2.2.2 h
        · refine r_aload_n hE 0 dX7_work_g3.2.2.1 rfl rfl ?_
          refine cg_ru_cursor hE hm fk_X7_15 dX7_work_g3.2.2.2.1 ?_
          refine r_aload_n hE 0 dX7_work_g3.2.2.2.2.1 rfl rfl ?_
          refine cg_ru_top hE hm fk_X7_28 dX7_work_g3.2.2.2.2.2.1 ?_
          obtain ⟨hi, h⟩ := h
          refine cl_ru_cursor hE hm dX7_work_g3.2.2.2.2.2.2.1 hi ?_
          refine r_topi h (fun x5 ex5 h => ?_)
          refine r_istore_n hE [(3, .int x5), (0, .ref (G.1 1200)), (2, .int v2)] dX7_work_g3.2.2.2.2.2.2.2.1 rfl hN (by decide) rfl ?_
          refine r_iload_n hE 0 dX7_work_g3.2.2.2.2.2.2.2.2.1 rfl rfl ?_
          refine r_iconst (v := (-1 : Int32)) hE dX7_work_g3.2.2.2.2.2.2.2.2.2.1 (by decide) ?_
          refine r_icmp_eq hE 141 dX7_work_g3.2.2.2.2.2.2.2.2.2.2.1 (by decide) h (fun h => ?_) (fun h => ?_)
          · refine r_aload_n hE 1 dX7_work_g4.2.2.2.2.2.2.2.2.1 rfl rfl ?_
            obtain ⟨hj, h⟩ := h
            refine cg_ru_figure hE hm fk_X7_44 dX7_work_g4.2.2.2.2.2.2.2.2.2.1 hj ?_
            refine r_aload_n hE 1 dX7_work_g4.2.2.2.2.2.2.2.2.2.2.1 rfl rfl ?_
            refine cg_ru_node hE hm fk_X7_11 dX7_work_g4.2.2.2.2.2.2.2.2.2.2.2.1 ?_
            refine r_aload_n hE 1 dX7_work_g4.2.2.2.2.2.2.2.2.2.2.2.2.1 rfl rfl ?_
            refine cg_ru_top hE hm fk_X7_28 dX7_work_g4.2.2.2.2.2.2.2.2.2.2.2.2.2.1 ?_
            obtain ⟨hi, h⟩ := h
            refine cl_ru_node hE hm dX7_work_g4.2.2.2.2.2.2.2.2.2.2.2.2.2.2.1 hi ?_
            refine c_callVi hE hm [.int (c_ru_node s3 (c_ru_top s3).toNatClampNeg)] [] ck_X7_107 (cr_fg hm rfl) (kc_fg_typeOf h) (by decide) rfl rfl (Nat.le_of_ble_eq_true rfl) dX7_work_g4.2.2.2.2.2.2.2.2.2.2.2.2.2.2.2 (fun s6 r7 h => ?_)
            refine r_bipush (v := (10 : Int32)) hE dX7_work_g5.1 (by decide) ?_
            refine r_icmp_ne hE 235 dX7_work_g5.2.1 (by decide) h (fun h => ?_) (fun h => ?_)
            · refine r_pick [1, 2] rfl ?_
              exact kc_ru_work_fg_235 hE hm hF ih _ _ h
            · refine r_aload_n hE 1 dX7_work_g5.2.2.1 rfl rfl ?_
              obtain ⟨hj, h⟩ := h
              refine cg_ru_figure hE hm fk_X7_44 dX7_work_g5.2.2.2.1 hj ?_
              refine r_aload_n hE 1 dX7_work_g5.2.2.2.2.1 rfl rfl ?_
              refine cg_ru_node hE hm fk_X7_11 dX7_work_g5.2.2.2.2.2.1 ?_
              refine r_aload_n hE 1 dX7_work_g5.2.2.2.2.2.2.1 rfl rfl ?_
              refine cg_ru_top hE hm fk_X7_28 dX7_work_g5.2.2.2.2.2.2.2.1 ?_
              obtain ⟨hi, h⟩ := h
              refine cl_ru_node hE hm dX7_work_g5.2.2.2.2.2.2.2.2.1 hi ?_
              refine c_callVi hE hm [.int (c_ru_node s6 (c_ru_top s6).toNatClampNeg)] [] ck_X7_110 (cr_fg hm rfl) (kc_fg_dataOf h) (by decide) rfl rfl (Nat.le_of_ble_eq_true rfl) dX7_work_g5.2.2.2.2.2.2.2.2.2.1 (fun s8 r9 h => ?_)
              refine kz_tools hE hm cw_X7_113 dX7_work_g5.2.2.2.2.2.2.2.2.2.2.1 ?_
              refine kl_tools hE hm dX7_work_g5.2.2.2.2.2.2.2.2.2.2.2.1 ?_
              refine c_callSNi hE hm [.int r9, .int (39 : Int32)] [] ck_X7_92 cw_X7_92 (kc_SX12_inside h) (by decide) rfl rfl (Nat.le_of_ble_eq_true rfl) dX7_work_g5.2.2.2.2.2.2.2.2.2.2.2.2.1 (fun s10 r11 h => ?_)
              refine r_if_eq hE 235 dX7_work_g5.2.2.2.2.2.2.2.2.2.2.2.2.2.1 (by decide) h (fun h => ?_) (fun h => ?_)
              · refine r_pick [1, 2] rfl ?_
                exact kc_ru_work_fg_235 hE hm hF ih _ _ h
              · refine r_aload_n hE 1 dX7_work_g5.2.2.2.2.2.2.2.2.2.2.2.2.2.2.1 rfl rfl ?_
                refine r_aload_n hE 1 dX7_work_g5.2.2.2.2.2.2.2.2.2.2.2.2.2.2.2 rfl rfl ?_
                refine cg_ru_shop hE hm fk_X7_48 dX7_work_g6.1 ?_
                refine kz_tools hE hm cw_X7_113 dX7_work_g6.2.1 ?_
                refine r_aload_n hE 1 dX7_work_g6.2.2.1 rfl rfl ?_
                obtain ⟨hj, h⟩ := h
                refine cg_ru_figure hE hm fk_X7_44 dX7_work_g6.2.2.2.1 hj ?_
                refine r_aload_n hE 1 dX7_work_g6.2.2.2.2.1 rfl rfl ?_
                refine cg_ru_node hE hm fk_X7_11 dX7_work_g6.2.2.2.2.2.1 ?_
                refine r_aload_n hE 1 dX7_work_g6.2.2.2.2.2.2.1 rfl rfl ?_
                refine cg_ru_top hE hm fk_X7_28 dX7_work_g6.2.2.2.2.2.2.2.1 ?_
                obtain ⟨hi, h⟩ := h
                refine cl_ru_node hE hm dX7_work_g6.2.2.2.2.2.2.2.2.1 hi ?_
                refine c_callVi hE hm [.int (c_ru_node s10 (c_ru_top s10).toNatClampNeg)] [.ref (G.1 8000), .ref (G.1 1300), .ref (G.1 1200)] ck_X7_110 (cr_fg hm rfl) (kc_fg_dataOf h) (by decide) rfl rfl (Nat.le_of_ble_eq_true rfl) dX7_work_g6.2.2.2.2.2.2.2.2.2.1 (fun s12 r13 h => ?_)
                obtain ⟨hi, h⟩ := h
                refine ka_tools hE hm hi dX7_work_g6.2.2.2.2.2.2.2.2.2.2.1 ?_
                refine r_aload_n hE 1 dX7_work_g6.2.2.2.2.2.2.2.2.2.2.2.1 rfl rfl ?_
                refine cg_ru_value hE hm fk_X7_32 dX7_work_g6.2.2.2.2.2.2.2.2.2.2.2.2.1 ?_
                refine r_aload_n hE 1 dX7_work_g6.2.2.2.2.2.2.2.2.2.2.2.2.2.1 rfl rfl ?_
                refine cg_ru_floor hE hm fk_X7_18 dX7_work_g6.2.2.2.2.2.2.2.2.2.2.2.2.2.2.1 ?_
                refine r_aload_n hE 1 dX7_work_g6.2.2.2.2.2.2.2.2.2.2.2.2.2.2.2 rfl rfl ?_
                refine cg_ru_top hE hm fk_X7_28 dX7_work_g7.1 ?_
                obtain ⟨hi, h⟩ := h
                refine cl_ru_floor hE hm dX7_work_g7.2.1 hi ?_
                refine c_callVi hE hm [.ref (G.1 (7000 + (r13.toNatClampNeg))), .ref (G.1 1210), .int (c_ru_floor s12 (c_ru_top s12).toNatClampNeg)] [.ref (G.1 1200)] ck_X7_117 (cr_wo hm rfl) (kc_wo_use_t_ru_value h) (by decide) rfl rfl (Nat.le_of_ble_eq_true rfl) dX7_work_g7.2.2.1 (fun s14 r15 h => ?_)
                refine c_callVv hE hm [.int r15] [] ck_X7_121 (cr_ru hm rfl) (kc_ru_endPart h) (by decide) rfl rfl (Nat.le_of_ble_eq_true rfl) dX7_work_g7.2.2.2.1 (fun s16 h => ?_)
                refine r_goto hE 248 dX7_work_g7.2.2.2.2.1 (by decide) ?_
                refine r_pick [1, 2] rfl ?_
                exact kc_ru_work_fg_248 hE hm hF ih _ _ h
          · refine r_aload_n hE 1 dX7_work_g3.2.2.2.2.2.2.2.2.2.2.2.1 rfl rfl ?_
            refine cg_ru_cursor hE hm fk_X7_15 dX7_work_g3.2.2.2.2.2.2.2.2.2.2.2.2.1 ?_
            refine r_aload_n hE 1 dX7_work_g3.2.2.2.2.2.2.2.2.2.2.2.2.2.1 rfl rfl ?_
            refine cg_ru_top hE hm fk_X7_28 dX7_work_g3.2.2.2.2.2.2.2.2.2.2.2.2.2.2.1 ?_
            refine r_aload_n hE 1 dX7_work_g3.2.2.2.2.2.2.2.2.2.2.2.2.2.2.2 rfl rfl ?_
            obtain ⟨hj, h⟩ := h
            refine cg_ru_figure hE hm fk_X7_44 dX7_work_g4.1 hj ?_
            refine r_iload_n hE 0 dX7_work_g4.2.1 rfl rfl ?_
            refine c_callVi hE hm [.int x5] [.int (c_ru_top s3), .ref (G.1 1205)] ck_X7_100 (cr_fg hm rfl) (kc_fg_nextOf h) (by decide) rfl rfl (Nat.le_of_ble_eq_true rfl) dX7_work_g4.2.2.1 (fun s17 r18 h => ?_)
            obtain ⟨hi, h⟩ := h
            refine cs_ru_cursor hE hm dX7_work_g4.2.2.2.1 hi h (fun s19 h => ?_)
            refine r_aload_n hE 1 dX7_work_g4.2.2.2.2.1 rfl rfl ?_
            refine r_iload_n hE 0 dX7_work_g4.2.2.2.2.2.1 rfl rfl ?_
            refine c_callVv hE hm [.int x5] [] ck_X7_104 (cr_ru hm rfl) (kc_ru_enter h) (by decide) rfl rfl (Nat.le_of_ble_eq_true rfl) dX7_work_g4.2.2.2.2.2.2.1 (fun s20 h => ?_)
            refine r_goto hE 248 dX7_work_g4.2.2.2.2.2.2.2.1 (by decide) ?_
            refine r_pick [1, 2] rfl ?_
            exact kc_ru_work_fg_248 hE hm hF ih _ _ h
def wc_ru_work_fg (post : CS → Prop) (σ : CS) : Prop := ∀ s21 : CS, s21 = c_ru_figure_s σ 300 → wc_to_clear (fun (s22 : CS) => wc_th_clear (fun (s23 : CS) => ∀ s24 : CS, s24 = c_fr_came_s s23 (0 : Int32) → ∀ s25 : CS, s25 = c_ru_values_s s24 (0 : Int32) → ∀ s26 : CS, s26 = c_ru_frame_s s25 (0 : Int32) → wc_ru_emptyNames (fun (s27 : CS) => ∀ s28 : CS, s28 = c_ru_top_s s27 (-1 : Int32) → wc_ru_push (fun (s29 : CS) => c_ru_figure s29 = 300 ∧ (vp_in (0 : Int32) 401 ∧ (∀ s30 : CS, s30 = c_ru_cursor_s s29 (0 : Int32).toNatClampNeg (c_fg_firstDeed s29) → ∃ k : Nat, wc_ru_work_fg_72 post k s30 (0 : Int32)))) s28 (-1 : Int32)) s26) s22) s21
set_option maxRecDepth 20000 in
theorem kc_ru_work_fg {l : Launch} {D : va_G} {G : gAd} {post : CS → Prop} {σ : CS} (h : wc_ru_work_fg post σ) : cMet l D G yX7_work cX7_work 4 none 7 [.ref (G.1 1200), .ref (G.1 300)] σ (pV post) := by
  unfold wc_ru_work_fg at h
  refine c_enter (own := RX7) (by decide +kernel) rfl [(0, .ref (G.1 1200)), (1, .ref (G.1 300))] rfl (Nat.le_of_ble_eq_true rfl) ?_
  intro E hE hm hF
  have hN := hm.2.2.2.2.2.2.1
  refine r_aload_n hE 0 dX7_work_g0.1 rfl rfl ?_
  refine r_aload_n hE 1 dX7_work_g0.2.1 rfl rfl ?_
  refine cp_ru_figure hE hm fk_X7_44 dX7_work_g0.2.2.1 h (fun s21 h => ?_)
  refine r_aload_n hE 0 dX7_work_g0.2.2.2.1 rfl rfl ?_
  refine cg_ru_told hE hm fk_X7_52 dX7_work_g0.2.2.2.2.1 ?_
  refine c_callVv hE hm [] [] ck_X7_56 (cr_to hm rfl) (kc_to_clear h) (by decide) rfl rfl (Nat.le_of_ble_eq_true rfl) dX7_work_g0.2.2.2.2.2.1 (fun s22 h => ?_)
  refine r_aload_n hE 0 dX7_work_g0.2.2.2.2.2.2.1 rfl rfl ?_
  refine cg_ru_shop hE hm fk_X7_48 dX7_work_g0.2.2.2.2.2.2.2.1 ?_
  refine cg_wo_things hE hm fk_X7_61 dX7_work_g0.2.2.2.2.2.2.2.2.1 ?_
  refine c_callVv hE hm [] [] ck_X7_67 (cr_th hm rfl) (kc_th_clear h) (by decide) rfl rfl (Nat.le_of_ble_eq_true rfl) dX7_work_g0.2.2.2.2.2.2.2.2.2.1 (fun s23 h => ?_)
  refine r_aload_n hE 0 dX7_work_g0.2.2.2.2.2.2.2.2.2.2.1 rfl rfl ?_
  refine cg_ru_shop hE hm fk_X7_48 dX7_work_g0.2.2.2.2.2.2.2.2.2.2.2.1 ?_
  refine cg_wo_frees hE hm fk_X7_70 dX7_work_g0.2.2.2.2.2.2.2.2.2.2.2.2.1 ?_
  refine r_iconst (v := (0 : Int32)) hE dX7_work_g0.2.2.2.2.2.2.2.2.2.2.2.2.2.1 (by decide) ?_
  refine cp_fr_came hE hm fk_X7_74 dX7_work_g0.2.2.2.2.2.2.2.2.2.2.2.2.2.2.1 h (fun s24 h => ?_)
  refine r_aload_n hE 0 dX7_work_g0.2.2.2.2.2.2.2.2.2.2.2.2.2.2.2 rfl rfl ?_
  refine r_iconst (v := (0 : Int32)) hE dX7_work_g1.1 (by decide) ?_
  refine cp_ru_values hE hm fk_X7_35 dX7_work_g1.2.1 h (fun s25 h => ?_)
  refine r_aload_n hE 0 dX7_work_g1.2.2.1 rfl rfl ?_
  refine r_iconst (v := (0 : Int32)) hE dX7_work_g1.2.2.2.1 (by decide) ?_
  refine cp_ru_frame hE hm fk_X7_41 dX7_work_g1.2.2.2.2.1 h (fun s26 h => ?_)
  refine r_aload_n hE 0 dX7_work_g1.2.2.2.2.2.1 rfl rfl ?_
  refine c_callVv hE hm [] [] ck_X7_79 (cr_ru hm rfl) (kc_ru_emptyNames h) (by decide) rfl rfl (Nat.le_of_ble_eq_true rfl) dX7_work_g1.2.2.2.2.2.2.1 (fun s27 h => ?_)
  refine r_aload_n hE 0 dX7_work_g1.2.2.2.2.2.2.2.1 rfl rfl ?_
  refine r_iconst (v := (-1 : Int32)) hE dX7_work_g1.2.2.2.2.2.2.2.2.1 (by decide) ?_
  refine cp_ru_top hE hm fk_X7_28 dX7_work_g1.2.2.2.2.2.2.2.2.2.1 h (fun s28 h => ?_)
  refine r_aload_n hE 0 dX7_work_g1.2.2.2.2.2.2.2.2.2.2.1 rfl rfl ?_
  refine r_iconst (v := (-1 : Int32)) hE dX7_work_g1.2.2.2.2.2.2.2.2.2.2.2.1 (by decide) ?_
  refine c_callVv hE hm [.int (-1 : Int32)] [] ck_X7_82 (cr_ru hm rfl) (kc_ru_push h) (by decide) rfl rfl (Nat.le_of_ble_eq_true rfl) dX7_work_g1.2.2.2.2.2.2.2.2.2.2.2.2.1 (fun s29 h => ?_)
  refine r_aload_n hE 0 dX7_work_g1.2.2.2.2.2.2.2.2.2.2.2.2.2.1 rfl rfl ?_
  refine cg_ru_cursor hE hm fk_X7_15 dX7_work_g1.2.2.2.2.2.2.2.2.2.2.2.2.2.2.1 ?_
  refine r_iconst (v := (0 : Int32)) hE dX7_work_g1.2.2.2.2.2.2.2.2.2.2.2.2.2.2.2 (by decide) ?_
  refine r_aload_n hE 0 dX7_work_g2.1 rfl rfl ?_
  obtain ⟨hj, h⟩ := h
  refine cg_ru_figure hE hm fk_X7_44 dX7_work_g2.2.1 hj ?_
  refine cg_fg_firstDeed hE hm fk_X7_86 dX7_work_g2.2.2.1 ?_
  obtain ⟨hi, h⟩ := h
  refine cs_ru_cursor hE hm dX7_work_g2.2.2.2.1 hi h (fun s30 h => ?_)
  refine r_iconst (v := (0 : Int32)) hE dX7_work_g2.2.2.2.2.1 (by decide) ?_
  refine r_istore_n hE [(2, .int (0 : Int32)), (0, .ref (G.1 1200)), (1, .ref (G.1 300))] dX7_work_g2.2.2.2.2.2.1 rfl hN (by decide) rfl ?_
  refine r_pick [1, 0] rfl ?_
  obtain ⟨k, h⟩ := h
  exact kc_ru_work_fg_72 hE hm hF k _ _ h
/-! ft_run -/
def wc_ft_run (post : CS → Int32 → Prop) (σ : CS) : Prop := ((¬ ((c_ft_hasFigure σ) = (0 : Int32))) → ((((c_ft_runs σ) < (600 : Int32)) → (∀ s1 : CS, s1 = c_ft_runs_s σ ((c_ft_runs σ) + (1 : Int32)) → c_ft_figure s1 = 300 ∧ (wc_ru_work_fg (fun (s2 : CS) => (((c_to_spent s2) = (0 : Int32)) → (post s2 (c_to_draws s2))) ∧ ((¬ ((c_to_spent s2) = (0 : Int32))) → (post s2 (-1 : Int32)))) s1))) ∧ ((¬ ((c_ft_runs σ) < (600 : Int32))) → (post σ (-2000000004 : Int32))))) ∧ (((c_ft_hasFigure σ) = (0 : Int32)) → (post σ (-2000000003 : Int32)))
set_option maxRecDepth 20000 in
theorem kc_ft_run {l : Launch} {D : va_G} {G : gAd} {post : CS → Int32 → Prop} {σ : CS} (h : wc_ft_run post σ) : cMet l D G yX12_run cX12_run 1 (some .int) 8 [.ref (G.1 200)] σ (pI post) := by
  unfold wc_ft_run at h
  refine c_enter (own := RX12) (by decide +kernel) rfl [(0, .ref (G.1 200))] rfl (Nat.le_of_ble_eq_true rfl) ?_
  intro E hE hm hF
  have hN := hm.2.2.2.2.2.2.1
  refine r_aload_n hE 0 dX12_run_g0.1 rfl rfl ?_
  refine cg_ft_hasFigure hE hm fk_X12_34 dX12_run_g0.2.1 ?_
  refine r_if_ne hE 10 dX12_run_g0.2.2.1 (by decide) h (fun h => ?_) (fun h => ?_)
  · refine r_aload_n hE 0 dX12_run_g0.2.2.2.2.2.1 rfl rfl ?_
    refine cg_ft_runs hE hm fk_X12_101 dX12_run_g0.2.2.2.2.2.2.1 ?_
    refine r_sipush (v := (600 : Int32)) hE dX12_run_g0.2.2.2.2.2.2.2.1 (by decide) ?_
    refine r_icmp_lt hE 23 dX12_run_g0.2.2.2.2.2.2.2.2.1 (by decide) h (fun h => ?_) (fun h => ?_)
    · refine r_aload_n hE 0 dX12_run_g0.2.2.2.2.2.2.2.2.2.2.2.1 rfl rfl ?_
      refine r_dup hE dX12_run_g0.2.2.2.2.2.2.2.2.2.2.2.2.1 rfl ?_
      refine cg_ft_runs hE hm fk_X12_101 dX12_run_g0.2.2.2.2.2.2.2.2.2.2.2.2.2.1 ?_
      refine r_iconst (v := (1 : Int32)) hE dX12_run_g0.2.2.2.2.2.2.2.2.2.2.2.2.2.2.1 (by decide) ?_
      refine r_iadd hE dX12_run_g0.2.2.2.2.2.2.2.2.2.2.2.2.2.2.2 ?_
      refine cp_ft_runs hE hm fk_X12_101 dX12_run_g1.1 h (fun s1 h => ?_)
      refine r_aload_n hE 0 dX12_run_g1.2.1 rfl rfl ?_
      refine cg_ft_runner hE hm fk_X12_97 dX12_run_g1.2.2.1 ?_
      refine r_aload_n hE 0 dX12_run_g1.2.2.2.1 rfl rfl ?_
      obtain ⟨hj, h⟩ := h
      refine cg_ft_figure hE hm fk_X12_27 dX12_run_g1.2.2.2.2.1 hj ?_
      refine c_callVv hE hm [.ref (G.1 300)] [] ck_X12_171 (cr_ru hm rfl) (kc_ru_work_fg h) (by decide) rfl rfl (Nat.le_of_ble_eq_true rfl) dX12_run_g1.2.2.2.2.2.1 (fun s2 h => ?_)
      refine r_aload_n hE 0 dX12_run_g1.2.2.2.2.2.2.1 rfl rfl ?_
      refine cg_ft_told hE hm fk_X12_83 dX12_run_g1.2.2.2.2.2.2.2.1 ?_
      refine cg_to_spent hE hm fk_X12_174 dX12_run_g1.2.2.2.2.2.2.2.2.1 ?_
      refine r_if_eq hE 58 dX12_run_g1.2.2.2.2.2.2.2.2.2.1 (by decide) h (fun h => ?_) (fun h => ?_)
      · refine r_aload_n hE 0 dX12_run_g1.2.2.2.2.2.2.2.2.2.2.2.2.1 rfl rfl ?_
        refine cg_ft_told hE hm fk_X12_83 dX12_run_g1.2.2.2.2.2.2.2.2.2.2.2.2.2.1 ?_
        refine cg_to_draws hE hm fk_X12_177 dX12_run_g1.2.2.2.2.2.2.2.2.2.2.2.2.2.2.1 ?_
        exact c_iret hE hm hF dX12_run_g1.2.2.2.2.2.2.2.2.2.2.2.2.2.2.2 h
      · refine r_iconst (v := (-1 : Int32)) hE dX12_run_g1.2.2.2.2.2.2.2.2.2.2.1 (by decide) ?_
        refine r_goto hE 65 dX12_run_g1.2.2.2.2.2.2.2.2.2.2.2.1 (by decide) ?_
        exact c_iret hE hm hF dX12_run_g1.2.2.2.2.2.2.2.2.2.2.2.2.2.2.2 h
    · refine r_ldc (v := (-2000000004 : Int32)) hE dX12_run_g0.2.2.2.2.2.2.2.2.2.1 (gTb_4 (List.mem_of_getElem? (i := 108) rfl) rfl) ?_
      exact c_iret hE hm hF dX12_run_g0.2.2.2.2.2.2.2.2.2.2.1 h
  · refine r_ldc (v := (-2000000003 : Int32)) hE dX12_run_g0.2.2.2.1 (gTb_2 (List.mem_of_getElem? (i := 200) rfl) rfl) ?_
    exact c_iret hE hm hF dX12_run_g0.2.2.2.2.1 h
/-! ft_count -/
def wc_ft_count (post : CS → Int32 → Prop) (σ : CS) (a1 : Int32) : Prop := (a1 = (0 : Int32) → (post σ (c_to_draws σ))) ∧ (¬ a1 = (0 : Int32) → ((a1 = (1 : Int32) → (post σ (c_to_states σ))) ∧ (¬ a1 = (1 : Int32) → ((a1 = (2 : Int32) → (post σ (c_to_falls σ))) ∧ (¬ a1 = (2 : Int32) → ((a1 = (3 : Int32) → (post σ (c_fr_came σ))) ∧ (¬ a1 = (3 : Int32) → ((a1 = (4 : Int32) → (post σ (c_to_steps σ))) ∧ (¬ a1 = (4 : Int32) → ((a1 = (5 : Int32) → ((((c_to_spent σ) = (0 : Int32)) → (post σ (0 : Int32))) ∧ ((¬ ((c_to_spent σ) = (0 : Int32))) → (post σ (1 : Int32))))) ∧ (¬ a1 = (5 : Int32) → ((a1 = (6 : Int32) → (post σ (c_ft_runs σ))) ∧ (¬ a1 = (6 : Int32) → ((a1 = (7 : Int32) → (post σ (c_ft_tapeLength σ))) ∧ (¬ a1 = (7 : Int32) → ((a1 = (8 : Int32) → (post σ (c_ou_length σ))) ∧ (¬ a1 = (8 : Int32) → (post σ (-2000000002 : Int32)))))))))))))))))))
set_option maxRecDepth 20000 in
theorem kc_ft_count {l : Launch} {D : va_G} {G : gAd} {post : CS → Int32 → Prop} {σ : CS} {a1 : Int32} (h : wc_ft_count post σ a1) : cMet l D G yX12_count cX12_count 2 (some .int) 1 [.ref (G.1 200), .int a1] σ (pI post) := by
  unfold wc_ft_count at h
  refine c_enter (own := RX12) (by decide +kernel) rfl [(0, .ref (G.1 200)), (1, .int a1)] rfl (Nat.le_of_ble_eq_true rfl) ?_
  intro E hE hm hF
  have hN := hm.2.2.2.2.2.2.1
  refine r_iload_n hE 1 dX12_count_g0.1 rfl rfl ?_
  refine r_case (0 : Int32) h (fun q0 h => ?_) (fun q0 h => ?_)
  · refine r_tableAt (off := 51) hE (0 : Int32) 52 dX12_count_g0.2.1 q0 (by decide) (by decide) (by decide) (by decide) ?_
    refine r_aload_n hE 0 dX12_count_g0.2.2.1 rfl rfl ?_
    refine cg_ft_told hE hm fk_X12_83 dX12_count_g0.2.2.2.1 ?_
    refine cg_to_draws hE hm fk_X12_177 dX12_count_g0.2.2.2.2.1 ?_
    exact c_iret hE hm hF dX12_count_g0.2.2.2.2.2.1 h
  · refine r_case (1 : Int32) h (fun q1 h => ?_) (fun q1 h => ?_)
    · refine r_tableAt (off := 59) hE (1 : Int32) 60 dX12_count_g0.2.1 q1 (by decide) (by decide) (by decide) (by decide) ?_
      refine r_aload_n hE 0 dX12_count_g0.2.2.2.2.2.2.1 rfl rfl ?_
      refine cg_ft_told hE hm fk_X12_83 dX12_count_g0.2.2.2.2.2.2.2.1 ?_
      refine cg_to_states hE hm fk_X12_180 dX12_count_g0.2.2.2.2.2.2.2.2.1 ?_
      exact c_iret hE hm hF dX12_count_g0.2.2.2.2.2.2.2.2.2.1 h
    · refine r_case (2 : Int32) h (fun q2 h => ?_) (fun q2 h => ?_)
      · refine r_tableAt (off := 67) hE (2 : Int32) 68 dX12_count_g0.2.1 q2 (by decide) (by decide) (by decide) (by decide) ?_
        refine r_aload_n hE 0 dX12_count_g0.2.2.2.2.2.2.2.2.2.2.1 rfl rfl ?_
        refine cg_ft_told hE hm fk_X12_83 dX12_count_g0.2.2.2.2.2.2.2.2.2.2.2.1 ?_
        refine cg_to_falls hE hm fk_X12_183 dX12_count_g0.2.2.2.2.2.2.2.2.2.2.2.2.1 ?_
        exact c_iret hE hm hF dX12_count_g0.2.2.2.2.2.2.2.2.2.2.2.2.2.1 h
      · refine r_case (3 : Int32) h (fun q3 h => ?_) (fun q3 h => ?_)
        · refine r_tableAt (off := 75) hE (3 : Int32) 76 dX12_count_g0.2.1 q3 (by decide) (by decide) (by decide) (by decide) ?_
          refine r_aload_n hE 0 dX12_count_g0.2.2.2.2.2.2.2.2.2.2.2.2.2.2.1 rfl rfl ?_
          refine cg_ft_frees hE hm fk_X12_76 dX12_count_g0.2.2.2.2.2.2.2.2.2.2.2.2.2.2.2 ?_
          refine cg_fr_came hE hm fk_X12_186 dX12_count_g1.1 ?_
          exact c_iret hE hm hF dX12_count_g1.2.1 h
        · refine r_case (4 : Int32) h (fun q4 h => ?_) (fun q4 h => ?_)
          · refine r_tableAt (off := 83) hE (4 : Int32) 84 dX12_count_g0.2.1 q4 (by decide) (by decide) (by decide) (by decide) ?_
            refine r_aload_n hE 0 dX12_count_g1.2.2.1 rfl rfl ?_
            refine cg_ft_told hE hm fk_X12_83 dX12_count_g1.2.2.2.1 ?_
            refine cg_to_steps hE hm fk_X12_189 dX12_count_g1.2.2.2.2.1 ?_
            exact c_iret hE hm hF dX12_count_g1.2.2.2.2.2.1 h
          · refine r_case (5 : Int32) h (fun q5 h => ?_) (fun q5 h => ?_)
            · refine r_tableAt (off := 91) hE (5 : Int32) 92 dX12_count_g0.2.1 q5 (by decide) (by decide) (by decide) (by decide) ?_
              refine r_aload_n hE 0 dX12_count_g1.2.2.2.2.2.2.1 rfl rfl ?_
              refine cg_ft_told hE hm fk_X12_83 dX12_count_g1.2.2.2.2.2.2.2.1 ?_
              refine cg_to_spent hE hm fk_X12_174 dX12_count_g1.2.2.2.2.2.2.2.2.1 ?_
              refine r_if_eq hE 106 dX12_count_g1.2.2.2.2.2.2.2.2.2.1 (by decide) h (fun h => ?_) (fun h => ?_)
              · refine r_iconst (v := (0 : Int32)) hE dX12_count_g1.2.2.2.2.2.2.2.2.2.2.2.2.1 (by decide) ?_
                exact c_iret hE hm hF dX12_count_g1.2.2.2.2.2.2.2.2.2.2.2.2.2.1 h
              · refine r_iconst (v := (1 : Int32)) hE dX12_count_g1.2.2.2.2.2.2.2.2.2.2.1 (by decide) ?_
                refine r_goto hE 107 dX12_count_g1.2.2.2.2.2.2.2.2.2.2.2.1 (by decide) ?_
                exact c_iret hE hm hF dX12_count_g1.2.2.2.2.2.2.2.2.2.2.2.2.2.1 h
            · refine r_case (6 : Int32) h (fun q6 h => ?_) (fun q6 h => ?_)
              · refine r_tableAt (off := 107) hE (6 : Int32) 108 dX12_count_g0.2.1 q6 (by decide) (by decide) (by decide) (by decide) ?_
                refine r_aload_n hE 0 dX12_count_g1.2.2.2.2.2.2.2.2.2.2.2.2.2.2.1 rfl rfl ?_
                refine cg_ft_runs hE hm fk_X12_101 dX12_count_g1.2.2.2.2.2.2.2.2.2.2.2.2.2.2.2 ?_
                exact c_iret hE hm hF dX12_count_g2.1 h
              · refine r_case (7 : Int32) h (fun q7 h => ?_) (fun q7 h => ?_)
                · refine r_tableAt (off := 112) hE (7 : Int32) 113 dX12_count_g0.2.1 q7 (by decide) (by decide) (by decide) (by decide) ?_
                  refine r_aload_n hE 0 dX12_count_g2.2.1 rfl rfl ?_
                  refine cg_ft_tapeLength hE hm fk_X12_13 dX12_count_g2.2.2.1 ?_
                  exact c_iret hE hm hF dX12_count_g2.2.2.2.1 h
                · refine r_case (8 : Int32) h (fun q8 h => ?_) (fun q8 h => ?_)
                  · refine r_tableAt (off := 117) hE (8 : Int32) 118 dX12_count_g0.2.1 q8 (by decide) (by decide) (by decide) (by decide) ?_
                    refine r_aload_n hE 0 dX12_count_g2.2.2.2.2.1 rfl rfl ?_
                    refine cg_ft_out hE hm fk_X12_20 dX12_count_g2.2.2.2.2.2.1 ?_
                    refine cg_ou_length hE hm fk_X12_192 dX12_count_g2.2.2.2.2.2.2.1 ?_
                    exact c_iret hE hm hF dX12_count_g2.2.2.2.2.2.2.2.1 h
                  · have n0 := lv_neT q0 (show (0 : Int32).toInt = 0 by decide)
                    have n1 := lv_neT q1 (show (1 : Int32).toInt = 1 by decide)
                    have n2 := lv_neT q2 (show (2 : Int32).toInt = 2 by decide)
                    have n3 := lv_neT q3 (show (3 : Int32).toInt = 3 by decide)
                    have n4 := lv_neT q4 (show (4 : Int32).toInt = 4 by decide)
                    have n5 := lv_neT q5 (show (5 : Int32).toInt = 5 by decide)
                    have n6 := lv_neT q6 (show (6 : Int32).toInt = 6 by decide)
                    have n7 := lv_neT q7 (show (7 : Int32).toInt = 7 by decide)
                    have n8 := lv_neT q8 (show (8 : Int32).toInt = 8 by decide)
                    refine r_tableOut hE 126 dX12_count_g0.2.1 (by omega) (by decide) ?_
                    refine r_ldc (v := (-2000000002 : Int32)) hE dX12_count_g2.2.2.2.2.2.2.2.2.1 (gTb_2 (List.mem_of_getElem? (i := 212) rfl) rfl) ?_
                    exact c_iret hE hm hF dX12_count_g2.2.2.2.2.2.2.2.2.2 h
/-! to_drawnAt -/
def wc_to_drawnAt (post : CS → Int32 → Prop) (σ : CS) (a1 : Int32) : Prop := wc_SX12_inside (fun (s1 : CS) (r2 : Int32) => ((r2 = (0 : Int32)) → (post s1 (-1 : Int32))) ∧ ((¬ (r2 = (0 : Int32))) → ((((40 : Int32) ≤ a1) → (post s1 (-1 : Int32))) ∧ ((¬ ((40 : Int32) ≤ a1)) → (vp_in a1 40 ∧ (post s1 (c_to_drawn s1 a1.toNatClampNeg))))))) σ a1 (c_to_draws σ)
set_option maxRecDepth 20000 in
theorem kc_to_drawnAt {l : Launch} {D : va_G} {G : gAd} {post : CS → Int32 → Prop} {σ : CS} {a1 : Int32} (h : wc_to_drawnAt post σ a1) : cMet l D G yX9_drawnAt cX9_drawnAt 2 (some .int) 2 [.ref (G.1 1100), .int a1] σ (pI post) := by
  unfold wc_to_drawnAt at h
  refine c_enter (own := RX9) (by decide +kernel) rfl [(0, .ref (G.1 1100)), (1, .int a1)] rfl (Nat.le_of_ble_eq_true rfl) ?_
  intro E hE hm hF
  have hN := hm.2.2.2.2.2.2.1
  refine r_iload_n hE 1 dX9_drawnAt_g0.1 rfl rfl ?_
  refine r_aload_n hE 0 dX9_drawnAt_g0.2.1 rfl rfl ?_
  refine cg_to_draws hE hm fk_X9_24 dX9_drawnAt_g0.2.2.1 ?_
  refine c_callSNi hE hm [.int a1, .int (c_to_draws σ)] [] ck_X9_41 cw_X9_41 (kc_SX12_inside h) (by decide) rfl rfl (Nat.le_of_ble_eq_true rfl) dX9_drawnAt_g0.2.2.2.1 (fun s1 r2 h => ?_)
  refine r_if_eq hE 26 dX9_drawnAt_g0.2.2.2.2.1 (by decide) h (fun h => ?_) (fun h => ?_)
  · refine r_iconst (v := (-1 : Int32)) hE dX9_drawnAt_g0.2.2.2.2.2.2.2.2.2.2.2.2.2.1 (by decide) ?_
    exact c_iret hE hm hF dX9_drawnAt_g0.2.2.2.2.2.2.2.2.2.2.2.2.2.2 h
  · refine r_iload_n hE 1 dX9_drawnAt_g0.2.2.2.2.2.1 rfl rfl ?_
    refine r_bipush (v := (40 : Int32)) hE dX9_drawnAt_g0.2.2.2.2.2.2.1 (by decide) ?_
    refine r_icmp_ge hE 26 dX9_drawnAt_g0.2.2.2.2.2.2.2.1 (by decide) h (fun h => ?_) (fun h => ?_)
    · refine r_iconst (v := (-1 : Int32)) hE dX9_drawnAt_g0.2.2.2.2.2.2.2.2.2.2.2.2.2.1 (by decide) ?_
      exact c_iret hE hm hF dX9_drawnAt_g0.2.2.2.2.2.2.2.2.2.2.2.2.2.2 h
    · refine r_aload_n hE 0 dX9_drawnAt_g0.2.2.2.2.2.2.2.2.1 rfl rfl ?_
      refine cg_to_drawn hE hm fk_X9_9 dX9_drawnAt_g0.2.2.2.2.2.2.2.2.2.1 ?_
      refine r_iload_n hE 1 dX9_drawnAt_g0.2.2.2.2.2.2.2.2.2.2.1 rfl rfl ?_
      obtain ⟨hi, h⟩ := h
      refine cl_to_drawn hE hm dX9_drawnAt_g0.2.2.2.2.2.2.2.2.2.2.2.1 hi ?_
      refine r_goto hE 27 dX9_drawnAt_g0.2.2.2.2.2.2.2.2.2.2.2.2.1 (by decide) ?_
      exact c_iret hE hm hF dX9_drawnAt_g0.2.2.2.2.2.2.2.2.2.2.2.2.2.2 h
/-! ft_kind -/
def wc_ft_kind (post : CS → Int32 → Prop) (postX : CS → Prop) (σ : CS) (a1 : Int32) : Prop := wc_SX12_inside (fun (s1 : CS) (r2 : Int32) => ((¬ (r2 = (0 : Int32))) → (wc_to_drawnAt (fun (s3 : CS) (r4 : Int32) => wc_th_kindOf (fun (s5 : CS) (r6 : Int32) => post s5 r6) s3 r4) s1 a1)) ∧ ((r2 = (0 : Int32)) → (postX s1))) σ a1 (c_to_draws σ)
set_option maxRecDepth 20000 in
theorem kc_ft_kind {l : Launch} {D : va_G} {G : gAd} {post : CS → Int32 → Prop} {postX : CS → Prop} (hl0 : l.stackTraces = false) {σ : CS} {a1 : Int32} (h : wc_ft_kind post postX σ a1) : cMetX l D G yX12_kind cX12_kind 2 (some .int) 6 [.ref (G.1 200), .int a1] σ (pI post) postX := by
  unfold wc_ft_kind at h
  refine c_enterX (own := RX12) (by decide +kernel) rfl [(0, .ref (G.1 200)), (1, .int a1)] rfl (Nat.le_of_ble_eq_true rfl) ?_
  intro E hE hm hF
  have hN := hm.2.2.2.2.2.2.1
  refine r_iload_n hE 1 dX12_kind_g0.1 rfl rfl ?_
  refine r_aload_n hE 0 dX12_kind_g0.2.1 rfl rfl ?_
  refine cg_ft_told hE hm fk_X12_83 dX12_kind_g0.2.2.1 ?_
  refine cg_to_draws hE hm fk_X12_177 dX12_kind_g0.2.2.2.1 ?_
  refine c_callSi hE hm [.int a1, .int (c_to_draws σ)] [] ck_X12_145 (kc_SX12_inside h) (by decide) rfl rfl (Nat.le_of_ble_eq_true rfl) dX12_kind_g0.2.2.2.2.1 (fun s1 r2 h => ?_)
  refine r_if_ne hE 24 dX12_kind_g0.2.2.2.2.2.1 (by decide) h (fun h => ?_) (fun h => ?_)
  · refine r_aload_n hE 0 dX12_kind_g0.2.2.2.2.2.2.2.2.2.2.2.1 rfl rfl ?_
    refine cg_ft_things hE hm fk_X12_69 dX12_kind_g0.2.2.2.2.2.2.2.2.2.2.2.2.1 ?_
    refine r_aload_n hE 0 dX12_kind_g0.2.2.2.2.2.2.2.2.2.2.2.2.2.1 rfl rfl ?_
    refine cg_ft_told hE hm fk_X12_83 dX12_kind_g0.2.2.2.2.2.2.2.2.2.2.2.2.2.2.1 ?_
    refine r_iload_n hE 1 dX12_kind_g0.2.2.2.2.2.2.2.2.2.2.2.2.2.2.2 rfl rfl ?_
    refine c_callVi hE hm [.int a1] [.ref (G.1 900)] ck_X12_202 (cr_to hm rfl) (kc_to_drawnAt h) (by decide) rfl rfl (Nat.le_of_ble_eq_true rfl) dX12_kind_g1.1 (fun s3 r4 h => ?_)
    refine c_callVi hE hm [.int r4] [] ck_X12_205 (cr_th hm rfl) (kc_th_kindOf h) (by decide) rfl rfl (Nat.le_of_ble_eq_true rfl) dX12_kind_g1.2.1 (fun s5 r6 h => ?_)
    exact cx_iret hE hm hF dX12_kind_g1.2.2 h
  · exact cx_throw (tx := "no such DRAWN THING") (i := 23) hE hm hF hl0 (List.mem_of_getElem? (i := 23) rfl) (by decide) dX12_kind_g0.2.2.2.2.2.2.1 dX12_kind_g0.2.2.2.2.2.2.2.1 dX12_kind_g0.2.2.2.2.2.2.2.2.1 dX12_kind_g0.2.2.2.2.2.2.2.2.2.1 dX12_kind_g0.2.2.2.2.2.2.2.2.2.2.1 h
/-! ft_number -/
def wc_ft_number_58 (post : CS → Int64 → Prop) (postX : CS → Prop) (σ : CS) : Prop := postX σ
set_option maxRecDepth 20000 in
theorem kc_ft_number_58  {E : gEnv} {l : Launch} {D : va_G} {G : gAd} {post : CS → Int64 → Prop} {postX : CS → Prop} (hE : gOK E cX12_number RX12 (some .long) 6) (hm : cOK E l D G (pL post) 7) (hF : gFinX E (cQX G postX)) (hl0 : l.stackTraces = false) (σ : CS) (h : wc_ft_number_58 post postX σ) : GW E (cW G σ) 58 [] [] := by
  unfold wc_ft_number_58 at h
  have hN := hm.2.2.2.2.2.2.1
  exact cx_throw (tx := "no such part or side") (i := 24) hE hm hF hl0 (List.mem_of_getElem? (i := 24) rfl) (by decide) dX12_number_g1.2.2.2.2.2.2.2.2.2.2.2.1 dX12_number_g1.2.2.2.2.2.2.2.2.2.2.2.2.1 dX12_number_g1.2.2.2.2.2.2.2.2.2.2.2.2.2.1 dX12_number_g1.2.2.2.2.2.2.2.2.2.2.2.2.2.2.1 dX12_number_g1.2.2.2.2.2.2.2.2.2.2.2.2.2.2.2 h
def wc_ft_number (post : CS → Int64 → Prop) (postX : CS → Prop) (σ : CS) (a1 : Int32) (a2 : Int32) (a3 : Int32) : Prop := wc_SX12_inside (fun (s1 : CS) (r2 : Int32) => ((¬ (r2 = (0 : Int32))) → (wc_to_drawnAt (fun (s3 : CS) (r4 : Int32) => wc_th_partsOf (fun (s5 : CS) (r6 : Int32) => wc_SX12_inside (fun (s7 : CS) (r8 : Int32) => ((r8 = (0 : Int32)) → (wc_ft_number_58 post postX s7)) ∧ ((¬ (r8 = (0 : Int32))) → (wc_SX12_inside (fun (s9 : CS) (r10 : Int32) => ((¬ (r10 = (0 : Int32))) → (wc_th_partOf (fun (s11 : CS) (r12 : Int64) => ((¬ (a3 = (0 : Int32))) → (wc_SX6_bottom (fun (s13 : CS) (r14 : Int64) => post s13 r14) s11 r12)) ∧ ((a3 = (0 : Int32)) → (wc_SX6_top (fun (s15 : CS) (r16 : Int64) => post s15 r16) s11 r12))) s9 r4 a2)) ∧ ((r10 = (0 : Int32)) → (wc_ft_number_58 post postX s9))) s7 a3 (2 : Int32)))) s5 a2 r6) s3 r4) s1 a1)) ∧ ((r2 = (0 : Int32)) → (postX s1))) σ a1 (c_to_draws σ)
set_option maxRecDepth 20000 in
theorem kc_ft_number {l : Launch} {D : va_G} {G : gAd} {post : CS → Int64 → Prop} {postX : CS → Prop} (hl0 : l.stackTraces = false) {σ : CS} {a1 : Int32} {a2 : Int32} {a3 : Int32} (h : wc_ft_number post postX σ a1 a2 a3) : cMetX l D G yX12_number cX12_number 7 (some .long) 6 [.ref (G.1 200), .int a1, .int a2, .int a3] σ (pL post) postX := by
  unfold wc_ft_number at h
  refine c_enterX (own := RX12) (by decide +kernel) rfl [(0, .ref (G.1 200)), (1, .int a1), (2, .int a2), (3, .int a3)] rfl (Nat.le_of_ble_eq_true rfl) ?_
  intro E hE hm hF
  have hN := hm.2.2.2.2.2.2.1
  refine r_iload_n hE 1 dX12_number_g0.1 rfl rfl ?_
  refine r_aload_n hE 0 dX12_number_g0.2.1 rfl rfl ?_
  refine cg_ft_told hE hm fk_X12_83 dX12_number_g0.2.2.1 ?_
  refine cg_to_draws hE hm fk_X12_177 dX12_number_g0.2.2.2.1 ?_
  refine c_callSi hE hm [.int a1, .int (c_to_draws σ)] [] ck_X12_145 (kc_SX12_inside h) (by decide) rfl rfl (Nat.le_of_ble_eq_true rfl) dX12_number_g0.2.2.2.2.1 (fun s1 r2 h => ?_)
  refine r_if_ne hE 24 dX12_number_g0.2.2.2.2.2.1 (by decide) h (fun h => ?_) (fun h => ?_)
  · refine r_aload_n hE 0 dX12_number_g0.2.2.2.2.2.2.2.2.2.2.2.1 rfl rfl ?_
    refine cg_ft_told hE hm fk_X12_83 dX12_number_g0.2.2.2.2.2.2.2.2.2.2.2.2.1 ?_
    refine r_iload_n hE 1 dX12_number_g0.2.2.2.2.2.2.2.2.2.2.2.2.2.1 rfl rfl ?_
    refine c_callVi hE hm [.int a1] [] ck_X12_202 (cr_to hm rfl) (kc_to_drawnAt h) (by decide) rfl rfl (Nat.le_of_ble_eq_true rfl) dX12_number_g0.2.2.2.2.2.2.2.2.2.2.2.2.2.2.1 (fun s3 r4 h => ?_)
    refine r_istore hE [(4, .int r4), (0, .ref (G.1 200)), (1, .int a1), (2, .int a2), (3, .int a3)] dX12_number_g0.2.2.2.2.2.2.2.2.2.2.2.2.2.2.2 hN (by decide) rfl ?_
    refine r_iload_n hE 3 dX12_number_g1.1 rfl rfl ?_
    refine r_aload_n hE 1 dX12_number_g1.2.1 rfl rfl ?_
    refine cg_ft_things hE hm fk_X12_69 dX12_number_g1.2.2.1 ?_
    refine r_iload hE 0 dX12_number_g1.2.2.2.1 rfl ?_
    refine c_callVi hE hm [.int r4] [.int a2] ck_X12_208 (cr_th hm rfl) (kc_th_partsOf h) (by decide) rfl rfl (Nat.le_of_ble_eq_true rfl) dX12_number_g1.2.2.2.2.1 (fun s5 r6 h => ?_)
    refine c_callSi hE hm [.int a2, .int r6] [] ck_X12_145 (kc_SX12_inside h) (by decide) rfl rfl (Nat.le_of_ble_eq_true rfl) dX12_number_g1.2.2.2.2.2.1 (fun s7 r8 h => ?_)
    refine r_if_eq hE 58 dX12_number_g1.2.2.2.2.2.2.1 (by decide) h (fun h => ?_) (fun h => ?_)
    · refine r_pick [] rfl ?_
      exact kc_ft_number_58 hE hm hF hl0 _ h
    · refine r_iload_n hE 4 dX12_number_g1.2.2.2.2.2.2.2.1 rfl rfl ?_
      refine r_iconst (v := (2 : Int32)) hE dX12_number_g1.2.2.2.2.2.2.2.2.1 (by decide) ?_
      refine c_callSi hE hm [.int a3, .int (2 : Int32)] [] ck_X12_145 (kc_SX12_inside h) (by decide) rfl rfl (Nat.le_of_ble_eq_true rfl) dX12_number_g1.2.2.2.2.2.2.2.2.2.1 (fun s9 r10 h => ?_)
      refine r_if_ne hE 68 dX12_number_g1.2.2.2.2.2.2.2.2.2.2.1 (by decide) h (fun h => ?_) (fun h => ?_)
      · refine r_aload_n hE 1 dX12_number_g2.1 rfl rfl ?_
        refine cg_ft_things hE hm fk_X12_69 dX12_number_g2.2.1 ?_
        refine r_iload hE 0 dX12_number_g2.2.2.1 rfl ?_
        refine r_iload_n hE 3 dX12_number_g2.2.2.2.1 rfl rfl ?_
        refine c_callVl hE hm [.int r4, .int a2] [] ck_X12_213 (cr_th hm rfl) (kc_th_partOf h) (by decide) rfl rfl (Nat.le_of_ble_eq_true rfl) dX12_number_g2.2.2.2.2.1 (fun s11 r12 h => ?_)
        refine r_lstore hE [(5, .long r12), (4, .int r4), (0, .ref (G.1 200)), (1, .int a1), (2, .int a2), (3, .int a3)] dX12_number_g2.2.2.2.2.2.1 hN (by decide) rfl ?_
        refine r_iload_n hE 5 dX12_number_g2.2.2.2.2.2.2.1 rfl rfl ?_
        refine r_if_ne hE 92 dX12_number_g2.2.2.2.2.2.2.2.1 (by decide) h (fun h => ?_) (fun h => ?_)
        · refine r_lload hE 0 dX12_number_g2.2.2.2.2.2.2.2.2.2.2.2.1 rfl ?_
          refine c_callSl hE hm [.long r12] [] ck_X12_221 (kc_SX6_bottom h) (by decide) rfl rfl (Nat.le_of_ble_eq_true rfl) dX12_number_g2.2.2.2.2.2.2.2.2.2.2.2.2.1 (fun s13 r14 h => ?_)
          exact cx_lret hE hm hF dX12_number_g2.2.2.2.2.2.2.2.2.2.2.2.2.2 h
        · refine r_lload hE 0 dX12_number_g2.2.2.2.2.2.2.2.2.1 rfl ?_
          refine c_callSl hE hm [.long r12] [] ck_X12_217 (kc_SX6_top h) (by decide) rfl rfl (Nat.le_of_ble_eq_true rfl) dX12_number_g2.2.2.2.2.2.2.2.2.2.1 (fun s15 r16 h => ?_)
          refine r_goto hE 97 dX12_number_g2.2.2.2.2.2.2.2.2.2.2.1 (by decide) ?_
          exact cx_lret hE hm hF dX12_number_g2.2.2.2.2.2.2.2.2.2.2.2.2.2 h
      · refine r_pick [] rfl ?_
        exact kc_ft_number_58 hE hm hF hl0 _ h
  · exact cx_throw (tx := "no such DRAWN THING") (i := 23) hE hm hF hl0 (List.mem_of_getElem? (i := 23) rfl) (by decide) dX12_number_g0.2.2.2.2.2.2.1 dX12_number_g0.2.2.2.2.2.2.2.1 dX12_number_g0.2.2.2.2.2.2.2.2.1 dX12_number_g0.2.2.2.2.2.2.2.2.2.1 dX12_number_g0.2.2.2.2.2.2.2.2.2.2.1 h
/-! ft_leans -/
def wc_ft_leans (post : CS → Int32 → Prop) (postX : CS → Prop) (σ : CS) (a1 : Int32) : Prop := wc_SX12_inside (fun (s1 : CS) (r2 : Int32) => ((¬ (r2 = (0 : Int32))) → (wc_to_drawnAt (fun (s3 : CS) (r4 : Int32) => wc_th_leaningOf (fun (s5 : CS) (r6 : Int32) => post s5 r6) s3 r4) s1 a1)) ∧ ((r2 = (0 : Int32)) → (postX s1))) σ a1 (c_to_draws σ)
set_option maxRecDepth 20000 in
theorem kc_ft_leans {l : Launch} {D : va_G} {G : gAd} {post : CS → Int32 → Prop} {postX : CS → Prop} (hl0 : l.stackTraces = false) {σ : CS} {a1 : Int32} (h : wc_ft_leans post postX σ a1) : cMetX l D G yX12_leans cX12_leans 2 (some .int) 6 [.ref (G.1 200), .int a1] σ (pI post) postX := by
  unfold wc_ft_leans at h
  refine c_enterX (own := RX12) (by decide +kernel) rfl [(0, .ref (G.1 200)), (1, .int a1)] rfl (Nat.le_of_ble_eq_true rfl) ?_
  intro E hE hm hF
  have hN := hm.2.2.2.2.2.2.1
  refine r_iload_n hE 1 dX12_leans_g0.1 rfl rfl ?_
  refine r_aload_n hE 0 dX12_leans_g0.2.1 rfl rfl ?_
  refine cg_ft_told hE hm fk_X12_83 dX12_leans_g0.2.2.1 ?_
  refine cg_to_draws hE hm fk_X12_177 dX12_leans_g0.2.2.2.1 ?_
  refine c_callSi hE hm [.int a1, .int (c_to_draws σ)] [] ck_X12_145 (kc_SX12_inside h) (by decide) rfl rfl (Nat.le_of_ble_eq_true rfl) dX12_leans_g0.2.2.2.2.1 (fun s1 r2 h => ?_)
  refine r_if_ne hE 24 dX12_leans_g0.2.2.2.2.2.1 (by decide) h (fun h => ?_) (fun h => ?_)
  · refine r_aload_n hE 0 dX12_leans_g0.2.2.2.2.2.2.2.2.2.2.2.1 rfl rfl ?_
    refine cg_ft_things hE hm fk_X12_69 dX12_leans_g0.2.2.2.2.2.2.2.2.2.2.2.2.1 ?_
    refine r_aload_n hE 0 dX12_leans_g0.2.2.2.2.2.2.2.2.2.2.2.2.2.1 rfl rfl ?_
    refine cg_ft_told hE hm fk_X12_83 dX12_leans_g0.2.2.2.2.2.2.2.2.2.2.2.2.2.2.1 ?_
    refine r_iload_n hE 1 dX12_leans_g0.2.2.2.2.2.2.2.2.2.2.2.2.2.2.2 rfl rfl ?_
    refine c_callVi hE hm [.int a1] [.ref (G.1 900)] ck_X12_202 (cr_to hm rfl) (kc_to_drawnAt h) (by decide) rfl rfl (Nat.le_of_ble_eq_true rfl) dX12_leans_g1.1 (fun s3 r4 h => ?_)
    refine c_callVi hE hm [.int r4] [] ck_X12_224 (cr_th hm rfl) (kc_th_leaningOf h) (by decide) rfl rfl (Nat.le_of_ble_eq_true rfl) dX12_leans_g1.2.1 (fun s5 r6 h => ?_)
    exact cx_iret hE hm hF dX12_leans_g1.2.2 h
  · exact cx_throw (tx := "no such DRAWN THING") (i := 23) hE hm hF hl0 (List.mem_of_getElem? (i := 23) rfl) (by decide) dX12_leans_g0.2.2.2.2.2.2.1 dX12_leans_g0.2.2.2.2.2.2.2.1 dX12_leans_g0.2.2.2.2.2.2.2.2.1 dX12_leans_g0.2.2.2.2.2.2.2.2.2.1 dX12_leans_g0.2.2.2.2.2.2.2.2.2.2.1 h
/-! to_statedAt -/
def wc_to_statedAt (post : CS → Int32 → Prop) (σ : CS) (a1 : Int32) : Prop := wc_SX12_inside (fun (s1 : CS) (r2 : Int32) => ((r2 = (0 : Int32)) → (post s1 (-1 : Int32))) ∧ ((¬ (r2 = (0 : Int32))) → ((((40 : Int32) ≤ a1) → (post s1 (-1 : Int32))) ∧ ((¬ ((40 : Int32) ≤ a1)) → (vp_in a1 40 ∧ (post s1 (c_to_stated s1 a1.toNatClampNeg))))))) σ a1 (c_to_states σ)
set_option maxRecDepth 20000 in
theorem kc_to_statedAt {l : Launch} {D : va_G} {G : gAd} {post : CS → Int32 → Prop} {σ : CS} {a1 : Int32} (h : wc_to_statedAt post σ a1) : cMet l D G yX9_statedAt cX9_statedAt 2 (some .int) 2 [.ref (G.1 1100), .int a1] σ (pI post) := by
  unfold wc_to_statedAt at h
  refine c_enter (own := RX9) (by decide +kernel) rfl [(0, .ref (G.1 1100)), (1, .int a1)] rfl (Nat.le_of_ble_eq_true rfl) ?_
  intro E hE hm hF
  have hN := hm.2.2.2.2.2.2.1
  refine r_iload_n hE 1 dX9_statedAt_g0.1 rfl rfl ?_
  refine r_aload_n hE 0 dX9_statedAt_g0.2.1 rfl rfl ?_
  refine cg_to_states hE hm fk_X9_28 dX9_statedAt_g0.2.2.1 ?_
  refine c_callSNi hE hm [.int a1, .int (c_to_states σ)] [] ck_X9_41 cw_X9_41 (kc_SX12_inside h) (by decide) rfl rfl (Nat.le_of_ble_eq_true rfl) dX9_statedAt_g0.2.2.2.1 (fun s1 r2 h => ?_)
  refine r_if_eq hE 26 dX9_statedAt_g0.2.2.2.2.1 (by decide) h (fun h => ?_) (fun h => ?_)
  · refine r_iconst (v := (-1 : Int32)) hE dX9_statedAt_g0.2.2.2.2.2.2.2.2.2.2.2.2.2.1 (by decide) ?_
    exact c_iret hE hm hF dX9_statedAt_g0.2.2.2.2.2.2.2.2.2.2.2.2.2.2 h
  · refine r_iload_n hE 1 dX9_statedAt_g0.2.2.2.2.2.1 rfl rfl ?_
    refine r_bipush (v := (40 : Int32)) hE dX9_statedAt_g0.2.2.2.2.2.2.1 (by decide) ?_
    refine r_icmp_ge hE 26 dX9_statedAt_g0.2.2.2.2.2.2.2.1 (by decide) h (fun h => ?_) (fun h => ?_)
    · refine r_iconst (v := (-1 : Int32)) hE dX9_statedAt_g0.2.2.2.2.2.2.2.2.2.2.2.2.2.1 (by decide) ?_
      exact c_iret hE hm hF dX9_statedAt_g0.2.2.2.2.2.2.2.2.2.2.2.2.2.2 h
    · refine r_aload_n hE 0 dX9_statedAt_g0.2.2.2.2.2.2.2.2.1 rfl rfl ?_
      refine cg_to_stated hE hm fk_X9_15 dX9_statedAt_g0.2.2.2.2.2.2.2.2.2.1 ?_
      refine r_iload_n hE 1 dX9_statedAt_g0.2.2.2.2.2.2.2.2.2.2.1 rfl rfl ?_
      obtain ⟨hi, h⟩ := h
      refine cl_to_stated hE hm dX9_statedAt_g0.2.2.2.2.2.2.2.2.2.2.2.1 hi ?_
      refine r_goto hE 27 dX9_statedAt_g0.2.2.2.2.2.2.2.2.2.2.2.2.1 (by decide) ?_
      exact c_iret hE hm hF dX9_statedAt_g0.2.2.2.2.2.2.2.2.2.2.2.2.2.2 h
/-! ft_stated -/
def wc_ft_stated (post : CS → Int32 → Prop) (postX : CS → Prop) (σ : CS) (a1 : Int32) : Prop := wc_SX12_inside (fun (s1 : CS) (r2 : Int32) => ((¬ (r2 = (0 : Int32))) → (wc_to_statedAt (fun (s3 : CS) (r4 : Int32) => post s3 r4) s1 a1)) ∧ ((r2 = (0 : Int32)) → (postX s1))) σ a1 (c_to_states σ)
set_option maxRecDepth 20000 in
theorem kc_ft_stated {l : Launch} {D : va_G} {G : gAd} {post : CS → Int32 → Prop} {postX : CS → Prop} (hl0 : l.stackTraces = false) {σ : CS} {a1 : Int32} (h : wc_ft_stated post postX σ a1) : cMetX l D G yX12_stated cX12_stated 2 (some .int) 6 [.ref (G.1 200), .int a1] σ (pI post) postX := by
  unfold wc_ft_stated at h
  refine c_enterX (own := RX12) (by decide +kernel) rfl [(0, .ref (G.1 200)), (1, .int a1)] rfl (Nat.le_of_ble_eq_true rfl) ?_
  intro E hE hm hF
  have hN := hm.2.2.2.2.2.2.1
  refine r_iload_n hE 1 dX12_stated_g0.1 rfl rfl ?_
  refine r_aload_n hE 0 dX12_stated_g0.2.1 rfl rfl ?_
  refine cg_ft_told hE hm fk_X12_83 dX12_stated_g0.2.2.1 ?_
  refine cg_to_states hE hm fk_X12_180 dX12_stated_g0.2.2.2.1 ?_
  refine c_callSi hE hm [.int a1, .int (c_to_states σ)] [] ck_X12_145 (kc_SX12_inside h) (by decide) rfl rfl (Nat.le_of_ble_eq_true rfl) dX12_stated_g0.2.2.2.2.1 (fun s1 r2 h => ?_)
  refine r_if_ne hE 24 dX12_stated_g0.2.2.2.2.2.1 (by decide) h (fun h => ?_) (fun h => ?_)
  · refine r_aload_n hE 0 dX12_stated_g0.2.2.2.2.2.2.2.2.2.2.2.1 rfl rfl ?_
    refine cg_ft_told hE hm fk_X12_83 dX12_stated_g0.2.2.2.2.2.2.2.2.2.2.2.2.1 ?_
    refine r_iload_n hE 1 dX12_stated_g0.2.2.2.2.2.2.2.2.2.2.2.2.2.1 rfl rfl ?_
    refine c_callVi hE hm [.int a1] [] ck_X12_229 (cr_to hm rfl) (kc_to_statedAt h) (by decide) rfl rfl (Nat.le_of_ble_eq_true rfl) dX12_stated_g0.2.2.2.2.2.2.2.2.2.2.2.2.2.2.1 (fun s3 r4 h => ?_)
    exact cx_iret hE hm hF dX12_stated_g0.2.2.2.2.2.2.2.2.2.2.2.2.2.2.2 h
  · exact cx_throw (tx := "no such STATED") (i := 25) hE hm hF hl0 (List.mem_of_getElem? (i := 25) rfl) (by decide) dX12_stated_g0.2.2.2.2.2.2.1 dX12_stated_g0.2.2.2.2.2.2.2.1 dX12_stated_g0.2.2.2.2.2.2.2.2.1 dX12_stated_g0.2.2.2.2.2.2.2.2.2.1 dX12_stated_g0.2.2.2.2.2.2.2.2.2.2.1 h
/-! to_fallAt -/
def wc_to_fallAt (post : CS → Int32 → Prop) (σ : CS) (a1 : Int32) (a2 : Int32) : Prop := wc_SX12_inside (fun (s1 : CS) (r2 : Int32) => ((r2 = (0 : Int32)) → (post s1 (-1 : Int32))) ∧ ((¬ (r2 = (0 : Int32))) → (((a1 < (12 : Int32)) → (((¬ (a2 = (0 : Int32))) → (vp_in a1 12 ∧ (post s1 (c_to_bytes s1 a1.toNatClampNeg)))) ∧ ((a2 = (0 : Int32)) → (vp_in a1 12 ∧ (post s1 (c_to_failures s1 a1.toNatClampNeg)))))) ∧ ((¬ (a1 < (12 : Int32))) → (post s1 (-1 : Int32)))))) σ a1 (c_to_falls σ)
set_option maxRecDepth 20000 in
theorem kc_to_fallAt {l : Launch} {D : va_G} {G : gAd} {post : CS → Int32 → Prop} {σ : CS} {a1 : Int32} {a2 : Int32} (h : wc_to_fallAt post σ a1 a2) : cMet l D G yX9_fallAt cX9_fallAt 3 (some .int) 2 [.ref (G.1 1100), .int a1, .int a2] σ (pI post) := by
  unfold wc_to_fallAt at h
  refine c_enter (own := RX9) (by decide +kernel) rfl [(0, .ref (G.1 1100)), (1, .int a1), (2, .int a2)] rfl (Nat.le_of_ble_eq_true rfl) ?_
  intro E hE hm hF
  have hN := hm.2.2.2.2.2.2.1
  refine r_iload_n hE 1 dX9_fallAt_g0.1 rfl rfl ?_
  refine r_aload_n hE 0 dX9_fallAt_g0.2.1 rfl rfl ?_
  refine cg_to_falls hE hm fk_X9_31 dX9_fallAt_g0.2.2.1 ?_
  refine c_callSNi hE hm [.int a1, .int (c_to_falls σ)] [] ck_X9_41 cw_X9_41 (kc_SX12_inside h) (by decide) rfl rfl (Nat.le_of_ble_eq_true rfl) dX9_fallAt_g0.2.2.2.1 (fun s1 r2 h => ?_)
  refine r_if_eq hE 17 dX9_fallAt_g0.2.2.2.2.1 (by decide) h (fun h => ?_) (fun h => ?_)
  · refine r_iconst (v := (-1 : Int32)) hE dX9_fallAt_g0.2.2.2.2.2.2.2.2.1 (by decide) ?_
    exact c_iret hE hm hF dX9_fallAt_g0.2.2.2.2.2.2.2.2.2.1 h
  · refine r_iload_n hE 1 dX9_fallAt_g0.2.2.2.2.2.1 rfl rfl ?_
    refine r_bipush (v := (12 : Int32)) hE dX9_fallAt_g0.2.2.2.2.2.2.1 (by decide) ?_
    refine r_icmp_lt hE 19 dX9_fallAt_g0.2.2.2.2.2.2.2.1 (by decide) h (fun h => ?_) (fun h => ?_)
    · refine r_iload_n hE 2 dX9_fallAt_g0.2.2.2.2.2.2.2.2.2.2.1 rfl rfl ?_
      refine r_if_ne hE 32 dX9_fallAt_g0.2.2.2.2.2.2.2.2.2.2.2.1 (by decide) h (fun h => ?_) (fun h => ?_)
      · refine r_aload_n hE 0 dX9_fallAt_g1.2.1 rfl rfl ?_
        refine cg_to_bytes hE hm fk_X9_21 dX9_fallAt_g1.2.2.1 ?_
        refine r_iload_n hE 1 dX9_fallAt_g1.2.2.2.1 rfl rfl ?_
        obtain ⟨hi, h⟩ := h
        refine cl_to_bytes hE hm dX9_fallAt_g1.2.2.2.2.1 hi ?_
        exact c_iret hE hm hF dX9_fallAt_g1.2.2.2.2.2 h
      · refine r_aload_n hE 0 dX9_fallAt_g0.2.2.2.2.2.2.2.2.2.2.2.2.1 rfl rfl ?_
        refine cg_to_failures hE hm fk_X9_18 dX9_fallAt_g0.2.2.2.2.2.2.2.2.2.2.2.2.2.1 ?_
        refine r_iload_n hE 1 dX9_fallAt_g0.2.2.2.2.2.2.2.2.2.2.2.2.2.2.1 rfl rfl ?_
        obtain ⟨hi, h⟩ := h
        refine cl_to_failures hE hm dX9_fallAt_g0.2.2.2.2.2.2.2.2.2.2.2.2.2.2.2 hi ?_
        refine r_goto hE 38 dX9_fallAt_g1.1 (by decide) ?_
        exact c_iret hE hm hF dX9_fallAt_g1.2.2.2.2.2 h
    · refine r_iconst (v := (-1 : Int32)) hE dX9_fallAt_g0.2.2.2.2.2.2.2.2.1 (by decide) ?_
      exact c_iret hE hm hF dX9_fallAt_g0.2.2.2.2.2.2.2.2.2.1 h
/-! ft_fall -/
def wc_ft_fall (post : CS → Int32 → Prop) (σ : CS) (a1 : Int32) (a2 : Int32) : Prop := wc_SX12_inside (fun (s1 : CS) (r2 : Int32) => ((¬ (r2 = (0 : Int32))) → (wc_to_fallAt (fun (s3 : CS) (r4 : Int32) => post s3 r4) s1 a1 a2)) ∧ ((r2 = (0 : Int32)) → (post s1 (-2000000002 : Int32)))) σ a2 (2 : Int32)
set_option maxRecDepth 20000 in
theorem kc_ft_fall {l : Launch} {D : va_G} {G : gAd} {post : CS → Int32 → Prop} {σ : CS} {a1 : Int32} {a2 : Int32} (h : wc_ft_fall post σ a1 a2) : cMet l D G yX12_fall cX12_fall 3 (some .int) 3 [.ref (G.1 200), .int a1, .int a2] σ (pI post) := by
  unfold wc_ft_fall at h
  refine c_enter (own := RX12) (by decide +kernel) rfl [(0, .ref (G.1 200)), (1, .int a1), (2, .int a2)] rfl (Nat.le_of_ble_eq_true rfl) ?_
  intro E hE hm hF
  have hN := hm.2.2.2.2.2.2.1
  refine r_iload_n hE 2 dX12_fall_g0.1 rfl rfl ?_
  refine r_iconst (v := (2 : Int32)) hE dX12_fall_g0.2.1 (by decide) ?_
  refine c_callSi hE hm [.int a2, .int (2 : Int32)] [] ck_X12_145 (kc_SX12_inside h) (by decide) rfl rfl (Nat.le_of_ble_eq_true rfl) dX12_fall_g0.2.2.1 (fun s1 r2 h => ?_)
  refine r_if_ne hE 11 dX12_fall_g0.2.2.2.1 (by decide) h (fun h => ?_) (fun h => ?_)
  · refine r_aload_n hE 0 dX12_fall_g0.2.2.2.2.2.2.1 rfl rfl ?_
    refine cg_ft_told hE hm fk_X12_83 dX12_fall_g0.2.2.2.2.2.2.2.1 ?_
    refine r_iload_n hE 1 dX12_fall_g0.2.2.2.2.2.2.2.2.1 rfl rfl ?_
    refine r_iload_n hE 2 dX12_fall_g0.2.2.2.2.2.2.2.2.2.1 rfl rfl ?_
    refine c_callVi hE hm [.int a1, .int a2] [] ck_X12_232 (cr_to hm rfl) (kc_to_fallAt h) (by decide) rfl rfl (Nat.le_of_ble_eq_true rfl) dX12_fall_g0.2.2.2.2.2.2.2.2.2.2.1 (fun s3 r4 h => ?_)
    exact c_iret hE hm hF dX12_fall_g0.2.2.2.2.2.2.2.2.2.2.2 h
  · refine r_ldc (v := (-2000000002 : Int32)) hE dX12_fall_g0.2.2.2.2.1 (gTb_2 (List.mem_of_getElem? (i := 212) rfl) rfl) ?_
    exact c_iret hE hm hF dX12_fall_g0.2.2.2.2.2.1 h
/-! ft_same -/
def wc_ft_same_28 (post : CS → Int32 → Prop) (postX : CS → Prop) (σ : CS) : Prop := postX σ
set_option maxRecDepth 20000 in
theorem kc_ft_same_28  {E : gEnv} {l : Launch} {D : va_G} {G : gAd} {post : CS → Int32 → Prop} {postX : CS → Prop} (hE : gOK E cX12_same RX12 (some .boolean) 6) (hm : cOK E l D G (pI post) 3) (hF : gFinX E (cQX G postX)) (hl0 : l.stackTraces = false) (σ : CS) (h : wc_ft_same_28 post postX σ) : GW E (cW G σ) 28 [] [] := by
  unfold wc_ft_same_28 at h
  have hN := hm.2.2.2.2.2.2.1
  exact cx_throw (tx := "no such DRAWN THING") (i := 23) hE hm hF hl0 (List.mem_of_getElem? (i := 23) rfl) (by decide) dX12_same_g0.2.2.2.2.2.2.2.2.2.2.2.2.1 dX12_same_g0.2.2.2.2.2.2.2.2.2.2.2.2.2.1 dX12_same_g0.2.2.2.2.2.2.2.2.2.2.2.2.2.2.1 dX12_same_g0.2.2.2.2.2.2.2.2.2.2.2.2.2.2.2 dX12_same_g1.1 h
def wc_ft_same (post : CS → Int32 → Prop) (postX : CS → Prop) (σ : CS) (a1 : Int32) (a2 : Int32) : Prop := wc_SX12_inside (fun (s1 : CS) (r2 : Int32) => ((r2 = (0 : Int32)) → (wc_ft_same_28 post postX s1)) ∧ ((¬ (r2 = (0 : Int32))) → (wc_SX12_inside (fun (s3 : CS) (r4 : Int32) => ((¬ (r4 = (0 : Int32))) → (wc_to_drawnAt (fun (s5 : CS) (r6 : Int32) => wc_to_drawnAt (fun (s7 : CS) (r8 : Int32) => wc_th_alike (fun (s9 : CS) (r10 : Int32) => isB r10 ∧ (post s9 r10)) s7 r6 r8) s5 a2) s3 a1)) ∧ ((r4 = (0 : Int32)) → (wc_ft_same_28 post postX s3))) s1 a2 (c_to_draws s1)))) σ a1 (c_to_draws σ)
set_option maxRecDepth 20000 in
theorem kc_ft_same {l : Launch} {D : va_G} {G : gAd} {post : CS → Int32 → Prop} {postX : CS → Prop} (hl0 : l.stackTraces = false) {σ : CS} {a1 : Int32} {a2 : Int32} (h : wc_ft_same post postX σ a1 a2) : cMetX l D G yX12_same cX12_same 3 (some .boolean) 6 [.ref (G.1 200), .int a1, .int a2] σ (pI post) postX := by
  unfold wc_ft_same at h
  refine c_enterX (own := RX12) (by decide +kernel) rfl [(0, .ref (G.1 200)), (1, .int a1), (2, .int a2)] rfl (Nat.le_of_ble_eq_true rfl) ?_
  intro E hE hm hF
  have hN := hm.2.2.2.2.2.2.1
  refine r_iload_n hE 1 dX12_same_g0.1 rfl rfl ?_
  refine r_aload_n hE 0 dX12_same_g0.2.1 rfl rfl ?_
  refine cg_ft_told hE hm fk_X12_83 dX12_same_g0.2.2.1 ?_
  refine cg_to_draws hE hm fk_X12_177 dX12_same_g0.2.2.2.1 ?_
  refine c_callSi hE hm [.int a1, .int (c_to_draws σ)] [] ck_X12_145 (kc_SX12_inside h) (by decide) rfl rfl (Nat.le_of_ble_eq_true rfl) dX12_same_g0.2.2.2.2.1 (fun s1 r2 h => ?_)
  refine r_if_eq hE 28 dX12_same_g0.2.2.2.2.2.1 (by decide) h (fun h => ?_) (fun h => ?_)
  · refine r_pick [] rfl ?_
    exact kc_ft_same_28 hE hm hF hl0 _ h
  · refine r_iload_n hE 2 dX12_same_g0.2.2.2.2.2.2.1 rfl rfl ?_
    refine r_aload_n hE 0 dX12_same_g0.2.2.2.2.2.2.2.1 rfl rfl ?_
    refine cg_ft_told hE hm fk_X12_83 dX12_same_g0.2.2.2.2.2.2.2.2.1 ?_
    refine cg_to_draws hE hm fk_X12_177 dX12_same_g0.2.2.2.2.2.2.2.2.2.1 ?_
    refine c_callSi hE hm [.int a2, .int (c_to_draws s1)] [] ck_X12_145 (kc_SX12_inside h) (by decide) rfl rfl (Nat.le_of_ble_eq_true rfl) dX12_same_g0.2.2.2.2.2.2.2.2.2.2.1 (fun s3 r4 h => ?_)
    refine r_if_ne hE 38 dX12_same_g0.2.2.2.2.2.2.2.2.2.2.2.1 (by decide) h (fun h => ?_) (fun h => ?_)
    · refine r_aload_n hE 0 dX12_same_g1.2.1 rfl rfl ?_
      refine cg_ft_things hE hm fk_X12_69 dX12_same_g1.2.2.1 ?_
      refine r_aload_n hE 0 dX12_same_g1.2.2.2.1 rfl rfl ?_
      refine cg_ft_told hE hm fk_X12_83 dX12_same_g1.2.2.2.2.1 ?_
      refine r_iload_n hE 1 dX12_same_g1.2.2.2.2.2.1 rfl rfl ?_
      refine c_callVi hE hm [.int a1] [.ref (G.1 900)] ck_X12_202 (cr_to hm rfl) (kc_to_drawnAt h) (by decide) rfl rfl (Nat.le_of_ble_eq_true rfl) dX12_same_g1.2.2.2.2.2.2.1 (fun s5 r6 h => ?_)
      refine r_aload_n hE 0 dX12_same_g1.2.2.2.2.2.2.2.1 rfl rfl ?_
      refine cg_ft_told hE hm fk_X12_83 dX12_same_g1.2.2.2.2.2.2.2.2.1 ?_
      refine r_iload_n hE 2 dX12_same_g1.2.2.2.2.2.2.2.2.2.1 rfl rfl ?_
      refine c_callVi hE hm [.int a2] [.int r6, .ref (G.1 900)] ck_X12_202 (cr_to hm rfl) (kc_to_drawnAt h) (by decide) rfl rfl (Nat.le_of_ble_eq_true rfl) dX12_same_g1.2.2.2.2.2.2.2.2.2.2.1 (fun s7 r8 h => ?_)
      refine c_callVi hE hm [.int r6, .int r8] [] ck_X12_236 (cr_th hm rfl) (kc_th_alike h) (by decide) rfl rfl (Nat.le_of_ble_eq_true rfl) dX12_same_g1.2.2.2.2.2.2.2.2.2.2.2.1 (fun s9 r10 h => ?_)
      obtain ⟨hb, h⟩ := h
      exact cx_zret hE hm hF dX12_same_g1.2.2.2.2.2.2.2.2.2.2.2.2 hb h
    · refine r_pick [] rfl ?_
      exact kc_ft_same_28 hE hm hF hl0 _ h
/-! ou_clear -/
def wc_ou_clear (post : CS → Prop) (σ : CS) : Prop := ∀ s1 : CS, s1 = c_ou_length_s σ (0 : Int32) → post s1
set_option maxRecDepth 20000 in
theorem kc_ou_clear {l : Launch} {D : va_G} {G : gAd} {post : CS → Prop} {σ : CS} (h : wc_ou_clear post σ) : cMet l D G yX3_clear cX3_clear 1 none 1 [.ref (G.1 500)] σ (pV post) := by
  unfold wc_ou_clear at h
  refine c_enter (own := RX3) (by decide +kernel) rfl [(0, .ref (G.1 500))] rfl (Nat.le_of_ble_eq_true rfl) ?_
  intro E hE hm hF
  have hN := hm.2.2.2.2.2.2.1
  refine r_aload_n hE 0 dX3_clear_g0.1 rfl rfl ?_
  refine r_iconst (v := (0 : Int32)) hE dX3_clear_g0.2.1 (by decide) ?_
  refine cp_ou_length hE hm fk_X3_19 dX3_clear_g0.2.2.1 h (fun s1 h => ?_)
  exact c_vret hE hm hF dX3_clear_g0.2.2.2 h
/-! ou_put -/
def wc_ou_put (post : CS → Prop) (σ : CS) (a1 : Int32) : Prop := (((c_ou_length σ) < (0 : Int32)) → (post σ)) ∧ ((¬ ((c_ou_length σ) < (0 : Int32))) → ((((16000 : Int32) ≤ (c_ou_length σ)) → (post σ)) ∧ ((¬ ((16000 : Int32) ≤ (c_ou_length σ))) → (vp_in (c_ou_length σ) 16000 ∧ (∀ s1 : CS, s1 = c_ou_bytes_s σ (c_ou_length σ).toNatClampNeg ((a1.toInt8.toInt32).toInt8.toInt32) → ∀ s2 : CS, s2 = c_ou_length_s s1 ((c_ou_length s1) + (1 : Int32)) → post s2)))))
set_option maxRecDepth 20000 in
theorem kc_ou_put {l : Launch} {D : va_G} {G : gAd} {post : CS → Prop} {σ : CS} {a1 : Int32} (h : wc_ou_put post σ a1) : cMet l D G yX3_put cX3_put 2 none 1 [.ref (G.1 500), .int a1] σ (pV post) := by
  unfold wc_ou_put at h
  refine c_enter (own := RX3) (by decide +kernel) rfl [(0, .ref (G.1 500)), (1, .int a1)] rfl (Nat.le_of_ble_eq_true rfl) ?_
  intro E hE hm hF
  have hN := hm.2.2.2.2.2.2.1
  refine r_aload_n hE 0 dX3_put_g0.1 rfl rfl ?_
  refine cg_ou_length hE hm fk_X3_19 dX3_put_g0.2.1 ?_
  refine r_if_lt hE 40 dX3_put_g0.2.2.1 (by decide) h (fun h => ?_) (fun h => ?_)
  · exact c_vret hE hm hF dX3_put_g1.2.2.2.2.2.2 h
  · refine r_aload_n hE 0 dX3_put_g0.2.2.2.1 rfl rfl ?_
    refine cg_ou_length hE hm fk_X3_19 dX3_put_g0.2.2.2.2.1 ?_
    refine r_aload_n hE 0 dX3_put_g0.2.2.2.2.2.1 rfl rfl ?_
    refine cg_ou_bytes hE hm fk_X3_9 dX3_put_g0.2.2.2.2.2.2.1 ?_
    refine cn_ou_bytes hE hm dX3_put_g0.2.2.2.2.2.2.2.1 ?_
    refine r_icmp_ge hE 40 dX3_put_g0.2.2.2.2.2.2.2.2.1 (by decide) h (fun h => ?_) (fun h => ?_)
    · exact c_vret hE hm hF dX3_put_g1.2.2.2.2.2.2 h
    · refine r_aload_n hE 0 dX3_put_g0.2.2.2.2.2.2.2.2.2.1 rfl rfl ?_
      refine cg_ou_bytes hE hm fk_X3_9 dX3_put_g0.2.2.2.2.2.2.2.2.2.2.1 ?_
      refine r_aload_n hE 0 dX3_put_g0.2.2.2.2.2.2.2.2.2.2.2.1 rfl rfl ?_
      refine cg_ou_length hE hm fk_X3_19 dX3_put_g0.2.2.2.2.2.2.2.2.2.2.2.2.1 ?_
      refine r_iload_n hE 1 dX3_put_g0.2.2.2.2.2.2.2.2.2.2.2.2.2.1 rfl rfl ?_
      refine r_i2b hE dX3_put_g0.2.2.2.2.2.2.2.2.2.2.2.2.2.2.1 ?_
      obtain ⟨hi, h⟩ := h
      refine cs_ou_bytes hE hm dX3_put_g0.2.2.2.2.2.2.2.2.2.2.2.2.2.2.2 hi h (fun s1 h => ?_)
      refine r_aload_n hE 0 dX3_put_g1.1 rfl rfl ?_
      refine r_dup hE dX3_put_g1.2.1 rfl ?_
      refine cg_ou_length hE hm fk_X3_19 dX3_put_g1.2.2.1 ?_
      refine r_iconst (v := (1 : Int32)) hE dX3_put_g1.2.2.2.1 (by decide) ?_
      refine r_iadd hE dX3_put_g1.2.2.2.2.1 ?_
      refine cp_ou_length hE hm fk_X3_19 dX3_put_g1.2.2.2.2.2.1 h (fun s2 h => ?_)
      exact c_vret hE hm hF dX3_put_g1.2.2.2.2.2.2 h
/-! ou_putText_s -/
def wc_ou_putText_s_2 (post : CS → Prop) : Nat → CS → Nat → Int32 → Prop
  | 0, _, _, _ => False
  | n + 1, σ, v1, v2 => v1 < 87 ∧ (wc_sSJ0_length_8abf5 (fun (s1 : CS) (r2 : Int32) => ((r2 ≤ v2) → (post s1)) ∧ ((¬ (r2 ≤ v2)) → (v1 < 87 ∧ (wc_sSJ0_charAt_5068e (fun (s3 : CS) (r4 : Int32) => wc_ou_put (fun (s5 : CS) => ∀ x6 : Int32, x6 = v2 + (1 : Int32) → wc_ou_putText_s_2 post n s5 v1 x6) s3 r4) s1 v1 v2)))) σ v1)
set_option maxRecDepth 20000 in
theorem kc_ou_putText_s_2  {E : gEnv} {l : Launch} {D : va_G} {G : gAd} {post : CS → Prop} (hE : gOK E cX3_putText RX3 none 5) (hm : cOK E l D G (pV post) 3) (hF : gFin E) : ∀ (n0 : Nat) (σ : CS) (v1 : Nat) (v2 : Int32), wc_ou_putText_s_2 post n0 σ v1 v2 → GW E (cW G σ) 2 [(0, .ref (G.1 500)), (1, .ref (G.1 (5000 + v1))), (2, .int v2)] [] := by
  intro n0
  induction n0 with
  | zero => intro σ v1 v2 h; exact h.elim
  | succ n0 ih =>
    intro σ v1 v2 h
    rw [wc_ou_putText_s_2] at h
    have hN := hm.2.2.2.2.2.2.1
    refine r_iload_n hE 2 dX3_putText_g0.2.2.1 rfl rfl ?_
    refine r_aload_n hE 1 dX3_putText_g0.2.2.2.1 rfl rfl ?_
    obtain ⟨hx, h⟩ := h
    refine c_callKi hE hm [] [.int v2] ck_X3_27 ((c_z hE hm).2.2.1 _ hx).1 (kc_sSJ0_length_8abf5 h) (by decide) rfl rfl (Nat.le_of_ble_eq_true rfl) dX3_putText_g0.2.2.2.2.1 (fun s1 r2 h => ?_)
    refine r_icmp_ge hE 25 dX3_putText_g0.2.2.2.2.2.1 (by decide) h (fun h => ?_) (fun h => ?_)
    · exact c_vret hE hm hF dX3_putText_g0.2.2.2.2.2.2.2.2.2.2.2.2.2 h
    · refine r_aload_n hE 0 dX3_putText_g0.2.2.2.2.2.2.1 rfl rfl ?_
      refine r_aload_n hE 1 dX3_putText_g0.2.2.2.2.2.2.2.1 rfl rfl ?_
      refine r_iload_n hE 2 dX3_putText_g0.2.2.2.2.2.2.2.2.1 rfl rfl ?_
      obtain ⟨hx, h⟩ := h
      refine c_callKi hE hm [.int v2] [.ref (G.1 500)] ck_X3_32 ((c_z hE hm).2.2.1 _ hx).1 (kc_sSJ0_charAt_5068e h) (by decide) rfl rfl (Nat.le_of_ble_eq_true rfl) dX3_putText_g0.2.2.2.2.2.2.2.2.2.1 (fun s3 r4 h => ?_)
      refine c_callVv hE hm [.int r4] [] ck_X3_36 (cr_ou hm rfl) (kc_ou_put h) (by decide) rfl rfl (Nat.le_of_ble_eq_true rfl) dX3_putText_g0.2.2.2.2.2.2.2.2.2.2.1 (fun s5 h => ?_)
      obtain ⟨x6, ex6⟩ : ∃ z : Int32, z = v2 + (1 : Int32) := ⟨_, rfl⟩
      have h := h x6 ex6
      refine r_iinc (v := x6) hE [(2, .int x6), (0, .ref (G.1 500)), (1, .ref (G.1 (5000 + v1)))] 2 dX3_putText_g0.2.2.2.2.2.2.2.2.2.2.2.1 rfl (by rw [ex6]; rfl) hN (by decide) rfl ?_
      refine r_goto hE 2 dX3_putText_g0.2.2.2.2.2.2.2.2.2.2.2.2.1 (by decide) ?_
      refine r_pick [1, 2, 0] rfl ?_
      exact ih _ _ _ h
def wc_ou_putText_s (post : CS → Prop) (σ : CS) (a1 : Nat) : Prop := ∃ k : Nat, wc_ou_putText_s_2 post k σ a1 (0 : Int32)
set_option maxRecDepth 20000 in
theorem kc_ou_putText_s {l : Launch} {D : va_G} {G : gAd} {post : CS → Prop} {σ : CS} {a1 : Nat} (h : wc_ou_putText_s post σ a1) : cMet l D G yX3_putText cX3_putText 3 none 5 [.ref (G.1 500), .ref (G.1 (5000 + a1))] σ (pV post) := by
  unfold wc_ou_putText_s at h
  refine c_enter (own := RX3) (by decide +kernel) rfl [(0, .ref (G.1 500)), (1, .ref (G.1 (5000 + a1)))] rfl (Nat.le_of_ble_eq_true rfl) ?_
  intro E hE hm hF
  have hN := hm.2.2.2.2.2.2.1
  refine r_iconst (v := (0 : Int32)) hE dX3_putText_g0.1 (by decide) ?_
  refine r_istore_n hE [(2, .int (0 : Int32)), (0, .ref (G.1 500)), (1, .ref (G.1 (5000 + a1)))] dX3_putText_g0.2.1 rfl hN (by decide) rfl ?_
  refine r_pick [1, 2, 0] rfl ?_
  obtain ⟨k, h⟩ := h
  exact kc_ou_putText_s_2 hE hm hF k _ _ _ h
/-! pr_putBlanks -/
def wc_pr_putBlanks_2 (post : CS → Prop) : Nat → CS → Int32 → Int32 → Prop
  | 0, _, _, _ => False
  | n + 1, σ, v1, v2 => ((v1 ≤ v2) → (post σ)) ∧ ((¬ (v1 ≤ v2)) → (wc_ou_putText_s (fun (s1 : CS) => ∀ x2 : Int32, x2 = v2 + (1 : Int32) → wc_pr_putBlanks_2 post n s1 v1 x2) σ 11))
set_option maxRecDepth 20000 in
theorem kc_pr_putBlanks_2  {E : gEnv} {l : Launch} {D : va_G} {G : gAd} {post : CS → Prop} (hE : gOK E cX4_putBlanks RX4 none 6) (hm : cOK E l D G (pV post) 3) (hF : gFin E) : ∀ (n0 : Nat) (σ : CS) (v1 : Int32) (v2 : Int32), wc_pr_putBlanks_2 post n0 σ v1 v2 → GW E (cW G σ) 2 [(0, .ref (G.1 700)), (1, .int v1), (2, .int v2)] [] := by
  intro n0
  induction n0 with
  | zero => intro σ v1 v2 h; exact h.elim
  | succ n0 ih =>
    intro σ v1 v2 h
    rw [wc_pr_putBlanks_2] at h
    have hN := hm.2.2.2.2.2.2.1
    refine r_iload_n hE 2 dX4_putBlanks_g0.2.2.1 rfl rfl ?_
    refine r_iload_n hE 1 dX4_putBlanks_g0.2.2.2.1 rfl rfl ?_
    refine r_icmp_ge hE 22 dX4_putBlanks_g0.2.2.2.2.1 (by decide) h (fun h => ?_) (fun h => ?_)
    · exact c_vret hE hm hF dX4_putBlanks_g0.2.2.2.2.2.2.2.2.2.2.2 h
    · refine r_aload_n hE 0 dX4_putBlanks_g0.2.2.2.2.2.1 rfl rfl ?_
      refine cg_pr_out hE hm fk_X4_30 dX4_putBlanks_g0.2.2.2.2.2.2.1 ?_
      refine ks_ldc (tx := "  ") (i := 11) hE hm (List.mem_of_getElem? (i := 11) rfl) dX4_putBlanks_g0.2.2.2.2.2.2.2.1 ?_
      refine c_callVv hE hm [.ref (G.1 (5000 + 11))] [] ck_X4_58 (cr_ou hm rfl) (kc_ou_putText_s h) (by decide) rfl rfl (Nat.le_of_ble_eq_true rfl) dX4_putBlanks_g0.2.2.2.2.2.2.2.2.1 (fun s1 h => ?_)
      obtain ⟨x2, ex2⟩ : ∃ z : Int32, z = v2 + (1 : Int32) := ⟨_, rfl⟩
      have h := h x2 ex2
      refine r_iinc (v := x2) hE [(2, .int x2), (0, .ref (G.1 700)), (1, .int v1)] 2 dX4_putBlanks_g0.2.2.2.2.2.2.2.2.2.1 rfl (by rw [ex2]; rfl) hN (by decide) rfl ?_
      refine r_goto hE 2 dX4_putBlanks_g0.2.2.2.2.2.2.2.2.2.2.1 (by decide) ?_
      refine r_pick [1, 2, 0] rfl ?_
      exact ih _ _ _ h
def wc_pr_putBlanks (post : CS → Prop) (σ : CS) (a1 : Int32) : Prop := ∃ k : Nat, wc_pr_putBlanks_2 post k σ a1 (0 : Int32)
set_option maxRecDepth 20000 in
theorem kc_pr_putBlanks {l : Launch} {D : va_G} {G : gAd} {post : CS → Prop} {σ : CS} {a1 : Int32} (h : wc_pr_putBlanks post σ a1) : cMet l D G yX4_putBlanks cX4_putBlanks 3 none 6 [.ref (G.1 700), .int a1] σ (pV post) := by
  unfold wc_pr_putBlanks at h
  refine c_enter (own := RX4) (by decide +kernel) rfl [(0, .ref (G.1 700)), (1, .int a1)] rfl (Nat.le_of_ble_eq_true rfl) ?_
  intro E hE hm hF
  have hN := hm.2.2.2.2.2.2.1
  refine r_iconst (v := (0 : Int32)) hE dX4_putBlanks_g0.1 (by decide) ?_
  refine r_istore_n hE [(2, .int (0 : Int32)), (0, .ref (G.1 700)), (1, .int a1)] dX4_putBlanks_g0.2.1 rfl hN (by decide) rfl ?_
  refine r_pick [1, 2, 0] rfl ?_
  obtain ⟨k, h⟩ := h
  exact kc_pr_putBlanks_2 hE hm hF k _ _ _ h
/-! ou_putWhole -/
def wc_ou_putWhole_77 (post : CS → Prop) : Nat → CS → Int32 → Prop
  | 0, _, _ => False
  | n + 1, σ, v6 => ((v6 < (0 : Int32)) → (post σ)) ∧ ((¬ (v6 < (0 : Int32))) → (vp_in v6 20 ∧ (wc_ou_put (fun (s1 : CS) => ∀ x2 : Int32, x2 = v6 + (-1 : Int32) → wc_ou_putWhole_77 post n s1 x2) σ (c_ou_digits σ v6.toNatClampNeg))))
set_option maxRecDepth 20000 in
theorem kc_ou_putWhole_77  {E : gEnv} {l : Launch} {D : va_G} {G : gAd} {post : CS → Prop} (hE : gOK E cX3_putWhole RX3 none 2) (hm : cOK E l D G (pV post) 7) (hF : gFin E) : ∀ (n0 : Nat) (σ : CS) (v6 : Int32), wc_ou_putWhole_77 post n0 σ v6 → GW E (cW G σ) 77 [(0, .ref (G.1 500)), (6, .int v6)] [] := by
  intro n0
  induction n0 with
  | zero => intro σ v6 h; exact h.elim
  | succ n0 ih =>
    intro σ v6 h
    rw [wc_ou_putWhole_77] at h
    have hN := hm.2.2.2.2.2.2.1
    refine r_iload hE 1 dX3_putWhole_g2.2.2.2.2.2.2.2.2.2.2.2.2.2.2.2 rfl ?_
    refine r_if_lt hE 99 dX3_putWhole_g3.1 (by decide) h (fun h => ?_) (fun h => ?_)
    · exact c_vret hE hm hF dX3_putWhole_g3.2.2.2.2.2.2.2.2.2 h
    · refine r_aload_n hE 0 dX3_putWhole_g3.2.1 rfl rfl ?_
      refine r_aload_n hE 0 dX3_putWhole_g3.2.2.1 rfl rfl ?_
      refine cg_ou_digits hE hm fk_X3_15 dX3_putWhole_g3.2.2.2.1 ?_
      refine r_iload hE 1 dX3_putWhole_g3.2.2.2.2.1 rfl ?_
      obtain ⟨hi, h⟩ := h
      refine cl_ou_digits hE hm dX3_putWhole_g3.2.2.2.2.2.1 hi ?_
      refine c_callVv hE hm [.int (c_ou_digits σ v6.toNatClampNeg)] [] ck_X3_36 (cr_ou hm rfl) (kc_ou_put h) (by decide) rfl rfl (Nat.le_of_ble_eq_true rfl) dX3_putWhole_g3.2.2.2.2.2.2.1 (fun s1 h => ?_)
      obtain ⟨x2, ex2⟩ : ∃ z : Int32, z = v6 + (-1 : Int32) := ⟨_, rfl⟩
      have h := h x2 ex2
      refine r_iinc (v := x2) hE [(6, .int x2), (0, .ref (G.1 500))] 1 dX3_putWhole_g3.2.2.2.2.2.2.2.1 rfl (by rw [ex2]; rfl) hN (by decide) rfl ?_
      refine r_goto hE 77 dX3_putWhole_g3.2.2.2.2.2.2.2.2.1 (by decide) ?_
      refine r_pick [1, 0] rfl ?_
      exact ih _ _ h
def wc_ou_putWhole_71 (post : CS → Prop) (σ : CS) (v5 : Int32) : Prop := ∀ x3 : Int32, x3 = v5 - (1 : Int32) → ∃ k : Nat, wc_ou_putWhole_77 post k σ x3
set_option maxRecDepth 20000 in
theorem kc_ou_putWhole_71  {E : gEnv} {l : Launch} {D : va_G} {G : gAd} {post : CS → Prop} (hE : gOK E cX3_putWhole RX3 none 2) (hm : cOK E l D G (pV post) 7) (hF : gFin E) (σ : CS) (v5 : Int32) (h : wc_ou_putWhole_71 post σ v5) : GW E (cW G σ) 71 [(0, .ref (G.1 500)), (5, .int v5)] [] := by
  unfold wc_ou_putWhole_71 at h
  have hN := hm.2.2.2.2.2.2.1
  refine r_iload hE 1 dX3_putWhole_g2.2.2.2.2.2.2.2.2.2.2.2.1 rfl ?_
  refine r_iconst (v := (1 : Int32)) hE dX3_putWhole_g2.2.2.2.2.2.2.2.2.2.2.2.2.1 (by decide) ?_
  refine r_isub hE dX3_putWhole_g2.2.2.2.2.2.2.2.2.2.2.2.2.2.1 ?_
  refine r_topi h (fun x3 ex3 h => ?_)
  refine r_istore hE [(6, .int x3), (0, .ref (G.1 500)), (5, .int v5)] dX3_putWhole_g2.2.2.2.2.2.2.2.2.2.2.2.2.2.2.1 hN (by decide) rfl ?_
  refine r_pick [1, 0] rfl ?_
  obtain ⟨k, h⟩ := h
  exact kc_ou_putWhole_77 hE hm hF k _ _ h
def wc_ou_putWhole_28 (post : CS → Prop) : Nat → CS → Int64 → Int32 → Prop
  | 0, _, _, _ => False
  | n + 1, σ, v3, v5 => vp_in v5 20 ∧ (∀ s4 : CS, s4 = c_ou_digits_s σ v5.toNatClampNeg ((((((48 : Int64) + (v3 - v3 / (10 : Int64) * (10 : Int64))).toInt32).toUInt32 % 65536).toInt32).toUInt32.toUInt16.toUInt32.toInt32) → ∀ x5 : Int32, x5 = v5 + (1 : Int32) → ∀ x6 : Int64, x6 = v3 / (10 : Int64) → (((lg_cmp x6 (0 : Int64)) ≤ (0 : Int32)) → (wc_ou_putWhole_71 post s4 x5)) ∧ ((¬ ((lg_cmp x6 (0 : Int64)) ≤ (0 : Int32))) → (((x5 < (20 : Int32)) → (wc_ou_putWhole_28 post n s4 x6 x5)) ∧ ((¬ (x5 < (20 : Int32))) → (wc_ou_putWhole_71 post s4 x5)))))
set_option maxRecDepth 20000 in
theorem kc_ou_putWhole_28  {E : gEnv} {l : Launch} {D : va_G} {G : gAd} {post : CS → Prop} (hE : gOK E cX3_putWhole RX3 none 2) (hm : cOK E l D G (pV post) 7) (hF : gFin E) : ∀ (n0 : Nat) (σ : CS) (v3 : Int64) (v5 : Int32), wc_ou_putWhole_28 post n0 σ v3 v5 → GW E (cW G σ) 28 [(0, .ref (G.1 500)), (3, .long v3), (5, .int v5)] [] := by
  intro n0
  induction n0 with
  | zero => intro σ v3 v5 h; exact h.elim
  | succ n0 ih =>
    intro σ v3 v5 h
    rw [wc_ou_putWhole_28] at h
    have hN := hm.2.2.2.2.2.2.1
    refine r_aload_n hE 0 dX3_putWhole_g1.2.2.1 rfl rfl ?_
    refine cg_ou_digits hE hm fk_X3_15 dX3_putWhole_g1.2.2.2.1 ?_
    refine r_iload hE 2 dX3_putWhole_g1.2.2.2.2.1 rfl ?_
    refine r_ldc2 (v := (48 : Int64)) hE dX3_putWhole_g1.2.2.2.2.2.1 (gTb_6 (List.mem_of_getElem? (i := 178) rfl) rfl) ?_
    refine r_lload_n hE 1 dX3_putWhole_g1.2.2.2.2.2.2.1 rfl rfl ?_
    refine r_ldc2 (v := (10 : Int64)) hE dX3_putWhole_g1.2.2.2.2.2.2.2.1 (gTb_6 (List.mem_of_getElem? (i := 179) rfl) rfl) ?_
    refine r_lrem hE dX3_putWhole_g1.2.2.2.2.2.2.2.2.1 (by decide) ?_
    refine r_ladd hE dX3_putWhole_g1.2.2.2.2.2.2.2.2.2.1 ?_
    refine r_l2i hE dX3_putWhole_g1.2.2.2.2.2.2.2.2.2.2.1 ?_
    refine r_i2c hE dX3_putWhole_g1.2.2.2.2.2.2.2.2.2.2.2.1 ?_
    obtain ⟨hi, h⟩ := h
    refine cs_ou_digits hE hm dX3_putWhole_g1.2.2.2.2.2.2.2.2.2.2.2.2.1 hi h (fun s4 h => ?_)
    obtain ⟨x5, ex5⟩ : ∃ z : Int32, z = v5 + (1 : Int32) := ⟨_, rfl⟩
    have h := h x5 ex5
    refine r_iinc (v := x5) hE [(5, .int x5), (0, .ref (G.1 500)), (3, .long v3)] 2 dX3_putWhole_g1.2.2.2.2.2.2.2.2.2.2.2.2.2.1 rfl (by rw [ex5]; rfl) hN (by decide) rfl ?_
    refine r_lload_n hE 2 dX3_putWhole_g1.2.2.2.2.2.2.2.2.2.2.2.2.2.2.1 rfl rfl ?_
    refine r_ldc2 (v := (10 : Int64)) hE dX3_putWhole_g1.2.2.2.2.2.2.2.2.2.2.2.2.2.2.2 (gTb_6 (List.mem_of_getElem? (i := 179) rfl) rfl) ?_
    refine r_ldiv hE dX3_putWhole_g2.1 (by decide) ?_
    refine r_topl h (fun x6 ex6 h => ?_)
    refine r_lstore_n hE [(3, .long x6), (5, .int x5), (0, .ref (G.1 500))] dX3_putWhole_g2.2.1 rfl hN (by decide) rfl ?_
    refine r_lload_n hE 0 dX3_putWhole_g2.2.2.1 rfl rfl ?_
    refine r_lconst (v := (0 : Int64)) hE dX3_putWhole_g2.2.2.2.1 (by decide) ?_
    refine r_lcmp hE dX3_putWhole_g2.2.2.2.2.1 ?_
    refine r_if_le hE 71 dX3_putWhole_g2.2.2.2.2.2.1 (by decide) h (fun h => ?_) (fun h => ?_)
    · refine r_pick [2, 1] rfl ?_
      exact kc_ou_putWhole_71 hE hm hF _ _ h
    · refine r_iload hE 1 dX3_putWhole_g2.2.2.2.2.2.2.1 rfl ?_
      refine r_aload_n hE 2 dX3_putWhole_g2.2.2.2.2.2.2.2.1 rfl rfl ?_
      refine cg_ou_digits hE hm fk_X3_15 dX3_putWhole_g2.2.2.2.2.2.2.2.2.1 ?_
      refine cn_ou_digits hE hm dX3_putWhole_g2.2.2.2.2.2.2.2.2.2.1 ?_
      refine r_icmp_lt hE 28 dX3_putWhole_g2.2.2.2.2.2.2.2.2.2.2.1 (by decide) h (fun h => ?_) (fun h => ?_)
      · refine r_pick [2, 0, 1] rfl ?_
        exact ih _ _ _ h
      · refine r_pick [2, 1] rfl ?_
        exact kc_ou_putWhole_71 hE hm hF _ _ h
def wc_ou_putWhole_24 (post : CS → Prop) (σ : CS) (t0 : Int64) : Prop := ∃ k : Nat, wc_ou_putWhole_28 post k σ t0 (0 : Int32)
set_option maxRecDepth 20000 in
theorem kc_ou_putWhole_24  {E : gEnv} {l : Launch} {D : va_G} {G : gAd} {post : CS → Prop} (hE : gOK E cX3_putWhole RX3 none 2) (hm : cOK E l D G (pV post) 7) (hF : gFin E) (σ : CS) (t0 : Int64) (h : wc_ou_putWhole_24 post σ t0) : GW E (cW G σ) 24 [(0, .ref (G.1 500))] [.long t0] := by
  unfold wc_ou_putWhole_24 at h
  have hN := hm.2.2.2.2.2.2.1
  refine r_lstore_n hE [(3, .long t0), (0, .ref (G.1 500))] dX3_putWhole_g0.2.2.2.2.2.2.2.2.2.2.2.2.2.2.2 rfl hN (by decide) rfl ?_
  refine r_iconst (v := (0 : Int32)) hE dX3_putWhole_g1.1 (by decide) ?_
  refine r_istore hE [(5, .int (0 : Int32)), (3, .long t0), (0, .ref (G.1 500))] dX3_putWhole_g1.2.1 hN (by decide) rfl ?_
  refine r_pick [2, 1, 0] rfl ?_
  obtain ⟨k, h⟩ := h
  exact kc_ou_putWhole_28 hE hm hF k _ _ _ h
def wc_ou_putWhole_12 (post : CS → Prop) (σ : CS) (v1 : Int64) : Prop := (((0 : Int32) ≤ (lg_cmp v1 (0 : Int64))) → (wc_ou_putWhole_24 post σ v1)) ∧ ((¬ ((0 : Int32) ≤ (lg_cmp v1 (0 : Int64)))) → (wc_ou_putWhole_24 post σ (-v1)))
set_option maxRecDepth 20000 in
theorem kc_ou_putWhole_12  {E : gEnv} {l : Launch} {D : va_G} {G : gAd} {post : CS → Prop} (hE : gOK E cX3_putWhole RX3 none 2) (hm : cOK E l D G (pV post) 7) (hF : gFin E) (σ : CS) (v1 : Int64) (h : wc_ou_putWhole_12 post σ v1) : GW E (cW G σ) 12 [(0, .ref (G.1 500)), (1, .long v1)] [] := by
  unfold wc_ou_putWhole_12 at h
  have hN := hm.2.2.2.2.2.2.1
  refine r_lload_n hE 1 dX3_putWhole_g0.2.2.2.2.2.2.2.1 rfl rfl ?_
  refine r_lconst (v := (0 : Int64)) hE dX3_putWhole_g0.2.2.2.2.2.2.2.2.1 (by decide) ?_
  refine r_lcmp hE dX3_putWhole_g0.2.2.2.2.2.2.2.2.2.1 ?_
  refine r_if_ge hE 23 dX3_putWhole_g0.2.2.2.2.2.2.2.2.2.2.1 (by decide) h (fun h => ?_) (fun h => ?_)
  · refine r_lload_n hE 1 dX3_putWhole_g0.2.2.2.2.2.2.2.2.2.2.2.2.2.2.1 rfl rfl ?_
    refine r_pick [0] rfl ?_
    exact kc_ou_putWhole_24 hE hm hF _ _ h
  · refine r_lload_n hE 1 dX3_putWhole_g0.2.2.2.2.2.2.2.2.2.2.2.1 rfl rfl ?_
    refine r_lneg hE dX3_putWhole_g0.2.2.2.2.2.2.2.2.2.2.2.2.1 ?_
    refine r_goto hE 24 dX3_putWhole_g0.2.2.2.2.2.2.2.2.2.2.2.2.2.1 (by decide) ?_
    refine r_pick [0] rfl ?_
    exact kc_ou_putWhole_24 hE hm hF _ _ h
def wc_ou_putWhole (post : CS → Prop) (σ : CS) (a1 : Int64) : Prop := (((0 : Int32) ≤ (lg_cmp a1 (0 : Int64))) → (wc_ou_putWhole_12 post σ a1)) ∧ ((¬ ((0 : Int32) ≤ (lg_cmp a1 (0 : Int64)))) → (wc_ou_put (fun (s7 : CS) => wc_ou_putWhole_12 post s7 a1) σ (45 : Int32)))
set_option maxRecDepth 20000 in
theorem kc_ou_putWhole {l : Launch} {D : va_G} {G : gAd} {post : CS → Prop} {σ : CS} {a1 : Int64} (h : wc_ou_putWhole post σ a1) : cMet l D G yX3_putWhole cX3_putWhole 7 none 2 [.ref (G.1 500), .long a1] σ (pV post) := by
  unfold wc_ou_putWhole at h
  refine c_enter (own := RX3) (by decide +kernel) rfl [(0, .ref (G.1 500)), (1, .long a1)] rfl (Nat.le_of_ble_eq_true rfl) ?_
  intro E hE hm hF
  have hN := hm.2.2.2.2.2.2.1
  refine r_lload_n hE 1 dX3_putWhole_g0.1 rfl rfl ?_
  refine r_lconst (v := (0 : Int64)) hE dX3_putWhole_g0.2.1 (by decide) ?_
  refine r_lcmp hE dX3_putWhole_g0.2.2.1 ?_
  refine r_if_ge hE 12 dX3_putWhole_g0.2.2.2.1 (by decide) h (fun h => ?_) (fun h => ?_)
  · exact kc_ou_putWhole_12 hE hm hF _ _ h
  · refine r_aload_n hE 0 dX3_putWhole_g0.2.2.2.2.1 rfl rfl ?_
    refine r_bipush (v := (45 : Int32)) hE dX3_putWhole_g0.2.2.2.2.2.1 (by decide) ?_
    refine c_callVv hE hm [.int (45 : Int32)] [] ck_X3_36 (cr_ou hm rfl) (kc_ou_put h) (by decide) rfl rfl (Nat.le_of_ble_eq_true rfl) dX3_putWhole_g0.2.2.2.2.2.2.1 (fun s7 h => ?_)
    exact kc_ou_putWhole_12 hE hm hF _ _ h
/-! pr_levelOf -/
def wc_pr_levelOf (post : CS → Int32 → Prop) (σ : CS) (a1 : Int32) : Prop := c_pr_figure σ = 300 ∧ (wc_fg_typeOf (fun (s1 : CS) (r2 : Int32) => ((r2 = (13 : Int32)) → (c_pr_figure s1 = 300 ∧ (wc_fg_dataOf (fun (s3 : CS) (r4 : Int32) => (r4 = (42 : Int32) → (post s3 (3 : Int32))) ∧ (¬ r4 = (42 : Int32) → ((r4 = (43 : Int32) → (post s3 (2 : Int32))) ∧ (¬ r4 = (43 : Int32) → ((r4 = (44 : Int32) → (post s3 (1 : Int32))) ∧ (¬ r4 = (44 : Int32) → ((r4 = (45 : Int32) → (post s3 (2 : Int32))) ∧ (¬ r4 = (45 : Int32) → ((r4 = (46 : Int32) → (post s3 (1 : Int32))) ∧ (¬ r4 = (46 : Int32) → ((r4 = (47 : Int32) → (post s3 (3 : Int32))) ∧ (¬ r4 = (47 : Int32) → (post s3 (1 : Int32)))))))))))))) s1 a1))) ∧ ((¬ (r2 = (13 : Int32))) → (post s1 (4 : Int32)))) σ a1)
set_option maxRecDepth 20000 in
theorem kc_pr_levelOf {l : Launch} {D : va_G} {G : gAd} {post : CS → Int32 → Prop} {σ : CS} {a1 : Int32} (h : wc_pr_levelOf post σ a1) : cMet l D G yX4_levelOf cX4_levelOf 2 (some .int) 2 [.ref (G.1 700), .int a1] σ (pI post) := by
  unfold wc_pr_levelOf at h
  refine c_enter (own := RX4) (by decide +kernel) rfl [(0, .ref (G.1 700)), (1, .int a1)] rfl (Nat.le_of_ble_eq_true rfl) ?_
  intro E hE hm hF
  have hN := hm.2.2.2.2.2.2.1
  refine r_aload_n hE 0 dX4_levelOf_g0.1 rfl rfl ?_
  obtain ⟨hj, h⟩ := h
  refine cg_pr_figure hE hm fk_X4_26 dX4_levelOf_g0.2.1 hj ?_
  refine r_iload_n hE 1 dX4_levelOf_g0.2.2.1 rfl rfl ?_
  refine c_callVi hE hm [.int a1] [] ck_X4_102 (cr_fg hm rfl) (kc_fg_typeOf h) (by decide) rfl rfl (Nat.le_of_ble_eq_true rfl) dX4_levelOf_g0.2.2.2.1 (fun s1 r2 h => ?_)
  refine r_bipush (v := (13 : Int32)) hE dX4_levelOf_g0.2.2.2.2.1 (by decide) ?_
  refine r_icmp_eq hE 15 dX4_levelOf_g0.2.2.2.2.2.1 (by decide) h (fun h => ?_) (fun h => ?_)
  · refine r_aload_n hE 0 dX4_levelOf_g0.2.2.2.2.2.2.2.2.1 rfl rfl ?_
    obtain ⟨hj, h⟩ := h
    refine cg_pr_figure hE hm fk_X4_26 dX4_levelOf_g0.2.2.2.2.2.2.2.2.2.1 hj ?_
    refine r_iload_n hE 1 dX4_levelOf_g0.2.2.2.2.2.2.2.2.2.2.1 rfl rfl ?_
    refine c_callVi hE hm [.int a1] [] ck_X4_142 (cr_fg hm rfl) (kc_fg_dataOf h) (by decide) rfl rfl (Nat.le_of_ble_eq_true rfl) dX4_levelOf_g0.2.2.2.2.2.2.2.2.2.2.2.1 (fun s3 r4 h => ?_)
    refine r_case (42 : Int32) h (fun q0 h => ?_) (fun q0 h => ?_)
    · refine r_tableAt (off := 39) hE (42 : Int32) 62 dX4_levelOf_g0.2.2.2.2.2.2.2.2.2.2.2.2.1 q0 (by decide) (by decide) (by decide) (by decide) ?_
      refine r_iconst (v := (3 : Int32)) hE dX4_levelOf_g0.2.2.2.2.2.2.2.2.2.2.2.2.2.2.2 (by decide) ?_
      exact c_iret hE hm hF dX4_levelOf_g1.1 h
    · refine r_case (43 : Int32) h (fun q1 h => ?_) (fun q1 h => ?_)
      · refine r_tableAt (off := 37) hE (43 : Int32) 60 dX4_levelOf_g0.2.2.2.2.2.2.2.2.2.2.2.2.1 q1 (by decide) (by decide) (by decide) (by decide) ?_
        refine r_iconst (v := (2 : Int32)) hE dX4_levelOf_g0.2.2.2.2.2.2.2.2.2.2.2.2.2.1 (by decide) ?_
        exact c_iret hE hm hF dX4_levelOf_g0.2.2.2.2.2.2.2.2.2.2.2.2.2.2.1 h
      · refine r_case (44 : Int32) h (fun q2 h => ?_) (fun q2 h => ?_)
        · refine r_tableAt (off := 41) hE (44 : Int32) 64 dX4_levelOf_g0.2.2.2.2.2.2.2.2.2.2.2.2.1 q2 (by decide) (by decide) (by decide) (by decide) ?_
          refine r_iconst (v := (1 : Int32)) hE dX4_levelOf_g1.2.1 (by decide) ?_
          exact c_iret hE hm hF dX4_levelOf_g1.2.2 h
        · refine r_case (45 : Int32) h (fun q3 h => ?_) (fun q3 h => ?_)
          · refine r_tableAt (off := 37) hE (45 : Int32) 60 dX4_levelOf_g0.2.2.2.2.2.2.2.2.2.2.2.2.1 q3 (by decide) (by decide) (by decide) (by decide) ?_
            refine r_iconst (v := (2 : Int32)) hE dX4_levelOf_g0.2.2.2.2.2.2.2.2.2.2.2.2.2.1 (by decide) ?_
            exact c_iret hE hm hF dX4_levelOf_g0.2.2.2.2.2.2.2.2.2.2.2.2.2.2.1 h
          · refine r_case (46 : Int32) h (fun q4 h => ?_) (fun q4 h => ?_)
            · refine r_tableAt (off := 41) hE (46 : Int32) 64 dX4_levelOf_g0.2.2.2.2.2.2.2.2.2.2.2.2.1 q4 (by decide) (by decide) (by decide) (by decide) ?_
              refine r_iconst (v := (1 : Int32)) hE dX4_levelOf_g1.2.1 (by decide) ?_
              exact c_iret hE hm hF dX4_levelOf_g1.2.2 h
            · refine r_case (47 : Int32) h (fun q5 h => ?_) (fun q5 h => ?_)
              · refine r_tableAt (off := 39) hE (47 : Int32) 62 dX4_levelOf_g0.2.2.2.2.2.2.2.2.2.2.2.2.1 q5 (by decide) (by decide) (by decide) (by decide) ?_
                refine r_iconst (v := (3 : Int32)) hE dX4_levelOf_g0.2.2.2.2.2.2.2.2.2.2.2.2.2.2.2 (by decide) ?_
                exact c_iret hE hm hF dX4_levelOf_g1.1 h
              · have n0 := lv_neT q0 (show (42 : Int32).toInt = 42 by decide)
                have n1 := lv_neT q1 (show (43 : Int32).toInt = 43 by decide)
                have n2 := lv_neT q2 (show (44 : Int32).toInt = 44 by decide)
                have n3 := lv_neT q3 (show (45 : Int32).toInt = 45 by decide)
                have n4 := lv_neT q4 (show (46 : Int32).toInt = 46 by decide)
                have n5 := lv_neT q5 (show (47 : Int32).toInt = 47 by decide)
                refine r_tableOut hE 64 dX4_levelOf_g0.2.2.2.2.2.2.2.2.2.2.2.2.1 (by omega) (by decide) ?_
                refine r_iconst (v := (1 : Int32)) hE dX4_levelOf_g1.2.1 (by decide) ?_
                exact c_iret hE hm hF dX4_levelOf_g1.2.2 h
  · refine r_iconst (v := (4 : Int32)) hE dX4_levelOf_g0.2.2.2.2.2.2.1 (by decide) ?_
    exact c_iret hE hm hF dX4_levelOf_g0.2.2.2.2.2.2.2.1 h
/-! fg_letterAt -/
def wc_fg_letterAt_56 (post : CS → Int32 → Prop) (σ : CS) (v2 : Int32) : Prop := post σ v2
set_option maxRecDepth 20000 in
theorem kc_fg_letterAt_56  {E : gEnv} {l : Launch} {D : va_G} {G : gAd} {post : CS → Int32 → Prop} (hE : gOK E cX1_letterAt RX1 (some .int) 1) (hm : cOK E l D G (pI post) 3) (hF : gFin E) (σ : CS) (v2 : Int32) (h : wc_fg_letterAt_56 post σ v2) : GW E (cW G σ) 56 [(2, .int v2)] [] := by
  unfold wc_fg_letterAt_56 at h
  have hN := hm.2.2.2.2.2.2.1
  refine r_iload_n hE 0 dX1_letterAt_g1.2.2.2.2.2.2.2.2.2.2.2.2.2.2.1 rfl rfl ?_
  refine r_goto hE 61 dX1_letterAt_g1.2.2.2.2.2.2.2.2.2.2.2.2.2.2.2 (by decide) ?_
  exact c_iret hE hm hF dX1_letterAt_g2.2 h
def wc_fg_letterAt_44 (post : CS → Int32 → Prop) (σ : CS) (v2 : Int32) : Prop := ((v2 < (48 : Int32)) → (post σ (0 : Int32))) ∧ ((¬ (v2 < (48 : Int32))) → ((((57 : Int32) < v2) → (post σ (0 : Int32))) ∧ ((¬ ((57 : Int32) < v2)) → (wc_fg_letterAt_56 post σ v2))))
set_option maxRecDepth 20000 in
theorem kc_fg_letterAt_44  {E : gEnv} {l : Launch} {D : va_G} {G : gAd} {post : CS → Int32 → Prop} (hE : gOK E cX1_letterAt RX1 (some .int) 1) (hm : cOK E l D G (pI post) 3) (hF : gFin E) (σ : CS) (v2 : Int32) (h : wc_fg_letterAt_44 post σ v2) : GW E (cW G σ) 44 [(2, .int v2)] [] := by
  unfold wc_fg_letterAt_44 at h
  have hN := hm.2.2.2.2.2.2.1
  refine r_iload_n hE 0 dX1_letterAt_g1.2.2.2.2.2.2.2.2.1 rfl rfl ?_
  refine r_bipush (v := (48 : Int32)) hE dX1_letterAt_g1.2.2.2.2.2.2.2.2.2.1 (by decide) ?_
  refine r_icmp_lt hE 60 dX1_letterAt_g1.2.2.2.2.2.2.2.2.2.2.1 (by decide) h (fun h => ?_) (fun h => ?_)
  · refine r_iconst (v := (0 : Int32)) hE dX1_letterAt_g2.1 (by decide) ?_
    exact c_iret hE hm hF dX1_letterAt_g2.2 h
  · refine r_iload_n hE 0 dX1_letterAt_g1.2.2.2.2.2.2.2.2.2.2.2.1 rfl rfl ?_
    refine r_bipush (v := (57 : Int32)) hE dX1_letterAt_g1.2.2.2.2.2.2.2.2.2.2.2.2.1 (by decide) ?_
    refine r_icmp_gt hE 60 dX1_letterAt_g1.2.2.2.2.2.2.2.2.2.2.2.2.2.1 (by decide) h (fun h => ?_) (fun h => ?_)
    · refine r_iconst (v := (0 : Int32)) hE dX1_letterAt_g2.1 (by decide) ?_
      exact c_iret hE hm hF dX1_letterAt_g2.2 h
    · exact kc_fg_letterAt_56 hE hm hF _ _ h
def wc_fg_letterAt_31 (post : CS → Int32 → Prop) (σ : CS) (t0 : Int32) : Prop := ((t0 < (97 : Int32)) → (wc_fg_letterAt_44 post σ t0)) ∧ ((¬ (t0 < (97 : Int32))) → (((t0 ≤ (122 : Int32)) → (wc_fg_letterAt_56 post σ t0)) ∧ ((¬ (t0 ≤ (122 : Int32))) → (wc_fg_letterAt_44 post σ t0))))
set_option maxRecDepth 20000 in
theorem kc_fg_letterAt_31  {E : gEnv} {l : Launch} {D : va_G} {G : gAd} {post : CS → Int32 → Prop} (hE : gOK E cX1_letterAt RX1 (some .int) 1) (hm : cOK E l D G (pI post) 3) (hF : gFin E) (σ : CS) (t0 : Int32) (h : wc_fg_letterAt_31 post σ t0) : GW E (cW G σ) 31 [] [.int t0] := by
  unfold wc_fg_letterAt_31 at h
  have hN := hm.2.2.2.2.2.2.1
  refine r_istore_n hE [(2, .int t0)] dX1_letterAt_g1.2.1 rfl hN (by decide) rfl ?_
  refine r_iload_n hE 0 dX1_letterAt_g1.2.2.1 rfl rfl ?_
  refine r_bipush (v := (97 : Int32)) hE dX1_letterAt_g1.2.2.2.1 (by decide) ?_
  refine r_icmp_lt hE 44 dX1_letterAt_g1.2.2.2.2.1 (by decide) h (fun h => ?_) (fun h => ?_)
  · exact kc_fg_letterAt_44 hE hm hF _ _ h
  · refine r_iload_n hE 0 dX1_letterAt_g1.2.2.2.2.2.1 rfl rfl ?_
    refine r_bipush (v := (122 : Int32)) hE dX1_letterAt_g1.2.2.2.2.2.2.1 (by decide) ?_
    refine r_icmp_le hE 56 dX1_letterAt_g1.2.2.2.2.2.2.2.1 (by decide) h (fun h => ?_) (fun h => ?_)
    · exact kc_fg_letterAt_56 hE hm hF _ _ h
    · exact kc_fg_letterAt_44 hE hm hF _ _ h
def wc_fg_letterAt_30 (post : CS → Int32 → Prop) (σ : CS) : Prop := wc_fg_letterAt_31 post σ (0 : Int32)
set_option maxRecDepth 20000 in
theorem kc_fg_letterAt_30  {E : gEnv} {l : Launch} {D : va_G} {G : gAd} {post : CS → Int32 → Prop} (hE : gOK E cX1_letterAt RX1 (some .int) 1) (hm : cOK E l D G (pI post) 3) (hF : gFin E) (σ : CS) (h : wc_fg_letterAt_30 post σ) : GW E (cW G σ) 30 [] [] := by
  unfold wc_fg_letterAt_30 at h
  have hN := hm.2.2.2.2.2.2.1
  refine r_iconst (v := (0 : Int32)) hE dX1_letterAt_g1.1 (by decide) ?_
  exact kc_fg_letterAt_31 hE hm hF _ _ h
def wc_fg_letterAt (post : CS → Int32 → Prop) (σ : CS) (a1 : Int32) : Prop := ((a1 < (0 : Int32)) → (wc_fg_letterAt_30 post σ)) ∧ ((¬ (a1 < (0 : Int32))) → ((((c_fg_length σ) ≤ a1) → (wc_fg_letterAt_30 post σ)) ∧ ((¬ ((c_fg_length σ) ≤ a1)) → ((((3000 : Int32) ≤ a1) → (wc_fg_letterAt_30 post σ)) ∧ ((¬ ((3000 : Int32) ≤ a1)) → (vp_in a1 3000 ∧ (wc_fg_letterAt_31 post σ (c_fg_text σ a1.toNatClampNeg))))))))
set_option maxRecDepth 20000 in
theorem kc_fg_letterAt {l : Launch} {D : va_G} {G : gAd} {post : CS → Int32 → Prop} {σ : CS} {a1 : Int32} (h : wc_fg_letterAt post σ a1) : cMet l D G yX1_letterAt cX1_letterAt 3 (some .int) 1 [.ref (G.1 300), .int a1] σ (pI post) := by
  unfold wc_fg_letterAt at h
  refine c_enter (own := RX1) (by decide +kernel) rfl [(0, .ref (G.1 300)), (1, .int a1)] rfl (Nat.le_of_ble_eq_true rfl) ?_
  intro E hE hm hF
  have hN := hm.2.2.2.2.2.2.1
  refine r_iload_n hE 1 dX1_letterAt_g0.1 rfl rfl ?_
  refine r_if_lt hE 30 dX1_letterAt_g0.2.1 (by decide) h (fun h => ?_) (fun h => ?_)
  · refine r_pick [] rfl ?_
    exact kc_fg_letterAt_30 hE hm hF _ h
  · refine r_iload_n hE 1 dX1_letterAt_g0.2.2.1 rfl rfl ?_
    refine r_aload_n hE 0 dX1_letterAt_g0.2.2.2.1 rfl rfl ?_
    refine cg_fg_length hE hm fk_X1_15 dX1_letterAt_g0.2.2.2.2.1 ?_
    refine r_icmp_ge hE 30 dX1_letterAt_g0.2.2.2.2.2.1 (by decide) h (fun h => ?_) (fun h => ?_)
    · refine r_pick [] rfl ?_
      exact kc_fg_letterAt_30 hE hm hF _ h
    · refine r_iload_n hE 1 dX1_letterAt_g0.2.2.2.2.2.2.1 rfl rfl ?_
      refine r_aload_n hE 0 dX1_letterAt_g0.2.2.2.2.2.2.2.1 rfl rfl ?_
      refine cg_fg_text hE hm fk_X1_9 dX1_letterAt_g0.2.2.2.2.2.2.2.2.1 ?_
      refine cn_fg_text hE hm dX1_letterAt_g0.2.2.2.2.2.2.2.2.2.1 ?_
      refine r_icmp_ge hE 30 dX1_letterAt_g0.2.2.2.2.2.2.2.2.2.2.1 (by decide) h (fun h => ?_) (fun h => ?_)
      · refine r_pick [] rfl ?_
        exact kc_fg_letterAt_30 hE hm hF _ h
      · refine r_aload_n hE 0 dX1_letterAt_g0.2.2.2.2.2.2.2.2.2.2.2.1 rfl rfl ?_
        refine cg_fg_text hE hm fk_X1_9 dX1_letterAt_g0.2.2.2.2.2.2.2.2.2.2.2.2.1 ?_
        refine r_iload_n hE 1 dX1_letterAt_g0.2.2.2.2.2.2.2.2.2.2.2.2.2.1 rfl rfl ?_
        obtain ⟨hi, h⟩ := h
        refine cl_fg_text hE hm dX1_letterAt_g0.2.2.2.2.2.2.2.2.2.2.2.2.2.2.1 hi ?_
        refine r_goto hE 31 dX1_letterAt_g0.2.2.2.2.2.2.2.2.2.2.2.2.2.2.2 (by decide) ?_
        refine r_pick [] rfl ?_
        exact kc_fg_letterAt_31 hE hm hF _ _ h
/-! pr_putWord -/
def wc_pr_putWord_2 (post : CS → Prop) : Nat → CS → Int32 → Int32 → Prop
  | 0, _, _, _ => False
  | n + 1, σ, v1, v2 => (((v1 + (10 : Int32)) ≤ v2) → (post σ)) ∧ ((¬ ((v1 + (10 : Int32)) ≤ v2)) → (c_pr_figure σ = 300 ∧ (wc_fg_letterAt (fun (s1 : CS) (r2 : Int32) => ((r2 = (0 : Int32)) → (post s1)) ∧ ((¬ (r2 = (0 : Int32))) → (c_pr_figure s1 = 300 ∧ (wc_fg_letterAt (fun (s3 : CS) (r4 : Int32) => wc_ou_put (fun (s5 : CS) => ∀ x6 : Int32, x6 = v2 + (1 : Int32) → wc_pr_putWord_2 post n s5 v1 x6) s3 ((r4.toUInt32 % 65536).toInt32)) s1 v2)))) σ v2)))
set_option maxRecDepth 20000 in
theorem kc_pr_putWord_2  {E : gEnv} {l : Launch} {D : va_G} {G : gAd} {post : CS → Prop} (hE : gOK E cX4_putWord RX4 none 2) (hm : cOK E l D G (pV post) 3) (hF : gFin E) : ∀ (n0 : Nat) (σ : CS) (v1 : Int32) (v2 : Int32), wc_pr_putWord_2 post n0 σ v1 v2 → GW E (cW G σ) 2 [(0, .ref (G.1 700)), (1, .int v1), (2, .int v2)] [] := by
  intro n0
  induction n0 with
  | zero => intro σ v1 v2 h; exact h.elim
  | succ n0 ih =>
    intro σ v1 v2 h
    rw [wc_pr_putWord_2] at h
    have hN := hm.2.2.2.2.2.2.1
    refine r_iload_n hE 2 dX4_putWord_g0.2.2.1 rfl rfl ?_
    refine r_iload_n hE 1 dX4_putWord_g0.2.2.2.1 rfl rfl ?_
    refine r_bipush (v := (10 : Int32)) hE dX4_putWord_g0.2.2.2.2.1 (by decide) ?_
    refine r_iadd hE dX4_putWord_g0.2.2.2.2.2.1 ?_
    refine r_icmp_ge hE 43 dX4_putWord_g0.2.2.2.2.2.2.1 (by decide) h (fun h => ?_) (fun h => ?_)
    · exact c_vret hE hm hF dX4_putWord_g1.2.2.2.2.2.2 h
    · refine r_aload_n hE 0 dX4_putWord_g0.2.2.2.2.2.2.2.1 rfl rfl ?_
      obtain ⟨hj, h⟩ := h
      refine cg_pr_figure hE hm fk_X4_26 dX4_putWord_g0.2.2.2.2.2.2.2.2.1 hj ?_
      refine r_iload_n hE 2 dX4_putWord_g0.2.2.2.2.2.2.2.2.2.1 rfl rfl ?_
      refine c_callVi hE hm [.int v2] [] ck_X4_88 (cr_fg hm rfl) (kc_fg_letterAt h) (by decide) rfl rfl (Nat.le_of_ble_eq_true rfl) dX4_putWord_g0.2.2.2.2.2.2.2.2.2.2.1 (fun s1 r2 h => ?_)
      refine r_if_eq hE 43 dX4_putWord_g0.2.2.2.2.2.2.2.2.2.2.2.1 (by decide) h (fun h => ?_) (fun h => ?_)
      · exact c_vret hE hm hF dX4_putWord_g1.2.2.2.2.2.2 h
      · refine r_aload_n hE 0 dX4_putWord_g0.2.2.2.2.2.2.2.2.2.2.2.2.1 rfl rfl ?_
        refine cg_pr_out hE hm fk_X4_30 dX4_putWord_g0.2.2.2.2.2.2.2.2.2.2.2.2.2.1 ?_
        refine r_aload_n hE 0 dX4_putWord_g0.2.2.2.2.2.2.2.2.2.2.2.2.2.2.1 rfl rfl ?_
        obtain ⟨hj, h⟩ := h
        refine cg_pr_figure hE hm fk_X4_26 dX4_putWord_g0.2.2.2.2.2.2.2.2.2.2.2.2.2.2.2 hj ?_
        refine r_iload_n hE 2 dX4_putWord_g1.1 rfl rfl ?_
        refine c_callVi hE hm [.int v2] [.ref (G.1 500)] ck_X4_88 (cr_fg hm rfl) (kc_fg_letterAt h) (by decide) rfl rfl (Nat.le_of_ble_eq_true rfl) dX4_putWord_g1.2.1 (fun s3 r4 h => ?_)
        refine r_i2c hE dX4_putWord_g1.2.2.1 ?_
        refine c_callVv hE hm [.int ((r4.toUInt32 % 65536).toInt32)] [] ck_X4_73 (cr_ou hm rfl) (kc_ou_put h) (by decide) rfl rfl (Nat.le_of_ble_eq_true rfl) dX4_putWord_g1.2.2.2.1 (fun s5 h => ?_)
        obtain ⟨x6, ex6⟩ : ∃ z : Int32, z = v2 + (1 : Int32) := ⟨_, rfl⟩
        have h := h x6 ex6
        refine r_iinc (v := x6) hE [(2, .int x6), (0, .ref (G.1 700)), (1, .int v1)] 2 dX4_putWord_g1.2.2.2.2.1 rfl (by rw [ex6]; rfl) hN (by decide) rfl ?_
        refine r_goto hE 2 dX4_putWord_g1.2.2.2.2.2.1 (by decide) ?_
        refine r_pick [1, 2, 0] rfl ?_
        exact ih _ _ _ h
def wc_pr_putWord (post : CS → Prop) (σ : CS) (a1 : Int32) : Prop := ∃ k : Nat, wc_pr_putWord_2 post k σ a1 a1
set_option maxRecDepth 20000 in
theorem kc_pr_putWord {l : Launch} {D : va_G} {G : gAd} {post : CS → Prop} {σ : CS} {a1 : Int32} (h : wc_pr_putWord post σ a1) : cMet l D G yX4_putWord cX4_putWord 3 none 2 [.ref (G.1 700), .int a1] σ (pV post) := by
  unfold wc_pr_putWord at h
  refine c_enter (own := RX4) (by decide +kernel) rfl [(0, .ref (G.1 700)), (1, .int a1)] rfl (Nat.le_of_ble_eq_true rfl) ?_
  intro E hE hm hF
  have hN := hm.2.2.2.2.2.2.1
  refine r_iload_n hE 1 dX4_putWord_g0.1 rfl rfl ?_
  refine r_istore_n hE [(2, .int a1), (0, .ref (G.1 700)), (1, .int a1)] dX4_putWord_g0.2.1 rfl hN (by decide) rfl ?_
  refine r_pick [1, 2, 0] rfl ?_
  obtain ⟨k, h⟩ := h
  exact kc_pr_putWord_2 hE hm hF k _ _ _ h
/-! pr_begin -/
def wc_pr_begin_221 (post : CS → Prop) (σ : CS) (v1 : Int32) : Prop := c_pr_figure σ = 300 ∧ (wc_fg_atOf (fun (s1 : CS) (r2 : Int32) => wc_pr_putWord (fun (s3 : CS) => wc_ou_put (fun (s4 : CS) => post s4) s3 (40 : Int32)) s1 r2) σ v1)
set_option maxRecDepth 20000 in
theorem kc_pr_begin_221  {E : gEnv} {l : Launch} {D : va_G} {G : gAd} {post : CS → Prop} (hE : gOK E cX4_begin RX4 none 3) (hm : cOK E l D G (pV post) 3) (hF : gFin E) (σ : CS) (v1 : Int32) (h : wc_pr_begin_221 post σ v1) : GW E (cW G σ) 221 [(0, .ref (G.1 700)), (1, .int v1)] [] := by
  unfold wc_pr_begin_221 at h
  have hN := hm.2.2.2.2.2.2.1
  refine r_aload_n hE 0 dX4_begin_g5.2.2.2.2.2.2.2.2.2.2.2.2.1 rfl rfl ?_
  refine r_aload_n hE 0 dX4_begin_g5.2.2.2.2.2.2.2.2.2.2.2.2.2.1 rfl rfl ?_
  obtain ⟨hj, h⟩ := h
  refine cg_pr_figure hE hm fk_X4_26 dX4_begin_g5.2.2.2.2.2.2.2.2.2.2.2.2.2.2.1 hj ?_
  refine r_iload_n hE 1 dX4_begin_g5.2.2.2.2.2.2.2.2.2.2.2.2.2.2.2 rfl rfl ?_
  refine c_callVi hE hm [.int v1] [.ref (G.1 700)] ck_X4_105 (cr_fg hm rfl) (kc_fg_atOf h) (by decide) rfl rfl (Nat.le_of_ble_eq_true rfl) dX4_begin_g6.1 (fun s1 r2 h => ?_)
  refine c_callVv hE hm [.int r2] [] ck_X4_70 (cr_pr hm rfl) (kc_pr_putWord h) (by decide) rfl rfl (Nat.le_of_ble_eq_true rfl) dX4_begin_g6.2.1 (fun s3 h => ?_)
  refine r_aload_n hE 0 dX4_begin_g6.2.2.1 rfl rfl ?_
  refine cg_pr_out hE hm fk_X4_30 dX4_begin_g6.2.2.2.1 ?_
  refine r_bipush (v := (40 : Int32)) hE dX4_begin_g6.2.2.2.2.1 (by decide) ?_
  refine c_callVv hE hm [.int (40 : Int32)] [] ck_X4_73 (cr_ou hm rfl) (kc_ou_put h) (by decide) rfl rfl (Nat.le_of_ble_eq_true rfl) dX4_begin_g6.2.2.2.2.2.1 (fun s4 h => ?_)
  exact c_vret hE hm hF dX4_begin_g6.2.2.2.2.2.2 h
def wc_pr_begin_99 (post : CS → Prop) (σ : CS) (v1 : Int32) : Prop := c_pr_figure σ = 300 ∧ (wc_fg_typeOf (fun (s5 : CS) (r6 : Int32) => (r6 = (7 : Int32) → (c_pr_figure s5 = 300 ∧ (wc_fg_dataOf (fun (s7 : CS) (r8 : Int32) => wc_ou_putWhole (fun (s9 : CS) => post s9) s7 (r8.toInt64)) s5 v1))) ∧ (¬ r6 = (7 : Int32) → ((r6 = (8 : Int32) → (c_pr_figure s5 = 300 ∧ (wc_fg_atOf (fun (s10 : CS) (r11 : Int32) => wc_pr_putWord (fun (s12 : CS) => post s12) s10 r11) s5 v1))) ∧ (¬ r6 = (8 : Int32) → ((r6 = (9 : Int32) → (c_pr_figure s5 = 300 ∧ (wc_fg_atOf (fun (s13 : CS) (r14 : Int32) => wc_pr_putWord (fun (s15 : CS) => wc_ou_put (fun (s16 : CS) => post s16) s15 (91 : Int32)) s13 r14) s5 v1))) ∧ (¬ r6 = (9 : Int32) → ((r6 = (10 : Int32) → (wc_pr_begin_221 post s5 v1)) ∧ (¬ r6 = (10 : Int32) → ((r6 = (11 : Int32) → (wc_pr_begin_221 post s5 v1)) ∧ (¬ r6 = (11 : Int32) → ((r6 = (12 : Int32) → (wc_ou_put (fun (s17 : CS) => post s17) s5 (45 : Int32))) ∧ (¬ r6 = (12 : Int32) → ((r6 = (13 : Int32) → (post s5)) ∧ (¬ r6 = (13 : Int32) → (wc_pr_begin_221 post s5 v1))))))))))))))) σ v1)
set_option maxRecDepth 20000 in
theorem kc_pr_begin_99  {E : gEnv} {l : Launch} {D : va_G} {G : gAd} {post : CS → Prop} (hE : gOK E cX4_begin RX4 none 3) (hm : cOK E l D G (pV post) 3) (hF : gFin E) (σ : CS) (v1 : Int32) (h : wc_pr_begin_99 post σ v1) : GW E (cW G σ) 99 [(0, .ref (G.1 700)), (1, .int v1)] [] := by
  unfold wc_pr_begin_99 at h
  have hN := hm.2.2.2.2.2.2.1
  refine r_aload_n hE 0 dX4_begin_g3.2.2.2.2.2.2.1 rfl rfl ?_
  obtain ⟨hj, h⟩ := h
  refine cg_pr_figure hE hm fk_X4_26 dX4_begin_g3.2.2.2.2.2.2.2.1 hj ?_
  refine r_iload_n hE 1 dX4_begin_g3.2.2.2.2.2.2.2.2.1 rfl rfl ?_
  refine c_callVi hE hm [.int v1] [] ck_X4_102 (cr_fg hm rfl) (kc_fg_typeOf h) (by decide) rfl rfl (Nat.le_of_ble_eq_true rfl) dX4_begin_g3.2.2.2.2.2.2.2.2.2.1 (fun s5 r6 h => ?_)
  refine r_case (7 : Int32) h (fun q0 h => ?_) (fun q0 h => ?_)
  · refine r_tableAt (off := 41) hE (7 : Int32) 148 dX4_begin_g3.2.2.2.2.2.2.2.2.2.2.1 q0 (by decide) (by decide) (by decide) (by decide) ?_
    refine r_aload_n hE 0 dX4_begin_g3.2.2.2.2.2.2.2.2.2.2.2.1 rfl rfl ?_
    refine cg_pr_out hE hm fk_X4_30 dX4_begin_g3.2.2.2.2.2.2.2.2.2.2.2.2.1 ?_
    refine r_aload_n hE 0 dX4_begin_g3.2.2.2.2.2.2.2.2.2.2.2.2.2.1 rfl rfl ?_
    obtain ⟨hj, h⟩ := h
    refine cg_pr_figure hE hm fk_X4_26 dX4_begin_g3.2.2.2.2.2.2.2.2.2.2.2.2.2.2.1 hj ?_
    refine r_iload_n hE 1 dX4_begin_g3.2.2.2.2.2.2.2.2.2.2.2.2.2.2.2 rfl rfl ?_
    refine c_callVi hE hm [.int v1] [.ref (G.1 500)] ck_X4_142 (cr_fg hm rfl) (kc_fg_dataOf h) (by decide) rfl rfl (Nat.le_of_ble_eq_true rfl) dX4_begin_g4.1 (fun s7 r8 h => ?_)
    refine r_i2l hE dX4_begin_g4.2.1 ?_
    refine c_callVv hE hm [.long (r8.toInt64)] [] ck_X4_172 (cr_ou hm rfl) (kc_ou_putWhole h) (by decide) rfl rfl (Nat.le_of_ble_eq_true rfl) dX4_begin_g4.2.2.1 (fun s9 h => ?_)
    refine r_goto hE 242 dX4_begin_g4.2.2.2.1 (by decide) ?_
    exact c_vret hE hm hF dX4_begin_g6.2.2.2.2.2.2 h
  · refine r_case (8 : Int32) h (fun q1 h => ?_) (fun q1 h => ?_)
    · refine r_tableAt (off := 75) hE (8 : Int32) 182 dX4_begin_g3.2.2.2.2.2.2.2.2.2.2.1 q1 (by decide) (by decide) (by decide) (by decide) ?_
      refine r_aload_n hE 0 dX4_begin_g4.2.2.2.2.2.2.2.2.2.2.1 rfl rfl ?_
      refine r_aload_n hE 0 dX4_begin_g4.2.2.2.2.2.2.2.2.2.2.2.1 rfl rfl ?_
      obtain ⟨hj, h⟩ := h
      refine cg_pr_figure hE hm fk_X4_26 dX4_begin_g4.2.2.2.2.2.2.2.2.2.2.2.2.1 hj ?_
      refine r_iload_n hE 1 dX4_begin_g4.2.2.2.2.2.2.2.2.2.2.2.2.2.1 rfl rfl ?_
      refine c_callVi hE hm [.int v1] [.ref (G.1 700)] ck_X4_105 (cr_fg hm rfl) (kc_fg_atOf h) (by decide) rfl rfl (Nat.le_of_ble_eq_true rfl) dX4_begin_g4.2.2.2.2.2.2.2.2.2.2.2.2.2.2.1 (fun s10 r11 h => ?_)
      refine c_callVv hE hm [.int r11] [] ck_X4_70 (cr_pr hm rfl) (kc_pr_putWord h) (by decide) rfl rfl (Nat.le_of_ble_eq_true rfl) dX4_begin_g4.2.2.2.2.2.2.2.2.2.2.2.2.2.2.2 (fun s12 h => ?_)
      refine r_goto hE 242 dX4_begin_g5.1 (by decide) ?_
      exact c_vret hE hm hF dX4_begin_g6.2.2.2.2.2.2 h
    · refine r_case (9 : Int32) h (fun q2 h => ?_) (fun q2 h => ?_)
      · refine r_tableAt (off := 90) hE (9 : Int32) 197 dX4_begin_g3.2.2.2.2.2.2.2.2.2.2.1 q2 (by decide) (by decide) (by decide) (by decide) ?_
        refine r_aload_n hE 0 dX4_begin_g5.2.1 rfl rfl ?_
        refine r_aload_n hE 0 dX4_begin_g5.2.2.1 rfl rfl ?_
        obtain ⟨hj, h⟩ := h
        refine cg_pr_figure hE hm fk_X4_26 dX4_begin_g5.2.2.2.1 hj ?_
        refine r_iload_n hE 1 dX4_begin_g5.2.2.2.2.1 rfl rfl ?_
        refine c_callVi hE hm [.int v1] [.ref (G.1 700)] ck_X4_105 (cr_fg hm rfl) (kc_fg_atOf h) (by decide) rfl rfl (Nat.le_of_ble_eq_true rfl) dX4_begin_g5.2.2.2.2.2.1 (fun s13 r14 h => ?_)
        refine c_callVv hE hm [.int r14] [] ck_X4_70 (cr_pr hm rfl) (kc_pr_putWord h) (by decide) rfl rfl (Nat.le_of_ble_eq_true rfl) dX4_begin_g5.2.2.2.2.2.2.1 (fun s15 h => ?_)
        refine r_aload_n hE 0 dX4_begin_g5.2.2.2.2.2.2.2.1 rfl rfl ?_
        refine cg_pr_out hE hm fk_X4_30 dX4_begin_g5.2.2.2.2.2.2.2.2.1 ?_
        refine r_bipush (v := (91 : Int32)) hE dX4_begin_g5.2.2.2.2.2.2.2.2.2.1 (by decide) ?_
        refine c_callVv hE hm [.int (91 : Int32)] [] ck_X4_73 (cr_ou hm rfl) (kc_ou_put h) (by decide) rfl rfl (Nat.le_of_ble_eq_true rfl) dX4_begin_g5.2.2.2.2.2.2.2.2.2.2.1 (fun s16 h => ?_)
        refine r_goto hE 242 dX4_begin_g5.2.2.2.2.2.2.2.2.2.2.2.1 (by decide) ?_
        exact c_vret hE hm hF dX4_begin_g6.2.2.2.2.2.2 h
      · refine r_case (10 : Int32) h (fun q3 h => ?_) (fun q3 h => ?_)
        · refine r_tableAt (off := 114) hE (10 : Int32) 221 dX4_begin_g3.2.2.2.2.2.2.2.2.2.2.1 q3 (by decide) (by decide) (by decide) (by decide) ?_
          exact kc_pr_begin_221 hE hm hF _ _ h
        · refine r_case (11 : Int32) h (fun q4 h => ?_) (fun q4 h => ?_)
          · refine r_tableAt (off := 114) hE (11 : Int32) 221 dX4_begin_g3.2.2.2.2.2.2.2.2.2.2.1 q4 (by decide) (by decide) (by decide) (by decide) ?_
            exact kc_pr_begin_221 hE hm hF _ _ h
          · refine r_case (12 : Int32) h (fun q5 h => ?_) (fun q5 h => ?_)
            · refine r_tableAt (off := 60) hE (12 : Int32) 167 dX4_begin_g3.2.2.2.2.2.2.2.2.2.2.1 q5 (by decide) (by decide) (by decide) (by decide) ?_
              refine r_aload_n hE 0 dX4_begin_g4.2.2.2.2.1 rfl rfl ?_
              refine cg_pr_out hE hm fk_X4_30 dX4_begin_g4.2.2.2.2.2.1 ?_
              refine r_bipush (v := (45 : Int32)) hE dX4_begin_g4.2.2.2.2.2.2.1 (by decide) ?_
              refine c_callVv hE hm [.int (45 : Int32)] [] ck_X4_73 (cr_ou hm rfl) (kc_ou_put h) (by decide) rfl rfl (Nat.le_of_ble_eq_true rfl) dX4_begin_g4.2.2.2.2.2.2.2.1 (fun s17 h => ?_)
              refine r_goto hE 242 dX4_begin_g4.2.2.2.2.2.2.2.2.1 (by decide) ?_
              exact c_vret hE hm hF dX4_begin_g6.2.2.2.2.2.2 h
            · refine r_case (13 : Int32) h (fun q6 h => ?_) (fun q6 h => ?_)
              · refine r_tableAt (off := 72) hE (13 : Int32) 179 dX4_begin_g3.2.2.2.2.2.2.2.2.2.2.1 q6 (by decide) (by decide) (by decide) (by decide) ?_
                refine r_goto hE 242 dX4_begin_g4.2.2.2.2.2.2.2.2.2.1 (by decide) ?_
                exact c_vret hE hm hF dX4_begin_g6.2.2.2.2.2.2 h
              · have n0 := lv_neT q0 (show (7 : Int32).toInt = 7 by decide)
                have n1 := lv_neT q1 (show (8 : Int32).toInt = 8 by decide)
                have n2 := lv_neT q2 (show (9 : Int32).toInt = 9 by decide)
                have n3 := lv_neT q3 (show (10 : Int32).toInt = 10 by decide)
                have n4 := lv_neT q4 (show (11 : Int32).toInt = 11 by decide)
                have n5 := lv_neT q5 (show (12 : Int32).toInt = 12 by decide)
                have n6 := lv_neT q6 (show (13 : Int32).toInt = 13 by decide)
                refine r_tableOut hE 221 dX4_begin_g3.2.2.2.2.2.2.2.2.2.2.1 (by omega) (by decide) ?_
                exact kc_pr_begin_221 hE hm hF _ _ h
def wc_pr_begin_77 (post : CS → Prop) (σ : CS) (v1 : Int32) (t1 : Int32) (t2 : Int32) : Prop := vp_in t1 250 ∧ (isB t2 ∧ (∀ s18 : CS, s18 = c_pr_wrapped_s σ t1.toNatClampNeg t2 → vp_in (c_pr_top s18) 250 ∧ ((((c_pr_wrapped s18 (c_pr_top s18).toNatClampNeg) = (0 : Int32)) → (wc_pr_begin_99 post s18 v1)) ∧ ((¬ ((c_pr_wrapped s18 (c_pr_top s18).toNatClampNeg) = (0 : Int32))) → (wc_ou_put (fun (s19 : CS) => wc_pr_begin_99 post s19 v1) s18 (40 : Int32))))))
set_option maxRecDepth 20000 in
theorem kc_pr_begin_77  {E : gEnv} {l : Launch} {D : va_G} {G : gAd} {post : CS → Prop} (hE : gOK E cX4_begin RX4 none 3) (hm : cOK E l D G (pV post) 3) (hF : gFin E) (σ : CS) (v1 : Int32) (t1 : Int32) (t2 : Int32) (h : wc_pr_begin_77 post σ v1 t1 t2) : GW E (cW G σ) 77 [(0, .ref (G.1 700)), (1, .int v1)] [.int t2, .int t1, .ref (G.1 705)] := by
  unfold wc_pr_begin_77 at h
  have hN := hm.2.2.2.2.2.2.1
  obtain ⟨hi, h⟩ := h
  obtain ⟨hb, h⟩ := h
  refine cs_pr_wrapped hE hm dX4_begin_g2.2.2.2.2.2.2.2.2.2.2.2.1 hi hb h (fun s18 h => ?_)
  refine r_aload_n hE 0 dX4_begin_g2.2.2.2.2.2.2.2.2.2.2.2.2.1 rfl rfl ?_
  refine cg_pr_wrapped hE hm fk_X4_18 dX4_begin_g2.2.2.2.2.2.2.2.2.2.2.2.2.2.1 ?_
  refine r_aload_n hE 0 dX4_begin_g2.2.2.2.2.2.2.2.2.2.2.2.2.2.2.1 rfl rfl ?_
  refine cg_pr_top hE hm fk_X4_22 dX4_begin_g2.2.2.2.2.2.2.2.2.2.2.2.2.2.2.2 ?_
  obtain ⟨hi, h⟩ := h
  refine cl_pr_wrapped hE hm dX4_begin_g3.1 hi ?_
  refine r_if_eq hE 99 dX4_begin_g3.2.1 (by decide) h (fun h => ?_) (fun h => ?_)
  · exact kc_pr_begin_99 hE hm hF _ _ h
  · refine r_aload_n hE 0 dX4_begin_g3.2.2.1 rfl rfl ?_
    refine cg_pr_out hE hm fk_X4_30 dX4_begin_g3.2.2.2.1 ?_
    refine r_bipush (v := (40 : Int32)) hE dX4_begin_g3.2.2.2.2.1 (by decide) ?_
    refine c_callVv hE hm [.int (40 : Int32)] [] ck_X4_73 (cr_ou hm rfl) (kc_ou_put h) (by decide) rfl rfl (Nat.le_of_ble_eq_true rfl) dX4_begin_g3.2.2.2.2.2.1 (fun s19 h => ?_)
    exact kc_pr_begin_99 hE hm hF _ _ h
def wc_pr_begin (post : CS → Prop) (σ : CS) (a1 : Int32) (a2 : Int32) : Prop := wc_SX12_inside (fun (s20 : CS) (r21 : Int32) => ((¬ (r21 = (0 : Int32))) → (∀ s22 : CS, s22 = c_pr_top_s s20 ((c_pr_top s20) + (1 : Int32)) → vp_in (c_pr_top s22) 250 ∧ (∀ s23 : CS, s23 = c_pr_node_s s22 (c_pr_top s22).toNatClampNeg a1 → c_pr_figure s23 = 300 ∧ (wc_fg_firstOf (fun (s24 : CS) (r25 : Int32) => vp_in (c_pr_top s23) 250 ∧ (∀ s26 : CS, s26 = c_pr_cursor_s s24 (c_pr_top s23).toNatClampNeg r25 → wc_pr_levelOf (fun (s27 : CS) (r28 : Int32) => ((a2 ≤ r28) → (wc_pr_begin_77 post s27 a1 (c_pr_top s26) (0 : Int32))) ∧ ((¬ (a2 ≤ r28)) → (wc_pr_begin_77 post s27 a1 (c_pr_top s26) (1 : Int32)))) s26 a1)) s23 a1)))) ∧ ((r21 = (0 : Int32)) → (post s20))) σ ((c_pr_top σ) + (1 : Int32)) (250 : Int32)
set_option maxRecDepth 20000 in
theorem kc_pr_begin {l : Launch} {D : va_G} {G : gAd} {post : CS → Prop} {σ : CS} {a1 : Int32} {a2 : Int32} (h : wc_pr_begin post σ a1 a2) : cMet l D G yX4_begin cX4_begin 3 none 3 [.ref (G.1 700), .int a1, .int a2] σ (pV post) := by
  unfold wc_pr_begin at h
  refine c_enter (own := RX4) (by decide +kernel) rfl [(0, .ref (G.1 700)), (1, .int a1), (2, .int a2)] rfl (Nat.le_of_ble_eq_true rfl) ?_
  intro E hE hm hF
  have hN := hm.2.2.2.2.2.2.1
  refine r_aload_n hE 0 dX4_begin_g0.1 rfl rfl ?_
  refine cg_pr_top hE hm fk_X4_22 dX4_begin_g0.2.1 ?_
  refine r_iconst (v := (1 : Int32)) hE dX4_begin_g0.2.2.1 (by decide) ?_
  refine r_iadd hE dX4_begin_g0.2.2.2.1 ?_
  refine r_aload_n hE 0 dX4_begin_g0.2.2.2.2.1 rfl rfl ?_
  refine cg_pr_node hE hm fk_X4_9 dX4_begin_g0.2.2.2.2.2.1 ?_
  refine cn_pr_node hE hm dX4_begin_g0.2.2.2.2.2.2.1 ?_
  refine c_callSNi hE hm [.int ((c_pr_top σ) + (1 : Int32)), .int (250 : Int32)] [] ck_X4_154 cw_X4_154 (kc_SX12_inside h) (by decide) rfl rfl (Nat.le_of_ble_eq_true rfl) dX4_begin_g0.2.2.2.2.2.2.2.1 (fun s20 r21 h => ?_)
  refine r_if_ne hE 18 dX4_begin_g0.2.2.2.2.2.2.2.2.1 (by decide) h (fun h => ?_) (fun h => ?_)
  · refine r_aload_n hE 0 dX4_begin_g0.2.2.2.2.2.2.2.2.2.2.1 rfl rfl ?_
    refine r_dup hE dX4_begin_g0.2.2.2.2.2.2.2.2.2.2.2.1 rfl ?_
    refine cg_pr_top hE hm fk_X4_22 dX4_begin_g0.2.2.2.2.2.2.2.2.2.2.2.2.1 ?_
    refine r_iconst (v := (1 : Int32)) hE dX4_begin_g0.2.2.2.2.2.2.2.2.2.2.2.2.2.1 (by decide) ?_
    refine r_iadd hE dX4_begin_g0.2.2.2.2.2.2.2.2.2.2.2.2.2.2.1 ?_
    refine cp_pr_top hE hm fk_X4_22 dX4_begin_g0.2.2.2.2.2.2.2.2.2.2.2.2.2.2.2 h (fun s22 h => ?_)
    refine r_aload_n hE 0 dX4_begin_g1.1 rfl rfl ?_
    refine cg_pr_node hE hm fk_X4_9 dX4_begin_g1.2.1 ?_
    refine r_aload_n hE 0 dX4_begin_g1.2.2.1 rfl rfl ?_
    refine cg_pr_top hE hm fk_X4_22 dX4_begin_g1.2.2.2.1 ?_
    refine r_iload_n hE 1 dX4_begin_g1.2.2.2.2.1 rfl rfl ?_
    obtain ⟨hi, h⟩ := h
    refine cs_pr_node hE hm dX4_begin_g1.2.2.2.2.2.1 hi h (fun s23 h => ?_)
    refine r_aload_n hE 0 dX4_begin_g1.2.2.2.2.2.2.1 rfl rfl ?_
    refine cg_pr_cursor hE hm fk_X4_15 dX4_begin_g1.2.2.2.2.2.2.2.1 ?_
    refine r_aload_n hE 0 dX4_begin_g1.2.2.2.2.2.2.2.2.1 rfl rfl ?_
    refine cg_pr_top hE hm fk_X4_22 dX4_begin_g1.2.2.2.2.2.2.2.2.2.1 ?_
    refine r_aload_n hE 0 dX4_begin_g1.2.2.2.2.2.2.2.2.2.2.1 rfl rfl ?_
    obtain ⟨hj, h⟩ := h
    refine cg_pr_figure hE hm fk_X4_26 dX4_begin_g1.2.2.2.2.2.2.2.2.2.2.2.1 hj ?_
    refine r_iload_n hE 1 dX4_begin_g1.2.2.2.2.2.2.2.2.2.2.2.2.1 rfl rfl ?_
    refine c_callVi hE hm [.int a1] [.int (c_pr_top s23), .ref (G.1 704)] ck_X4_110 (cr_fg hm rfl) (kc_fg_firstOf h) (by decide) rfl rfl (Nat.le_of_ble_eq_true rfl) dX4_begin_g1.2.2.2.2.2.2.2.2.2.2.2.2.2.1 (fun s24 r25 h => ?_)
    obtain ⟨hi, h⟩ := h
    refine cs_pr_cursor hE hm dX4_begin_g1.2.2.2.2.2.2.2.2.2.2.2.2.2.2.1 hi h (fun s26 h => ?_)
    refine r_aload_n hE 0 dX4_begin_g1.2.2.2.2.2.2.2.2.2.2.2.2.2.2.2 rfl rfl ?_
    refine cg_pr_wrapped hE hm fk_X4_18 dX4_begin_g2.1 ?_
    refine r_aload_n hE 0 dX4_begin_g2.2.1 rfl rfl ?_
    refine cg_pr_top hE hm fk_X4_22 dX4_begin_g2.2.2.1 ?_
    refine r_aload_n hE 0 dX4_begin_g2.2.2.2.1 rfl rfl ?_
    refine r_iload_n hE 1 dX4_begin_g2.2.2.2.2.1 rfl rfl ?_
    refine c_callVi hE hm [.int a1] [.int (c_pr_top s26), .ref (G.1 705)] ck_X4_169 (cr_pr hm rfl) (kc_pr_levelOf h) (by decide) rfl rfl (Nat.le_of_ble_eq_true rfl) dX4_begin_g2.2.2.2.2.2.1 (fun s27 r28 h => ?_)
    refine r_iload_n hE 2 dX4_begin_g2.2.2.2.2.2.2.1 rfl rfl ?_
    refine r_icmp_ge hE 76 dX4_begin_g2.2.2.2.2.2.2.2.1 (by decide) h (fun h => ?_) (fun h => ?_)
    · refine r_iconst (v := (0 : Int32)) hE dX4_begin_g2.2.2.2.2.2.2.2.2.2.2.1 (by decide) ?_
      refine r_pick [0, 1] rfl ?_
      exact kc_pr_begin_77 hE hm hF _ _ _ _ h
    · refine r_iconst (v := (1 : Int32)) hE dX4_begin_g2.2.2.2.2.2.2.2.2.1 (by decide) ?_
      refine r_goto hE 77 dX4_begin_g2.2.2.2.2.2.2.2.2.2.1 (by decide) ?_
      refine r_pick [0, 1] rfl ?_
      exact kc_pr_begin_77 hE hm hF _ _ _ _ h
  · exact c_vret hE hm hF dX4_begin_g0.2.2.2.2.2.2.2.2.2.1 h
/-! pr_end -/
def wc_pr_end_40 (post : CS → Prop) (σ : CS) : Prop := wc_ou_put (fun (s1 : CS) => post s1) σ (41 : Int32)
set_option maxRecDepth 20000 in
theorem kc_pr_end_40  {E : gEnv} {l : Launch} {D : va_G} {G : gAd} {post : CS → Prop} (hE : gOK E cX4_end RX4 none 2) (hm : cOK E l D G (pV post) 4) (hF : gFin E) (σ : CS) (h : wc_pr_end_40 post σ) : GW E (cW G σ) 40 [(0, .ref (G.1 700))] [] := by
  unfold wc_pr_end_40 at h
  have hN := hm.2.2.2.2.2.2.1
  refine r_aload_n hE 0 dX4_end_g1.2.2.2.2.1 rfl rfl ?_
  refine cg_pr_out hE hm fk_X4_30 dX4_end_g1.2.2.2.2.2.1 ?_
  refine r_bipush (v := (41 : Int32)) hE dX4_end_g1.2.2.2.2.2.2.1 (by decide) ?_
  refine c_callVv hE hm [.int (41 : Int32)] [] ck_X4_73 (cr_ou hm rfl) (kc_ou_put h) (by decide) rfl rfl (Nat.le_of_ble_eq_true rfl) dX4_end_g1.2.2.2.2.2.2.2.1 (fun s1 h => ?_)
  exact c_vret hE hm hF dX4_end_g1.2.2.2.2.2.2.2.2 h
def wc_pr_end_24 (post : CS → Prop) (σ : CS) (v2 : Int32) (v3 : Int32) : Prop := ((v3 = (10 : Int32)) → (wc_pr_end_40 post σ)) ∧ ((¬ (v3 = (10 : Int32))) → (((v3 = (11 : Int32)) → (wc_pr_end_40 post σ)) ∧ ((¬ (v3 = (11 : Int32))) → (((v2 = (0 : Int32)) → (post σ)) ∧ ((¬ (v2 = (0 : Int32))) → (wc_pr_end_40 post σ))))))
set_option maxRecDepth 20000 in
theorem kc_pr_end_24  {E : gEnv} {l : Launch} {D : va_G} {G : gAd} {post : CS → Prop} (hE : gOK E cX4_end RX4 none 2) (hm : cOK E l D G (pV post) 4) (hF : gFin E) (σ : CS) (v2 : Int32) (v3 : Int32) (h : wc_pr_end_24 post σ v2 v3) : GW E (cW G σ) 24 [(0, .ref (G.1 700)), (2, .int v2), (3, .int v3)] [] := by
  unfold wc_pr_end_24 at h
  have hN := hm.2.2.2.2.2.2.1
  refine r_iload_n hE 2 dX4_end_g0.2.2.2.2.2.2.2.2.2.2.2.2.1 rfl rfl ?_
  refine r_bipush (v := (10 : Int32)) hE dX4_end_g0.2.2.2.2.2.2.2.2.2.2.2.2.2.1 (by decide) ?_
  refine r_icmp_eq hE 40 dX4_end_g0.2.2.2.2.2.2.2.2.2.2.2.2.2.2.1 (by decide) h (fun h => ?_) (fun h => ?_)
  · refine r_pick [0] rfl ?_
    exact kc_pr_end_40 hE hm hF _ h
  · refine r_iload_n hE 2 dX4_end_g0.2.2.2.2.2.2.2.2.2.2.2.2.2.2.2 rfl rfl ?_
    refine r_bipush (v := (11 : Int32)) hE dX4_end_g1.1 (by decide) ?_
    refine r_icmp_eq hE 40 dX4_end_g1.2.1 (by decide) h (fun h => ?_) (fun h => ?_)
    · refine r_pick [0] rfl ?_
      exact kc_pr_end_40 hE hm hF _ h
    · refine r_iload_n hE 1 dX4_end_g1.2.2.1 rfl rfl ?_
      refine r_if_eq hE 49 dX4_end_g1.2.2.2.1 (by decide) h (fun h => ?_) (fun h => ?_)
      · exact c_vret hE hm hF dX4_end_g1.2.2.2.2.2.2.2.2 h
      · refine r_pick [0] rfl ?_
        exact kc_pr_end_40 hE hm hF _ h
def wc_pr_end (post : CS → Prop) (σ : CS) (a1 : Int32) (a2 : Int32) : Prop := c_pr_figure σ = 300 ∧ (wc_fg_typeOf (fun (s2 : CS) (r3 : Int32) => ((¬ (r3 = (9 : Int32))) → (wc_pr_end_24 post s2 a2 r3)) ∧ ((r3 = (9 : Int32)) → (wc_ou_put (fun (s4 : CS) => wc_pr_end_24 post s4 a2 r3) s2 (93 : Int32)))) σ a1)
set_option maxRecDepth 20000 in
theorem kc_pr_end {l : Launch} {D : va_G} {G : gAd} {post : CS → Prop} {σ : CS} {a1 : Int32} {a2 : Int32} (h : wc_pr_end post σ a1 a2) : cMet l D G yX4_end cX4_end 4 none 2 [.ref (G.1 700), .int a1, .int a2] σ (pV post) := by
  unfold wc_pr_end at h
  refine c_enter (own := RX4) (by decide +kernel) rfl [(0, .ref (G.1 700)), (1, .int a1), (2, .int a2)] rfl (Nat.le_of_ble_eq_true rfl) ?_
  intro E hE hm hF
  have hN := hm.2.2.2.2.2.2.1
  refine r_aload_n hE 0 dX4_end_g0.1 rfl rfl ?_
  obtain ⟨hj, h⟩ := h
  refine cg_pr_figure hE hm fk_X4_26 dX4_end_g0.2.1 hj ?_
  refine r_iload_n hE 1 dX4_end_g0.2.2.1 rfl rfl ?_
  refine c_callVi hE hm [.int a1] [] ck_X4_102 (cr_fg hm rfl) (kc_fg_typeOf h) (by decide) rfl rfl (Nat.le_of_ble_eq_true rfl) dX4_end_g0.2.2.2.1 (fun s2 r3 h => ?_)
  refine r_istore_n hE [(3, .int r3), (0, .ref (G.1 700)), (1, .int a1), (2, .int a2)] dX4_end_g0.2.2.2.2.1 rfl hN (by decide) rfl ?_
  refine r_iload_n hE 0 dX4_end_g0.2.2.2.2.2.1 rfl rfl ?_
  refine r_bipush (v := (9 : Int32)) hE dX4_end_g0.2.2.2.2.2.2.1 (by decide) ?_
  refine r_icmp_ne hE 24 dX4_end_g0.2.2.2.2.2.2.2.1 (by decide) h (fun h => ?_) (fun h => ?_)
  · refine r_pick [1, 3, 0] rfl ?_
    exact kc_pr_end_24 hE hm hF _ _ _ h
  · refine r_aload_n hE 1 dX4_end_g0.2.2.2.2.2.2.2.2.1 rfl rfl ?_
    refine cg_pr_out hE hm fk_X4_30 dX4_end_g0.2.2.2.2.2.2.2.2.2.1 ?_
    refine r_bipush (v := (93 : Int32)) hE dX4_end_g0.2.2.2.2.2.2.2.2.2.2.1 (by decide) ?_
    refine c_callVv hE hm [.int (93 : Int32)] [] ck_X4_73 (cr_ou hm rfl) (kc_ou_put h) (by decide) rfl rfl (Nat.le_of_ble_eq_true rfl) dX4_end_g0.2.2.2.2.2.2.2.2.2.2.2.1 (fun s4 h => ?_)
    refine r_pick [1, 3, 0] rfl ?_
    exact kc_pr_end_24 hE hm hF _ _ _ h
/-! pr_putBetween -/
def wc_pr_putBetween (post : CS → Prop) (σ : CS) (a1 : Int32) : Prop := c_pr_figure σ = 300 ∧ (wc_fg_typeOf (fun (s1 : CS) (r2 : Int32) => ((¬ (r2 = (13 : Int32))) → (wc_ou_putText_s (fun (s3 : CS) => post s3) s1 9)) ∧ ((r2 = (13 : Int32)) → (wc_ou_put (fun (s4 : CS) => c_pr_figure s4 = 300 ∧ (wc_fg_dataOf (fun (s5 : CS) (r6 : Int32) => wc_ou_put (fun (s7 : CS) => wc_ou_put (fun (s8 : CS) => post s8) s7 (32 : Int32)) s5 ((r6.toUInt32 % 65536).toInt32)) s4 a1)) s1 (32 : Int32)))) σ a1)
set_option maxRecDepth 20000 in
theorem kc_pr_putBetween {l : Launch} {D : va_G} {G : gAd} {post : CS → Prop} {σ : CS} {a1 : Int32} (h : wc_pr_putBetween post σ a1) : cMet l D G yX4_putBetween cX4_putBetween 2 none 6 [.ref (G.1 700), .int a1] σ (pV post) := by
  unfold wc_pr_putBetween at h
  refine c_enter (own := RX4) (by decide +kernel) rfl [(0, .ref (G.1 700)), (1, .int a1)] rfl (Nat.le_of_ble_eq_true rfl) ?_
  intro E hE hm hF
  have hN := hm.2.2.2.2.2.2.1
  refine r_aload_n hE 0 dX4_putBetween_g0.1 rfl rfl ?_
  obtain ⟨hj, h⟩ := h
  refine cg_pr_figure hE hm fk_X4_26 dX4_putBetween_g0.2.1 hj ?_
  refine r_iload_n hE 1 dX4_putBetween_g0.2.2.1 rfl rfl ?_
  refine c_callVi hE hm [.int a1] [] ck_X4_102 (cr_fg hm rfl) (kc_fg_typeOf h) (by decide) rfl rfl (Nat.le_of_ble_eq_true rfl) dX4_putBetween_g0.2.2.2.1 (fun s1 r2 h => ?_)
  refine r_bipush (v := (13 : Int32)) hE dX4_putBetween_g0.2.2.2.2.1 (by decide) ?_
  refine r_icmp_ne hE 50 dX4_putBetween_g0.2.2.2.2.2.1 (by decide) h (fun h => ?_) (fun h => ?_)
  · refine r_aload_n hE 0 dX4_putBetween_g1.2.2.2.2.2.2.2.1 rfl rfl ?_
    refine cg_pr_out hE hm fk_X4_30 dX4_putBetween_g1.2.2.2.2.2.2.2.2.1 ?_
    refine ks_ldc (tx := ", ") (i := 9) hE hm (List.mem_of_getElem? (i := 9) rfl) dX4_putBetween_g1.2.2.2.2.2.2.2.2.2.1 ?_
    refine c_callVv hE hm [.ref (G.1 (5000 + 9))] [] ck_X4_58 (cr_ou hm rfl) (kc_ou_putText_s h) (by decide) rfl rfl (Nat.le_of_ble_eq_true rfl) dX4_putBetween_g1.2.2.2.2.2.2.2.2.2.2.1 (fun s3 h => ?_)
    exact c_vret hE hm hF dX4_putBetween_g1.2.2.2.2.2.2.2.2.2.2.2 h
  · refine r_aload_n hE 0 dX4_putBetween_g0.2.2.2.2.2.2.1 rfl rfl ?_
    refine cg_pr_out hE hm fk_X4_30 dX4_putBetween_g0.2.2.2.2.2.2.2.1 ?_
    refine r_bipush (v := (32 : Int32)) hE dX4_putBetween_g0.2.2.2.2.2.2.2.2.1 (by decide) ?_
    refine c_callVv hE hm [.int (32 : Int32)] [] ck_X4_73 (cr_ou hm rfl) (kc_ou_put h) (by decide) rfl rfl (Nat.le_of_ble_eq_true rfl) dX4_putBetween_g0.2.2.2.2.2.2.2.2.2.1 (fun s4 h => ?_)
    refine r_aload_n hE 0 dX4_putBetween_g0.2.2.2.2.2.2.2.2.2.2.1 rfl rfl ?_
    refine cg_pr_out hE hm fk_X4_30 dX4_putBetween_g0.2.2.2.2.2.2.2.2.2.2.2.1 ?_
    refine r_aload_n hE 0 dX4_putBetween_g0.2.2.2.2.2.2.2.2.2.2.2.2.1 rfl rfl ?_
    obtain ⟨hj, h⟩ := h
    refine cg_pr_figure hE hm fk_X4_26 dX4_putBetween_g0.2.2.2.2.2.2.2.2.2.2.2.2.2.1 hj ?_
    refine r_iload_n hE 1 dX4_putBetween_g0.2.2.2.2.2.2.2.2.2.2.2.2.2.2.1 rfl rfl ?_
    refine c_callVi hE hm [.int a1] [.ref (G.1 500)] ck_X4_142 (cr_fg hm rfl) (kc_fg_dataOf h) (by decide) rfl rfl (Nat.le_of_ble_eq_true rfl) dX4_putBetween_g0.2.2.2.2.2.2.2.2.2.2.2.2.2.2.2 (fun s5 r6 h => ?_)
    refine r_i2c hE dX4_putBetween_g1.1 ?_
    refine c_callVv hE hm [.int ((r6.toUInt32 % 65536).toInt32)] [] ck_X4_73 (cr_ou hm rfl) (kc_ou_put h) (by decide) rfl rfl (Nat.le_of_ble_eq_true rfl) dX4_putBetween_g1.2.1 (fun s7 h => ?_)
    refine r_aload_n hE 0 dX4_putBetween_g1.2.2.1 rfl rfl ?_
    refine cg_pr_out hE hm fk_X4_30 dX4_putBetween_g1.2.2.2.1 ?_
    refine r_bipush (v := (32 : Int32)) hE dX4_putBetween_g1.2.2.2.2.1 (by decide) ?_
    refine c_callVv hE hm [.int (32 : Int32)] [] ck_X4_73 (cr_ou hm rfl) (kc_ou_put h) (by decide) rfl rfl (Nat.le_of_ble_eq_true rfl) dX4_putBetween_g1.2.2.2.2.2.1 (fun s8 h => ?_)
    refine r_goto hE 59 dX4_putBetween_g1.2.2.2.2.2.2.1 (by decide) ?_
    exact c_vret hE hm hF dX4_putBetween_g1.2.2.2.2.2.2.2.2.2.2.2 h
/-! pr_tightness -/
def wc_pr_tightness (post : CS → Int32 → Prop) (σ : CS) (a1 : Int32) (a2 : Int32) : Prop := c_pr_figure σ = 300 ∧ (wc_fg_typeOf (fun (s1 : CS) (r2 : Int32) => ((¬ (r2 = (12 : Int32))) → (((r2 = (13 : Int32)) → (wc_pr_levelOf (fun (s3 : CS) (r4 : Int32) => ((¬ (r4 = (1 : Int32))) → (((a2 = (0 : Int32)) → (post s3 (r4 + (1 : Int32)))) ∧ ((¬ (a2 = (0 : Int32))) → (post s3 r4)))) ∧ ((r4 = (1 : Int32)) → (post s3 (2 : Int32)))) s1 a1)) ∧ ((¬ (r2 = (13 : Int32))) → (post s1 (1 : Int32))))) ∧ ((r2 = (12 : Int32)) → (post s1 (4 : Int32)))) σ a1)
set_option maxRecDepth 20000 in
theorem kc_pr_tightness {l : Launch} {D : va_G} {G : gAd} {post : CS → Int32 → Prop} {σ : CS} {a1 : Int32} {a2 : Int32} (h : wc_pr_tightness post σ a1 a2) : cMet l D G yX4_tightness cX4_tightness 5 (some .int) 3 [.ref (G.1 700), .int a1, .int a2] σ (pI post) := by
  unfold wc_pr_tightness at h
  refine c_enter (own := RX4) (by decide +kernel) rfl [(0, .ref (G.1 700)), (1, .int a1), (2, .int a2)] rfl (Nat.le_of_ble_eq_true rfl) ?_
  intro E hE hm hF
  have hN := hm.2.2.2.2.2.2.1
  refine r_aload_n hE 0 dX4_tightness_g0.1 rfl rfl ?_
  obtain ⟨hj, h⟩ := h
  refine cg_pr_figure hE hm fk_X4_26 dX4_tightness_g0.2.1 hj ?_
  refine r_iload_n hE 1 dX4_tightness_g0.2.2.1 rfl rfl ?_
  refine c_callVi hE hm [.int a1] [] ck_X4_102 (cr_fg hm rfl) (kc_fg_typeOf h) (by decide) rfl rfl (Nat.le_of_ble_eq_true rfl) dX4_tightness_g0.2.2.2.1 (fun s1 r2 h => ?_)
  refine r_istore_n hE [(3, .int r2), (0, .ref (G.1 700)), (1, .int a1), (2, .int a2)] dX4_tightness_g0.2.2.2.2.1 rfl hN (by decide) rfl ?_
  refine r_iload_n hE 0 dX4_tightness_g0.2.2.2.2.2.1 rfl rfl ?_
  refine r_bipush (v := (12 : Int32)) hE dX4_tightness_g0.2.2.2.2.2.2.1 (by decide) ?_
  refine r_icmp_ne hE 17 dX4_tightness_g0.2.2.2.2.2.2.2.1 (by decide) h (fun h => ?_) (fun h => ?_)
  · refine r_iload_n hE 0 dX4_tightness_g0.2.2.2.2.2.2.2.2.2.2.1 rfl rfl ?_
    refine r_bipush (v := (13 : Int32)) hE dX4_tightness_g0.2.2.2.2.2.2.2.2.2.2.2.1 (by decide) ?_
    refine r_icmp_eq hE 25 dX4_tightness_g0.2.2.2.2.2.2.2.2.2.2.2.2.1 (by decide) h (fun h => ?_) (fun h => ?_)
    · refine r_aload_n hE 1 dX4_tightness_g0.2.2.2.2.2.2.2.2.2.2.2.2.2.2.2 rfl rfl ?_
      refine r_iload_n hE 2 dX4_tightness_g1.1 rfl rfl ?_
      refine c_callVi hE hm [.int a1] [] ck_X4_169 (cr_pr hm rfl) (kc_pr_levelOf h) (by decide) rfl rfl (Nat.le_of_ble_eq_true rfl) dX4_tightness_g1.2.1 (fun s3 r4 h => ?_)
      refine r_istore hE [(4, .int r4), (3, .int r2), (0, .ref (G.1 700)), (1, .int a1), (2, .int a2)] dX4_tightness_g1.2.2.1 hN (by decide) rfl ?_
      refine r_iload hE 0 dX4_tightness_g1.2.2.2.1 rfl ?_
      refine r_iconst (v := (1 : Int32)) hE dX4_tightness_g1.2.2.2.2.1 (by decide) ?_
      refine r_icmp_ne hE 40 dX4_tightness_g1.2.2.2.2.2.1 (by decide) h (fun h => ?_) (fun h => ?_)
      · refine r_iload_n hE 4 dX4_tightness_g1.2.2.2.2.2.2.2.2.1 rfl rfl ?_
        refine r_if_eq hE 49 dX4_tightness_g1.2.2.2.2.2.2.2.2.2.1 (by decide) h (fun h => ?_) (fun h => ?_)
        · refine r_iload hE 0 dX4_tightness_g1.2.2.2.2.2.2.2.2.2.2.2.2.1 rfl ?_
          refine r_iconst (v := (1 : Int32)) hE dX4_tightness_g1.2.2.2.2.2.2.2.2.2.2.2.2.2.1 (by decide) ?_
          refine r_iadd hE dX4_tightness_g1.2.2.2.2.2.2.2.2.2.2.2.2.2.2.1 ?_
          exact c_iret hE hm hF dX4_tightness_g1.2.2.2.2.2.2.2.2.2.2.2.2.2.2.2 h
        · refine r_iload hE 0 dX4_tightness_g1.2.2.2.2.2.2.2.2.2.2.1 rfl ?_
          refine r_goto hE 53 dX4_tightness_g1.2.2.2.2.2.2.2.2.2.2.2.1 (by decide) ?_
          exact c_iret hE hm hF dX4_tightness_g1.2.2.2.2.2.2.2.2.2.2.2.2.2.2.2 h
      · refine r_iconst (v := (2 : Int32)) hE dX4_tightness_g1.2.2.2.2.2.2.1 (by decide) ?_
        exact c_iret hE hm hF dX4_tightness_g1.2.2.2.2.2.2.2.1 h
    · refine r_iconst (v := (1 : Int32)) hE dX4_tightness_g0.2.2.2.2.2.2.2.2.2.2.2.2.2.1 (by decide) ?_
      exact c_iret hE hm hF dX4_tightness_g0.2.2.2.2.2.2.2.2.2.2.2.2.2.2.1 h
  · refine r_iconst (v := (4 : Int32)) hE dX4_tightness_g0.2.2.2.2.2.2.2.2.1 (by decide) ?_
    exact c_iret hE hm hF dX4_tightness_g0.2.2.2.2.2.2.2.2.2.1 h
