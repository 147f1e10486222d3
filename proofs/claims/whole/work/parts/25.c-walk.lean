/-! ru_enter -/
def wc_ru_enter (post : CS → Prop) (σ : CS) (a1 : Int32) : Prop := wc_to_goOn (fun (s1 : CS) (r2 : Int32) => ((¬ (r2 = (0 : Int32))) → (c_ru_figure s1 = 300 ∧ (wc_fg_typeOf (fun (s3 : CS) (r4 : Int32) => ((¬ (r4 = (7 : Int32))) → (((¬ (r4 = (8 : Int32))) → (wc_ru_push (fun (s5 : CS) => wc_to_isFullOf (fun (s6 : CS) (r7 : Int32) => ((r7 = (0 : Int32)) → (post s6)) ∧ ((¬ (r7 = (0 : Int32))) → (wc_ru_fallDown (fun (s8 : CS) => post s8) s6 (9 : Int32)))) s5 r4) s3 a1)) ∧ ((r4 = (8 : Int32)) → (c_ru_figure s3 = 300 ∧ (wc_fg_dataOf (fun (s9 : CS) (r10 : Int32) => wc_ru_heldBy (fun (s11 : CS) (r12 : Int32) => wc_ru_pushValue (fun (s13 : CS) => post s13) s11 r12) s9 r10) s3 a1))))) ∧ ((r4 = (7 : Int32)) → (c_ru_figure s3 = 300 ∧ (wc_fg_dataOf (fun (s14 : CS) (r15 : Int32) => wc_SX6_whole (fun (s16 : CS) (r17 : Int64) => wc_th_addNumber (fun (s18 : CS) (r19 : Int32) => wc_ru_pushValue (fun (s20 : CS) => post s20) s18 r19) s16 r17 (0 : Int32)) s14 r15) s3 a1)))) s1 a1))) ∧ ((r2 = (0 : Int32)) → (post s1))) σ
set_option maxRecDepth 20000 in
theorem kc_ru_enter {l : Launch} {D : va_G} {G : gAd} {post : CS → Prop} {σ : CS} {a1 : Int32} (h : wc_ru_enter post σ a1) : cMet l D G yX7_enter cX7_enter 3 none 5 [.ref (G.1 1200), .int a1] σ (pV post) := by
  unfold wc_ru_enter at h
  refine c_enter (own := RX7) (by decide +kernel) rfl [(0, .ref (G.1 1200)), (1, .int a1)] rfl (Nat.le_of_ble_eq_true rfl) ?_
  intro E hE hm
  have hN := hm.2.2.2.2.2.2.1
  refine r_aload_n hE 0 dX7_enter_g0.1 rfl rfl ?_
  refine cg_ru_told hE hm fk_X7_52 dX7_enter_g0.2.1 ?_
  refine c_callVi hE hm [] [] ck_X7_134 (cr_to hm rfl) (kc_to_goOn h) (by decide) rfl rfl (Nat.le_of_ble_eq_true rfl) dX7_enter_g0.2.2.1 (fun s1 r2 h => ?_)
  refine r_if_ne hE 11 dX7_enter_g0.2.2.2.1 (by decide) h (fun h => ?_) (fun h => ?_)
  · refine r_aload_n hE 0 dX7_enter_g0.2.2.2.2.2.1 rfl rfl ?_
    obtain ⟨hj, h⟩ := h
    refine cg_ru_figure hE hm fk_X7_44 dX7_enter_g0.2.2.2.2.2.2.1 hj ?_
    refine r_iload_n hE 1 dX7_enter_g0.2.2.2.2.2.2.2.1 rfl rfl ?_
    refine c_callVi hE hm [.int a1] [] ck_X7_107 (cr_fg hm rfl) (kc_fg_typeOf h) (by decide) rfl rfl (Nat.le_of_ble_eq_true rfl) dX7_enter_g0.2.2.2.2.2.2.2.2.1 (fun s3 r4 h => ?_)
    refine r_istore_n hE [(2, .int r4), (0, .ref (G.1 1200)), (1, .int a1)] dX7_enter_g0.2.2.2.2.2.2.2.2.2.1 rfl hN (by decide) rfl ?_
    refine r_iload_n hE 0 dX7_enter_g0.2.2.2.2.2.2.2.2.2.2.1 rfl rfl ?_
    refine r_bipush (v := (7 : Int32)) hE dX7_enter_g0.2.2.2.2.2.2.2.2.2.2.2.1 (by decide) ?_
    refine r_icmp_ne hE 55 dX7_enter_g0.2.2.2.2.2.2.2.2.2.2.2.2.1 (by decide) h (fun h => ?_) (fun h => ?_)
    · refine r_iload_n hE 0 dX7_enter_g1.2.2.2.2.2.2.2.2.2.2.1 rfl rfl ?_
      refine r_bipush (v := (8 : Int32)) hE dX7_enter_g1.2.2.2.2.2.2.2.2.2.2.2.1 (by decide) ?_
      refine r_icmp_ne hE 80 dX7_enter_g1.2.2.2.2.2.2.2.2.2.2.2.2.1 (by decide) h (fun h => ?_) (fun h => ?_)
      · refine r_aload_n hE 1 dX7_enter_g2.2.2.2.2.2.2.1 rfl rfl ?_
        refine r_iload_n hE 2 dX7_enter_g2.2.2.2.2.2.2.2.1 rfl rfl ?_
        refine c_callVv hE hm [.int a1] [] ck_X7_82 (cr_ru hm rfl) (kc_ru_push h) (by decide) rfl rfl (Nat.le_of_ble_eq_true rfl) dX7_enter_g2.2.2.2.2.2.2.2.2.1 (fun s5 h => ?_)
        refine r_aload_n hE 1 dX7_enter_g2.2.2.2.2.2.2.2.2.2.1 rfl rfl ?_
        refine cg_ru_told hE hm fk_X7_52 dX7_enter_g2.2.2.2.2.2.2.2.2.2.2.1 ?_
        refine r_iload_n hE 0 dX7_enter_g2.2.2.2.2.2.2.2.2.2.2.2.1 rfl rfl ?_
        refine c_callVi hE hm [.int r4] [] ck_X7_154 (cr_to hm rfl) (kc_to_isFullOf h) (by decide) rfl rfl (Nat.le_of_ble_eq_true rfl) dX7_enter_g2.2.2.2.2.2.2.2.2.2.2.2.2.1 (fun s6 r7 h => ?_)
        refine r_if_eq hE 102 dX7_enter_g2.2.2.2.2.2.2.2.2.2.2.2.2.2.1 (by decide) h (fun h => ?_) (fun h => ?_)
        · exact c_vret hE hm dX7_enter_g3.2 h
        · refine r_aload_n hE 1 dX7_enter_g2.2.2.2.2.2.2.2.2.2.2.2.2.2.2.1 rfl rfl ?_
          refine r_bipush (v := (9 : Int32)) hE dX7_enter_g2.2.2.2.2.2.2.2.2.2.2.2.2.2.2.2 (by decide) ?_
          refine c_callVv hE hm [.int (9 : Int32)] [] ck_X7_158 (cr_ru hm rfl) (kc_ru_fallDown h) (by decide) rfl rfl (Nat.le_of_ble_eq_true rfl) dX7_enter_g3.1 (fun s8 h => ?_)
          exact c_vret hE hm dX7_enter_g3.2 h
      · refine r_aload_n hE 1 dX7_enter_g1.2.2.2.2.2.2.2.2.2.2.2.2.2.1 rfl rfl ?_
        refine r_aload_n hE 1 dX7_enter_g1.2.2.2.2.2.2.2.2.2.2.2.2.2.2.1 rfl rfl ?_
        refine r_aload_n hE 1 dX7_enter_g1.2.2.2.2.2.2.2.2.2.2.2.2.2.2.2 rfl rfl ?_
        obtain ⟨hj, h⟩ := h
        refine cg_ru_figure hE hm fk_X7_44 dX7_enter_g2.1 hj ?_
        refine r_iload_n hE 2 dX7_enter_g2.2.1 rfl rfl ?_
        refine c_callVi hE hm [.int a1] [.ref (G.1 1200), .ref (G.1 1200)] ck_X7_110 (cr_fg hm rfl) (kc_fg_dataOf h) (by decide) rfl rfl (Nat.le_of_ble_eq_true rfl) dX7_enter_g2.2.2.1 (fun s9 r10 h => ?_)
        refine c_callVi hE hm [.int r10] [.ref (G.1 1200)] ck_X7_151 (cr_ru hm rfl) (kc_ru_heldBy h) (by decide) rfl rfl (Nat.le_of_ble_eq_true rfl) dX7_enter_g2.2.2.2.1 (fun s11 r12 h => ?_)
        refine c_callVv hE hm [.int r12] [] ck_X7_148 (cr_ru hm rfl) (kc_ru_pushValue h) (by decide) rfl rfl (Nat.le_of_ble_eq_true rfl) dX7_enter_g2.2.2.2.2.1 (fun s13 h => ?_)
        refine r_goto hE 102 dX7_enter_g2.2.2.2.2.2.1 (by decide) ?_
        exact c_vret hE hm dX7_enter_g3.2 h
    · refine r_aload_n hE 1 dX7_enter_g0.2.2.2.2.2.2.2.2.2.2.2.2.2.1 rfl rfl ?_
      refine r_aload_n hE 1 dX7_enter_g0.2.2.2.2.2.2.2.2.2.2.2.2.2.2.1 rfl rfl ?_
      refine cg_ru_shop hE hm fk_X7_48 dX7_enter_g0.2.2.2.2.2.2.2.2.2.2.2.2.2.2.2 ?_
      refine cg_wo_things hE hm fk_X7_61 dX7_enter_g1.1 ?_
      refine r_aload_n hE 1 dX7_enter_g1.2.1 rfl rfl ?_
      obtain ⟨hj, h⟩ := h
      refine cg_ru_figure hE hm fk_X7_44 dX7_enter_g1.2.2.1 hj ?_
      refine r_iload_n hE 2 dX7_enter_g1.2.2.2.1 rfl rfl ?_
      refine c_callVi hE hm [.int a1] [.ref (G.1 900), .ref (G.1 1200)] ck_X7_110 (cr_fg hm rfl) (kc_fg_dataOf h) (by decide) rfl rfl (Nat.le_of_ble_eq_true rfl) dX7_enter_g1.2.2.2.2.1 (fun s14 r15 h => ?_)
      refine c_callSl hE hm [.int r15] [.ref (G.1 900), .ref (G.1 1200)] ck_X7_138 (kc_SX6_whole h) (by decide) rfl rfl (Nat.le_of_ble_eq_true rfl) dX7_enter_g1.2.2.2.2.2.1 (fun s16 r17 h => ?_)
      refine r_iconst (v := (0 : Int32)) hE dX7_enter_g1.2.2.2.2.2.2.1 (by decide) ?_
      refine c_callVi hE hm [.long r17, .int (0 : Int32)] [.ref (G.1 1200)] ck_X7_144 (cr_th hm rfl) (kc_th_addNumber h) (by decide) rfl rfl (Nat.le_of_ble_eq_true rfl) dX7_enter_g1.2.2.2.2.2.2.2.1 (fun s18 r19 h => ?_)
      refine c_callVv hE hm [.int r19] [] ck_X7_148 (cr_ru hm rfl) (kc_ru_pushValue h) (by decide) rfl rfl (Nat.le_of_ble_eq_true rfl) dX7_enter_g1.2.2.2.2.2.2.2.2.1 (fun s20 h => ?_)
      refine r_goto hE 102 dX7_enter_g1.2.2.2.2.2.2.2.2.2.1 (by decide) ?_
      exact c_vret hE hm dX7_enter_g3.2 h
  · exact c_vret hE hm dX7_enter_g0.2.2.2.2.1 h
/-! ru_endPart -/
def wc_ru_endPart (post : CS → Prop) (σ : CS) (a1 : Int32) : Prop := (((c_rk_failure σ) = (0 : Int32)) → (wc_ru_drop (fun (s1 : CS) => wc_ru_pushValue (fun (s2 : CS) => post s2) s1 a1) σ)) ∧ ((¬ ((c_rk_failure σ) = (0 : Int32))) → (wc_ru_fallDown (fun (s3 : CS) => post s3) σ (c_rk_failure σ)))
set_option maxRecDepth 20000 in
theorem kc_ru_endPart {l : Launch} {D : va_G} {G : gAd} {post : CS → Prop} {σ : CS} {a1 : Int32} (h : wc_ru_endPart post σ a1) : cMet l D G yX7_endPart cX7_endPart 2 none 5 [.ref (G.1 1200), .int a1] σ (pV post) := by
  unfold wc_ru_endPart at h
  refine c_enter (own := RX7) (by decide +kernel) rfl [(0, .ref (G.1 1200)), (1, .int a1)] rfl (Nat.le_of_ble_eq_true rfl) ?_
  intro E hE hm
  have hN := hm.2.2.2.2.2.2.1
  refine r_aload_n hE 0 dX7_endPart_g0.1 rfl rfl ?_
  refine cg_ru_shop hE hm fk_X7_48 dX7_endPart_g0.2.1 ?_
  refine cg_wo_reckoner hE hm fk_X7_161 dX7_endPart_g0.2.2.1 ?_
  refine cg_rk_failure hE hm fk_X7_165 dX7_endPart_g0.2.2.2.1 ?_
  refine r_if_eq hE 30 dX7_endPart_g0.2.2.2.2.1 (by decide) h (fun h => ?_) (fun h => ?_)
  · refine r_aload_n hE 0 dX7_endPart_g0.2.2.2.2.2.2.2.2.2.2.2.2.1 rfl rfl ?_
    refine c_callVv hE hm [] [] ck_X7_168 (cr_ru hm rfl) (kc_ru_drop h) (by decide) rfl rfl (Nat.le_of_ble_eq_true rfl) dX7_endPart_g0.2.2.2.2.2.2.2.2.2.2.2.2.2.1 (fun s1 h => ?_)
    refine r_aload_n hE 0 dX7_endPart_g0.2.2.2.2.2.2.2.2.2.2.2.2.2.2.1 rfl rfl ?_
    refine r_iload_n hE 1 dX7_endPart_g0.2.2.2.2.2.2.2.2.2.2.2.2.2.2.2 rfl rfl ?_
    refine c_callVv hE hm [.int a1] [] ck_X7_148 (cr_ru hm rfl) (kc_ru_pushValue h) (by decide) rfl rfl (Nat.le_of_ble_eq_true rfl) dX7_endPart_g1.1 (fun s2 h => ?_)
    exact c_vret hE hm dX7_endPart_g1.2 h
  · refine r_aload_n hE 0 dX7_endPart_g0.2.2.2.2.2.1 rfl rfl ?_
    refine r_aload_n hE 0 dX7_endPart_g0.2.2.2.2.2.2.1 rfl rfl ?_
    refine cg_ru_shop hE hm fk_X7_48 dX7_endPart_g0.2.2.2.2.2.2.2.1 ?_
    refine cg_wo_reckoner hE hm fk_X7_161 dX7_endPart_g0.2.2.2.2.2.2.2.2.1 ?_
    refine cg_rk_failure hE hm fk_X7_165 dX7_endPart_g0.2.2.2.2.2.2.2.2.2.1 ?_
    refine c_callVv hE hm [.int (c_rk_failure σ)] [] ck_X7_158 (cr_ru hm rfl) (kc_ru_fallDown h) (by decide) rfl rfl (Nat.le_of_ble_eq_true rfl) dX7_endPart_g0.2.2.2.2.2.2.2.2.2.2.1 (fun s3 h => ?_)
    refine r_goto hE 39 dX7_endPart_g0.2.2.2.2.2.2.2.2.2.2.2.1 (by decide) ?_
    exact c_vret hE hm dX7_endPart_g1.2 h
/-! wo_ask -/
def wc_wo_ask_22 (post : CS → Prop) (σ : CS) (v1 : Int32) (v2 : Int32) : Prop := wc_th_fits (fun (s1 : CS) (r2 : Int32) => ((¬ (r2 = (0 : Int32))) → (post s1)) ∧ ((r2 = (0 : Int32)) → (wc_rk_fail (fun (s3 : CS) => post s3) s1 (2 : Int32)))) σ v1 v2
set_option maxRecDepth 20000 in
theorem kc_wo_ask_22 {E : gEnv} {l : Launch} {D : va_G} {G : gAd} {post : CS → Prop} (hE : gOK E cX11_ask RX11 none 3) (hm : cOK E l D G (pV post) 3) (σ : CS) (v1 : Int32) (v2 : Int32) (h : wc_wo_ask_22 post σ v1 v2) : GW E (cW G σ) 22 [(0, .ref (G.1 1300)), (1, .int v1), (2, .int v2)] [] := by
  unfold wc_wo_ask_22 at h
  have hN := hm.2.2.2.2.2.2.1
  refine r_aload_n hE 0 dX11_ask_g0.2.2.2.2.2.2.2.2.2.2.2.1 rfl rfl ?_
  refine cg_wo_things hE hm fk_X11_40 dX11_ask_g0.2.2.2.2.2.2.2.2.2.2.2.2.1 ?_
  refine r_iload_n hE 1 dX11_ask_g0.2.2.2.2.2.2.2.2.2.2.2.2.2.1 rfl rfl ?_
  refine r_iload_n hE 2 dX11_ask_g0.2.2.2.2.2.2.2.2.2.2.2.2.2.2.1 rfl rfl ?_
  refine c_callVi hE hm [.int v1, .int v2] [] ck_X11_52 (cr_th hm rfl) (kc_th_fits h) (by decide) rfl rfl (Nat.le_of_ble_eq_true rfl) dX11_ask_g0.2.2.2.2.2.2.2.2.2.2.2.2.2.2.2 (fun s1 r2 h => ?_)
  refine r_if_ne hE 42 dX11_ask_g1.1 (by decide) h (fun h => ?_) (fun h => ?_)
  · exact c_vret hE hm dX11_ask_g1.2.2.2.2.2 h
  · refine r_aload_n hE 0 dX11_ask_g1.2.1 rfl rfl ?_
    refine cg_wo_reckoner hE hm fk_X11_36 dX11_ask_g1.2.2.1 ?_
    refine r_iconst (v := (2 : Int32)) hE dX11_ask_g1.2.2.2.1 (by decide) ?_
    refine c_callVv hE hm [.int (2 : Int32)] [] ck_X11_48 (cr_rk hm rfl) (kc_rk_fail h) (by decide) rfl rfl (Nat.le_of_ble_eq_true rfl) dX11_ask_g1.2.2.2.2.1 (fun s3 h => ?_)
    exact c_vret hE hm dX11_ask_g1.2.2.2.2.2 h
def wc_wo_ask (post : CS → Prop) (σ : CS) (a1 : Int32) (a2 : Int32) : Prop := ((¬ (a1 = (-1 : Int32))) → (wc_wo_ask_22 post σ a1 a2)) ∧ ((a1 = (-1 : Int32)) → (((a2 = (69 : Int32)) → (wc_wo_ask_22 post σ a1 a2)) ∧ ((¬ (a2 = (69 : Int32))) → (wc_rk_fail (fun (s4 : CS) => post s4) σ (1 : Int32)))))
set_option maxRecDepth 20000 in
theorem kc_wo_ask {l : Launch} {D : va_G} {G : gAd} {post : CS → Prop} {σ : CS} {a1 : Int32} {a2 : Int32} (h : wc_wo_ask post σ a1 a2) : cMet l D G yX11_ask cX11_ask 3 none 3 [.ref (G.1 1300), .int a1, .int a2] σ (pV post) := by
  unfold wc_wo_ask at h
  refine c_enter (own := RX11) (by decide +kernel) rfl [(0, .ref (G.1 1300)), (1, .int a1), (2, .int a2)] rfl (Nat.le_of_ble_eq_true rfl) ?_
  intro E hE hm
  have hN := hm.2.2.2.2.2.2.1
  refine r_iload_n hE 1 dX11_ask_g0.1 rfl rfl ?_
  refine r_iconst (v := (-1 : Int32)) hE dX11_ask_g0.2.1 (by decide) ?_
  refine r_icmp_ne hE 22 dX11_ask_g0.2.2.1 (by decide) h (fun h => ?_) (fun h => ?_)
  · exact kc_wo_ask_22 hE hm _ _ _ h
  · refine r_iload_n hE 2 dX11_ask_g0.2.2.2.1 rfl rfl ?_
    refine r_bipush (v := (69 : Int32)) hE dX11_ask_g0.2.2.2.2.1 (by decide) ?_
    refine r_icmp_eq hE 22 dX11_ask_g0.2.2.2.2.2.1 (by decide) h (fun h => ?_) (fun h => ?_)
    · exact kc_wo_ask_22 hE hm _ _ _ h
    · refine r_aload_n hE 0 dX11_ask_g0.2.2.2.2.2.2.1 rfl rfl ?_
      refine cg_wo_reckoner hE hm fk_X11_36 dX11_ask_g0.2.2.2.2.2.2.2.1 ?_
      refine r_iconst (v := (1 : Int32)) hE dX11_ask_g0.2.2.2.2.2.2.2.2.1 (by decide) ?_
      refine c_callVv hE hm [.int (1 : Int32)] [] ck_X11_48 (cr_rk hm rfl) (kc_rk_fail h) (by decide) rfl rfl (Nat.le_of_ble_eq_true rfl) dX11_ask_g0.2.2.2.2.2.2.2.2.2.1 (fun s4 h => ?_)
      refine r_goto hE 42 dX11_ask_g0.2.2.2.2.2.2.2.2.2.2.1 (by decide) ?_
      exact c_vret hE hm dX11_ask_g1.2.2.2.2.2 h
/-! ru_endDeed -/
def wc_ru_endDeed (post : CS → Prop) (σ : CS) (a1 : Int32) : Prop := ((a1 = (0 : Int32)) → (wc_ru_drop (fun (s1 : CS) => post s1) σ)) ∧ ((¬ (a1 = (0 : Int32))) → (wc_ru_fallDown (fun (s2 : CS) => post s2) σ a1))
set_option maxRecDepth 20000 in
theorem kc_ru_endDeed {l : Launch} {D : va_G} {G : gAd} {post : CS → Prop} {σ : CS} {a1 : Int32} (h : wc_ru_endDeed post σ a1) : cMet l D G yX7_endDeed cX7_endDeed 2 none 5 [.ref (G.1 1200), .int a1] σ (pV post) := by
  unfold wc_ru_endDeed at h
  refine c_enter (own := RX7) (by decide +kernel) rfl [(0, .ref (G.1 1200)), (1, .int a1)] rfl (Nat.le_of_ble_eq_true rfl) ?_
  intro E hE hm
  have hN := hm.2.2.2.2.2.2.1
  refine r_iload_n hE 1 dX7_endDeed_g0.1 rfl rfl ?_
  refine r_if_eq hE 12 dX7_endDeed_g0.2.1 (by decide) h (fun h => ?_) (fun h => ?_)
  · refine r_aload_n hE 0 dX7_endDeed_g0.2.2.2.2.2.2.1 rfl rfl ?_
    refine c_callVv hE hm [] [] ck_X7_168 (cr_ru hm rfl) (kc_ru_drop h) (by decide) rfl rfl (Nat.le_of_ble_eq_true rfl) dX7_endDeed_g0.2.2.2.2.2.2.2.1 (fun s1 h => ?_)
    exact c_vret hE hm dX7_endDeed_g0.2.2.2.2.2.2.2.2 h
  · refine r_aload_n hE 0 dX7_endDeed_g0.2.2.1 rfl rfl ?_
    refine r_iload_n hE 1 dX7_endDeed_g0.2.2.2.1 rfl rfl ?_
    refine c_callVv hE hm [.int a1] [] ck_X7_158 (cr_ru hm rfl) (kc_ru_fallDown h) (by decide) rfl rfl (Nat.le_of_ble_eq_true rfl) dX7_endDeed_g0.2.2.2.2.1 (fun s2 h => ?_)
    refine r_goto hE 16 dX7_endDeed_g0.2.2.2.2.2.1 (by decide) ?_
    exact c_vret hE hm dX7_endDeed_g0.2.2.2.2.2.2.2.2 h
/-! ru_finishCall -/
def wc_ru_finishCall_54 (post : CS → Prop) : Nat → CS → Int32 → Int32 → Prop
  | 0, _, _, _ => False
  | n + 1, σ, v1, v2 => c_ru_figure σ = 300 ∧ (wc_fg_paramsOf (fun (s1 : CS) (r2 : Int32) => ((r2 ≤ v2) → (c_ru_figure s1 = 300 ∧ (wc_fg_macroBodyOf (fun (s3 : CS) (r4 : Int32) => wc_ru_enterBlock (fun (s5 : CS) => post s5) s3 r4) s1 v1))) ∧ ((¬ (r2 ≤ v2)) → (wc_ru_valueAt (fun (s6 : CS) (r7 : Int32) => wc_ru_hold (fun (s8 : CS) => ∀ x9 : Int32, x9 = v2 + (1 : Int32) → wc_ru_finishCall_54 post n s8 v1 x9) s6 v2 r7) s1 v2))) σ v1)
set_option maxRecDepth 20000 in
theorem kc_ru_finishCall_54 {E : gEnv} {l : Launch} {D : va_G} {G : gAd} {post : CS → Prop} (hE : gOK E cX7_finishCall RX7 none 5) (hm : cOK E l D G (pV post) 3) : ∀ (n : Nat) (σ : CS) (v1 : Int32) (v2 : Int32), wc_ru_finishCall_54 post n σ v1 v2 → GW E (cW G σ) 54 [(0, .ref (G.1 1200)), (1, .int v1), (2, .int v2)] [] := by
  intro n
  induction n with
  | zero => intro σ v1 v2 h; exact h.elim
  | succ n ih =>
    intro σ v1 v2 h
    rw [wc_ru_finishCall_54] at h
    have hN := hm.2.2.2.2.2.2.1
    refine r_iload_n hE 2 dX7_finishCall_g1.2.2.2.2.2.2.2.2.2.2.2.2.1 rfl rfl ?_
    refine r_aload_n hE 0 dX7_finishCall_g1.2.2.2.2.2.2.2.2.2.2.2.2.2.1 rfl rfl ?_
    obtain ⟨hj, h⟩ := h
    refine cg_ru_figure hE hm fk_X7_44 dX7_finishCall_g1.2.2.2.2.2.2.2.2.2.2.2.2.2.2.1 hj ?_
    refine r_iload_n hE 1 dX7_finishCall_g1.2.2.2.2.2.2.2.2.2.2.2.2.2.2.2 rfl rfl ?_
    refine c_callVi hE hm [.int v1] [.int v2] ck_X7_213 (cr_fg hm rfl) (kc_fg_paramsOf h) (by decide) rfl rfl (Nat.le_of_ble_eq_true rfl) dX7_finishCall_g2.1 (fun s1 r2 h => ?_)
    refine r_icmp_ge hE 82 dX7_finishCall_g2.2.1 (by decide) h (fun h => ?_) (fun h => ?_)
    · refine r_aload_n hE 0 dX7_finishCall_g2.2.2.2.2.2.2.2.2.2.2.1 rfl rfl ?_
      refine r_aload_n hE 0 dX7_finishCall_g2.2.2.2.2.2.2.2.2.2.2.2.1 rfl rfl ?_
      obtain ⟨hj, h⟩ := h
      refine cg_ru_figure hE hm fk_X7_44 dX7_finishCall_g2.2.2.2.2.2.2.2.2.2.2.2.2.1 hj ?_
      refine r_iload_n hE 1 dX7_finishCall_g2.2.2.2.2.2.2.2.2.2.2.2.2.2.1 rfl rfl ?_
      refine c_callVi hE hm [.int v1] [.ref (G.1 1200)] ck_X7_216 (cr_fg hm rfl) (kc_fg_macroBodyOf h) (by decide) rfl rfl (Nat.le_of_ble_eq_true rfl) dX7_finishCall_g2.2.2.2.2.2.2.2.2.2.2.2.2.2.2.1 (fun s3 r4 h => ?_)
      refine c_callVv hE hm [.int r4] [] ck_X7_219 (cr_ru hm rfl) (kc_ru_enterBlock h) (by decide) rfl rfl (Nat.le_of_ble_eq_true rfl) dX7_finishCall_g2.2.2.2.2.2.2.2.2.2.2.2.2.2.2.2 (fun s5 h => ?_)
      exact c_vret hE hm dX7_finishCall_g3 h
    · refine r_aload_n hE 0 dX7_finishCall_g2.2.2.1 rfl rfl ?_
      refine r_iload_n hE 2 dX7_finishCall_g2.2.2.2.1 rfl rfl ?_
      refine r_aload_n hE 0 dX7_finishCall_g2.2.2.2.2.1 rfl rfl ?_
      refine r_iload_n hE 2 dX7_finishCall_g2.2.2.2.2.2.1 rfl rfl ?_
      refine c_callVi hE hm [.int v2] [.int v2, .ref (G.1 1200)] ck_X7_171 (cr_ru hm rfl) (kc_ru_valueAt h) (by decide) rfl rfl (Nat.le_of_ble_eq_true rfl) dX7_finishCall_g2.2.2.2.2.2.2.1 (fun s6 r7 h => ?_)
      refine c_callVv hE hm [.int v2, .int r7] [] ck_X7_127 (cr_ru hm rfl) (kc_ru_hold h) (by decide) rfl rfl (Nat.le_of_ble_eq_true rfl) dX7_finishCall_g2.2.2.2.2.2.2.2.1 (fun s8 h => ?_)
      obtain ⟨x9, ex9⟩ : ∃ z : Int32, z = v2 + (1 : Int32) := ⟨_, rfl⟩
      have h := h x9 ex9
      refine r_iinc (v := x9) hE [(2, .int x9), (0, .ref (G.1 1200)), (1, .int v1)] 2 dX7_finishCall_g2.2.2.2.2.2.2.2.2.1 rfl (by rw [ex9]; rfl) hN (by decide) rfl ?_
      refine r_goto hE 54 dX7_finishCall_g2.2.2.2.2.2.2.2.2.2.1 (by decide) ?_
      refine r_pick [1, 2, 0] rfl ?_
      exact ih _ _ _ h
def wc_ru_finishCall (post : CS → Prop) (σ : CS) (a1 : Int32) : Prop := vp_in (c_ru_top σ) 401 ∧ ((((c_ru_inBlock σ (c_ru_top σ).toNatClampNeg) = (0 : Int32)) → ((((c_ru_frame σ) < (8 : Int32)) → (∀ s10 : CS, s10 = c_ru_frame_s σ ((c_ru_frame σ) + (1 : Int32)) → wc_ru_emptyNames (fun (s11 : CS) => ∃ k : Nat, wc_ru_finishCall_54 post k s11 a1 (0 : Int32)) s10)) ∧ ((¬ ((c_ru_frame σ) < (8 : Int32))) → (wc_ru_fallDown (fun (s12 : CS) => post s12) σ (9 : Int32))))) ∧ ((¬ ((c_ru_inBlock σ (c_ru_top σ).toNatClampNeg) = (0 : Int32))) → (wc_ru_leaveMacro (fun (s13 : CS) => post s13) σ (-1 : Int32))))
set_option maxRecDepth 20000 in
theorem kc_ru_finishCall {l : Launch} {D : va_G} {G : gAd} {post : CS → Prop} {σ : CS} {a1 : Int32} (h : wc_ru_finishCall post σ a1) : cMet l D G yX7_finishCall cX7_finishCall 3 none 5 [.ref (G.1 1200), .int a1] σ (pV post) := by
  unfold wc_ru_finishCall at h
  refine c_enter (own := RX7) (by decide +kernel) rfl [(0, .ref (G.1 1200)), (1, .int a1)] rfl (Nat.le_of_ble_eq_true rfl) ?_
  intro E hE hm
  have hN := hm.2.2.2.2.2.2.1
  refine r_aload_n hE 0 dX7_finishCall_g0.1 rfl rfl ?_
  refine cg_ru_inBlock hE hm fk_X7_21 dX7_finishCall_g0.2.1 ?_
  refine r_aload_n hE 0 dX7_finishCall_g0.2.2.1 rfl rfl ?_
  refine cg_ru_top hE hm fk_X7_28 dX7_finishCall_g0.2.2.2.1 ?_
  obtain ⟨hi, h⟩ := h
  refine cl_ru_inBlock hE hm dX7_finishCall_g0.2.2.2.2.1 hi ?_
  refine r_if_eq hE 20 dX7_finishCall_g0.2.2.2.2.2.1 (by decide) h (fun h => ?_) (fun h => ?_)
  · refine r_aload_n hE 0 dX7_finishCall_g0.2.2.2.2.2.2.2.2.2.2.1 rfl rfl ?_
    refine cg_ru_frame hE hm fk_X7_41 dX7_finishCall_g0.2.2.2.2.2.2.2.2.2.2.2.1 ?_
    refine r_bipush (v := (8 : Int32)) hE dX7_finishCall_g0.2.2.2.2.2.2.2.2.2.2.2.2.1 (by decide) ?_
    refine r_icmp_lt hE 38 dX7_finishCall_g0.2.2.2.2.2.2.2.2.2.2.2.2.2.1 (by decide) h (fun h => ?_) (fun h => ?_)
    · refine r_aload_n hE 0 dX7_finishCall_g1.2.2.1 rfl rfl ?_
      refine r_dup hE dX7_finishCall_g1.2.2.2.1 rfl ?_
      refine cg_ru_frame hE hm fk_X7_41 dX7_finishCall_g1.2.2.2.2.1 ?_
      refine r_iconst (v := (1 : Int32)) hE dX7_finishCall_g1.2.2.2.2.2.1 (by decide) ?_
      refine r_iadd hE dX7_finishCall_g1.2.2.2.2.2.2.1 ?_
      refine cp_ru_frame hE hm fk_X7_41 dX7_finishCall_g1.2.2.2.2.2.2.2.1 h (fun s10 h => ?_)
      refine r_aload_n hE 0 dX7_finishCall_g1.2.2.2.2.2.2.2.2.1 rfl rfl ?_
      refine c_callVv hE hm [] [] ck_X7_79 (cr_ru hm rfl) (kc_ru_emptyNames h) (by decide) rfl rfl (Nat.le_of_ble_eq_true rfl) dX7_finishCall_g1.2.2.2.2.2.2.2.2.2.1 (fun s11 h => ?_)
      refine r_iconst (v := (0 : Int32)) hE dX7_finishCall_g1.2.2.2.2.2.2.2.2.2.2.1 (by decide) ?_
      refine r_istore_n hE [(2, .int (0 : Int32)), (0, .ref (G.1 1200)), (1, .int a1)] dX7_finishCall_g1.2.2.2.2.2.2.2.2.2.2.2.1 rfl hN (by decide) rfl ?_
      refine r_pick [1, 2, 0] rfl ?_
      obtain ⟨k, h⟩ := h
      exact kc_ru_finishCall_54 hE hm k _ _ _ h
    · refine r_aload_n hE 0 dX7_finishCall_g0.2.2.2.2.2.2.2.2.2.2.2.2.2.2.1 rfl rfl ?_
      refine r_bipush (v := (9 : Int32)) hE dX7_finishCall_g0.2.2.2.2.2.2.2.2.2.2.2.2.2.2.2 (by decide) ?_
      refine c_callVv hE hm [.int (9 : Int32)] [] ck_X7_158 (cr_ru hm rfl) (kc_ru_fallDown h) (by decide) rfl rfl (Nat.le_of_ble_eq_true rfl) dX7_finishCall_g1.1 (fun s12 h => ?_)
      refine r_goto hE 94 dX7_finishCall_g1.2.1 (by decide) ?_
      exact c_vret hE hm dX7_finishCall_g3 h
  · refine r_aload_n hE 0 dX7_finishCall_g0.2.2.2.2.2.2.1 rfl rfl ?_
    refine r_iconst (v := (-1 : Int32)) hE dX7_finishCall_g0.2.2.2.2.2.2.2.1 (by decide) ?_
    refine c_callVv hE hm [.int (-1 : Int32)] [] ck_X7_210 (cr_ru hm rfl) (kc_ru_leaveMacro h) (by decide) rfl rfl (Nat.le_of_ble_eq_true rfl) dX7_finishCall_g0.2.2.2.2.2.2.2.2.1 (fun s13 h => ?_)
    refine r_goto hE 94 dX7_finishCall_g0.2.2.2.2.2.2.2.2.2.1 (by decide) ?_
    exact c_vret hE hm dX7_finishCall_g3 h
/-! wo_accepts -/
def wc_wo_accepts (post : CS → Int32 → Prop) (σ : CS) (a1 : Int32) (a2 : Int32) : Prop := wc_rk_begin (fun (s1 : CS) => wc_wo_ask (fun (s2 : CS) => ((¬ ((c_rk_failure s2) = (0 : Int32))) → (post s2 (0 : Int32))) ∧ (((c_rk_failure s2) = (0 : Int32)) → (post s2 (1 : Int32)))) s1 a1 a2) σ
set_option maxRecDepth 20000 in
theorem kc_wo_accepts {l : Launch} {D : va_G} {G : gAd} {post : CS → Int32 → Prop} {σ : CS} {a1 : Int32} {a2 : Int32} (h : wc_wo_accepts post σ a1 a2) : cMet l D G yX11_accepts cX11_accepts 3 (some .boolean) 4 [.ref (G.1 1300), .int a1, .int a2] σ (pI post) := by
  unfold wc_wo_accepts at h
  refine c_enter (own := RX11) (by decide +kernel) rfl [(0, .ref (G.1 1300)), (1, .int a1), (2, .int a2)] rfl (Nat.le_of_ble_eq_true rfl) ?_
  intro E hE hm
  have hN := hm.2.2.2.2.2.2.1
  refine r_aload_n hE 0 dX11_accepts_g0.1 rfl rfl ?_
  refine cg_wo_reckoner hE hm fk_X11_36 dX11_accepts_g0.2.1 ?_
  refine c_callVv hE hm [] [] ck_X11_58 (cr_rk hm rfl) (kc_rk_begin h) (by decide) rfl rfl (Nat.le_of_ble_eq_true rfl) dX11_accepts_g0.2.2.1 (fun s1 h => ?_)
  refine r_aload_n hE 0 dX11_accepts_g0.2.2.2.1 rfl rfl ?_
  refine r_iload_n hE 1 dX11_accepts_g0.2.2.2.2.1 rfl rfl ?_
  refine r_iload_n hE 2 dX11_accepts_g0.2.2.2.2.2.1 rfl rfl ?_
  refine c_callVv hE hm [.int a1, .int a2] [] ck_X11_61 (cr_wo hm rfl) (kc_wo_ask h) (by decide) rfl rfl (Nat.le_of_ble_eq_true rfl) dX11_accepts_g0.2.2.2.2.2.2.1 (fun s2 h => ?_)
  refine r_aload_n hE 0 dX11_accepts_g0.2.2.2.2.2.2.2.1 rfl rfl ?_
  refine cg_wo_reckoner hE hm fk_X11_36 dX11_accepts_g0.2.2.2.2.2.2.2.2.1 ?_
  refine cg_rk_failure hE hm fk_X11_65 dX11_accepts_g0.2.2.2.2.2.2.2.2.2.1 ?_
  refine r_if_ne hE 27 dX11_accepts_g0.2.2.2.2.2.2.2.2.2.2.1 (by decide) h (fun h => ?_) (fun h => ?_)
  · refine r_iconst (v := (0 : Int32)) hE dX11_accepts_g0.2.2.2.2.2.2.2.2.2.2.2.2.2.1 (by decide) ?_
    exact c_zret hE hm dX11_accepts_g0.2.2.2.2.2.2.2.2.2.2.2.2.2.2 (Or.inl rfl) h
  · refine r_iconst (v := (1 : Int32)) hE dX11_accepts_g0.2.2.2.2.2.2.2.2.2.2.2.1 (by decide) ?_
    refine r_goto hE 28 dX11_accepts_g0.2.2.2.2.2.2.2.2.2.2.2.2.1 (by decide) ?_
    exact c_zret hE hm dX11_accepts_g0.2.2.2.2.2.2.2.2.2.2.2.2.2.2 (Or.inr rfl) h
/-! ru_finishIf -/
def wc_ru_finishIf_104 (post : CS → Prop) (σ : CS) (t1 : Int32) : Prop := wc_ru_enterBlock (fun (s1 : CS) => post s1) σ t1
set_option maxRecDepth 20000 in
theorem kc_ru_finishIf_104 {E : gEnv} {l : Launch} {D : va_G} {G : gAd} {post : CS → Prop} (hE : gOK E cX7_finishIf RX7 none 5) (hm : cOK E l D G (pV post) 3) (σ : CS) (t1 : Int32) (h : wc_ru_finishIf_104 post σ t1) : GW E (cW G σ) 104 [] [.int t1, .ref (G.1 1200)] := by
  unfold wc_ru_finishIf_104 at h
  have hN := hm.2.2.2.2.2.2.1
  refine c_callVv hE hm [.int t1] [] ck_X7_219 (cr_ru hm rfl) (kc_ru_enterBlock h) (by decide) rfl rfl (Nat.le_of_ble_eq_true rfl) dX7_finishIf_g3.2.2.2.1 (fun s1 h => ?_)
  exact c_vret hE hm dX7_finishIf_g3.2.2.2.2 h
def wc_ru_finishIf_79 (post : CS → Prop) (σ : CS) (v1 : Int32) (t0 : Int32) : Prop := ((t0 = (0 : Int32)) → (c_ru_figure σ = 300 ∧ (wc_fg_otherOf (fun (s2 : CS) (r3 : Int32) => wc_ru_finishIf_104 post s2 r3) σ v1))) ∧ ((¬ (t0 = (0 : Int32))) → (c_ru_figure σ = 300 ∧ (wc_fg_bodyOf (fun (s4 : CS) (r5 : Int32) => wc_ru_finishIf_104 post s4 r5) σ v1)))
set_option maxRecDepth 20000 in
theorem kc_ru_finishIf_79 {E : gEnv} {l : Launch} {D : va_G} {G : gAd} {post : CS → Prop} (hE : gOK E cX7_finishIf RX7 none 5) (hm : cOK E l D G (pV post) 3) (σ : CS) (v1 : Int32) (t0 : Int32) (h : wc_ru_finishIf_79 post σ v1 t0) : GW E (cW G σ) 79 [(0, .ref (G.1 1200)), (1, .int v1)] [.int t0] := by
  unfold wc_ru_finishIf_79 at h
  have hN := hm.2.2.2.2.2.2.1
  refine r_istore_n hE [(2, .int t0), (0, .ref (G.1 1200)), (1, .int v1)] dX7_finishIf_g2.2.2.2.2.2.2.1 rfl hN (by decide) rfl ?_
  refine r_aload_n hE 1 dX7_finishIf_g2.2.2.2.2.2.2.2.1 rfl rfl ?_
  refine r_iload_n hE 0 dX7_finishIf_g2.2.2.2.2.2.2.2.2.1 rfl rfl ?_
  refine r_if_eq hE 96 dX7_finishIf_g2.2.2.2.2.2.2.2.2.2.1 (by decide) h (fun h => ?_) (fun h => ?_)
  · refine r_aload_n hE 1 dX7_finishIf_g2.2.2.2.2.2.2.2.2.2.2.2.2.2.2.2 rfl rfl ?_
    obtain ⟨hj, h⟩ := h
    refine cg_ru_figure hE hm fk_X7_44 dX7_finishIf_g3.1 hj ?_
    refine r_iload_n hE 2 dX7_finishIf_g3.2.1 rfl rfl ?_
    refine c_callVi hE hm [.int v1] [.ref (G.1 1200)] ck_X7_233 (cr_fg hm rfl) (kc_fg_otherOf h) (by decide) rfl rfl (Nat.le_of_ble_eq_true rfl) dX7_finishIf_g3.2.2.1 (fun s2 r3 h => ?_)
    refine r_pick [] rfl ?_
    exact kc_ru_finishIf_104 hE hm _ _ h
  · refine r_aload_n hE 1 dX7_finishIf_g2.2.2.2.2.2.2.2.2.2.2.1 rfl rfl ?_
    obtain ⟨hj, h⟩ := h
    refine cg_ru_figure hE hm fk_X7_44 dX7_finishIf_g2.2.2.2.2.2.2.2.2.2.2.2.1 hj ?_
    refine r_iload_n hE 2 dX7_finishIf_g2.2.2.2.2.2.2.2.2.2.2.2.2.1 rfl rfl ?_
    refine c_callVi hE hm [.int v1] [.ref (G.1 1200)] ck_X7_230 (cr_fg hm rfl) (kc_fg_bodyOf h) (by decide) rfl rfl (Nat.le_of_ble_eq_true rfl) dX7_finishIf_g2.2.2.2.2.2.2.2.2.2.2.2.2.2.1 (fun s4 r5 h => ?_)
    refine r_goto hE 104 dX7_finishIf_g2.2.2.2.2.2.2.2.2.2.2.2.2.2.2.1 (by decide) ?_
    refine r_pick [] rfl ?_
    exact kc_ru_finishIf_104 hE hm _ _ h
def wc_ru_finishIf (post : CS → Prop) (σ : CS) (a1 : Int32) : Prop := vp_in (c_ru_top σ) 401 ∧ ((((c_ru_inBlock σ (c_ru_top σ).toNatClampNeg) = (0 : Int32)) → (wc_ru_valueAt (fun (s6 : CS) (r7 : Int32) => wc_wo_accepts (fun (s8 : CS) (r9 : Int32) => ((¬ (r9 = (0 : Int32))) → (wc_ru_valueAt (fun (s10 : CS) (r11 : Int32) => wc_th_partOf (fun (s12 : CS) (r13 : Int64) => (((lg_cmp r13 (1 : Int64)) = (0 : Int32)) → (wc_ru_finishIf_79 post s12 a1 (0 : Int32))) ∧ ((¬ ((lg_cmp r13 (1 : Int64)) = (0 : Int32))) → (wc_ru_finishIf_79 post s12 a1 (1 : Int32)))) s10 r11 (0 : Int32)) s8 (0 : Int32))) ∧ ((r9 = (0 : Int32)) → (wc_ru_fallDown (fun (s14 : CS) => post s14) s8 (c_rk_failure s8)))) s6 r7 (78 : Int32)) σ (0 : Int32))) ∧ ((¬ ((c_ru_inBlock σ (c_ru_top σ).toNatClampNeg) = (0 : Int32))) → (wc_ru_drop (fun (s15 : CS) => post s15) σ)))
set_option maxRecDepth 20000 in
theorem kc_ru_finishIf {l : Launch} {D : va_G} {G : gAd} {post : CS → Prop} {σ : CS} {a1 : Int32} (h : wc_ru_finishIf post σ a1) : cMet l D G yX7_finishIf cX7_finishIf 3 none 5 [.ref (G.1 1200), .int a1] σ (pV post) := by
  unfold wc_ru_finishIf at h
  refine c_enter (own := RX7) (by decide +kernel) rfl [(0, .ref (G.1 1200)), (1, .int a1)] rfl (Nat.le_of_ble_eq_true rfl) ?_
  intro E hE hm
  have hN := hm.2.2.2.2.2.2.1
  refine r_aload_n hE 0 dX7_finishIf_g0.1 rfl rfl ?_
  refine cg_ru_inBlock hE hm fk_X7_21 dX7_finishIf_g0.2.1 ?_
  refine r_aload_n hE 0 dX7_finishIf_g0.2.2.1 rfl rfl ?_
  refine cg_ru_top hE hm fk_X7_28 dX7_finishIf_g0.2.2.2.1 ?_
  obtain ⟨hi, h⟩ := h
  refine cl_ru_inBlock hE hm dX7_finishIf_g0.2.2.2.2.1 hi ?_
  refine r_if_eq hE 19 dX7_finishIf_g0.2.2.2.2.2.1 (by decide) h (fun h => ?_) (fun h => ?_)
  · refine r_aload_n hE 0 dX7_finishIf_g0.2.2.2.2.2.2.2.2.2.1 rfl rfl ?_
    refine cg_ru_shop hE hm fk_X7_48 dX7_finishIf_g0.2.2.2.2.2.2.2.2.2.2.1 ?_
    refine r_aload_n hE 0 dX7_finishIf_g0.2.2.2.2.2.2.2.2.2.2.2.1 rfl rfl ?_
    refine r_iconst (v := (0 : Int32)) hE dX7_finishIf_g0.2.2.2.2.2.2.2.2.2.2.2.2.1 (by decide) ?_
    refine c_callVi hE hm [.int (0 : Int32)] [.ref (G.1 1300)] ck_X7_171 (cr_ru hm rfl) (kc_ru_valueAt h) (by decide) rfl rfl (Nat.le_of_ble_eq_true rfl) dX7_finishIf_g0.2.2.2.2.2.2.2.2.2.2.2.2.2.1 (fun s6 r7 h => ?_)
    refine r_bipush (v := (78 : Int32)) hE dX7_finishIf_g0.2.2.2.2.2.2.2.2.2.2.2.2.2.2.1 (by decide) ?_
    refine c_callVi hE hm [.int r7, .int (78 : Int32)] [] ck_X7_222 (cr_wo hm rfl) (kc_wo_accepts h) (by decide) rfl rfl (Nat.le_of_ble_eq_true rfl) dX7_finishIf_g0.2.2.2.2.2.2.2.2.2.2.2.2.2.2.2 (fun s8 r9 h => ?_)
    refine r_if_ne hE 53 dX7_finishIf_g1.1 (by decide) h (fun h => ?_) (fun h => ?_)
    · refine r_aload_n hE 0 dX7_finishIf_g1.2.2.2.2.2.2.2.2.1 rfl rfl ?_
      refine cg_ru_shop hE hm fk_X7_48 dX7_finishIf_g1.2.2.2.2.2.2.2.2.2.1 ?_
      refine cg_wo_things hE hm fk_X7_61 dX7_finishIf_g1.2.2.2.2.2.2.2.2.2.2.1 ?_
      refine r_aload_n hE 0 dX7_finishIf_g1.2.2.2.2.2.2.2.2.2.2.2.1 rfl rfl ?_
      refine r_iconst (v := (0 : Int32)) hE dX7_finishIf_g1.2.2.2.2.2.2.2.2.2.2.2.2.1 (by decide) ?_
      refine c_callVi hE hm [.int (0 : Int32)] [.ref (G.1 900)] ck_X7_171 (cr_ru hm rfl) (kc_ru_valueAt h) (by decide) rfl rfl (Nat.le_of_ble_eq_true rfl) dX7_finishIf_g1.2.2.2.2.2.2.2.2.2.2.2.2.2.1 (fun s10 r11 h => ?_)
      refine r_iconst (v := (0 : Int32)) hE dX7_finishIf_g1.2.2.2.2.2.2.2.2.2.2.2.2.2.2.1 (by decide) ?_
      refine c_callVl hE hm [.int r11, .int (0 : Int32)] [] ck_X7_226 (cr_th hm rfl) (kc_th_partOf h) (by decide) rfl rfl (Nat.le_of_ble_eq_true rfl) dX7_finishIf_g1.2.2.2.2.2.2.2.2.2.2.2.2.2.2.2 (fun s12 r13 h => ?_)
      refine r_lconst (v := (1 : Int64)) hE dX7_finishIf_g2.1 (by decide) ?_
      refine r_lcmp hE dX7_finishIf_g2.2.1 ?_
      refine r_if_eq hE 78 dX7_finishIf_g2.2.2.1 (by decide) h (fun h => ?_) (fun h => ?_)
      · refine r_iconst (v := (0 : Int32)) hE dX7_finishIf_g2.2.2.2.2.2.1 (by decide) ?_
        exact kc_ru_finishIf_79 hE hm _ _ _ h
      · refine r_iconst (v := (1 : Int32)) hE dX7_finishIf_g2.2.2.2.1 (by decide) ?_
        refine r_goto hE 79 dX7_finishIf_g2.2.2.2.2.1 (by decide) ?_
        exact kc_ru_finishIf_79 hE hm _ _ _ h
    · refine r_aload_n hE 0 dX7_finishIf_g1.2.1 rfl rfl ?_
      refine r_aload_n hE 0 dX7_finishIf_g1.2.2.1 rfl rfl ?_
      refine cg_ru_shop hE hm fk_X7_48 dX7_finishIf_g1.2.2.2.1 ?_
      refine cg_wo_reckoner hE hm fk_X7_161 dX7_finishIf_g1.2.2.2.2.1 ?_
      refine cg_rk_failure hE hm fk_X7_165 dX7_finishIf_g1.2.2.2.2.2.1 ?_
      refine c_callVv hE hm [.int (c_rk_failure s8)] [] ck_X7_158 (cr_ru hm rfl) (kc_ru_fallDown h) (by decide) rfl rfl (Nat.le_of_ble_eq_true rfl) dX7_finishIf_g1.2.2.2.2.2.2.1 (fun s14 h => ?_)
      refine r_goto hE 107 dX7_finishIf_g1.2.2.2.2.2.2.2.1 (by decide) ?_
      exact c_vret hE hm dX7_finishIf_g3.2.2.2.2 h
  · refine r_aload_n hE 0 dX7_finishIf_g0.2.2.2.2.2.2.1 rfl rfl ?_
    refine c_callVv hE hm [] [] ck_X7_168 (cr_ru hm rfl) (kc_ru_drop h) (by decide) rfl rfl (Nat.le_of_ble_eq_true rfl) dX7_finishIf_g0.2.2.2.2.2.2.2.1 (fun s15 h => ?_)
    refine r_goto hE 107 dX7_finishIf_g0.2.2.2.2.2.2.2.2.1 (by decide) ?_
    exact c_vret hE hm dX7_finishIf_g3.2.2.2.2 h
/-! ru_finishTimes -/
def wc_ru_finishTimes_81 (post : CS → Prop) (σ : CS) (v1 : Int32) : Prop := vp_in (c_ru_top σ) 401 ∧ ((((0 : Int32) < (c_ru_turns σ (c_ru_top σ).toNatClampNeg)) → (wc_to_goOn (fun (s1 : CS) (r2 : Int32) => ((r2 = (0 : Int32)) → (post s1)) ∧ ((¬ (r2 = (0 : Int32))) → (∀ x3 : Int32, x3 = c_ru_top s1 → vp_in x3 401 ∧ (vp_in x3 401 ∧ (∀ s4 : CS, s4 = c_ru_turns_s s1 x3.toNatClampNeg ((c_ru_turns s1 x3.toNatClampNeg) - (1 : Int32)) → c_ru_figure s4 = 300 ∧ (wc_fg_bodyOf (fun (s5 : CS) (r6 : Int32) => wc_ru_enterBlock (fun (s7 : CS) => post s7) s5 r6) s4 v1)))))) σ)) ∧ ((¬ ((0 : Int32) < (c_ru_turns σ (c_ru_top σ).toNatClampNeg))) → (wc_ru_drop (fun (s8 : CS) => post s8) σ)))
set_option maxRecDepth 20000 in
theorem kc_ru_finishTimes_81 {E : gEnv} {l : Launch} {D : va_G} {G : gAd} {post : CS → Prop} (hE : gOK E cX7_finishTimes RX7 none 5) (hm : cOK E l D G (pV post) 3) (σ : CS) (v1 : Int32) (h : wc_ru_finishTimes_81 post σ v1) : GW E (cW G σ) 81 [(0, .ref (G.1 1200)), (1, .int v1)] [] := by
  unfold wc_ru_finishTimes_81 at h
  have hN := hm.2.2.2.2.2.2.1
  refine r_aload_n hE 0 dX7_finishTimes_g2.2.2.2.2.2.2.2.2.2.2.1 rfl rfl ?_
  refine cg_ru_turns hE hm fk_X7_25 dX7_finishTimes_g2.2.2.2.2.2.2.2.2.2.2.2.1 ?_
  refine r_aload_n hE 0 dX7_finishTimes_g2.2.2.2.2.2.2.2.2.2.2.2.2.1 rfl rfl ?_
  refine cg_ru_top hE hm fk_X7_28 dX7_finishTimes_g2.2.2.2.2.2.2.2.2.2.2.2.2.2.1 ?_
  obtain ⟨hi, h⟩ := h
  refine cl_ru_turns hE hm dX7_finishTimes_g2.2.2.2.2.2.2.2.2.2.2.2.2.2.2.1 hi ?_
  refine r_if_gt hE 100 dX7_finishTimes_g2.2.2.2.2.2.2.2.2.2.2.2.2.2.2.2 (by decide) h (fun h => ?_) (fun h => ?_)
  · refine r_aload_n hE 0 dX7_finishTimes_g3.2.2.2.1 rfl rfl ?_
    refine cg_ru_told hE hm fk_X7_52 dX7_finishTimes_g3.2.2.2.2.1 ?_
    refine c_callVi hE hm [] [] ck_X7_134 (cr_to hm rfl) (kc_to_goOn h) (by decide) rfl rfl (Nat.le_of_ble_eq_true rfl) dX7_finishTimes_g3.2.2.2.2.2.1 (fun s1 r2 h => ?_)
    refine r_if_eq hE 135 dX7_finishTimes_g3.2.2.2.2.2.2.1 (by decide) h (fun h => ?_) (fun h => ?_)
    · exact c_vret hE hm dX7_finishTimes_g4.2.2.2.2.2.2 h
    · refine r_aload_n hE 0 dX7_finishTimes_g3.2.2.2.2.2.2.2.1 rfl rfl ?_
      refine cg_ru_turns hE hm fk_X7_25 dX7_finishTimes_g3.2.2.2.2.2.2.2.2.1 ?_
      refine r_aload_n hE 0 dX7_finishTimes_g3.2.2.2.2.2.2.2.2.2.1 rfl rfl ?_
      refine cg_ru_top hE hm fk_X7_28 dX7_finishTimes_g3.2.2.2.2.2.2.2.2.2.2.1 ?_
      refine r_topi h (fun x3 ex3 h => ?_)
      refine r_dup2 hE dX7_finishTimes_g3.2.2.2.2.2.2.2.2.2.2.2.1 rfl rfl ?_
      obtain ⟨hi, h⟩ := h
      refine cl_ru_turns hE hm dX7_finishTimes_g3.2.2.2.2.2.2.2.2.2.2.2.2.1 hi ?_
      refine r_iconst (v := (1 : Int32)) hE dX7_finishTimes_g3.2.2.2.2.2.2.2.2.2.2.2.2.2.1 (by decide) ?_
      refine r_isub hE dX7_finishTimes_g3.2.2.2.2.2.2.2.2.2.2.2.2.2.2.1 ?_
      obtain ⟨hi, h⟩ := h
      refine cs_ru_turns hE hm dX7_finishTimes_g3.2.2.2.2.2.2.2.2.2.2.2.2.2.2.2 hi h (fun s4 h => ?_)
      refine r_aload_n hE 0 dX7_finishTimes_g4.1 rfl rfl ?_
      refine r_aload_n hE 0 dX7_finishTimes_g4.2.1 rfl rfl ?_
      obtain ⟨hj, h⟩ := h
      refine cg_ru_figure hE hm fk_X7_44 dX7_finishTimes_g4.2.2.1 hj ?_
      refine r_iload_n hE 1 dX7_finishTimes_g4.2.2.2.1 rfl rfl ?_
      refine c_callVi hE hm [.int v1] [.ref (G.1 1200)] ck_X7_230 (cr_fg hm rfl) (kc_fg_bodyOf h) (by decide) rfl rfl (Nat.le_of_ble_eq_true rfl) dX7_finishTimes_g4.2.2.2.2.1 (fun s5 r6 h => ?_)
      refine c_callVv hE hm [.int r6] [] ck_X7_219 (cr_ru hm rfl) (kc_ru_enterBlock h) (by decide) rfl rfl (Nat.le_of_ble_eq_true rfl) dX7_finishTimes_g4.2.2.2.2.2.1 (fun s7 h => ?_)
      exact c_vret hE hm dX7_finishTimes_g4.2.2.2.2.2.2 h
  · refine r_aload_n hE 0 dX7_finishTimes_g3.1 rfl rfl ?_
    refine c_callVv hE hm [] [] ck_X7_168 (cr_ru hm rfl) (kc_ru_drop h) (by decide) rfl rfl (Nat.le_of_ble_eq_true rfl) dX7_finishTimes_g3.2.1 (fun s8 h => ?_)
    refine r_goto hE 135 dX7_finishTimes_g3.2.2.1 (by decide) ?_
    exact c_vret hE hm dX7_finishTimes_g4.2.2.2.2.2.2 h
def wc_ru_finishTimes (post : CS → Prop) (σ : CS) (a1 : Int32) : Prop := vp_in (c_ru_top σ) 401 ∧ (((¬ ((c_ru_inBlock σ (c_ru_top σ).toNatClampNeg) = (0 : Int32))) → (wc_ru_finishTimes_81 post σ a1)) ∧ (((c_ru_inBlock σ (c_ru_top σ).toNatClampNeg) = (0 : Int32)) → (wc_ru_valueAt (fun (s9 : CS) (r10 : Int32) => wc_wo_accepts (fun (s11 : CS) (r12 : Int32) => ((¬ (r12 = (0 : Int32))) → (wc_ru_valueAt (fun (s13 : CS) (r14 : Int32) => wc_th_wholeOf (fun (s15 : CS) (r16 : Int32) => (((0 : Int32) ≤ r16) → (vp_in (c_ru_top s15) 401 ∧ (∀ s17 : CS, s17 = c_ru_turns_s s15 (c_ru_top s15).toNatClampNeg r16 → wc_ru_finishTimes_81 post s17 a1))) ∧ ((¬ ((0 : Int32) ≤ r16)) → (wc_ru_fallDown (fun (s18 : CS) => post s18) s15 (4 : Int32)))) s13 r14 (0 : Int32)) s11 (0 : Int32))) ∧ ((r12 = (0 : Int32)) → (wc_ru_fallDown (fun (s19 : CS) => post s19) s11 (c_rk_failure s11)))) s9 r10 (87 : Int32)) σ (0 : Int32))))
set_option maxRecDepth 20000 in
theorem kc_ru_finishTimes {l : Launch} {D : va_G} {G : gAd} {post : CS → Prop} {σ : CS} {a1 : Int32} (h : wc_ru_finishTimes post σ a1) : cMet l D G yX7_finishTimes cX7_finishTimes 3 none 5 [.ref (G.1 1200), .int a1] σ (pV post) := by
  unfold wc_ru_finishTimes at h
  refine c_enter (own := RX7) (by decide +kernel) rfl [(0, .ref (G.1 1200)), (1, .int a1)] rfl (Nat.le_of_ble_eq_true rfl) ?_
  intro E hE hm
  have hN := hm.2.2.2.2.2.2.1
  refine r_aload_n hE 0 dX7_finishTimes_g0.1 rfl rfl ?_
  refine cg_ru_inBlock hE hm fk_X7_21 dX7_finishTimes_g0.2.1 ?_
  refine r_aload_n hE 0 dX7_finishTimes_g0.2.2.1 rfl rfl ?_
  refine cg_ru_top hE hm fk_X7_28 dX7_finishTimes_g0.2.2.2.1 ?_
  obtain ⟨hi, h⟩ := h
  refine cl_ru_inBlock hE hm dX7_finishTimes_g0.2.2.2.2.1 hi ?_
  refine r_if_ne hE 81 dX7_finishTimes_g0.2.2.2.2.2.1 (by decide) h (fun h => ?_) (fun h => ?_)
  · exact kc_ru_finishTimes_81 hE hm _ _ h
  · refine r_aload_n hE 0 dX7_finishTimes_g0.2.2.2.2.2.2.1 rfl rfl ?_
    refine cg_ru_shop hE hm fk_X7_48 dX7_finishTimes_g0.2.2.2.2.2.2.2.1 ?_
    refine r_aload_n hE 0 dX7_finishTimes_g0.2.2.2.2.2.2.2.2.1 rfl rfl ?_
    refine r_iconst (v := (0 : Int32)) hE dX7_finishTimes_g0.2.2.2.2.2.2.2.2.2.1 (by decide) ?_
    refine c_callVi hE hm [.int (0 : Int32)] [.ref (G.1 1300)] ck_X7_171 (cr_ru hm rfl) (kc_ru_valueAt h) (by decide) rfl rfl (Nat.le_of_ble_eq_true rfl) dX7_finishTimes_g0.2.2.2.2.2.2.2.2.2.2.1 (fun s9 r10 h => ?_)
    refine r_bipush (v := (87 : Int32)) hE dX7_finishTimes_g0.2.2.2.2.2.2.2.2.2.2.2.1 (by decide) ?_
    refine c_callVi hE hm [.int r10, .int (87 : Int32)] [] ck_X7_222 (cr_wo hm rfl) (kc_wo_accepts h) (by decide) rfl rfl (Nat.le_of_ble_eq_true rfl) dX7_finishTimes_g0.2.2.2.2.2.2.2.2.2.2.2.2.1 (fun s11 r12 h => ?_)
    refine r_if_ne hE 44 dX7_finishTimes_g0.2.2.2.2.2.2.2.2.2.2.2.2.2.1 (by decide) h (fun h => ?_) (fun h => ?_)
    · refine r_aload_n hE 0 dX7_finishTimes_g1.2.2.2.2.2.1 rfl rfl ?_
      refine cg_ru_shop hE hm fk_X7_48 dX7_finishTimes_g1.2.2.2.2.2.2.1 ?_
      refine cg_wo_things hE hm fk_X7_61 dX7_finishTimes_g1.2.2.2.2.2.2.2.1 ?_
      refine r_aload_n hE 0 dX7_finishTimes_g1.2.2.2.2.2.2.2.2.1 rfl rfl ?_
      refine r_iconst (v := (0 : Int32)) hE dX7_finishTimes_g1.2.2.2.2.2.2.2.2.2.1 (by decide) ?_
      refine c_callVi hE hm [.int (0 : Int32)] [.ref (G.1 900)] ck_X7_171 (cr_ru hm rfl) (kc_ru_valueAt h) (by decide) rfl rfl (Nat.le_of_ble_eq_true rfl) dX7_finishTimes_g1.2.2.2.2.2.2.2.2.2.2.1 (fun s13 r14 h => ?_)
      refine r_iconst (v := (0 : Int32)) hE dX7_finishTimes_g1.2.2.2.2.2.2.2.2.2.2.2.1 (by decide) ?_
      refine c_callVi hE hm [.int r14, .int (0 : Int32)] [] ck_X7_236 (cr_th hm rfl) (kc_th_wholeOf h) (by decide) rfl rfl (Nat.le_of_ble_eq_true rfl) dX7_finishTimes_g1.2.2.2.2.2.2.2.2.2.2.2.2.1 (fun s15 r16 h => ?_)
      refine r_istore_n hE [(2, .int r16), (0, .ref (G.1 1200)), (1, .int a1)] dX7_finishTimes_g1.2.2.2.2.2.2.2.2.2.2.2.2.2.1 rfl hN (by decide) rfl ?_
      refine r_iload_n hE 0 dX7_finishTimes_g1.2.2.2.2.2.2.2.2.2.2.2.2.2.2.1 rfl rfl ?_
      refine r_if_ge hE 71 dX7_finishTimes_g1.2.2.2.2.2.2.2.2.2.2.2.2.2.2.2 (by decide) h (fun h => ?_) (fun h => ?_)
      · refine r_aload_n hE 1 dX7_finishTimes_g2.2.2.2.2.1 rfl rfl ?_
        refine cg_ru_turns hE hm fk_X7_25 dX7_finishTimes_g2.2.2.2.2.2.1 ?_
        refine r_aload_n hE 1 dX7_finishTimes_g2.2.2.2.2.2.2.1 rfl rfl ?_
        refine cg_ru_top hE hm fk_X7_28 dX7_finishTimes_g2.2.2.2.2.2.2.2.1 ?_
        refine r_iload_n hE 0 dX7_finishTimes_g2.2.2.2.2.2.2.2.2.1 rfl rfl ?_
        obtain ⟨hi, h⟩ := h
        refine cs_ru_turns hE hm dX7_finishTimes_g2.2.2.2.2.2.2.2.2.2.1 hi h (fun s17 h => ?_)
        refine r_pick [1, 2] rfl ?_
        exact kc_ru_finishTimes_81 hE hm _ _ h
      · refine r_aload_n hE 1 dX7_finishTimes_g2.1 rfl rfl ?_
        refine r_iconst (v := (4 : Int32)) hE dX7_finishTimes_g2.2.1 (by decide) ?_
        refine c_callVv hE hm [.int (4 : Int32)] [] ck_X7_158 (cr_ru hm rfl) (kc_ru_fallDown h) (by decide) rfl rfl (Nat.le_of_ble_eq_true rfl) dX7_finishTimes_g2.2.2.1 (fun s18 h => ?_)
        exact c_vret hE hm dX7_finishTimes_g2.2.2.2.1 h
    · refine r_aload_n hE 0 dX7_finishTimes_g0.2.2.2.2.2.2.2.2.2.2.2.2.2.2.1 rfl rfl ?_
      refine r_aload_n hE 0 dX7_finishTimes_g0.2.2.2.2.2.2.2.2.2.2.2.2.2.2.2 rfl rfl ?_
      refine cg_ru_shop hE hm fk_X7_48 dX7_finishTimes_g1.1 ?_
      refine cg_wo_reckoner hE hm fk_X7_161 dX7_finishTimes_g1.2.1 ?_
      refine cg_rk_failure hE hm fk_X7_165 dX7_finishTimes_g1.2.2.1 ?_
      refine c_callVv hE hm [.int (c_rk_failure s11)] [] ck_X7_158 (cr_ru hm rfl) (kc_ru_fallDown h) (by decide) rfl rfl (Nat.le_of_ble_eq_true rfl) dX7_finishTimes_g1.2.2.2.1 (fun s19 h => ?_)
      exact c_vret hE hm dX7_finishTimes_g1.2.2.2.2.1 h
/-! ru_finishState -/
def wc_ru_finishState_76 (post : CS → Prop) (σ : CS) (t1 : Int32) : Prop := wc_to_addStated (fun (s1 : CS) => wc_ru_drop (fun (s2 : CS) => post s2) s1) σ t1
set_option maxRecDepth 20000 in
theorem kc_ru_finishState_76 {E : gEnv} {l : Launch} {D : va_G} {G : gAd} {post : CS → Prop} (hE : gOK E cX7_finishState RX7 none 5) (hm : cOK E l D G (pV post) 2) (σ : CS) (t1 : Int32) (h : wc_ru_finishState_76 post σ t1) : GW E (cW G σ) 76 [(0, .ref (G.1 1200))] [.int t1, .ref (G.1 1100)] := by
  unfold wc_ru_finishState_76 at h
  have hN := hm.2.2.2.2.2.2.1
  refine c_callVv hE hm [.int t1] [] ck_X7_239 (cr_to hm rfl) (kc_to_addStated h) (by decide) rfl rfl (Nat.le_of_ble_eq_true rfl) dX7_finishState_g2.2.2.2.2.1 (fun s1 h => ?_)
  refine r_aload_n hE 0 dX7_finishState_g2.2.2.2.2.2.1 rfl rfl ?_
  refine c_callVv hE hm [] [] ck_X7_168 (cr_ru hm rfl) (kc_ru_drop h) (by decide) rfl rfl (Nat.le_of_ble_eq_true rfl) dX7_finishState_g2.2.2.2.2.2.2.1 (fun s2 h => ?_)
  exact c_vret hE hm dX7_finishState_g2.2.2.2.2.2.2.2 h
def wc_ru_finishState (post : CS → Prop) (σ : CS) (a1 : Int32) : Prop := wc_to_isFullOf (fun (s3 : CS) (r4 : Int32) => ((r4 = (0 : Int32)) → (wc_wo_accepts (fun (s5 : CS) (r6 : Int32) => ((¬ (r6 = (0 : Int32))) → (wc_th_partOf (fun (s7 : CS) (r8 : Int64) => (((lg_cmp r8 (1 : Int64)) = (0 : Int32)) → (wc_ru_finishState_76 post s7 (0 : Int32))) ∧ ((¬ ((lg_cmp r8 (1 : Int64)) = (0 : Int32))) → (wc_ru_finishState_76 post s7 (1 : Int32)))) s5 a1 (0 : Int32))) ∧ ((r6 = (0 : Int32)) → (wc_ru_fallDown (fun (s9 : CS) => post s9) s5 (c_rk_failure s5)))) s3 a1 (78 : Int32))) ∧ ((¬ (r4 = (0 : Int32))) → (wc_ru_fallDown (fun (s10 : CS) => post s10) s3 (9 : Int32)))) σ (4 : Int32)
set_option maxRecDepth 20000 in
theorem kc_ru_finishState {l : Launch} {D : va_G} {G : gAd} {post : CS → Prop} {σ : CS} {a1 : Int32} (h : wc_ru_finishState post σ a1) : cMet l D G yX7_finishState cX7_finishState 2 none 5 [.ref (G.1 1200), .int a1] σ (pV post) := by
  unfold wc_ru_finishState at h
  refine c_enter (own := RX7) (by decide +kernel) rfl [(0, .ref (G.1 1200)), (1, .int a1)] rfl (Nat.le_of_ble_eq_true rfl) ?_
  intro E hE hm
  have hN := hm.2.2.2.2.2.2.1
  refine r_aload_n hE 0 dX7_finishState_g0.1 rfl rfl ?_
  refine cg_ru_told hE hm fk_X7_52 dX7_finishState_g0.2.1 ?_
  refine r_iconst (v := (4 : Int32)) hE dX7_finishState_g0.2.2.1 (by decide) ?_
  refine c_callVi hE hm [.int (4 : Int32)] [] ck_X7_154 (cr_to hm rfl) (kc_to_isFullOf h) (by decide) rfl rfl (Nat.le_of_ble_eq_true rfl) dX7_finishState_g0.2.2.2.1 (fun s3 r4 h => ?_)
  refine r_if_eq hE 20 dX7_finishState_g0.2.2.2.2.1 (by decide) h (fun h => ?_) (fun h => ?_)
  · refine r_aload_n hE 0 dX7_finishState_g0.2.2.2.2.2.2.2.2.2.1 rfl rfl ?_
    refine cg_ru_shop hE hm fk_X7_48 dX7_finishState_g0.2.2.2.2.2.2.2.2.2.2.1 ?_
    refine r_iload_n hE 1 dX7_finishState_g0.2.2.2.2.2.2.2.2.2.2.2.1 rfl rfl ?_
    refine r_bipush (v := (78 : Int32)) hE dX7_finishState_g0.2.2.2.2.2.2.2.2.2.2.2.2.1 (by decide) ?_
    refine c_callVi hE hm [.int a1, .int (78 : Int32)] [] ck_X7_222 (cr_wo hm rfl) (kc_wo_accepts h) (by decide) rfl rfl (Nat.le_of_ble_eq_true rfl) dX7_finishState_g0.2.2.2.2.2.2.2.2.2.2.2.2.2.1 (fun s5 r6 h => ?_)
    refine r_if_ne hE 50 dX7_finishState_g0.2.2.2.2.2.2.2.2.2.2.2.2.2.2.1 (by decide) h (fun h => ?_) (fun h => ?_)
    · refine r_aload_n hE 0 dX7_finishState_g1.2.2.2.2.2.2.1 rfl rfl ?_
      refine cg_ru_told hE hm fk_X7_52 dX7_finishState_g1.2.2.2.2.2.2.2.1 ?_
      refine r_aload_n hE 0 dX7_finishState_g1.2.2.2.2.2.2.2.2.1 rfl rfl ?_
      refine cg_ru_shop hE hm fk_X7_48 dX7_finishState_g1.2.2.2.2.2.2.2.2.2.1 ?_
      refine cg_wo_things hE hm fk_X7_61 dX7_finishState_g1.2.2.2.2.2.2.2.2.2.2.1 ?_
      refine r_iload_n hE 1 dX7_finishState_g1.2.2.2.2.2.2.2.2.2.2.2.1 rfl rfl ?_
      refine r_iconst (v := (0 : Int32)) hE dX7_finishState_g1.2.2.2.2.2.2.2.2.2.2.2.2.1 (by decide) ?_
      refine c_callVl hE hm [.int a1, .int (0 : Int32)] [.ref (G.1 1100)] ck_X7_226 (cr_th hm rfl) (kc_th_partOf h) (by decide) rfl rfl (Nat.le_of_ble_eq_true rfl) dX7_finishState_g1.2.2.2.2.2.2.2.2.2.2.2.2.2.1 (fun s7 r8 h => ?_)
      refine r_lconst (v := (1 : Int64)) hE dX7_finishState_g1.2.2.2.2.2.2.2.2.2.2.2.2.2.2.1 (by decide) ?_
      refine r_lcmp hE dX7_finishState_g1.2.2.2.2.2.2.2.2.2.2.2.2.2.2.2 ?_
      refine r_if_eq hE 75 dX7_finishState_g2.1 (by decide) h (fun h => ?_) (fun h => ?_)
      · refine r_iconst (v := (0 : Int32)) hE dX7_finishState_g2.2.2.2.1 (by decide) ?_
        refine r_pick [0] rfl ?_
        exact kc_ru_finishState_76 hE hm _ _ h
      · refine r_iconst (v := (1 : Int32)) hE dX7_finishState_g2.2.1 (by decide) ?_
        refine r_goto hE 76 dX7_finishState_g2.2.2.1 (by decide) ?_
        refine r_pick [0] rfl ?_
        exact kc_ru_finishState_76 hE hm _ _ h
    · refine r_aload_n hE 0 dX7_finishState_g0.2.2.2.2.2.2.2.2.2.2.2.2.2.2.2 rfl rfl ?_
      refine r_aload_n hE 0 dX7_finishState_g1.1 rfl rfl ?_
      refine cg_ru_shop hE hm fk_X7_48 dX7_finishState_g1.2.1 ?_
      refine cg_wo_reckoner hE hm fk_X7_161 dX7_finishState_g1.2.2.1 ?_
      refine cg_rk_failure hE hm fk_X7_165 dX7_finishState_g1.2.2.2.1 ?_
      refine c_callVv hE hm [.int (c_rk_failure s5)] [] ck_X7_158 (cr_ru hm rfl) (kc_ru_fallDown h) (by decide) rfl rfl (Nat.le_of_ble_eq_true rfl) dX7_finishState_g1.2.2.2.2.1 (fun s9 h => ?_)
      refine r_goto hE 83 dX7_finishState_g1.2.2.2.2.2.1 (by decide) ?_
      exact c_vret hE hm dX7_finishState_g2.2.2.2.2.2.2.2 h
  · refine r_aload_n hE 0 dX7_finishState_g0.2.2.2.2.2.1 rfl rfl ?_
    refine r_bipush (v := (9 : Int32)) hE dX7_finishState_g0.2.2.2.2.2.2.1 (by decide) ?_
    refine c_callVv hE hm [.int (9 : Int32)] [] ck_X7_158 (cr_ru hm rfl) (kc_ru_fallDown h) (by decide) rfl rfl (Nat.le_of_ble_eq_true rfl) dX7_finishState_g0.2.2.2.2.2.2.2.1 (fun s10 h => ?_)
    refine r_goto hE 83 dX7_finishState_g0.2.2.2.2.2.2.2.2.1 (by decide) ?_
    exact c_vret hE hm dX7_finishState_g2.2.2.2.2.2.2.2 h
/-! ru_finishDraw -/
def wc_ru_finishDraw (post : CS → Prop) (σ : CS) (a1 : Int32) : Prop := ((¬ (a1 = (-1 : Int32))) → (wc_to_isFullOf (fun (s1 : CS) (r2 : Int32) => ((r2 = (0 : Int32)) → (wc_to_addDrawn (fun (s3 : CS) => wc_ru_drop (fun (s4 : CS) => post s4) s3) s1 a1)) ∧ ((¬ (r2 = (0 : Int32))) → (wc_ru_fallDown (fun (s5 : CS) => post s5) s1 (9 : Int32)))) σ (5 : Int32))) ∧ ((a1 = (-1 : Int32)) → (wc_ru_fallDown (fun (s6 : CS) => post s6) σ (1 : Int32)))
set_option maxRecDepth 20000 in
theorem kc_ru_finishDraw {l : Launch} {D : va_G} {G : gAd} {post : CS → Prop} {σ : CS} {a1 : Int32} (h : wc_ru_finishDraw post σ a1) : cMet l D G yX7_finishDraw cX7_finishDraw 2 none 5 [.ref (G.1 1200), .int a1] σ (pV post) := by
  unfold wc_ru_finishDraw at h
  refine c_enter (own := RX7) (by decide +kernel) rfl [(0, .ref (G.1 1200)), (1, .int a1)] rfl (Nat.le_of_ble_eq_true rfl) ?_
  intro E hE hm
  have hN := hm.2.2.2.2.2.2.1
  refine r_iload_n hE 1 dX7_finishDraw_g0.1 rfl rfl ?_
  refine r_iconst (v := (-1 : Int32)) hE dX7_finishDraw_g0.2.1 (by decide) ?_
  refine r_icmp_ne hE 13 dX7_finishDraw_g0.2.2.1 (by decide) h (fun h => ?_) (fun h => ?_)
  · refine r_aload_n hE 0 dX7_finishDraw_g0.2.2.2.2.2.2.2.1 rfl rfl ?_
    refine cg_ru_told hE hm fk_X7_52 dX7_finishDraw_g0.2.2.2.2.2.2.2.2.1 ?_
    refine r_iconst (v := (5 : Int32)) hE dX7_finishDraw_g0.2.2.2.2.2.2.2.2.2.1 (by decide) ?_
    refine c_callVi hE hm [.int (5 : Int32)] [] ck_X7_154 (cr_to hm rfl) (kc_to_isFullOf h) (by decide) rfl rfl (Nat.le_of_ble_eq_true rfl) dX7_finishDraw_g0.2.2.2.2.2.2.2.2.2.2.1 (fun s1 r2 h => ?_)
    refine r_if_eq hE 33 dX7_finishDraw_g0.2.2.2.2.2.2.2.2.2.2.2.1 (by decide) h (fun h => ?_) (fun h => ?_)
    · refine r_aload_n hE 0 dX7_finishDraw_g1.1 rfl rfl ?_
      refine cg_ru_told hE hm fk_X7_52 dX7_finishDraw_g1.2.1 ?_
      refine r_iload_n hE 1 dX7_finishDraw_g1.2.2.1 rfl rfl ?_
      refine c_callVv hE hm [.int a1] [] ck_X7_242 (cr_to hm rfl) (kc_to_addDrawn h) (by decide) rfl rfl (Nat.le_of_ble_eq_true rfl) dX7_finishDraw_g1.2.2.2.1 (fun s3 h => ?_)
      refine r_aload_n hE 0 dX7_finishDraw_g1.2.2.2.2.1 rfl rfl ?_
      refine c_callVv hE hm [] [] ck_X7_168 (cr_ru hm rfl) (kc_ru_drop h) (by decide) rfl rfl (Nat.le_of_ble_eq_true rfl) dX7_finishDraw_g1.2.2.2.2.2.1 (fun s4 h => ?_)
      exact c_vret hE hm dX7_finishDraw_g1.2.2.2.2.2.2 h
    · refine r_aload_n hE 0 dX7_finishDraw_g0.2.2.2.2.2.2.2.2.2.2.2.2.1 rfl rfl ?_
      refine r_bipush (v := (9 : Int32)) hE dX7_finishDraw_g0.2.2.2.2.2.2.2.2.2.2.2.2.2.1 (by decide) ?_
      refine c_callVv hE hm [.int (9 : Int32)] [] ck_X7_158 (cr_ru hm rfl) (kc_ru_fallDown h) (by decide) rfl rfl (Nat.le_of_ble_eq_true rfl) dX7_finishDraw_g0.2.2.2.2.2.2.2.2.2.2.2.2.2.2.1 (fun s5 h => ?_)
      refine r_goto hE 45 dX7_finishDraw_g0.2.2.2.2.2.2.2.2.2.2.2.2.2.2.2 (by decide) ?_
      exact c_vret hE hm dX7_finishDraw_g1.2.2.2.2.2.2 h
  · refine r_aload_n hE 0 dX7_finishDraw_g0.2.2.2.1 rfl rfl ?_
    refine r_iconst (v := (1 : Int32)) hE dX7_finishDraw_g0.2.2.2.2.1 (by decide) ?_
    refine c_callVv hE hm [.int (1 : Int32)] [] ck_X7_158 (cr_ru hm rfl) (kc_ru_fallDown h) (by decide) rfl rfl (Nat.le_of_ble_eq_true rfl) dX7_finishDraw_g0.2.2.2.2.2.1 (fun s6 h => ?_)
    refine r_goto hE 45 dX7_finishDraw_g0.2.2.2.2.2.2.1 (by decide) ?_
    exact c_vret hE hm dX7_finishDraw_g1.2.2.2.2.2.2 h
/-! wo_given -/
def wc_wo_given (post : CS → Int64 → Prop) (σ : CS) (a1 : Int32) (a2 : Int32) : Prop := wc_SX12_inside (fun (s1 : CS) (r2 : Int32) => ((r2 = (0 : Int32)) → (post s1 (1 : Int64))) ∧ ((¬ (r2 = (0 : Int32))) → (vp_in a1 3 ∧ (wc_th_partOf (fun (s3 : CS) (r4 : Int64) => post s3 r4) s1 (c_wo_arguments s1 a1.toNatClampNeg) a2)))) σ a1 (3 : Int32)
set_option maxRecDepth 20000 in
theorem kc_wo_given {l : Launch} {D : va_G} {G : gAd} {post : CS → Int64 → Prop} {σ : CS} {a1 : Int32} {a2 : Int32} (h : wc_wo_given post σ a1 a2) : cMet l D G yX11_given cX11_given 3 (some .long) 2 [.ref (G.1 1300), .int a1, .int a2] σ (pL post) := by
  unfold wc_wo_given at h
  refine c_enter (own := RX11) (by decide +kernel) rfl [(0, .ref (G.1 1300)), (1, .int a1), (2, .int a2)] rfl (Nat.le_of_ble_eq_true rfl) ?_
  intro E hE hm
  have hN := hm.2.2.2.2.2.2.1
  refine r_iload_n hE 1 dX11_given_g0.1 rfl rfl ?_
  refine r_aload_n hE 0 dX11_given_g0.2.1 rfl rfl ?_
  refine cg_wo_arguments hE hm fk_X11_9 dX11_given_g0.2.2.1 ?_
  refine cn_wo_arguments hE hm dX11_given_g0.2.2.2.1 ?_
  refine c_callSNi hE hm [.int a1, .int (3 : Int32)] [] ck_X11_69 cw_X11_69 (kc_SX12_inside h) (by decide) rfl rfl (Nat.le_of_ble_eq_true rfl) dX11_given_g0.2.2.2.2.1 (fun s1 r2 h => ?_)
  refine r_if_eq hE 29 dX11_given_g0.2.2.2.2.2.1 (by decide) h (fun h => ?_) (fun h => ?_)
  · refine r_lconst (v := (1 : Int64)) hE dX11_given_g0.2.2.2.2.2.2.2.2.2.2.2.2.2.2.2 (by decide) ?_
    exact c_lret hE hm dX11_given_g1 h
  · refine r_aload_n hE 0 dX11_given_g0.2.2.2.2.2.2.1 rfl rfl ?_
    refine cg_wo_things hE hm fk_X11_40 dX11_given_g0.2.2.2.2.2.2.2.1 ?_
    refine r_aload_n hE 0 dX11_given_g0.2.2.2.2.2.2.2.2.1 rfl rfl ?_
    refine cg_wo_arguments hE hm fk_X11_9 dX11_given_g0.2.2.2.2.2.2.2.2.2.1 ?_
    refine r_iload_n hE 1 dX11_given_g0.2.2.2.2.2.2.2.2.2.2.1 rfl rfl ?_
    obtain ⟨hi, h⟩ := h
    refine cl_wo_arguments hE hm dX11_given_g0.2.2.2.2.2.2.2.2.2.2.2.1 hi ?_
    refine r_iload_n hE 2 dX11_given_g0.2.2.2.2.2.2.2.2.2.2.2.2.1 rfl rfl ?_
    refine c_callVl hE hm [.int (c_wo_arguments s1 a1.toNatClampNeg), .int a2] [] ck_X11_73 (cr_th hm rfl) (kc_th_partOf h) (by decide) rfl rfl (Nat.le_of_ble_eq_true rfl) dX11_given_g0.2.2.2.2.2.2.2.2.2.2.2.2.2.1 (fun s3 r4 h => ?_)
    refine r_goto hE 30 dX11_given_g0.2.2.2.2.2.2.2.2.2.2.2.2.2.2.1 (by decide) ?_
    exact c_lret hE hm dX11_given_g1 h
/-! wo_newPoint -/
def wc_wo_newPoint (post : CS → Int32 → Prop) (σ : CS) (a1 : Int32) (a2 : Int32) : Prop := (((c_rk_failure σ) = (0 : Int32)) → (wc_th_add (fun (s1 : CS) (r2 : Int32) => wc_th_setPart (fun (s3 : CS) => wc_th_setPart (fun (s4 : CS) => post s4 r2) s3 r2 (1 : Int32) (c_wo_y s3)) s1 r2 (0 : Int32) (c_wo_x s1)) σ a1 a2)) ∧ ((¬ ((c_rk_failure σ) = (0 : Int32))) → (post σ (-1 : Int32)))
set_option maxRecDepth 20000 in
theorem kc_wo_newPoint {l : Launch} {D : va_G} {G : gAd} {post : CS → Int32 → Prop} {σ : CS} {a1 : Int32} {a2 : Int32} (h : wc_wo_newPoint post σ a1 a2) : cMet l D G yX11_newPoint cX11_newPoint 4 (some .int) 3 [.ref (G.1 1300), .int a1, .int a2] σ (pI post) := by
  unfold wc_wo_newPoint at h
  refine c_enter (own := RX11) (by decide +kernel) rfl [(0, .ref (G.1 1300)), (1, .int a1), (2, .int a2)] rfl (Nat.le_of_ble_eq_true rfl) ?_
  intro E hE hm
  have hN := hm.2.2.2.2.2.2.1
  refine r_aload_n hE 0 dX11_newPoint_g0.1 rfl rfl ?_
  refine cg_wo_reckoner hE hm fk_X11_36 dX11_newPoint_g0.2.1 ?_
  refine cg_rk_failure hE hm fk_X11_65 dX11_newPoint_g0.2.2.1 ?_
  refine r_if_eq hE 12 dX11_newPoint_g0.2.2.2.1 (by decide) h (fun h => ?_) (fun h => ?_)
  · refine r_aload_n hE 0 dX11_newPoint_g0.2.2.2.2.2.2.1 rfl rfl ?_
    refine cg_wo_things hE hm fk_X11_40 dX11_newPoint_g0.2.2.2.2.2.2.2.1 ?_
    refine r_iload_n hE 1 dX11_newPoint_g0.2.2.2.2.2.2.2.2.1 rfl rfl ?_
    refine r_iload_n hE 2 dX11_newPoint_g0.2.2.2.2.2.2.2.2.2.1 rfl rfl ?_
    refine c_callVi hE hm [.int a1, .int a2] [] ck_X11_149 (cr_th hm rfl) (kc_th_add h) (by decide) rfl rfl (Nat.le_of_ble_eq_true rfl) dX11_newPoint_g0.2.2.2.2.2.2.2.2.2.2.1 (fun s1 r2 h => ?_)
    refine r_istore_n hE [(3, .int r2), (0, .ref (G.1 1300)), (1, .int a1), (2, .int a2)] dX11_newPoint_g0.2.2.2.2.2.2.2.2.2.2.2.1 rfl hN (by decide) rfl ?_
    refine r_aload_n hE 1 dX11_newPoint_g0.2.2.2.2.2.2.2.2.2.2.2.2.1 rfl rfl ?_
    refine cg_wo_things hE hm fk_X11_40 dX11_newPoint_g0.2.2.2.2.2.2.2.2.2.2.2.2.2.1 ?_
    refine r_iload_n hE 0 dX11_newPoint_g0.2.2.2.2.2.2.2.2.2.2.2.2.2.2.1 rfl rfl ?_
    refine r_iconst (v := (0 : Int32)) hE dX11_newPoint_g0.2.2.2.2.2.2.2.2.2.2.2.2.2.2.2 (by decide) ?_
    refine r_aload_n hE 1 dX11_newPoint_g1.1 rfl rfl ?_
    refine cg_wo_x hE hm fk_X11_17 dX11_newPoint_g1.2.1 ?_
    refine c_callVv hE hm [.int r2, .int (0 : Int32), .long (c_wo_x s1)] [] ck_X11_152 (cr_th hm rfl) (kc_th_setPart h) (by decide) rfl rfl (Nat.le_of_ble_eq_true rfl) dX11_newPoint_g1.2.2.1 (fun s3 h => ?_)
    refine r_aload_n hE 1 dX11_newPoint_g1.2.2.2.1 rfl rfl ?_
    refine cg_wo_things hE hm fk_X11_40 dX11_newPoint_g1.2.2.2.2.1 ?_
    refine r_iload_n hE 0 dX11_newPoint_g1.2.2.2.2.2.1 rfl rfl ?_
    refine r_iconst (v := (1 : Int32)) hE dX11_newPoint_g1.2.2.2.2.2.2.1 (by decide) ?_
    refine r_aload_n hE 1 dX11_newPoint_g1.2.2.2.2.2.2.2.1 rfl rfl ?_
    refine cg_wo_y hE hm fk_X11_21 dX11_newPoint_g1.2.2.2.2.2.2.2.2.1 ?_
    refine c_callVv hE hm [.int r2, .int (1 : Int32), .long (c_wo_y s3)] [] ck_X11_152 (cr_th hm rfl) (kc_th_setPart h) (by decide) rfl rfl (Nat.le_of_ble_eq_true rfl) dX11_newPoint_g1.2.2.2.2.2.2.2.2.2.1 (fun s4 h => ?_)
    refine r_iload_n hE 0 dX11_newPoint_g1.2.2.2.2.2.2.2.2.2.2.1 rfl rfl ?_
    exact c_iret hE hm dX11_newPoint_g1.2.2.2.2.2.2.2.2.2.2.2 h
  · refine r_iconst (v := (-1 : Int32)) hE dX11_newPoint_g0.2.2.2.2.1 (by decide) ?_
    exact c_iret hE hm dX11_newPoint_g0.2.2.2.2.2.1 h
/-! wo_newFree -/
def wc_wo_newFree_101 (post : CS → Int32 → Prop) (σ : CS) (t1 : Int32) (t2 : Int32) : Prop := wc_wo_newPoint (fun (s1 : CS) (r2 : Int32) => wc_fr_come (fun (s3 : CS) => post s3 r2) s1 r2) σ t1 t2
set_option maxRecDepth 20000 in
theorem kc_wo_newFree_101 {E : gEnv} {l : Launch} {D : va_G} {G : gAd} {post : CS → Int32 → Prop} (hE : gOK E cX11_newFree RX11 (some .int) 4) (hm : cOK E l D G (pI post) 5) (σ : CS) (t1 : Int32) (t2 : Int32) (h : wc_wo_newFree_101 post σ t1 t2) : GW E (cW G σ) 101 [(0, .ref (G.1 1300))] [.int t2, .int t1, .ref (G.1 1300)] := by
  unfold wc_wo_newFree_101 at h
  have hN := hm.2.2.2.2.2.2.1
  refine c_callVi hE hm [.int t1, .int t2] [] ck_X11_115 (cr_wo hm rfl) (kc_wo_newPoint h) (by decide) rfl rfl (Nat.le_of_ble_eq_true rfl) dX11_newFree_g3.2.2.2.2.2.2.2.2.2.1 (fun s1 r2 h => ?_)
  refine r_istore hE [(4, .int r2), (0, .ref (G.1 1300))] dX11_newFree_g3.2.2.2.2.2.2.2.2.2.2.1 hN (by decide) rfl ?_
  refine r_aload_n hE 1 dX11_newFree_g3.2.2.2.2.2.2.2.2.2.2.2.1 rfl rfl ?_
  refine cg_wo_frees hE hm fk_X11_44 dX11_newFree_g3.2.2.2.2.2.2.2.2.2.2.2.2.1 ?_
  refine r_iload hE 0 dX11_newFree_g3.2.2.2.2.2.2.2.2.2.2.2.2.2.1 rfl ?_
  refine c_callVv hE hm [.int r2] [] ck_X11_172 (cr_fr hm rfl) (kc_fr_come h) (by decide) rfl rfl (Nat.le_of_ble_eq_true rfl) dX11_newFree_g3.2.2.2.2.2.2.2.2.2.2.2.2.2.2.1 (fun s3 h => ?_)
  refine r_iload hE 0 dX11_newFree_g3.2.2.2.2.2.2.2.2.2.2.2.2.2.2.2 rfl ?_
  exact c_iret hE hm dX11_newFree_g4 h
def wc_wo_newFree_81 (post : CS → Int32 → Prop) (σ : CS) (v1 : Int32) (v2 : Int32) (v3 : Int32) (t1 : Int64) : Prop := ∀ s4 : CS, s4 = c_wo_y_s σ t1 → ((v3 = (0 : Int32)) → (wc_wo_newFree_101 post s4 (2 : Int32) (v1 ||| ((1 : Int32) <<< (v2 &&& 31))))) ∧ ((¬ (v3 = (0 : Int32))) → (wc_wo_newFree_101 post s4 (2 : Int32) ((1 : Int32) <<< (v2 &&& 31))))
set_option maxRecDepth 20000 in
theorem kc_wo_newFree_81 {E : gEnv} {l : Launch} {D : va_G} {G : gAd} {post : CS → Int32 → Prop} (hE : gOK E cX11_newFree RX11 (some .int) 4) (hm : cOK E l D G (pI post) 5) (σ : CS) (v1 : Int32) (v2 : Int32) (v3 : Int32) (t1 : Int64) (h : wc_wo_newFree_81 post σ v1 v2 v3 t1) : GW E (cW G σ) 81 [(0, .ref (G.1 1300)), (1, .int v1), (2, .int v2), (3, .int v3)] [.long t1, .ref (G.1 1300)] := by
  unfold wc_wo_newFree_81 at h
  have hN := hm.2.2.2.2.2.2.1
  refine cp_wo_y hE hm fk_X11_21 dX11_newFree_g2.2.2.2.2.2.2.2.2.2.2.2.1 h (fun s4 h => ?_)
  refine r_aload_n hE 0 dX11_newFree_g2.2.2.2.2.2.2.2.2.2.2.2.2.1 rfl rfl ?_
  refine r_iconst (v := (2 : Int32)) hE dX11_newFree_g2.2.2.2.2.2.2.2.2.2.2.2.2.2.1 (by decide) ?_
  refine r_iload_n hE 3 dX11_newFree_g2.2.2.2.2.2.2.2.2.2.2.2.2.2.2.1 rfl rfl ?_
  refine r_if_eq hE 96 dX11_newFree_g2.2.2.2.2.2.2.2.2.2.2.2.2.2.2.2 (by decide) h (fun h => ?_) (fun h => ?_)
  · refine r_iload_n hE 1 dX11_newFree_g3.2.2.2.2.1 rfl rfl ?_
    refine r_iconst (v := (1 : Int32)) hE dX11_newFree_g3.2.2.2.2.2.1 (by decide) ?_
    refine r_iload_n hE 2 dX11_newFree_g3.2.2.2.2.2.2.1 rfl rfl ?_
    refine r_ishl hE dX11_newFree_g3.2.2.2.2.2.2.2.1 ?_
    refine r_ior hE dX11_newFree_g3.2.2.2.2.2.2.2.2.1 ?_
    refine r_pick [0] rfl ?_
    exact kc_wo_newFree_101 hE hm _ _ _ h
  · refine r_iconst (v := (1 : Int32)) hE dX11_newFree_g3.1 (by decide) ?_
    refine r_iload_n hE 2 dX11_newFree_g3.2.1 rfl rfl ?_
    refine r_ishl hE dX11_newFree_g3.2.2.1 ?_
    refine r_goto hE 101 dX11_newFree_g3.2.2.2.1 (by decide) ?_
    refine r_pick [0] rfl ?_
    exact kc_wo_newFree_101 hE hm _ _ _ h
def wc_wo_newFree_56 (post : CS → Int32 → Prop) (σ : CS) (v1 : Int32) (v2 : Int32) (v3 : Int32) (t1 : Int64) : Prop := ∀ s5 : CS, s5 = c_wo_x_s σ t1 → ((v3 = (0 : Int32)) → (wc_wo_given (fun (s6 : CS) (r7 : Int64) => wc_wo_newFree_81 post s6 v1 v2 v3 r7) s5 (1 : Int32) (0 : Int32))) ∧ ((¬ (v3 = (0 : Int32))) → (wc_fr_yOf (fun (s8 : CS) (r9 : Int64) => wc_wo_newFree_81 post s8 v1 v2 v3 r9) s5 v2))
set_option maxRecDepth 20000 in
theorem kc_wo_newFree_56 {E : gEnv} {l : Launch} {D : va_G} {G : gAd} {post : CS → Int32 → Prop} (hE : gOK E cX11_newFree RX11 (some .int) 4) (hm : cOK E l D G (pI post) 5) (σ : CS) (v1 : Int32) (v2 : Int32) (v3 : Int32) (t1 : Int64) (h : wc_wo_newFree_56 post σ v1 v2 v3 t1) : GW E (cW G σ) 56 [(0, .ref (G.1 1300)), (1, .int v1), (2, .int v2), (3, .int v3)] [.long t1, .ref (G.1 1300)] := by
  unfold wc_wo_newFree_56 at h
  have hN := hm.2.2.2.2.2.2.1
  refine cp_wo_x hE hm fk_X11_17 dX11_newFree_g1.2.2.2.2.2.2.2.2.2.2.2.2.2.2.1 h (fun s5 h => ?_)
  refine r_aload_n hE 0 dX11_newFree_g1.2.2.2.2.2.2.2.2.2.2.2.2.2.2.2 rfl rfl ?_
  refine r_iload_n hE 3 dX11_newFree_g2.1 rfl rfl ?_
  refine r_if_eq hE 75 dX11_newFree_g2.2.1 (by decide) h (fun h => ?_) (fun h => ?_)
  · refine r_aload_n hE 0 dX11_newFree_g2.2.2.2.2.2.2.2.1 rfl rfl ?_
    refine r_iconst (v := (1 : Int32)) hE dX11_newFree_g2.2.2.2.2.2.2.2.2.1 (by decide) ?_
    refine r_iconst (v := (0 : Int32)) hE dX11_newFree_g2.2.2.2.2.2.2.2.2.2.1 (by decide) ?_
    refine c_callVl hE hm [.int (1 : Int32), .int (0 : Int32)] [.ref (G.1 1300)] ck_X11_126 (cr_wo hm rfl) (kc_wo_given h) (by decide) rfl rfl (Nat.le_of_ble_eq_true rfl) dX11_newFree_g2.2.2.2.2.2.2.2.2.2.2.1 (fun s6 r7 h => ?_)
    exact kc_wo_newFree_81 hE hm _ _ _ _ _ h
  · refine r_aload_n hE 0 dX11_newFree_g2.2.2.1 rfl rfl ?_
    refine cg_wo_frees hE hm fk_X11_44 dX11_newFree_g2.2.2.2.1 ?_
    refine r_iload_n hE 2 dX11_newFree_g2.2.2.2.2.1 rfl rfl ?_
    refine c_callVl hE hm [.int v2] [.ref (G.1 1300)] ck_X11_169 (cr_fr hm rfl) (kc_fr_yOf h) (by decide) rfl rfl (Nat.le_of_ble_eq_true rfl) dX11_newFree_g2.2.2.2.2.2.1 (fun s8 r9 h => ?_)
    refine r_goto hE 81 dX11_newFree_g2.2.2.2.2.2.2.1 (by decide) ?_
    exact kc_wo_newFree_81 hE hm _ _ _ _ _ h
def wc_wo_newFree (post : CS → Int32 → Prop) (σ : CS) (a1 : Int32) : Prop := ∀ x10 : Int32, x10 = c_fr_came σ → ((x10 < (12 : Int32)) → (wc_fr_isMoved (fun (s11 : CS) (r12 : Int32) => ((r12 = (0 : Int32)) → (wc_wo_given (fun (s13 : CS) (r14 : Int64) => wc_wo_newFree_56 post s13 a1 x10 r12 r14) s11 (0 : Int32) (0 : Int32))) ∧ ((¬ (r12 = (0 : Int32))) → (wc_fr_xOf (fun (s15 : CS) (r16 : Int64) => wc_wo_newFree_56 post s15 a1 x10 r12 r16) s11 x10))) σ x10)) ∧ ((¬ (x10 < (12 : Int32))) → (wc_rk_fail (fun (s17 : CS) => post s17 (-1 : Int32)) σ (9 : Int32)))
set_option maxRecDepth 20000 in
theorem kc_wo_newFree {l : Launch} {D : va_G} {G : gAd} {post : CS → Int32 → Prop} {σ : CS} {a1 : Int32} (h : wc_wo_newFree post σ a1) : cMet l D G yX11_newFree cX11_newFree 5 (some .int) 4 [.ref (G.1 1300), .int a1] σ (pI post) := by
  unfold wc_wo_newFree at h
  refine c_enter (own := RX11) (by decide +kernel) rfl [(0, .ref (G.1 1300)), (1, .int a1)] rfl (Nat.le_of_ble_eq_true rfl) ?_
  intro E hE hm
  have hN := hm.2.2.2.2.2.2.1
  refine r_aload_n hE 0 dX11_newFree_g0.1 rfl rfl ?_
  refine cg_wo_frees hE hm fk_X11_44 dX11_newFree_g0.2.1 ?_
  refine cg_fr_came hE hm fk_X11_156 dX11_newFree_g0.2.2.1 ?_
  refine r_topi h (fun x10 ex10 h => ?_)
  refine r_istore_n hE [(2, .int x10), (0, .ref (G.1 1300)), (1, .int a1)] dX11_newFree_g0.2.2.2.1 rfl hN (by decide) rfl ?_
  refine r_iload_n hE 0 dX11_newFree_g0.2.2.2.2.1 rfl rfl ?_
  refine r_bipush (v := (12 : Int32)) hE dX11_newFree_g0.2.2.2.2.2.1 (by decide) ?_
  refine r_icmp_lt hE 25 dX11_newFree_g0.2.2.2.2.2.2.1 (by decide) h (fun h => ?_) (fun h => ?_)
  · refine r_aload_n hE 1 dX11_newFree_g0.2.2.2.2.2.2.2.2.2.2.2.2.2.1 rfl rfl ?_
    refine cg_wo_frees hE hm fk_X11_44 dX11_newFree_g0.2.2.2.2.2.2.2.2.2.2.2.2.2.2.1 ?_
    refine r_iload_n hE 0 dX11_newFree_g0.2.2.2.2.2.2.2.2.2.2.2.2.2.2.2 rfl rfl ?_
    refine c_callVi hE hm [.int x10] [] ck_X11_161 (cr_fr hm rfl) (kc_fr_isMoved h) (by decide) rfl rfl (Nat.le_of_ble_eq_true rfl) dX11_newFree_g1.1 (fun s11 r12 h => ?_)
    refine r_istore_n hE [(3, .int r12), (2, .int x10), (0, .ref (G.1 1300)), (1, .int a1)] dX11_newFree_g1.2.1 rfl hN (by decide) rfl ?_
    refine r_aload_n hE 2 dX11_newFree_g1.2.2.1 rfl rfl ?_
    refine r_iload_n hE 0 dX11_newFree_g1.2.2.2.1 rfl rfl ?_
    refine r_if_eq hE 50 dX11_newFree_g1.2.2.2.2.1 (by decide) h (fun h => ?_) (fun h => ?_)
    · refine r_aload_n hE 2 dX11_newFree_g1.2.2.2.2.2.2.2.2.2.2.1 rfl rfl ?_
      refine r_iconst (v := (0 : Int32)) hE dX11_newFree_g1.2.2.2.2.2.2.2.2.2.2.2.1 (by decide) ?_
      refine r_iconst (v := (0 : Int32)) hE dX11_newFree_g1.2.2.2.2.2.2.2.2.2.2.2.2.1 (by decide) ?_
      refine c_callVl hE hm [.int (0 : Int32), .int (0 : Int32)] [.ref (G.1 1300)] ck_X11_126 (cr_wo hm rfl) (kc_wo_given h) (by decide) rfl rfl (Nat.le_of_ble_eq_true rfl) dX11_newFree_g1.2.2.2.2.2.2.2.2.2.2.2.2.2.1 (fun s13 r14 h => ?_)
      refine r_pick [2, 3, 1, 0] rfl ?_
      exact kc_wo_newFree_56 hE hm _ _ _ _ _ h
    · refine r_aload_n hE 2 dX11_newFree_g1.2.2.2.2.2.1 rfl rfl ?_
      refine cg_wo_frees hE hm fk_X11_44 dX11_newFree_g1.2.2.2.2.2.2.1 ?_
      refine r_iload_n hE 1 dX11_newFree_g1.2.2.2.2.2.2.2.1 rfl rfl ?_
      refine c_callVl hE hm [.int x10] [.ref (G.1 1300)] ck_X11_165 (cr_fr hm rfl) (kc_fr_xOf h) (by decide) rfl rfl (Nat.le_of_ble_eq_true rfl) dX11_newFree_g1.2.2.2.2.2.2.2.2.1 (fun s15 r16 h => ?_)
      refine r_goto hE 56 dX11_newFree_g1.2.2.2.2.2.2.2.2.2.1 (by decide) ?_
      refine r_pick [2, 3, 1, 0] rfl ?_
      exact kc_wo_newFree_56 hE hm _ _ _ _ _ h
  · refine r_aload_n hE 1 dX11_newFree_g0.2.2.2.2.2.2.2.1 rfl rfl ?_
    refine cg_wo_reckoner hE hm fk_X11_36 dX11_newFree_g0.2.2.2.2.2.2.2.2.1 ?_
    refine r_bipush (v := (9 : Int32)) hE dX11_newFree_g0.2.2.2.2.2.2.2.2.2.1 (by decide) ?_
    refine c_callVv hE hm [.int (9 : Int32)] [] ck_X11_48 (cr_rk hm rfl) (kc_rk_fail h) (by decide) rfl rfl (Nat.le_of_ble_eq_true rfl) dX11_newFree_g0.2.2.2.2.2.2.2.2.2.2.1 (fun s17 h => ?_)
    refine r_iconst (v := (-1 : Int32)) hE dX11_newFree_g0.2.2.2.2.2.2.2.2.2.2.2.1 (by decide) ?_
    exact c_iret hE hm dX11_newFree_g0.2.2.2.2.2.2.2.2.2.2.2.2.1 h
/-! wo_newCircle -/
def wc_wo_newCircle (post : CS → Int32 → Prop) (σ : CS) (a1 : Int32) : Prop := wc_wo_newPoint (fun (s1 : CS) (r2 : Int32) => wc_th_setPart (fun (s3 : CS) => post s3 r2) s1 r2 (2 : Int32) (c_wo_square s1)) σ (5 : Int32) a1
set_option maxRecDepth 20000 in
theorem kc_wo_newCircle {l : Launch} {D : va_G} {G : gAd} {post : CS → Int32 → Prop} {σ : CS} {a1 : Int32} (h : wc_wo_newCircle post σ a1) : cMet l D G yX11_newCircle cX11_newCircle 3 (some .int) 4 [.ref (G.1 1300), .int a1] σ (pI post) := by
  unfold wc_wo_newCircle at h
  refine c_enter (own := RX11) (by decide +kernel) rfl [(0, .ref (G.1 1300)), (1, .int a1)] rfl (Nat.le_of_ble_eq_true rfl) ?_
  intro E hE hm
  have hN := hm.2.2.2.2.2.2.1
  refine r_aload_n hE 0 dX11_newCircle_g0.1 rfl rfl ?_
  refine r_iconst (v := (5 : Int32)) hE dX11_newCircle_g0.2.1 (by decide) ?_
  refine r_iload_n hE 1 dX11_newCircle_g0.2.2.1 rfl rfl ?_
  refine c_callVi hE hm [.int (5 : Int32), .int a1] [] ck_X11_115 (cr_wo hm rfl) (kc_wo_newPoint h) (by decide) rfl rfl (Nat.le_of_ble_eq_true rfl) dX11_newCircle_g0.2.2.2.1 (fun s1 r2 h => ?_)
  refine r_istore_n hE [(2, .int r2), (0, .ref (G.1 1300)), (1, .int a1)] dX11_newCircle_g0.2.2.2.2.1 rfl hN (by decide) rfl ?_
  refine r_aload_n hE 1 dX11_newCircle_g0.2.2.2.2.2.1 rfl rfl ?_
  refine cg_wo_things hE hm fk_X11_40 dX11_newCircle_g0.2.2.2.2.2.2.1 ?_
  refine r_iload_n hE 0 dX11_newCircle_g0.2.2.2.2.2.2.2.1 rfl rfl ?_
  refine r_iconst (v := (2 : Int32)) hE dX11_newCircle_g0.2.2.2.2.2.2.2.2.1 (by decide) ?_
  refine r_aload_n hE 1 dX11_newCircle_g0.2.2.2.2.2.2.2.2.2.1 rfl rfl ?_
  refine cg_wo_square hE hm fk_X11_33 dX11_newCircle_g0.2.2.2.2.2.2.2.2.2.2.1 ?_
  refine c_callVv hE hm [.int r2, .int (2 : Int32), .long (c_wo_square s1)] [] ck_X11_152 (cr_th hm rfl) (kc_th_setPart h) (by decide) rfl rfl (Nat.le_of_ble_eq_true rfl) dX11_newCircle_g0.2.2.2.2.2.2.2.2.2.2.2.1 (fun s3 h => ?_)
  refine r_iload_n hE 0 dX11_newCircle_g0.2.2.2.2.2.2.2.2.2.2.2.2.1 rfl rfl ?_
  exact c_iret hE hm dX11_newCircle_g0.2.2.2.2.2.2.2.2.2.2.2.2.2 h
/-! wo_newLine -/
def wc_wo_newLine (post : CS → Int32 → Prop) (σ : CS) (a1 : Int32) (a2 : Int32) : Prop := (((c_rk_failure σ) = (0 : Int32)) → (wc_th_add (fun (s1 : CS) (r2 : Int32) => wc_th_setPart (fun (s3 : CS) => wc_th_setPart (fun (s4 : CS) => wc_th_setPart (fun (s5 : CS) => ((¬ (a1 = (4 : Int32))) → (post s5 r2)) ∧ ((a1 = (4 : Int32)) → (wc_wo_given (fun (s6 : CS) (r7 : Int64) => wc_th_setPart (fun (s8 : CS) => wc_wo_given (fun (s9 : CS) (r10 : Int64) => wc_th_setPart (fun (s11 : CS) => wc_wo_given (fun (s12 : CS) (r13 : Int64) => wc_th_setPart (fun (s14 : CS) => wc_wo_given (fun (s15 : CS) (r16 : Int64) => wc_th_setPart (fun (s17 : CS) => post s17 r2) s15 r2 (6 : Int32) r16) s14 (1 : Int32) (1 : Int32)) s12 r2 (5 : Int32) r13) s11 (1 : Int32) (0 : Int32)) s9 r2 (4 : Int32) r10) s8 (0 : Int32) (1 : Int32)) s6 r2 (3 : Int32) r7) s5 (0 : Int32) (0 : Int32)))) s4 r2 (2 : Int32) (c_wo_c s4)) s3 r2 (1 : Int32) (c_wo_b s3)) s1 r2 (0 : Int32) (c_wo_a s1)) σ a1 a2)) ∧ ((¬ ((c_rk_failure σ) = (0 : Int32))) → (post σ (-1 : Int32)))
set_option maxRecDepth 20000 in
theorem kc_wo_newLine {l : Launch} {D : va_G} {G : gAd} {post : CS → Int32 → Prop} {σ : CS} {a1 : Int32} {a2 : Int32} (h : wc_wo_newLine post σ a1 a2) : cMet l D G yX11_newLine cX11_newLine 4 (some .int) 3 [.ref (G.1 1300), .int a1, .int a2] σ (pI post) := by
  unfold wc_wo_newLine at h
  refine c_enter (own := RX11) (by decide +kernel) rfl [(0, .ref (G.1 1300)), (1, .int a1), (2, .int a2)] rfl (Nat.le_of_ble_eq_true rfl) ?_
  intro E hE hm
  have hN := hm.2.2.2.2.2.2.1
  refine r_aload_n hE 0 dX11_newLine_g0.1 rfl rfl ?_
  refine cg_wo_reckoner hE hm fk_X11_36 dX11_newLine_g0.2.1 ?_
  refine cg_rk_failure hE hm fk_X11_65 dX11_newLine_g0.2.2.1 ?_
  refine r_if_eq hE 12 dX11_newLine_g0.2.2.2.1 (by decide) h (fun h => ?_) (fun h => ?_)
  · refine r_aload_n hE 0 dX11_newLine_g0.2.2.2.2.2.2.1 rfl rfl ?_
    refine cg_wo_things hE hm fk_X11_40 dX11_newLine_g0.2.2.2.2.2.2.2.1 ?_
    refine r_iload_n hE 1 dX11_newLine_g0.2.2.2.2.2.2.2.2.1 rfl rfl ?_
    refine r_iload_n hE 2 dX11_newLine_g0.2.2.2.2.2.2.2.2.2.1 rfl rfl ?_
    refine c_callVi hE hm [.int a1, .int a2] [] ck_X11_149 (cr_th hm rfl) (kc_th_add h) (by decide) rfl rfl (Nat.le_of_ble_eq_true rfl) dX11_newLine_g0.2.2.2.2.2.2.2.2.2.2.1 (fun s1 r2 h => ?_)
    refine r_istore_n hE [(3, .int r2), (0, .ref (G.1 1300)), (1, .int a1), (2, .int a2)] dX11_newLine_g0.2.2.2.2.2.2.2.2.2.2.2.1 rfl hN (by decide) rfl ?_
    refine r_aload_n hE 1 dX11_newLine_g0.2.2.2.2.2.2.2.2.2.2.2.2.1 rfl rfl ?_
    refine cg_wo_things hE hm fk_X11_40 dX11_newLine_g0.2.2.2.2.2.2.2.2.2.2.2.2.2.1 ?_
    refine r_iload_n hE 0 dX11_newLine_g0.2.2.2.2.2.2.2.2.2.2.2.2.2.2.1 rfl rfl ?_
    refine r_iconst (v := (0 : Int32)) hE dX11_newLine_g0.2.2.2.2.2.2.2.2.2.2.2.2.2.2.2 (by decide) ?_
    refine r_aload_n hE 1 dX11_newLine_g1.1 rfl rfl ?_
    refine cg_wo_a hE hm fk_X11_24 dX11_newLine_g1.2.1 ?_
    refine c_callVv hE hm [.int r2, .int (0 : Int32), .long (c_wo_a s1)] [] ck_X11_152 (cr_th hm rfl) (kc_th_setPart h) (by decide) rfl rfl (Nat.le_of_ble_eq_true rfl) dX11_newLine_g1.2.2.1 (fun s3 h => ?_)
    refine r_aload_n hE 1 dX11_newLine_g1.2.2.2.1 rfl rfl ?_
    refine cg_wo_things hE hm fk_X11_40 dX11_newLine_g1.2.2.2.2.1 ?_
    refine r_iload_n hE 0 dX11_newLine_g1.2.2.2.2.2.1 rfl rfl ?_
    refine r_iconst (v := (1 : Int32)) hE dX11_newLine_g1.2.2.2.2.2.2.1 (by decide) ?_
    refine r_aload_n hE 1 dX11_newLine_g1.2.2.2.2.2.2.2.1 rfl rfl ?_
    refine cg_wo_b hE hm fk_X11_27 dX11_newLine_g1.2.2.2.2.2.2.2.2.1 ?_
    refine c_callVv hE hm [.int r2, .int (1 : Int32), .long (c_wo_b s3)] [] ck_X11_152 (cr_th hm rfl) (kc_th_setPart h) (by decide) rfl rfl (Nat.le_of_ble_eq_true rfl) dX11_newLine_g1.2.2.2.2.2.2.2.2.2.1 (fun s4 h => ?_)
    refine r_aload_n hE 1 dX11_newLine_g1.2.2.2.2.2.2.2.2.2.2.1 rfl rfl ?_
    refine cg_wo_things hE hm fk_X11_40 dX11_newLine_g1.2.2.2.2.2.2.2.2.2.2.2.1 ?_
    refine r_iload_n hE 0 dX11_newLine_g1.2.2.2.2.2.2.2.2.2.2.2.2.1 rfl rfl ?_
    refine r_iconst (v := (2 : Int32)) hE dX11_newLine_g1.2.2.2.2.2.2.2.2.2.2.2.2.2.1 (by decide) ?_
    refine r_aload_n hE 1 dX11_newLine_g1.2.2.2.2.2.2.2.2.2.2.2.2.2.2.1 rfl rfl ?_
    refine cg_wo_c hE hm fk_X11_30 dX11_newLine_g1.2.2.2.2.2.2.2.2.2.2.2.2.2.2.2 ?_
    refine c_callVv hE hm [.int r2, .int (2 : Int32), .long (c_wo_c s4)] [] ck_X11_152 (cr_th hm rfl) (kc_th_setPart h) (by decide) rfl rfl (Nat.le_of_ble_eq_true rfl) dX11_newLine_g2.1 (fun s5 h => ?_)
    refine r_iload_n hE 2 dX11_newLine_g2.2.1 rfl rfl ?_
    refine r_iconst (v := (4 : Int32)) hE dX11_newLine_g2.2.2.1 (by decide) ?_
    refine r_icmp_ne hE 127 dX11_newLine_g2.2.2.2.1 (by decide) h (fun h => ?_) (fun h => ?_)
    · refine r_iload_n hE 0 dX11_newLine_g4.2.2.2.2.2.2.2.2.1 rfl rfl ?_
      exact c_iret hE hm dX11_newLine_g4.2.2.2.2.2.2.2.2.2 h
    · refine r_aload_n hE 1 dX11_newLine_g2.2.2.2.2.1 rfl rfl ?_
      refine cg_wo_things hE hm fk_X11_40 dX11_newLine_g2.2.2.2.2.2.1 ?_
      refine r_iload_n hE 0 dX11_newLine_g2.2.2.2.2.2.2.1 rfl rfl ?_
      refine r_iconst (v := (3 : Int32)) hE dX11_newLine_g2.2.2.2.2.2.2.2.1 (by decide) ?_
      refine r_aload_n hE 1 dX11_newLine_g2.2.2.2.2.2.2.2.2.1 rfl rfl ?_
      refine r_iconst (v := (0 : Int32)) hE dX11_newLine_g2.2.2.2.2.2.2.2.2.2.1 (by decide) ?_
      refine r_iconst (v := (0 : Int32)) hE dX11_newLine_g2.2.2.2.2.2.2.2.2.2.2.1 (by decide) ?_
      refine c_callVl hE hm [.int (0 : Int32), .int (0 : Int32)] [.int (3 : Int32), .int r2, .ref (G.1 900)] ck_X11_126 (cr_wo hm rfl) (kc_wo_given h) (by decide) rfl rfl (Nat.le_of_ble_eq_true rfl) dX11_newLine_g2.2.2.2.2.2.2.2.2.2.2.2.1 (fun s6 r7 h => ?_)
      refine c_callVv hE hm [.int r2, .int (3 : Int32), .long r7] [] ck_X11_152 (cr_th hm rfl) (kc_th_setPart h) (by decide) rfl rfl (Nat.le_of_ble_eq_true rfl) dX11_newLine_g2.2.2.2.2.2.2.2.2.2.2.2.2.1 (fun s8 h => ?_)
      refine r_aload_n hE 1 dX11_newLine_g2.2.2.2.2.2.2.2.2.2.2.2.2.2.1 rfl rfl ?_
      refine cg_wo_things hE hm fk_X11_40 dX11_newLine_g2.2.2.2.2.2.2.2.2.2.2.2.2.2.2.1 ?_
      refine r_iload_n hE 0 dX11_newLine_g2.2.2.2.2.2.2.2.2.2.2.2.2.2.2.2 rfl rfl ?_
      refine r_iconst (v := (4 : Int32)) hE dX11_newLine_g3.1 (by decide) ?_
      refine r_aload_n hE 1 dX11_newLine_g3.2.1 rfl rfl ?_
      refine r_iconst (v := (0 : Int32)) hE dX11_newLine_g3.2.2.1 (by decide) ?_
      refine r_iconst (v := (1 : Int32)) hE dX11_newLine_g3.2.2.2.1 (by decide) ?_
      refine c_callVl hE hm [.int (0 : Int32), .int (1 : Int32)] [.int (4 : Int32), .int r2, .ref (G.1 900)] ck_X11_126 (cr_wo hm rfl) (kc_wo_given h) (by decide) rfl rfl (Nat.le_of_ble_eq_true rfl) dX11_newLine_g3.2.2.2.2.1 (fun s9 r10 h => ?_)
      refine c_callVv hE hm [.int r2, .int (4 : Int32), .long r10] [] ck_X11_152 (cr_th hm rfl) (kc_th_setPart h) (by decide) rfl rfl (Nat.le_of_ble_eq_true rfl) dX11_newLine_g3.2.2.2.2.2.1 (fun s11 h => ?_)
      refine r_aload_n hE 1 dX11_newLine_g3.2.2.2.2.2.2.1 rfl rfl ?_
      refine cg_wo_things hE hm fk_X11_40 dX11_newLine_g3.2.2.2.2.2.2.2.1 ?_
      refine r_iload_n hE 0 dX11_newLine_g3.2.2.2.2.2.2.2.2.1 rfl rfl ?_
      refine r_iconst (v := (5 : Int32)) hE dX11_newLine_g3.2.2.2.2.2.2.2.2.2.1 (by decide) ?_
      refine r_aload_n hE 1 dX11_newLine_g3.2.2.2.2.2.2.2.2.2.2.1 rfl rfl ?_
      refine r_iconst (v := (1 : Int32)) hE dX11_newLine_g3.2.2.2.2.2.2.2.2.2.2.2.1 (by decide) ?_
      refine r_iconst (v := (0 : Int32)) hE dX11_newLine_g3.2.2.2.2.2.2.2.2.2.2.2.2.1 (by decide) ?_
      refine c_callVl hE hm [.int (1 : Int32), .int (0 : Int32)] [.int (5 : Int32), .int r2, .ref (G.1 900)] ck_X11_126 (cr_wo hm rfl) (kc_wo_given h) (by decide) rfl rfl (Nat.le_of_ble_eq_true rfl) dX11_newLine_g3.2.2.2.2.2.2.2.2.2.2.2.2.2.1 (fun s12 r13 h => ?_)
      refine c_callVv hE hm [.int r2, .int (5 : Int32), .long r13] [] ck_X11_152 (cr_th hm rfl) (kc_th_setPart h) (by decide) rfl rfl (Nat.le_of_ble_eq_true rfl) dX11_newLine_g3.2.2.2.2.2.2.2.2.2.2.2.2.2.2.1 (fun s14 h => ?_)
      refine r_aload_n hE 1 dX11_newLine_g3.2.2.2.2.2.2.2.2.2.2.2.2.2.2.2 rfl rfl ?_
      refine cg_wo_things hE hm fk_X11_40 dX11_newLine_g4.1 ?_
      refine r_iload_n hE 0 dX11_newLine_g4.2.1 rfl rfl ?_
      refine r_bipush (v := (6 : Int32)) hE dX11_newLine_g4.2.2.1 (by decide) ?_
      refine r_aload_n hE 1 dX11_newLine_g4.2.2.2.1 rfl rfl ?_
      refine r_iconst (v := (1 : Int32)) hE dX11_newLine_g4.2.2.2.2.1 (by decide) ?_
      refine r_iconst (v := (1 : Int32)) hE dX11_newLine_g4.2.2.2.2.2.1 (by decide) ?_
      refine c_callVl hE hm [.int (1 : Int32), .int (1 : Int32)] [.int (6 : Int32), .int r2, .ref (G.1 900)] ck_X11_126 (cr_wo hm rfl) (kc_wo_given h) (by decide) rfl rfl (Nat.le_of_ble_eq_true rfl) dX11_newLine_g4.2.2.2.2.2.2.1 (fun s15 r16 h => ?_)
      refine c_callVv hE hm [.int r2, .int (6 : Int32), .long r16] [] ck_X11_152 (cr_th hm rfl) (kc_th_setPart h) (by decide) rfl rfl (Nat.le_of_ble_eq_true rfl) dX11_newLine_g4.2.2.2.2.2.2.2.1 (fun s17 h => ?_)
      refine r_iload_n hE 0 dX11_newLine_g4.2.2.2.2.2.2.2.2.1 rfl rfl ?_
      exact c_iret hE hm dX11_newLine_g4.2.2.2.2.2.2.2.2.2 h
  · refine r_iconst (v := (-1 : Int32)) hE dX11_newLine_g0.2.2.2.2.1 (by decide) ?_
    exact c_iret hE hm dX11_newLine_g0.2.2.2.2.2.1 h
/-! wo_dist -/
def wc_wo_dist (post : CS → Int64 → Prop) (σ : CS) (a1 : Int64) (a3 : Int64) (a5 : Int64) (a7 : Int64) : Prop := wc_rk_minus (fun (s1 : CS) (r2 : Int64) => wc_rk_times (fun (s3 : CS) (r4 : Int64) => wc_rk_minus (fun (s5 : CS) (r6 : Int64) => wc_rk_times (fun (s7 : CS) (r8 : Int64) => wc_rk_plus (fun (s9 : CS) (r10 : Int64) => post s9 r10) s7 r4 r8) s5 r6 r6) s3 a3 a7) s1 r2 r2) σ a1 a5
set_option maxRecDepth 20000 in
theorem kc_wo_dist {l : Launch} {D : va_G} {G : gAd} {post : CS → Int64 → Prop} {σ : CS} {a1 : Int64} {a3 : Int64} {a5 : Int64} {a7 : Int64} (h : wc_wo_dist post σ a1 a3 a5 a7) : cMet l D G yX11_dist cX11_dist 15 (some .long) 3 [.ref (G.1 1300), .long a1, .long a3, .long a5, .long a7] σ (pL post) := by
  unfold wc_wo_dist at h
  refine c_enter (own := RX11) (by decide +kernel) rfl [(0, .ref (G.1 1300)), (1, .long a1), (3, .long a3), (5, .long a5), (7, .long a7)] rfl (Nat.le_of_ble_eq_true rfl) ?_
  intro E hE hm
  have hN := hm.2.2.2.2.2.2.1
  refine r_aload_n hE 0 dX11_dist_g0.1 rfl rfl ?_
  refine cg_wo_reckoner hE hm fk_X11_36 dX11_dist_g0.2.1 ?_
  refine r_lload_n hE 1 dX11_dist_g0.2.2.1 rfl rfl ?_
  refine r_lload hE 3 dX11_dist_g0.2.2.2.1 rfl ?_
  refine c_callVl hE hm [.long a1, .long a5] [] ck_X11_226 (cr_rk hm rfl) (kc_rk_minus h) (by decide) rfl rfl (Nat.le_of_ble_eq_true rfl) dX11_dist_g0.2.2.2.2.1 (fun s1 r2 h => ?_)
  refine r_lstore hE [(9, .long r2), (0, .ref (G.1 1300)), (1, .long a1), (3, .long a3), (5, .long a5), (7, .long a7)] dX11_dist_g0.2.2.2.2.2.1 hN (by decide) rfl ?_
  refine r_aload_n hE 1 dX11_dist_g0.2.2.2.2.2.2.1 rfl rfl ?_
  refine cg_wo_reckoner hE hm fk_X11_36 dX11_dist_g0.2.2.2.2.2.2.2.1 ?_
  refine r_lload hE 0 dX11_dist_g0.2.2.2.2.2.2.2.2.1 rfl ?_
  refine r_lload hE 0 dX11_dist_g0.2.2.2.2.2.2.2.2.2.1 rfl ?_
  refine c_callVl hE hm [.long r2, .long r2] [] ck_X11_236 (cr_rk hm rfl) (kc_rk_times h) (by decide) rfl rfl (Nat.le_of_ble_eq_true rfl) dX11_dist_g0.2.2.2.2.2.2.2.2.2.2.1 (fun s3 r4 h => ?_)
  refine r_lstore hE [(11, .long r4), (9, .long r2), (0, .ref (G.1 1300)), (1, .long a1), (3, .long a3), (5, .long a5), (7, .long a7)] dX11_dist_g0.2.2.2.2.2.2.2.2.2.2.2.1 hN (by decide) rfl ?_
  refine r_aload_n hE 2 dX11_dist_g0.2.2.2.2.2.2.2.2.2.2.2.2.1 rfl rfl ?_
  refine cg_wo_reckoner hE hm fk_X11_36 dX11_dist_g0.2.2.2.2.2.2.2.2.2.2.2.2.2.1 ?_
  refine r_lload_n hE 4 dX11_dist_g0.2.2.2.2.2.2.2.2.2.2.2.2.2.2.1 rfl rfl ?_
  refine r_lload hE 6 dX11_dist_g0.2.2.2.2.2.2.2.2.2.2.2.2.2.2.2 rfl ?_
  refine c_callVl hE hm [.long a3, .long a7] [] ck_X11_226 (cr_rk hm rfl) (kc_rk_minus h) (by decide) rfl rfl (Nat.le_of_ble_eq_true rfl) dX11_dist_g1.1 (fun s5 r6 h => ?_)
  refine r_lstore hE [(13, .long r6), (11, .long r4), (9, .long r2), (0, .ref (G.1 1300)), (1, .long a1), (3, .long a3), (5, .long a5), (7, .long a7)] dX11_dist_g1.2.1 hN (by decide) rfl ?_
  refine r_aload_n hE 3 dX11_dist_g1.2.2.1 rfl rfl ?_
  refine cg_wo_reckoner hE hm fk_X11_36 dX11_dist_g1.2.2.2.1 ?_
  refine r_lload hE 1 dX11_dist_g1.2.2.2.2.1 rfl ?_
  refine r_aload_n hE 3 dX11_dist_g1.2.2.2.2.2.1 rfl rfl ?_
  refine cg_wo_reckoner hE hm fk_X11_36 dX11_dist_g1.2.2.2.2.2.2.1 ?_
  refine r_lload hE 0 dX11_dist_g1.2.2.2.2.2.2.2.1 rfl ?_
  refine r_lload hE 0 dX11_dist_g1.2.2.2.2.2.2.2.2.1 rfl ?_
  refine c_callVl hE hm [.long r6, .long r6] [.long r4, .ref (G.1 800)] ck_X11_236 (cr_rk hm rfl) (kc_rk_times h) (by decide) rfl rfl (Nat.le_of_ble_eq_true rfl) dX11_dist_g1.2.2.2.2.2.2.2.2.2.1 (fun s7 r8 h => ?_)
  refine c_callVl hE hm [.long r4, .long r8] [] ck_X11_239 (cr_rk hm rfl) (kc_rk_plus h) (by decide) rfl rfl (Nat.le_of_ble_eq_true rfl) dX11_dist_g1.2.2.2.2.2.2.2.2.2.2.1 (fun s9 r10 h => ?_)
  exact c_lret hE hm dX11_dist_g1.2.2.2.2.2.2.2.2.2.2.2 h
/-! wo_area -/
def wc_wo_area (post : CS → Int64 → Prop) (σ : CS) : Prop := wc_wo_given (fun (s1 : CS) (r2 : Int64) => wc_wo_given (fun (s3 : CS) (r4 : Int64) => wc_rk_minus (fun (s5 : CS) (r6 : Int64) => wc_wo_given (fun (s7 : CS) (r8 : Int64) => wc_wo_given (fun (s9 : CS) (r10 : Int64) => wc_rk_minus (fun (s11 : CS) (r12 : Int64) => wc_rk_times (fun (s13 : CS) (r14 : Int64) => wc_wo_given (fun (s15 : CS) (r16 : Int64) => wc_wo_given (fun (s17 : CS) (r18 : Int64) => wc_rk_minus (fun (s19 : CS) (r20 : Int64) => wc_wo_given (fun (s21 : CS) (r22 : Int64) => wc_wo_given (fun (s23 : CS) (r24 : Int64) => wc_rk_minus (fun (s25 : CS) (r26 : Int64) => wc_rk_times (fun (s27 : CS) (r28 : Int64) => wc_rk_minus (fun (s29 : CS) (r30 : Int64) => post s29 r30) s27 r14 r28) s25 r20 r26) s23 r22 r24) s21 (0 : Int32) (1 : Int32)) s19 (1 : Int32) (1 : Int32)) s17 r16 r18) s15 (0 : Int32) (0 : Int32)) s13 (2 : Int32) (0 : Int32)) s11 r6 r12) s9 r8 r10) s7 (0 : Int32) (1 : Int32)) s5 (2 : Int32) (1 : Int32)) s3 r2 r4) s1 (0 : Int32) (0 : Int32)) σ (1 : Int32) (0 : Int32)
set_option maxRecDepth 20000 in
theorem kc_wo_area {l : Launch} {D : va_G} {G : gAd} {post : CS → Int64 → Prop} {σ : CS} (h : wc_wo_area post σ) : cMet l D G yX11_area cX11_area 5 (some .long) 3 [.ref (G.1 1300)] σ (pL post) := by
  unfold wc_wo_area at h
  refine c_enter (own := RX11) (by decide +kernel) rfl [(0, .ref (G.1 1300))] rfl (Nat.le_of_ble_eq_true rfl) ?_
  intro E hE hm
  have hN := hm.2.2.2.2.2.2.1
  refine r_aload_n hE 0 dX11_area_g0.1 rfl rfl ?_
  refine cg_wo_reckoner hE hm fk_X11_36 dX11_area_g0.2.1 ?_
  refine r_aload_n hE 0 dX11_area_g0.2.2.1 rfl rfl ?_
  refine cg_wo_reckoner hE hm fk_X11_36 dX11_area_g0.2.2.2.1 ?_
  refine r_aload_n hE 0 dX11_area_g0.2.2.2.2.1 rfl rfl ?_
  refine r_iconst (v := (1 : Int32)) hE dX11_area_g0.2.2.2.2.2.1 (by decide) ?_
  refine r_iconst (v := (0 : Int32)) hE dX11_area_g0.2.2.2.2.2.2.1 (by decide) ?_
  refine c_callVl hE hm [.int (1 : Int32), .int (0 : Int32)] [.ref (G.1 800), .ref (G.1 800)] ck_X11_126 (cr_wo hm rfl) (kc_wo_given h) (by decide) rfl rfl (Nat.le_of_ble_eq_true rfl) dX11_area_g0.2.2.2.2.2.2.2.1 (fun s1 r2 h => ?_)
  refine r_aload_n hE 0 dX11_area_g0.2.2.2.2.2.2.2.2.1 rfl rfl ?_
  refine r_iconst (v := (0 : Int32)) hE dX11_area_g0.2.2.2.2.2.2.2.2.2.1 (by decide) ?_
  refine r_iconst (v := (0 : Int32)) hE dX11_area_g0.2.2.2.2.2.2.2.2.2.2.1 (by decide) ?_
  refine c_callVl hE hm [.int (0 : Int32), .int (0 : Int32)] [.long r2, .ref (G.1 800), .ref (G.1 800)] ck_X11_126 (cr_wo hm rfl) (kc_wo_given h) (by decide) rfl rfl (Nat.le_of_ble_eq_true rfl) dX11_area_g0.2.2.2.2.2.2.2.2.2.2.2.1 (fun s3 r4 h => ?_)
  refine c_callVl hE hm [.long r2, .long r4] [.ref (G.1 800)] ck_X11_226 (cr_rk hm rfl) (kc_rk_minus h) (by decide) rfl rfl (Nat.le_of_ble_eq_true rfl) dX11_area_g0.2.2.2.2.2.2.2.2.2.2.2.2.1 (fun s5 r6 h => ?_)
  refine r_aload_n hE 0 dX11_area_g0.2.2.2.2.2.2.2.2.2.2.2.2.2.1 rfl rfl ?_
  refine cg_wo_reckoner hE hm fk_X11_36 dX11_area_g0.2.2.2.2.2.2.2.2.2.2.2.2.2.2.1 ?_
  refine r_aload_n hE 0 dX11_area_g0.2.2.2.2.2.2.2.2.2.2.2.2.2.2.2 rfl rfl ?_
  refine r_iconst (v := (2 : Int32)) hE dX11_area_g1.1 (by decide) ?_
  refine r_iconst (v := (1 : Int32)) hE dX11_area_g1.2.1 (by decide) ?_
  refine c_callVl hE hm [.int (2 : Int32), .int (1 : Int32)] [.ref (G.1 800), .long r6, .ref (G.1 800)] ck_X11_126 (cr_wo hm rfl) (kc_wo_given h) (by decide) rfl rfl (Nat.le_of_ble_eq_true rfl) dX11_area_g1.2.2.1 (fun s7 r8 h => ?_)
  refine r_aload_n hE 0 dX11_area_g1.2.2.2.1 rfl rfl ?_
  refine r_iconst (v := (0 : Int32)) hE dX11_area_g1.2.2.2.2.1 (by decide) ?_
  refine r_iconst (v := (1 : Int32)) hE dX11_area_g1.2.2.2.2.2.1 (by decide) ?_
  refine c_callVl hE hm [.int (0 : Int32), .int (1 : Int32)] [.long r8, .ref (G.1 800), .long r6, .ref (G.1 800)] ck_X11_126 (cr_wo hm rfl) (kc_wo_given h) (by decide) rfl rfl (Nat.le_of_ble_eq_true rfl) dX11_area_g1.2.2.2.2.2.2.1 (fun s9 r10 h => ?_)
  refine c_callVl hE hm [.long r8, .long r10] [.long r6, .ref (G.1 800)] ck_X11_226 (cr_rk hm rfl) (kc_rk_minus h) (by decide) rfl rfl (Nat.le_of_ble_eq_true rfl) dX11_area_g1.2.2.2.2.2.2.2.1 (fun s11 r12 h => ?_)
  refine c_callVl hE hm [.long r6, .long r12] [] ck_X11_236 (cr_rk hm rfl) (kc_rk_times h) (by decide) rfl rfl (Nat.le_of_ble_eq_true rfl) dX11_area_g1.2.2.2.2.2.2.2.2.1 (fun s13 r14 h => ?_)
  refine r_lstore_n hE [(1, .long r14), (0, .ref (G.1 1300))] dX11_area_g1.2.2.2.2.2.2.2.2.2.1 rfl hN (by decide) rfl ?_
  refine r_aload_n hE 1 dX11_area_g1.2.2.2.2.2.2.2.2.2.2.1 rfl rfl ?_
  refine cg_wo_reckoner hE hm fk_X11_36 dX11_area_g1.2.2.2.2.2.2.2.2.2.2.2.1 ?_
  refine r_aload_n hE 1 dX11_area_g1.2.2.2.2.2.2.2.2.2.2.2.2.1 rfl rfl ?_
  refine cg_wo_reckoner hE hm fk_X11_36 dX11_area_g1.2.2.2.2.2.2.2.2.2.2.2.2.2.1 ?_
  refine r_aload_n hE 1 dX11_area_g1.2.2.2.2.2.2.2.2.2.2.2.2.2.2.1 rfl rfl ?_
  refine r_iconst (v := (2 : Int32)) hE dX11_area_g1.2.2.2.2.2.2.2.2.2.2.2.2.2.2.2 (by decide) ?_
  refine r_iconst (v := (0 : Int32)) hE dX11_area_g2.1 (by decide) ?_
  refine c_callVl hE hm [.int (2 : Int32), .int (0 : Int32)] [.ref (G.1 800), .ref (G.1 800)] ck_X11_126 (cr_wo hm rfl) (kc_wo_given h) (by decide) rfl rfl (Nat.le_of_ble_eq_true rfl) dX11_area_g2.2.1 (fun s15 r16 h => ?_)
  refine r_aload_n hE 1 dX11_area_g2.2.2.1 rfl rfl ?_
  refine r_iconst (v := (0 : Int32)) hE dX11_area_g2.2.2.2.1 (by decide) ?_
  refine r_iconst (v := (0 : Int32)) hE dX11_area_g2.2.2.2.2.1 (by decide) ?_
  refine c_callVl hE hm [.int (0 : Int32), .int (0 : Int32)] [.long r16, .ref (G.1 800), .ref (G.1 800)] ck_X11_126 (cr_wo hm rfl) (kc_wo_given h) (by decide) rfl rfl (Nat.le_of_ble_eq_true rfl) dX11_area_g2.2.2.2.2.2.1 (fun s17 r18 h => ?_)
  refine c_callVl hE hm [.long r16, .long r18] [.ref (G.1 800)] ck_X11_226 (cr_rk hm rfl) (kc_rk_minus h) (by decide) rfl rfl (Nat.le_of_ble_eq_true rfl) dX11_area_g2.2.2.2.2.2.2.1 (fun s19 r20 h => ?_)
  refine r_aload_n hE 1 dX11_area_g2.2.2.2.2.2.2.2.1 rfl rfl ?_
  refine cg_wo_reckoner hE hm fk_X11_36 dX11_area_g2.2.2.2.2.2.2.2.2.1 ?_
  refine r_aload_n hE 1 dX11_area_g2.2.2.2.2.2.2.2.2.2.1 rfl rfl ?_
  refine r_iconst (v := (1 : Int32)) hE dX11_area_g2.2.2.2.2.2.2.2.2.2.2.1 (by decide) ?_
  refine r_iconst (v := (1 : Int32)) hE dX11_area_g2.2.2.2.2.2.2.2.2.2.2.2.1 (by decide) ?_
  refine c_callVl hE hm [.int (1 : Int32), .int (1 : Int32)] [.ref (G.1 800), .long r20, .ref (G.1 800)] ck_X11_126 (cr_wo hm rfl) (kc_wo_given h) (by decide) rfl rfl (Nat.le_of_ble_eq_true rfl) dX11_area_g2.2.2.2.2.2.2.2.2.2.2.2.2.1 (fun s21 r22 h => ?_)
  refine r_aload_n hE 1 dX11_area_g2.2.2.2.2.2.2.2.2.2.2.2.2.2.1 rfl rfl ?_
  refine r_iconst (v := (0 : Int32)) hE dX11_area_g2.2.2.2.2.2.2.2.2.2.2.2.2.2.2.1 (by decide) ?_
  refine r_iconst (v := (1 : Int32)) hE dX11_area_g2.2.2.2.2.2.2.2.2.2.2.2.2.2.2.2 (by decide) ?_
  refine c_callVl hE hm [.int (0 : Int32), .int (1 : Int32)] [.long r22, .ref (G.1 800), .long r20, .ref (G.1 800)] ck_X11_126 (cr_wo hm rfl) (kc_wo_given h) (by decide) rfl rfl (Nat.le_of_ble_eq_true rfl) dX11_area_g3.1 (fun s23 r24 h => ?_)
  refine c_callVl hE hm [.long r22, .long r24] [.long r20, .ref (G.1 800)] ck_X11_226 (cr_rk hm rfl) (kc_rk_minus h) (by decide) rfl rfl (Nat.le_of_ble_eq_true rfl) dX11_area_g3.2.1 (fun s25 r26 h => ?_)
  refine c_callVl hE hm [.long r20, .long r26] [] ck_X11_236 (cr_rk hm rfl) (kc_rk_times h) (by decide) rfl rfl (Nat.le_of_ble_eq_true rfl) dX11_area_g3.2.2.1 (fun s27 r28 h => ?_)
  refine r_lstore_n hE [(3, .long r28), (1, .long r14), (0, .ref (G.1 1300))] dX11_area_g3.2.2.2.1 rfl hN (by decide) rfl ?_
  refine r_aload_n hE 2 dX11_area_g3.2.2.2.2.1 rfl rfl ?_
  refine cg_wo_reckoner hE hm fk_X11_36 dX11_area_g3.2.2.2.2.2.1 ?_
  refine r_lload_n hE 1 dX11_area_g3.2.2.2.2.2.2.1 rfl rfl ?_
  refine r_lload_n hE 0 dX11_area_g3.2.2.2.2.2.2.2.1 rfl rfl ?_
  refine c_callVl hE hm [.long r14, .long r28] [] ck_X11_226 (cr_rk hm rfl) (kc_rk_minus h) (by decide) rfl rfl (Nat.le_of_ble_eq_true rfl) dX11_area_g3.2.2.2.2.2.2.2.2.1 (fun s29 r30 h => ?_)
  exact c_lret hE hm dX11_area_g3.2.2.2.2.2.2.2.2.2 h
/-! wo_askSide -/
def wc_wo_askSide (post : CS → Prop) (σ : CS) (a1 : Int64) : Prop := (((lg_cmp a1 (1 : Int64)) = (0 : Int32)) → (post σ)) ∧ ((¬ ((lg_cmp a1 (1 : Int64)) = (0 : Int32))) → ((((lg_cmp a1 (4294967297 : Int64)) = (0 : Int32)) → (post σ)) ∧ ((¬ ((lg_cmp a1 (4294967297 : Int64)) = (0 : Int32))) → (wc_rk_fail (fun (s1 : CS) => post s1) σ (3 : Int32)))))
set_option maxRecDepth 20000 in
theorem kc_wo_askSide {l : Launch} {D : va_G} {G : gAd} {post : CS → Prop} {σ : CS} {a1 : Int64} (h : wc_wo_askSide post σ a1) : cMet l D G yX11_askSide cX11_askSide 3 none 2 [.ref (G.1 1300), .long a1] σ (pV post) := by
  unfold wc_wo_askSide at h
  refine c_enter (own := RX11) (by decide +kernel) rfl [(0, .ref (G.1 1300)), (1, .long a1)] rfl (Nat.le_of_ble_eq_true rfl) ?_
  intro E hE hm
  have hN := hm.2.2.2.2.2.2.1
  refine r_lload_n hE 1 dX11_askSide_g0.1 rfl rfl ?_
  refine r_lconst (v := (1 : Int64)) hE dX11_askSide_g0.2.1 (by decide) ?_
  refine r_lcmp hE dX11_askSide_g0.2.2.1 ?_
  refine r_if_eq hE 22 dX11_askSide_g0.2.2.2.1 (by decide) h (fun h => ?_) (fun h => ?_)
  · exact c_vret hE hm dX11_askSide_g0.2.2.2.2.2.2.2.2.2.2.2.2 h
  · refine r_lload_n hE 1 dX11_askSide_g0.2.2.2.2.1 rfl rfl ?_
    refine r_ldc2 (v := (4294967297 : Int64)) hE dX11_askSide_g0.2.2.2.2.2.1 (gTb_5 (List.mem_of_getElem? (i := 113) rfl) rfl) ?_
    refine r_lcmp hE dX11_askSide_g0.2.2.2.2.2.2.1 ?_
    refine r_if_eq hE 22 dX11_askSide_g0.2.2.2.2.2.2.2.1 (by decide) h (fun h => ?_) (fun h => ?_)
    · exact c_vret hE hm dX11_askSide_g0.2.2.2.2.2.2.2.2.2.2.2.2 h
    · refine r_aload_n hE 0 dX11_askSide_g0.2.2.2.2.2.2.2.2.1 rfl rfl ?_
      refine cg_wo_reckoner hE hm fk_X11_36 dX11_askSide_g0.2.2.2.2.2.2.2.2.2.1 ?_
      refine r_iconst (v := (3 : Int32)) hE dX11_askSide_g0.2.2.2.2.2.2.2.2.2.2.1 (by decide) ?_
      refine c_callVv hE hm [.int (3 : Int32)] [] ck_X11_48 (cr_rk hm rfl) (kc_rk_fail h) (by decide) rfl rfl (Nat.le_of_ble_eq_true rfl) dX11_askSide_g0.2.2.2.2.2.2.2.2.2.2.2.1 (fun s1 h => ?_)
      exact c_vret hE hm dX11_askSide_g0.2.2.2.2.2.2.2.2.2.2.2.2 h
/-! wo_takeEnd -/
def wc_wo_takeEnd_26 (post : CS → Prop) (σ : CS) (t0 : Int32) : Prop := wc_wo_given (fun (s1 : CS) (r2 : Int64) => ∀ s3 : CS, s3 = c_wo_x_s s1 r2 → wc_wo_given (fun (s4 : CS) (r5 : Int64) => ∀ s6 : CS, s6 = c_wo_y_s s4 r5 → post s6) s3 (0 : Int32) (t0 + (1 : Int32))) σ (0 : Int32) t0
set_option maxRecDepth 20000 in
theorem kc_wo_takeEnd_26 {E : gEnv} {l : Launch} {D : va_G} {G : gAd} {post : CS → Prop} (hE : gOK E cX11_takeEnd RX11 none 3) (hm : cOK E l D G (pV post) 2) (σ : CS) (t0 : Int32) (h : wc_wo_takeEnd_26 post σ t0) : GW E (cW G σ) 26 [(0, .ref (G.1 1300))] [.int t0] := by
  unfold wc_wo_takeEnd_26 at h
  have hN := hm.2.2.2.2.2.2.1
  refine r_istore_n hE [(1, .int t0), (0, .ref (G.1 1300))] dX11_takeEnd_g1.1 rfl hN (by decide) rfl ?_
  refine r_aload_n hE 1 dX11_takeEnd_g1.2.1 rfl rfl ?_
  refine r_aload_n hE 1 dX11_takeEnd_g1.2.2.1 rfl rfl ?_
  refine r_iconst (v := (0 : Int32)) hE dX11_takeEnd_g1.2.2.2.1 (by decide) ?_
  refine r_iload_n hE 0 dX11_takeEnd_g1.2.2.2.2.1 rfl rfl ?_
  refine c_callVl hE hm [.int (0 : Int32), .int t0] [.ref (G.1 1300)] ck_X11_126 (cr_wo hm rfl) (kc_wo_given h) (by decide) rfl rfl (Nat.le_of_ble_eq_true rfl) dX11_takeEnd_g1.2.2.2.2.2.1 (fun s1 r2 h => ?_)
  refine cp_wo_x hE hm fk_X11_17 dX11_takeEnd_g1.2.2.2.2.2.2.1 h (fun s3 h => ?_)
  refine r_aload_n hE 1 dX11_takeEnd_g1.2.2.2.2.2.2.2.1 rfl rfl ?_
  refine r_aload_n hE 1 dX11_takeEnd_g1.2.2.2.2.2.2.2.2.1 rfl rfl ?_
  refine r_iconst (v := (0 : Int32)) hE dX11_takeEnd_g1.2.2.2.2.2.2.2.2.2.1 (by decide) ?_
  refine r_iload_n hE 0 dX11_takeEnd_g1.2.2.2.2.2.2.2.2.2.2.1 rfl rfl ?_
  refine r_iconst (v := (1 : Int32)) hE dX11_takeEnd_g1.2.2.2.2.2.2.2.2.2.2.2.1 (by decide) ?_
  refine r_iadd hE dX11_takeEnd_g1.2.2.2.2.2.2.2.2.2.2.2.2.1 ?_
  refine c_callVl hE hm [.int (0 : Int32), .int (t0 + (1 : Int32))] [.ref (G.1 1300)] ck_X11_126 (cr_wo hm rfl) (kc_wo_given h) (by decide) rfl rfl (Nat.le_of_ble_eq_true rfl) dX11_takeEnd_g1.2.2.2.2.2.2.2.2.2.2.2.2.2.1 (fun s4 r5 h => ?_)
  refine cp_wo_y hE hm fk_X11_21 dX11_takeEnd_g1.2.2.2.2.2.2.2.2.2.2.2.2.2.2.1 h (fun s6 h => ?_)
  exact c_vret hE hm dX11_takeEnd_g1.2.2.2.2.2.2.2.2.2.2.2.2.2.2.2 h
def wc_wo_takeEnd (post : CS → Prop) (σ : CS) : Prop := wc_wo_given (fun (s7 : CS) (r8 : Int64) => wc_wo_askSide (fun (s9 : CS) => wc_wo_given (fun (s10 : CS) (r11 : Int64) => ((¬ ((lg_cmp r11 (1 : Int64)) = (0 : Int32))) → (wc_wo_takeEnd_26 post s10 (5 : Int32))) ∧ (((lg_cmp r11 (1 : Int64)) = (0 : Int32)) → (wc_wo_takeEnd_26 post s10 (3 : Int32)))) s9 (1 : Int32) (0 : Int32)) s7 r8) σ (1 : Int32) (0 : Int32)
set_option maxRecDepth 20000 in
theorem kc_wo_takeEnd {l : Launch} {D : va_G} {G : gAd} {post : CS → Prop} {σ : CS} (h : wc_wo_takeEnd post σ) : cMet l D G yX11_takeEnd cX11_takeEnd 2 none 3 [.ref (G.1 1300)] σ (pV post) := by
  unfold wc_wo_takeEnd at h
  refine c_enter (own := RX11) (by decide +kernel) rfl [(0, .ref (G.1 1300))] rfl (Nat.le_of_ble_eq_true rfl) ?_
  intro E hE hm
  have hN := hm.2.2.2.2.2.2.1
  refine r_aload_n hE 0 dX11_takeEnd_g0.1 rfl rfl ?_
  refine r_aload_n hE 0 dX11_takeEnd_g0.2.1 rfl rfl ?_
  refine r_iconst (v := (1 : Int32)) hE dX11_takeEnd_g0.2.2.1 (by decide) ?_
  refine r_iconst (v := (0 : Int32)) hE dX11_takeEnd_g0.2.2.2.1 (by decide) ?_
  refine c_callVl hE hm [.int (1 : Int32), .int (0 : Int32)] [.ref (G.1 1300)] ck_X11_126 (cr_wo hm rfl) (kc_wo_given h) (by decide) rfl rfl (Nat.le_of_ble_eq_true rfl) dX11_takeEnd_g0.2.2.2.2.1 (fun s7 r8 h => ?_)
  refine c_callVv hE hm [.long r8] [] ck_X11_271 (cr_wo hm rfl) (kc_wo_askSide h) (by decide) rfl rfl (Nat.le_of_ble_eq_true rfl) dX11_takeEnd_g0.2.2.2.2.2.1 (fun s9 h => ?_)
  refine r_aload_n hE 0 dX11_takeEnd_g0.2.2.2.2.2.2.1 rfl rfl ?_
  refine r_iconst (v := (1 : Int32)) hE dX11_takeEnd_g0.2.2.2.2.2.2.2.1 (by decide) ?_
  refine r_iconst (v := (0 : Int32)) hE dX11_takeEnd_g0.2.2.2.2.2.2.2.2.1 (by decide) ?_
  refine c_callVl hE hm [.int (1 : Int32), .int (0 : Int32)] [] ck_X11_126 (cr_wo hm rfl) (kc_wo_given h) (by decide) rfl rfl (Nat.le_of_ble_eq_true rfl) dX11_takeEnd_g0.2.2.2.2.2.2.2.2.2.1 (fun s10 r11 h => ?_)
  refine r_lconst (v := (1 : Int64)) hE dX11_takeEnd_g0.2.2.2.2.2.2.2.2.2.2.1 (by decide) ?_
  refine r_lcmp hE dX11_takeEnd_g0.2.2.2.2.2.2.2.2.2.2.2.1 ?_
  refine r_if_ne hE 25 dX11_takeEnd_g0.2.2.2.2.2.2.2.2.2.2.2.2.1 (by decide) h (fun h => ?_) (fun h => ?_)
  · refine r_iconst (v := (5 : Int32)) hE dX11_takeEnd_g0.2.2.2.2.2.2.2.2.2.2.2.2.2.2.2 (by decide) ?_
    exact kc_wo_takeEnd_26 hE hm _ _ h
  · refine r_iconst (v := (3 : Int32)) hE dX11_takeEnd_g0.2.2.2.2.2.2.2.2.2.2.2.2.2.1 (by decide) ?_
    refine r_goto hE 26 dX11_takeEnd_g0.2.2.2.2.2.2.2.2.2.2.2.2.2.2.1 (by decide) ?_
    exact kc_wo_takeEnd_26 hE hm _ _ h
/-! wo_middle -/
def wc_wo_middle (post : CS → Prop) (σ : CS) (a1 : Int64) (a3 : Int64) (a5 : Int64) (a7 : Int64) : Prop := wc_rk_plus (fun (s1 : CS) (r2 : Int64) => wc_rk_over (fun (s3 : CS) (r4 : Int64) => ∀ s5 : CS, s5 = c_wo_x_s s3 r4 → wc_rk_plus (fun (s6 : CS) (r7 : Int64) => wc_rk_over (fun (s8 : CS) (r9 : Int64) => ∀ s10 : CS, s10 = c_wo_y_s s8 r9 → post s10) s6 r7 (8589934593 : Int64)) s5 a3 a7) s1 r2 (8589934593 : Int64)) σ a1 a5
set_option maxRecDepth 20000 in
theorem kc_wo_middle {l : Launch} {D : va_G} {G : gAd} {post : CS → Prop} {σ : CS} {a1 : Int64} {a3 : Int64} {a5 : Int64} {a7 : Int64} (h : wc_wo_middle post σ a1 a3 a5 a7) : cMet l D G yX11_middle cX11_middle 9 none 3 [.ref (G.1 1300), .long a1, .long a3, .long a5, .long a7] σ (pV post) := by
  unfold wc_wo_middle at h
  refine c_enter (own := RX11) (by decide +kernel) rfl [(0, .ref (G.1 1300)), (1, .long a1), (3, .long a3), (5, .long a5), (7, .long a7)] rfl (Nat.le_of_ble_eq_true rfl) ?_
  intro E hE hm
  have hN := hm.2.2.2.2.2.2.1
  refine r_aload_n hE 0 dX11_middle_g0.1 rfl rfl ?_
  refine r_aload_n hE 0 dX11_middle_g0.2.1 rfl rfl ?_
  refine cg_wo_reckoner hE hm fk_X11_36 dX11_middle_g0.2.2.1 ?_
  refine r_aload_n hE 0 dX11_middle_g0.2.2.2.1 rfl rfl ?_
  refine cg_wo_reckoner hE hm fk_X11_36 dX11_middle_g0.2.2.2.2.1 ?_
  refine r_lload_n hE 1 dX11_middle_g0.2.2.2.2.2.1 rfl rfl ?_
  refine r_lload hE 3 dX11_middle_g0.2.2.2.2.2.2.1 rfl ?_
  refine c_callVl hE hm [.long a1, .long a5] [.ref (G.1 800), .ref (G.1 1300)] ck_X11_239 (cr_rk hm rfl) (kc_rk_plus h) (by decide) rfl rfl (Nat.le_of_ble_eq_true rfl) dX11_middle_g0.2.2.2.2.2.2.2.1 (fun s1 r2 h => ?_)
  refine r_ldc2 (v := (8589934593 : Int64)) hE dX11_middle_g0.2.2.2.2.2.2.2.2.1 (gTb_5 (List.mem_of_getElem? (i := 118) rfl) rfl) ?_
  refine c_callVl hE hm [.long r2, .long (8589934593 : Int64)] [.ref (G.1 1300)] ck_X11_204 (cr_rk hm rfl) (kc_rk_over h) (by decide) rfl rfl (Nat.le_of_ble_eq_true rfl) dX11_middle_g0.2.2.2.2.2.2.2.2.2.1 (fun s3 r4 h => ?_)
  refine cp_wo_x hE hm fk_X11_17 dX11_middle_g0.2.2.2.2.2.2.2.2.2.2.1 h (fun s5 h => ?_)
  refine r_aload_n hE 0 dX11_middle_g0.2.2.2.2.2.2.2.2.2.2.2.1 rfl rfl ?_
  refine r_aload_n hE 0 dX11_middle_g0.2.2.2.2.2.2.2.2.2.2.2.2.1 rfl rfl ?_
  refine cg_wo_reckoner hE hm fk_X11_36 dX11_middle_g0.2.2.2.2.2.2.2.2.2.2.2.2.2.1 ?_
  refine r_aload_n hE 0 dX11_middle_g0.2.2.2.2.2.2.2.2.2.2.2.2.2.2.1 rfl rfl ?_
  refine cg_wo_reckoner hE hm fk_X11_36 dX11_middle_g0.2.2.2.2.2.2.2.2.2.2.2.2.2.2.2 ?_
  refine r_lload_n hE 2 dX11_middle_g1.1 rfl rfl ?_
  refine r_lload hE 4 dX11_middle_g1.2.1 rfl ?_
  refine c_callVl hE hm [.long a3, .long a7] [.ref (G.1 800), .ref (G.1 1300)] ck_X11_239 (cr_rk hm rfl) (kc_rk_plus h) (by decide) rfl rfl (Nat.le_of_ble_eq_true rfl) dX11_middle_g1.2.2.1 (fun s6 r7 h => ?_)
  refine r_ldc2 (v := (8589934593 : Int64)) hE dX11_middle_g1.2.2.2.1 (gTb_5 (List.mem_of_getElem? (i := 118) rfl) rfl) ?_
  refine c_callVl hE hm [.long r7, .long (8589934593 : Int64)] [.ref (G.1 1300)] ck_X11_204 (cr_rk hm rfl) (kc_rk_over h) (by decide) rfl rfl (Nat.le_of_ble_eq_true rfl) dX11_middle_g1.2.2.2.2.1 (fun s8 r9 h => ?_)
  refine cp_wo_y hE hm fk_X11_21 dX11_middle_g1.2.2.2.2.2.1 h (fun s10 h => ?_)
  exact c_vret hE hm dX11_middle_g1.2.2.2.2.2.2 h
/-! wo_meet -/
def wc_wo_meet (post : CS → Prop) (σ : CS) (a1 : Int64) (a3 : Int64) (a5 : Int64) (a7 : Int64) (a9 : Int64) (a11 : Int64) : Prop := wc_rk_times (fun (s1 : CS) (r2 : Int64) => wc_rk_times (fun (s3 : CS) (r4 : Int64) => wc_rk_minus (fun (s5 : CS) (r6 : Int64) => wc_rk_times (fun (s7 : CS) (r8 : Int64) => wc_rk_times (fun (s9 : CS) (r10 : Int64) => wc_rk_minus (fun (s11 : CS) (r12 : Int64) => wc_rk_over (fun (s13 : CS) (r14 : Int64) => ∀ s15 : CS, s15 = c_wo_x_s s13 r14 → wc_rk_times (fun (s16 : CS) (r17 : Int64) => wc_rk_times (fun (s18 : CS) (r19 : Int64) => wc_rk_minus (fun (s20 : CS) (r21 : Int64) => wc_rk_over (fun (s22 : CS) (r23 : Int64) => ∀ s24 : CS, s24 = c_wo_y_s s22 r23 → post s24) s20 r21 r6) s18 r17 r19) s16 a7 a5) s15 a1 a11) s11 r12 r6) s9 r8 r10) s7 a11 a3) s5 a5 a9) s3 r2 r4) s1 a7 a3) σ a1 a9
set_option maxRecDepth 20000 in
theorem kc_wo_meet {l : Launch} {D : va_G} {G : gAd} {post : CS → Prop} {σ : CS} {a1 : Int64} {a3 : Int64} {a5 : Int64} {a7 : Int64} {a9 : Int64} {a11 : Int64} (h : wc_wo_meet post σ a1 a3 a5 a7 a9 a11) : cMet l D G yX11_meet cX11_meet 15 none 3 [.ref (G.1 1300), .long a1, .long a3, .long a5, .long a7, .long a9, .long a11] σ (pV post) := by
  unfold wc_wo_meet at h
  refine c_enter (own := RX11) (by decide +kernel) rfl [(0, .ref (G.1 1300)), (1, .long a1), (3, .long a3), (5, .long a5), (7, .long a7), (9, .long a9), (11, .long a11)] rfl (Nat.le_of_ble_eq_true rfl) ?_
  intro E hE hm
  have hN := hm.2.2.2.2.2.2.1
  refine r_aload_n hE 0 dX11_meet_g0.1 rfl rfl ?_
  refine cg_wo_reckoner hE hm fk_X11_36 dX11_meet_g0.2.1 ?_
  refine r_aload_n hE 0 dX11_meet_g0.2.2.1 rfl rfl ?_
  refine cg_wo_reckoner hE hm fk_X11_36 dX11_meet_g0.2.2.2.1 ?_
  refine r_lload_n hE 1 dX11_meet_g0.2.2.2.2.1 rfl rfl ?_
  refine r_lload hE 5 dX11_meet_g0.2.2.2.2.2.1 rfl ?_
  refine c_callVl hE hm [.long a1, .long a9] [.ref (G.1 800)] ck_X11_236 (cr_rk hm rfl) (kc_rk_times h) (by decide) rfl rfl (Nat.le_of_ble_eq_true rfl) dX11_meet_g0.2.2.2.2.2.2.1 (fun s1 r2 h => ?_)
  refine r_aload_n hE 0 dX11_meet_g0.2.2.2.2.2.2.2.1 rfl rfl ?_
  refine cg_wo_reckoner hE hm fk_X11_36 dX11_meet_g0.2.2.2.2.2.2.2.2.1 ?_
  refine r_lload hE 4 dX11_meet_g0.2.2.2.2.2.2.2.2.2.1 rfl ?_
  refine r_lload_n hE 2 dX11_meet_g0.2.2.2.2.2.2.2.2.2.2.1 rfl rfl ?_
  refine c_callVl hE hm [.long a7, .long a3] [.long r2, .ref (G.1 800)] ck_X11_236 (cr_rk hm rfl) (kc_rk_times h) (by decide) rfl rfl (Nat.le_of_ble_eq_true rfl) dX11_meet_g0.2.2.2.2.2.2.2.2.2.2.2.1 (fun s3 r4 h => ?_)
  refine c_callVl hE hm [.long r2, .long r4] [] ck_X11_226 (cr_rk hm rfl) (kc_rk_minus h) (by decide) rfl rfl (Nat.le_of_ble_eq_true rfl) dX11_meet_g0.2.2.2.2.2.2.2.2.2.2.2.2.1 (fun s5 r6 h => ?_)
  refine r_lstore hE [(13, .long r6), (0, .ref (G.1 1300)), (1, .long a1), (3, .long a3), (5, .long a5), (7, .long a7), (9, .long a9), (11, .long a11)] dX11_meet_g0.2.2.2.2.2.2.2.2.2.2.2.2.2.1 hN (by decide) rfl ?_
  refine r_aload_n hE 1 dX11_meet_g0.2.2.2.2.2.2.2.2.2.2.2.2.2.2.1 rfl rfl ?_
  refine r_aload_n hE 1 dX11_meet_g0.2.2.2.2.2.2.2.2.2.2.2.2.2.2.2 rfl rfl ?_
  refine cg_wo_reckoner hE hm fk_X11_36 dX11_meet_g1.1 ?_
  refine r_aload_n hE 1 dX11_meet_g1.2.1 rfl rfl ?_
  refine cg_wo_reckoner hE hm fk_X11_36 dX11_meet_g1.2.2.1 ?_
  refine r_aload_n hE 1 dX11_meet_g1.2.2.2.1 rfl rfl ?_
  refine cg_wo_reckoner hE hm fk_X11_36 dX11_meet_g1.2.2.2.2.1 ?_
  refine r_lload hE 4 dX11_meet_g1.2.2.2.2.2.1 rfl ?_
  refine r_lload hE 6 dX11_meet_g1.2.2.2.2.2.2.1 rfl ?_
  refine c_callVl hE hm [.long a5, .long a9] [.ref (G.1 800), .ref (G.1 800), .ref (G.1 1300)] ck_X11_236 (cr_rk hm rfl) (kc_rk_times h) (by decide) rfl rfl (Nat.le_of_ble_eq_true rfl) dX11_meet_g1.2.2.2.2.2.2.2.1 (fun s7 r8 h => ?_)
  refine r_aload_n hE 1 dX11_meet_g1.2.2.2.2.2.2.2.2.1 rfl rfl ?_
  refine cg_wo_reckoner hE hm fk_X11_36 dX11_meet_g1.2.2.2.2.2.2.2.2.2.1 ?_
  refine r_lload hE 7 dX11_meet_g1.2.2.2.2.2.2.2.2.2.2.1 rfl ?_
  refine r_lload_n hE 3 dX11_meet_g1.2.2.2.2.2.2.2.2.2.2.2.1 rfl rfl ?_
  refine c_callVl hE hm [.long a11, .long a3] [.long r8, .ref (G.1 800), .ref (G.1 800), .ref (G.1 1300)] ck_X11_236 (cr_rk hm rfl) (kc_rk_times h) (by decide) rfl rfl (Nat.le_of_ble_eq_true rfl) dX11_meet_g1.2.2.2.2.2.2.2.2.2.2.2.2.1 (fun s9 r10 h => ?_)
  refine c_callVl hE hm [.long r8, .long r10] [.ref (G.1 800), .ref (G.1 1300)] ck_X11_226 (cr_rk hm rfl) (kc_rk_minus h) (by decide) rfl rfl (Nat.le_of_ble_eq_true rfl) dX11_meet_g1.2.2.2.2.2.2.2.2.2.2.2.2.2.1 (fun s11 r12 h => ?_)
  refine r_lload hE 0 dX11_meet_g1.2.2.2.2.2.2.2.2.2.2.2.2.2.2.1 rfl ?_
  refine c_callVl hE hm [.long r12, .long r6] [.ref (G.1 1300)] ck_X11_204 (cr_rk hm rfl) (kc_rk_over h) (by decide) rfl rfl (Nat.le_of_ble_eq_true rfl) dX11_meet_g1.2.2.2.2.2.2.2.2.2.2.2.2.2.2.2 (fun s13 r14 h => ?_)
  refine cp_wo_x hE hm fk_X11_17 dX11_meet_g2.1 h (fun s15 h => ?_)
  refine r_aload_n hE 1 dX11_meet_g2.2.1 rfl rfl ?_
  refine r_aload_n hE 1 dX11_meet_g2.2.2.1 rfl rfl ?_
  refine cg_wo_reckoner hE hm fk_X11_36 dX11_meet_g2.2.2.2.1 ?_
  refine r_aload_n hE 1 dX11_meet_g2.2.2.2.2.1 rfl rfl ?_
  refine cg_wo_reckoner hE hm fk_X11_36 dX11_meet_g2.2.2.2.2.2.1 ?_
  refine r_aload_n hE 1 dX11_meet_g2.2.2.2.2.2.2.1 rfl rfl ?_
  refine cg_wo_reckoner hE hm fk_X11_36 dX11_meet_g2.2.2.2.2.2.2.2.1 ?_
  refine r_lload_n hE 2 dX11_meet_g2.2.2.2.2.2.2.2.2.1 rfl rfl ?_
  refine r_lload hE 7 dX11_meet_g2.2.2.2.2.2.2.2.2.2.1 rfl ?_
  refine c_callVl hE hm [.long a1, .long a11] [.ref (G.1 800), .ref (G.1 800), .ref (G.1 1300)] ck_X11_236 (cr_rk hm rfl) (kc_rk_times h) (by decide) rfl rfl (Nat.le_of_ble_eq_true rfl) dX11_meet_g2.2.2.2.2.2.2.2.2.2.2.1 (fun s16 r17 h => ?_)
  refine r_aload_n hE 1 dX11_meet_g2.2.2.2.2.2.2.2.2.2.2.2.1 rfl rfl ?_
  refine cg_wo_reckoner hE hm fk_X11_36 dX11_meet_g2.2.2.2.2.2.2.2.2.2.2.2.2.1 ?_
  refine r_lload hE 5 dX11_meet_g2.2.2.2.2.2.2.2.2.2.2.2.2.2.1 rfl ?_
  refine r_lload hE 4 dX11_meet_g2.2.2.2.2.2.2.2.2.2.2.2.2.2.2.1 rfl ?_
  refine c_callVl hE hm [.long a7, .long a5] [.long r17, .ref (G.1 800), .ref (G.1 800), .ref (G.1 1300)] ck_X11_236 (cr_rk hm rfl) (kc_rk_times h) (by decide) rfl rfl (Nat.le_of_ble_eq_true rfl) dX11_meet_g2.2.2.2.2.2.2.2.2.2.2.2.2.2.2.2 (fun s18 r19 h => ?_)
  refine c_callVl hE hm [.long r17, .long r19] [.ref (G.1 800), .ref (G.1 1300)] ck_X11_226 (cr_rk hm rfl) (kc_rk_minus h) (by decide) rfl rfl (Nat.le_of_ble_eq_true rfl) dX11_meet_g3.1 (fun s20 r21 h => ?_)
  refine r_lload hE 0 dX11_meet_g3.2.1 rfl ?_
  refine c_callVl hE hm [.long r21, .long r6] [.ref (G.1 1300)] ck_X11_204 (cr_rk hm rfl) (kc_rk_over h) (by decide) rfl rfl (Nat.le_of_ble_eq_true rfl) dX11_meet_g3.2.2.1 (fun s22 r23 h => ?_)
  refine cp_wo_y hE hm fk_X11_21 dX11_meet_g3.2.2.2.1 h (fun s24 h => ?_)
  exact c_vret hE hm dX11_meet_g3.2.2.2.2 h
/-! wo_normal -/
def wc_wo_normal_20 (post : CS → Prop) (σ : CS) (t0 : Int64) : Prop := wc_rk_over (fun (s1 : CS) (r2 : Int64) => ∀ s3 : CS, s3 = c_wo_a_s s1 r2 → wc_rk_over (fun (s4 : CS) (r5 : Int64) => ∀ s6 : CS, s6 = c_wo_b_s s4 r5 → wc_rk_over (fun (s7 : CS) (r8 : Int64) => ∀ s9 : CS, s9 = c_wo_c_s s7 r8 → post s9) s6 (c_wo_c s6) t0) s3 (c_wo_b s3) t0) σ (c_wo_a σ) t0
set_option maxRecDepth 20000 in
theorem kc_wo_normal_20 {E : gEnv} {l : Launch} {D : va_G} {G : gAd} {post : CS → Prop} (hE : gOK E cX11_normal RX11 none 3) (hm : cOK E l D G (pV post) 3) (σ : CS) (t0 : Int64) (h : wc_wo_normal_20 post σ t0) : GW E (cW G σ) 20 [(0, .ref (G.1 1300))] [.long t0] := by
  unfold wc_wo_normal_20 at h
  have hN := hm.2.2.2.2.2.2.1
  refine r_lstore_n hE [(1, .long t0), (0, .ref (G.1 1300))] dX11_normal_g0.2.2.2.2.2.2.2.2.2.2.1 rfl hN (by decide) rfl ?_
  refine r_aload_n hE 1 dX11_normal_g0.2.2.2.2.2.2.2.2.2.2.2.1 rfl rfl ?_
  refine r_aload_n hE 1 dX11_normal_g0.2.2.2.2.2.2.2.2.2.2.2.2.1 rfl rfl ?_
  refine cg_wo_reckoner hE hm fk_X11_36 dX11_normal_g0.2.2.2.2.2.2.2.2.2.2.2.2.2.1 ?_
  refine r_aload_n hE 1 dX11_normal_g0.2.2.2.2.2.2.2.2.2.2.2.2.2.2.1 rfl rfl ?_
  refine cg_wo_a hE hm fk_X11_24 dX11_normal_g0.2.2.2.2.2.2.2.2.2.2.2.2.2.2.2 ?_
  refine r_lload_n hE 0 dX11_normal_g1.1 rfl rfl ?_
  refine c_callVl hE hm [.long (c_wo_a σ), .long t0] [.ref (G.1 1300)] ck_X11_204 (cr_rk hm rfl) (kc_rk_over h) (by decide) rfl rfl (Nat.le_of_ble_eq_true rfl) dX11_normal_g1.2.1 (fun s1 r2 h => ?_)
  refine cp_wo_a hE hm fk_X11_24 dX11_normal_g1.2.2.1 h (fun s3 h => ?_)
  refine r_aload_n hE 1 dX11_normal_g1.2.2.2.1 rfl rfl ?_
  refine r_aload_n hE 1 dX11_normal_g1.2.2.2.2.1 rfl rfl ?_
  refine cg_wo_reckoner hE hm fk_X11_36 dX11_normal_g1.2.2.2.2.2.1 ?_
  refine r_aload_n hE 1 dX11_normal_g1.2.2.2.2.2.2.1 rfl rfl ?_
  refine cg_wo_b hE hm fk_X11_27 dX11_normal_g1.2.2.2.2.2.2.2.1 ?_
  refine r_lload_n hE 0 dX11_normal_g1.2.2.2.2.2.2.2.2.1 rfl rfl ?_
  refine c_callVl hE hm [.long (c_wo_b s3), .long t0] [.ref (G.1 1300)] ck_X11_204 (cr_rk hm rfl) (kc_rk_over h) (by decide) rfl rfl (Nat.le_of_ble_eq_true rfl) dX11_normal_g1.2.2.2.2.2.2.2.2.2.1 (fun s4 r5 h => ?_)
  refine cp_wo_b hE hm fk_X11_27 dX11_normal_g1.2.2.2.2.2.2.2.2.2.2.1 h (fun s6 h => ?_)
  refine r_aload_n hE 1 dX11_normal_g1.2.2.2.2.2.2.2.2.2.2.2.1 rfl rfl ?_
  refine r_aload_n hE 1 dX11_normal_g1.2.2.2.2.2.2.2.2.2.2.2.2.1 rfl rfl ?_
  refine cg_wo_reckoner hE hm fk_X11_36 dX11_normal_g1.2.2.2.2.2.2.2.2.2.2.2.2.2.1 ?_
  refine r_aload_n hE 1 dX11_normal_g1.2.2.2.2.2.2.2.2.2.2.2.2.2.2.1 rfl rfl ?_
  refine cg_wo_c hE hm fk_X11_30 dX11_normal_g1.2.2.2.2.2.2.2.2.2.2.2.2.2.2.2 ?_
  refine r_lload_n hE 0 dX11_normal_g2.1 rfl rfl ?_
  refine c_callVl hE hm [.long (c_wo_c s6), .long t0] [.ref (G.1 1300)] ck_X11_204 (cr_rk hm rfl) (kc_rk_over h) (by decide) rfl rfl (Nat.le_of_ble_eq_true rfl) dX11_normal_g2.2.1 (fun s7 r8 h => ?_)
  refine cp_wo_c hE hm fk_X11_30 dX11_normal_g2.2.2.1 h (fun s9 h => ?_)
  exact c_vret hE hm dX11_normal_g2.2.2.2 h
def wc_wo_normal (post : CS → Prop) (σ : CS) : Prop := (((lg_cmp (c_wo_a σ) (1 : Int64)) = (0 : Int32)) → (wc_wo_normal_20 post σ (c_wo_b σ))) ∧ ((¬ ((lg_cmp (c_wo_a σ) (1 : Int64)) = (0 : Int32))) → (wc_wo_normal_20 post σ (c_wo_a σ)))
set_option maxRecDepth 20000 in
theorem kc_wo_normal {l : Launch} {D : va_G} {G : gAd} {post : CS → Prop} {σ : CS} (h : wc_wo_normal post σ) : cMet l D G yX11_normal cX11_normal 3 none 3 [.ref (G.1 1300)] σ (pV post) := by
  unfold wc_wo_normal at h
  refine c_enter (own := RX11) (by decide +kernel) rfl [(0, .ref (G.1 1300))] rfl (Nat.le_of_ble_eq_true rfl) ?_
  intro E hE hm
  have hN := hm.2.2.2.2.2.2.1
  refine r_aload_n hE 0 dX11_normal_g0.1 rfl rfl ?_
  refine cg_wo_a hE hm fk_X11_24 dX11_normal_g0.2.1 ?_
  refine r_lconst (v := (1 : Int64)) hE dX11_normal_g0.2.2.1 (by decide) ?_
  refine r_lcmp hE dX11_normal_g0.2.2.2.1 ?_
  refine r_if_eq hE 16 dX11_normal_g0.2.2.2.2.1 (by decide) h (fun h => ?_) (fun h => ?_)
  · refine r_aload_n hE 0 dX11_normal_g0.2.2.2.2.2.2.2.2.1 rfl rfl ?_
    refine cg_wo_b hE hm fk_X11_27 dX11_normal_g0.2.2.2.2.2.2.2.2.2.1 ?_
    exact kc_wo_normal_20 hE hm _ _ h
  · refine r_aload_n hE 0 dX11_normal_g0.2.2.2.2.2.1 rfl rfl ?_
    refine cg_wo_a hE hm fk_X11_24 dX11_normal_g0.2.2.2.2.2.2.1 ?_
    refine r_goto hE 20 dX11_normal_g0.2.2.2.2.2.2.2.1 (by decide) ?_
    exact kc_wo_normal_20 hE hm _ _ h
/-! wo_perpendicular -/
def wc_wo_perpendicular (post : CS → Prop) (σ : CS) (a1 : Int64) (a3 : Int64) (a5 : Int64) (a7 : Int64) : Prop := wc_rk_negative (fun (s1 : CS) (r2 : Int64) => ∀ s3 : CS, s3 = c_wo_a_s s1 r2 → ∀ s4 : CS, s4 = c_wo_b_s s3 a5 → wc_rk_times (fun (s5 : CS) (r6 : Int64) => wc_rk_times (fun (s7 : CS) (r8 : Int64) => wc_rk_plus (fun (s9 : CS) (r10 : Int64) => ∀ s11 : CS, s11 = c_wo_c_s s9 r10 → post s11) s7 r6 r8) s5 (c_wo_b s5) a3) s4 (c_wo_a s4) a1) σ a7
set_option maxRecDepth 20000 in
theorem kc_wo_perpendicular {l : Launch} {D : va_G} {G : gAd} {post : CS → Prop} {σ : CS} {a1 : Int64} {a3 : Int64} {a5 : Int64} {a7 : Int64} (h : wc_wo_perpendicular post σ a1 a3 a5 a7) : cMet l D G yX11_perpendicular cX11_perpendicular 9 none 3 [.ref (G.1 1300), .long a1, .long a3, .long a5, .long a7] σ (pV post) := by
  unfold wc_wo_perpendicular at h
  refine c_enter (own := RX11) (by decide +kernel) rfl [(0, .ref (G.1 1300)), (1, .long a1), (3, .long a3), (5, .long a5), (7, .long a7)] rfl (Nat.le_of_ble_eq_true rfl) ?_
  intro E hE hm
  have hN := hm.2.2.2.2.2.2.1
  refine r_aload_n hE 0 dX11_perpendicular_g0.1 rfl rfl ?_
  refine r_aload_n hE 0 dX11_perpendicular_g0.2.1 rfl rfl ?_
  refine cg_wo_reckoner hE hm fk_X11_36 dX11_perpendicular_g0.2.2.1 ?_
  refine r_lload hE 4 dX11_perpendicular_g0.2.2.2.1 rfl ?_
  refine c_callVl hE hm [.long a7] [.ref (G.1 1300)] ck_X11_201 (cr_rk hm rfl) (kc_rk_negative h) (by decide) rfl rfl (Nat.le_of_ble_eq_true rfl) dX11_perpendicular_g0.2.2.2.2.1 (fun s1 r2 h => ?_)
  refine cp_wo_a hE hm fk_X11_24 dX11_perpendicular_g0.2.2.2.2.2.1 h (fun s3 h => ?_)
  refine r_aload_n hE 0 dX11_perpendicular_g0.2.2.2.2.2.2.1 rfl rfl ?_
  refine r_lload hE 3 dX11_perpendicular_g0.2.2.2.2.2.2.2.1 rfl ?_
  refine cp_wo_b hE hm fk_X11_27 dX11_perpendicular_g0.2.2.2.2.2.2.2.2.1 h (fun s4 h => ?_)
  refine r_aload_n hE 0 dX11_perpendicular_g0.2.2.2.2.2.2.2.2.2.1 rfl rfl ?_
  refine r_aload_n hE 0 dX11_perpendicular_g0.2.2.2.2.2.2.2.2.2.2.1 rfl rfl ?_
  refine cg_wo_reckoner hE hm fk_X11_36 dX11_perpendicular_g0.2.2.2.2.2.2.2.2.2.2.2.1 ?_
  refine r_aload_n hE 0 dX11_perpendicular_g0.2.2.2.2.2.2.2.2.2.2.2.2.1 rfl rfl ?_
  refine cg_wo_reckoner hE hm fk_X11_36 dX11_perpendicular_g0.2.2.2.2.2.2.2.2.2.2.2.2.2.1 ?_
  refine r_aload_n hE 0 dX11_perpendicular_g0.2.2.2.2.2.2.2.2.2.2.2.2.2.2.1 rfl rfl ?_
  refine cg_wo_a hE hm fk_X11_24 dX11_perpendicular_g0.2.2.2.2.2.2.2.2.2.2.2.2.2.2.2 ?_
  refine r_lload_n hE 1 dX11_perpendicular_g1.1 rfl rfl ?_
  refine c_callVl hE hm [.long (c_wo_a s4), .long a1] [.ref (G.1 800), .ref (G.1 1300)] ck_X11_236 (cr_rk hm rfl) (kc_rk_times h) (by decide) rfl rfl (Nat.le_of_ble_eq_true rfl) dX11_perpendicular_g1.2.1 (fun s5 r6 h => ?_)
  refine r_aload_n hE 0 dX11_perpendicular_g1.2.2.1 rfl rfl ?_
  refine cg_wo_reckoner hE hm fk_X11_36 dX11_perpendicular_g1.2.2.2.1 ?_
  refine r_aload_n hE 0 dX11_perpendicular_g1.2.2.2.2.1 rfl rfl ?_
  refine cg_wo_b hE hm fk_X11_27 dX11_perpendicular_g1.2.2.2.2.2.1 ?_
  refine r_lload_n hE 2 dX11_perpendicular_g1.2.2.2.2.2.2.1 rfl rfl ?_
  refine c_callVl hE hm [.long (c_wo_b s5), .long a3] [.long r6, .ref (G.1 800), .ref (G.1 1300)] ck_X11_236 (cr_rk hm rfl) (kc_rk_times h) (by decide) rfl rfl (Nat.le_of_ble_eq_true rfl) dX11_perpendicular_g1.2.2.2.2.2.2.2.1 (fun s7 r8 h => ?_)
  refine c_callVl hE hm [.long r6, .long r8] [.ref (G.1 1300)] ck_X11_239 (cr_rk hm rfl) (kc_rk_plus h) (by decide) rfl rfl (Nat.le_of_ble_eq_true rfl) dX11_perpendicular_g1.2.2.2.2.2.2.2.2.1 (fun s9 r10 h => ?_)
  refine cp_wo_c hE hm fk_X11_30 dX11_perpendicular_g1.2.2.2.2.2.2.2.2.2.1 h (fun s11 h => ?_)
  exact c_vret hE hm dX11_perpendicular_g1.2.2.2.2.2.2.2.2.2.2 h
/-! wo_foot -/
def wc_wo_foot (post : CS → Prop) (σ : CS) (a1 : Int64) (a3 : Int64) (a5 : Int64) (a7 : Int64) (a9 : Int64) : Prop := wc_wo_perpendicular (fun (s1 : CS) => wc_wo_normal (fun (s2 : CS) => wc_wo_meet (fun (s3 : CS) => post s3) s2 a5 a7 a9 (c_wo_a s2) (c_wo_b s2) (c_wo_c s2)) s1) σ a1 a3 a5 a7
set_option maxRecDepth 20000 in
theorem kc_wo_foot {l : Launch} {D : va_G} {G : gAd} {post : CS → Prop} {σ : CS} {a1 : Int64} {a3 : Int64} {a5 : Int64} {a7 : Int64} {a9 : Int64} (h : wc_wo_foot post σ a1 a3 a5 a7 a9) : cMet l D G yX11_foot cX11_foot 11 none 4 [.ref (G.1 1300), .long a1, .long a3, .long a5, .long a7, .long a9] σ (pV post) := by
  unfold wc_wo_foot at h
  refine c_enter (own := RX11) (by decide +kernel) rfl [(0, .ref (G.1 1300)), (1, .long a1), (3, .long a3), (5, .long a5), (7, .long a7), (9, .long a9)] rfl (Nat.le_of_ble_eq_true rfl) ?_
  intro E hE hm
  have hN := hm.2.2.2.2.2.2.1
  refine r_aload_n hE 0 dX11_foot_g0.1 rfl rfl ?_
  refine r_lload_n hE 1 dX11_foot_g0.2.1 rfl rfl ?_
  refine r_lload_n hE 2 dX11_foot_g0.2.2.1 rfl rfl ?_
  refine r_lload hE 3 dX11_foot_g0.2.2.2.1 rfl ?_
  refine r_lload hE 4 dX11_foot_g0.2.2.2.2.1 rfl ?_
  refine c_callVv hE hm [.long a1, .long a3, .long a5, .long a7] [] ck_X11_279 (cr_wo hm rfl) (kc_wo_perpendicular h) (by decide) rfl rfl (Nat.le_of_ble_eq_true rfl) dX11_foot_g0.2.2.2.2.2.1 (fun s1 h => ?_)
  refine r_aload_n hE 0 dX11_foot_g0.2.2.2.2.2.2.1 rfl rfl ?_
  refine c_callVv hE hm [] [] ck_X11_282 (cr_wo hm rfl) (kc_wo_normal h) (by decide) rfl rfl (Nat.le_of_ble_eq_true rfl) dX11_foot_g0.2.2.2.2.2.2.2.1 (fun s2 h => ?_)
  refine r_aload_n hE 0 dX11_foot_g0.2.2.2.2.2.2.2.2.1 rfl rfl ?_
  refine r_lload hE 3 dX11_foot_g0.2.2.2.2.2.2.2.2.2.1 rfl ?_
  refine r_lload hE 4 dX11_foot_g0.2.2.2.2.2.2.2.2.2.2.1 rfl ?_
  refine r_lload hE 5 dX11_foot_g0.2.2.2.2.2.2.2.2.2.2.2.1 rfl ?_
  refine r_aload_n hE 0 dX11_foot_g0.2.2.2.2.2.2.2.2.2.2.2.2.1 rfl rfl ?_
  refine cg_wo_a hE hm fk_X11_24 dX11_foot_g0.2.2.2.2.2.2.2.2.2.2.2.2.2.1 ?_
  refine r_aload_n hE 0 dX11_foot_g0.2.2.2.2.2.2.2.2.2.2.2.2.2.2.1 rfl rfl ?_
  refine cg_wo_b hE hm fk_X11_27 dX11_foot_g0.2.2.2.2.2.2.2.2.2.2.2.2.2.2.2 ?_
  refine r_aload_n hE 0 dX11_foot_g1.1 rfl rfl ?_
  refine cg_wo_c hE hm fk_X11_30 dX11_foot_g1.2.1 ?_
  refine c_callVv hE hm [.long a5, .long a7, .long a9, .long (c_wo_a s2), .long (c_wo_b s2), .long (c_wo_c s2)] [] ck_X11_257 (cr_wo hm rfl) (kc_wo_meet h) (by decide) rfl rfl (Nat.le_of_ble_eq_true rfl) dX11_foot_g1.2.2.1 (fun s3 h => ?_)
  exact c_vret hE hm dX11_foot_g1.2.2.2 h
/-! wo_scale -/
def wc_wo_scale (post : CS → Prop) (σ : CS) (a1 : Int64) : Prop := wc_wo_given (fun (s1 : CS) (r2 : Int64) => wc_wo_given (fun (s3 : CS) (r4 : Int64) => wc_wo_given (fun (s5 : CS) (r6 : Int64) => wc_rk_minus (fun (s7 : CS) (r8 : Int64) => wc_rk_times (fun (s9 : CS) (r10 : Int64) => wc_rk_plus (fun (s11 : CS) (r12 : Int64) => ∀ s13 : CS, s13 = c_wo_x_s s11 r12 → wc_wo_given (fun (s14 : CS) (r15 : Int64) => wc_rk_minus (fun (s16 : CS) (r17 : Int64) => wc_rk_times (fun (s18 : CS) (r19 : Int64) => wc_rk_plus (fun (s20 : CS) (r21 : Int64) => ∀ s22 : CS, s22 = c_wo_y_s s20 r21 → post s22) s18 r4 r19) s16 a1 r17) s14 r15 r4) s13 (0 : Int32) (1 : Int32)) s9 r2 r10) s7 a1 r8) s5 r6 r2) s3 (0 : Int32) (0 : Int32)) s1 (1 : Int32) (1 : Int32)) σ (1 : Int32) (0 : Int32)
set_option maxRecDepth 20000 in
theorem kc_wo_scale {l : Launch} {D : va_G} {G : gAd} {post : CS → Prop} {σ : CS} {a1 : Int64} (h : wc_wo_scale post σ a1) : cMet l D G yX11_scale cX11_scale 7 none 3 [.ref (G.1 1300), .long a1] σ (pV post) := by
  unfold wc_wo_scale at h
  refine c_enter (own := RX11) (by decide +kernel) rfl [(0, .ref (G.1 1300)), (1, .long a1)] rfl (Nat.le_of_ble_eq_true rfl) ?_
  intro E hE hm
  have hN := hm.2.2.2.2.2.2.1
  refine r_aload_n hE 0 dX11_scale_g0.1 rfl rfl ?_
  refine r_iconst (v := (1 : Int32)) hE dX11_scale_g0.2.1 (by decide) ?_
  refine r_iconst (v := (0 : Int32)) hE dX11_scale_g0.2.2.1 (by decide) ?_
  refine c_callVl hE hm [.int (1 : Int32), .int (0 : Int32)] [] ck_X11_126 (cr_wo hm rfl) (kc_wo_given h) (by decide) rfl rfl (Nat.le_of_ble_eq_true rfl) dX11_scale_g0.2.2.2.1 (fun s1 r2 h => ?_)
  refine r_lstore_n hE [(3, .long r2), (0, .ref (G.1 1300)), (1, .long a1)] dX11_scale_g0.2.2.2.2.1 rfl hN (by decide) rfl ?_
  refine r_aload_n hE 1 dX11_scale_g0.2.2.2.2.2.1 rfl rfl ?_
  refine r_iconst (v := (1 : Int32)) hE dX11_scale_g0.2.2.2.2.2.2.1 (by decide) ?_
  refine r_iconst (v := (1 : Int32)) hE dX11_scale_g0.2.2.2.2.2.2.2.1 (by decide) ?_
  refine c_callVl hE hm [.int (1 : Int32), .int (1 : Int32)] [] ck_X11_126 (cr_wo hm rfl) (kc_wo_given h) (by decide) rfl rfl (Nat.le_of_ble_eq_true rfl) dX11_scale_g0.2.2.2.2.2.2.2.2.1 (fun s3 r4 h => ?_)
  refine r_lstore hE [(5, .long r4), (3, .long r2), (0, .ref (G.1 1300)), (1, .long a1)] dX11_scale_g0.2.2.2.2.2.2.2.2.2.1 hN (by decide) rfl ?_
  refine r_aload_n hE 2 dX11_scale_g0.2.2.2.2.2.2.2.2.2.2.1 rfl rfl ?_
  refine r_aload_n hE 2 dX11_scale_g0.2.2.2.2.2.2.2.2.2.2.2.1 rfl rfl ?_
  refine cg_wo_reckoner hE hm fk_X11_36 dX11_scale_g0.2.2.2.2.2.2.2.2.2.2.2.2.1 ?_
  refine r_lload_n hE 1 dX11_scale_g0.2.2.2.2.2.2.2.2.2.2.2.2.2.1 rfl rfl ?_
  refine r_aload_n hE 2 dX11_scale_g0.2.2.2.2.2.2.2.2.2.2.2.2.2.2.1 rfl rfl ?_
  refine cg_wo_reckoner hE hm fk_X11_36 dX11_scale_g0.2.2.2.2.2.2.2.2.2.2.2.2.2.2.2 ?_
  refine r_lload_n hE 3 dX11_scale_g1.1 rfl rfl ?_
  refine r_aload_n hE 2 dX11_scale_g1.2.1 rfl rfl ?_
  refine cg_wo_reckoner hE hm fk_X11_36 dX11_scale_g1.2.2.1 ?_
  refine r_aload_n hE 2 dX11_scale_g1.2.2.2.1 rfl rfl ?_
  refine r_iconst (v := (0 : Int32)) hE dX11_scale_g1.2.2.2.2.1 (by decide) ?_
  refine r_iconst (v := (0 : Int32)) hE dX11_scale_g1.2.2.2.2.2.1 (by decide) ?_
  refine c_callVl hE hm [.int (0 : Int32), .int (0 : Int32)] [.ref (G.1 800), .long a1, .ref (G.1 800), .long r2, .ref (G.1 800), .ref (G.1 1300)] ck_X11_126 (cr_wo hm rfl) (kc_wo_given h) (by decide) rfl rfl (Nat.le_of_ble_eq_true rfl) dX11_scale_g1.2.2.2.2.2.2.1 (fun s5 r6 h => ?_)
  refine r_lload_n hE 1 dX11_scale_g1.2.2.2.2.2.2.2.1 rfl rfl ?_
  refine c_callVl hE hm [.long r6, .long r2] [.long a1, .ref (G.1 800), .long r2, .ref (G.1 800), .ref (G.1 1300)] ck_X11_226 (cr_rk hm rfl) (kc_rk_minus h) (by decide) rfl rfl (Nat.le_of_ble_eq_true rfl) dX11_scale_g1.2.2.2.2.2.2.2.2.1 (fun s7 r8 h => ?_)
  refine c_callVl hE hm [.long a1, .long r8] [.long r2, .ref (G.1 800), .ref (G.1 1300)] ck_X11_236 (cr_rk hm rfl) (kc_rk_times h) (by decide) rfl rfl (Nat.le_of_ble_eq_true rfl) dX11_scale_g1.2.2.2.2.2.2.2.2.2.1 (fun s9 r10 h => ?_)
  refine c_callVl hE hm [.long r2, .long r10] [.ref (G.1 1300)] ck_X11_239 (cr_rk hm rfl) (kc_rk_plus h) (by decide) rfl rfl (Nat.le_of_ble_eq_true rfl) dX11_scale_g1.2.2.2.2.2.2.2.2.2.2.1 (fun s11 r12 h => ?_)
  refine cp_wo_x hE hm fk_X11_17 dX11_scale_g1.2.2.2.2.2.2.2.2.2.2.2.1 h (fun s13 h => ?_)
  refine r_aload_n hE 2 dX11_scale_g1.2.2.2.2.2.2.2.2.2.2.2.2.1 rfl rfl ?_
  refine r_aload_n hE 2 dX11_scale_g1.2.2.2.2.2.2.2.2.2.2.2.2.2.1 rfl rfl ?_
  refine cg_wo_reckoner hE hm fk_X11_36 dX11_scale_g1.2.2.2.2.2.2.2.2.2.2.2.2.2.2.1 ?_
  refine r_lload hE 0 dX11_scale_g1.2.2.2.2.2.2.2.2.2.2.2.2.2.2.2 rfl ?_
  refine r_aload_n hE 2 dX11_scale_g2.1 rfl rfl ?_
  refine cg_wo_reckoner hE hm fk_X11_36 dX11_scale_g2.2.1 ?_
  refine r_lload_n hE 3 dX11_scale_g2.2.2.1 rfl rfl ?_
  refine r_aload_n hE 2 dX11_scale_g2.2.2.2.1 rfl rfl ?_
  refine cg_wo_reckoner hE hm fk_X11_36 dX11_scale_g2.2.2.2.2.1 ?_
  refine r_aload_n hE 2 dX11_scale_g2.2.2.2.2.2.1 rfl rfl ?_
  refine r_iconst (v := (0 : Int32)) hE dX11_scale_g2.2.2.2.2.2.2.1 (by decide) ?_
  refine r_iconst (v := (1 : Int32)) hE dX11_scale_g2.2.2.2.2.2.2.2.1 (by decide) ?_
  refine c_callVl hE hm [.int (0 : Int32), .int (1 : Int32)] [.ref (G.1 800), .long a1, .ref (G.1 800), .long r4, .ref (G.1 800), .ref (G.1 1300)] ck_X11_126 (cr_wo hm rfl) (kc_wo_given h) (by decide) rfl rfl (Nat.le_of_ble_eq_true rfl) dX11_scale_g2.2.2.2.2.2.2.2.2.1 (fun s14 r15 h => ?_)
  refine r_lload hE 0 dX11_scale_g2.2.2.2.2.2.2.2.2.2.1 rfl ?_
  refine c_callVl hE hm [.long r15, .long r4] [.long a1, .ref (G.1 800), .long r4, .ref (G.1 800), .ref (G.1 1300)] ck_X11_226 (cr_rk hm rfl) (kc_rk_minus h) (by decide) rfl rfl (Nat.le_of_ble_eq_true rfl) dX11_scale_g2.2.2.2.2.2.2.2.2.2.2.1 (fun s16 r17 h => ?_)
  refine c_callVl hE hm [.long a1, .long r17] [.long r4, .ref (G.1 800), .ref (G.1 1300)] ck_X11_236 (cr_rk hm rfl) (kc_rk_times h) (by decide) rfl rfl (Nat.le_of_ble_eq_true rfl) dX11_scale_g2.2.2.2.2.2.2.2.2.2.2.2.1 (fun s18 r19 h => ?_)
  refine c_callVl hE hm [.long r4, .long r19] [.ref (G.1 1300)] ck_X11_239 (cr_rk hm rfl) (kc_rk_plus h) (by decide) rfl rfl (Nat.le_of_ble_eq_true rfl) dX11_scale_g2.2.2.2.2.2.2.2.2.2.2.2.2.1 (fun s20 r21 h => ?_)
  refine cp_wo_y hE hm fk_X11_21 dX11_scale_g2.2.2.2.2.2.2.2.2.2.2.2.2.2.1 h (fun s22 h => ?_)
  exact c_vret hE hm dX11_scale_g2.2.2.2.2.2.2.2.2.2.2.2.2.2.2 h
/-! wo_through -/
def wc_wo_through (post : CS → Prop) (σ : CS) (a1 : Int64) (a3 : Int64) (a5 : Int64) (a7 : Int64) : Prop := wc_rk_minus (fun (s1 : CS) (r2 : Int64) => ∀ s3 : CS, s3 = c_wo_a_s s1 r2 → wc_rk_minus (fun (s4 : CS) (r5 : Int64) => ∀ s6 : CS, s6 = c_wo_b_s s4 r5 → wc_rk_times (fun (s7 : CS) (r8 : Int64) => wc_rk_times (fun (s9 : CS) (r10 : Int64) => wc_rk_plus (fun (s11 : CS) (r12 : Int64) => ∀ s13 : CS, s13 = c_wo_c_s s11 r12 → post s13) s9 r8 r10) s7 (c_wo_b s7) a3) s6 (c_wo_a s6) a1) s3 a5 a1) σ a3 a7
set_option maxRecDepth 20000 in
theorem kc_wo_through {l : Launch} {D : va_G} {G : gAd} {post : CS → Prop} {σ : CS} {a1 : Int64} {a3 : Int64} {a5 : Int64} {a7 : Int64} (h : wc_wo_through post σ a1 a3 a5 a7) : cMet l D G yX11_through cX11_through 9 none 3 [.ref (G.1 1300), .long a1, .long a3, .long a5, .long a7] σ (pV post) := by
  unfold wc_wo_through at h
  refine c_enter (own := RX11) (by decide +kernel) rfl [(0, .ref (G.1 1300)), (1, .long a1), (3, .long a3), (5, .long a5), (7, .long a7)] rfl (Nat.le_of_ble_eq_true rfl) ?_
  intro E hE hm
  have hN := hm.2.2.2.2.2.2.1
  refine r_aload_n hE 0 dX11_through_g0.1 rfl rfl ?_
  refine r_aload_n hE 0 dX11_through_g0.2.1 rfl rfl ?_
  refine cg_wo_reckoner hE hm fk_X11_36 dX11_through_g0.2.2.1 ?_
  refine r_lload_n hE 2 dX11_through_g0.2.2.2.1 rfl rfl ?_
  refine r_lload hE 4 dX11_through_g0.2.2.2.2.1 rfl ?_
  refine c_callVl hE hm [.long a3, .long a7] [.ref (G.1 1300)] ck_X11_226 (cr_rk hm rfl) (kc_rk_minus h) (by decide) rfl rfl (Nat.le_of_ble_eq_true rfl) dX11_through_g0.2.2.2.2.2.1 (fun s1 r2 h => ?_)
  refine cp_wo_a hE hm fk_X11_24 dX11_through_g0.2.2.2.2.2.2.1 h (fun s3 h => ?_)
  refine r_aload_n hE 0 dX11_through_g0.2.2.2.2.2.2.2.1 rfl rfl ?_
  refine r_aload_n hE 0 dX11_through_g0.2.2.2.2.2.2.2.2.1 rfl rfl ?_
  refine cg_wo_reckoner hE hm fk_X11_36 dX11_through_g0.2.2.2.2.2.2.2.2.2.1 ?_
  refine r_lload hE 3 dX11_through_g0.2.2.2.2.2.2.2.2.2.2.1 rfl ?_
  refine r_lload_n hE 1 dX11_through_g0.2.2.2.2.2.2.2.2.2.2.2.1 rfl rfl ?_
  refine c_callVl hE hm [.long a5, .long a1] [.ref (G.1 1300)] ck_X11_226 (cr_rk hm rfl) (kc_rk_minus h) (by decide) rfl rfl (Nat.le_of_ble_eq_true rfl) dX11_through_g0.2.2.2.2.2.2.2.2.2.2.2.2.1 (fun s4 r5 h => ?_)
  refine cp_wo_b hE hm fk_X11_27 dX11_through_g0.2.2.2.2.2.2.2.2.2.2.2.2.2.1 h (fun s6 h => ?_)
  refine r_aload_n hE 0 dX11_through_g0.2.2.2.2.2.2.2.2.2.2.2.2.2.2.1 rfl rfl ?_
  refine r_aload_n hE 0 dX11_through_g0.2.2.2.2.2.2.2.2.2.2.2.2.2.2.2 rfl rfl ?_
  refine cg_wo_reckoner hE hm fk_X11_36 dX11_through_g1.1 ?_
  refine r_aload_n hE 0 dX11_through_g1.2.1 rfl rfl ?_
  refine cg_wo_reckoner hE hm fk_X11_36 dX11_through_g1.2.2.1 ?_
  refine r_aload_n hE 0 dX11_through_g1.2.2.2.1 rfl rfl ?_
  refine cg_wo_a hE hm fk_X11_24 dX11_through_g1.2.2.2.2.1 ?_
  refine r_lload_n hE 1 dX11_through_g1.2.2.2.2.2.1 rfl rfl ?_
  refine c_callVl hE hm [.long (c_wo_a s6), .long a1] [.ref (G.1 800), .ref (G.1 1300)] ck_X11_236 (cr_rk hm rfl) (kc_rk_times h) (by decide) rfl rfl (Nat.le_of_ble_eq_true rfl) dX11_through_g1.2.2.2.2.2.2.1 (fun s7 r8 h => ?_)
  refine r_aload_n hE 0 dX11_through_g1.2.2.2.2.2.2.2.1 rfl rfl ?_
  refine cg_wo_reckoner hE hm fk_X11_36 dX11_through_g1.2.2.2.2.2.2.2.2.1 ?_
  refine r_aload_n hE 0 dX11_through_g1.2.2.2.2.2.2.2.2.2.1 rfl rfl ?_
  refine cg_wo_b hE hm fk_X11_27 dX11_through_g1.2.2.2.2.2.2.2.2.2.2.1 ?_
  refine r_lload_n hE 2 dX11_through_g1.2.2.2.2.2.2.2.2.2.2.2.1 rfl rfl ?_
  refine c_callVl hE hm [.long (c_wo_b s7), .long a3] [.long r8, .ref (G.1 800), .ref (G.1 1300)] ck_X11_236 (cr_rk hm rfl) (kc_rk_times h) (by decide) rfl rfl (Nat.le_of_ble_eq_true rfl) dX11_through_g1.2.2.2.2.2.2.2.2.2.2.2.2.1 (fun s9 r10 h => ?_)
  refine c_callVl hE hm [.long r8, .long r10] [.ref (G.1 1300)] ck_X11_239 (cr_rk hm rfl) (kc_rk_plus h) (by decide) rfl rfl (Nat.le_of_ble_eq_true rfl) dX11_through_g1.2.2.2.2.2.2.2.2.2.2.2.2.2.1 (fun s11 r12 h => ?_)
  refine cp_wo_c hE hm fk_X11_30 dX11_through_g1.2.2.2.2.2.2.2.2.2.2.2.2.2.2.1 h (fun s13 h => ?_)
  exact c_vret hE hm dX11_through_g1.2.2.2.2.2.2.2.2.2.2.2.2.2.2.2 h
/-! wo_halving -/
def wc_wo_halving (post : CS → Prop) (σ : CS) (a1 : Int64) (a3 : Int64) (a5 : Int64) (a7 : Int64) : Prop := wc_wo_middle (fun (s1 : CS) => wc_wo_through (fun (s2 : CS) => wc_wo_normal (fun (s3 : CS) => wc_wo_perpendicular (fun (s4 : CS) => wc_wo_normal (fun (s5 : CS) => post s5) s4) s3 (c_wo_x s3) (c_wo_y s3) (c_wo_a s3) (c_wo_b s3)) s2) s1 a1 a3 a5 a7) σ a1 a3 a5 a7
set_option maxRecDepth 20000 in
theorem kc_wo_halving {l : Launch} {D : va_G} {G : gAd} {post : CS → Prop} {σ : CS} {a1 : Int64} {a3 : Int64} {a5 : Int64} {a7 : Int64} (h : wc_wo_halving post σ a1 a3 a5 a7) : cMet l D G yX11_halving cX11_halving 9 none 4 [.ref (G.1 1300), .long a1, .long a3, .long a5, .long a7] σ (pV post) := by
  unfold wc_wo_halving at h
  refine c_enter (own := RX11) (by decide +kernel) rfl [(0, .ref (G.1 1300)), (1, .long a1), (3, .long a3), (5, .long a5), (7, .long a7)] rfl (Nat.le_of_ble_eq_true rfl) ?_
  intro E hE hm
  have hN := hm.2.2.2.2.2.2.1
  refine r_aload_n hE 0 dX11_halving_g0.1 rfl rfl ?_
  refine r_lload_n hE 1 dX11_halving_g0.2.1 rfl rfl ?_
  refine r_lload_n hE 2 dX11_halving_g0.2.2.1 rfl rfl ?_
  refine r_lload hE 3 dX11_halving_g0.2.2.2.1 rfl ?_
  refine r_lload hE 4 dX11_halving_g0.2.2.2.2.1 rfl ?_
  refine c_callVv hE hm [.long a1, .long a3, .long a5, .long a7] [] ck_X11_253 (cr_wo hm rfl) (kc_wo_middle h) (by decide) rfl rfl (Nat.le_of_ble_eq_true rfl) dX11_halving_g0.2.2.2.2.2.1 (fun s1 h => ?_)
  refine r_aload_n hE 0 dX11_halving_g0.2.2.2.2.2.2.1 rfl rfl ?_
  refine r_lload_n hE 1 dX11_halving_g0.2.2.2.2.2.2.2.1 rfl rfl ?_
  refine r_lload_n hE 2 dX11_halving_g0.2.2.2.2.2.2.2.2.1 rfl rfl ?_
  refine r_lload hE 3 dX11_halving_g0.2.2.2.2.2.2.2.2.2.1 rfl ?_
  refine r_lload hE 4 dX11_halving_g0.2.2.2.2.2.2.2.2.2.2.1 rfl ?_
  refine c_callVv hE hm [.long a1, .long a3, .long a5, .long a7] [] ck_X11_288 (cr_wo hm rfl) (kc_wo_through h) (by decide) rfl rfl (Nat.le_of_ble_eq_true rfl) dX11_halving_g0.2.2.2.2.2.2.2.2.2.2.2.1 (fun s2 h => ?_)
  refine r_aload_n hE 0 dX11_halving_g0.2.2.2.2.2.2.2.2.2.2.2.2.1 rfl rfl ?_
  refine c_callVv hE hm [] [] ck_X11_282 (cr_wo hm rfl) (kc_wo_normal h) (by decide) rfl rfl (Nat.le_of_ble_eq_true rfl) dX11_halving_g0.2.2.2.2.2.2.2.2.2.2.2.2.2.1 (fun s3 h => ?_)
  refine r_aload_n hE 0 dX11_halving_g0.2.2.2.2.2.2.2.2.2.2.2.2.2.2.1 rfl rfl ?_
  refine r_aload_n hE 0 dX11_halving_g0.2.2.2.2.2.2.2.2.2.2.2.2.2.2.2 rfl rfl ?_
  refine cg_wo_x hE hm fk_X11_17 dX11_halving_g1.1 ?_
  refine r_aload_n hE 0 dX11_halving_g1.2.1 rfl rfl ?_
  refine cg_wo_y hE hm fk_X11_21 dX11_halving_g1.2.2.1 ?_
  refine r_aload_n hE 0 dX11_halving_g1.2.2.2.1 rfl rfl ?_
  refine cg_wo_a hE hm fk_X11_24 dX11_halving_g1.2.2.2.2.1 ?_
  refine r_aload_n hE 0 dX11_halving_g1.2.2.2.2.2.1 rfl rfl ?_
  refine cg_wo_b hE hm fk_X11_27 dX11_halving_g1.2.2.2.2.2.2.1 ?_
  refine c_callVv hE hm [.long (c_wo_x s3), .long (c_wo_y s3), .long (c_wo_a s3), .long (c_wo_b s3)] [] ck_X11_279 (cr_wo hm rfl) (kc_wo_perpendicular h) (by decide) rfl rfl (Nat.le_of_ble_eq_true rfl) dX11_halving_g1.2.2.2.2.2.2.2.1 (fun s4 h => ?_)
  refine r_aload_n hE 0 dX11_halving_g1.2.2.2.2.2.2.2.2.1 rfl rfl ?_
  refine c_callVv hE hm [] [] ck_X11_282 (cr_wo hm rfl) (kc_wo_normal h) (by decide) rfl rfl (Nat.le_of_ble_eq_true rfl) dX11_halving_g1.2.2.2.2.2.2.2.2.2.1 (fun s5 h => ?_)
  exact c_vret hE hm dX11_halving_g1.2.2.2.2.2.2.2.2.2.2 h
/-! wo_ring -/
def wc_wo_ring (post : CS → Prop) (σ : CS) (a1 : Int64) (a3 : Int64) : Prop := wc_wo_given (fun (s1 : CS) (r2 : Int64) => wc_wo_given (fun (s3 : CS) (r4 : Int64) => wc_wo_halving (fun (s5 : CS) => ∀ x6 : Int64, x6 = c_wo_a s5 → ∀ x7 : Int64, x7 = c_wo_b s5 → ∀ x8 : Int64, x8 = c_wo_c s5 → wc_wo_given (fun (s9 : CS) (r10 : Int64) => wc_wo_given (fun (s11 : CS) (r12 : Int64) => wc_wo_halving (fun (s13 : CS) => wc_wo_meet (fun (s14 : CS) => wc_wo_dist (fun (s15 : CS) (r16 : Int64) => ∀ s17 : CS, s17 = c_wo_square_s s15 r16 → post s17) s14 (c_wo_x s14) (c_wo_y s14) a1 a3) s13 x6 x7 x8 (c_wo_a s13) (c_wo_b s13) (c_wo_c s13)) s11 a1 a3 r10 r12) s9 (2 : Int32) (1 : Int32)) s5 (2 : Int32) (0 : Int32)) s3 a1 a3 r2 r4) s1 (1 : Int32) (1 : Int32)) σ (1 : Int32) (0 : Int32)
set_option maxRecDepth 20000 in
theorem kc_wo_ring {l : Launch} {D : va_G} {G : gAd} {post : CS → Prop} {σ : CS} {a1 : Int64} {a3 : Int64} (h : wc_wo_ring post σ a1 a3) : cMet l D G yX11_ring cX11_ring 11 none 5 [.ref (G.1 1300), .long a1, .long a3] σ (pV post) := by
  unfold wc_wo_ring at h
  refine c_enter (own := RX11) (by decide +kernel) rfl [(0, .ref (G.1 1300)), (1, .long a1), (3, .long a3)] rfl (Nat.le_of_ble_eq_true rfl) ?_
  intro E hE hm
  have hN := hm.2.2.2.2.2.2.1
  refine r_aload_n hE 0 dX11_ring_g0.1 rfl rfl ?_
  refine r_lload_n hE 1 dX11_ring_g0.2.1 rfl rfl ?_
  refine r_lload_n hE 2 dX11_ring_g0.2.2.1 rfl rfl ?_
  refine r_aload_n hE 0 dX11_ring_g0.2.2.2.1 rfl rfl ?_
  refine r_iconst (v := (1 : Int32)) hE dX11_ring_g0.2.2.2.2.1 (by decide) ?_
  refine r_iconst (v := (0 : Int32)) hE dX11_ring_g0.2.2.2.2.2.1 (by decide) ?_
  refine c_callVl hE hm [.int (1 : Int32), .int (0 : Int32)] [.long a3, .long a1, .ref (G.1 1300)] ck_X11_126 (cr_wo hm rfl) (kc_wo_given h) (by decide) rfl rfl (Nat.le_of_ble_eq_true rfl) dX11_ring_g0.2.2.2.2.2.2.1 (fun s1 r2 h => ?_)
  refine r_aload_n hE 0 dX11_ring_g0.2.2.2.2.2.2.2.1 rfl rfl ?_
  refine r_iconst (v := (1 : Int32)) hE dX11_ring_g0.2.2.2.2.2.2.2.2.1 (by decide) ?_
  refine r_iconst (v := (1 : Int32)) hE dX11_ring_g0.2.2.2.2.2.2.2.2.2.1 (by decide) ?_
  refine c_callVl hE hm [.int (1 : Int32), .int (1 : Int32)] [.long r2, .long a3, .long a1, .ref (G.1 1300)] ck_X11_126 (cr_wo hm rfl) (kc_wo_given h) (by decide) rfl rfl (Nat.le_of_ble_eq_true rfl) dX11_ring_g0.2.2.2.2.2.2.2.2.2.2.1 (fun s3 r4 h => ?_)
  refine c_callVv hE hm [.long a1, .long a3, .long r2, .long r4] [] ck_X11_294 (cr_wo hm rfl) (kc_wo_halving h) (by decide) rfl rfl (Nat.le_of_ble_eq_true rfl) dX11_ring_g0.2.2.2.2.2.2.2.2.2.2.2.1 (fun s5 h => ?_)
  refine r_aload_n hE 0 dX11_ring_g0.2.2.2.2.2.2.2.2.2.2.2.2.1 rfl rfl ?_
  refine cg_wo_a hE hm fk_X11_24 dX11_ring_g0.2.2.2.2.2.2.2.2.2.2.2.2.2.1 ?_
  refine r_topl h (fun x6 ex6 h => ?_)
  refine r_lstore hE [(5, .long x6), (0, .ref (G.1 1300)), (1, .long a1), (3, .long a3)] dX11_ring_g0.2.2.2.2.2.2.2.2.2.2.2.2.2.2.1 hN (by decide) rfl ?_
  refine r_aload_n hE 1 dX11_ring_g0.2.2.2.2.2.2.2.2.2.2.2.2.2.2.2 rfl rfl ?_
  refine cg_wo_b hE hm fk_X11_27 dX11_ring_g1.1 ?_
  refine r_topl h (fun x7 ex7 h => ?_)
  refine r_lstore hE [(7, .long x7), (5, .long x6), (0, .ref (G.1 1300)), (1, .long a1), (3, .long a3)] dX11_ring_g1.2.1 hN (by decide) rfl ?_
  refine r_aload_n hE 2 dX11_ring_g1.2.2.1 rfl rfl ?_
  refine cg_wo_c hE hm fk_X11_30 dX11_ring_g1.2.2.2.1 ?_
  refine r_topl h (fun x8 ex8 h => ?_)
  refine r_lstore hE [(9, .long x8), (7, .long x7), (5, .long x6), (0, .ref (G.1 1300)), (1, .long a1), (3, .long a3)] dX11_ring_g1.2.2.2.2.1 hN (by decide) rfl ?_
  refine r_aload_n hE 3 dX11_ring_g1.2.2.2.2.2.1 rfl rfl ?_
  refine r_lload_n hE 4 dX11_ring_g1.2.2.2.2.2.2.1 rfl rfl ?_
  refine r_lload_n hE 5 dX11_ring_g1.2.2.2.2.2.2.2.1 rfl rfl ?_
  refine r_aload_n hE 3 dX11_ring_g1.2.2.2.2.2.2.2.2.1 rfl rfl ?_
  refine r_iconst (v := (2 : Int32)) hE dX11_ring_g1.2.2.2.2.2.2.2.2.2.1 (by decide) ?_
  refine r_iconst (v := (0 : Int32)) hE dX11_ring_g1.2.2.2.2.2.2.2.2.2.2.1 (by decide) ?_
  refine c_callVl hE hm [.int (2 : Int32), .int (0 : Int32)] [.long a3, .long a1, .ref (G.1 1300)] ck_X11_126 (cr_wo hm rfl) (kc_wo_given h) (by decide) rfl rfl (Nat.le_of_ble_eq_true rfl) dX11_ring_g1.2.2.2.2.2.2.2.2.2.2.2.1 (fun s9 r10 h => ?_)
  refine r_aload_n hE 3 dX11_ring_g1.2.2.2.2.2.2.2.2.2.2.2.2.1 rfl rfl ?_
  refine r_iconst (v := (2 : Int32)) hE dX11_ring_g1.2.2.2.2.2.2.2.2.2.2.2.2.2.1 (by decide) ?_
  refine r_iconst (v := (1 : Int32)) hE dX11_ring_g1.2.2.2.2.2.2.2.2.2.2.2.2.2.2.1 (by decide) ?_
  refine c_callVl hE hm [.int (2 : Int32), .int (1 : Int32)] [.long r10, .long a3, .long a1, .ref (G.1 1300)] ck_X11_126 (cr_wo hm rfl) (kc_wo_given h) (by decide) rfl rfl (Nat.le_of_ble_eq_true rfl) dX11_ring_g1.2.2.2.2.2.2.2.2.2.2.2.2.2.2.2 (fun s11 r12 h => ?_)
  refine c_callVv hE hm [.long a1, .long a3, .long r10, .long r12] [] ck_X11_294 (cr_wo hm rfl) (kc_wo_halving h) (by decide) rfl rfl (Nat.le_of_ble_eq_true rfl) dX11_ring_g2.1 (fun s13 h => ?_)
  refine r_aload_n hE 3 dX11_ring_g2.2.1 rfl rfl ?_
  refine r_lload hE 2 dX11_ring_g2.2.2.1 rfl ?_
  refine r_lload hE 1 dX11_ring_g2.2.2.2.1 rfl ?_
  refine r_lload hE 0 dX11_ring_g2.2.2.2.2.1 rfl ?_
  refine r_aload_n hE 3 dX11_ring_g2.2.2.2.2.2.1 rfl rfl ?_
  refine cg_wo_a hE hm fk_X11_24 dX11_ring_g2.2.2.2.2.2.2.1 ?_
  refine r_aload_n hE 3 dX11_ring_g2.2.2.2.2.2.2.2.1 rfl rfl ?_
  refine cg_wo_b hE hm fk_X11_27 dX11_ring_g2.2.2.2.2.2.2.2.2.1 ?_
  refine r_aload_n hE 3 dX11_ring_g2.2.2.2.2.2.2.2.2.2.1 rfl rfl ?_
  refine cg_wo_c hE hm fk_X11_30 dX11_ring_g2.2.2.2.2.2.2.2.2.2.2.1 ?_
  refine c_callVv hE hm [.long x6, .long x7, .long x8, .long (c_wo_a s13), .long (c_wo_b s13), .long (c_wo_c s13)] [] ck_X11_257 (cr_wo hm rfl) (kc_wo_meet h) (by decide) rfl rfl (Nat.le_of_ble_eq_true rfl) dX11_ring_g2.2.2.2.2.2.2.2.2.2.2.2.1 (fun s14 h => ?_)
  refine r_aload_n hE 3 dX11_ring_g2.2.2.2.2.2.2.2.2.2.2.2.2.1 rfl rfl ?_
  refine r_aload_n hE 3 dX11_ring_g2.2.2.2.2.2.2.2.2.2.2.2.2.2.1 rfl rfl ?_
  refine r_aload_n hE 3 dX11_ring_g2.2.2.2.2.2.2.2.2.2.2.2.2.2.2.1 rfl rfl ?_
  refine cg_wo_x hE hm fk_X11_17 dX11_ring_g2.2.2.2.2.2.2.2.2.2.2.2.2.2.2.2 ?_
  refine r_aload_n hE 3 dX11_ring_g3.1 rfl rfl ?_
  refine cg_wo_y hE hm fk_X11_21 dX11_ring_g3.2.1 ?_
  refine r_lload_n hE 4 dX11_ring_g3.2.2.1 rfl rfl ?_
  refine r_lload_n hE 5 dX11_ring_g3.2.2.2.1 rfl rfl ?_
  refine c_callVl hE hm [.long (c_wo_x s14), .long (c_wo_y s14), .long a1, .long a3] [.ref (G.1 1300)] ck_X11_218 (cr_wo hm rfl) (kc_wo_dist h) (by decide) rfl rfl (Nat.le_of_ble_eq_true rfl) dX11_ring_g3.2.2.2.2.1 (fun s15 r16 h => ?_)
  refine cp_wo_square hE hm fk_X11_33 dX11_ring_g3.2.2.2.2.2.1 h (fun s17 h => ?_)
  exact c_vret hE hm dX11_ring_g3.2.2.2.2.2.2 h
/-! wo_negated -/
def wc_wo_negated (post : CS → Int32 → Prop) (σ : CS) (a1 : Int32) : Prop := wc_wo_accepts (fun (s1 : CS) (r2 : Int32) => ((¬ (r2 = (0 : Int32))) → (wc_th_partOf (fun (s3 : CS) (r4 : Int64) => wc_rk_negative (fun (s5 : CS) (r6 : Int64) => wc_th_leaningOf (fun (s7 : CS) (r8 : Int32) => wc_th_addNumber (fun (s9 : CS) (r10 : Int32) => post s9 r10) s7 r6 r8) s5 a1) s3 r4) s1 a1 (0 : Int32))) ∧ ((r2 = (0 : Int32)) → (post s1 (-1 : Int32)))) σ a1 (78 : Int32)
set_option maxRecDepth 20000 in
theorem kc_wo_negated {l : Launch} {D : va_G} {G : gAd} {post : CS → Int32 → Prop} {σ : CS} {a1 : Int32} (h : wc_wo_negated post σ a1) : cMet l D G yX11_negated cX11_negated 2 (some .int) 5 [.ref (G.1 1300), .int a1] σ (pI post) := by
  unfold wc_wo_negated at h
  refine c_enter (own := RX11) (by decide +kernel) rfl [(0, .ref (G.1 1300)), (1, .int a1)] rfl (Nat.le_of_ble_eq_true rfl) ?_
  intro E hE hm
  have hN := hm.2.2.2.2.2.2.1
  refine r_aload_n hE 0 dX11_negated_g0.1 rfl rfl ?_
  refine r_iload_n hE 1 dX11_negated_g0.2.1 rfl rfl ?_
  refine r_bipush (v := (78 : Int32)) hE dX11_negated_g0.2.2.1 (by decide) ?_
  refine c_callVi hE hm [.int a1, .int (78 : Int32)] [] ck_X11_301 (cr_wo hm rfl) (kc_wo_accepts h) (by decide) rfl rfl (Nat.le_of_ble_eq_true rfl) dX11_negated_g0.2.2.2.1 (fun s1 r2 h => ?_)
  refine r_if_ne hE 12 dX11_negated_g0.2.2.2.2.1 (by decide) h (fun h => ?_) (fun h => ?_)
  · refine r_aload_n hE 0 dX11_negated_g0.2.2.2.2.2.2.2.1 rfl rfl ?_
    refine cg_wo_things hE hm fk_X11_40 dX11_negated_g0.2.2.2.2.2.2.2.2.1 ?_
    refine r_aload_n hE 0 dX11_negated_g0.2.2.2.2.2.2.2.2.2.1 rfl rfl ?_
    refine cg_wo_reckoner hE hm fk_X11_36 dX11_negated_g0.2.2.2.2.2.2.2.2.2.2.1 ?_
    refine r_aload_n hE 0 dX11_negated_g0.2.2.2.2.2.2.2.2.2.2.2.1 rfl rfl ?_
    refine cg_wo_things hE hm fk_X11_40 dX11_negated_g0.2.2.2.2.2.2.2.2.2.2.2.2.1 ?_
    refine r_iload_n hE 1 dX11_negated_g0.2.2.2.2.2.2.2.2.2.2.2.2.2.1 rfl rfl ?_
    refine r_iconst (v := (0 : Int32)) hE dX11_negated_g0.2.2.2.2.2.2.2.2.2.2.2.2.2.2.1 (by decide) ?_
    refine c_callVl hE hm [.int a1, .int (0 : Int32)] [.ref (G.1 800), .ref (G.1 900)] ck_X11_73 (cr_th hm rfl) (kc_th_partOf h) (by decide) rfl rfl (Nat.le_of_ble_eq_true rfl) dX11_negated_g0.2.2.2.2.2.2.2.2.2.2.2.2.2.2.2 (fun s3 r4 h => ?_)
    refine c_callVl hE hm [.long r4] [.ref (G.1 900)] ck_X11_201 (cr_rk hm rfl) (kc_rk_negative h) (by decide) rfl rfl (Nat.le_of_ble_eq_true rfl) dX11_negated_g1.1 (fun s5 r6 h => ?_)
    refine r_aload_n hE 0 dX11_negated_g1.2.1 rfl rfl ?_
    refine cg_wo_things hE hm fk_X11_40 dX11_negated_g1.2.2.1 ?_
    refine r_iload_n hE 1 dX11_negated_g1.2.2.2.1 rfl rfl ?_
    refine c_callVi hE hm [.int a1] [.long r6, .ref (G.1 900)] ck_X11_93 (cr_th hm rfl) (kc_th_leaningOf h) (by decide) rfl rfl (Nat.le_of_ble_eq_true rfl) dX11_negated_g1.2.2.2.2.1 (fun s7 r8 h => ?_)
    refine c_callVi hE hm [.long r6, .int r8] [] ck_X11_107 (cr_th hm rfl) (kc_th_addNumber h) (by decide) rfl rfl (Nat.le_of_ble_eq_true rfl) dX11_negated_g1.2.2.2.2.2.1 (fun s9 r10 h => ?_)
    exact c_iret hE hm dX11_negated_g1.2.2.2.2.2.2 h
  · refine r_iconst (v := (-1 : Int32)) hE dX11_negated_g0.2.2.2.2.2.1 (by decide) ?_
    exact c_iret hE hm dX11_negated_g0.2.2.2.2.2.2.1 h
/-! wo_askPlace -/
def wc_wo_askPlace (post : CS → Prop) (σ : CS) (a1 : Int32) (a2 : Int32) : Prop := wc_rk_begin (fun (s1 : CS) => wc_wo_ask (fun (s2 : CS) => wc_wo_ask (fun (s3 : CS) => ((¬ ((c_rk_failure s3) = (0 : Int32))) → (post s3)) ∧ (((c_rk_failure s3) = (0 : Int32)) → (wc_th_wholeOf (fun (s4 : CS) (r5 : Int32) => wc_th_wholeOf (fun (s6 : CS) (r7 : Int32) => wc_SX12_inside (fun (s8 : CS) (r9 : Int32) => ((¬ (r9 = (0 : Int32))) → (post s8)) ∧ ((r9 = (0 : Int32)) → (wc_rk_fail (fun (s10 : CS) => post s10) s8 (3 : Int32)))) s6 r5 r7) s4 a1 (1 : Int32)) s3 a2 (0 : Int32)))) s2 a2 (87 : Int32)) s1 a1 (82 : Int32)) σ
set_option maxRecDepth 20000 in
theorem kc_wo_askPlace {l : Launch} {D : va_G} {G : gAd} {post : CS → Prop} {σ : CS} {a1 : Int32} {a2 : Int32} (h : wc_wo_askPlace post σ a1 a2) : cMet l D G yX11_askPlace cX11_askPlace 3 none 4 [.ref (G.1 1300), .int a1, .int a2] σ (pV post) := by
  unfold wc_wo_askPlace at h
  refine c_enter (own := RX11) (by decide +kernel) rfl [(0, .ref (G.1 1300)), (1, .int a1), (2, .int a2)] rfl (Nat.le_of_ble_eq_true rfl) ?_
  intro E hE hm
  have hN := hm.2.2.2.2.2.2.1
  refine r_aload_n hE 0 dX11_askPlace_g0.1 rfl rfl ?_
  refine cg_wo_reckoner hE hm fk_X11_36 dX11_askPlace_g0.2.1 ?_
  refine c_callVv hE hm [] [] ck_X11_58 (cr_rk hm rfl) (kc_rk_begin h) (by decide) rfl rfl (Nat.le_of_ble_eq_true rfl) dX11_askPlace_g0.2.2.1 (fun s1 h => ?_)
  refine r_aload_n hE 0 dX11_askPlace_g0.2.2.2.1 rfl rfl ?_
  refine r_iload_n hE 1 dX11_askPlace_g0.2.2.2.2.1 rfl rfl ?_
  refine r_bipush (v := (82 : Int32)) hE dX11_askPlace_g0.2.2.2.2.2.1 (by decide) ?_
  refine c_callVv hE hm [.int a1, .int (82 : Int32)] [] ck_X11_61 (cr_wo hm rfl) (kc_wo_ask h) (by decide) rfl rfl (Nat.le_of_ble_eq_true rfl) dX11_askPlace_g0.2.2.2.2.2.2.1 (fun s2 h => ?_)
  refine r_aload_n hE 0 dX11_askPlace_g0.2.2.2.2.2.2.2.1 rfl rfl ?_
  refine r_iload_n hE 2 dX11_askPlace_g0.2.2.2.2.2.2.2.2.1 rfl rfl ?_
  refine r_bipush (v := (87 : Int32)) hE dX11_askPlace_g0.2.2.2.2.2.2.2.2.2.1 (by decide) ?_
  refine c_callVv hE hm [.int a2, .int (87 : Int32)] [] ck_X11_61 (cr_wo hm rfl) (kc_wo_ask h) (by decide) rfl rfl (Nat.le_of_ble_eq_true rfl) dX11_askPlace_g0.2.2.2.2.2.2.2.2.2.2.1 (fun s3 h => ?_)
  refine r_aload_n hE 0 dX11_askPlace_g0.2.2.2.2.2.2.2.2.2.2.2.1 rfl rfl ?_
  refine cg_wo_reckoner hE hm fk_X11_36 dX11_askPlace_g0.2.2.2.2.2.2.2.2.2.2.2.2.1 ?_
  refine cg_rk_failure hE hm fk_X11_65 dX11_askPlace_g0.2.2.2.2.2.2.2.2.2.2.2.2.2.1 ?_
  refine r_if_ne hE 63 dX11_askPlace_g0.2.2.2.2.2.2.2.2.2.2.2.2.2.2.1 (by decide) h (fun h => ?_) (fun h => ?_)
  · exact c_vret hE hm dX11_askPlace_g1.2.2.2.2.2.2.2.2.2.2.2.2.2.2.2 h
  · refine r_aload_n hE 0 dX11_askPlace_g0.2.2.2.2.2.2.2.2.2.2.2.2.2.2.2 rfl rfl ?_
    refine cg_wo_things hE hm fk_X11_40 dX11_askPlace_g1.1 ?_
    refine r_iload_n hE 2 dX11_askPlace_g1.2.1 rfl rfl ?_
    refine r_iconst (v := (0 : Int32)) hE dX11_askPlace_g1.2.2.1 (by decide) ?_
    refine c_callVi hE hm [.int a2, .int (0 : Int32)] [] ck_X11_304 (cr_th hm rfl) (kc_th_wholeOf h) (by decide) rfl rfl (Nat.le_of_ble_eq_true rfl) dX11_askPlace_g1.2.2.2.1 (fun s4 r5 h => ?_)
    refine r_aload_n hE 0 dX11_askPlace_g1.2.2.2.2.1 rfl rfl ?_
    refine cg_wo_things hE hm fk_X11_40 dX11_askPlace_g1.2.2.2.2.2.1 ?_
    refine r_iload_n hE 1 dX11_askPlace_g1.2.2.2.2.2.2.1 rfl rfl ?_
    refine r_iconst (v := (1 : Int32)) hE dX11_askPlace_g1.2.2.2.2.2.2.2.1 (by decide) ?_
    refine c_callVi hE hm [.int a1, .int (1 : Int32)] [.int r5] ck_X11_304 (cr_th hm rfl) (kc_th_wholeOf h) (by decide) rfl rfl (Nat.le_of_ble_eq_true rfl) dX11_askPlace_g1.2.2.2.2.2.2.2.2.1 (fun s6 r7 h => ?_)
    refine c_callSNi hE hm [.int r5, .int r7] [] ck_X11_69 cw_X11_69 (kc_SX12_inside h) (by decide) rfl rfl (Nat.le_of_ble_eq_true rfl) dX11_askPlace_g1.2.2.2.2.2.2.2.2.2.1 (fun s8 r9 h => ?_)
    refine r_if_ne hE 63 dX11_askPlace_g1.2.2.2.2.2.2.2.2.2.2.1 (by decide) h (fun h => ?_) (fun h => ?_)
    · exact c_vret hE hm dX11_askPlace_g1.2.2.2.2.2.2.2.2.2.2.2.2.2.2.2 h
    · refine r_aload_n hE 0 dX11_askPlace_g1.2.2.2.2.2.2.2.2.2.2.2.1 rfl rfl ?_
      refine cg_wo_reckoner hE hm fk_X11_36 dX11_askPlace_g1.2.2.2.2.2.2.2.2.2.2.2.2.1 ?_
      refine r_iconst (v := (3 : Int32)) hE dX11_askPlace_g1.2.2.2.2.2.2.2.2.2.2.2.2.2.1 (by decide) ?_
      refine c_callVv hE hm [.int (3 : Int32)] [] ck_X11_48 (cr_rk hm rfl) (kc_rk_fail h) (by decide) rfl rfl (Nat.le_of_ble_eq_true rfl) dX11_askPlace_g1.2.2.2.2.2.2.2.2.2.2.2.2.2.2.1 (fun s10 h => ?_)
      exact c_vret hE hm dX11_askPlace_g1.2.2.2.2.2.2.2.2.2.2.2.2.2.2.2 h
/-! wo_picked -/
def wc_wo_picked (post : CS → Int32 → Prop) (σ : CS) (a1 : Int32) (a2 : Int32) : Prop := wc_wo_askPlace (fun (s1 : CS) => ((¬ ((c_rk_failure s1) = (0 : Int32))) → (post s1 (-1 : Int32))) ∧ (((c_rk_failure s1) = (0 : Int32)) → (wc_th_wholeOf (fun (s2 : CS) (r3 : Int32) => wc_th_heldAt (fun (s4 : CS) (r5 : Int32) => post s4 r5) s2 a1 r3) s1 a2 (0 : Int32)))) σ a1 a2
set_option maxRecDepth 20000 in
theorem kc_wo_picked {l : Launch} {D : va_G} {G : gAd} {post : CS → Int32 → Prop} {σ : CS} {a1 : Int32} {a2 : Int32} (h : wc_wo_picked post σ a1 a2) : cMet l D G yX11_picked cX11_picked 3 (some .int) 5 [.ref (G.1 1300), .int a1, .int a2] σ (pI post) := by
  unfold wc_wo_picked at h
  refine c_enter (own := RX11) (by decide +kernel) rfl [(0, .ref (G.1 1300)), (1, .int a1), (2, .int a2)] rfl (Nat.le_of_ble_eq_true rfl) ?_
  intro E hE hm
  have hN := hm.2.2.2.2.2.2.1
  refine r_aload_n hE 0 dX11_picked_g0.1 rfl rfl ?_
  refine r_iload_n hE 1 dX11_picked_g0.2.1 rfl rfl ?_
  refine r_iload_n hE 2 dX11_picked_g0.2.2.1 rfl rfl ?_
  refine c_callVv hE hm [.int a1, .int a2] [] ck_X11_307 (cr_wo hm rfl) (kc_wo_askPlace h) (by decide) rfl rfl (Nat.le_of_ble_eq_true rfl) dX11_picked_g0.2.2.2.1 (fun s1 h => ?_)
  refine r_aload_n hE 0 dX11_picked_g0.2.2.2.2.1 rfl rfl ?_
  refine cg_wo_reckoner hE hm fk_X11_36 dX11_picked_g0.2.2.2.2.2.1 ?_
  refine cg_rk_failure hE hm fk_X11_65 dX11_picked_g0.2.2.2.2.2.2.1 ?_
  refine r_if_ne hE 36 dX11_picked_g0.2.2.2.2.2.2.2.1 (by decide) h (fun h => ?_) (fun h => ?_)
  · refine r_iconst (v := (-1 : Int32)) hE dX11_picked_g1.2.2.1 (by decide) ?_
    exact c_iret hE hm dX11_picked_g1.2.2.2 h
  · refine r_aload_n hE 0 dX11_picked_g0.2.2.2.2.2.2.2.2.1 rfl rfl ?_
    refine cg_wo_things hE hm fk_X11_40 dX11_picked_g0.2.2.2.2.2.2.2.2.2.1 ?_
    refine r_iload_n hE 1 dX11_picked_g0.2.2.2.2.2.2.2.2.2.2.1 rfl rfl ?_
    refine r_aload_n hE 0 dX11_picked_g0.2.2.2.2.2.2.2.2.2.2.2.1 rfl rfl ?_
    refine cg_wo_things hE hm fk_X11_40 dX11_picked_g0.2.2.2.2.2.2.2.2.2.2.2.2.1 ?_
    refine r_iload_n hE 2 dX11_picked_g0.2.2.2.2.2.2.2.2.2.2.2.2.2.1 rfl rfl ?_
    refine r_iconst (v := (0 : Int32)) hE dX11_picked_g0.2.2.2.2.2.2.2.2.2.2.2.2.2.2.1 (by decide) ?_
    refine c_callVi hE hm [.int a2, .int (0 : Int32)] [.int a1, .ref (G.1 900)] ck_X11_304 (cr_th hm rfl) (kc_th_wholeOf h) (by decide) rfl rfl (Nat.le_of_ble_eq_true rfl) dX11_picked_g0.2.2.2.2.2.2.2.2.2.2.2.2.2.2.2 (fun s2 r3 h => ?_)
    refine c_callVi hE hm [.int a1, .int r3] [] ck_X11_311 (cr_th hm rfl) (kc_th_heldAt h) (by decide) rfl rfl (Nat.le_of_ble_eq_true rfl) dX11_picked_g1.1 (fun s4 r5 h => ?_)
    refine r_goto hE 37 dX11_picked_g1.2.1 (by decide) ?_
    exact c_iret hE hm dX11_picked_g1.2.2.2 h
/-! wo_store -/
def wc_wo_store_49 (post : CS → Prop) (σ : CS) (v1 : Int32) (v2 : Int32) (v3 : Int32) : Prop := ((¬ ((c_rk_failure σ) = (0 : Int32))) → (post σ)) ∧ (((c_rk_failure σ) = (0 : Int32)) → (wc_th_wholeOf (fun (s1 : CS) (r2 : Int32) => wc_th_hold (fun (s3 : CS) => post s3) s1 v1 r2 v3) σ v2 (0 : Int32)))
set_option maxRecDepth 20000 in
theorem kc_wo_store_49 {E : gEnv} {l : Launch} {D : va_G} {G : gAd} {post : CS → Prop} (hE : gOK E cX11_store RX11 none 5) (hm : cOK E l D G (pV post) 4) (σ : CS) (v1 : Int32) (v2 : Int32) (v3 : Int32) (h : wc_wo_store_49 post σ v1 v2 v3) : GW E (cW G σ) 49 [(0, .ref (G.1 1300)), (1, .int v1), (2, .int v2), (3, .int v3)] [] := by
  unfold wc_wo_store_49 at h
  have hN := hm.2.2.2.2.2.2.1
  refine r_aload_n hE 0 dX11_store_g1.2.2.2.2.2.2.2.2.2.1 rfl rfl ?_
  refine cg_wo_reckoner hE hm fk_X11_36 dX11_store_g1.2.2.2.2.2.2.2.2.2.2.1 ?_
  refine cg_rk_failure hE hm fk_X11_65 dX11_store_g1.2.2.2.2.2.2.2.2.2.2.2.1 ?_
  refine r_if_ne hE 77 dX11_store_g1.2.2.2.2.2.2.2.2.2.2.2.2.1 (by decide) h (fun h => ?_) (fun h => ?_)
  · exact c_vret hE hm dX11_store_g2.2.2.2.2.2.2.2 h
  · refine r_aload_n hE 0 dX11_store_g1.2.2.2.2.2.2.2.2.2.2.2.2.2.1 rfl rfl ?_
    refine cg_wo_things hE hm fk_X11_40 dX11_store_g1.2.2.2.2.2.2.2.2.2.2.2.2.2.2.1 ?_
    refine r_iload_n hE 1 dX11_store_g1.2.2.2.2.2.2.2.2.2.2.2.2.2.2.2 rfl rfl ?_
    refine r_aload_n hE 0 dX11_store_g2.1 rfl rfl ?_
    refine cg_wo_things hE hm fk_X11_40 dX11_store_g2.2.1 ?_
    refine r_iload_n hE 2 dX11_store_g2.2.2.1 rfl rfl ?_
    refine r_iconst (v := (0 : Int32)) hE dX11_store_g2.2.2.2.1 (by decide) ?_
    refine c_callVi hE hm [.int v2, .int (0 : Int32)] [.int v1, .ref (G.1 900)] ck_X11_304 (cr_th hm rfl) (kc_th_wholeOf h) (by decide) rfl rfl (Nat.le_of_ble_eq_true rfl) dX11_store_g2.2.2.2.2.1 (fun s1 r2 h => ?_)
    refine r_iload_n hE 3 dX11_store_g2.2.2.2.2.2.1 rfl rfl ?_
    refine c_callVv hE hm [.int v1, .int r2, .int v3] [] ck_X11_317 (cr_th hm rfl) (kc_th_hold h) (by decide) rfl rfl (Nat.le_of_ble_eq_true rfl) dX11_store_g2.2.2.2.2.2.2.1 (fun s3 h => ?_)
    exact c_vret hE hm dX11_store_g2.2.2.2.2.2.2.2 h
def wc_wo_store (post : CS → Prop) (σ : CS) (a1 : Int32) (a2 : Int32) (a3 : Int32) : Prop := wc_wo_askPlace (fun (s4 : CS) => ((¬ ((c_rk_failure s4) = (0 : Int32))) → (wc_wo_store_49 post s4 a1 a2 a3)) ∧ (((c_rk_failure s4) = (0 : Int32)) → (((a3 = (-1 : Int32)) → (wc_wo_store_49 post s4 a1 a2 a3)) ∧ ((¬ (a3 = (-1 : Int32))) → (wc_th_wholeOf (fun (s5 : CS) (r6 : Int32) => wc_th_fitsSort (fun (s7 : CS) (r8 : Int32) => ((¬ (r8 = (0 : Int32))) → (wc_wo_store_49 post s7 a1 a2 a3)) ∧ ((r8 = (0 : Int32)) → (wc_rk_fail (fun (s9 : CS) => wc_wo_store_49 post s9 a1 a2 a3) s7 (5 : Int32)))) s5 a3 r6) s4 a1 (0 : Int32)))))) σ a1 a2
set_option maxRecDepth 20000 in
theorem kc_wo_store {l : Launch} {D : va_G} {G : gAd} {post : CS → Prop} {σ : CS} {a1 : Int32} {a2 : Int32} {a3 : Int32} (h : wc_wo_store post σ a1 a2 a3) : cMet l D G yX11_store cX11_store 4 none 5 [.ref (G.1 1300), .int a1, .int a2, .int a3] σ (pV post) := by
  unfold wc_wo_store at h
  refine c_enter (own := RX11) (by decide +kernel) rfl [(0, .ref (G.1 1300)), (1, .int a1), (2, .int a2), (3, .int a3)] rfl (Nat.le_of_ble_eq_true rfl) ?_
  intro E hE hm
  have hN := hm.2.2.2.2.2.2.1
  refine r_aload_n hE 0 dX11_store_g0.1 rfl rfl ?_
  refine r_iload_n hE 1 dX11_store_g0.2.1 rfl rfl ?_
  refine r_iload_n hE 2 dX11_store_g0.2.2.1 rfl rfl ?_
  refine c_callVv hE hm [.int a1, .int a2] [] ck_X11_307 (cr_wo hm rfl) (kc_wo_askPlace h) (by decide) rfl rfl (Nat.le_of_ble_eq_true rfl) dX11_store_g0.2.2.2.1 (fun s4 h => ?_)
  refine r_aload_n hE 0 dX11_store_g0.2.2.2.2.1 rfl rfl ?_
  refine cg_wo_reckoner hE hm fk_X11_36 dX11_store_g0.2.2.2.2.2.1 ?_
  refine cg_rk_failure hE hm fk_X11_65 dX11_store_g0.2.2.2.2.2.2.1 ?_
  refine r_if_ne hE 49 dX11_store_g0.2.2.2.2.2.2.2.1 (by decide) h (fun h => ?_) (fun h => ?_)
  · exact kc_wo_store_49 hE hm _ _ _ _ h
  · refine r_iload_n hE 3 dX11_store_g0.2.2.2.2.2.2.2.2.1 rfl rfl ?_
    refine r_iconst (v := (-1 : Int32)) hE dX11_store_g0.2.2.2.2.2.2.2.2.2.1 (by decide) ?_
    refine r_icmp_eq hE 49 dX11_store_g0.2.2.2.2.2.2.2.2.2.2.1 (by decide) h (fun h => ?_) (fun h => ?_)
    · exact kc_wo_store_49 hE hm _ _ _ _ h
    · refine r_aload_n hE 0 dX11_store_g0.2.2.2.2.2.2.2.2.2.2.2.1 rfl rfl ?_
      refine cg_wo_things hE hm fk_X11_40 dX11_store_g0.2.2.2.2.2.2.2.2.2.2.2.2.1 ?_
      refine r_iload_n hE 3 dX11_store_g0.2.2.2.2.2.2.2.2.2.2.2.2.2.1 rfl rfl ?_
      refine r_aload_n hE 0 dX11_store_g0.2.2.2.2.2.2.2.2.2.2.2.2.2.2.1 rfl rfl ?_
      refine cg_wo_things hE hm fk_X11_40 dX11_store_g0.2.2.2.2.2.2.2.2.2.2.2.2.2.2.2 ?_
      refine r_iload_n hE 1 dX11_store_g1.1 rfl rfl ?_
      refine r_iconst (v := (0 : Int32)) hE dX11_store_g1.2.1 (by decide) ?_
      refine c_callVi hE hm [.int a1, .int (0 : Int32)] [.int a3, .ref (G.1 900)] ck_X11_304 (cr_th hm rfl) (kc_th_wholeOf h) (by decide) rfl rfl (Nat.le_of_ble_eq_true rfl) dX11_store_g1.2.2.1 (fun s5 r6 h => ?_)
      refine c_callVi hE hm [.int a3, .int r6] [] ck_X11_314 (cr_th hm rfl) (kc_th_fitsSort h) (by decide) rfl rfl (Nat.le_of_ble_eq_true rfl) dX11_store_g1.2.2.2.1 (fun s7 r8 h => ?_)
      refine r_if_ne hE 49 dX11_store_g1.2.2.2.2.1 (by decide) h (fun h => ?_) (fun h => ?_)
      · exact kc_wo_store_49 hE hm _ _ _ _ h
      · refine r_aload_n hE 0 dX11_store_g1.2.2.2.2.2.1 rfl rfl ?_
        refine cg_wo_reckoner hE hm fk_X11_36 dX11_store_g1.2.2.2.2.2.2.1 ?_
        refine r_iconst (v := (5 : Int32)) hE dX11_store_g1.2.2.2.2.2.2.2.1 (by decide) ?_
        refine c_callVv hE hm [.int (5 : Int32)] [] ck_X11_48 (cr_rk hm rfl) (kc_rk_fail h) (by decide) rfl rfl (Nat.le_of_ble_eq_true rfl) dX11_store_g1.2.2.2.2.2.2.2.2.1 (fun s9 h => ?_)
        exact kc_wo_store_49 hE hm _ _ _ _ h
