/-! SX11_isBetween -/
def wc_SX11_isBetween_48 (post : CS → Int32 → Prop) (σ : CS) : Prop := post σ (1 : Int32)
set_option maxRecDepth 20000 in
theorem kc_SX11_isBetween_48  {E : gEnv} {l : Launch} {D : va_G} {G : gAd} {post : CS → Int32 → Prop} (hE : gOK E cX11_isBetween RX11 (some .boolean) 3) (hm : cOK E l D G (pI post) 8) (hF : gFin E) (σ : CS) (h : wc_SX11_isBetween_48 post σ) : GW E (cW G σ) 48 [] [] := by
  unfold wc_SX11_isBetween_48 at h
  have hN := hm.2.2.2.2.2.2.1
  refine r_iconst (v := (1 : Int32)) hE dX11_isBetween_g1.2.2.2.2.2.2.2.1 (by decide) ?_
  refine r_goto hE 53 dX11_isBetween_g1.2.2.2.2.2.2.2.2.1 (by decide) ?_
  exact c_zret hE hm hF dX11_isBetween_g1.2.2.2.2.2.2.2.2.2.2 (Or.inr rfl) h
def wc_SX11_isBetween_45 (post : CS → Int32 → Prop) (σ : CS) (t0 : Int32) (t1 : Int32) : Prop := ((t0 = t1) → (post σ (0 : Int32))) ∧ ((¬ (t0 = t1)) → (wc_SX11_isBetween_48 post σ))
set_option maxRecDepth 20000 in
theorem kc_SX11_isBetween_45  {E : gEnv} {l : Launch} {D : va_G} {G : gAd} {post : CS → Int32 → Prop} (hE : gOK E cX11_isBetween RX11 (some .boolean) 3) (hm : cOK E l D G (pI post) 8) (hF : gFin E) (σ : CS) (t0 : Int32) (t1 : Int32) (h : wc_SX11_isBetween_45 post σ t0 t1) : GW E (cW G σ) 45 [] [.int t1, .int t0] := by
  unfold wc_SX11_isBetween_45 at h
  have hN := hm.2.2.2.2.2.2.1
  refine r_icmp_eq hE 52 dX11_isBetween_g1.2.2.2.2.2.2.1 (by decide) h (fun h => ?_) (fun h => ?_)
  · refine r_iconst (v := (0 : Int32)) hE dX11_isBetween_g1.2.2.2.2.2.2.2.2.2.1 (by decide) ?_
    exact c_zret hE hm hF dX11_isBetween_g1.2.2.2.2.2.2.2.2.2.2 (Or.inl rfl) h
  · exact kc_SX11_isBetween_48 hE hm hF _ h
def wc_SX11_isBetween_35 (post : CS → Int32 → Prop) (σ : CS) (v7 : Int32) (t0 : Int32) : Prop := (((0 : Int32) ≤ v7) → (wc_SX11_isBetween_45 post σ t0 (0 : Int32))) ∧ ((¬ ((0 : Int32) ≤ v7)) → (wc_SX11_isBetween_45 post σ t0 (1 : Int32)))
set_option maxRecDepth 20000 in
theorem kc_SX11_isBetween_35  {E : gEnv} {l : Launch} {D : va_G} {G : gAd} {post : CS → Int32 → Prop} (hE : gOK E cX11_isBetween RX11 (some .boolean) 3) (hm : cOK E l D G (pI post) 8) (hF : gFin E) (σ : CS) (v7 : Int32) (t0 : Int32) (h : wc_SX11_isBetween_35 post σ v7 t0) : GW E (cW G σ) 35 [(7, .int v7)] [.int t0] := by
  unfold wc_SX11_isBetween_35 at h
  have hN := hm.2.2.2.2.2.2.1
  refine r_iload hE 0 dX11_isBetween_g1.2.1 rfl ?_
  refine r_if_ge hE 44 dX11_isBetween_g1.2.2.1 (by decide) h (fun h => ?_) (fun h => ?_)
  · refine r_iconst (v := (0 : Int32)) hE dX11_isBetween_g1.2.2.2.2.2.1 (by decide) ?_
    refine r_pick [] rfl ?_
    exact kc_SX11_isBetween_45 hE hm hF _ _ _ h
  · refine r_iconst (v := (1 : Int32)) hE dX11_isBetween_g1.2.2.2.1 (by decide) ?_
    refine r_goto hE 45 dX11_isBetween_g1.2.2.2.2.1 (by decide) ?_
    refine r_pick [] rfl ?_
    exact kc_SX11_isBetween_45 hE hm hF _ _ _ h
def wc_SX11_isBetween (post : CS → Int32 → Prop) (σ : CS) (a0 : Int64) (a2 : Int64) (a4 : Int64) : Prop := wc_SX6_compare (fun (s1 : CS) (r2 : Int32) => wc_SX6_compare (fun (s3 : CS) (r4 : Int32) => ((r2 = (0 : Int32)) → (wc_SX11_isBetween_48 post s3)) ∧ ((¬ (r2 = (0 : Int32))) → (((r4 = (0 : Int32)) → (wc_SX11_isBetween_48 post s3)) ∧ ((¬ (r4 = (0 : Int32))) → ((((0 : Int32) ≤ r2) → (wc_SX11_isBetween_35 post s3 r4 (0 : Int32))) ∧ ((¬ ((0 : Int32) ≤ r2)) → (wc_SX11_isBetween_35 post s3 r4 (1 : Int32)))))))) s1 a0 a4) σ a0 a2
set_option maxRecDepth 20000 in
theorem kc_SX11_isBetween {l : Launch} {D : va_G} {G : gAd} {post : CS → Int32 → Prop} {σ : CS} {a0 : Int64} {a2 : Int64} {a4 : Int64} (h : wc_SX11_isBetween post σ a0 a2 a4) : cMet l D G yX11_isBetween cX11_isBetween 8 (some .boolean) 3 [.long a0, .long a2, .long a4] σ (pI post) := by
  unfold wc_SX11_isBetween at h
  refine c_enter (own := RX11) (by decide +kernel) rfl [(0, .long a0), (2, .long a2), (4, .long a4)] rfl (Nat.le_of_ble_eq_true rfl) ?_
  intro E hE hm hF
  have hN := hm.2.2.2.2.2.2.1
  refine r_lload_n hE 0 dX11_isBetween_g0.1 rfl rfl ?_
  refine r_lload_n hE 1 dX11_isBetween_g0.2.1 rfl rfl ?_
  refine c_callSi hE hm [.long a0, .long a2] [] ck_X11_246 (kc_SX6_compare h) (by decide) rfl rfl (Nat.le_of_ble_eq_true rfl) dX11_isBetween_g0.2.2.1 (fun s1 r2 h => ?_)
  refine r_istore hE [(6, .int r2), (0, .long a0), (2, .long a2), (4, .long a4)] dX11_isBetween_g0.2.2.2.1 hN (by decide) rfl ?_
  refine r_lload_n hE 1 dX11_isBetween_g0.2.2.2.2.1 rfl rfl ?_
  refine r_lload hE 3 dX11_isBetween_g0.2.2.2.2.2.1 rfl ?_
  refine c_callSi hE hm [.long a0, .long a4] [] ck_X11_246 (kc_SX6_compare h) (by decide) rfl rfl (Nat.le_of_ble_eq_true rfl) dX11_isBetween_g0.2.2.2.2.2.2.1 (fun s3 r4 h => ?_)
  refine r_istore hE [(7, .int r4), (6, .int r2), (0, .long a0), (2, .long a2), (4, .long a4)] dX11_isBetween_g0.2.2.2.2.2.2.2.1 hN (by decide) rfl ?_
  refine r_iload hE 1 dX11_isBetween_g0.2.2.2.2.2.2.2.2.1 rfl ?_
  refine r_if_eq hE 48 dX11_isBetween_g0.2.2.2.2.2.2.2.2.2.1 (by decide) h (fun h => ?_) (fun h => ?_)
  · refine r_pick [] rfl ?_
    exact kc_SX11_isBetween_48 hE hm hF _ h
  · refine r_iload hE 0 dX11_isBetween_g0.2.2.2.2.2.2.2.2.2.2.1 rfl ?_
    refine r_if_eq hE 48 dX11_isBetween_g0.2.2.2.2.2.2.2.2.2.2.2.1 (by decide) h (fun h => ?_) (fun h => ?_)
    · refine r_pick [] rfl ?_
      exact kc_SX11_isBetween_48 hE hm hF _ h
    · refine r_iload hE 1 dX11_isBetween_g0.2.2.2.2.2.2.2.2.2.2.2.2.1 rfl ?_
      refine r_if_ge hE 34 dX11_isBetween_g0.2.2.2.2.2.2.2.2.2.2.2.2.2.1 (by decide) h (fun h => ?_) (fun h => ?_)
      · refine r_iconst (v := (0 : Int32)) hE dX11_isBetween_g1.1 (by decide) ?_
        refine r_pick [0] rfl ?_
        exact kc_SX11_isBetween_35 hE hm hF _ _ _ h
      · refine r_iconst (v := (1 : Int32)) hE dX11_isBetween_g0.2.2.2.2.2.2.2.2.2.2.2.2.2.2.1 (by decide) ?_
        refine r_goto hE 35 dX11_isBetween_g0.2.2.2.2.2.2.2.2.2.2.2.2.2.2.2 (by decide) ?_
        refine r_pick [0] rfl ?_
        exact kc_SX11_isBetween_35 hE hm hF _ _ _ h
/-! wo_isOn -/
def wc_wo_isOn_172 (post : CS → Int32 → Prop) (σ : CS) : Prop := post σ (1 : Int32)
set_option maxRecDepth 20000 in
theorem kc_wo_isOn_172  {E : gEnv} {l : Launch} {D : va_G} {G : gAd} {post : CS → Int32 → Prop} (hE : gOK E cX11_isOn RX11 (some .boolean) 4) (hm : cOK E l D G (pI post) 7) (hF : gFin E) (σ : CS) (h : wc_wo_isOn_172 post σ) : GW E (cW G σ) 172 [] [] := by
  unfold wc_wo_isOn_172 at h
  have hN := hm.2.2.2.2.2.2.1
  refine r_iconst (v := (1 : Int32)) hE dX11_isOn_g6.2.2.2.2.2.1 (by decide) ?_
  refine r_goto hE 177 dX11_isOn_g6.2.2.2.2.2.2.1 (by decide) ?_
  exact c_zret hE hm hF dX11_isOn_g6.2.2.2.2.2.2.2.2 (Or.inr rfl) h
def wc_wo_isOn (post : CS → Int32 → Prop) (σ : CS) : Prop := wc_wo_given (fun (s1 : CS) (r2 : Int64) => wc_wo_given (fun (s3 : CS) (r4 : Int64) => vp_in (1 : Int32) 3 ∧ (wc_th_kindOf (fun (s5 : CS) (r6 : Int32) => ((¬ (r6 = (5 : Int32))) → (wc_wo_given (fun (s7 : CS) (r8 : Int64) => wc_rk_times (fun (s9 : CS) (r10 : Int64) => wc_wo_given (fun (s11 : CS) (r12 : Int64) => wc_rk_times (fun (s13 : CS) (r14 : Int64) => wc_rk_plus (fun (s15 : CS) (r16 : Int64) => wc_wo_given (fun (s17 : CS) (r18 : Int64) => (((lg_cmp r16 r18) = (0 : Int32)) → (vp_in (1 : Int32) 3 ∧ (wc_th_kindOf (fun (s19 : CS) (r20 : Int32) => ((¬ (r20 = (4 : Int32))) → (wc_wo_isOn_172 post s19)) ∧ ((r20 = (4 : Int32)) → (wc_wo_given (fun (s21 : CS) (r22 : Int64) => wc_wo_given (fun (s23 : CS) (r24 : Int64) => wc_SX11_isBetween (fun (s25 : CS) (r26 : Int32) => ((r26 = (0 : Int32)) → (post s25 (0 : Int32))) ∧ ((¬ (r26 = (0 : Int32))) → (wc_wo_given (fun (s27 : CS) (r28 : Int64) => wc_wo_given (fun (s29 : CS) (r30 : Int64) => wc_SX11_isBetween (fun (s31 : CS) (r32 : Int32) => ((r32 = (0 : Int32)) → (post s31 (0 : Int32))) ∧ ((¬ (r32 = (0 : Int32))) → (wc_wo_isOn_172 post s31))) s29 r4 r28 r30) s27 (1 : Int32) (6 : Int32)) s25 (1 : Int32) (4 : Int32)))) s23 r2 r22 r24) s21 (1 : Int32) (5 : Int32)) s19 (1 : Int32) (3 : Int32)))) s17 (c_wo_arguments s17 (1 : Int32).toNatClampNeg)))) ∧ ((¬ ((lg_cmp r16 r18) = (0 : Int32))) → (post s17 (0 : Int32)))) s15 (1 : Int32) (2 : Int32)) s13 r10 r14) s11 r12 r4) s9 (1 : Int32) (1 : Int32)) s7 r8 r2) s5 (1 : Int32) (0 : Int32))) ∧ ((r6 = (5 : Int32)) → (wc_wo_given (fun (s33 : CS) (r34 : Int64) => wc_wo_given (fun (s35 : CS) (r36 : Int64) => wc_wo_dist (fun (s37 : CS) (r38 : Int64) => wc_wo_given (fun (s39 : CS) (r40 : Int64) => ((¬ ((lg_cmp r38 r40) = (0 : Int32))) → (post s39 (0 : Int32))) ∧ (((lg_cmp r38 r40) = (0 : Int32)) → (post s39 (1 : Int32)))) s37 (1 : Int32) (2 : Int32)) s35 r2 r4 r34 r36) s33 (1 : Int32) (1 : Int32)) s5 (1 : Int32) (0 : Int32)))) s3 (c_wo_arguments s3 (1 : Int32).toNatClampNeg))) s1 (0 : Int32) (1 : Int32)) σ (0 : Int32) (0 : Int32)
set_option maxRecDepth 20000 in
theorem kc_wo_isOn {l : Launch} {D : va_G} {G : gAd} {post : CS → Int32 → Prop} {σ : CS} (h : wc_wo_isOn post σ) : cMet l D G yX11_isOn cX11_isOn 7 (some .boolean) 4 [.ref (G.1 1300)] σ (pI post) := by
  unfold wc_wo_isOn at h
  refine c_enter (own := RX11) (by decide +kernel) rfl [(0, .ref (G.1 1300))] rfl (Nat.le_of_ble_eq_true rfl) ?_
  intro E hE hm hF
  have hN := hm.2.2.2.2.2.2.1
  refine r_aload_n hE 0 dX11_isOn_g0.1 rfl rfl ?_
  refine r_iconst (v := (0 : Int32)) hE dX11_isOn_g0.2.1 (by decide) ?_
  refine r_iconst (v := (0 : Int32)) hE dX11_isOn_g0.2.2.1 (by decide) ?_
  refine c_callVl hE hm [.int (0 : Int32), .int (0 : Int32)] [] ck_X11_126 (cr_wo hm rfl) (kc_wo_given h) (by decide) rfl rfl (Nat.le_of_ble_eq_true rfl) dX11_isOn_g0.2.2.2.1 (fun s1 r2 h => ?_)
  refine r_lstore_n hE [(1, .long r2), (0, .ref (G.1 1300))] dX11_isOn_g0.2.2.2.2.1 rfl hN (by decide) rfl ?_
  refine r_aload_n hE 1 dX11_isOn_g0.2.2.2.2.2.1 rfl rfl ?_
  refine r_iconst (v := (0 : Int32)) hE dX11_isOn_g0.2.2.2.2.2.2.1 (by decide) ?_
  refine r_iconst (v := (1 : Int32)) hE dX11_isOn_g0.2.2.2.2.2.2.2.1 (by decide) ?_
  refine c_callVl hE hm [.int (0 : Int32), .int (1 : Int32)] [] ck_X11_126 (cr_wo hm rfl) (kc_wo_given h) (by decide) rfl rfl (Nat.le_of_ble_eq_true rfl) dX11_isOn_g0.2.2.2.2.2.2.2.2.1 (fun s3 r4 h => ?_)
  refine r_lstore_n hE [(3, .long r4), (1, .long r2), (0, .ref (G.1 1300))] dX11_isOn_g0.2.2.2.2.2.2.2.2.2.1 rfl hN (by decide) rfl ?_
  refine r_aload_n hE 2 dX11_isOn_g0.2.2.2.2.2.2.2.2.2.2.1 rfl rfl ?_
  refine cg_wo_things hE hm fk_X11_40 dX11_isOn_g0.2.2.2.2.2.2.2.2.2.2.2.1 ?_
  refine r_aload_n hE 2 dX11_isOn_g0.2.2.2.2.2.2.2.2.2.2.2.2.1 rfl rfl ?_
  refine cg_wo_arguments hE hm fk_X11_9 dX11_isOn_g0.2.2.2.2.2.2.2.2.2.2.2.2.2.1 ?_
  refine r_iconst (v := (1 : Int32)) hE dX11_isOn_g0.2.2.2.2.2.2.2.2.2.2.2.2.2.2.1 (by decide) ?_
  obtain ⟨hi, h⟩ := h
  refine cl_wo_arguments hE hm dX11_isOn_g0.2.2.2.2.2.2.2.2.2.2.2.2.2.2.2 hi ?_
  refine c_callVi hE hm [.int (c_wo_arguments s3 (1 : Int32).toNatClampNeg)] [] ck_X11_212 (cr_th hm rfl) (kc_th_kindOf h) (by decide) rfl rfl (Nat.le_of_ble_eq_true rfl) dX11_isOn_g1.1 (fun s5 r6 h => ?_)
  refine r_iconst (v := (5 : Int32)) hE dX11_isOn_g1.2.1 (by decide) ?_
  refine r_icmp_ne hE 65 dX11_isOn_g1.2.2.1 (by decide) h (fun h => ?_) (fun h => ?_)
  · refine r_aload_n hE 2 dX11_isOn_g2.2.2.2.2.2.2.2.2.2.1 rfl rfl ?_
    refine cg_wo_reckoner hE hm fk_X11_36 dX11_isOn_g2.2.2.2.2.2.2.2.2.2.2.1 ?_
    refine r_aload_n hE 2 dX11_isOn_g2.2.2.2.2.2.2.2.2.2.2.2.1 rfl rfl ?_
    refine cg_wo_reckoner hE hm fk_X11_36 dX11_isOn_g2.2.2.2.2.2.2.2.2.2.2.2.2.1 ?_
    refine r_aload_n hE 2 dX11_isOn_g2.2.2.2.2.2.2.2.2.2.2.2.2.2.1 rfl rfl ?_
    refine r_iconst (v := (1 : Int32)) hE dX11_isOn_g2.2.2.2.2.2.2.2.2.2.2.2.2.2.2.1 (by decide) ?_
    refine r_iconst (v := (0 : Int32)) hE dX11_isOn_g2.2.2.2.2.2.2.2.2.2.2.2.2.2.2.2 (by decide) ?_
    refine c_callVl hE hm [.int (1 : Int32), .int (0 : Int32)] [.ref (G.1 800), .ref (G.1 800)] ck_X11_126 (cr_wo hm rfl) (kc_wo_given h) (by decide) rfl rfl (Nat.le_of_ble_eq_true rfl) dX11_isOn_g3.1 (fun s7 r8 h => ?_)
    refine r_lload_n hE 1 dX11_isOn_g3.2.1 rfl rfl ?_
    refine c_callVl hE hm [.long r8, .long r2] [.ref (G.1 800)] ck_X11_236 (cr_rk hm rfl) (kc_rk_times h) (by decide) rfl rfl (Nat.le_of_ble_eq_true rfl) dX11_isOn_g3.2.2.1 (fun s9 r10 h => ?_)
    refine r_aload_n hE 2 dX11_isOn_g3.2.2.2.1 rfl rfl ?_
    refine cg_wo_reckoner hE hm fk_X11_36 dX11_isOn_g3.2.2.2.2.1 ?_
    refine r_aload_n hE 2 dX11_isOn_g3.2.2.2.2.2.1 rfl rfl ?_
    refine r_iconst (v := (1 : Int32)) hE dX11_isOn_g3.2.2.2.2.2.2.1 (by decide) ?_
    refine r_iconst (v := (1 : Int32)) hE dX11_isOn_g3.2.2.2.2.2.2.2.1 (by decide) ?_
    refine c_callVl hE hm [.int (1 : Int32), .int (1 : Int32)] [.ref (G.1 800), .long r10, .ref (G.1 800)] ck_X11_126 (cr_wo hm rfl) (kc_wo_given h) (by decide) rfl rfl (Nat.le_of_ble_eq_true rfl) dX11_isOn_g3.2.2.2.2.2.2.2.2.1 (fun s11 r12 h => ?_)
    refine r_lload_n hE 0 dX11_isOn_g3.2.2.2.2.2.2.2.2.2.1 rfl rfl ?_
    refine c_callVl hE hm [.long r12, .long r4] [.long r10, .ref (G.1 800)] ck_X11_236 (cr_rk hm rfl) (kc_rk_times h) (by decide) rfl rfl (Nat.le_of_ble_eq_true rfl) dX11_isOn_g3.2.2.2.2.2.2.2.2.2.2.1 (fun s13 r14 h => ?_)
    refine c_callVl hE hm [.long r10, .long r14] [] ck_X11_239 (cr_rk hm rfl) (kc_rk_plus h) (by decide) rfl rfl (Nat.le_of_ble_eq_true rfl) dX11_isOn_g3.2.2.2.2.2.2.2.2.2.2.2.1 (fun s15 r16 h => ?_)
    refine r_lstore hE [(5, .long r16), (3, .long r4), (1, .long r2), (0, .ref (G.1 1300))] dX11_isOn_g3.2.2.2.2.2.2.2.2.2.2.2.2.1 hN (by decide) rfl ?_
    refine r_lload hE 0 dX11_isOn_g3.2.2.2.2.2.2.2.2.2.2.2.2.2.1 rfl ?_
    refine r_aload_n hE 3 dX11_isOn_g3.2.2.2.2.2.2.2.2.2.2.2.2.2.2.1 rfl rfl ?_
    refine r_iconst (v := (1 : Int32)) hE dX11_isOn_g3.2.2.2.2.2.2.2.2.2.2.2.2.2.2.2 (by decide) ?_
    refine r_iconst (v := (2 : Int32)) hE dX11_isOn_g4.1 (by decide) ?_
    refine c_callVl hE hm [.int (1 : Int32), .int (2 : Int32)] [.long r16] ck_X11_126 (cr_wo hm rfl) (kc_wo_given h) (by decide) rfl rfl (Nat.le_of_ble_eq_true rfl) dX11_isOn_g4.2.1 (fun s17 r18 h => ?_)
    refine r_lcmp hE dX11_isOn_g4.2.2.1 ?_
    refine r_if_eq hE 116 dX11_isOn_g4.2.2.2.1 (by decide) h (fun h => ?_) (fun h => ?_)
    · refine r_aload_n hE 3 dX11_isOn_g4.2.2.2.2.2.2.1 rfl rfl ?_
      refine cg_wo_things hE hm fk_X11_40 dX11_isOn_g4.2.2.2.2.2.2.2.1 ?_
      refine r_aload_n hE 3 dX11_isOn_g4.2.2.2.2.2.2.2.2.1 rfl rfl ?_
      refine cg_wo_arguments hE hm fk_X11_9 dX11_isOn_g4.2.2.2.2.2.2.2.2.2.1 ?_
      refine r_iconst (v := (1 : Int32)) hE dX11_isOn_g4.2.2.2.2.2.2.2.2.2.2.1 (by decide) ?_
      obtain ⟨hi, h⟩ := h
      refine cl_wo_arguments hE hm dX11_isOn_g4.2.2.2.2.2.2.2.2.2.2.2.1 hi ?_
      refine c_callVi hE hm [.int (c_wo_arguments s17 (1 : Int32).toNatClampNeg)] [] ck_X11_212 (cr_th hm rfl) (kc_th_kindOf h) (by decide) rfl rfl (Nat.le_of_ble_eq_true rfl) dX11_isOn_g4.2.2.2.2.2.2.2.2.2.2.2.2.1 (fun s19 r20 h => ?_)
      refine r_iconst (v := (4 : Int32)) hE dX11_isOn_g4.2.2.2.2.2.2.2.2.2.2.2.2.2.1 (by decide) ?_
      refine r_icmp_ne hE 172 dX11_isOn_g4.2.2.2.2.2.2.2.2.2.2.2.2.2.2.1 (by decide) h (fun h => ?_) (fun h => ?_)
      · refine r_pick [] rfl ?_
        exact kc_wo_isOn_172 hE hm hF _ h
      · refine r_lload_n hE 2 dX11_isOn_g4.2.2.2.2.2.2.2.2.2.2.2.2.2.2.2 rfl rfl ?_
        refine r_aload_n hE 3 dX11_isOn_g5.1 rfl rfl ?_
        refine r_iconst (v := (1 : Int32)) hE dX11_isOn_g5.2.1 (by decide) ?_
        refine r_iconst (v := (3 : Int32)) hE dX11_isOn_g5.2.2.1 (by decide) ?_
        refine c_callVl hE hm [.int (1 : Int32), .int (3 : Int32)] [.long r2] ck_X11_126 (cr_wo hm rfl) (kc_wo_given h) (by decide) rfl rfl (Nat.le_of_ble_eq_true rfl) dX11_isOn_g5.2.2.2.1 (fun s21 r22 h => ?_)
        refine r_aload_n hE 3 dX11_isOn_g5.2.2.2.2.1 rfl rfl ?_
        refine r_iconst (v := (1 : Int32)) hE dX11_isOn_g5.2.2.2.2.2.1 (by decide) ?_
        refine r_iconst (v := (5 : Int32)) hE dX11_isOn_g5.2.2.2.2.2.2.1 (by decide) ?_
        refine c_callVl hE hm [.int (1 : Int32), .int (5 : Int32)] [.long r22, .long r2] ck_X11_126 (cr_wo hm rfl) (kc_wo_given h) (by decide) rfl rfl (Nat.le_of_ble_eq_true rfl) dX11_isOn_g5.2.2.2.2.2.2.2.1 (fun s23 r24 h => ?_)
        refine c_callSi hE hm [.long r2, .long r22, .long r24] [] ck_X11_242 (kc_SX11_isBetween h) (by decide) rfl rfl (Nat.le_of_ble_eq_true rfl) dX11_isOn_g5.2.2.2.2.2.2.2.2.1 (fun s25 r26 h => ?_)
        refine r_if_eq hE 176 dX11_isOn_g5.2.2.2.2.2.2.2.2.2.1 (by decide) h (fun h => ?_) (fun h => ?_)
        · refine r_iconst (v := (0 : Int32)) hE dX11_isOn_g6.2.2.2.2.2.2.2.1 (by decide) ?_
          exact c_zret hE hm hF dX11_isOn_g6.2.2.2.2.2.2.2.2 (Or.inl rfl) h
        · refine r_lload_n hE 1 dX11_isOn_g5.2.2.2.2.2.2.2.2.2.2.1 rfl rfl ?_
          refine r_aload_n hE 3 dX11_isOn_g5.2.2.2.2.2.2.2.2.2.2.2.1 rfl rfl ?_
          refine r_iconst (v := (1 : Int32)) hE dX11_isOn_g5.2.2.2.2.2.2.2.2.2.2.2.2.1 (by decide) ?_
          refine r_iconst (v := (4 : Int32)) hE dX11_isOn_g5.2.2.2.2.2.2.2.2.2.2.2.2.2.1 (by decide) ?_
          refine c_callVl hE hm [.int (1 : Int32), .int (4 : Int32)] [.long r4] ck_X11_126 (cr_wo hm rfl) (kc_wo_given h) (by decide) rfl rfl (Nat.le_of_ble_eq_true rfl) dX11_isOn_g5.2.2.2.2.2.2.2.2.2.2.2.2.2.2.1 (fun s27 r28 h => ?_)
          refine r_aload_n hE 3 dX11_isOn_g5.2.2.2.2.2.2.2.2.2.2.2.2.2.2.2 rfl rfl ?_
          refine r_iconst (v := (1 : Int32)) hE dX11_isOn_g6.1 (by decide) ?_
          refine r_bipush (v := (6 : Int32)) hE dX11_isOn_g6.2.1 (by decide) ?_
          refine c_callVl hE hm [.int (1 : Int32), .int (6 : Int32)] [.long r28, .long r4] ck_X11_126 (cr_wo hm rfl) (kc_wo_given h) (by decide) rfl rfl (Nat.le_of_ble_eq_true rfl) dX11_isOn_g6.2.2.1 (fun s29 r30 h => ?_)
          refine c_callSi hE hm [.long r4, .long r28, .long r30] [] ck_X11_242 (kc_SX11_isBetween h) (by decide) rfl rfl (Nat.le_of_ble_eq_true rfl) dX11_isOn_g6.2.2.2.1 (fun s31 r32 h => ?_)
          refine r_if_eq hE 176 dX11_isOn_g6.2.2.2.2.1 (by decide) h (fun h => ?_) (fun h => ?_)
          · refine r_iconst (v := (0 : Int32)) hE dX11_isOn_g6.2.2.2.2.2.2.2.1 (by decide) ?_
            exact c_zret hE hm hF dX11_isOn_g6.2.2.2.2.2.2.2.2 (Or.inl rfl) h
          · refine r_pick [] rfl ?_
            exact kc_wo_isOn_172 hE hm hF _ h
    · refine r_iconst (v := (0 : Int32)) hE dX11_isOn_g4.2.2.2.2.1 (by decide) ?_
      exact c_zret hE hm hF dX11_isOn_g4.2.2.2.2.2.1 (Or.inl rfl) h
  · refine r_aload_n hE 2 dX11_isOn_g1.2.2.2.1 rfl rfl ?_
    refine r_lload_n hE 1 dX11_isOn_g1.2.2.2.2.1 rfl rfl ?_
    refine r_lload_n hE 0 dX11_isOn_g1.2.2.2.2.2.1 rfl rfl ?_
    refine r_aload_n hE 2 dX11_isOn_g1.2.2.2.2.2.2.1 rfl rfl ?_
    refine r_iconst (v := (1 : Int32)) hE dX11_isOn_g1.2.2.2.2.2.2.2.1 (by decide) ?_
    refine r_iconst (v := (0 : Int32)) hE dX11_isOn_g1.2.2.2.2.2.2.2.2.1 (by decide) ?_
    refine c_callVl hE hm [.int (1 : Int32), .int (0 : Int32)] [.long r4, .long r2, .ref (G.1 1300)] ck_X11_126 (cr_wo hm rfl) (kc_wo_given h) (by decide) rfl rfl (Nat.le_of_ble_eq_true rfl) dX11_isOn_g1.2.2.2.2.2.2.2.2.2.1 (fun s33 r34 h => ?_)
    refine r_aload_n hE 2 dX11_isOn_g1.2.2.2.2.2.2.2.2.2.2.1 rfl rfl ?_
    refine r_iconst (v := (1 : Int32)) hE dX11_isOn_g1.2.2.2.2.2.2.2.2.2.2.2.1 (by decide) ?_
    refine r_iconst (v := (1 : Int32)) hE dX11_isOn_g1.2.2.2.2.2.2.2.2.2.2.2.2.1 (by decide) ?_
    refine c_callVl hE hm [.int (1 : Int32), .int (1 : Int32)] [.long r34, .long r4, .long r2, .ref (G.1 1300)] ck_X11_126 (cr_wo hm rfl) (kc_wo_given h) (by decide) rfl rfl (Nat.le_of_ble_eq_true rfl) dX11_isOn_g1.2.2.2.2.2.2.2.2.2.2.2.2.2.1 (fun s35 r36 h => ?_)
    refine c_callVl hE hm [.long r2, .long r4, .long r34, .long r36] [] ck_X11_218 (cr_wo hm rfl) (kc_wo_dist h) (by decide) rfl rfl (Nat.le_of_ble_eq_true rfl) dX11_isOn_g1.2.2.2.2.2.2.2.2.2.2.2.2.2.2.1 (fun s37 r38 h => ?_)
    refine r_aload_n hE 2 dX11_isOn_g1.2.2.2.2.2.2.2.2.2.2.2.2.2.2.2 rfl rfl ?_
    refine r_iconst (v := (1 : Int32)) hE dX11_isOn_g2.1 (by decide) ?_
    refine r_iconst (v := (2 : Int32)) hE dX11_isOn_g2.2.1 (by decide) ?_
    refine c_callVl hE hm [.int (1 : Int32), .int (2 : Int32)] [.long r38] ck_X11_126 (cr_wo hm rfl) (kc_wo_given h) (by decide) rfl rfl (Nat.le_of_ble_eq_true rfl) dX11_isOn_g2.2.2.1 (fun s39 r40 h => ?_)
    refine r_lcmp hE dX11_isOn_g2.2.2.2.1 ?_
    refine r_if_ne hE 63 dX11_isOn_g2.2.2.2.2.1 (by decide) h (fun h => ?_) (fun h => ?_)
    · refine r_iconst (v := (0 : Int32)) hE dX11_isOn_g2.2.2.2.2.2.2.2.1 (by decide) ?_
      exact c_zret hE hm hF dX11_isOn_g2.2.2.2.2.2.2.2.2.1 (Or.inl rfl) h
    · refine r_iconst (v := (1 : Int32)) hE dX11_isOn_g2.2.2.2.2.2.1 (by decide) ?_
      refine r_goto hE 64 dX11_isOn_g2.2.2.2.2.2.2.1 (by decide) ?_
      exact c_zret hE hm hF dX11_isOn_g2.2.2.2.2.2.2.2.2.1 (Or.inr rfl) h
/-! SX6_truth -/
def wc_SX6_truth (post : CS → Int64 → Prop) (σ : CS) (a0 : Int32) : Prop := ((a0 = (0 : Int32)) → (post σ (1 : Int64))) ∧ ((¬ (a0 = (0 : Int32))) → (post σ (4294967297 : Int64)))
set_option maxRecDepth 20000 in
theorem kc_SX6_truth {l : Launch} {D : va_G} {G : gAd} {post : CS → Int64 → Prop} {σ : CS} {a0 : Int32} (h : wc_SX6_truth post σ a0) : cMet l D G yX6_truth cX6_truth 1 (some .long) 1 [.int a0] σ (pL post) := by
  unfold wc_SX6_truth at h
  refine c_enter (own := RX6) (by decide +kernel) rfl [(0, .int a0)] rfl (Nat.le_of_ble_eq_true rfl) ?_
  intro E hE hm hF
  have hN := hm.2.2.2.2.2.2.1
  refine r_iload_n hE 0 dX6_truth_g0.1 rfl rfl ?_
  refine r_if_eq hE 10 dX6_truth_g0.2.1 (by decide) h (fun h => ?_) (fun h => ?_)
  · refine r_lconst (v := (1 : Int64)) hE dX6_truth_g0.2.2.2.2.1 (by decide) ?_
    exact c_lret hE hm hF dX6_truth_g0.2.2.2.2.2 h
  · refine r_ldc2 (v := (4294967297 : Int64)) hE dX6_truth_g0.2.2.1 (gTb_5 (List.mem_of_getElem? (i := 48) rfl) rfl) ?_
    refine r_goto hE 11 dX6_truth_g0.2.2.2.1 (by decide) ?_
    exact c_lret hE hm hF dX6_truth_g0.2.2.2.2.2 h
/-! th_partsOf -/
def wc_th_partsOf (post : CS → Int32 → Prop) (σ : CS) (a1 : Int32) : Prop := wc_th_kindOf (fun (s1 : CS) (r2 : Int32) => wc_SX12_inside (fun (s3 : CS) (r4 : Int32) => ((r4 = (0 : Int32)) → (post s3 (0 : Int32))) ∧ ((¬ (r4 = (0 : Int32))) → (vp_in r2 7 ∧ (post s3 (pOfK.getD r2.toNatClampNeg 0))))) s1 r2 (7 : Int32)) σ a1
set_option maxRecDepth 20000 in
theorem kc_th_partsOf {l : Launch} {D : va_G} {G : gAd} {post : CS → Int32 → Prop} {σ : CS} {a1 : Int32} (h : wc_th_partsOf post σ a1) : cMet l D G yX8_partsOf cX8_partsOf 3 (some .int) 2 [.ref (G.1 900), .int a1] σ (pI post) := by
  unfold wc_th_partsOf at h
  refine c_enter (own := RX8) (by decide +kernel) rfl [(0, .ref (G.1 900)), (1, .int a1)] rfl (Nat.le_of_ble_eq_true rfl) ?_
  intro E hE hm hF
  have hN := hm.2.2.2.2.2.2.1
  refine r_aload_n hE 0 dX8_partsOf_g0.1 rfl rfl ?_
  refine r_iload_n hE 1 dX8_partsOf_g0.2.1 rfl rfl ?_
  refine c_callVi hE hm [.int a1] [] ck_X8_59 (cr_th hm rfl) (kc_th_kindOf h) (by decide) rfl rfl (Nat.le_of_ble_eq_true rfl) dX8_partsOf_g0.2.2.1 (fun s1 r2 h => ?_)
  refine r_istore_n hE [(2, .int r2), (0, .ref (G.1 900)), (1, .int a1)] dX8_partsOf_g0.2.2.2.1 rfl hN (by decide) rfl ?_
  refine r_iload_n hE 0 dX8_partsOf_g0.2.2.2.2.1 rfl rfl ?_
  refine kz_pok hE hm cw_X8_63 dX8_partsOf_g0.2.2.2.2.2.1 ?_
  refine kl_pok hE hm dX8_partsOf_g0.2.2.2.2.2.2.1 ?_
  refine c_callSNi hE hm [.int r2, .int (7 : Int32)] [] ck_X8_29 cw_X8_29 (kc_SX12_inside h) (by decide) rfl rfl (Nat.le_of_ble_eq_true rfl) dX8_partsOf_g0.2.2.2.2.2.2.2.1 (fun s3 r4 h => ?_)
  refine r_if_eq hE 25 dX8_partsOf_g0.2.2.2.2.2.2.2.2.1 (by decide) h (fun h => ?_) (fun h => ?_)
  · refine r_iconst (v := (0 : Int32)) hE dX8_partsOf_g0.2.2.2.2.2.2.2.2.2.2.2.2.2.1 (by decide) ?_
    exact c_iret hE hm hF dX8_partsOf_g0.2.2.2.2.2.2.2.2.2.2.2.2.2.2 h
  · refine kz_pok hE hm cw_X8_63 dX8_partsOf_g0.2.2.2.2.2.2.2.2.2.1 ?_
    refine r_iload_n hE 0 dX8_partsOf_g0.2.2.2.2.2.2.2.2.2.2.1 rfl rfl ?_
    obtain ⟨hi, h⟩ := h
    refine ka_pok hE hm hi dX8_partsOf_g0.2.2.2.2.2.2.2.2.2.2.2.1 ?_
    refine r_goto hE 26 dX8_partsOf_g0.2.2.2.2.2.2.2.2.2.2.2.2.1 (by decide) ?_
    exact c_iret hE hm hF dX8_partsOf_g0.2.2.2.2.2.2.2.2.2.2.2.2.2.2 h
/-! th_alike -/
def wc_th_alike_20 (post : CS → Int32 → Prop) (σ : CS) (v1 : Int32) (v2 : Int32) : Prop := ((¬ (v1 = v2)) → (post σ (0 : Int32))) ∧ ((v1 = v2) → (post σ (1 : Int32)))
set_option maxRecDepth 20000 in
theorem kc_th_alike_20  {E : gEnv} {l : Launch} {D : va_G} {G : gAd} {post : CS → Int32 → Prop} (hE : gOK E cX8_alike RX8 (some .boolean) 3) (hm : cOK E l D G (pI post) 6) (hF : gFin E) (σ : CS) (v1 : Int32) (v2 : Int32) (h : wc_th_alike_20 post σ v1 v2) : GW E (cW G σ) 20 [(1, .int v1), (2, .int v2)] [] := by
  unfold wc_th_alike_20 at h
  have hN := hm.2.2.2.2.2.2.1
  refine r_iload_n hE 0 dX8_alike_g0.2.2.2.2.2.2.2.2.2.2.1 rfl rfl ?_
  refine r_iload_n hE 1 dX8_alike_g0.2.2.2.2.2.2.2.2.2.2.2.1 rfl rfl ?_
  refine r_icmp_ne hE 29 dX8_alike_g0.2.2.2.2.2.2.2.2.2.2.2.2.1 (by decide) h (fun h => ?_) (fun h => ?_)
  · refine r_iconst (v := (0 : Int32)) hE dX8_alike_g0.2.2.2.2.2.2.2.2.2.2.2.2.2.2.2 (by decide) ?_
    exact c_zret hE hm hF dX8_alike_g1.1 (Or.inl rfl) h
  · refine r_iconst (v := (1 : Int32)) hE dX8_alike_g0.2.2.2.2.2.2.2.2.2.2.2.2.2.1 (by decide) ?_
    refine r_goto hE 30 dX8_alike_g0.2.2.2.2.2.2.2.2.2.2.2.2.2.2.1 (by decide) ?_
    exact c_zret hE hm hF dX8_alike_g1.1 (Or.inr rfl) h
def wc_th_alike_182 (post : CS → Int32 → Prop) (lp148 : CS → Int32 → Int32 → Int32 → Int32 → Int32 → Prop) (σ : CS) (v1 : Int32) (v2 : Int32) (v4 : Int32) (v5 : Int32) (t0 : Int32) : Prop := ∀ x1 : Int32, x1 = v5 + (1 : Int32) → lp148 σ v1 v2 t0 v4 x1
set_option maxRecDepth 20000 in
theorem kc_th_alike_182  {E : gEnv} {l : Launch} {D : va_G} {G : gAd} {post : CS → Int32 → Prop} (hE : gOK E cX8_alike RX8 (some .boolean) 3) (hm : cOK E l D G (pI post) 6) (hF : gFin E) {lp148 : CS → Int32 → Int32 → Int32 → Int32 → Int32 → Prop} (hl148 : ∀ (σ : CS) (v1 : Int32) (v2 : Int32) (v3 : Int32) (v4 : Int32) (v5 : Int32), lp148 σ v1 v2 v3 v4 v5 → GW E (cW G σ) 148 [(0, .ref (G.1 900)), (1, .int v1), (2, .int v2), (3, .int v3), (4, .int v4), (5, .int v5)] []) (σ : CS) (v1 : Int32) (v2 : Int32) (v4 : Int32) (v5 : Int32) (t0 : Int32) (h : wc_th_alike_182 post lp148 σ v1 v2 v4 v5 t0) : GW E (cW G σ) 182 [(0, .ref (G.1 900)), (1, .int v1), (2, .int v2), (4, .int v4), (5, .int v5)] [.int t0] := by
  unfold wc_th_alike_182 at h
  have hN := hm.2.2.2.2.2.2.1
  refine r_istore_n hE [(3, .int t0), (0, .ref (G.1 900)), (1, .int v1), (2, .int v2), (4, .int v4), (5, .int v5)] dX8_alike_g6.1 rfl hN (by decide) rfl ?_
  obtain ⟨x1, ex1⟩ : ∃ z : Int32, z = v5 + (1 : Int32) := ⟨_, rfl⟩
  have h := h x1 ex1
  refine r_iinc (v := x1) hE [(5, .int x1), (3, .int t0), (0, .ref (G.1 900)), (1, .int v1), (2, .int v2), (4, .int v4)] 5 dX8_alike_g6.2.1 rfl (by rw [ex1]; rfl) hN (by decide) rfl ?_
  refine r_goto hE 148 dX8_alike_g6.2.2.1 (by decide) ?_
  refine r_pick [2, 3, 4, 1, 5, 0] rfl ?_
  exact hl148 _ _ _ _ _ _ h
def wc_th_alike_148 (post : CS → Int32 → Prop) : Nat → CS → Int32 → Int32 → Int32 → Int32 → Int32 → Prop
  | 0, _, _, _, _, _, _ => False
  | n + 1, σ, v1, v2, v3, v4, v5 => ((v4 ≤ v5) → (isB v3 ∧ (post σ v3))) ∧ ((¬ (v4 ≤ v5)) → (((v3 = (0 : Int32)) → (isB v3 ∧ (post σ v3))) ∧ ((¬ (v3 = (0 : Int32))) → (wc_th_partOf (fun (s2 : CS) (r3 : Int64) => wc_th_partOf (fun (s4 : CS) (r5 : Int64) => ((¬ ((lg_cmp r3 r5) = (0 : Int32))) → (wc_th_alike_182 post (fun (ys : CS) (y0 : Int32) (y1 : Int32) (y2 : Int32) (y3 : Int32) (y4 : Int32) => wc_th_alike_148 post n ys y0 y1 y2 y3 y4) s4 v1 v2 v4 v5 (0 : Int32))) ∧ (((lg_cmp r3 r5) = (0 : Int32)) → (wc_th_alike_182 post (fun (ys : CS) (y0 : Int32) (y1 : Int32) (y2 : Int32) (y3 : Int32) (y4 : Int32) => wc_th_alike_148 post n ys y0 y1 y2 y3 y4) s4 v1 v2 v4 v5 (1 : Int32)))) s2 v2 v5) σ v1 v5))))
set_option maxRecDepth 20000 in
theorem kc_th_alike_148  {E : gEnv} {l : Launch} {D : va_G} {G : gAd} {post : CS → Int32 → Prop} (hE : gOK E cX8_alike RX8 (some .boolean) 3) (hm : cOK E l D G (pI post) 6) (hF : gFin E) : ∀ (n0 : Nat) (σ : CS) (v1 : Int32) (v2 : Int32) (v3 : Int32) (v4 : Int32) (v5 : Int32), wc_th_alike_148 post n0 σ v1 v2 v3 v4 v5 → GW E (cW G σ) 148 [(0, .ref (G.1 900)), (1, .int v1), (2, .int v2), (3, .int v3), (4, .int v4), (5, .int v5)] [] := by
  intro n0
  induction n0 with
  | zero => intro σ v1 v2 v3 v4 v5 h; exact h.elim
  | succ n0 ih =>
    intro σ v1 v2 v3 v4 v5 h
    rw [wc_th_alike_148] at h
    have hN := hm.2.2.2.2.2.2.1
    refine r_iload hE 5 dX8_alike_g4.2.2.2.2.2.2.2.2.2.2.2.2.2.2.1 rfl ?_
    refine r_iload hE 4 dX8_alike_g4.2.2.2.2.2.2.2.2.2.2.2.2.2.2.2 rfl ?_
    refine r_icmp_ge hE 189 dX8_alike_g5.1 (by decide) h (fun h => ?_) (fun h => ?_)
    · refine r_iload_n hE 3 dX8_alike_g6.2.2.2.1 rfl rfl ?_
      obtain ⟨hb, h⟩ := h
      exact c_zret hE hm hF dX8_alike_g6.2.2.2.2 hb h
    · refine r_iload_n hE 3 dX8_alike_g5.2.1 rfl rfl ?_
      refine r_if_eq hE 189 dX8_alike_g5.2.2.1 (by decide) h (fun h => ?_) (fun h => ?_)
      · refine r_iload_n hE 3 dX8_alike_g6.2.2.2.1 rfl rfl ?_
        obtain ⟨hb, h⟩ := h
        exact c_zret hE hm hF dX8_alike_g6.2.2.2.2 hb h
      · refine r_aload_n hE 0 dX8_alike_g5.2.2.2.1 rfl rfl ?_
        refine r_iload_n hE 1 dX8_alike_g5.2.2.2.2.1 rfl rfl ?_
        refine r_iload hE 5 dX8_alike_g5.2.2.2.2.2.1 rfl ?_
        refine c_callVl hE hm [.int v1, .int v5] [] ck_X8_51 (cr_th hm rfl) (kc_th_partOf h) (by decide) rfl rfl (Nat.le_of_ble_eq_true rfl) dX8_alike_g5.2.2.2.2.2.2.1 (fun s2 r3 h => ?_)
        refine r_aload_n hE 0 dX8_alike_g5.2.2.2.2.2.2.2.1 rfl rfl ?_
        refine r_iload_n hE 2 dX8_alike_g5.2.2.2.2.2.2.2.2.1 rfl rfl ?_
        refine r_iload hE 5 dX8_alike_g5.2.2.2.2.2.2.2.2.2.1 rfl ?_
        refine c_callVl hE hm [.int v2, .int v5] [.long r3] ck_X8_51 (cr_th hm rfl) (kc_th_partOf h) (by decide) rfl rfl (Nat.le_of_ble_eq_true rfl) dX8_alike_g5.2.2.2.2.2.2.2.2.2.2.1 (fun s4 r5 h => ?_)
        refine r_lcmp hE dX8_alike_g5.2.2.2.2.2.2.2.2.2.2.2.1 ?_
        refine r_if_ne hE 181 dX8_alike_g5.2.2.2.2.2.2.2.2.2.2.2.2.1 (by decide) h (fun h => ?_) (fun h => ?_)
        · refine r_iconst (v := (0 : Int32)) hE dX8_alike_g5.2.2.2.2.2.2.2.2.2.2.2.2.2.2.2 (by decide) ?_
          refine r_pick [0, 1, 2, 4, 5] rfl ?_
          exact kc_th_alike_182 hE hm hF ih _ _ _ _ _ _ h
        · refine r_iconst (v := (1 : Int32)) hE dX8_alike_g5.2.2.2.2.2.2.2.2.2.2.2.2.2.1 (by decide) ?_
          refine r_goto hE 182 dX8_alike_g5.2.2.2.2.2.2.2.2.2.2.2.2.2.2.1 (by decide) ?_
          refine r_pick [0, 1, 2, 4, 5] rfl ?_
          exact kc_th_alike_182 hE hm hF ih _ _ _ _ _ _ h
def wc_th_alike_143 (post : CS → Int32 → Prop) (σ : CS) (v1 : Int32) (v2 : Int32) (v3 : Int32) (t0 : Int32) : Prop := ∃ k : Nat, wc_th_alike_148 post k σ v1 v2 v3 t0 (0 : Int32)
set_option maxRecDepth 20000 in
theorem kc_th_alike_143  {E : gEnv} {l : Launch} {D : va_G} {G : gAd} {post : CS → Int32 → Prop} (hE : gOK E cX8_alike RX8 (some .boolean) 3) (hm : cOK E l D G (pI post) 6) (hF : gFin E) (σ : CS) (v1 : Int32) (v2 : Int32) (v3 : Int32) (t0 : Int32) (h : wc_th_alike_143 post σ v1 v2 v3 t0) : GW E (cW G σ) 143 [(0, .ref (G.1 900)), (1, .int v1), (2, .int v2), (3, .int v3)] [.int t0] := by
  unfold wc_th_alike_143 at h
  have hN := hm.2.2.2.2.2.2.1
  refine r_istore hE [(4, .int t0), (0, .ref (G.1 900)), (1, .int v1), (2, .int v2), (3, .int v3)] dX8_alike_g4.2.2.2.2.2.2.2.2.2.2.2.1 hN (by decide) rfl ?_
  refine r_iconst (v := (0 : Int32)) hE dX8_alike_g4.2.2.2.2.2.2.2.2.2.2.2.2.1 (by decide) ?_
  refine r_istore hE [(5, .int (0 : Int32)), (4, .int t0), (0, .ref (G.1 900)), (1, .int v1), (2, .int v2), (3, .int v3)] dX8_alike_g4.2.2.2.2.2.2.2.2.2.2.2.2.2.1 hN (by decide) rfl ?_
  refine r_pick [2, 3, 4, 5, 1, 0] rfl ?_
  obtain ⟨k, h⟩ := h
  exact kc_th_alike_148 hE hm hF k _ _ _ _ _ _ h
def wc_th_alike_116 (post : CS → Int32 → Prop) (σ : CS) (v1 : Int32) (v2 : Int32) (t0 : Int32) : Prop := wc_th_partsOf (fun (s6 : CS) (r7 : Int32) => wc_th_partsOf (fun (s8 : CS) (r9 : Int32) => (((if r9 < r7 then r9 else r7) ≤ (2 : Int32)) → (wc_th_partsOf (fun (s10 : CS) (r11 : Int32) => wc_th_alike_143 post s10 v1 v2 t0 r11) s8 v1)) ∧ ((¬ ((if r9 < r7 then r9 else r7) ≤ (2 : Int32))) → (wc_th_alike_143 post s8 v1 v2 t0 (3 : Int32)))) s6 v2) σ v1
set_option maxRecDepth 20000 in
theorem kc_th_alike_116  {E : gEnv} {l : Launch} {D : va_G} {G : gAd} {post : CS → Int32 → Prop} (hE : gOK E cX8_alike RX8 (some .boolean) 3) (hm : cOK E l D G (pI post) 6) (hF : gFin E) (σ : CS) (v1 : Int32) (v2 : Int32) (t0 : Int32) (h : wc_th_alike_116 post σ v1 v2 t0) : GW E (cW G σ) 116 [(0, .ref (G.1 900)), (1, .int v1), (2, .int v2)] [.int t0] := by
  unfold wc_th_alike_116 at h
  have hN := hm.2.2.2.2.2.2.1
  refine r_istore_n hE [(3, .int t0), (0, .ref (G.1 900)), (1, .int v1), (2, .int v2)] dX8_alike_g3.2.2.2.2.2.2.2.2.2.2.2.2.1 rfl hN (by decide) rfl ?_
  refine r_aload_n hE 1 dX8_alike_g3.2.2.2.2.2.2.2.2.2.2.2.2.2.1 rfl rfl ?_
  refine r_iload_n hE 2 dX8_alike_g3.2.2.2.2.2.2.2.2.2.2.2.2.2.2.1 rfl rfl ?_
  refine c_callVi hE hm [.int v1] [] ck_X8_73 (cr_th hm rfl) (kc_th_partsOf h) (by decide) rfl rfl (Nat.le_of_ble_eq_true rfl) dX8_alike_g3.2.2.2.2.2.2.2.2.2.2.2.2.2.2.2 (fun s6 r7 h => ?_)
  refine r_aload_n hE 1 dX8_alike_g4.1 rfl rfl ?_
  refine r_iload_n hE 3 dX8_alike_g4.2.1 rfl rfl ?_
  refine c_callVi hE hm [.int v2] [.int r7] ck_X8_73 (cr_th hm rfl) (kc_th_partsOf h) (by decide) rfl rfl (Nat.le_of_ble_eq_true rfl) dX8_alike_g4.2.2.1 (fun s8 r9 h => ?_)
  refine r_mmin hE (gTb_5 (List.mem_of_getElem? (i := 99) rfl) rfl) (gTb_3 (List.mem_of_getElem? (i := 29) rfl) rfl) (gTb_1 (List.mem_of_getElem? (i := 16) rfl) rfl) (gTb_3 (List.mem_of_getElem? (i := 30) rfl) rfl) (by decide) (Nat.le_of_ble_eq_true rfl) dX8_alike_g4.2.2.2.1 ?_
  refine r_iconst (v := (2 : Int32)) hE dX8_alike_g4.2.2.2.2.1 (by decide) ?_
  refine r_icmp_le hE 138 dX8_alike_g4.2.2.2.2.2.1 (by decide) h (fun h => ?_) (fun h => ?_)
  · refine r_aload_n hE 1 dX8_alike_g4.2.2.2.2.2.2.2.2.1 rfl rfl ?_
    refine r_iload_n hE 2 dX8_alike_g4.2.2.2.2.2.2.2.2.2.1 rfl rfl ?_
    refine c_callVi hE hm [.int v1] [] ck_X8_73 (cr_th hm rfl) (kc_th_partsOf h) (by decide) rfl rfl (Nat.le_of_ble_eq_true rfl) dX8_alike_g4.2.2.2.2.2.2.2.2.2.2.1 (fun s10 r11 h => ?_)
    refine r_pick [1, 2, 3, 0] rfl ?_
    exact kc_th_alike_143 hE hm hF _ _ _ _ _ h
  · refine r_iconst (v := (3 : Int32)) hE dX8_alike_g4.2.2.2.2.2.2.1 (by decide) ?_
    refine r_goto hE 143 dX8_alike_g4.2.2.2.2.2.2.2.1 (by decide) ?_
    refine r_pick [1, 2, 3, 0] rfl ?_
    exact kc_th_alike_143 hE hm hF _ _ _ _ _ h
def wc_th_alike_115 (post : CS → Int32 → Prop) (σ : CS) (v1 : Int32) (v2 : Int32) : Prop := wc_th_alike_116 post σ v1 v2 (0 : Int32)
set_option maxRecDepth 20000 in
theorem kc_th_alike_115  {E : gEnv} {l : Launch} {D : va_G} {G : gAd} {post : CS → Int32 → Prop} (hE : gOK E cX8_alike RX8 (some .boolean) 3) (hm : cOK E l D G (pI post) 6) (hF : gFin E) (σ : CS) (v1 : Int32) (v2 : Int32) (h : wc_th_alike_115 post σ v1 v2) : GW E (cW G σ) 115 [(0, .ref (G.1 900)), (1, .int v1), (2, .int v2)] [] := by
  unfold wc_th_alike_115 at h
  have hN := hm.2.2.2.2.2.2.1
  refine r_iconst (v := (0 : Int32)) hE dX8_alike_g3.2.2.2.2.2.2.2.2.2.2.2.1 (by decide) ?_
  exact kc_th_alike_116 hE hm hF _ _ _ _ h
def wc_th_alike_111 (post : CS → Int32 → Prop) (σ : CS) (v1 : Int32) (v2 : Int32) : Prop := wc_th_alike_116 post σ v1 v2 (1 : Int32)
set_option maxRecDepth 20000 in
theorem kc_th_alike_111  {E : gEnv} {l : Launch} {D : va_G} {G : gAd} {post : CS → Int32 → Prop} (hE : gOK E cX8_alike RX8 (some .boolean) 3) (hm : cOK E l D G (pI post) 6) (hF : gFin E) (σ : CS) (v1 : Int32) (v2 : Int32) (h : wc_th_alike_111 post σ v1 v2) : GW E (cW G σ) 111 [(0, .ref (G.1 900)), (1, .int v1), (2, .int v2)] [] := by
  unfold wc_th_alike_111 at h
  have hN := hm.2.2.2.2.2.2.1
  refine r_iconst (v := (1 : Int32)) hE dX8_alike_g3.2.2.2.2.2.2.2.2.2.1 (by decide) ?_
  refine r_goto hE 116 dX8_alike_g3.2.2.2.2.2.2.2.2.2.2.1 (by decide) ?_
  exact kc_th_alike_116 hE hm hF _ _ _ _ h
def wc_th_alike_91 (post : CS → Int32 → Prop) (σ : CS) (v1 : Int32) (v2 : Int32) : Prop := wc_th_fits (fun (s12 : CS) (r13 : Int32) => ((r13 = (0 : Int32)) → (wc_th_alike_115 post s12 v1 v2)) ∧ ((¬ (r13 = (0 : Int32))) → (wc_th_fits (fun (s14 : CS) (r15 : Int32) => ((r15 = (0 : Int32)) → (wc_th_alike_115 post s14 v1 v2)) ∧ ((¬ (r15 = (0 : Int32))) → (wc_th_alike_111 post s14 v1 v2))) s12 v2 (67 : Int32)))) σ v1 (67 : Int32)
set_option maxRecDepth 20000 in
theorem kc_th_alike_91  {E : gEnv} {l : Launch} {D : va_G} {G : gAd} {post : CS → Int32 → Prop} (hE : gOK E cX8_alike RX8 (some .boolean) 3) (hm : cOK E l D G (pI post) 6) (hF : gFin E) (σ : CS) (v1 : Int32) (v2 : Int32) (h : wc_th_alike_91 post σ v1 v2) : GW E (cW G σ) 91 [(0, .ref (G.1 900)), (1, .int v1), (2, .int v2)] [] := by
  unfold wc_th_alike_91 at h
  have hN := hm.2.2.2.2.2.2.1
  refine r_aload_n hE 0 dX8_alike_g2.2.2.2.2.2.2.2.2.2.2.2.2.2.2.2 rfl rfl ?_
  refine r_iload_n hE 1 dX8_alike_g3.1 rfl rfl ?_
  refine r_bipush (v := (67 : Int32)) hE dX8_alike_g3.2.1 (by decide) ?_
  refine c_callVi hE hm [.int v1, .int (67 : Int32)] [] ck_X8_69 (cr_th hm rfl) (kc_th_fits h) (by decide) rfl rfl (Nat.le_of_ble_eq_true rfl) dX8_alike_g3.2.2.1 (fun s12 r13 h => ?_)
  refine r_if_eq hE 115 dX8_alike_g3.2.2.2.1 (by decide) h (fun h => ?_) (fun h => ?_)
  · exact kc_th_alike_115 hE hm hF _ _ _ h
  · refine r_aload_n hE 0 dX8_alike_g3.2.2.2.2.1 rfl rfl ?_
    refine r_iload_n hE 2 dX8_alike_g3.2.2.2.2.2.1 rfl rfl ?_
    refine r_bipush (v := (67 : Int32)) hE dX8_alike_g3.2.2.2.2.2.2.1 (by decide) ?_
    refine c_callVi hE hm [.int v2, .int (67 : Int32)] [] ck_X8_69 (cr_th hm rfl) (kc_th_fits h) (by decide) rfl rfl (Nat.le_of_ble_eq_true rfl) dX8_alike_g3.2.2.2.2.2.2.2.1 (fun s14 r15 h => ?_)
    refine r_if_eq hE 115 dX8_alike_g3.2.2.2.2.2.2.2.2.1 (by decide) h (fun h => ?_) (fun h => ?_)
    · exact kc_th_alike_115 hE hm hF _ _ _ h
    · exact kc_th_alike_111 hE hm hF _ _ _ h
def wc_th_alike_71 (post : CS → Int32 → Prop) (σ : CS) (v1 : Int32) (v2 : Int32) : Prop := wc_th_fits (fun (s16 : CS) (r17 : Int32) => ((r17 = (0 : Int32)) → (wc_th_alike_91 post s16 v1 v2)) ∧ ((¬ (r17 = (0 : Int32))) → (wc_th_fits (fun (s18 : CS) (r19 : Int32) => ((¬ (r19 = (0 : Int32))) → (wc_th_alike_111 post s18 v1 v2)) ∧ ((r19 = (0 : Int32)) → (wc_th_alike_91 post s18 v1 v2))) s16 v2 (76 : Int32)))) σ v1 (76 : Int32)
set_option maxRecDepth 20000 in
theorem kc_th_alike_71  {E : gEnv} {l : Launch} {D : va_G} {G : gAd} {post : CS → Int32 → Prop} (hE : gOK E cX8_alike RX8 (some .boolean) 3) (hm : cOK E l D G (pI post) 6) (hF : gFin E) (σ : CS) (v1 : Int32) (v2 : Int32) (h : wc_th_alike_71 post σ v1 v2) : GW E (cW G σ) 71 [(0, .ref (G.1 900)), (1, .int v1), (2, .int v2)] [] := by
  unfold wc_th_alike_71 at h
  have hN := hm.2.2.2.2.2.2.1
  refine r_aload_n hE 0 dX8_alike_g2.2.2.2.2.2.1 rfl rfl ?_
  refine r_iload_n hE 1 dX8_alike_g2.2.2.2.2.2.2.1 rfl rfl ?_
  refine r_bipush (v := (76 : Int32)) hE dX8_alike_g2.2.2.2.2.2.2.2.1 (by decide) ?_
  refine c_callVi hE hm [.int v1, .int (76 : Int32)] [] ck_X8_69 (cr_th hm rfl) (kc_th_fits h) (by decide) rfl rfl (Nat.le_of_ble_eq_true rfl) dX8_alike_g2.2.2.2.2.2.2.2.2.1 (fun s16 r17 h => ?_)
  refine r_if_eq hE 91 dX8_alike_g2.2.2.2.2.2.2.2.2.2.1 (by decide) h (fun h => ?_) (fun h => ?_)
  · exact kc_th_alike_91 hE hm hF _ _ _ h
  · refine r_aload_n hE 0 dX8_alike_g2.2.2.2.2.2.2.2.2.2.2.1 rfl rfl ?_
    refine r_iload_n hE 2 dX8_alike_g2.2.2.2.2.2.2.2.2.2.2.2.1 rfl rfl ?_
    refine r_bipush (v := (76 : Int32)) hE dX8_alike_g2.2.2.2.2.2.2.2.2.2.2.2.2.1 (by decide) ?_
    refine c_callVi hE hm [.int v2, .int (76 : Int32)] [] ck_X8_69 (cr_th hm rfl) (kc_th_fits h) (by decide) rfl rfl (Nat.le_of_ble_eq_true rfl) dX8_alike_g2.2.2.2.2.2.2.2.2.2.2.2.2.2.1 (fun s18 r19 h => ?_)
    refine r_if_ne hE 111 dX8_alike_g2.2.2.2.2.2.2.2.2.2.2.2.2.2.2.1 (by decide) h (fun h => ?_) (fun h => ?_)
    · exact kc_th_alike_111 hE hm hF _ _ _ h
    · exact kc_th_alike_91 hE hm hF _ _ _ h
def wc_th_alike_51 (post : CS → Int32 → Prop) (σ : CS) (v1 : Int32) (v2 : Int32) : Prop := wc_th_fits (fun (s20 : CS) (r21 : Int32) => ((r21 = (0 : Int32)) → (wc_th_alike_71 post s20 v1 v2)) ∧ ((¬ (r21 = (0 : Int32))) → (wc_th_fits (fun (s22 : CS) (r23 : Int32) => ((¬ (r23 = (0 : Int32))) → (wc_th_alike_111 post s22 v1 v2)) ∧ ((r23 = (0 : Int32)) → (wc_th_alike_71 post s22 v1 v2))) s20 v2 (80 : Int32)))) σ v1 (80 : Int32)
set_option maxRecDepth 20000 in
theorem kc_th_alike_51  {E : gEnv} {l : Launch} {D : va_G} {G : gAd} {post : CS → Int32 → Prop} (hE : gOK E cX8_alike RX8 (some .boolean) 3) (hm : cOK E l D G (pI post) 6) (hF : gFin E) (σ : CS) (v1 : Int32) (v2 : Int32) (h : wc_th_alike_51 post σ v1 v2) : GW E (cW G σ) 51 [(0, .ref (G.1 900)), (1, .int v1), (2, .int v2)] [] := by
  unfold wc_th_alike_51 at h
  have hN := hm.2.2.2.2.2.2.1
  refine r_aload_n hE 0 dX8_alike_g1.2.2.2.2.2.2.2.2.2.2.2.1 rfl rfl ?_
  refine r_iload_n hE 1 dX8_alike_g1.2.2.2.2.2.2.2.2.2.2.2.2.1 rfl rfl ?_
  refine r_bipush (v := (80 : Int32)) hE dX8_alike_g1.2.2.2.2.2.2.2.2.2.2.2.2.2.1 (by decide) ?_
  refine c_callVi hE hm [.int v1, .int (80 : Int32)] [] ck_X8_69 (cr_th hm rfl) (kc_th_fits h) (by decide) rfl rfl (Nat.le_of_ble_eq_true rfl) dX8_alike_g1.2.2.2.2.2.2.2.2.2.2.2.2.2.2.1 (fun s20 r21 h => ?_)
  refine r_if_eq hE 71 dX8_alike_g1.2.2.2.2.2.2.2.2.2.2.2.2.2.2.2 (by decide) h (fun h => ?_) (fun h => ?_)
  · exact kc_th_alike_71 hE hm hF _ _ _ h
  · refine r_aload_n hE 0 dX8_alike_g2.1 rfl rfl ?_
    refine r_iload_n hE 2 dX8_alike_g2.2.1 rfl rfl ?_
    refine r_bipush (v := (80 : Int32)) hE dX8_alike_g2.2.2.1 (by decide) ?_
    refine c_callVi hE hm [.int v2, .int (80 : Int32)] [] ck_X8_69 (cr_th hm rfl) (kc_th_fits h) (by decide) rfl rfl (Nat.le_of_ble_eq_true rfl) dX8_alike_g2.2.2.2.1 (fun s22 r23 h => ?_)
    refine r_if_ne hE 111 dX8_alike_g2.2.2.2.2.1 (by decide) h (fun h => ?_) (fun h => ?_)
    · exact kc_th_alike_111 hE hm hF _ _ _ h
    · exact kc_th_alike_71 hE hm hF _ _ _ h
def wc_th_alike (post : CS → Int32 → Prop) (σ : CS) (a1 : Int32) (a2 : Int32) : Prop := wc_th_fits (fun (s24 : CS) (r25 : Int32) => ((¬ (r25 = (0 : Int32))) → (wc_th_alike_20 post s24 a1 a2)) ∧ ((r25 = (0 : Int32)) → (wc_th_fits (fun (s26 : CS) (r27 : Int32) => ((r27 = (0 : Int32)) → (wc_th_fits (fun (s28 : CS) (r29 : Int32) => ((r29 = (0 : Int32)) → (wc_th_alike_51 post s28 a1 a2)) ∧ ((¬ (r29 = (0 : Int32))) → (wc_th_fits (fun (s30 : CS) (r31 : Int32) => ((¬ (r31 = (0 : Int32))) → (wc_th_alike_111 post s30 a1 a2)) ∧ ((r31 = (0 : Int32)) → (wc_th_alike_51 post s30 a1 a2))) s28 a2 (78 : Int32)))) s26 a1 (78 : Int32))) ∧ ((¬ (r27 = (0 : Int32))) → (wc_th_alike_20 post s26 a1 a2))) s24 a2 (82 : Int32)))) σ a1 (82 : Int32)
set_option maxRecDepth 20000 in
theorem kc_th_alike {l : Launch} {D : va_G} {G : gAd} {post : CS → Int32 → Prop} {σ : CS} {a1 : Int32} {a2 : Int32} (h : wc_th_alike post σ a1 a2) : cMet l D G yX8_alike cX8_alike 6 (some .boolean) 3 [.ref (G.1 900), .int a1, .int a2] σ (pI post) := by
  unfold wc_th_alike at h
  refine c_enter (own := RX8) (by decide +kernel) rfl [(0, .ref (G.1 900)), (1, .int a1), (2, .int a2)] rfl (Nat.le_of_ble_eq_true rfl) ?_
  intro E hE hm hF
  have hN := hm.2.2.2.2.2.2.1
  refine r_aload_n hE 0 dX8_alike_g0.1 rfl rfl ?_
  refine r_iload_n hE 1 dX8_alike_g0.2.1 rfl rfl ?_
  refine r_bipush (v := (82 : Int32)) hE dX8_alike_g0.2.2.1 (by decide) ?_
  refine c_callVi hE hm [.int a1, .int (82 : Int32)] [] ck_X8_69 (cr_th hm rfl) (kc_th_fits h) (by decide) rfl rfl (Nat.le_of_ble_eq_true rfl) dX8_alike_g0.2.2.2.1 (fun s24 r25 h => ?_)
  refine r_if_ne hE 20 dX8_alike_g0.2.2.2.2.1 (by decide) h (fun h => ?_) (fun h => ?_)
  · refine r_pick [1, 2] rfl ?_
    exact kc_th_alike_20 hE hm hF _ _ _ h
  · refine r_aload_n hE 0 dX8_alike_g0.2.2.2.2.2.1 rfl rfl ?_
    refine r_iload_n hE 2 dX8_alike_g0.2.2.2.2.2.2.1 rfl rfl ?_
    refine r_bipush (v := (82 : Int32)) hE dX8_alike_g0.2.2.2.2.2.2.2.1 (by decide) ?_
    refine c_callVi hE hm [.int a2, .int (82 : Int32)] [] ck_X8_69 (cr_th hm rfl) (kc_th_fits h) (by decide) rfl rfl (Nat.le_of_ble_eq_true rfl) dX8_alike_g0.2.2.2.2.2.2.2.2.1 (fun s26 r27 h => ?_)
    refine r_if_eq hE 31 dX8_alike_g0.2.2.2.2.2.2.2.2.2.1 (by decide) h (fun h => ?_) (fun h => ?_)
    · refine r_aload_n hE 0 dX8_alike_g1.2.1 rfl rfl ?_
      refine r_iload_n hE 1 dX8_alike_g1.2.2.1 rfl rfl ?_
      refine r_bipush (v := (78 : Int32)) hE dX8_alike_g1.2.2.2.1 (by decide) ?_
      refine c_callVi hE hm [.int a1, .int (78 : Int32)] [] ck_X8_69 (cr_th hm rfl) (kc_th_fits h) (by decide) rfl rfl (Nat.le_of_ble_eq_true rfl) dX8_alike_g1.2.2.2.2.1 (fun s28 r29 h => ?_)
      refine r_if_eq hE 51 dX8_alike_g1.2.2.2.2.2.1 (by decide) h (fun h => ?_) (fun h => ?_)
      · exact kc_th_alike_51 hE hm hF _ _ _ h
      · refine r_aload_n hE 0 dX8_alike_g1.2.2.2.2.2.2.1 rfl rfl ?_
        refine r_iload_n hE 2 dX8_alike_g1.2.2.2.2.2.2.2.1 rfl rfl ?_
        refine r_bipush (v := (78 : Int32)) hE dX8_alike_g1.2.2.2.2.2.2.2.2.1 (by decide) ?_
        refine c_callVi hE hm [.int a2, .int (78 : Int32)] [] ck_X8_69 (cr_th hm rfl) (kc_th_fits h) (by decide) rfl rfl (Nat.le_of_ble_eq_true rfl) dX8_alike_g1.2.2.2.2.2.2.2.2.2.1 (fun s30 r31 h => ?_)
        refine r_if_ne hE 111 dX8_alike_g1.2.2.2.2.2.2.2.2.2.2.1 (by decide) h (fun h => ?_) (fun h => ?_)
        · exact kc_th_alike_111 hE hm hF _ _ _ h
        · exact kc_th_alike_51 hE hm hF _ _ _ h
    · refine r_pick [1, 2] rfl ?_
      exact kc_th_alike_20 hE hm hF _ _ _ h
/-! wo_measured_t -/
def wc_wo_measured_t_261 (post : CS → Int64 → Prop) (σ : CS) (t0 : Int32) : Prop := wc_SX6_truth (fun (s1 : CS) (r2 : Int64) => post s1 r2) σ t0
set_option maxRecDepth 20000 in
theorem kc_wo_measured_t_261  {E : gEnv} {l : Launch} {D : va_G} {G : gAd} {post : CS → Int64 → Prop} (hE : gOK E cX11_measured RX11 (some .long) 5) (hm : cOK E l D G (pL post) 2) (hF : gFin E) (σ : CS) (t0 : Int32) (h : wc_wo_measured_t_261 post σ t0) : GW E (cW G σ) 261 [] [.int t0] := by
  unfold wc_wo_measured_t_261 at h
  have hN := hm.2.2.2.2.2.2.1
  refine c_callSl hE hm [.int t0] [] ck_X11_208 (kc_SX6_truth h) (by decide) rfl rfl (Nat.le_of_ble_eq_true rfl) dX11_measured_g8.2.2.1 (fun s1 r2 h => ?_)
  exact c_lret hE hm hF dX11_measured_g8.2.2.2 h
def wc_wo_measured_t_202 (post : CS → Int64 → Prop) (σ : CS) (t0 : Int32) : Prop := wc_SX6_truth (fun (s3 : CS) (r4 : Int64) => post s3 r4) σ t0
set_option maxRecDepth 20000 in
theorem kc_wo_measured_t_202  {E : gEnv} {l : Launch} {D : va_G} {G : gAd} {post : CS → Int64 → Prop} (hE : gOK E cX11_measured RX11 (some .long) 5) (hm : cOK E l D G (pL post) 2) (hF : gFin E) (σ : CS) (t0 : Int32) (h : wc_wo_measured_t_202 post σ t0) : GW E (cW G σ) 202 [] [.int t0] := by
  unfold wc_wo_measured_t_202 at h
  have hN := hm.2.2.2.2.2.2.1
  refine c_callSl hE hm [.int t0] [] ck_X11_208 (kc_SX6_truth h) (by decide) rfl rfl (Nat.le_of_ble_eq_true rfl) dX11_measured_g6.2.1 (fun s3 r4 h => ?_)
  exact c_lret hE hm hF dX11_measured_g6.2.2.1 h
def wc_wo_measured_t (post : CS → Int64 → Prop) (σ : CS) (a1 : Nat) : Prop := a1 < 39 ∧ (wc_tSJx29ce0_ordinal_8abf5 (fun (s5 : CS) (r6 : Int32) => vp_in r6 39 ∧ (((swMap.getD r6.toNatClampNeg 0) = (7 : Int32) → (wc_wo_given (fun (s7 : CS) (r8 : Int64) => wc_wo_given (fun (s9 : CS) (r10 : Int64) => wc_wo_given (fun (s11 : CS) (r12 : Int64) => wc_wo_given (fun (s13 : CS) (r14 : Int64) => wc_wo_dist (fun (s15 : CS) (r16 : Int64) => post s15 r16) s13 r8 r10 r12 r14) s11 (1 : Int32) (1 : Int32)) s9 (1 : Int32) (0 : Int32)) s7 (0 : Int32) (1 : Int32)) s5 (0 : Int32) (0 : Int32))) ∧ (¬ (swMap.getD r6.toNatClampNeg 0) = (7 : Int32) → (((swMap.getD r6.toNatClampNeg 0) = (8 : Int32) → (wc_wo_area (fun (s17 : CS) (r18 : Int64) => post s17 r18) s5)) ∧ (¬ (swMap.getD r6.toNatClampNeg 0) = (8 : Int32) → (((swMap.getD r6.toNatClampNeg 0) = (9 : Int32) → (wc_wo_given (fun (s19 : CS) (r20 : Int64) => wc_wo_given (fun (s21 : CS) (r22 : Int64) => wc_wo_given (fun (s23 : CS) (r24 : Int64) => wc_wo_given (fun (s25 : CS) (r26 : Int64) => wc_wo_dist (fun (s27 : CS) (r28 : Int64) => wc_wo_given (fun (s29 : CS) (r30 : Int64) => wc_rk_minus (fun (s31 : CS) (r32 : Int64) => post s31 r32) s29 r28 r30) s27 (1 : Int32) (2 : Int32)) s25 r20 r22 r24 r26) s23 (1 : Int32) (1 : Int32)) s21 (1 : Int32) (0 : Int32)) s19 (0 : Int32) (1 : Int32)) s5 (0 : Int32) (0 : Int32))) ∧ (¬ (swMap.getD r6.toNatClampNeg 0) = (9 : Int32) → (((swMap.getD r6.toNatClampNeg 0) = (10 : Int32) → (wc_wo_isOn (fun (s33 : CS) (r34 : Int32) => wc_SX6_truth (fun (s35 : CS) (r36 : Int64) => post s35 r36) s33 r34) s5)) ∧ (¬ (swMap.getD r6.toNatClampNeg 0) = (10 : Int32) → (((swMap.getD r6.toNatClampNeg 0) = (11 : Int32) → (vp_in (0 : Int32) 3 ∧ (vp_in (1 : Int32) 3 ∧ (wc_th_alike (fun (s37 : CS) (r38 : Int32) => wc_SX6_truth (fun (s39 : CS) (r40 : Int64) => post s39 r40) s37 r38) s5 (c_wo_arguments s5 (0 : Int32).toNatClampNeg) (c_wo_arguments s5 (1 : Int32).toNatClampNeg))))) ∧ (¬ (swMap.getD r6.toNatClampNeg 0) = (11 : Int32) → (((swMap.getD r6.toNatClampNeg 0) = (12 : Int32) → (wc_wo_given (fun (s41 : CS) (r42 : Int64) => wc_wo_given (fun (s43 : CS) (r44 : Int64) => wc_rk_times (fun (s45 : CS) (r46 : Int64) => wc_wo_given (fun (s47 : CS) (r48 : Int64) => wc_wo_given (fun (s49 : CS) (r50 : Int64) => wc_rk_times (fun (s51 : CS) (r52 : Int64) => ((¬ ((lg_cmp r46 r52) = (0 : Int32))) → (wc_wo_measured_t_202 post s51 (0 : Int32))) ∧ (((lg_cmp r46 r52) = (0 : Int32)) → (wc_wo_measured_t_202 post s51 (1 : Int32)))) s49 r48 r50) s47 (0 : Int32) (1 : Int32)) s45 (1 : Int32) (0 : Int32)) s43 r42 r44) s41 (1 : Int32) (1 : Int32)) s5 (0 : Int32) (0 : Int32))) ∧ (¬ (swMap.getD r6.toNatClampNeg 0) = (12 : Int32) → (wc_wo_given (fun (s53 : CS) (r54 : Int64) => wc_wo_given (fun (s55 : CS) (r56 : Int64) => wc_rk_times (fun (s57 : CS) (r58 : Int64) => wc_wo_given (fun (s59 : CS) (r60 : Int64) => wc_wo_given (fun (s61 : CS) (r62 : Int64) => wc_rk_times (fun (s63 : CS) (r64 : Int64) => wc_rk_plus (fun (s65 : CS) (r66 : Int64) => ((¬ ((lg_cmp r66 (1 : Int64)) = (0 : Int32))) → (wc_wo_measured_t_261 post s65 (0 : Int32))) ∧ (((lg_cmp r66 (1 : Int64)) = (0 : Int32)) → (wc_wo_measured_t_261 post s65 (1 : Int32)))) s63 r58 r64) s61 r60 r62) s59 (1 : Int32) (1 : Int32)) s57 (0 : Int32) (1 : Int32)) s55 r54 r56) s53 (1 : Int32) (0 : Int32)) s5 (0 : Int32) (0 : Int32))))))))))))))) σ a1)
set_option maxRecDepth 20000 in
theorem kc_wo_measured_t {l : Launch} {D : va_G} {G : gAd} {post : CS → Int64 → Prop} {σ : CS} {a1 : Nat} (h : wc_wo_measured_t post σ a1) : cMet l D G yX11_measured cX11_measured 2 (some .long) 5 [.ref (G.1 1300), .ref (G.1 (7000 + a1))] σ (pL post) := by
  unfold wc_wo_measured_t at h
  refine c_enter (own := RX11) (by decide +kernel) rfl [(0, .ref (G.1 1300)), (1, .ref (G.1 (7000 + a1)))] rfl (Nat.le_of_ble_eq_true rfl) ?_
  intro E hE hm hF
  have hN := hm.2.2.2.2.2.2.1
  refine kz_swmap hE hm fk_X11_193 dX11_measured_g0.1 ?_
  refine r_aload_n hE 1 dX11_measured_g0.2.1 rfl rfl ?_
  obtain ⟨hx, h⟩ := h
  refine c_callU hE hm [] [.ref (G.1 8001)] cu_X11_198 ((c_z hE hm).2.2.2.1 _ hx).1 (kc_tSJx29ce0_ordinal_8abf5 h) (by decide) rfl rfl (Nat.le_of_ble_eq_true rfl) dX11_measured_g0.2.2.1 (fun s5 r6 h => ?_)
  obtain ⟨hi, h⟩ := h
  refine ka_swmap hE hm hi dX11_measured_g0.2.2.2.1 ?_
  refine r_case (7 : Int32) h (fun q0 h => ?_) (fun q0 h => ?_)
  · refine r_tableAt (off := 40) hE (7 : Int32) 48 dX11_measured_g0.2.2.2.2.1 q0 (by decide) (by decide) (by decide) (by decide) ?_
    refine r_aload_n hE 0 dX11_measured_g0.2.2.2.2.2.1 rfl rfl ?_
    refine r_aload_n hE 0 dX11_measured_g0.2.2.2.2.2.2.1 rfl rfl ?_
    refine r_iconst (v := (0 : Int32)) hE dX11_measured_g0.2.2.2.2.2.2.2.1 (by decide) ?_
    refine r_iconst (v := (0 : Int32)) hE dX11_measured_g0.2.2.2.2.2.2.2.2.1 (by decide) ?_
    refine c_callVl hE hm [.int (0 : Int32), .int (0 : Int32)] [.ref (G.1 1300)] ck_X11_126 (cr_wo hm rfl) (kc_wo_given h) (by decide) rfl rfl (Nat.le_of_ble_eq_true rfl) dX11_measured_g0.2.2.2.2.2.2.2.2.2.1 (fun s7 r8 h => ?_)
    refine r_aload_n hE 0 dX11_measured_g0.2.2.2.2.2.2.2.2.2.2.1 rfl rfl ?_
    refine r_iconst (v := (0 : Int32)) hE dX11_measured_g0.2.2.2.2.2.2.2.2.2.2.2.1 (by decide) ?_
    refine r_iconst (v := (1 : Int32)) hE dX11_measured_g0.2.2.2.2.2.2.2.2.2.2.2.2.1 (by decide) ?_
    refine c_callVl hE hm [.int (0 : Int32), .int (1 : Int32)] [.long r8, .ref (G.1 1300)] ck_X11_126 (cr_wo hm rfl) (kc_wo_given h) (by decide) rfl rfl (Nat.le_of_ble_eq_true rfl) dX11_measured_g0.2.2.2.2.2.2.2.2.2.2.2.2.2.1 (fun s9 r10 h => ?_)
    refine r_aload_n hE 0 dX11_measured_g0.2.2.2.2.2.2.2.2.2.2.2.2.2.2.1 rfl rfl ?_
    refine r_iconst (v := (1 : Int32)) hE dX11_measured_g0.2.2.2.2.2.2.2.2.2.2.2.2.2.2.2 (by decide) ?_
    refine r_iconst (v := (0 : Int32)) hE dX11_measured_g1.1 (by decide) ?_
    refine c_callVl hE hm [.int (1 : Int32), .int (0 : Int32)] [.long r10, .long r8, .ref (G.1 1300)] ck_X11_126 (cr_wo hm rfl) (kc_wo_given h) (by decide) rfl rfl (Nat.le_of_ble_eq_true rfl) dX11_measured_g1.2.1 (fun s11 r12 h => ?_)
    refine r_aload_n hE 0 dX11_measured_g1.2.2.1 rfl rfl ?_
    refine r_iconst (v := (1 : Int32)) hE dX11_measured_g1.2.2.2.1 (by decide) ?_
    refine r_iconst (v := (1 : Int32)) hE dX11_measured_g1.2.2.2.2.1 (by decide) ?_
    refine c_callVl hE hm [.int (1 : Int32), .int (1 : Int32)] [.long r12, .long r10, .long r8, .ref (G.1 1300)] ck_X11_126 (cr_wo hm rfl) (kc_wo_given h) (by decide) rfl rfl (Nat.le_of_ble_eq_true rfl) dX11_measured_g1.2.2.2.2.2.1 (fun s13 r14 h => ?_)
    refine c_callVl hE hm [.long r8, .long r10, .long r12, .long r14] [] ck_X11_218 (cr_wo hm rfl) (kc_wo_dist h) (by decide) rfl rfl (Nat.le_of_ble_eq_true rfl) dX11_measured_g1.2.2.2.2.2.2.1 (fun s15 r16 h => ?_)
    exact c_lret hE hm hF dX11_measured_g1.2.2.2.2.2.2.2.1 h
  · refine r_case (8 : Int32) h (fun q1 h => ?_) (fun q1 h => ?_)
    · refine r_tableAt (off := 69) hE (8 : Int32) 77 dX11_measured_g0.2.2.2.2.1 q1 (by decide) (by decide) (by decide) (by decide) ?_
      refine r_aload_n hE 0 dX11_measured_g1.2.2.2.2.2.2.2.2.1 rfl rfl ?_
      refine c_callVl hE hm [] [] ck_X11_222 (cr_wo hm rfl) (kc_wo_area h) (by decide) rfl rfl (Nat.le_of_ble_eq_true rfl) dX11_measured_g1.2.2.2.2.2.2.2.2.2.1 (fun s17 r18 h => ?_)
      exact c_lret hE hm hF dX11_measured_g1.2.2.2.2.2.2.2.2.2.2.1 h
    · refine r_case (9 : Int32) h (fun q2 h => ?_) (fun q2 h => ?_)
      · refine r_tableAt (off := 74) hE (9 : Int32) 82 dX11_measured_g0.2.2.2.2.1 q2 (by decide) (by decide) (by decide) (by decide) ?_
        refine r_aload_n hE 0 dX11_measured_g1.2.2.2.2.2.2.2.2.2.2.2.1 rfl rfl ?_
        refine cg_wo_reckoner hE hm fk_X11_36 dX11_measured_g1.2.2.2.2.2.2.2.2.2.2.2.2.1 ?_
        refine r_aload_n hE 0 dX11_measured_g1.2.2.2.2.2.2.2.2.2.2.2.2.2.1 rfl rfl ?_
        refine r_aload_n hE 0 dX11_measured_g1.2.2.2.2.2.2.2.2.2.2.2.2.2.2.1 rfl rfl ?_
        refine r_iconst (v := (0 : Int32)) hE dX11_measured_g1.2.2.2.2.2.2.2.2.2.2.2.2.2.2.2 (by decide) ?_
        refine r_iconst (v := (0 : Int32)) hE dX11_measured_g2.1 (by decide) ?_
        refine c_callVl hE hm [.int (0 : Int32), .int (0 : Int32)] [.ref (G.1 1300), .ref (G.1 800)] ck_X11_126 (cr_wo hm rfl) (kc_wo_given h) (by decide) rfl rfl (Nat.le_of_ble_eq_true rfl) dX11_measured_g2.2.1 (fun s19 r20 h => ?_)
        refine r_aload_n hE 0 dX11_measured_g2.2.2.1 rfl rfl ?_
        refine r_iconst (v := (0 : Int32)) hE dX11_measured_g2.2.2.2.1 (by decide) ?_
        refine r_iconst (v := (1 : Int32)) hE dX11_measured_g2.2.2.2.2.1 (by decide) ?_
        refine c_callVl hE hm [.int (0 : Int32), .int (1 : Int32)] [.long r20, .ref (G.1 1300), .ref (G.1 800)] ck_X11_126 (cr_wo hm rfl) (kc_wo_given h) (by decide) rfl rfl (Nat.le_of_ble_eq_true rfl) dX11_measured_g2.2.2.2.2.2.1 (fun s21 r22 h => ?_)
        refine r_aload_n hE 0 dX11_measured_g2.2.2.2.2.2.2.1 rfl rfl ?_
        refine r_iconst (v := (1 : Int32)) hE dX11_measured_g2.2.2.2.2.2.2.2.1 (by decide) ?_
        refine r_iconst (v := (0 : Int32)) hE dX11_measured_g2.2.2.2.2.2.2.2.2.1 (by decide) ?_
        refine c_callVl hE hm [.int (1 : Int32), .int (0 : Int32)] [.long r22, .long r20, .ref (G.1 1300), .ref (G.1 800)] ck_X11_126 (cr_wo hm rfl) (kc_wo_given h) (by decide) rfl rfl (Nat.le_of_ble_eq_true rfl) dX11_measured_g2.2.2.2.2.2.2.2.2.2.1 (fun s23 r24 h => ?_)
        refine r_aload_n hE 0 dX11_measured_g2.2.2.2.2.2.2.2.2.2.2.1 rfl rfl ?_
        refine r_iconst (v := (1 : Int32)) hE dX11_measured_g2.2.2.2.2.2.2.2.2.2.2.2.1 (by decide) ?_
        refine r_iconst (v := (1 : Int32)) hE dX11_measured_g2.2.2.2.2.2.2.2.2.2.2.2.2.1 (by decide) ?_
        refine c_callVl hE hm [.int (1 : Int32), .int (1 : Int32)] [.long r24, .long r22, .long r20, .ref (G.1 1300), .ref (G.1 800)] ck_X11_126 (cr_wo hm rfl) (kc_wo_given h) (by decide) rfl rfl (Nat.le_of_ble_eq_true rfl) dX11_measured_g2.2.2.2.2.2.2.2.2.2.2.2.2.2.1 (fun s25 r26 h => ?_)
        refine c_callVl hE hm [.long r20, .long r22, .long r24, .long r26] [.ref (G.1 800)] ck_X11_218 (cr_wo hm rfl) (kc_wo_dist h) (by decide) rfl rfl (Nat.le_of_ble_eq_true rfl) dX11_measured_g2.2.2.2.2.2.2.2.2.2.2.2.2.2.2.1 (fun s27 r28 h => ?_)
        refine r_aload_n hE 0 dX11_measured_g2.2.2.2.2.2.2.2.2.2.2.2.2.2.2.2 rfl rfl ?_
        refine r_iconst (v := (1 : Int32)) hE dX11_measured_g3.1 (by decide) ?_
        refine r_iconst (v := (2 : Int32)) hE dX11_measured_g3.2.1 (by decide) ?_
        refine c_callVl hE hm [.int (1 : Int32), .int (2 : Int32)] [.long r28, .ref (G.1 800)] ck_X11_126 (cr_wo hm rfl) (kc_wo_given h) (by decide) rfl rfl (Nat.le_of_ble_eq_true rfl) dX11_measured_g3.2.2.1 (fun s29 r30 h => ?_)
        refine c_callVl hE hm [.long r28, .long r30] [] ck_X11_226 (cr_rk hm rfl) (kc_rk_minus h) (by decide) rfl rfl (Nat.le_of_ble_eq_true rfl) dX11_measured_g3.2.2.2.1 (fun s31 r32 h => ?_)
        exact c_lret hE hm hF dX11_measured_g3.2.2.2.2.1 h
      · refine r_case (10 : Int32) h (fun q3 h => ?_) (fun q3 h => ?_)
        · refine r_tableAt (off := 116) hE (10 : Int32) 124 dX11_measured_g0.2.2.2.2.1 q3 (by decide) (by decide) (by decide) (by decide) ?_
          refine r_aload_n hE 0 dX11_measured_g3.2.2.2.2.2.1 rfl rfl ?_
          refine c_callVi hE hm [] [] ck_X11_229 (cr_wo hm rfl) (kc_wo_isOn h) (by decide) rfl rfl (Nat.le_of_ble_eq_true rfl) dX11_measured_g3.2.2.2.2.2.2.1 (fun s33 r34 h => ?_)
          refine c_callSl hE hm [.int r34] [] ck_X11_208 (kc_SX6_truth h) (by decide) rfl rfl (Nat.le_of_ble_eq_true rfl) dX11_measured_g3.2.2.2.2.2.2.2.1 (fun s35 r36 h => ?_)
          exact c_lret hE hm hF dX11_measured_g3.2.2.2.2.2.2.2.2.1 h
        · refine r_case (11 : Int32) h (fun q4 h => ?_) (fun q4 h => ?_)
          · refine r_tableAt (off := 124) hE (11 : Int32) 132 dX11_measured_g0.2.2.2.2.1 q4 (by decide) (by decide) (by decide) (by decide) ?_
            refine r_aload_n hE 0 dX11_measured_g3.2.2.2.2.2.2.2.2.2.1 rfl rfl ?_
            refine cg_wo_things hE hm fk_X11_40 dX11_measured_g3.2.2.2.2.2.2.2.2.2.2.1 ?_
            refine r_aload_n hE 0 dX11_measured_g3.2.2.2.2.2.2.2.2.2.2.2.1 rfl rfl ?_
            refine cg_wo_arguments hE hm fk_X11_9 dX11_measured_g3.2.2.2.2.2.2.2.2.2.2.2.2.1 ?_
            refine r_iconst (v := (0 : Int32)) hE dX11_measured_g3.2.2.2.2.2.2.2.2.2.2.2.2.2.1 (by decide) ?_
            obtain ⟨hi, h⟩ := h
            refine cl_wo_arguments hE hm dX11_measured_g3.2.2.2.2.2.2.2.2.2.2.2.2.2.2.1 hi ?_
            refine r_aload_n hE 0 dX11_measured_g3.2.2.2.2.2.2.2.2.2.2.2.2.2.2.2 rfl rfl ?_
            refine cg_wo_arguments hE hm fk_X11_9 dX11_measured_g4.1 ?_
            refine r_iconst (v := (1 : Int32)) hE dX11_measured_g4.2.1 (by decide) ?_
            obtain ⟨hi, h⟩ := h
            refine cl_wo_arguments hE hm dX11_measured_g4.2.2.1 hi ?_
            refine c_callVi hE hm [.int (c_wo_arguments s5 (0 : Int32).toNatClampNeg), .int (c_wo_arguments s5 (1 : Int32).toNatClampNeg)] [] ck_X11_233 (cr_th hm rfl) (kc_th_alike h) (by decide) rfl rfl (Nat.le_of_ble_eq_true rfl) dX11_measured_g4.2.2.2.1 (fun s37 r38 h => ?_)
            refine c_callSl hE hm [.int r38] [] ck_X11_208 (kc_SX6_truth h) (by decide) rfl rfl (Nat.le_of_ble_eq_true rfl) dX11_measured_g4.2.2.2.2.1 (fun s39 r40 h => ?_)
            exact c_lret hE hm hF dX11_measured_g4.2.2.2.2.2.1 h
          · refine r_case (12 : Int32) h (fun q5 h => ?_) (fun q5 h => ?_)
            · refine r_tableAt (off := 147) hE (12 : Int32) 155 dX11_measured_g0.2.2.2.2.1 q5 (by decide) (by decide) (by decide) (by decide) ?_
              refine r_aload_n hE 0 dX11_measured_g4.2.2.2.2.2.2.1 rfl rfl ?_
              refine cg_wo_reckoner hE hm fk_X11_36 dX11_measured_g4.2.2.2.2.2.2.2.1 ?_
              refine r_aload_n hE 0 dX11_measured_g4.2.2.2.2.2.2.2.2.1 rfl rfl ?_
              refine r_iconst (v := (0 : Int32)) hE dX11_measured_g4.2.2.2.2.2.2.2.2.2.1 (by decide) ?_
              refine r_iconst (v := (0 : Int32)) hE dX11_measured_g4.2.2.2.2.2.2.2.2.2.2.1 (by decide) ?_
              refine c_callVl hE hm [.int (0 : Int32), .int (0 : Int32)] [.ref (G.1 800)] ck_X11_126 (cr_wo hm rfl) (kc_wo_given h) (by decide) rfl rfl (Nat.le_of_ble_eq_true rfl) dX11_measured_g4.2.2.2.2.2.2.2.2.2.2.2.1 (fun s41 r42 h => ?_)
              refine r_aload_n hE 0 dX11_measured_g4.2.2.2.2.2.2.2.2.2.2.2.2.1 rfl rfl ?_
              refine r_iconst (v := (1 : Int32)) hE dX11_measured_g4.2.2.2.2.2.2.2.2.2.2.2.2.2.1 (by decide) ?_
              refine r_iconst (v := (1 : Int32)) hE dX11_measured_g4.2.2.2.2.2.2.2.2.2.2.2.2.2.2.1 (by decide) ?_
              refine c_callVl hE hm [.int (1 : Int32), .int (1 : Int32)] [.long r42, .ref (G.1 800)] ck_X11_126 (cr_wo hm rfl) (kc_wo_given h) (by decide) rfl rfl (Nat.le_of_ble_eq_true rfl) dX11_measured_g4.2.2.2.2.2.2.2.2.2.2.2.2.2.2.2 (fun s43 r44 h => ?_)
              refine c_callVl hE hm [.long r42, .long r44] [] ck_X11_236 (cr_rk hm rfl) (kc_rk_times h) (by decide) rfl rfl (Nat.le_of_ble_eq_true rfl) dX11_measured_g5.1 (fun s45 r46 h => ?_)
              refine r_aload_n hE 0 dX11_measured_g5.2.1 rfl rfl ?_
              refine cg_wo_reckoner hE hm fk_X11_36 dX11_measured_g5.2.2.1 ?_
              refine r_aload_n hE 0 dX11_measured_g5.2.2.2.1 rfl rfl ?_
              refine r_iconst (v := (1 : Int32)) hE dX11_measured_g5.2.2.2.2.1 (by decide) ?_
              refine r_iconst (v := (0 : Int32)) hE dX11_measured_g5.2.2.2.2.2.1 (by decide) ?_
              refine c_callVl hE hm [.int (1 : Int32), .int (0 : Int32)] [.ref (G.1 800), .long r46] ck_X11_126 (cr_wo hm rfl) (kc_wo_given h) (by decide) rfl rfl (Nat.le_of_ble_eq_true rfl) dX11_measured_g5.2.2.2.2.2.2.1 (fun s47 r48 h => ?_)
              refine r_aload_n hE 0 dX11_measured_g5.2.2.2.2.2.2.2.1 rfl rfl ?_
              refine r_iconst (v := (0 : Int32)) hE dX11_measured_g5.2.2.2.2.2.2.2.2.1 (by decide) ?_
              refine r_iconst (v := (1 : Int32)) hE dX11_measured_g5.2.2.2.2.2.2.2.2.2.1 (by decide) ?_
              refine c_callVl hE hm [.int (0 : Int32), .int (1 : Int32)] [.long r48, .ref (G.1 800), .long r46] ck_X11_126 (cr_wo hm rfl) (kc_wo_given h) (by decide) rfl rfl (Nat.le_of_ble_eq_true rfl) dX11_measured_g5.2.2.2.2.2.2.2.2.2.2.1 (fun s49 r50 h => ?_)
              refine c_callVl hE hm [.long r48, .long r50] [.long r46] ck_X11_236 (cr_rk hm rfl) (kc_rk_times h) (by decide) rfl rfl (Nat.le_of_ble_eq_true rfl) dX11_measured_g5.2.2.2.2.2.2.2.2.2.2.2.1 (fun s51 r52 h => ?_)
              refine r_lcmp hE dX11_measured_g5.2.2.2.2.2.2.2.2.2.2.2.2.1 ?_
              refine r_if_ne hE 201 dX11_measured_g5.2.2.2.2.2.2.2.2.2.2.2.2.2.1 (by decide) h (fun h => ?_) (fun h => ?_)
              · refine r_iconst (v := (0 : Int32)) hE dX11_measured_g6.1 (by decide) ?_
                refine r_pick [] rfl ?_
                exact kc_wo_measured_t_202 hE hm hF _ _ h
              · refine r_iconst (v := (1 : Int32)) hE dX11_measured_g5.2.2.2.2.2.2.2.2.2.2.2.2.2.2.1 (by decide) ?_
                refine r_goto hE 202 dX11_measured_g5.2.2.2.2.2.2.2.2.2.2.2.2.2.2.2 (by decide) ?_
                refine r_pick [] rfl ?_
                exact kc_wo_measured_t_202 hE hm hF _ _ h
            · have n0 := lv_neT q0 (show (7 : Int32).toInt = 7 by decide)
              have n1 := lv_neT q1 (show (8 : Int32).toInt = 8 by decide)
              have n2 := lv_neT q2 (show (9 : Int32).toInt = 9 by decide)
              have n3 := lv_neT q3 (show (10 : Int32).toInt = 10 by decide)
              have n4 := lv_neT q4 (show (11 : Int32).toInt = 11 by decide)
              have n5 := lv_neT q5 (show (12 : Int32).toInt = 12 by decide)
              refine r_tableOut hE 206 dX11_measured_g0.2.2.2.2.1 (by omega) (by decide) ?_
              refine r_aload_n hE 0 dX11_measured_g6.2.2.2.1 rfl rfl ?_
              refine cg_wo_reckoner hE hm fk_X11_36 dX11_measured_g6.2.2.2.2.1 ?_
              refine r_aload_n hE 0 dX11_measured_g6.2.2.2.2.2.1 rfl rfl ?_
              refine cg_wo_reckoner hE hm fk_X11_36 dX11_measured_g6.2.2.2.2.2.2.1 ?_
              refine r_aload_n hE 0 dX11_measured_g6.2.2.2.2.2.2.2.1 rfl rfl ?_
              refine r_iconst (v := (0 : Int32)) hE dX11_measured_g6.2.2.2.2.2.2.2.2.1 (by decide) ?_
              refine r_iconst (v := (0 : Int32)) hE dX11_measured_g6.2.2.2.2.2.2.2.2.2.1 (by decide) ?_
              refine c_callVl hE hm [.int (0 : Int32), .int (0 : Int32)] [.ref (G.1 800), .ref (G.1 800)] ck_X11_126 (cr_wo hm rfl) (kc_wo_given h) (by decide) rfl rfl (Nat.le_of_ble_eq_true rfl) dX11_measured_g6.2.2.2.2.2.2.2.2.2.2.1 (fun s53 r54 h => ?_)
              refine r_aload_n hE 0 dX11_measured_g6.2.2.2.2.2.2.2.2.2.2.2.1 rfl rfl ?_
              refine r_iconst (v := (1 : Int32)) hE dX11_measured_g6.2.2.2.2.2.2.2.2.2.2.2.2.1 (by decide) ?_
              refine r_iconst (v := (0 : Int32)) hE dX11_measured_g6.2.2.2.2.2.2.2.2.2.2.2.2.2.1 (by decide) ?_
              refine c_callVl hE hm [.int (1 : Int32), .int (0 : Int32)] [.long r54, .ref (G.1 800), .ref (G.1 800)] ck_X11_126 (cr_wo hm rfl) (kc_wo_given h) (by decide) rfl rfl (Nat.le_of_ble_eq_true rfl) dX11_measured_g6.2.2.2.2.2.2.2.2.2.2.2.2.2.2.1 (fun s55 r56 h => ?_)
              refine c_callVl hE hm [.long r54, .long r56] [.ref (G.1 800)] ck_X11_236 (cr_rk hm rfl) (kc_rk_times h) (by decide) rfl rfl (Nat.le_of_ble_eq_true rfl) dX11_measured_g6.2.2.2.2.2.2.2.2.2.2.2.2.2.2.2 (fun s57 r58 h => ?_)
              refine r_aload_n hE 0 dX11_measured_g7.1 rfl rfl ?_
              refine cg_wo_reckoner hE hm fk_X11_36 dX11_measured_g7.2.1 ?_
              refine r_aload_n hE 0 dX11_measured_g7.2.2.1 rfl rfl ?_
              refine r_iconst (v := (0 : Int32)) hE dX11_measured_g7.2.2.2.1 (by decide) ?_
              refine r_iconst (v := (1 : Int32)) hE dX11_measured_g7.2.2.2.2.1 (by decide) ?_
              refine c_callVl hE hm [.int (0 : Int32), .int (1 : Int32)] [.ref (G.1 800), .long r58, .ref (G.1 800)] ck_X11_126 (cr_wo hm rfl) (kc_wo_given h) (by decide) rfl rfl (Nat.le_of_ble_eq_true rfl) dX11_measured_g7.2.2.2.2.2.1 (fun s59 r60 h => ?_)
              refine r_aload_n hE 0 dX11_measured_g7.2.2.2.2.2.2.1 rfl rfl ?_
              refine r_iconst (v := (1 : Int32)) hE dX11_measured_g7.2.2.2.2.2.2.2.1 (by decide) ?_
              refine r_iconst (v := (1 : Int32)) hE dX11_measured_g7.2.2.2.2.2.2.2.2.1 (by decide) ?_
              refine c_callVl hE hm [.int (1 : Int32), .int (1 : Int32)] [.long r60, .ref (G.1 800), .long r58, .ref (G.1 800)] ck_X11_126 (cr_wo hm rfl) (kc_wo_given h) (by decide) rfl rfl (Nat.le_of_ble_eq_true rfl) dX11_measured_g7.2.2.2.2.2.2.2.2.2.1 (fun s61 r62 h => ?_)
              refine c_callVl hE hm [.long r60, .long r62] [.long r58, .ref (G.1 800)] ck_X11_236 (cr_rk hm rfl) (kc_rk_times h) (by decide) rfl rfl (Nat.le_of_ble_eq_true rfl) dX11_measured_g7.2.2.2.2.2.2.2.2.2.2.1 (fun s63 r64 h => ?_)
              refine c_callVl hE hm [.long r58, .long r64] [] ck_X11_239 (cr_rk hm rfl) (kc_rk_plus h) (by decide) rfl rfl (Nat.le_of_ble_eq_true rfl) dX11_measured_g7.2.2.2.2.2.2.2.2.2.2.2.1 (fun s65 r66 h => ?_)
              refine r_lconst (v := (1 : Int64)) hE dX11_measured_g7.2.2.2.2.2.2.2.2.2.2.2.2.1 (by decide) ?_
              refine r_lcmp hE dX11_measured_g7.2.2.2.2.2.2.2.2.2.2.2.2.2.1 ?_
              refine r_if_ne hE 260 dX11_measured_g7.2.2.2.2.2.2.2.2.2.2.2.2.2.2.1 (by decide) h (fun h => ?_) (fun h => ?_)
              · refine r_iconst (v := (0 : Int32)) hE dX11_measured_g8.2.1 (by decide) ?_
                refine r_pick [] rfl ?_
                exact kc_wo_measured_t_261 hE hm hF _ _ h
              · refine r_iconst (v := (1 : Int32)) hE dX11_measured_g7.2.2.2.2.2.2.2.2.2.2.2.2.2.2.2 (by decide) ?_
                refine r_goto hE 261 dX11_measured_g8.1 (by decide) ?_
                refine r_pick [] rfl ?_
                exact kc_wo_measured_t_261 hE hm hF _ _ h
/-! th_add -/
def wc_th_add (post : CS → Int32 → Prop) (σ : CS) (a1 : Int32) (a2 : Int32) : Prop := wc_SX12_inside (fun (s1 : CS) (r2 : Int32) => ((¬ (r2 = (0 : Int32))) → (vp_in (c_th_many s1) 400 ∧ (∀ s3 : CS, s3 = c_th_kinds_s s1 (c_th_many s1).toNatClampNeg a1 → vp_in (c_th_many s3) 400 ∧ (∀ s4 : CS, s4 = c_th_leaning_s s3 (c_th_many s3).toNatClampNeg a2 → ∀ s5 : CS, s5 = c_th_many_s s4 ((c_th_many s4) + (1 : Int32)) → post s5 ((c_th_many s5) - (1 : Int32)))))) ∧ ((r2 = (0 : Int32)) → (post s1 (-1 : Int32)))) σ (c_th_many σ) (400 : Int32)
set_option maxRecDepth 20000 in
theorem kc_th_add {l : Launch} {D : va_G} {G : gAd} {post : CS → Int32 → Prop} {σ : CS} {a1 : Int32} {a2 : Int32} (h : wc_th_add post σ a1 a2) : cMet l D G yX8_add cX8_add 3 (some .int) 2 [.ref (G.1 900), .int a1, .int a2] σ (pI post) := by
  unfold wc_th_add at h
  refine c_enter (own := RX8) (by decide +kernel) rfl [(0, .ref (G.1 900)), (1, .int a1), (2, .int a2)] rfl (Nat.le_of_ble_eq_true rfl) ?_
  intro E hE hm hF
  have hN := hm.2.2.2.2.2.2.1
  refine r_aload_n hE 0 dX8_add_g0.1 rfl rfl ?_
  refine cg_th_many hE hm fk_X8_25 dX8_add_g0.2.1 ?_
  refine r_sipush (v := (400 : Int32)) hE dX8_add_g0.2.2.1 (by decide) ?_
  refine c_callSNi hE hm [.int (c_th_many σ), .int (400 : Int32)] [] ck_X8_29 cw_X8_29 (kc_SX12_inside h) (by decide) rfl rfl (Nat.le_of_ble_eq_true rfl) dX8_add_g0.2.2.2.1 (fun s1 r2 h => ?_)
  refine r_if_ne hE 15 dX8_add_g0.2.2.2.2.1 (by decide) h (fun h => ?_) (fun h => ?_)
  · refine r_aload_n hE 0 dX8_add_g0.2.2.2.2.2.2.2.1 rfl rfl ?_
    refine cg_th_kinds hE hm fk_X8_9 dX8_add_g0.2.2.2.2.2.2.2.2.1 ?_
    refine r_aload_n hE 0 dX8_add_g0.2.2.2.2.2.2.2.2.2.1 rfl rfl ?_
    refine cg_th_many hE hm fk_X8_25 dX8_add_g0.2.2.2.2.2.2.2.2.2.2.1 ?_
    refine r_iload_n hE 1 dX8_add_g0.2.2.2.2.2.2.2.2.2.2.2.1 rfl rfl ?_
    obtain ⟨hi, h⟩ := h
    refine cs_th_kinds hE hm dX8_add_g0.2.2.2.2.2.2.2.2.2.2.2.2.1 hi h (fun s3 h => ?_)
    refine r_aload_n hE 0 dX8_add_g0.2.2.2.2.2.2.2.2.2.2.2.2.2.1 rfl rfl ?_
    refine cg_th_leaning hE hm fk_X8_15 dX8_add_g0.2.2.2.2.2.2.2.2.2.2.2.2.2.2.1 ?_
    refine r_aload_n hE 0 dX8_add_g0.2.2.2.2.2.2.2.2.2.2.2.2.2.2.2 rfl rfl ?_
    refine cg_th_many hE hm fk_X8_25 dX8_add_g1.1 ?_
    refine r_iload_n hE 2 dX8_add_g1.2.1 rfl rfl ?_
    obtain ⟨hi, h⟩ := h
    refine cs_th_leaning hE hm dX8_add_g1.2.2.1 hi h (fun s4 h => ?_)
    refine r_aload_n hE 0 dX8_add_g1.2.2.2.1 rfl rfl ?_
    refine r_dup hE dX8_add_g1.2.2.2.2.1 rfl ?_
    refine cg_th_many hE hm fk_X8_25 dX8_add_g1.2.2.2.2.2.1 ?_
    refine r_iconst (v := (1 : Int32)) hE dX8_add_g1.2.2.2.2.2.2.1 (by decide) ?_
    refine r_iadd hE dX8_add_g1.2.2.2.2.2.2.2.1 ?_
    refine cp_th_many hE hm fk_X8_25 dX8_add_g1.2.2.2.2.2.2.2.2.1 h (fun s5 h => ?_)
    refine r_aload_n hE 0 dX8_add_g1.2.2.2.2.2.2.2.2.2.1 rfl rfl ?_
    refine cg_th_many hE hm fk_X8_25 dX8_add_g1.2.2.2.2.2.2.2.2.2.2.1 ?_
    refine r_iconst (v := (1 : Int32)) hE dX8_add_g1.2.2.2.2.2.2.2.2.2.2.2.1 (by decide) ?_
    refine r_isub hE dX8_add_g1.2.2.2.2.2.2.2.2.2.2.2.2.1 ?_
    exact c_iret hE hm hF dX8_add_g1.2.2.2.2.2.2.2.2.2.2.2.2.2 h
  · refine r_iconst (v := (-1 : Int32)) hE dX8_add_g0.2.2.2.2.2.1 (by decide) ?_
    exact c_iret hE hm hF dX8_add_g0.2.2.2.2.2.2.1 h
/-! th_setPart -/
def wc_th_setPart (post : CS → Prop) (σ : CS) (a1 : Int32) (a2 : Int32) (a3 : Int64) : Prop := wc_SX12_inside (fun (s1 : CS) (r2 : Int32) => ((r2 = (0 : Int32)) → (post s1)) ∧ ((¬ (r2 = (0 : Int32))) → (wc_SX12_inside (fun (s3 : CS) (r4 : Int32) => ((r4 = (0 : Int32)) → (post s3)) ∧ ((¬ (r4 = (0 : Int32))) → (vp_in ((a1 * (7 : Int32)) + a2) 2800 ∧ (∀ s5 : CS, s5 = c_th_parts_s s3 ((a1 * (7 : Int32)) + a2).toNatClampNeg a3 → post s5)))) s1 a2 (7 : Int32)))) σ a1 (c_th_many σ)
set_option maxRecDepth 20000 in
theorem kc_th_setPart {l : Launch} {D : va_G} {G : gAd} {post : CS → Prop} {σ : CS} {a1 : Int32} {a2 : Int32} {a3 : Int64} (h : wc_th_setPart post σ a1 a2 a3) : cMet l D G yX8_setPart cX8_setPart 5 none 2 [.ref (G.1 900), .int a1, .int a2, .long a3] σ (pV post) := by
  unfold wc_th_setPart at h
  refine c_enter (own := RX8) (by decide +kernel) rfl [(0, .ref (G.1 900)), (1, .int a1), (2, .int a2), (3, .long a3)] rfl (Nat.le_of_ble_eq_true rfl) ?_
  intro E hE hm hF
  have hN := hm.2.2.2.2.2.2.1
  refine r_iload_n hE 1 dX8_setPart_g0.1 rfl rfl ?_
  refine r_aload_n hE 0 dX8_setPart_g0.2.1 rfl rfl ?_
  refine cg_th_many hE hm fk_X8_25 dX8_setPart_g0.2.2.1 ?_
  refine c_callSNi hE hm [.int a1, .int (c_th_many σ)] [] ck_X8_29 cw_X8_29 (kc_SX12_inside h) (by decide) rfl rfl (Nat.le_of_ble_eq_true rfl) dX8_setPart_g0.2.2.2.1 (fun s1 r2 h => ?_)
  refine r_if_eq hE 32 dX8_setPart_g0.2.2.2.2.1 (by decide) h (fun h => ?_) (fun h => ?_)
  · exact c_vret hE hm hF dX8_setPart_g1.2.2 h
  · refine r_iload_n hE 2 dX8_setPart_g0.2.2.2.2.2.1 rfl rfl ?_
    refine r_bipush (v := (7 : Int32)) hE dX8_setPart_g0.2.2.2.2.2.2.1 (by decide) ?_
    refine c_callSNi hE hm [.int a2, .int (7 : Int32)] [] ck_X8_29 cw_X8_29 (kc_SX12_inside h) (by decide) rfl rfl (Nat.le_of_ble_eq_true rfl) dX8_setPart_g0.2.2.2.2.2.2.2.1 (fun s3 r4 h => ?_)
    refine r_if_eq hE 32 dX8_setPart_g0.2.2.2.2.2.2.2.2.1 (by decide) h (fun h => ?_) (fun h => ?_)
    · exact c_vret hE hm hF dX8_setPart_g1.2.2 h
    · refine r_aload_n hE 0 dX8_setPart_g0.2.2.2.2.2.2.2.2.2.1 rfl rfl ?_
      refine cg_th_parts hE hm fk_X8_18 dX8_setPart_g0.2.2.2.2.2.2.2.2.2.2.1 ?_
      refine r_iload_n hE 1 dX8_setPart_g0.2.2.2.2.2.2.2.2.2.2.2.1 rfl rfl ?_
      refine r_bipush (v := (7 : Int32)) hE dX8_setPart_g0.2.2.2.2.2.2.2.2.2.2.2.2.1 (by decide) ?_
      refine r_imul hE dX8_setPart_g0.2.2.2.2.2.2.2.2.2.2.2.2.2.1 ?_
      refine r_iload_n hE 2 dX8_setPart_g0.2.2.2.2.2.2.2.2.2.2.2.2.2.2.1 rfl rfl ?_
      refine r_iadd hE dX8_setPart_g0.2.2.2.2.2.2.2.2.2.2.2.2.2.2.2 ?_
      refine r_lload_n hE 3 dX8_setPart_g1.1 rfl rfl ?_
      obtain ⟨hi, h⟩ := h
      refine cs_th_parts hE hm dX8_setPart_g1.2.1 hi h (fun s5 h => ?_)
      exact c_vret hE hm hF dX8_setPart_g1.2.2 h
/-! wo_newPoint -/
def wc_wo_newPoint (post : CS → Int32 → Prop) (σ : CS) (a1 : Int32) (a2 : Int32) : Prop := (((c_rk_failure σ) = (0 : Int32)) → (wc_th_add (fun (s1 : CS) (r2 : Int32) => wc_th_setPart (fun (s3 : CS) => wc_th_setPart (fun (s4 : CS) => post s4 r2) s3 r2 (1 : Int32) (c_wo_y s3)) s1 r2 (0 : Int32) (c_wo_x s1)) σ a1 a2)) ∧ ((¬ ((c_rk_failure σ) = (0 : Int32))) → (post σ (-1 : Int32)))
set_option maxRecDepth 20000 in
theorem kc_wo_newPoint {l : Launch} {D : va_G} {G : gAd} {post : CS → Int32 → Prop} {σ : CS} {a1 : Int32} {a2 : Int32} (h : wc_wo_newPoint post σ a1 a2) : cMet l D G yX11_newPoint cX11_newPoint 4 (some .int) 3 [.ref (G.1 1300), .int a1, .int a2] σ (pI post) := by
  unfold wc_wo_newPoint at h
  refine c_enter (own := RX11) (by decide +kernel) rfl [(0, .ref (G.1 1300)), (1, .int a1), (2, .int a2)] rfl (Nat.le_of_ble_eq_true rfl) ?_
  intro E hE hm hF
  have hN := hm.2.2.2.2.2.2.1
  refine r_aload_n hE 0 dX11_newPoint_g0.1 rfl rfl ?_
  refine cg_wo_reckoner hE hm fk_X11_36 dX11_newPoint_g0.2.1 ?_
  refine cg_rk_failure hE hm fk_X11_65 dX11_newPoint_g0.2.2.1 ?_
  refine r_if_eq hE 12 dX11_newPoint_g0.2.2.2.1 (by decide) h (fun h => ?_) (fun h => ?_)
  · refine r_aload_n hE 0 dX11_newPoint_g0.2.2.2.2.2.2.1 rfl rfl ?_
    refine cg_wo_things hE hm fk_X11_40 dX11_newPoint_g0.2.2.2.2.2.2.2.1 ?_
    refine r_iload_n hE 1 dX11_newPoint_g0.2.2.2.2.2.2.2.2.1 rfl rfl ?_
    refine r_iload_n hE 2 dX11_newPoint_g0.2.2.2.2.2.2.2.2.2.1 rfl rfl ?_
    refine c_callVi hE hm [.int a1, .int a2] [] ck_X11_149 (cr_th hm rfl) (kc_th_add h) (by decide) rfl rfl (Nat.le_of_ble_eq_true rfl) dX11_newPoint_g0.2.2.2.2.2.2.2.2.2.2.1 (fun s1 r2 h => ?_)
    refine r_istore_n hE [(3, .int r2), (0, .ref (G.1 1300)), (1, .int a1), (2, .int a2)] dX11_newPoint_g0.2.2.2.2.2.2.2.2.2.2.2.1 rfl hN (by decide) rfl ?_
    refine r_aload_n hE 1 dX11_newPoint_g0.2.2.2.2.2.2.2.2.2.2.2.2.1 rfl rfl ?_
    refine cg_wo_things hE hm fk_X11_40 dX11_newPoint_g0.2.2.2.2.2.2.2.2.2.2.2.2.2.1 ?_
    refine r_iload_n hE 0 dX11_newPoint_g0.2.2.2.2.2.2.2.2.2.2.2.2.2.2.1 rfl rfl ?_
    refine r_iconst (v := (0 : Int32)) hE dX11_newPoint_g0.2.2.2.2.2.2.2.2.2.2.2.2.2.2.2 (by decide) ?_
    refine r_aload_n hE 1 dX11_newPoint_g1.1 rfl rfl ?_
    refine cg_wo_x hE hm fk_X11_17 dX11_newPoint_g1.2.1 ?_
    refine c_callVv hE hm [.int r2, .int (0 : Int32), .long (c_wo_x s1)] [] ck_X11_152 (cr_th hm rfl) (kc_th_setPart h) (by decide) rfl rfl (Nat.le_of_ble_eq_true rfl) dX11_newPoint_g1.2.2.1 (fun s3 h => ?_)
    refine r_aload_n hE 1 dX11_newPoint_g1.2.2.2.1 rfl rfl ?_
    refine cg_wo_things hE hm fk_X11_40 dX11_newPoint_g1.2.2.2.2.1 ?_
    refine r_iload_n hE 0 dX11_newPoint_g1.2.2.2.2.2.1 rfl rfl ?_
    refine r_iconst (v := (1 : Int32)) hE dX11_newPoint_g1.2.2.2.2.2.2.1 (by decide) ?_
    refine r_aload_n hE 1 dX11_newPoint_g1.2.2.2.2.2.2.2.1 rfl rfl ?_
    refine cg_wo_y hE hm fk_X11_21 dX11_newPoint_g1.2.2.2.2.2.2.2.2.1 ?_
    refine c_callVv hE hm [.int r2, .int (1 : Int32), .long (c_wo_y s3)] [] ck_X11_152 (cr_th hm rfl) (kc_th_setPart h) (by decide) rfl rfl (Nat.le_of_ble_eq_true rfl) dX11_newPoint_g1.2.2.2.2.2.2.2.2.2.1 (fun s4 h => ?_)
    refine r_iload_n hE 0 dX11_newPoint_g1.2.2.2.2.2.2.2.2.2.2.1 rfl rfl ?_
    exact c_iret hE hm hF dX11_newPoint_g1.2.2.2.2.2.2.2.2.2.2.2 h
  · refine r_iconst (v := (-1 : Int32)) hE dX11_newPoint_g0.2.2.2.2.1 (by decide) ?_
    exact c_iret hE hm hF dX11_newPoint_g0.2.2.2.2.2.1 h
/-! wo_newCircle -/
def wc_wo_newCircle (post : CS → Int32 → Prop) (σ : CS) (a1 : Int32) : Prop := wc_wo_newPoint (fun (s1 : CS) (r2 : Int32) => wc_th_setPart (fun (s3 : CS) => post s3 r2) s1 r2 (2 : Int32) (c_wo_square s1)) σ (5 : Int32) a1
set_option maxRecDepth 20000 in
theorem kc_wo_newCircle {l : Launch} {D : va_G} {G : gAd} {post : CS → Int32 → Prop} {σ : CS} {a1 : Int32} (h : wc_wo_newCircle post σ a1) : cMet l D G yX11_newCircle cX11_newCircle 3 (some .int) 4 [.ref (G.1 1300), .int a1] σ (pI post) := by
  unfold wc_wo_newCircle at h
  refine c_enter (own := RX11) (by decide +kernel) rfl [(0, .ref (G.1 1300)), (1, .int a1)] rfl (Nat.le_of_ble_eq_true rfl) ?_
  intro E hE hm hF
  have hN := hm.2.2.2.2.2.2.1
  refine r_aload_n hE 0 dX11_newCircle_g0.1 rfl rfl ?_
  refine r_iconst (v := (5 : Int32)) hE dX11_newCircle_g0.2.1 (by decide) ?_
  refine r_iload_n hE 1 dX11_newCircle_g0.2.2.1 rfl rfl ?_
  refine c_callVi hE hm [.int (5 : Int32), .int a1] [] ck_X11_115 (cr_wo hm rfl) (kc_wo_newPoint h) (by decide) rfl rfl (Nat.le_of_ble_eq_true rfl) dX11_newCircle_g0.2.2.2.1 (fun s1 r2 h => ?_)
  refine r_istore_n hE [(2, .int r2), (0, .ref (G.1 1300)), (1, .int a1)] dX11_newCircle_g0.2.2.2.2.1 rfl hN (by decide) rfl ?_
  refine r_aload_n hE 1 dX11_newCircle_g0.2.2.2.2.2.1 rfl rfl ?_
  refine cg_wo_things hE hm fk_X11_40 dX11_newCircle_g0.2.2.2.2.2.2.1 ?_
  refine r_iload_n hE 0 dX11_newCircle_g0.2.2.2.2.2.2.2.1 rfl rfl ?_
  refine r_iconst (v := (2 : Int32)) hE dX11_newCircle_g0.2.2.2.2.2.2.2.2.1 (by decide) ?_
  refine r_aload_n hE 1 dX11_newCircle_g0.2.2.2.2.2.2.2.2.2.1 rfl rfl ?_
  refine cg_wo_square hE hm fk_X11_33 dX11_newCircle_g0.2.2.2.2.2.2.2.2.2.2.1 ?_
  refine c_callVv hE hm [.int r2, .int (2 : Int32), .long (c_wo_square s1)] [] ck_X11_152 (cr_th hm rfl) (kc_th_setPart h) (by decide) rfl rfl (Nat.le_of_ble_eq_true rfl) dX11_newCircle_g0.2.2.2.2.2.2.2.2.2.2.2.1 (fun s3 h => ?_)
  refine r_iload_n hE 0 dX11_newCircle_g0.2.2.2.2.2.2.2.2.2.2.2.2.1 rfl rfl ?_
  exact c_iret hE hm hF dX11_newCircle_g0.2.2.2.2.2.2.2.2.2.2.2.2.2 h
/-! fr_come -/
def wc_fr_come (post : CS → Prop) (σ : CS) (a1 : Int32) : Prop := wc_SX12_inside (fun (s1 : CS) (r2 : Int32) => ((r2 = (0 : Int32)) → (post s1)) ∧ ((¬ (r2 = (0 : Int32))) → (vp_in (c_fr_came s1) 12 ∧ (∀ s3 : CS, s3 = c_fr_thing_s s1 (c_fr_came s1).toNatClampNeg a1 → ∀ s4 : CS, s4 = c_fr_came_s s3 ((c_fr_came s3) + (1 : Int32)) → post s4)))) σ (c_fr_came σ) (12 : Int32)
set_option maxRecDepth 20000 in
theorem kc_fr_come {l : Launch} {D : va_G} {G : gAd} {post : CS → Prop} {σ : CS} {a1 : Int32} (h : wc_fr_come post σ a1) : cMet l D G yX2_come cX2_come 2 none 2 [.ref (G.1 1000), .int a1] σ (pV post) := by
  unfold wc_fr_come at h
  refine c_enter (own := RX2) (by decide +kernel) rfl [(0, .ref (G.1 1000)), (1, .int a1)] rfl (Nat.le_of_ble_eq_true rfl) ?_
  intro E hE hm hF
  have hN := hm.2.2.2.2.2.2.1
  refine r_aload_n hE 0 dX2_come_g0.1 rfl rfl ?_
  refine cg_fr_came hE hm fk_X2_35 dX2_come_g0.2.1 ?_
  refine r_bipush (v := (12 : Int32)) hE dX2_come_g0.2.2.1 (by decide) ?_
  refine c_callSNi hE hm [.int (c_fr_came σ), .int (12 : Int32)] [] ck_X2_39 cw_X2_39 (kc_SX12_inside h) (by decide) rfl rfl (Nat.le_of_ble_eq_true rfl) dX2_come_g0.2.2.2.1 (fun s1 r2 h => ?_)
  refine r_if_eq hE 32 dX2_come_g0.2.2.2.2.1 (by decide) h (fun h => ?_) (fun h => ?_)
  · exact c_vret hE hm hF dX2_come_g1.2 h
  · refine r_aload_n hE 0 dX2_come_g0.2.2.2.2.2.1 rfl rfl ?_
    refine cg_fr_thing hE hm fk_X2_31 dX2_come_g0.2.2.2.2.2.2.1 ?_
    refine r_aload_n hE 0 dX2_come_g0.2.2.2.2.2.2.2.1 rfl rfl ?_
    refine cg_fr_came hE hm fk_X2_35 dX2_come_g0.2.2.2.2.2.2.2.2.1 ?_
    refine r_iload_n hE 1 dX2_come_g0.2.2.2.2.2.2.2.2.2.1 rfl rfl ?_
    obtain ⟨hi, h⟩ := h
    refine cs_fr_thing hE hm dX2_come_g0.2.2.2.2.2.2.2.2.2.2.1 hi h (fun s3 h => ?_)
    refine r_aload_n hE 0 dX2_come_g0.2.2.2.2.2.2.2.2.2.2.2.1 rfl rfl ?_
    refine r_dup hE dX2_come_g0.2.2.2.2.2.2.2.2.2.2.2.2.1 rfl ?_
    refine cg_fr_came hE hm fk_X2_35 dX2_come_g0.2.2.2.2.2.2.2.2.2.2.2.2.2.1 ?_
    refine r_iconst (v := (1 : Int32)) hE dX2_come_g0.2.2.2.2.2.2.2.2.2.2.2.2.2.2.1 (by decide) ?_
    refine r_iadd hE dX2_come_g0.2.2.2.2.2.2.2.2.2.2.2.2.2.2.2 ?_
    refine cp_fr_came hE hm fk_X2_35 dX2_come_g1.1 h (fun s4 h => ?_)
    exact c_vret hE hm hF dX2_come_g1.2 h
/-! fr_xOf -/
def wc_fr_xOf (post : CS → Int64 → Prop) (σ : CS) (a1 : Int32) : Prop := wc_SX12_inside (fun (s1 : CS) (r2 : Int32) => ((r2 = (0 : Int32)) → (post s1 (1 : Int64))) ∧ ((¬ (r2 = (0 : Int32))) → (vp_in a1 12 ∧ (post s1 (c_fr_toX s1 a1.toNatClampNeg))))) σ a1 (12 : Int32)
set_option maxRecDepth 20000 in
theorem kc_fr_xOf {l : Launch} {D : va_G} {G : gAd} {post : CS → Int64 → Prop} {σ : CS} {a1 : Int32} (h : wc_fr_xOf post σ a1) : cMet l D G yX2_xOf cX2_xOf 2 (some .long) 2 [.ref (G.1 1000), .int a1] σ (pL post) := by
  unfold wc_fr_xOf at h
  refine c_enter (own := RX2) (by decide +kernel) rfl [(0, .ref (G.1 1000)), (1, .int a1)] rfl (Nat.le_of_ble_eq_true rfl) ?_
  intro E hE hm hF
  have hN := hm.2.2.2.2.2.2.1
  refine r_iload_n hE 1 dX2_xOf_g0.1 rfl rfl ?_
  refine r_bipush (v := (12 : Int32)) hE dX2_xOf_g0.2.1 (by decide) ?_
  refine c_callSNi hE hm [.int a1, .int (12 : Int32)] [] ck_X2_39 cw_X2_39 (kc_SX12_inside h) (by decide) rfl rfl (Nat.le_of_ble_eq_true rfl) dX2_xOf_g0.2.2.1 (fun s1 r2 h => ?_)
  refine r_if_eq hE 18 dX2_xOf_g0.2.2.2.1 (by decide) h (fun h => ?_) (fun h => ?_)
  · refine r_lconst (v := (1 : Int64)) hE dX2_xOf_g0.2.2.2.2.2.2.2.2.2.1 (by decide) ?_
    exact c_lret hE hm hF dX2_xOf_g0.2.2.2.2.2.2.2.2.2.2 h
  · refine r_aload_n hE 0 dX2_xOf_g0.2.2.2.2.1 rfl rfl ?_
    refine cg_fr_toX hE hm fk_X2_15 dX2_xOf_g0.2.2.2.2.2.1 ?_
    refine r_iload_n hE 1 dX2_xOf_g0.2.2.2.2.2.2.1 rfl rfl ?_
    obtain ⟨hi, h⟩ := h
    refine cl_fr_toX hE hm dX2_xOf_g0.2.2.2.2.2.2.2.1 hi ?_
    refine r_goto hE 19 dX2_xOf_g0.2.2.2.2.2.2.2.2.1 (by decide) ?_
    exact c_lret hE hm hF dX2_xOf_g0.2.2.2.2.2.2.2.2.2.2 h
/-! fr_yOf -/
def wc_fr_yOf (post : CS → Int64 → Prop) (σ : CS) (a1 : Int32) : Prop := wc_SX12_inside (fun (s1 : CS) (r2 : Int32) => ((r2 = (0 : Int32)) → (post s1 (1 : Int64))) ∧ ((¬ (r2 = (0 : Int32))) → (vp_in a1 12 ∧ (post s1 (c_fr_toY s1 a1.toNatClampNeg))))) σ a1 (12 : Int32)
set_option maxRecDepth 20000 in
theorem kc_fr_yOf {l : Launch} {D : va_G} {G : gAd} {post : CS → Int64 → Prop} {σ : CS} {a1 : Int32} (h : wc_fr_yOf post σ a1) : cMet l D G yX2_yOf cX2_yOf 2 (some .long) 2 [.ref (G.1 1000), .int a1] σ (pL post) := by
  unfold wc_fr_yOf at h
  refine c_enter (own := RX2) (by decide +kernel) rfl [(0, .ref (G.1 1000)), (1, .int a1)] rfl (Nat.le_of_ble_eq_true rfl) ?_
  intro E hE hm hF
  have hN := hm.2.2.2.2.2.2.1
  refine r_iload_n hE 1 dX2_yOf_g0.1 rfl rfl ?_
  refine r_bipush (v := (12 : Int32)) hE dX2_yOf_g0.2.1 (by decide) ?_
  refine c_callSNi hE hm [.int a1, .int (12 : Int32)] [] ck_X2_39 cw_X2_39 (kc_SX12_inside h) (by decide) rfl rfl (Nat.le_of_ble_eq_true rfl) dX2_yOf_g0.2.2.1 (fun s1 r2 h => ?_)
  refine r_if_eq hE 18 dX2_yOf_g0.2.2.2.1 (by decide) h (fun h => ?_) (fun h => ?_)
  · refine r_lconst (v := (1 : Int64)) hE dX2_yOf_g0.2.2.2.2.2.2.2.2.2.1 (by decide) ?_
    exact c_lret hE hm hF dX2_yOf_g0.2.2.2.2.2.2.2.2.2.2 h
  · refine r_aload_n hE 0 dX2_yOf_g0.2.2.2.2.1 rfl rfl ?_
    refine cg_fr_toY hE hm fk_X2_19 dX2_yOf_g0.2.2.2.2.2.1 ?_
    refine r_iload_n hE 1 dX2_yOf_g0.2.2.2.2.2.2.1 rfl rfl ?_
    obtain ⟨hi, h⟩ := h
    refine cl_fr_toY hE hm dX2_yOf_g0.2.2.2.2.2.2.2.1 hi ?_
    refine r_goto hE 19 dX2_yOf_g0.2.2.2.2.2.2.2.2.1 (by decide) ?_
    exact c_lret hE hm hF dX2_yOf_g0.2.2.2.2.2.2.2.2.2.2 h
/-! wo_newFree -/
def wc_wo_newFree_101 (post : CS → Int32 → Prop) (σ : CS) (t1 : Int32) (t2 : Int32) : Prop := wc_wo_newPoint (fun (s1 : CS) (r2 : Int32) => wc_fr_come (fun (s3 : CS) => post s3 r2) s1 r2) σ t1 t2
set_option maxRecDepth 20000 in
theorem kc_wo_newFree_101  {E : gEnv} {l : Launch} {D : va_G} {G : gAd} {post : CS → Int32 → Prop} (hE : gOK E cX11_newFree RX11 (some .int) 4) (hm : cOK E l D G (pI post) 5) (hF : gFin E) (σ : CS) (t1 : Int32) (t2 : Int32) (h : wc_wo_newFree_101 post σ t1 t2) : GW E (cW G σ) 101 [(0, .ref (G.1 1300))] [.int t2, .int t1, .ref (G.1 1300)] := by
  unfold wc_wo_newFree_101 at h
  have hN := hm.2.2.2.2.2.2.1
  refine c_callVi hE hm [.int t1, .int t2] [] ck_X11_115 (cr_wo hm rfl) (kc_wo_newPoint h) (by decide) rfl rfl (Nat.le_of_ble_eq_true rfl) dX11_newFree_g3.2.2.2.2.2.2.2.2.2.1 (fun s1 r2 h => ?_)
  refine r_istore hE [(4, .int r2), (0, .ref (G.1 1300))] dX11_newFree_g3.2.2.2.2.2.2.2.2.2.2.1 hN (by decide) rfl ?_
  refine r_aload_n hE 1 dX11_newFree_g3.2.2.2.2.2.2.2.2.2.2.2.1 rfl rfl ?_
  refine cg_wo_frees hE hm fk_X11_44 dX11_newFree_g3.2.2.2.2.2.2.2.2.2.2.2.2.1 ?_
  refine r_iload hE 0 dX11_newFree_g3.2.2.2.2.2.2.2.2.2.2.2.2.2.1 rfl ?_
  refine c_callVv hE hm [.int r2] [] ck_X11_172 (cr_fr hm rfl) (kc_fr_come h) (by decide) rfl rfl (Nat.le_of_ble_eq_true rfl) dX11_newFree_g3.2.2.2.2.2.2.2.2.2.2.2.2.2.2.1 (fun s3 h => ?_)
  refine r_iload hE 0 dX11_newFree_g3.2.2.2.2.2.2.2.2.2.2.2.2.2.2.2 rfl ?_
  exact c_iret hE hm hF dX11_newFree_g4 h
def wc_wo_newFree_81 (post : CS → Int32 → Prop) (σ : CS) (v1 : Int32) (v2 : Int32) (v3 : Int32) (t1 : Int64) : Prop := ∀ s4 : CS, s4 = c_wo_y_s σ t1 → ((v3 = (0 : Int32)) → (wc_wo_newFree_101 post s4 (2 : Int32) (v1 ||| ((1 : Int32) <<< (v2 &&& 31))))) ∧ ((¬ (v3 = (0 : Int32))) → (wc_wo_newFree_101 post s4 (2 : Int32) ((1 : Int32) <<< (v2 &&& 31))))
set_option maxRecDepth 20000 in
theorem kc_wo_newFree_81  {E : gEnv} {l : Launch} {D : va_G} {G : gAd} {post : CS → Int32 → Prop} (hE : gOK E cX11_newFree RX11 (some .int) 4) (hm : cOK E l D G (pI post) 5) (hF : gFin E) (σ : CS) (v1 : Int32) (v2 : Int32) (v3 : Int32) (t1 : Int64) (h : wc_wo_newFree_81 post σ v1 v2 v3 t1) : GW E (cW G σ) 81 [(0, .ref (G.1 1300)), (1, .int v1), (2, .int v2), (3, .int v3)] [.long t1, .ref (G.1 1300)] := by
  unfold wc_wo_newFree_81 at h
  have hN := hm.2.2.2.2.2.2.1
  refine cp_wo_y hE hm fk_X11_21 dX11_newFree_g2.2.2.2.2.2.2.2.2.2.2.2.1 h (fun s4 h => ?_)
  refine r_aload_n hE 0 dX11_newFree_g2.2.2.2.2.2.2.2.2.2.2.2.2.1 rfl rfl ?_
  refine r_iconst (v := (2 : Int32)) hE dX11_newFree_g2.2.2.2.2.2.2.2.2.2.2.2.2.2.1 (by decide) ?_
  refine r_iload_n hE 3 dX11_newFree_g2.2.2.2.2.2.2.2.2.2.2.2.2.2.2.1 rfl rfl ?_
  refine r_if_eq hE 96 dX11_newFree_g2.2.2.2.2.2.2.2.2.2.2.2.2.2.2.2 (by decide) h (fun h => ?_) (fun h => ?_)
  · refine r_iload_n hE 1 dX11_newFree_g3.2.2.2.2.1 rfl rfl ?_
    refine r_iconst (v := (1 : Int32)) hE dX11_newFree_g3.2.2.2.2.2.1 (by decide) ?_
    refine r_iload_n hE 2 dX11_newFree_g3.2.2.2.2.2.2.1 rfl rfl ?_
    refine r_ishl hE dX11_newFree_g3.2.2.2.2.2.2.2.1 ?_
    refine r_ior hE dX11_newFree_g3.2.2.2.2.2.2.2.2.1 ?_
    refine r_pick [0] rfl ?_
    exact kc_wo_newFree_101 hE hm hF _ _ _ h
  · refine r_iconst (v := (1 : Int32)) hE dX11_newFree_g3.1 (by decide) ?_
    refine r_iload_n hE 2 dX11_newFree_g3.2.1 rfl rfl ?_
    refine r_ishl hE dX11_newFree_g3.2.2.1 ?_
    refine r_goto hE 101 dX11_newFree_g3.2.2.2.1 (by decide) ?_
    refine r_pick [0] rfl ?_
    exact kc_wo_newFree_101 hE hm hF _ _ _ h
def wc_wo_newFree_56 (post : CS → Int32 → Prop) (σ : CS) (v1 : Int32) (v2 : Int32) (v3 : Int32) (t1 : Int64) : Prop := ∀ s5 : CS, s5 = c_wo_x_s σ t1 → ((v3 = (0 : Int32)) → (wc_wo_given (fun (s6 : CS) (r7 : Int64) => wc_wo_newFree_81 post s6 v1 v2 v3 r7) s5 (1 : Int32) (0 : Int32))) ∧ ((¬ (v3 = (0 : Int32))) → (wc_fr_yOf (fun (s8 : CS) (r9 : Int64) => wc_wo_newFree_81 post s8 v1 v2 v3 r9) s5 v2))
set_option maxRecDepth 20000 in
theorem kc_wo_newFree_56  {E : gEnv} {l : Launch} {D : va_G} {G : gAd} {post : CS → Int32 → Prop} (hE : gOK E cX11_newFree RX11 (some .int) 4) (hm : cOK E l D G (pI post) 5) (hF : gFin E) (σ : CS) (v1 : Int32) (v2 : Int32) (v3 : Int32) (t1 : Int64) (h : wc_wo_newFree_56 post σ v1 v2 v3 t1) : GW E (cW G σ) 56 [(0, .ref (G.1 1300)), (1, .int v1), (2, .int v2), (3, .int v3)] [.long t1, .ref (G.1 1300)] := by
  unfold wc_wo_newFree_56 at h
  have hN := hm.2.2.2.2.2.2.1
  refine cp_wo_x hE hm fk_X11_17 dX11_newFree_g1.2.2.2.2.2.2.2.2.2.2.2.2.2.2.1 h (fun s5 h => ?_)
  refine r_aload_n hE 0 dX11_newFree_g1.2.2.2.2.2.2.2.2.2.2.2.2.2.2.2 rfl rfl ?_
  refine r_iload_n hE 3 dX11_newFree_g2.1 rfl rfl ?_
  refine r_if_eq hE 75 dX11_newFree_g2.2.1 (by decide) h (fun h => ?_) (fun h => ?_)
  · refine r_aload_n hE 0 dX11_newFree_g2.2.2.2.2.2.2.2.1 rfl rfl ?_
    refine r_iconst (v := (1 : Int32)) hE dX11_newFree_g2.2.2.2.2.2.2.2.2.1 (by decide) ?_
    refine r_iconst (v := (0 : Int32)) hE dX11_newFree_g2.2.2.2.2.2.2.2.2.2.1 (by decide) ?_
    refine c_callVl hE hm [.int (1 : Int32), .int (0 : Int32)] [.ref (G.1 1300)] ck_X11_126 (cr_wo hm rfl) (kc_wo_given h) (by decide) rfl rfl (Nat.le_of_ble_eq_true rfl) dX11_newFree_g2.2.2.2.2.2.2.2.2.2.2.1 (fun s6 r7 h => ?_)
    exact kc_wo_newFree_81 hE hm hF _ _ _ _ _ h
  · refine r_aload_n hE 0 dX11_newFree_g2.2.2.1 rfl rfl ?_
    refine cg_wo_frees hE hm fk_X11_44 dX11_newFree_g2.2.2.2.1 ?_
    refine r_iload_n hE 2 dX11_newFree_g2.2.2.2.2.1 rfl rfl ?_
    refine c_callVl hE hm [.int v2] [.ref (G.1 1300)] ck_X11_169 (cr_fr hm rfl) (kc_fr_yOf h) (by decide) rfl rfl (Nat.le_of_ble_eq_true rfl) dX11_newFree_g2.2.2.2.2.2.1 (fun s8 r9 h => ?_)
    refine r_goto hE 81 dX11_newFree_g2.2.2.2.2.2.2.1 (by decide) ?_
    exact kc_wo_newFree_81 hE hm hF _ _ _ _ _ h
def wc_wo_newFree (post : CS → Int32 → Prop) (σ : CS) (a1 : Int32) : Prop := ∀ x10 : Int32, x10 = c_fr_came σ → ((x10 < (12 : Int32)) → (wc_fr_isMoved (fun (s11 : CS) (r12 : Int32) => ((r12 = (0 : Int32)) → (wc_wo_given (fun (s13 : CS) (r14 : Int64) => wc_wo_newFree_56 post s13 a1 x10 r12 r14) s11 (0 : Int32) (0 : Int32))) ∧ ((¬ (r12 = (0 : Int32))) → (wc_fr_xOf (fun (s15 : CS) (r16 : Int64) => wc_wo_newFree_56 post s15 a1 x10 r12 r16) s11 x10))) σ x10)) ∧ ((¬ (x10 < (12 : Int32))) → (wc_rk_fail (fun (s17 : CS) => post s17 (-1 : Int32)) σ (9 : Int32)))
set_option maxRecDepth 20000 in
theorem kc_wo_newFree {l : Launch} {D : va_G} {G : gAd} {post : CS → Int32 → Prop} {σ : CS} {a1 : Int32} (h : wc_wo_newFree post σ a1) : cMet l D G yX11_newFree cX11_newFree 5 (some .int) 4 [.ref (G.1 1300), .int a1] σ (pI post) := by
  unfold wc_wo_newFree at h
  refine c_enter (own := RX11) (by decide +kernel) rfl [(0, .ref (G.1 1300)), (1, .int a1)] rfl (Nat.le_of_ble_eq_true rfl) ?_
  intro E hE hm hF
  have hN := hm.2.2.2.2.2.2.1
  refine r_aload_n hE 0 dX11_newFree_g0.1 rfl rfl ?_
  refine cg_wo_frees hE hm fk_X11_44 dX11_newFree_g0.2.1 ?_
  refine cg_fr_came hE hm fk_X11_156 dX11_newFree_g0.2.2.1 ?_
  refine r_topi h (fun x10 ex10 h => ?_)
  refine r_istore_n hE [(2, .int x10), (0, .ref (G.1 1300)), (1, .int a1)] dX11_newFree_g0.2.2.2.1 rfl hN (by decide) rfl ?_
  refine r_iload_n hE 0 dX11_newFree_g0.2.2.2.2.1 rfl rfl ?_
  refine r_bipush (v := (12 : Int32)) hE dX11_newFree_g0.2.2.2.2.2.1 (by decide) ?_
  refine r_icmp_lt hE 25 dX11_newFree_g0.2.2.2.2.2.2.1 (by decide) h (fun h => ?_) (fun h => ?_)
  · refine r_aload_n hE 1 dX11_newFree_g0.2.2.2.2.2.2.2.2.2.2.2.2.2.1 rfl rfl ?_
    refine cg_wo_frees hE hm fk_X11_44 dX11_newFree_g0.2.2.2.2.2.2.2.2.2.2.2.2.2.2.1 ?_
    refine r_iload_n hE 0 dX11_newFree_g0.2.2.2.2.2.2.2.2.2.2.2.2.2.2.2 rfl rfl ?_
    refine c_callVi hE hm [.int x10] [] ck_X11_161 (cr_fr hm rfl) (kc_fr_isMoved h) (by decide) rfl rfl (Nat.le_of_ble_eq_true rfl) dX11_newFree_g1.1 (fun s11 r12 h => ?_)
    refine r_istore_n hE [(3, .int r12), (2, .int x10), (0, .ref (G.1 1300)), (1, .int a1)] dX11_newFree_g1.2.1 rfl hN (by decide) rfl ?_
    refine r_aload_n hE 2 dX11_newFree_g1.2.2.1 rfl rfl ?_
    refine r_iload_n hE 0 dX11_newFree_g1.2.2.2.1 rfl rfl ?_
    refine r_if_eq hE 50 dX11_newFree_g1.2.2.2.2.1 (by decide) h (fun h => ?_) (fun h => ?_)
    · refine r_aload_n hE 2 dX11_newFree_g1.2.2.2.2.2.2.2.2.2.2.1 rfl rfl ?_
      refine r_iconst (v := (0 : Int32)) hE dX11_newFree_g1.2.2.2.2.2.2.2.2.2.2.2.1 (by decide) ?_
      refine r_iconst (v := (0 : Int32)) hE dX11_newFree_g1.2.2.2.2.2.2.2.2.2.2.2.2.1 (by decide) ?_
      refine c_callVl hE hm [.int (0 : Int32), .int (0 : Int32)] [.ref (G.1 1300)] ck_X11_126 (cr_wo hm rfl) (kc_wo_given h) (by decide) rfl rfl (Nat.le_of_ble_eq_true rfl) dX11_newFree_g1.2.2.2.2.2.2.2.2.2.2.2.2.2.1 (fun s13 r14 h => ?_)
      refine r_pick [2, 3, 1, 0] rfl ?_
      exact kc_wo_newFree_56 hE hm hF _ _ _ _ _ h
    · refine r_aload_n hE 2 dX11_newFree_g1.2.2.2.2.2.1 rfl rfl ?_
      refine cg_wo_frees hE hm fk_X11_44 dX11_newFree_g1.2.2.2.2.2.2.1 ?_
      refine r_iload_n hE 1 dX11_newFree_g1.2.2.2.2.2.2.2.1 rfl rfl ?_
      refine c_callVl hE hm [.int x10] [.ref (G.1 1300)] ck_X11_165 (cr_fr hm rfl) (kc_fr_xOf h) (by decide) rfl rfl (Nat.le_of_ble_eq_true rfl) dX11_newFree_g1.2.2.2.2.2.2.2.2.1 (fun s15 r16 h => ?_)
      refine r_goto hE 56 dX11_newFree_g1.2.2.2.2.2.2.2.2.2.1 (by decide) ?_
      refine r_pick [2, 3, 1, 0] rfl ?_
      exact kc_wo_newFree_56 hE hm hF _ _ _ _ _ h
  · refine r_aload_n hE 1 dX11_newFree_g0.2.2.2.2.2.2.2.1 rfl rfl ?_
    refine cg_wo_reckoner hE hm fk_X11_36 dX11_newFree_g0.2.2.2.2.2.2.2.2.1 ?_
    refine r_bipush (v := (9 : Int32)) hE dX11_newFree_g0.2.2.2.2.2.2.2.2.2.1 (by decide) ?_
    refine c_callVv hE hm [.int (9 : Int32)] [] ck_X11_48 (cr_rk hm rfl) (kc_rk_fail h) (by decide) rfl rfl (Nat.le_of_ble_eq_true rfl) dX11_newFree_g0.2.2.2.2.2.2.2.2.2.2.1 (fun s17 h => ?_)
    refine r_iconst (v := (-1 : Int32)) hE dX11_newFree_g0.2.2.2.2.2.2.2.2.2.2.2.1 (by decide) ?_
    exact c_iret hE hm hF dX11_newFree_g0.2.2.2.2.2.2.2.2.2.2.2.2.1 h
/-! wo_newLine -/
def wc_wo_newLine (post : CS → Int32 → Prop) (σ : CS) (a1 : Int32) (a2 : Int32) : Prop := (((c_rk_failure σ) = (0 : Int32)) → (wc_th_add (fun (s1 : CS) (r2 : Int32) => wc_th_setPart (fun (s3 : CS) => wc_th_setPart (fun (s4 : CS) => wc_th_setPart (fun (s5 : CS) => ((¬ (a1 = (4 : Int32))) → (post s5 r2)) ∧ ((a1 = (4 : Int32)) → (wc_wo_given (fun (s6 : CS) (r7 : Int64) => wc_th_setPart (fun (s8 : CS) => wc_wo_given (fun (s9 : CS) (r10 : Int64) => wc_th_setPart (fun (s11 : CS) => wc_wo_given (fun (s12 : CS) (r13 : Int64) => wc_th_setPart (fun (s14 : CS) => wc_wo_given (fun (s15 : CS) (r16 : Int64) => wc_th_setPart (fun (s17 : CS) => post s17 r2) s15 r2 (6 : Int32) r16) s14 (1 : Int32) (1 : Int32)) s12 r2 (5 : Int32) r13) s11 (1 : Int32) (0 : Int32)) s9 r2 (4 : Int32) r10) s8 (0 : Int32) (1 : Int32)) s6 r2 (3 : Int32) r7) s5 (0 : Int32) (0 : Int32)))) s4 r2 (2 : Int32) (c_wo_c s4)) s3 r2 (1 : Int32) (c_wo_b s3)) s1 r2 (0 : Int32) (c_wo_a s1)) σ a1 a2)) ∧ ((¬ ((c_rk_failure σ) = (0 : Int32))) → (post σ (-1 : Int32)))
set_option maxRecDepth 20000 in
theorem kc_wo_newLine {l : Launch} {D : va_G} {G : gAd} {post : CS → Int32 → Prop} {σ : CS} {a1 : Int32} {a2 : Int32} (h : wc_wo_newLine post σ a1 a2) : cMet l D G yX11_newLine cX11_newLine 4 (some .int) 3 [.ref (G.1 1300), .int a1, .int a2] σ (pI post) := by
  unfold wc_wo_newLine at h
  refine c_enter (own := RX11) (by decide +kernel) rfl [(0, .ref (G.1 1300)), (1, .int a1), (2, .int a2)] rfl (Nat.le_of_ble_eq_true rfl) ?_
  intro E hE hm hF
  have hN := hm.2.2.2.2.2.2.1
  refine r_aload_n hE 0 dX11_newLine_g0.1 rfl rfl ?_
  refine cg_wo_reckoner hE hm fk_X11_36 dX11_newLine_g0.2.1 ?_
  refine cg_rk_failure hE hm fk_X11_65 dX11_newLine_g0.2.2.1 ?_
  refine r_if_eq hE 12 dX11_newLine_g0.2.2.2.1 (by decide) h (fun h => ?_) (fun h => ?_)
  · refine r_aload_n hE 0 dX11_newLine_g0.2.2.2.2.2.2.1 rfl rfl ?_
    refine cg_wo_things hE hm fk_X11_40 dX11_newLine_g0.2.2.2.2.2.2.2.1 ?_
    refine r_iload_n hE 1 dX11_newLine_g0.2.2.2.2.2.2.2.2.1 rfl rfl ?_
    refine r_iload_n hE 2 dX11_newLine_g0.2.2.2.2.2.2.2.2.2.1 rfl rfl ?_
    refine c_callVi hE hm [.int a1, .int a2] [] ck_X11_149 (cr_th hm rfl) (kc_th_add h) (by decide) rfl rfl (Nat.le_of_ble_eq_true rfl) dX11_newLine_g0.2.2.2.2.2.2.2.2.2.2.1 (fun s1 r2 h => ?_)
    refine r_istore_n hE [(3, .int r2), (0, .ref (G.1 1300)), (1, .int a1), (2, .int a2)] dX11_newLine_g0.2.2.2.2.2.2.2.2.2.2.2.1 rfl hN (by decide) rfl ?_
    refine r_aload_n hE 1 dX11_newLine_g0.2.2.2.2.2.2.2.2.2.2.2.2.1 rfl rfl ?_
    refine cg_wo_things hE hm fk_X11_40 dX11_newLine_g0.2.2.2.2.2.2.2.2.2.2.2.2.2.1 ?_
    refine r_iload_n hE 0 dX11_newLine_g0.2.2.2.2.2.2.2.2.2.2.2.2.2.2.1 rfl rfl ?_
    refine r_iconst (v := (0 : Int32)) hE dX11_newLine_g0.2.2.2.2.2.2.2.2.2.2.2.2.2.2.2 (by decide) ?_
    refine r_aload_n hE 1 dX11_newLine_g1.1 rfl rfl ?_
    refine cg_wo_a hE hm fk_X11_24 dX11_newLine_g1.2.1 ?_
    refine c_callVv hE hm [.int r2, .int (0 : Int32), .long (c_wo_a s1)] [] ck_X11_152 (cr_th hm rfl) (kc_th_setPart h) (by decide) rfl rfl (Nat.le_of_ble_eq_true rfl) dX11_newLine_g1.2.2.1 (fun s3 h => ?_)
    refine r_aload_n hE 1 dX11_newLine_g1.2.2.2.1 rfl rfl ?_
    refine cg_wo_things hE hm fk_X11_40 dX11_newLine_g1.2.2.2.2.1 ?_
    refine r_iload_n hE 0 dX11_newLine_g1.2.2.2.2.2.1 rfl rfl ?_
    refine r_iconst (v := (1 : Int32)) hE dX11_newLine_g1.2.2.2.2.2.2.1 (by decide) ?_
    refine r_aload_n hE 1 dX11_newLine_g1.2.2.2.2.2.2.2.1 rfl rfl ?_
    refine cg_wo_b hE hm fk_X11_27 dX11_newLine_g1.2.2.2.2.2.2.2.2.1 ?_
    refine c_callVv hE hm [.int r2, .int (1 : Int32), .long (c_wo_b s3)] [] ck_X11_152 (cr_th hm rfl) (kc_th_setPart h) (by decide) rfl rfl (Nat.le_of_ble_eq_true rfl) dX11_newLine_g1.2.2.2.2.2.2.2.2.2.1 (fun s4 h => ?_)
    refine r_aload_n hE 1 dX11_newLine_g1.2.2.2.2.2.2.2.2.2.2.1 rfl rfl ?_
    refine cg_wo_things hE hm fk_X11_40 dX11_newLine_g1.2.2.2.2.2.2.2.2.2.2.2.1 ?_
    refine r_iload_n hE 0 dX11_newLine_g1.2.2.2.2.2.2.2.2.2.2.2.2.1 rfl rfl ?_
    refine r_iconst (v := (2 : Int32)) hE dX11_newLine_g1.2.2.2.2.2.2.2.2.2.2.2.2.2.1 (by decide) ?_
    refine r_aload_n hE 1 dX11_newLine_g1.2.2.2.2.2.2.2.2.2.2.2.2.2.2.1 rfl rfl ?_
    refine cg_wo_c hE hm fk_X11_30 dX11_newLine_g1.2.2.2.2.2.2.2.2.2.2.2.2.2.2.2 ?_
    refine c_callVv hE hm [.int r2, .int (2 : Int32), .long (c_wo_c s4)] [] ck_X11_152 (cr_th hm rfl) (kc_th_setPart h) (by decide) rfl rfl (Nat.le_of_ble_eq_true rfl) dX11_newLine_g2.1 (fun s5 h => ?_)
    refine r_iload_n hE 2 dX11_newLine_g2.2.1 rfl rfl ?_
    refine r_iconst (v := (4 : Int32)) hE dX11_newLine_g2.2.2.1 (by decide) ?_
    refine r_icmp_ne hE 127 dX11_newLine_g2.2.2.2.1 (by decide) h (fun h => ?_) (fun h => ?_)
    · refine r_iload_n hE 0 dX11_newLine_g4.2.2.2.2.2.2.2.2.1 rfl rfl ?_
      exact c_iret hE hm hF dX11_newLine_g4.2.2.2.2.2.2.2.2.2 h
    · refine r_aload_n hE 1 dX11_newLine_g2.2.2.2.2.1 rfl rfl ?_
      refine cg_wo_things hE hm fk_X11_40 dX11_newLine_g2.2.2.2.2.2.1 ?_
      refine r_iload_n hE 0 dX11_newLine_g2.2.2.2.2.2.2.1 rfl rfl ?_
      refine r_iconst (v := (3 : Int32)) hE dX11_newLine_g2.2.2.2.2.2.2.2.1 (by decide) ?_
      refine r_aload_n hE 1 dX11_newLine_g2.2.2.2.2.2.2.2.2.1 rfl rfl ?_
      refine r_iconst (v := (0 : Int32)) hE dX11_newLine_g2.2.2.2.2.2.2.2.2.2.1 (by decide) ?_
      refine r_iconst (v := (0 : Int32)) hE dX11_newLine_g2.2.2.2.2.2.2.2.2.2.2.1 (by decide) ?_
      refine c_callVl hE hm [.int (0 : Int32), .int (0 : Int32)] [.int (3 : Int32), .int r2, .ref (G.1 900)] ck_X11_126 (cr_wo hm rfl) (kc_wo_given h) (by decide) rfl rfl (Nat.le_of_ble_eq_true rfl) dX11_newLine_g2.2.2.2.2.2.2.2.2.2.2.2.1 (fun s6 r7 h => ?_)
      refine c_callVv hE hm [.int r2, .int (3 : Int32), .long r7] [] ck_X11_152 (cr_th hm rfl) (kc_th_setPart h) (by decide) rfl rfl (Nat.le_of_ble_eq_true rfl) dX11_newLine_g2.2.2.2.2.2.2.2.2.2.2.2.2.1 (fun s8 h => ?_)
      refine r_aload_n hE 1 dX11_newLine_g2.2.2.2.2.2.2.2.2.2.2.2.2.2.1 rfl rfl ?_
      refine cg_wo_things hE hm fk_X11_40 dX11_newLine_g2.2.2.2.2.2.2.2.2.2.2.2.2.2.2.1 ?_
      refine r_iload_n hE 0 dX11_newLine_g2.2.2.2.2.2.2.2.2.2.2.2.2.2.2.2 rfl rfl ?_
      refine r_iconst (v := (4 : Int32)) hE dX11_newLine_g3.1 (by decide) ?_
      refine r_aload_n hE 1 dX11_newLine_g3.2.1 rfl rfl ?_
      refine r_iconst (v := (0 : Int32)) hE dX11_newLine_g3.2.2.1 (by decide) ?_
      refine r_iconst (v := (1 : Int32)) hE dX11_newLine_g3.2.2.2.1 (by decide) ?_
      refine c_callVl hE hm [.int (0 : Int32), .int (1 : Int32)] [.int (4 : Int32), .int r2, .ref (G.1 900)] ck_X11_126 (cr_wo hm rfl) (kc_wo_given h) (by decide) rfl rfl (Nat.le_of_ble_eq_true rfl) dX11_newLine_g3.2.2.2.2.1 (fun s9 r10 h => ?_)
      refine c_callVv hE hm [.int r2, .int (4 : Int32), .long r10] [] ck_X11_152 (cr_th hm rfl) (kc_th_setPart h) (by decide) rfl rfl (Nat.le_of_ble_eq_true rfl) dX11_newLine_g3.2.2.2.2.2.1 (fun s11 h => ?_)
      refine r_aload_n hE 1 dX11_newLine_g3.2.2.2.2.2.2.1 rfl rfl ?_
      refine cg_wo_things hE hm fk_X11_40 dX11_newLine_g3.2.2.2.2.2.2.2.1 ?_
      refine r_iload_n hE 0 dX11_newLine_g3.2.2.2.2.2.2.2.2.1 rfl rfl ?_
      refine r_iconst (v := (5 : Int32)) hE dX11_newLine_g3.2.2.2.2.2.2.2.2.2.1 (by decide) ?_
      refine r_aload_n hE 1 dX11_newLine_g3.2.2.2.2.2.2.2.2.2.2.1 rfl rfl ?_
      refine r_iconst (v := (1 : Int32)) hE dX11_newLine_g3.2.2.2.2.2.2.2.2.2.2.2.1 (by decide) ?_
      refine r_iconst (v := (0 : Int32)) hE dX11_newLine_g3.2.2.2.2.2.2.2.2.2.2.2.2.1 (by decide) ?_
      refine c_callVl hE hm [.int (1 : Int32), .int (0 : Int32)] [.int (5 : Int32), .int r2, .ref (G.1 900)] ck_X11_126 (cr_wo hm rfl) (kc_wo_given h) (by decide) rfl rfl (Nat.le_of_ble_eq_true rfl) dX11_newLine_g3.2.2.2.2.2.2.2.2.2.2.2.2.2.1 (fun s12 r13 h => ?_)
      refine c_callVv hE hm [.int r2, .int (5 : Int32), .long r13] [] ck_X11_152 (cr_th hm rfl) (kc_th_setPart h) (by decide) rfl rfl (Nat.le_of_ble_eq_true rfl) dX11_newLine_g3.2.2.2.2.2.2.2.2.2.2.2.2.2.2.1 (fun s14 h => ?_)
      refine r_aload_n hE 1 dX11_newLine_g3.2.2.2.2.2.2.2.2.2.2.2.2.2.2.2 rfl rfl ?_
      refine cg_wo_things hE hm fk_X11_40 dX11_newLine_g4.1 ?_
      refine r_iload_n hE 0 dX11_newLine_g4.2.1 rfl rfl ?_
      refine r_bipush (v := (6 : Int32)) hE dX11_newLine_g4.2.2.1 (by decide) ?_
      refine r_aload_n hE 1 dX11_newLine_g4.2.2.2.1 rfl rfl ?_
      refine r_iconst (v := (1 : Int32)) hE dX11_newLine_g4.2.2.2.2.1 (by decide) ?_
      refine r_iconst (v := (1 : Int32)) hE dX11_newLine_g4.2.2.2.2.2.1 (by decide) ?_
      refine c_callVl hE hm [.int (1 : Int32), .int (1 : Int32)] [.int (6 : Int32), .int r2, .ref (G.1 900)] ck_X11_126 (cr_wo hm rfl) (kc_wo_given h) (by decide) rfl rfl (Nat.le_of_ble_eq_true rfl) dX11_newLine_g4.2.2.2.2.2.2.1 (fun s15 r16 h => ?_)
      refine c_callVv hE hm [.int r2, .int (6 : Int32), .long r16] [] ck_X11_152 (cr_th hm rfl) (kc_th_setPart h) (by decide) rfl rfl (Nat.le_of_ble_eq_true rfl) dX11_newLine_g4.2.2.2.2.2.2.2.1 (fun s17 h => ?_)
      refine r_iload_n hE 0 dX11_newLine_g4.2.2.2.2.2.2.2.2.1 rfl rfl ?_
      exact c_iret hE hm hF dX11_newLine_g4.2.2.2.2.2.2.2.2.2 h
  · refine r_iconst (v := (-1 : Int32)) hE dX11_newLine_g0.2.2.2.2.1 (by decide) ?_
    exact c_iret hE hm hF dX11_newLine_g0.2.2.2.2.2.1 h
/-! SX6_whole -/
def wc_SX6_whole (post : CS → Int64 → Prop) (σ : CS) (a0 : Int32) : Prop := post σ (((a0.toInt64) <<< ((32 : Int32).toInt64 &&& 63)) ||| (1 : Int64))
set_option maxRecDepth 20000 in
theorem kc_SX6_whole {l : Launch} {D : va_G} {G : gAd} {post : CS → Int64 → Prop} {σ : CS} {a0 : Int32} (h : wc_SX6_whole post σ a0) : cMet l D G yX6_whole cX6_whole 1 (some .long) 1 [.int a0] σ (pL post) := by
  unfold wc_SX6_whole at h
  refine c_enter (own := RX6) (by decide +kernel) rfl [(0, .int a0)] rfl (Nat.le_of_ble_eq_true rfl) ?_
  intro E hE hm hF
  have hN := hm.2.2.2.2.2.2.1
  refine r_iload_n hE 0 dX6_whole_g0.1 rfl rfl ?_
  refine r_i2l hE dX6_whole_g0.2.1 ?_
  refine r_bipush (v := (32 : Int32)) hE dX6_whole_g0.2.2.1 (by decide) ?_
  refine r_lshl hE dX6_whole_g0.2.2.2.1 ?_
  refine r_lconst (v := (1 : Int64)) hE dX6_whole_g0.2.2.2.2.1 (by decide) ?_
  refine r_lor hE dX6_whole_g0.2.2.2.2.2.1 ?_
  exact c_lret hE hm hF dX6_whole_g0.2.2.2.2.2.2 h
/-! th_hold -/
def wc_th_hold (post : CS → Prop) (σ : CS) (a1 : Int32) (a2 : Int32) (a3 : Int32) : Prop := wc_SX12_inside (fun (s1 : CS) (r2 : Int32) => ((r2 = (0 : Int32)) → (post s1)) ∧ ((¬ (r2 = (0 : Int32))) → (wc_SX12_inside (fun (s3 : CS) (r4 : Int32) => ((r4 = (0 : Int32)) → (post s3)) ∧ ((¬ (r4 = (0 : Int32))) → (vp_in ((a1 * (20 : Int32)) + a2) 8000 ∧ (∀ s5 : CS, s5 = c_th_held_s s3 ((a1 * (20 : Int32)) + a2).toNatClampNeg a3 → post s5)))) s1 a2 (20 : Int32)))) σ a1 (c_th_many σ)
set_option maxRecDepth 20000 in
theorem kc_th_hold {l : Launch} {D : va_G} {G : gAd} {post : CS → Prop} {σ : CS} {a1 : Int32} {a2 : Int32} {a3 : Int32} (h : wc_th_hold post σ a1 a2 a3) : cMet l D G yX8_hold cX8_hold 4 none 2 [.ref (G.1 900), .int a1, .int a2, .int a3] σ (pV post) := by
  unfold wc_th_hold at h
  refine c_enter (own := RX8) (by decide +kernel) rfl [(0, .ref (G.1 900)), (1, .int a1), (2, .int a2), (3, .int a3)] rfl (Nat.le_of_ble_eq_true rfl) ?_
  intro E hE hm hF
  have hN := hm.2.2.2.2.2.2.1
  refine r_iload_n hE 1 dX8_hold_g0.1 rfl rfl ?_
  refine r_aload_n hE 0 dX8_hold_g0.2.1 rfl rfl ?_
  refine cg_th_many hE hm fk_X8_25 dX8_hold_g0.2.2.1 ?_
  refine c_callSNi hE hm [.int a1, .int (c_th_many σ)] [] ck_X8_29 cw_X8_29 (kc_SX12_inside h) (by decide) rfl rfl (Nat.le_of_ble_eq_true rfl) dX8_hold_g0.2.2.2.1 (fun s1 r2 h => ?_)
  refine r_if_eq hE 32 dX8_hold_g0.2.2.2.2.1 (by decide) h (fun h => ?_) (fun h => ?_)
  · exact c_vret hE hm hF dX8_hold_g1.2.2 h
  · refine r_iload_n hE 2 dX8_hold_g0.2.2.2.2.2.1 rfl rfl ?_
    refine r_bipush (v := (20 : Int32)) hE dX8_hold_g0.2.2.2.2.2.2.1 (by decide) ?_
    refine c_callSNi hE hm [.int a2, .int (20 : Int32)] [] ck_X8_29 cw_X8_29 (kc_SX12_inside h) (by decide) rfl rfl (Nat.le_of_ble_eq_true rfl) dX8_hold_g0.2.2.2.2.2.2.2.1 (fun s3 r4 h => ?_)
    refine r_if_eq hE 32 dX8_hold_g0.2.2.2.2.2.2.2.2.1 (by decide) h (fun h => ?_) (fun h => ?_)
    · exact c_vret hE hm hF dX8_hold_g1.2.2 h
    · refine r_aload_n hE 0 dX8_hold_g0.2.2.2.2.2.2.2.2.2.1 rfl rfl ?_
      refine cg_th_held hE hm fk_X8_22 dX8_hold_g0.2.2.2.2.2.2.2.2.2.2.1 ?_
      refine r_iload_n hE 1 dX8_hold_g0.2.2.2.2.2.2.2.2.2.2.2.1 rfl rfl ?_
      refine r_bipush (v := (20 : Int32)) hE dX8_hold_g0.2.2.2.2.2.2.2.2.2.2.2.2.1 (by decide) ?_
      refine r_imul hE dX8_hold_g0.2.2.2.2.2.2.2.2.2.2.2.2.2.1 ?_
      refine r_iload_n hE 2 dX8_hold_g0.2.2.2.2.2.2.2.2.2.2.2.2.2.2.1 rfl rfl ?_
      refine r_iadd hE dX8_hold_g0.2.2.2.2.2.2.2.2.2.2.2.2.2.2.2 ?_
      refine r_iload_n hE 3 dX8_hold_g1.1 rfl rfl ?_
      obtain ⟨hi, h⟩ := h
      refine cs_th_held hE hm dX8_hold_g1.2.1 hi h (fun s5 h => ?_)
      exact c_vret hE hm hF dX8_hold_g1.2.2 h
/-! th_addRow -/
def wc_th_addRow_31 (post : CS → Int32 → Prop) : Nat → CS → Int32 → Int32 → Int32 → Prop
  | 0, _, _, _, _ => False
  | n + 1, σ, v2, v3, v4 => ((v2 ≤ v4) → (post σ v3)) ∧ ((¬ (v2 ≤ v4)) → (wc_th_hold (fun (s1 : CS) => ∀ x2 : Int32, x2 = v4 + (1 : Int32) → wc_th_addRow_31 post n s1 v2 v3 x2) σ v3 v4 (-1 : Int32)))
set_option maxRecDepth 20000 in
theorem kc_th_addRow_31  {E : gEnv} {l : Launch} {D : va_G} {G : gAd} {post : CS → Int32 → Prop} (hE : gOK E cX8_addRow RX8 (some .int) 3) (hm : cOK E l D G (pI post) 5) (hF : gFin E) : ∀ (n0 : Nat) (σ : CS) (v2 : Int32) (v3 : Int32) (v4 : Int32), wc_th_addRow_31 post n0 σ v2 v3 v4 → GW E (cW G σ) 31 [(0, .ref (G.1 900)), (2, .int v2), (3, .int v3), (4, .int v4)] [] := by
  intro n0
  induction n0 with
  | zero => intro σ v2 v3 v4 h; exact h.elim
  | succ n0 ih =>
    intro σ v2 v3 v4 h
    rw [wc_th_addRow_31] at h
    have hN := hm.2.2.2.2.2.2.1
    refine r_iload hE 3 dX8_addRow_g1.2.2.2.1 rfl ?_
    refine r_iload_n hE 1 dX8_addRow_g1.2.2.2.2.1 rfl rfl ?_
    refine r_icmp_ge hE 51 dX8_addRow_g1.2.2.2.2.2.1 (by decide) h (fun h => ?_) (fun h => ?_)
    · refine r_iload_n hE 2 dX8_addRow_g1.2.2.2.2.2.2.2.2.2.2.2.2.2.1 rfl rfl ?_
      exact c_iret hE hm hF dX8_addRow_g1.2.2.2.2.2.2.2.2.2.2.2.2.2.2 h
    · refine r_aload_n hE 0 dX8_addRow_g1.2.2.2.2.2.2.1 rfl rfl ?_
      refine r_iload_n hE 2 dX8_addRow_g1.2.2.2.2.2.2.2.1 rfl rfl ?_
      refine r_iload hE 3 dX8_addRow_g1.2.2.2.2.2.2.2.2.1 rfl ?_
      refine r_iconst (v := (-1 : Int32)) hE dX8_addRow_g1.2.2.2.2.2.2.2.2.2.1 (by decide) ?_
      refine c_callVv hE hm [.int v3, .int v4, .int (-1 : Int32)] [] ck_X8_47 (cr_th hm rfl) (kc_th_hold h) (by decide) rfl rfl (Nat.le_of_ble_eq_true rfl) dX8_addRow_g1.2.2.2.2.2.2.2.2.2.2.1 (fun s1 h => ?_)
      obtain ⟨x2, ex2⟩ : ∃ z : Int32, z = v4 + (1 : Int32) := ⟨_, rfl⟩
      have h := h x2 ex2
      refine r_iinc (v := x2) hE [(4, .int x2), (0, .ref (G.1 900)), (2, .int v2), (3, .int v3)] 3 dX8_addRow_g1.2.2.2.2.2.2.2.2.2.2.2.1 rfl (by rw [ex2]; rfl) hN (by decide) rfl ?_
      refine r_goto hE 31 dX8_addRow_g1.2.2.2.2.2.2.2.2.2.2.2.2.1 (by decide) ?_
      refine r_pick [1, 2, 3, 0] rfl ?_
      exact ih _ _ _ _ h
def wc_th_addRow (post : CS → Int32 → Prop) (σ : CS) (a1 : Int32) (a2 : Int32) : Prop := wc_th_add (fun (s3 : CS) (r4 : Int32) => wc_SX6_whole (fun (s5 : CS) (r6 : Int64) => wc_th_setPart (fun (s7 : CS) => wc_SX6_whole (fun (s8 : CS) (r9 : Int64) => wc_th_setPart (fun (s10 : CS) => ∃ k : Nat, wc_th_addRow_31 post k s10 a2 r4 (0 : Int32)) s8 r4 (1 : Int32) r9) s7 a2) s5 r4 (0 : Int32) r6) s3 a1) σ (6 : Int32) (0 : Int32)
set_option maxRecDepth 20000 in
theorem kc_th_addRow {l : Launch} {D : va_G} {G : gAd} {post : CS → Int32 → Prop} {σ : CS} {a1 : Int32} {a2 : Int32} (h : wc_th_addRow post σ a1 a2) : cMet l D G yX8_addRow cX8_addRow 5 (some .int) 3 [.ref (G.1 900), .int a1, .int a2] σ (pI post) := by
  unfold wc_th_addRow at h
  refine c_enter (own := RX8) (by decide +kernel) rfl [(0, .ref (G.1 900)), (1, .int a1), (2, .int a2)] rfl (Nat.le_of_ble_eq_true rfl) ?_
  intro E hE hm hF
  have hN := hm.2.2.2.2.2.2.1
  refine r_aload_n hE 0 dX8_addRow_g0.1 rfl rfl ?_
  refine r_bipush (v := (6 : Int32)) hE dX8_addRow_g0.2.1 (by decide) ?_
  refine r_iconst (v := (0 : Int32)) hE dX8_addRow_g0.2.2.1 (by decide) ?_
  refine c_callVi hE hm [.int (6 : Int32), .int (0 : Int32)] [] ck_X8_33 (cr_th hm rfl) (kc_th_add h) (by decide) rfl rfl (Nat.le_of_ble_eq_true rfl) dX8_addRow_g0.2.2.2.1 (fun s3 r4 h => ?_)
  refine r_istore_n hE [(3, .int r4), (0, .ref (G.1 900)), (1, .int a1), (2, .int a2)] dX8_addRow_g0.2.2.2.2.1 rfl hN (by decide) rfl ?_
  refine r_aload_n hE 1 dX8_addRow_g0.2.2.2.2.2.1 rfl rfl ?_
  refine r_iload_n hE 0 dX8_addRow_g0.2.2.2.2.2.2.1 rfl rfl ?_
  refine r_iconst (v := (0 : Int32)) hE dX8_addRow_g0.2.2.2.2.2.2.2.1 (by decide) ?_
  refine r_iload_n hE 2 dX8_addRow_g0.2.2.2.2.2.2.2.2.1 rfl rfl ?_
  refine c_callSl hE hm [.int a1] [.int (0 : Int32), .int r4, .ref (G.1 900)] ck_X8_41 (kc_SX6_whole h) (by decide) rfl rfl (Nat.le_of_ble_eq_true rfl) dX8_addRow_g0.2.2.2.2.2.2.2.2.2.1 (fun s5 r6 h => ?_)
  refine c_callVv hE hm [.int r4, .int (0 : Int32), .long r6] [] ck_X8_37 (cr_th hm rfl) (kc_th_setPart h) (by decide) rfl rfl (Nat.le_of_ble_eq_true rfl) dX8_addRow_g0.2.2.2.2.2.2.2.2.2.2.1 (fun s7 h => ?_)
  refine r_aload_n hE 1 dX8_addRow_g0.2.2.2.2.2.2.2.2.2.2.2.1 rfl rfl ?_
  refine r_iload_n hE 0 dX8_addRow_g0.2.2.2.2.2.2.2.2.2.2.2.2.1 rfl rfl ?_
  refine r_iconst (v := (1 : Int32)) hE dX8_addRow_g0.2.2.2.2.2.2.2.2.2.2.2.2.2.1 (by decide) ?_
  refine r_iload_n hE 3 dX8_addRow_g0.2.2.2.2.2.2.2.2.2.2.2.2.2.2.1 rfl rfl ?_
  refine c_callSl hE hm [.int a2] [.int (1 : Int32), .int r4, .ref (G.1 900)] ck_X8_41 (kc_SX6_whole h) (by decide) rfl rfl (Nat.le_of_ble_eq_true rfl) dX8_addRow_g0.2.2.2.2.2.2.2.2.2.2.2.2.2.2.2 (fun s8 r9 h => ?_)
  refine c_callVv hE hm [.int r4, .int (1 : Int32), .long r9] [] ck_X8_37 (cr_th hm rfl) (kc_th_setPart h) (by decide) rfl rfl (Nat.le_of_ble_eq_true rfl) dX8_addRow_g1.1 (fun s10 h => ?_)
  refine r_iconst (v := (0 : Int32)) hE dX8_addRow_g1.2.1 (by decide) ?_
  refine r_istore hE [(4, .int (0 : Int32)), (3, .int r4), (0, .ref (G.1 900)), (1, .int a1), (2, .int a2)] dX8_addRow_g1.2.2.1 hN (by decide) rfl ?_
  refine r_pick [2, 4, 1, 0] rfl ?_
  obtain ⟨k, h⟩ := h
  exact kc_th_addRow_31 hE hm hF k _ _ _ _ h
/-! wo_newRow_t -/
def wc_wo_newRow_t_79 (post : CS → Int32 → Prop) (σ : CS) (v2 : Int64) (t0 : Int32) : Prop := wc_th_addRow (fun (s1 : CS) (r2 : Int32) => post s1 r2) σ t0 (v2.toInt32)
set_option maxRecDepth 20000 in
theorem kc_wo_newRow_t_79  {E : gEnv} {l : Launch} {D : va_G} {G : gAd} {post : CS → Int32 → Prop} (hE : gOK E cX11_newRow RX11 (some .int) 4) (hm : cOK E l D G (pI post) 5) (hF : gFin E) (σ : CS) (v2 : Int64) (t0 : Int32) (h : wc_wo_newRow_t_79 post σ v2 t0) : GW E (cW G σ) 79 [(0, .ref (G.1 1300)), (2, .long v2)] [.int t0] := by
  unfold wc_wo_newRow_t_79 at h
  have hN := hm.2.2.2.2.2.2.1
  refine r_istore hE [(4, .int t0), (0, .ref (G.1 1300)), (2, .long v2)] dX11_newRow_g2.2.2.2.2.2.2.2.2.2.2.1 hN (by decide) rfl ?_
  refine r_aload_n hE 1 dX11_newRow_g2.2.2.2.2.2.2.2.2.2.2.2.1 rfl rfl ?_
  refine cg_wo_things hE hm fk_X11_40 dX11_newRow_g2.2.2.2.2.2.2.2.2.2.2.2.2.1 ?_
  refine r_iload hE 0 dX11_newRow_g2.2.2.2.2.2.2.2.2.2.2.2.2.2.1 rfl ?_
  refine r_lload_n hE 2 dX11_newRow_g2.2.2.2.2.2.2.2.2.2.2.2.2.2.2.1 rfl rfl ?_
  refine r_l2i hE dX11_newRow_g2.2.2.2.2.2.2.2.2.2.2.2.2.2.2.2 ?_
  refine c_callVi hE hm [.int t0, .int (v2.toInt32)] [] ck_X11_190 (cr_th hm rfl) (kc_th_addRow h) (by decide) rfl rfl (Nat.le_of_ble_eq_true rfl) dX11_newRow_g3.1 (fun s1 r2 h => ?_)
  exact c_iret hE hm hF dX11_newRow_g3.2 h
def wc_wo_newRow_t (post : CS → Int32 → Prop) (σ : CS) (a1 : Nat) : Prop := wc_wo_given (fun (s3 : CS) (r4 : Int64) => wc_SX6_top (fun (s5 : CS) (r6 : Int64) => (((0 : Int32) ≤ (lg_cmp r6 (0 : Int64))) → ((((lg_cmp r6 (20 : Int64)) ≤ (0 : Int32)) → (a1 < 39 ∧ ((¬ a1 = 10 → (a1 < 39 ∧ ((¬ a1 = 11 → (a1 < 39 ∧ ((¬ a1 = 12 → (wc_wo_newRow_t_79 post s5 r6 (0 : Int32))) ∧ (a1 = 12 → (wc_wo_newRow_t_79 post s5 r6 (3 : Int32)))))) ∧ (a1 = 11 → (wc_wo_newRow_t_79 post s5 r6 (2 : Int32)))))) ∧ (a1 = 10 → (wc_wo_newRow_t_79 post s5 r6 (1 : Int32)))))) ∧ ((¬ ((lg_cmp r6 (20 : Int64)) ≤ (0 : Int32))) → (wc_rk_fail (fun (s7 : CS) => post s7 (-1 : Int32)) s5 (9 : Int32))))) ∧ ((¬ ((0 : Int32) ≤ (lg_cmp r6 (0 : Int64)))) → (wc_rk_fail (fun (s8 : CS) => post s8 (-1 : Int32)) s5 (4 : Int32)))) s3 r4) σ (0 : Int32) (0 : Int32)
set_option maxRecDepth 20000 in
theorem kc_wo_newRow_t {l : Launch} {D : va_G} {G : gAd} {post : CS → Int32 → Prop} {σ : CS} {a1 : Nat} (h : wc_wo_newRow_t post σ a1) : cMet l D G yX11_newRow cX11_newRow 5 (some .int) 4 [.ref (G.1 1300), .ref (G.1 (7000 + a1))] σ (pI post) := by
  unfold wc_wo_newRow_t at h
  refine c_enter (own := RX11) (by decide +kernel) rfl [(0, .ref (G.1 1300)), (1, .ref (G.1 (7000 + a1)))] rfl (Nat.le_of_ble_eq_true rfl) ?_
  intro E hE hm hF
  have hN := hm.2.2.2.2.2.2.1
  refine r_aload_n hE 0 dX11_newRow_g0.1 rfl rfl ?_
  refine r_iconst (v := (0 : Int32)) hE dX11_newRow_g0.2.1 (by decide) ?_
  refine r_iconst (v := (0 : Int32)) hE dX11_newRow_g0.2.2.1 (by decide) ?_
  refine c_callVl hE hm [.int (0 : Int32), .int (0 : Int32)] [] ck_X11_126 (cr_wo hm rfl) (kc_wo_given h) (by decide) rfl rfl (Nat.le_of_ble_eq_true rfl) dX11_newRow_g0.2.2.2.1 (fun s3 r4 h => ?_)
  refine c_callSl hE hm [.long r4] [] ck_X11_175 (kc_SX6_top h) (by decide) rfl rfl (Nat.le_of_ble_eq_true rfl) dX11_newRow_g0.2.2.2.2.1 (fun s5 r6 h => ?_)
  refine r_lstore_n hE [(2, .long r6), (0, .ref (G.1 1300)), (1, .ref (G.1 (7000 + a1)))] dX11_newRow_g0.2.2.2.2.2.1 rfl hN (by decide) rfl ?_
  refine r_lload_n hE 0 dX11_newRow_g0.2.2.2.2.2.2.1 rfl rfl ?_
  refine r_lconst (v := (0 : Int64)) hE dX11_newRow_g0.2.2.2.2.2.2.2.1 (by decide) ?_
  refine r_lcmp hE dX11_newRow_g0.2.2.2.2.2.2.2.2.1 ?_
  refine r_if_ge hE 26 dX11_newRow_g0.2.2.2.2.2.2.2.2.2.1 (by decide) h (fun h => ?_) (fun h => ?_)
  · refine r_lload_n hE 0 dX11_newRow_g1.1 rfl rfl ?_
    refine r_ldc2 (v := (20 : Int64)) hE dX11_newRow_g1.2.1 (gTb_5 (List.mem_of_getElem? (i := 204) rfl) rfl) ?_
    refine r_lcmp hE dX11_newRow_g1.2.2.1 ?_
    refine r_if_le hE 45 dX11_newRow_g1.2.2.2.1 (by decide) h (fun h => ?_) (fun h => ?_)
    · refine r_aload_n hE 2 dX11_newRow_g1.2.2.2.2.2.2.2.2.2.2.1 rfl rfl ?_
      refine kz_tool (n := "POINTS") (t := 10) hE hm (List.mem_of_getElem? (i := 0) rfl) fk_X11_181 dX11_newRow_g1.2.2.2.2.2.2.2.2.2.2.2.1 ?_
      obtain ⟨hx, h⟩ := h
      refine kt_acmp hE hm hx (by decide) 56 dX11_newRow_g1.2.2.2.2.2.2.2.2.2.2.2.2.1 (by decide) h (fun h => ?_) (fun h => ?_)
      · refine r_aload_n hE 2 dX11_newRow_g1.2.2.2.2.2.2.2.2.2.2.2.2.2.2.2 rfl rfl ?_
        refine kz_tool (n := "LINES") (t := 11) hE hm (List.mem_of_getElem? (i := 1) rfl) fk_X11_184 dX11_newRow_g2.1 ?_
        obtain ⟨hx, h⟩ := h
        refine kt_acmp hE hm hx (by decide) 67 dX11_newRow_g2.2.1 (by decide) h (fun h => ?_) (fun h => ?_)
        · refine r_aload_n hE 2 dX11_newRow_g2.2.2.2.2.1 rfl rfl ?_
          refine kz_tool (n := "NUMBERS") (t := 12) hE hm (List.mem_of_getElem? (i := 2) rfl) fk_X11_187 dX11_newRow_g2.2.2.2.2.2.1 ?_
          obtain ⟨hx, h⟩ := h
          refine kt_acmp hE hm hx (by decide) 78 dX11_newRow_g2.2.2.2.2.2.2.1 (by decide) h (fun h => ?_) (fun h => ?_)
          · refine r_iconst (v := (0 : Int32)) hE dX11_newRow_g2.2.2.2.2.2.2.2.2.2.1 (by decide) ?_
            refine r_pick [1, 0] rfl ?_
            exact kc_wo_newRow_t_79 hE hm hF _ _ _ h
          · refine r_iconst (v := (3 : Int32)) hE dX11_newRow_g2.2.2.2.2.2.2.2.1 (by decide) ?_
            refine r_goto hE 79 dX11_newRow_g2.2.2.2.2.2.2.2.2.1 (by decide) ?_
            refine r_pick [1, 0] rfl ?_
            exact kc_wo_newRow_t_79 hE hm hF _ _ _ h
        · refine r_iconst (v := (2 : Int32)) hE dX11_newRow_g2.2.2.1 (by decide) ?_
          refine r_goto hE 79 dX11_newRow_g2.2.2.2.1 (by decide) ?_
          refine r_pick [1, 0] rfl ?_
          exact kc_wo_newRow_t_79 hE hm hF _ _ _ h
      · refine r_iconst (v := (1 : Int32)) hE dX11_newRow_g1.2.2.2.2.2.2.2.2.2.2.2.2.2.1 (by decide) ?_
        refine r_goto hE 79 dX11_newRow_g1.2.2.2.2.2.2.2.2.2.2.2.2.2.2.1 (by decide) ?_
        refine r_pick [1, 0] rfl ?_
        exact kc_wo_newRow_t_79 hE hm hF _ _ _ h
    · refine r_aload_n hE 1 dX11_newRow_g1.2.2.2.2.1 rfl rfl ?_
      refine cg_wo_reckoner hE hm fk_X11_36 dX11_newRow_g1.2.2.2.2.2.1 ?_
      refine r_bipush (v := (9 : Int32)) hE dX11_newRow_g1.2.2.2.2.2.2.1 (by decide) ?_
      refine c_callVv hE hm [.int (9 : Int32)] [] ck_X11_48 (cr_rk hm rfl) (kc_rk_fail h) (by decide) rfl rfl (Nat.le_of_ble_eq_true rfl) dX11_newRow_g1.2.2.2.2.2.2.2.1 (fun s7 h => ?_)
      refine r_iconst (v := (-1 : Int32)) hE dX11_newRow_g1.2.2.2.2.2.2.2.2.1 (by decide) ?_
      exact c_iret hE hm hF dX11_newRow_g1.2.2.2.2.2.2.2.2.2.1 h
  · refine r_aload_n hE 1 dX11_newRow_g0.2.2.2.2.2.2.2.2.2.2.1 rfl rfl ?_
    refine cg_wo_reckoner hE hm fk_X11_36 dX11_newRow_g0.2.2.2.2.2.2.2.2.2.2.2.1 ?_
    refine r_iconst (v := (4 : Int32)) hE dX11_newRow_g0.2.2.2.2.2.2.2.2.2.2.2.2.1 (by decide) ?_
    refine c_callVv hE hm [.int (4 : Int32)] [] ck_X11_48 (cr_rk hm rfl) (kc_rk_fail h) (by decide) rfl rfl (Nat.le_of_ble_eq_true rfl) dX11_newRow_g0.2.2.2.2.2.2.2.2.2.2.2.2.2.1 (fun s8 h => ?_)
    refine r_iconst (v := (-1 : Int32)) hE dX11_newRow_g0.2.2.2.2.2.2.2.2.2.2.2.2.2.2.1 (by decide) ?_
    exact c_iret hE hm hF dX11_newRow_g0.2.2.2.2.2.2.2.2.2.2.2.2.2.2.2 h
/-! wo_halving -/
def wc_wo_halving (post : CS → Prop) (σ : CS) (a1 : Int64) (a3 : Int64) (a5 : Int64) (a7 : Int64) : Prop := wc_wo_middle (fun (s1 : CS) => wc_wo_through (fun (s2 : CS) => wc_wo_normal (fun (s3 : CS) => wc_wo_perpendicular (fun (s4 : CS) => wc_wo_normal (fun (s5 : CS) => post s5) s4) s3 (c_wo_x s3) (c_wo_y s3) (c_wo_a s3) (c_wo_b s3)) s2) s1 a1 a3 a5 a7) σ a1 a3 a5 a7
set_option maxRecDepth 20000 in
theorem kc_wo_halving {l : Launch} {D : va_G} {G : gAd} {post : CS → Prop} {σ : CS} {a1 : Int64} {a3 : Int64} {a5 : Int64} {a7 : Int64} (h : wc_wo_halving post σ a1 a3 a5 a7) : cMet l D G yX11_halving cX11_halving 9 none 4 [.ref (G.1 1300), .long a1, .long a3, .long a5, .long a7] σ (pV post) := by
  unfold wc_wo_halving at h
  refine c_enter (own := RX11) (by decide +kernel) rfl [(0, .ref (G.1 1300)), (1, .long a1), (3, .long a3), (5, .long a5), (7, .long a7)] rfl (Nat.le_of_ble_eq_true rfl) ?_
  intro E hE hm hF
  have hN := hm.2.2.2.2.2.2.1
  refine r_aload_n hE 0 dX11_halving_g0.1 rfl rfl ?_
  refine r_lload_n hE 1 dX11_halving_g0.2.1 rfl rfl ?_
  refine r_lload_n hE 2 dX11_halving_g0.2.2.1 rfl rfl ?_
  refine r_lload hE 3 dX11_halving_g0.2.2.2.1 rfl ?_
  refine r_lload hE 4 dX11_halving_g0.2.2.2.2.1 rfl ?_
  refine c_callVv hE hm [.long a1, .long a3, .long a5, .long a7] [] ck_X11_253 (cr_wo hm rfl) (kc_wo_middle h) (by decide) rfl rfl (Nat.le_of_ble_eq_true rfl) dX11_halving_g0.2.2.2.2.2.1 (fun s1 h => ?_)
  refine r_aload_n hE 0 dX11_halving_g0.2.2.2.2.2.2.1 rfl rfl ?_
  refine r_lload_n hE 1 dX11_halving_g0.2.2.2.2.2.2.2.1 rfl rfl ?_
  refine r_lload_n hE 2 dX11_halving_g0.2.2.2.2.2.2.2.2.1 rfl rfl ?_
  refine r_lload hE 3 dX11_halving_g0.2.2.2.2.2.2.2.2.2.1 rfl ?_
  refine r_lload hE 4 dX11_halving_g0.2.2.2.2.2.2.2.2.2.2.1 rfl ?_
  refine c_callVv hE hm [.long a1, .long a3, .long a5, .long a7] [] ck_X11_288 (cr_wo hm rfl) (kc_wo_through h) (by decide) rfl rfl (Nat.le_of_ble_eq_true rfl) dX11_halving_g0.2.2.2.2.2.2.2.2.2.2.2.1 (fun s2 h => ?_)
  refine r_aload_n hE 0 dX11_halving_g0.2.2.2.2.2.2.2.2.2.2.2.2.1 rfl rfl ?_
  refine c_callVv hE hm [] [] ck_X11_282 (cr_wo hm rfl) (kc_wo_normal h) (by decide) rfl rfl (Nat.le_of_ble_eq_true rfl) dX11_halving_g0.2.2.2.2.2.2.2.2.2.2.2.2.2.1 (fun s3 h => ?_)
  refine r_aload_n hE 0 dX11_halving_g0.2.2.2.2.2.2.2.2.2.2.2.2.2.2.1 rfl rfl ?_
  refine r_aload_n hE 0 dX11_halving_g0.2.2.2.2.2.2.2.2.2.2.2.2.2.2.2 rfl rfl ?_
  refine cg_wo_x hE hm fk_X11_17 dX11_halving_g1.1 ?_
  refine r_aload_n hE 0 dX11_halving_g1.2.1 rfl rfl ?_
  refine cg_wo_y hE hm fk_X11_21 dX11_halving_g1.2.2.1 ?_
  refine r_aload_n hE 0 dX11_halving_g1.2.2.2.1 rfl rfl ?_
  refine cg_wo_a hE hm fk_X11_24 dX11_halving_g1.2.2.2.2.1 ?_
  refine r_aload_n hE 0 dX11_halving_g1.2.2.2.2.2.1 rfl rfl ?_
  refine cg_wo_b hE hm fk_X11_27 dX11_halving_g1.2.2.2.2.2.2.1 ?_
  refine c_callVv hE hm [.long (c_wo_x s3), .long (c_wo_y s3), .long (c_wo_a s3), .long (c_wo_b s3)] [] ck_X11_279 (cr_wo hm rfl) (kc_wo_perpendicular h) (by decide) rfl rfl (Nat.le_of_ble_eq_true rfl) dX11_halving_g1.2.2.2.2.2.2.2.1 (fun s4 h => ?_)
  refine r_aload_n hE 0 dX11_halving_g1.2.2.2.2.2.2.2.2.1 rfl rfl ?_
  refine c_callVv hE hm [] [] ck_X11_282 (cr_wo hm rfl) (kc_wo_normal h) (by decide) rfl rfl (Nat.le_of_ble_eq_true rfl) dX11_halving_g1.2.2.2.2.2.2.2.2.2.1 (fun s5 h => ?_)
  exact c_vret hE hm hF dX11_halving_g1.2.2.2.2.2.2.2.2.2.2 h
/-! wo_ring -/
def wc_wo_ring (post : CS → Prop) (σ : CS) (a1 : Int64) (a3 : Int64) : Prop := wc_wo_given (fun (s1 : CS) (r2 : Int64) => wc_wo_given (fun (s3 : CS) (r4 : Int64) => wc_wo_halving (fun (s5 : CS) => ∀ x6 : Int64, x6 = c_wo_a s5 → ∀ x7 : Int64, x7 = c_wo_b s5 → ∀ x8 : Int64, x8 = c_wo_c s5 → wc_wo_given (fun (s9 : CS) (r10 : Int64) => wc_wo_given (fun (s11 : CS) (r12 : Int64) => wc_wo_halving (fun (s13 : CS) => wc_wo_meet (fun (s14 : CS) => wc_wo_dist (fun (s15 : CS) (r16 : Int64) => ∀ s17 : CS, s17 = c_wo_square_s s15 r16 → post s17) s14 (c_wo_x s14) (c_wo_y s14) a1 a3) s13 x6 x7 x8 (c_wo_a s13) (c_wo_b s13) (c_wo_c s13)) s11 a1 a3 r10 r12) s9 (2 : Int32) (1 : Int32)) s5 (2 : Int32) (0 : Int32)) s3 a1 a3 r2 r4) s1 (1 : Int32) (1 : Int32)) σ (1 : Int32) (0 : Int32)
set_option maxRecDepth 20000 in
theorem kc_wo_ring {l : Launch} {D : va_G} {G : gAd} {post : CS → Prop} {σ : CS} {a1 : Int64} {a3 : Int64} (h : wc_wo_ring post σ a1 a3) : cMet l D G yX11_ring cX11_ring 11 none 5 [.ref (G.1 1300), .long a1, .long a3] σ (pV post) := by
  unfold wc_wo_ring at h
  refine c_enter (own := RX11) (by decide +kernel) rfl [(0, .ref (G.1 1300)), (1, .long a1), (3, .long a3)] rfl (Nat.le_of_ble_eq_true rfl) ?_
  intro E hE hm hF
  have hN := hm.2.2.2.2.2.2.1
  refine r_aload_n hE 0 dX11_ring_g0.1 rfl rfl ?_
  refine r_lload_n hE 1 dX11_ring_g0.2.1 rfl rfl ?_
  refine r_lload_n hE 2 dX11_ring_g0.2.2.1 rfl rfl ?_
  refine r_aload_n hE 0 dX11_ring_g0.2.2.2.1 rfl rfl ?_
  refine r_iconst (v := (1 : Int32)) hE dX11_ring_g0.2.2.2.2.1 (by decide) ?_
  refine r_iconst (v := (0 : Int32)) hE dX11_ring_g0.2.2.2.2.2.1 (by decide) ?_
  refine c_callVl hE hm [.int (1 : Int32), .int (0 : Int32)] [.long a3, .long a1, .ref (G.1 1300)] ck_X11_126 (cr_wo hm rfl) (kc_wo_given h) (by decide) rfl rfl (Nat.le_of_ble_eq_true rfl) dX11_ring_g0.2.2.2.2.2.2.1 (fun s1 r2 h => ?_)
  refine r_aload_n hE 0 dX11_ring_g0.2.2.2.2.2.2.2.1 rfl rfl ?_
  refine r_iconst (v := (1 : Int32)) hE dX11_ring_g0.2.2.2.2.2.2.2.2.1 (by decide) ?_
  refine r_iconst (v := (1 : Int32)) hE dX11_ring_g0.2.2.2.2.2.2.2.2.2.1 (by decide) ?_
  refine c_callVl hE hm [.int (1 : Int32), .int (1 : Int32)] [.long r2, .long a3, .long a1, .ref (G.1 1300)] ck_X11_126 (cr_wo hm rfl) (kc_wo_given h) (by decide) rfl rfl (Nat.le_of_ble_eq_true rfl) dX11_ring_g0.2.2.2.2.2.2.2.2.2.2.1 (fun s3 r4 h => ?_)
  refine c_callVv hE hm [.long a1, .long a3, .long r2, .long r4] [] ck_X11_294 (cr_wo hm rfl) (kc_wo_halving h) (by decide) rfl rfl (Nat.le_of_ble_eq_true rfl) dX11_ring_g0.2.2.2.2.2.2.2.2.2.2.2.1 (fun s5 h => ?_)
  refine r_aload_n hE 0 dX11_ring_g0.2.2.2.2.2.2.2.2.2.2.2.2.1 rfl rfl ?_
  refine cg_wo_a hE hm fk_X11_24 dX11_ring_g0.2.2.2.2.2.2.2.2.2.2.2.2.2.1 ?_
  refine r_topl h (fun x6 ex6 h => ?_)
  refine r_lstore hE [(5, .long x6), (0, .ref (G.1 1300)), (1, .long a1), (3, .long a3)] dX11_ring_g0.2.2.2.2.2.2.2.2.2.2.2.2.2.2.1 hN (by decide) rfl ?_
  refine r_aload_n hE 1 dX11_ring_g0.2.2.2.2.2.2.2.2.2.2.2.2.2.2.2 rfl rfl ?_
  refine cg_wo_b hE hm fk_X11_27 dX11_ring_g1.1 ?_
  refine r_topl h (fun x7 ex7 h => ?_)
  refine r_lstore hE [(7, .long x7), (5, .long x6), (0, .ref (G.1 1300)), (1, .long a1), (3, .long a3)] dX11_ring_g1.2.1 hN (by decide) rfl ?_
  refine r_aload_n hE 2 dX11_ring_g1.2.2.1 rfl rfl ?_
  refine cg_wo_c hE hm fk_X11_30 dX11_ring_g1.2.2.2.1 ?_
  refine r_topl h (fun x8 ex8 h => ?_)
  refine r_lstore hE [(9, .long x8), (7, .long x7), (5, .long x6), (0, .ref (G.1 1300)), (1, .long a1), (3, .long a3)] dX11_ring_g1.2.2.2.2.1 hN (by decide) rfl ?_
  refine r_aload_n hE 3 dX11_ring_g1.2.2.2.2.2.1 rfl rfl ?_
  refine r_lload_n hE 4 dX11_ring_g1.2.2.2.2.2.2.1 rfl rfl ?_
  refine r_lload_n hE 5 dX11_ring_g1.2.2.2.2.2.2.2.1 rfl rfl ?_
  refine r_aload_n hE 3 dX11_ring_g1.2.2.2.2.2.2.2.2.1 rfl rfl ?_
  refine r_iconst (v := (2 : Int32)) hE dX11_ring_g1.2.2.2.2.2.2.2.2.2.1 (by decide) ?_
  refine r_iconst (v := (0 : Int32)) hE dX11_ring_g1.2.2.2.2.2.2.2.2.2.2.1 (by decide) ?_
  refine c_callVl hE hm [.int (2 : Int32), .int (0 : Int32)] [.long a3, .long a1, .ref (G.1 1300)] ck_X11_126 (cr_wo hm rfl) (kc_wo_given h) (by decide) rfl rfl (Nat.le_of_ble_eq_true rfl) dX11_ring_g1.2.2.2.2.2.2.2.2.2.2.2.1 (fun s9 r10 h => ?_)
  refine r_aload_n hE 3 dX11_ring_g1.2.2.2.2.2.2.2.2.2.2.2.2.1 rfl rfl ?_
  refine r_iconst (v := (2 : Int32)) hE dX11_ring_g1.2.2.2.2.2.2.2.2.2.2.2.2.2.1 (by decide) ?_
  refine r_iconst (v := (1 : Int32)) hE dX11_ring_g1.2.2.2.2.2.2.2.2.2.2.2.2.2.2.1 (by decide) ?_
  refine c_callVl hE hm [.int (2 : Int32), .int (1 : Int32)] [.long r10, .long a3, .long a1, .ref (G.1 1300)] ck_X11_126 (cr_wo hm rfl) (kc_wo_given h) (by decide) rfl rfl (Nat.le_of_ble_eq_true rfl) dX11_ring_g1.2.2.2.2.2.2.2.2.2.2.2.2.2.2.2 (fun s11 r12 h => ?_)
  refine c_callVv hE hm [.long a1, .long a3, .long r10, .long r12] [] ck_X11_294 (cr_wo hm rfl) (kc_wo_halving h) (by decide) rfl rfl (Nat.le_of_ble_eq_true rfl) dX11_ring_g2.1 (fun s13 h => ?_)
  refine r_aload_n hE 3 dX11_ring_g2.2.1 rfl rfl ?_
  refine r_lload hE 2 dX11_ring_g2.2.2.1 rfl ?_
  refine r_lload hE 1 dX11_ring_g2.2.2.2.1 rfl ?_
  refine r_lload hE 0 dX11_ring_g2.2.2.2.2.1 rfl ?_
  refine r_aload_n hE 3 dX11_ring_g2.2.2.2.2.2.1 rfl rfl ?_
  refine cg_wo_a hE hm fk_X11_24 dX11_ring_g2.2.2.2.2.2.2.1 ?_
  refine r_aload_n hE 3 dX11_ring_g2.2.2.2.2.2.2.2.1 rfl rfl ?_
  refine cg_wo_b hE hm fk_X11_27 dX11_ring_g2.2.2.2.2.2.2.2.2.1 ?_
  refine r_aload_n hE 3 dX11_ring_g2.2.2.2.2.2.2.2.2.2.1 rfl rfl ?_
  refine cg_wo_c hE hm fk_X11_30 dX11_ring_g2.2.2.2.2.2.2.2.2.2.2.1 ?_
  refine c_callVv hE hm [.long x6, .long x7, .long x8, .long (c_wo_a s13), .long (c_wo_b s13), .long (c_wo_c s13)] [] ck_X11_257 (cr_wo hm rfl) (kc_wo_meet h) (by decide) rfl rfl (Nat.le_of_ble_eq_true rfl) dX11_ring_g2.2.2.2.2.2.2.2.2.2.2.2.1 (fun s14 h => ?_)
  refine r_aload_n hE 3 dX11_ring_g2.2.2.2.2.2.2.2.2.2.2.2.2.1 rfl rfl ?_
  refine r_aload_n hE 3 dX11_ring_g2.2.2.2.2.2.2.2.2.2.2.2.2.2.1 rfl rfl ?_
  refine r_aload_n hE 3 dX11_ring_g2.2.2.2.2.2.2.2.2.2.2.2.2.2.2.1 rfl rfl ?_
  refine cg_wo_x hE hm fk_X11_17 dX11_ring_g2.2.2.2.2.2.2.2.2.2.2.2.2.2.2.2 ?_
  refine r_aload_n hE 3 dX11_ring_g3.1 rfl rfl ?_
  refine cg_wo_y hE hm fk_X11_21 dX11_ring_g3.2.1 ?_
  refine r_lload_n hE 4 dX11_ring_g3.2.2.1 rfl rfl ?_
  refine r_lload_n hE 5 dX11_ring_g3.2.2.2.1 rfl rfl ?_
  refine c_callVl hE hm [.long (c_wo_x s14), .long (c_wo_y s14), .long a1, .long a3] [.ref (G.1 1300)] ck_X11_218 (cr_wo hm rfl) (kc_wo_dist h) (by decide) rfl rfl (Nat.le_of_ble_eq_true rfl) dX11_ring_g3.2.2.2.2.1 (fun s15 r16 h => ?_)
  refine cp_wo_square hE hm fk_X11_33 dX11_ring_g3.2.2.2.2.2.1 h (fun s17 h => ?_)
  exact c_vret hE hm hF dX11_ring_g3.2.2.2.2.2.2 h
/-! wo_told_t -/
def wc_wo_told_t_55 (post : CS → Int64 → Prop) (σ : CS) : Prop := wc_wo_given (fun (s1 : CS) (r2 : Int64) => post s1 r2) σ (0 : Int32) (1 : Int32)
set_option maxRecDepth 20000 in
theorem kc_wo_told_t_55  {E : gEnv} {l : Launch} {D : va_G} {G : gAd} {post : CS → Int64 → Prop} (hE : gOK E cX11_told RX11 (some .long) 3) (hm : cOK E l D G (pL post) 2) (hF : gFin E) (σ : CS) (h : wc_wo_told_t_55 post σ) : GW E (cW G σ) 55 [(0, .ref (G.1 1300))] [] := by
  unfold wc_wo_told_t_55 at h
  have hN := hm.2.2.2.2.2.2.1
  refine r_aload_n hE 0 dX11_told_g0.2.2.2.2.2.2.2.2.2.2.1 rfl rfl ?_
  refine r_iconst (v := (0 : Int32)) hE dX11_told_g0.2.2.2.2.2.2.2.2.2.2.2.1 (by decide) ?_
  refine r_iconst (v := (1 : Int32)) hE dX11_told_g0.2.2.2.2.2.2.2.2.2.2.2.2.1 (by decide) ?_
  refine c_callVl hE hm [.int (0 : Int32), .int (1 : Int32)] [] ck_X11_126 (cr_wo hm rfl) (kc_wo_given h) (by decide) rfl rfl (Nat.le_of_ble_eq_true rfl) dX11_told_g0.2.2.2.2.2.2.2.2.2.2.2.2.2.1 (fun s1 r2 h => ?_)
  exact c_lret hE hm hF dX11_told_g0.2.2.2.2.2.2.2.2.2.2.2.2.2.2.1 h
def wc_wo_told_t_111 (post : CS → Int64 → Prop) (σ : CS) (t0 : Int32) : Prop := wc_SX6_truth (fun (s3 : CS) (r4 : Int64) => post s3 r4) σ t0
set_option maxRecDepth 20000 in
theorem kc_wo_told_t_111  {E : gEnv} {l : Launch} {D : va_G} {G : gAd} {post : CS → Int64 → Prop} (hE : gOK E cX11_told RX11 (some .long) 3) (hm : cOK E l D G (pL post) 2) (hF : gFin E) (σ : CS) (t0 : Int32) (h : wc_wo_told_t_111 post σ t0) : GW E (cW G σ) 111 [] [.int t0] := by
  unfold wc_wo_told_t_111 at h
  have hN := hm.2.2.2.2.2.2.1
  refine c_callSl hE hm [.int t0] [] ck_X11_208 (kc_SX6_truth h) (by decide) rfl rfl (Nat.le_of_ble_eq_true rfl) dX11_told_g2.2.2.2.2.2.2.2.2.2.2.2.2.1 (fun s3 r4 h => ?_)
  exact c_lret hE hm hF dX11_told_g2.2.2.2.2.2.2.2.2.2.2.2.2.2.1 h
def wc_wo_told_t (post : CS → Int64 → Prop) (σ : CS) (a1 : Nat) : Prop := a1 < 39 ∧ (wc_tSJx29ce0_ordinal_8abf5 (fun (s5 : CS) (r6 : Int32) => vp_in r6 39 ∧ (((swMap.getD r6.toNatClampNeg 0) = (1 : Int32) → (wc_wo_given (fun (s7 : CS) (r8 : Int64) => post s7 r8) s5 (0 : Int32) (0 : Int32))) ∧ (¬ (swMap.getD r6.toNatClampNeg 0) = (1 : Int32) → (((swMap.getD r6.toNatClampNeg 0) = (2 : Int32) → (wc_wo_told_t_55 post s5)) ∧ (¬ (swMap.getD r6.toNatClampNeg 0) = (2 : Int32) → (((swMap.getD r6.toNatClampNeg 0) = (3 : Int32) → (wc_wo_told_t_55 post s5)) ∧ (¬ (swMap.getD r6.toNatClampNeg 0) = (3 : Int32) → (((swMap.getD r6.toNatClampNeg 0) = (4 : Int32) → (wc_wo_given (fun (s9 : CS) (r10 : Int64) => post s9 r10) s5 (0 : Int32) (2 : Int32))) ∧ (¬ (swMap.getD r6.toNatClampNeg 0) = (4 : Int32) → (((swMap.getD r6.toNatClampNeg 0) = (5 : Int32) → (wc_wo_given (fun (s11 : CS) (r12 : Int64) => wc_rk_negative (fun (s13 : CS) (r14 : Int64) => wc_wo_given (fun (s15 : CS) (r16 : Int64) => wc_rk_over (fun (s17 : CS) (r18 : Int64) => post s17 r18) s15 r14 r16) s13 (0 : Int32) (1 : Int32)) s11 r12) s5 (0 : Int32) (0 : Int32))) ∧ (¬ (swMap.getD r6.toNatClampNeg 0) = (5 : Int32) → (((swMap.getD r6.toNatClampNeg 0) = (6 : Int32) → (vp_in (0 : Int32) 3 ∧ (((¬ ((c_wo_arguments s5 (0 : Int32).toNatClampNeg) = (-1 : Int32))) → (wc_wo_told_t_111 post s5 (0 : Int32))) ∧ (((c_wo_arguments s5 (0 : Int32).toNatClampNeg) = (-1 : Int32)) → (wc_wo_told_t_111 post s5 (1 : Int32)))))) ∧ (¬ (swMap.getD r6.toNatClampNeg 0) = (6 : Int32) → (vp_in (0 : Int32) 3 ∧ (wc_th_kindOf (fun (s19 : CS) (r20 : Int32) => wc_SX6_whole (fun (s21 : CS) (r22 : Int64) => post s21 r22) s19 r20) s5 (c_wo_arguments s5 (0 : Int32).toNatClampNeg)))))))))))))))) σ a1)
set_option maxRecDepth 20000 in
theorem kc_wo_told_t {l : Launch} {D : va_G} {G : gAd} {post : CS → Int64 → Prop} {σ : CS} {a1 : Nat} (h : wc_wo_told_t post σ a1) : cMet l D G yX11_told cX11_told 2 (some .long) 3 [.ref (G.1 1300), .ref (G.1 (7000 + a1))] σ (pL post) := by
  unfold wc_wo_told_t at h
  refine c_enter (own := RX11) (by decide +kernel) rfl [(0, .ref (G.1 1300)), (1, .ref (G.1 (7000 + a1)))] rfl (Nat.le_of_ble_eq_true rfl) ?_
  intro E hE hm hF
  have hN := hm.2.2.2.2.2.2.1
  refine kz_swmap hE hm fk_X11_193 dX11_told_g0.1 ?_
  refine r_aload_n hE 1 dX11_told_g0.2.1 rfl rfl ?_
  obtain ⟨hx, h⟩ := h
  refine c_callU hE hm [] [.ref (G.1 8001)] cu_X11_198 ((c_z hE hm).2.2.2.1 _ hx).1 (kc_tSJx29ce0_ordinal_8abf5 h) (by decide) rfl rfl (Nat.le_of_ble_eq_true rfl) dX11_told_g0.2.2.1 (fun s5 r6 h => ?_)
  obtain ⟨hi, h⟩ := h
  refine ka_swmap hE hm hi dX11_told_g0.2.2.2.1 ?_
  refine r_case (1 : Int32) h (fun q0 h => ?_) (fun q0 h => ?_)
  · refine r_tableAt (off := 40) hE (1 : Int32) 48 dX11_told_g0.2.2.2.2.1 q0 (by decide) (by decide) (by decide) (by decide) ?_
    refine r_aload_n hE 0 dX11_told_g0.2.2.2.2.2.1 rfl rfl ?_
    refine r_iconst (v := (0 : Int32)) hE dX11_told_g0.2.2.2.2.2.2.1 (by decide) ?_
    refine r_iconst (v := (0 : Int32)) hE dX11_told_g0.2.2.2.2.2.2.2.1 (by decide) ?_
    refine c_callVl hE hm [.int (0 : Int32), .int (0 : Int32)] [] ck_X11_126 (cr_wo hm rfl) (kc_wo_given h) (by decide) rfl rfl (Nat.le_of_ble_eq_true rfl) dX11_told_g0.2.2.2.2.2.2.2.2.1 (fun s7 r8 h => ?_)
    exact c_lret hE hm hF dX11_told_g0.2.2.2.2.2.2.2.2.2.1 h
  · refine r_case (2 : Int32) h (fun q1 h => ?_) (fun q1 h => ?_)
    · refine r_tableAt (off := 47) hE (2 : Int32) 55 dX11_told_g0.2.2.2.2.1 q1 (by decide) (by decide) (by decide) (by decide) ?_
      refine r_pick [0] rfl ?_
      exact kc_wo_told_t_55 hE hm hF _ h
    · refine r_case (3 : Int32) h (fun q2 h => ?_) (fun q2 h => ?_)
      · refine r_tableAt (off := 47) hE (3 : Int32) 55 dX11_told_g0.2.2.2.2.1 q2 (by decide) (by decide) (by decide) (by decide) ?_
        refine r_pick [0] rfl ?_
        exact kc_wo_told_t_55 hE hm hF _ h
      · refine r_case (4 : Int32) h (fun q3 h => ?_) (fun q3 h => ?_)
        · refine r_tableAt (off := 54) hE (4 : Int32) 62 dX11_told_g0.2.2.2.2.1 q3 (by decide) (by decide) (by decide) (by decide) ?_
          refine r_aload_n hE 0 dX11_told_g0.2.2.2.2.2.2.2.2.2.2.2.2.2.2.2 rfl rfl ?_
          refine r_iconst (v := (0 : Int32)) hE dX11_told_g1.1 (by decide) ?_
          refine r_iconst (v := (2 : Int32)) hE dX11_told_g1.2.1 (by decide) ?_
          refine c_callVl hE hm [.int (0 : Int32), .int (2 : Int32)] [] ck_X11_126 (cr_wo hm rfl) (kc_wo_given h) (by decide) rfl rfl (Nat.le_of_ble_eq_true rfl) dX11_told_g1.2.2.1 (fun s9 r10 h => ?_)
          exact c_lret hE hm hF dX11_told_g1.2.2.2.1 h
        · refine r_case (5 : Int32) h (fun q4 h => ?_) (fun q4 h => ?_)
          · refine r_tableAt (off := 61) hE (5 : Int32) 69 dX11_told_g0.2.2.2.2.1 q4 (by decide) (by decide) (by decide) (by decide) ?_
            refine r_aload_n hE 0 dX11_told_g1.2.2.2.2.1 rfl rfl ?_
            refine cg_wo_reckoner hE hm fk_X11_36 dX11_told_g1.2.2.2.2.2.1 ?_
            refine r_aload_n hE 0 dX11_told_g1.2.2.2.2.2.2.1 rfl rfl ?_
            refine cg_wo_reckoner hE hm fk_X11_36 dX11_told_g1.2.2.2.2.2.2.2.1 ?_
            refine r_aload_n hE 0 dX11_told_g1.2.2.2.2.2.2.2.2.1 rfl rfl ?_
            refine r_iconst (v := (0 : Int32)) hE dX11_told_g1.2.2.2.2.2.2.2.2.2.1 (by decide) ?_
            refine r_iconst (v := (0 : Int32)) hE dX11_told_g1.2.2.2.2.2.2.2.2.2.2.1 (by decide) ?_
            refine c_callVl hE hm [.int (0 : Int32), .int (0 : Int32)] [.ref (G.1 800), .ref (G.1 800)] ck_X11_126 (cr_wo hm rfl) (kc_wo_given h) (by decide) rfl rfl (Nat.le_of_ble_eq_true rfl) dX11_told_g1.2.2.2.2.2.2.2.2.2.2.2.1 (fun s11 r12 h => ?_)
            refine c_callVl hE hm [.long r12] [.ref (G.1 800)] ck_X11_201 (cr_rk hm rfl) (kc_rk_negative h) (by decide) rfl rfl (Nat.le_of_ble_eq_true rfl) dX11_told_g1.2.2.2.2.2.2.2.2.2.2.2.2.1 (fun s13 r14 h => ?_)
            refine r_aload_n hE 0 dX11_told_g1.2.2.2.2.2.2.2.2.2.2.2.2.2.1 rfl rfl ?_
            refine r_iconst (v := (0 : Int32)) hE dX11_told_g1.2.2.2.2.2.2.2.2.2.2.2.2.2.2.1 (by decide) ?_
            refine r_iconst (v := (1 : Int32)) hE dX11_told_g1.2.2.2.2.2.2.2.2.2.2.2.2.2.2.2 (by decide) ?_
            refine c_callVl hE hm [.int (0 : Int32), .int (1 : Int32)] [.long r14, .ref (G.1 800)] ck_X11_126 (cr_wo hm rfl) (kc_wo_given h) (by decide) rfl rfl (Nat.le_of_ble_eq_true rfl) dX11_told_g2.1 (fun s15 r16 h => ?_)
            refine c_callVl hE hm [.long r14, .long r16] [] ck_X11_204 (cr_rk hm rfl) (kc_rk_over h) (by decide) rfl rfl (Nat.le_of_ble_eq_true rfl) dX11_told_g2.2.1 (fun s17 r18 h => ?_)
            exact c_lret hE hm hF dX11_told_g2.2.2.1 h
          · refine r_case (6 : Int32) h (fun q5 h => ?_) (fun q5 h => ?_)
            · refine r_tableAt (off := 88) hE (6 : Int32) 96 dX11_told_g0.2.2.2.2.1 q5 (by decide) (by decide) (by decide) (by decide) ?_
              refine r_aload_n hE 0 dX11_told_g2.2.2.2.1 rfl rfl ?_
              refine cg_wo_arguments hE hm fk_X11_9 dX11_told_g2.2.2.2.2.1 ?_
              refine r_iconst (v := (0 : Int32)) hE dX11_told_g2.2.2.2.2.2.1 (by decide) ?_
              obtain ⟨hi, h⟩ := h
              refine cl_wo_arguments hE hm dX11_told_g2.2.2.2.2.2.2.1 hi ?_
              refine r_iconst (v := (-1 : Int32)) hE dX11_told_g2.2.2.2.2.2.2.2.1 (by decide) ?_
              refine r_icmp_ne hE 110 dX11_told_g2.2.2.2.2.2.2.2.2.1 (by decide) h (fun h => ?_) (fun h => ?_)
              · refine r_iconst (v := (0 : Int32)) hE dX11_told_g2.2.2.2.2.2.2.2.2.2.2.2.1 (by decide) ?_
                refine r_pick [] rfl ?_
                exact kc_wo_told_t_111 hE hm hF _ _ h
              · refine r_iconst (v := (1 : Int32)) hE dX11_told_g2.2.2.2.2.2.2.2.2.2.1 (by decide) ?_
                refine r_goto hE 111 dX11_told_g2.2.2.2.2.2.2.2.2.2.2.1 (by decide) ?_
                refine r_pick [] rfl ?_
                exact kc_wo_told_t_111 hE hm hF _ _ h
            · have n0 := lv_neT q0 (show (1 : Int32).toInt = 1 by decide)
              have n1 := lv_neT q1 (show (2 : Int32).toInt = 2 by decide)
              have n2 := lv_neT q2 (show (3 : Int32).toInt = 3 by decide)
              have n3 := lv_neT q3 (show (4 : Int32).toInt = 4 by decide)
              have n4 := lv_neT q4 (show (5 : Int32).toInt = 5 by decide)
              have n5 := lv_neT q5 (show (6 : Int32).toInt = 6 by decide)
              refine r_tableOut hE 115 dX11_told_g0.2.2.2.2.1 (by omega) (by decide) ?_
              refine r_aload_n hE 0 dX11_told_g2.2.2.2.2.2.2.2.2.2.2.2.2.2.2.1 rfl rfl ?_
              refine cg_wo_things hE hm fk_X11_40 dX11_told_g2.2.2.2.2.2.2.2.2.2.2.2.2.2.2.2 ?_
              refine r_aload_n hE 0 dX11_told_g3.1 rfl rfl ?_
              refine cg_wo_arguments hE hm fk_X11_9 dX11_told_g3.2.1 ?_
              refine r_iconst (v := (0 : Int32)) hE dX11_told_g3.2.2.1 (by decide) ?_
              obtain ⟨hi, h⟩ := h
              refine cl_wo_arguments hE hm dX11_told_g3.2.2.2.1 hi ?_
              refine c_callVi hE hm [.int (c_wo_arguments s5 (0 : Int32).toNatClampNeg)] [] ck_X11_212 (cr_th hm rfl) (kc_th_kindOf h) (by decide) rfl rfl (Nat.le_of_ble_eq_true rfl) dX11_told_g3.2.2.2.2.1 (fun s19 r20 h => ?_)
              refine c_callSl hE hm [.int r20] [] ck_X11_215 (kc_SX6_whole h) (by decide) rfl rfl (Nat.le_of_ble_eq_true rfl) dX11_told_g3.2.2.2.2.2.1 (fun s21 r22 h => ?_)
              exact c_lret hE hm hF dX11_told_g3.2.2.2.2.2.2 h
/-! th_addNumber -/
def wc_th_addNumber (post : CS → Int32 → Prop) (σ : CS) (a1 : Int64) (a3 : Int32) : Prop := wc_th_add (fun (s1 : CS) (r2 : Int32) => wc_th_setPart (fun (s3 : CS) => post s3 r2) s1 r2 (0 : Int32) a1) σ (0 : Int32) a3
set_option maxRecDepth 20000 in
theorem kc_th_addNumber {l : Launch} {D : va_G} {G : gAd} {post : CS → Int32 → Prop} {σ : CS} {a1 : Int64} {a3 : Int32} (h : wc_th_addNumber post σ a1 a3) : cMet l D G yX8_addNumber cX8_addNumber 5 (some .int) 3 [.ref (G.1 900), .long a1, .int a3] σ (pI post) := by
  unfold wc_th_addNumber at h
  refine c_enter (own := RX8) (by decide +kernel) rfl [(0, .ref (G.1 900)), (1, .long a1), (3, .int a3)] rfl (Nat.le_of_ble_eq_true rfl) ?_
  intro E hE hm hF
  have hN := hm.2.2.2.2.2.2.1
  refine r_aload_n hE 0 dX8_addNumber_g0.1 rfl rfl ?_
  refine r_iconst (v := (0 : Int32)) hE dX8_addNumber_g0.2.1 (by decide) ?_
  refine r_iload_n hE 2 dX8_addNumber_g0.2.2.1 rfl rfl ?_
  refine c_callVi hE hm [.int (0 : Int32), .int a3] [] ck_X8_33 (cr_th hm rfl) (kc_th_add h) (by decide) rfl rfl (Nat.le_of_ble_eq_true rfl) dX8_addNumber_g0.2.2.2.1 (fun s1 r2 h => ?_)
  refine r_istore hE [(4, .int r2), (0, .ref (G.1 900)), (1, .long a1), (3, .int a3)] dX8_addNumber_g0.2.2.2.2.1 hN (by decide) rfl ?_
  refine r_aload_n hE 1 dX8_addNumber_g0.2.2.2.2.2.1 rfl rfl ?_
  refine r_iload hE 0 dX8_addNumber_g0.2.2.2.2.2.2.1 rfl ?_
  refine r_iconst (v := (0 : Int32)) hE dX8_addNumber_g0.2.2.2.2.2.2.2.1 (by decide) ?_
  refine r_lload_n hE 2 dX8_addNumber_g0.2.2.2.2.2.2.2.2.1 rfl rfl ?_
  refine c_callVv hE hm [.int r2, .int (0 : Int32), .long a1] [] ck_X8_37 (cr_th hm rfl) (kc_th_setPart h) (by decide) rfl rfl (Nat.le_of_ble_eq_true rfl) dX8_addNumber_g0.2.2.2.2.2.2.2.2.2.1 (fun s3 h => ?_)
  refine r_iload hE 0 dX8_addNumber_g0.2.2.2.2.2.2.2.2.2.2.1 rfl ?_
  exact c_iret hE hm hF dX8_addNumber_g0.2.2.2.2.2.2.2.2.2.2.2 h
/-! th_leaningOf -/
def wc_th_leaningOf (post : CS → Int32 → Prop) (σ : CS) (a1 : Int32) : Prop := wc_SX12_inside (fun (s1 : CS) (r2 : Int32) => ((r2 = (0 : Int32)) → (post s1 (0 : Int32))) ∧ ((¬ (r2 = (0 : Int32))) → (vp_in a1 400 ∧ (post s1 (c_th_leaning s1 a1.toNatClampNeg))))) σ a1 (c_th_many σ)
set_option maxRecDepth 20000 in
theorem kc_th_leaningOf {l : Launch} {D : va_G} {G : gAd} {post : CS → Int32 → Prop} {σ : CS} {a1 : Int32} (h : wc_th_leaningOf post σ a1) : cMet l D G yX8_leaningOf cX8_leaningOf 2 (some .int) 2 [.ref (G.1 900), .int a1] σ (pI post) := by
  unfold wc_th_leaningOf at h
  refine c_enter (own := RX8) (by decide +kernel) rfl [(0, .ref (G.1 900)), (1, .int a1)] rfl (Nat.le_of_ble_eq_true rfl) ?_
  intro E hE hm hF
  have hN := hm.2.2.2.2.2.2.1
  refine r_iload_n hE 1 dX8_leaningOf_g0.1 rfl rfl ?_
  refine r_aload_n hE 0 dX8_leaningOf_g0.2.1 rfl rfl ?_
  refine cg_th_many hE hm fk_X8_25 dX8_leaningOf_g0.2.2.1 ?_
  refine c_callSNi hE hm [.int a1, .int (c_th_many σ)] [] ck_X8_29 cw_X8_29 (kc_SX12_inside h) (by decide) rfl rfl (Nat.le_of_ble_eq_true rfl) dX8_leaningOf_g0.2.2.2.1 (fun s1 r2 h => ?_)
  refine r_if_eq hE 20 dX8_leaningOf_g0.2.2.2.2.1 (by decide) h (fun h => ?_) (fun h => ?_)
  · refine r_iconst (v := (0 : Int32)) hE dX8_leaningOf_g0.2.2.2.2.2.2.2.2.2.2.1 (by decide) ?_
    exact c_iret hE hm hF dX8_leaningOf_g0.2.2.2.2.2.2.2.2.2.2.2 h
  · refine r_aload_n hE 0 dX8_leaningOf_g0.2.2.2.2.2.1 rfl rfl ?_
    refine cg_th_leaning hE hm fk_X8_15 dX8_leaningOf_g0.2.2.2.2.2.2.1 ?_
    refine r_iload_n hE 1 dX8_leaningOf_g0.2.2.2.2.2.2.2.1 rfl rfl ?_
    obtain ⟨hi, h⟩ := h
    refine cl_th_leaning hE hm dX8_leaningOf_g0.2.2.2.2.2.2.2.2.1 hi ?_
    refine r_goto hE 21 dX8_leaningOf_g0.2.2.2.2.2.2.2.2.2.1 (by decide) ?_
    exact c_iret hE hm hF dX8_leaningOf_g0.2.2.2.2.2.2.2.2.2.2.2 h
/-! wo_use_t_ru_value -/
def wc_wo_use_t_ru_value_284 (post : CS → Int32 → Prop) (σ : CS) (v1 : Nat) (v4 : Int32) : Prop := wc_wo_makeLine_t (fun (s1 : CS) => v1 < 39 ∧ (wc_wo_newLine (fun (s2 : CS) (r3 : Int32) => post s2 r3) s1 (tMake.getD v1 0) v4)) σ v1
set_option maxRecDepth 20000 in
theorem kc_wo_use_t_ru_value_284  {E : gEnv} {l : Launch} {D : va_G} {G : gAd} {post : CS → Int32 → Prop} (hE : gOK E cX11_use RX11 (some .int) 6) (hm : cOK E l D G (pI post) 7) (hF : gFin E) (σ : CS) (v1 : Nat) (v4 : Int32) (h : wc_wo_use_t_ru_value_284 post σ v1 v4) : GW E (cW G σ) 284 [(0, .ref (G.1 1300)), (1, .ref (G.1 (7000 + v1))), (4, .int v4)] [] := by
  unfold wc_wo_use_t_ru_value_284 at h
  have hN := hm.2.2.2.2.2.2.1
  refine r_aload_n hE 0 dX11_use_g8.1 rfl rfl ?_
  refine r_aload_n hE 1 dX11_use_g8.2.1 rfl rfl ?_
  refine c_callVv hE hm [.ref (G.1 (7000 + v1))] [] ck_X11_143 (cr_wo hm rfl) (kc_wo_makeLine_t h) (by decide) rfl rfl (Nat.le_of_ble_eq_true rfl) dX11_use_g8.2.2.1 (fun s1 h => ?_)
  refine r_aload_n hE 0 dX11_use_g8.2.2.2.1 rfl rfl ?_
  refine r_aload_n hE 1 dX11_use_g8.2.2.2.2.1 rfl rfl ?_
  obtain ⟨hx, h⟩ := h
  refine kt_makes hE hm hx fk_X11_97 dX11_use_g8.2.2.2.2.2.1 ?_
  refine r_iload hE 2 dX11_use_g8.2.2.2.2.2.2.1 rfl ?_
  refine c_callVi hE hm [.int (tMake.getD v1 0), .int v4] [] ck_X11_146 (cr_wo hm rfl) (kc_wo_newLine h) (by decide) rfl rfl (Nat.le_of_ble_eq_true rfl) dX11_use_g8.2.2.2.2.2.2.2.1 (fun s2 r3 h => ?_)
  exact c_iret hE hm hF dX11_use_g8.2.2.2.2.2.2.2.2 h
def wc_wo_use_t_ru_value_192 (post : CS → Int32 → Prop) (σ : CS) (v4 : Int32) (t0 : Int64) : Prop := ((¬ ((c_rk_failure σ) = (0 : Int32))) → (post σ (-1 : Int32))) ∧ (((c_rk_failure σ) = (0 : Int32)) → (wc_th_addNumber (fun (s4 : CS) (r5 : Int32) => post s4 r5) σ t0 v4))
set_option maxRecDepth 20000 in
theorem kc_wo_use_t_ru_value_192  {E : gEnv} {l : Launch} {D : va_G} {G : gAd} {post : CS → Int32 → Prop} (hE : gOK E cX11_use RX11 (some .int) 6) (hm : cOK E l D G (pI post) 7) (hF : gFin E) (σ : CS) (v4 : Int32) (t0 : Int64) (h : wc_wo_use_t_ru_value_192 post σ v4 t0) : GW E (cW G σ) 192 [(0, .ref (G.1 1300)), (4, .int v4)] [.long t0] := by
  unfold wc_wo_use_t_ru_value_192 at h
  have hN := hm.2.2.2.2.2.2.1
  refine r_lstore hE [(5, .long t0), (0, .ref (G.1 1300)), (4, .int v4)] dX11_use_g4.2.2.2.2.2.2.2.2.2.2.2.2.2.2.1 hN (by decide) rfl ?_
  refine r_aload_n hE 1 dX11_use_g4.2.2.2.2.2.2.2.2.2.2.2.2.2.2.2 rfl rfl ?_
  refine cg_wo_reckoner hE hm fk_X11_36 dX11_use_g5.1 ?_
  refine cg_rk_failure hE hm fk_X11_65 dX11_use_g5.2.1 ?_
  refine r_if_ne hE 218 dX11_use_g5.2.2.1 (by decide) h (fun h => ?_) (fun h => ?_)
  · refine r_iconst (v := (-1 : Int32)) hE dX11_use_g5.2.2.2.2.2.2.2.2.2.1 (by decide) ?_
    exact c_iret hE hm hF dX11_use_g5.2.2.2.2.2.2.2.2.2.2.1 h
  · refine r_aload_n hE 1 dX11_use_g5.2.2.2.1 rfl rfl ?_
    refine cg_wo_things hE hm fk_X11_40 dX11_use_g5.2.2.2.2.1 ?_
    refine r_lload hE 0 dX11_use_g5.2.2.2.2.2.1 rfl ?_
    refine r_iload hE 2 dX11_use_g5.2.2.2.2.2.2.1 rfl ?_
    refine c_callVi hE hm [.long t0, .int v4] [] ck_X11_107 (cr_th hm rfl) (kc_th_addNumber h) (by decide) rfl rfl (Nat.le_of_ble_eq_true rfl) dX11_use_g5.2.2.2.2.2.2.2.1 (fun s4 r5 h => ?_)
    refine r_goto hE 219 dX11_use_g5.2.2.2.2.2.2.2.2.1 (by decide) ?_
    exact c_iret hE hm hF dX11_use_g5.2.2.2.2.2.2.2.2.2.2.1 h
def wc_wo_use_t_ru_value_271 (post : CS → Int32 → Prop) (σ : CS) (v4 : Int32) : Prop := wc_wo_newCircle (fun (s6 : CS) (r7 : Int32) => post s6 r7) σ v4
set_option maxRecDepth 20000 in
theorem kc_wo_use_t_ru_value_271  {E : gEnv} {l : Launch} {D : va_G} {G : gAd} {post : CS → Int32 → Prop} (hE : gOK E cX11_use RX11 (some .int) 6) (hm : cOK E l D G (pI post) 7) (hF : gFin E) (σ : CS) (v4 : Int32) (h : wc_wo_use_t_ru_value_271 post σ v4) : GW E (cW G σ) 271 [(0, .ref (G.1 1300)), (4, .int v4)] [] := by
  unfold wc_wo_use_t_ru_value_271 at h
  have hN := hm.2.2.2.2.2.2.1
  refine r_aload_n hE 0 dX11_use_g7.2.2.2.2.2.2.2.2.1 rfl rfl ?_
  refine r_iload hE 1 dX11_use_g7.2.2.2.2.2.2.2.2.2.1 rfl ?_
  refine c_callVi hE hm [.int v4] [] ck_X11_136 (cr_wo hm rfl) (kc_wo_newCircle h) (by decide) rfl rfl (Nat.le_of_ble_eq_true rfl) dX11_use_g7.2.2.2.2.2.2.2.2.2.2.1 (fun s6 r7 h => ?_)
  exact c_iret hE hm hF dX11_use_g7.2.2.2.2.2.2.2.2.2.2.2.1 h
def wc_wo_use_t_ru_value_109 (post : CS → Int32 → Prop) (σ : CS) (v1 : Nat) (v4 : Int32) : Prop := (((c_rk_failure σ) = (0 : Int32)) → (v1 < 39 ∧ (((tMake.getD v1 0) = (0 : Int32) → (v1 < 39 ∧ ((tWant.getD v1 0) < 87 ∧ (wc_sSJ0_length_8abf5 (fun (s8 : CS) (r9 : Int32) => ((¬ (r9 = (1 : Int32))) → (wc_wo_measured_t (fun (s10 : CS) (r11 : Int64) => wc_wo_use_t_ru_value_192 post s10 v4 r11) s8 v1)) ∧ ((r9 = (1 : Int32)) → (wc_wo_told_t (fun (s12 : CS) (r13 : Int64) => wc_wo_use_t_ru_value_192 post s12 v4 r13) s8 v1))) σ (tWant.getD v1 0))))) ∧ (¬ (tMake.getD v1 0) = (0 : Int32) → (((tMake.getD v1 0) = (1 : Int32) → (wc_wo_makePoint_t (fun (s14 : CS) => wc_wo_newPoint (fun (s15 : CS) (r16 : Int32) => post s15 r16) s14 (1 : Int32) v4) σ v1)) ∧ (¬ (tMake.getD v1 0) = (1 : Int32) → (((tMake.getD v1 0) = (2 : Int32) → (wc_wo_newFree (fun (s17 : CS) (r18 : Int32) => post s17 r18) σ v4)) ∧ (¬ (tMake.getD v1 0) = (2 : Int32) → (((tMake.getD v1 0) = (3 : Int32) → (wc_wo_use_t_ru_value_284 post σ v1 v4)) ∧ (¬ (tMake.getD v1 0) = (3 : Int32) → (((tMake.getD v1 0) = (4 : Int32) → (wc_wo_use_t_ru_value_284 post σ v1 v4)) ∧ (¬ (tMake.getD v1 0) = (4 : Int32) → (((tMake.getD v1 0) = (5 : Int32) → (v1 < 39 ∧ ((¬ v1 = 36 → (wc_wo_makeCircle_t (fun (s19 : CS) => wc_wo_use_t_ru_value_271 post s19 v4) σ v1)) ∧ (v1 = 36 → (wc_wo_given (fun (s20 : CS) (r21 : Int64) => wc_wo_given (fun (s22 : CS) (r23 : Int64) => wc_wo_ring (fun (s24 : CS) => wc_wo_use_t_ru_value_271 post s24 v4) s22 r21 r23) s20 (0 : Int32) (1 : Int32)) σ (0 : Int32) (0 : Int32)))))) ∧ (¬ (tMake.getD v1 0) = (5 : Int32) → (((tMake.getD v1 0) = (6 : Int32) → (wc_wo_newRow_t (fun (s25 : CS) (r26 : Int32) => post s25 r26) σ v1)) ∧ (¬ (tMake.getD v1 0) = (6 : Int32) → (wc_wo_use_t_ru_value_284 post σ v1 v4))))))))))))))))) ∧ ((¬ ((c_rk_failure σ) = (0 : Int32))) → (post σ (-1 : Int32)))
set_option maxRecDepth 20000 in
theorem kc_wo_use_t_ru_value_109  {E : gEnv} {l : Launch} {D : va_G} {G : gAd} {post : CS → Int32 → Prop} (hE : gOK E cX11_use RX11 (some .int) 6) (hm : cOK E l D G (pI post) 7) (hF : gFin E) (σ : CS) (v1 : Nat) (v4 : Int32) (h : wc_wo_use_t_ru_value_109 post σ v1 v4) : GW E (cW G σ) 109 [(0, .ref (G.1 1300)), (1, .ref (G.1 (7000 + v1))), (4, .int v4)] [] := by
  unfold wc_wo_use_t_ru_value_109 at h
  have hN := hm.2.2.2.2.2.2.1
  refine r_aload_n hE 0 dX11_use_g3.2.2.2.2.2.2.2.2.2.1 rfl rfl ?_
  refine cg_wo_reckoner hE hm fk_X11_36 dX11_use_g3.2.2.2.2.2.2.2.2.2.2.1 ?_
  refine cg_rk_failure hE hm fk_X11_65 dX11_use_g3.2.2.2.2.2.2.2.2.2.2.2.1 ?_
  refine r_if_eq hE 121 dX11_use_g3.2.2.2.2.2.2.2.2.2.2.2.2.1 (by decide) h (fun h => ?_) (fun h => ?_)
  · refine r_aload_n hE 1 dX11_use_g3.2.2.2.2.2.2.2.2.2.2.2.2.2.2.2 rfl rfl ?_
    obtain ⟨hx, h⟩ := h
    refine kt_makes hE hm hx fk_X11_97 dX11_use_g4.1 ?_
    refine r_case (0 : Int32) h (fun q0 h => ?_) (fun q0 h => ?_)
    · refine r_tableAt (off := 43) hE (0 : Int32) 168 dX11_use_g4.2.1 q0 (by decide) (by decide) (by decide) (by decide) ?_
      refine r_aload_n hE 1 dX11_use_g4.2.2.1 rfl rfl ?_
      obtain ⟨hx, h⟩ := h
      refine kt_wants hE hm hx fk_X11_77 dX11_use_g4.2.2.2.1 ?_
      obtain ⟨hx, h⟩ := h
      refine c_callKi hE hm [] [] ck_X11_83 ((c_z hE hm).2.2.1 _ hx).1 (kc_sSJ0_length_8abf5 h) (by decide) rfl rfl (Nat.le_of_ble_eq_true rfl) dX11_use_g4.2.2.2.2.1 (fun s8 r9 h => ?_)
      refine r_iconst (v := (1 : Int32)) hE dX11_use_g4.2.2.2.2.2.1 (by decide) ?_
      refine r_icmp_ne hE 187 dX11_use_g4.2.2.2.2.2.2.1 (by decide) h (fun h => ?_) (fun h => ?_)
      · refine r_aload_n hE 0 dX11_use_g4.2.2.2.2.2.2.2.2.2.2.2.1 rfl rfl ?_
        refine r_aload_n hE 1 dX11_use_g4.2.2.2.2.2.2.2.2.2.2.2.2.1 rfl rfl ?_
        refine c_callVl hE hm [.ref (G.1 (7000 + v1))] [] ck_X11_104 (cr_wo hm rfl) (kc_wo_measured_t h) (by decide) rfl rfl (Nat.le_of_ble_eq_true rfl) dX11_use_g4.2.2.2.2.2.2.2.2.2.2.2.2.2.1 (fun s10 r11 h => ?_)
        refine r_pick [0, 2] rfl ?_
        exact kc_wo_use_t_ru_value_192 hE hm hF _ _ _ h
      · refine r_aload_n hE 0 dX11_use_g4.2.2.2.2.2.2.2.1 rfl rfl ?_
        refine r_aload_n hE 1 dX11_use_g4.2.2.2.2.2.2.2.2.1 rfl rfl ?_
        refine c_callVl hE hm [.ref (G.1 (7000 + v1))] [] ck_X11_100 (cr_wo hm rfl) (kc_wo_told_t h) (by decide) rfl rfl (Nat.le_of_ble_eq_true rfl) dX11_use_g4.2.2.2.2.2.2.2.2.2.1 (fun s12 r13 h => ?_)
        refine r_goto hE 192 dX11_use_g4.2.2.2.2.2.2.2.2.2.2.1 (by decide) ?_
        refine r_pick [0, 2] rfl ?_
        exact kc_wo_use_t_ru_value_192 hE hm hF _ _ _ h
    · refine r_case (1 : Int32) h (fun q1 h => ?_) (fun q1 h => ?_)
      · refine r_tableAt (off := 95) hE (1 : Int32) 220 dX11_use_g4.2.1 q1 (by decide) (by decide) (by decide) (by decide) ?_
        refine r_aload_n hE 0 dX11_use_g5.2.2.2.2.2.2.2.2.2.2.2.1 rfl rfl ?_
        refine r_aload_n hE 1 dX11_use_g5.2.2.2.2.2.2.2.2.2.2.2.2.1 rfl rfl ?_
        refine c_callVv hE hm [.ref (G.1 (7000 + v1))] [] ck_X11_111 (cr_wo hm rfl) (kc_wo_makePoint_t h) (by decide) rfl rfl (Nat.le_of_ble_eq_true rfl) dX11_use_g5.2.2.2.2.2.2.2.2.2.2.2.2.2.1 (fun s14 h => ?_)
        refine r_aload_n hE 0 dX11_use_g5.2.2.2.2.2.2.2.2.2.2.2.2.2.2.1 rfl rfl ?_
        refine r_iconst (v := (1 : Int32)) hE dX11_use_g5.2.2.2.2.2.2.2.2.2.2.2.2.2.2.2 (by decide) ?_
        refine r_iload hE 2 dX11_use_g6.1 rfl ?_
        refine c_callVi hE hm [.int (1 : Int32), .int v4] [] ck_X11_115 (cr_wo hm rfl) (kc_wo_newPoint h) (by decide) rfl rfl (Nat.le_of_ble_eq_true rfl) dX11_use_g6.2.1 (fun s15 r16 h => ?_)
        exact c_iret hE hm hF dX11_use_g6.2.2.1 h
      · refine r_case (2 : Int32) h (fun q2 h => ?_) (fun q2 h => ?_)
        · refine r_tableAt (off := 108) hE (2 : Int32) 233 dX11_use_g4.2.1 q2 (by decide) (by decide) (by decide) (by decide) ?_
          refine r_aload_n hE 0 dX11_use_g6.2.2.2.1 rfl rfl ?_
          refine r_iload hE 2 dX11_use_g6.2.2.2.2.1 rfl ?_
          refine c_callVi hE hm [.int v4] [] ck_X11_119 (cr_wo hm rfl) (kc_wo_newFree h) (by decide) rfl rfl (Nat.le_of_ble_eq_true rfl) dX11_use_g6.2.2.2.2.2.1 (fun s17 r18 h => ?_)
          exact c_iret hE hm hF dX11_use_g6.2.2.2.2.2.2.1 h
        · refine r_case (3 : Int32) h (fun q3 h => ?_) (fun q3 h => ?_)
          · refine r_tableAt (off := 159) hE (3 : Int32) 284 dX11_use_g4.2.1 q3 (by decide) (by decide) (by decide) (by decide) ?_
            exact kc_wo_use_t_ru_value_284 hE hm hF _ _ _ h
          · refine r_case (4 : Int32) h (fun q4 h => ?_) (fun q4 h => ?_)
            · refine r_tableAt (off := 159) hE (4 : Int32) 284 dX11_use_g4.2.1 q4 (by decide) (by decide) (by decide) (by decide) ?_
              exact kc_wo_use_t_ru_value_284 hE hm hF _ _ _ h
            · refine r_case (5 : Int32) h (fun q5 h => ?_) (fun q5 h => ?_)
              · refine r_tableAt (off := 115) hE (5 : Int32) 240 dX11_use_g4.2.1 q5 (by decide) (by decide) (by decide) (by decide) ?_
                refine r_aload_n hE 1 dX11_use_g6.2.2.2.2.2.2.2.1 rfl rfl ?_
                refine kz_tool (n := "RING") (t := 36) hE hm (List.mem_of_getElem? (i := 4) rfl) fk_X11_122 dX11_use_g6.2.2.2.2.2.2.2.2.1 ?_
                obtain ⟨hx, h⟩ := h
                refine kt_acmp hE hm hx (by decide) 266 dX11_use_g6.2.2.2.2.2.2.2.2.2.1 (by decide) h (fun h => ?_) (fun h => ?_)
                · refine r_aload_n hE 0 dX11_use_g7.2.2.2.2.2.1 rfl rfl ?_
                  refine r_aload_n hE 1 dX11_use_g7.2.2.2.2.2.2.1 rfl rfl ?_
                  refine c_callVv hE hm [.ref (G.1 (7000 + v1))] [] ck_X11_133 (cr_wo hm rfl) (kc_wo_makeCircle_t h) (by decide) rfl rfl (Nat.le_of_ble_eq_true rfl) dX11_use_g7.2.2.2.2.2.2.2.1 (fun s19 h => ?_)
                  refine r_pick [0, 2] rfl ?_
                  exact kc_wo_use_t_ru_value_271 hE hm hF _ _ h
                · refine r_aload_n hE 0 dX11_use_g6.2.2.2.2.2.2.2.2.2.2.1 rfl rfl ?_
                  refine r_aload_n hE 0 dX11_use_g6.2.2.2.2.2.2.2.2.2.2.2.1 rfl rfl ?_
                  refine r_iconst (v := (0 : Int32)) hE dX11_use_g6.2.2.2.2.2.2.2.2.2.2.2.2.1 (by decide) ?_
                  refine r_iconst (v := (0 : Int32)) hE dX11_use_g6.2.2.2.2.2.2.2.2.2.2.2.2.2.1 (by decide) ?_
                  refine c_callVl hE hm [.int (0 : Int32), .int (0 : Int32)] [.ref (G.1 1300)] ck_X11_126 (cr_wo hm rfl) (kc_wo_given h) (by decide) rfl rfl (Nat.le_of_ble_eq_true rfl) dX11_use_g6.2.2.2.2.2.2.2.2.2.2.2.2.2.2.1 (fun s20 r21 h => ?_)
                  refine r_aload_n hE 0 dX11_use_g6.2.2.2.2.2.2.2.2.2.2.2.2.2.2.2 rfl rfl ?_
                  refine r_iconst (v := (0 : Int32)) hE dX11_use_g7.1 (by decide) ?_
                  refine r_iconst (v := (1 : Int32)) hE dX11_use_g7.2.1 (by decide) ?_
                  refine c_callVl hE hm [.int (0 : Int32), .int (1 : Int32)] [.long r21, .ref (G.1 1300)] ck_X11_126 (cr_wo hm rfl) (kc_wo_given h) (by decide) rfl rfl (Nat.le_of_ble_eq_true rfl) dX11_use_g7.2.2.1 (fun s22 r23 h => ?_)
                  refine c_callVv hE hm [.long r21, .long r23] [] ck_X11_129 (cr_wo hm rfl) (kc_wo_ring h) (by decide) rfl rfl (Nat.le_of_ble_eq_true rfl) dX11_use_g7.2.2.2.1 (fun s24 h => ?_)
                  refine r_goto hE 271 dX11_use_g7.2.2.2.2.1 (by decide) ?_
                  refine r_pick [0, 2] rfl ?_
                  exact kc_wo_use_t_ru_value_271 hE hm hF _ _ h
              · refine r_case (6 : Int32) h (fun q6 h => ?_) (fun q6 h => ?_)
                · refine r_tableAt (off := 153) hE (6 : Int32) 278 dX11_use_g4.2.1 q6 (by decide) (by decide) (by decide) (by decide) ?_
                  refine r_aload_n hE 0 dX11_use_g7.2.2.2.2.2.2.2.2.2.2.2.2.1 rfl rfl ?_
                  refine r_aload_n hE 1 dX11_use_g7.2.2.2.2.2.2.2.2.2.2.2.2.2.1 rfl rfl ?_
                  refine c_callVi hE hm [.ref (G.1 (7000 + v1))] [] ck_X11_139 (cr_wo hm rfl) (kc_wo_newRow_t h) (by decide) rfl rfl (Nat.le_of_ble_eq_true rfl) dX11_use_g7.2.2.2.2.2.2.2.2.2.2.2.2.2.2.1 (fun s25 r26 h => ?_)
                  exact c_iret hE hm hF dX11_use_g7.2.2.2.2.2.2.2.2.2.2.2.2.2.2.2 h
                · have n0 := lv_neT q0 (show (0 : Int32).toInt = 0 by decide)
                  have n1 := lv_neT q1 (show (1 : Int32).toInt = 1 by decide)
                  have n2 := lv_neT q2 (show (2 : Int32).toInt = 2 by decide)
                  have n3 := lv_neT q3 (show (3 : Int32).toInt = 3 by decide)
                  have n4 := lv_neT q4 (show (4 : Int32).toInt = 4 by decide)
                  have n5 := lv_neT q5 (show (5 : Int32).toInt = 5 by decide)
                  have n6 := lv_neT q6 (show (6 : Int32).toInt = 6 by decide)
                  refine r_tableOut hE 284 dX11_use_g4.2.1 (by omega) (by decide) ?_
                  exact kc_wo_use_t_ru_value_284 hE hm hF _ _ _ h
  · refine r_iconst (v := (-1 : Int32)) hE dX11_use_g3.2.2.2.2.2.2.2.2.2.2.2.2.2.1 (by decide) ?_
    exact c_iret hE hm hF dX11_use_g3.2.2.2.2.2.2.2.2.2.2.2.2.2.2.1 h
def wc_wo_use_t_ru_value_63 (post : CS → Int32 → Prop) (lp13 : CS → Nat → Int32 → Int32 → Int32 → Prop) (σ : CS) (v1 : Nat) (v3 : Int32) (v4 : Int32) (v5 : Int32) (t1 : Int32) (t2 : Int32) : Prop := vp_in t1 3 ∧ (∀ s27 : CS, s27 = c_wo_arguments_s σ t1.toNatClampNeg t2 → vp_in v5 3 ∧ (v1 < 39 ∧ ((tWant.getD v1 0) < 87 ∧ (wc_sSJ0_charAt_5068e (fun (s28 : CS) (r29 : Int32) => wc_wo_ask (fun (s30 : CS) => vp_in v5 3 ∧ (wc_th_leaningOf (fun (s31 : CS) (r32 : Int32) => ∀ x33 : Int32, x33 = v4 ||| r32 → ∀ x34 : Int32, x34 = v5 + (1 : Int32) → lp13 s31 v1 v3 x33 x34) s30 (c_wo_arguments s30 v5.toNatClampNeg))) s28 (c_wo_arguments s27 v5.toNatClampNeg) r29) s27 (tWant.getD v1 0) v5))))
set_option maxRecDepth 20000 in
theorem kc_wo_use_t_ru_value_63  {E : gEnv} {l : Launch} {D : va_G} {G : gAd} {post : CS → Int32 → Prop} (hE : gOK E cX11_use RX11 (some .int) 6) (hm : cOK E l D G (pI post) 7) (hF : gFin E) {lp13 : CS → Nat → Int32 → Int32 → Int32 → Prop} (hl13 : ∀ (σ : CS) (v1 : Nat) (v3 : Int32) (v4 : Int32) (v5 : Int32), lp13 σ v1 v3 v4 v5 → GW E (cW G σ) 13 [(0, .ref (G.1 1300)), (1, .ref (G.1 (7000 + v1))), (2, .ref (G.1 1210)), (3, .int v3), (4, .int v4), (5, .int v5)] []) (σ : CS) (v1 : Nat) (v3 : Int32) (v4 : Int32) (v5 : Int32) (t1 : Int32) (t2 : Int32) (h : wc_wo_use_t_ru_value_63 post lp13 σ v1 v3 v4 v5 t1 t2) : GW E (cW G σ) 63 [(0, .ref (G.1 1300)), (1, .ref (G.1 (7000 + v1))), (2, .ref (G.1 1210)), (3, .int v3), (4, .int v4), (5, .int v5)] [.int t2, .int t1, .ref (G.1 1304)] := by
  unfold wc_wo_use_t_ru_value_63 at h
  have hN := hm.2.2.2.2.2.2.1
  obtain ⟨hi, h⟩ := h
  refine cs_wo_arguments hE hm dX11_use_g2.2.2.1 hi h (fun s27 h => ?_)
  refine r_aload_n hE 0 dX11_use_g2.2.2.2.1 rfl rfl ?_
  refine r_aload_n hE 0 dX11_use_g2.2.2.2.2.1 rfl rfl ?_
  refine cg_wo_arguments hE hm fk_X11_9 dX11_use_g2.2.2.2.2.2.1 ?_
  refine r_iload hE 5 dX11_use_g2.2.2.2.2.2.2.1 rfl ?_
  obtain ⟨hi, h⟩ := h
  refine cl_wo_arguments hE hm dX11_use_g2.2.2.2.2.2.2.2.1 hi ?_
  refine r_aload_n hE 1 dX11_use_g2.2.2.2.2.2.2.2.2.1 rfl rfl ?_
  obtain ⟨hx, h⟩ := h
  refine kt_wants hE hm hx fk_X11_77 dX11_use_g2.2.2.2.2.2.2.2.2.2.1 ?_
  refine r_iload hE 5 dX11_use_g2.2.2.2.2.2.2.2.2.2.2.1 rfl ?_
  obtain ⟨hx, h⟩ := h
  refine c_callKi hE hm [.int v5] [.int (c_wo_arguments s27 v5.toNatClampNeg), .ref (G.1 1300)] ck_X11_89 ((c_z hE hm).2.2.1 _ hx).1 (kc_sSJ0_charAt_5068e h) (by decide) rfl rfl (Nat.le_of_ble_eq_true rfl) dX11_use_g2.2.2.2.2.2.2.2.2.2.2.2.1 (fun s28 r29 h => ?_)
  refine c_callVv hE hm [.int (c_wo_arguments s27 v5.toNatClampNeg), .int r29] [] ck_X11_61 (cr_wo hm rfl) (kc_wo_ask h) (by decide) rfl rfl (Nat.le_of_ble_eq_true rfl) dX11_use_g2.2.2.2.2.2.2.2.2.2.2.2.2.1 (fun s30 h => ?_)
  refine r_iload hE 4 dX11_use_g2.2.2.2.2.2.2.2.2.2.2.2.2.2.1 rfl ?_
  refine r_aload_n hE 0 dX11_use_g2.2.2.2.2.2.2.2.2.2.2.2.2.2.2.1 rfl rfl ?_
  refine cg_wo_things hE hm fk_X11_40 dX11_use_g2.2.2.2.2.2.2.2.2.2.2.2.2.2.2.2 ?_
  refine r_aload_n hE 0 dX11_use_g3.1 rfl rfl ?_
  refine cg_wo_arguments hE hm fk_X11_9 dX11_use_g3.2.1 ?_
  refine r_iload hE 5 dX11_use_g3.2.2.1 rfl ?_
  obtain ⟨hi, h⟩ := h
  refine cl_wo_arguments hE hm dX11_use_g3.2.2.2.1 hi ?_
  refine c_callVi hE hm [.int (c_wo_arguments s30 v5.toNatClampNeg)] [.int v4] ck_X11_93 (cr_th hm rfl) (kc_th_leaningOf h) (by decide) rfl rfl (Nat.le_of_ble_eq_true rfl) dX11_use_g3.2.2.2.2.1 (fun s31 r32 h => ?_)
  refine r_ior hE dX11_use_g3.2.2.2.2.2.1 ?_
  refine r_topi h (fun x33 ex33 h => ?_)
  refine r_istore hE [(4, .int x33), (0, .ref (G.1 1300)), (1, .ref (G.1 (7000 + v1))), (2, .ref (G.1 1210)), (3, .int v3), (5, .int v5)] dX11_use_g3.2.2.2.2.2.2.1 hN (by decide) rfl ?_
  obtain ⟨x34, ex34⟩ : ∃ z : Int32, z = v5 + (1 : Int32) := ⟨_, rfl⟩
  have h := h x34 ex34
  refine r_iinc (v := x34) hE [(5, .int x34), (4, .int x33), (0, .ref (G.1 1300)), (1, .ref (G.1 (7000 + v1))), (2, .ref (G.1 1210)), (3, .int v3)] 5 dX11_use_g3.2.2.2.2.2.2.2.1 rfl (by rw [ex34]; rfl) hN (by decide) rfl ?_
  refine r_goto hE 13 dX11_use_g3.2.2.2.2.2.2.2.2.1 (by decide) ?_
  refine r_pick [2, 3, 4, 5, 1, 0] rfl ?_
  exact hl13 _ _ _ _ _ h
def wc_wo_use_t_ru_value_13 (post : CS → Int32 → Prop) : Nat → CS → Nat → Int32 → Int32 → Int32 → Prop
  | 0, _, _, _, _, _ => False
  | n + 1, σ, v1, v3, v4, v5 => v1 < 39 ∧ ((tWant.getD v1 0) < 87 ∧ (wc_sSJ0_length_8abf5 (fun (s35 : CS) (r36 : Int32) => ((r36 ≤ v5) → (wc_wo_use_t_ru_value_109 post s35 v1 v4)) ∧ ((¬ (r36 ≤ v5)) → ((((3 : Int32) ≤ v5) → (wc_wo_use_t_ru_value_109 post s35 v1 v4)) ∧ ((¬ ((3 : Int32) ≤ v5)) → (wc_SX12_inside (fun (s37 : CS) (r38 : Int32) => ((r38 = (0 : Int32)) → (wc_wo_use_t_ru_value_63 post (fun (ys : CS) (y0 : Nat) (y1 : Int32) (y2 : Int32) (y3 : Int32) => wc_wo_use_t_ru_value_13 post n ys y0 y1 y2 y3) s37 v1 v3 v4 v5 v5 (-1 : Int32))) ∧ ((¬ (r38 = (0 : Int32))) → (vp_in (v3 + v5) 401 ∧ (wc_wo_use_t_ru_value_63 post (fun (ys : CS) (y0 : Nat) (y1 : Int32) (y2 : Int32) (y3 : Int32) => wc_wo_use_t_ru_value_13 post n ys y0 y1 y2 y3) s37 v1 v3 v4 v5 v5 (c_ru_value s37 (v3 + v5).toNatClampNeg))))) s35 (v3 + v5) (401 : Int32)))))) σ (tWant.getD v1 0)))
set_option maxRecDepth 20000 in
theorem kc_wo_use_t_ru_value_13  {E : gEnv} {l : Launch} {D : va_G} {G : gAd} {post : CS → Int32 → Prop} (hE : gOK E cX11_use RX11 (some .int) 6) (hm : cOK E l D G (pI post) 7) (hF : gFin E) : ∀ (n0 : Nat) (σ : CS) (v1 : Nat) (v3 : Int32) (v4 : Int32) (v5 : Int32), wc_wo_use_t_ru_value_13 post n0 σ v1 v3 v4 v5 → GW E (cW G σ) 13 [(0, .ref (G.1 1300)), (1, .ref (G.1 (7000 + v1))), (2, .ref (G.1 1210)), (3, .int v3), (4, .int v4), (5, .int v5)] [] := by
  intro n0
  induction n0 with
  | zero => intro σ v1 v3 v4 v5 h; exact h.elim
  | succ n0 ih =>
    intro σ v1 v3 v4 v5 h
    rw [wc_wo_use_t_ru_value_13] at h
    have hN := hm.2.2.2.2.2.2.1
    refine r_iload hE 5 dX11_use_g0.2.2.2.2.2.2.2.1 rfl ?_
    refine r_aload_n hE 1 dX11_use_g0.2.2.2.2.2.2.2.2.1 rfl rfl ?_
    obtain ⟨hx, h⟩ := h
    refine kt_wants hE hm hx fk_X11_77 dX11_use_g0.2.2.2.2.2.2.2.2.2.1 ?_
    obtain ⟨hx, h⟩ := h
    refine c_callKi hE hm [] [.int v5] ck_X11_83 ((c_z hE hm).2.2.1 _ hx).1 (kc_sSJ0_length_8abf5 h) (by decide) rfl rfl (Nat.le_of_ble_eq_true rfl) dX11_use_g0.2.2.2.2.2.2.2.2.2.2.1 (fun s35 r36 h => ?_)
    refine r_icmp_ge hE 109 dX11_use_g0.2.2.2.2.2.2.2.2.2.2.2.1 (by decide) h (fun h => ?_) (fun h => ?_)
    · refine r_pick [0, 1, 4] rfl ?_
      exact kc_wo_use_t_ru_value_109 hE hm hF _ _ _ h
    · refine r_iload hE 5 dX11_use_g0.2.2.2.2.2.2.2.2.2.2.2.2.1 rfl ?_
      refine r_aload_n hE 0 dX11_use_g0.2.2.2.2.2.2.2.2.2.2.2.2.2.1 rfl rfl ?_
      refine cg_wo_arguments hE hm fk_X11_9 dX11_use_g0.2.2.2.2.2.2.2.2.2.2.2.2.2.2.1 ?_
      refine cn_wo_arguments hE hm dX11_use_g0.2.2.2.2.2.2.2.2.2.2.2.2.2.2.2 ?_
      refine r_icmp_ge hE 109 dX11_use_g1.1 (by decide) h (fun h => ?_) (fun h => ?_)
      · refine r_pick [0, 1, 4] rfl ?_
        exact kc_wo_use_t_ru_value_109 hE hm hF _ _ _ h
      · refine r_aload_n hE 0 dX11_use_g1.2.1 rfl rfl ?_
        refine cg_wo_arguments hE hm fk_X11_9 dX11_use_g1.2.2.1 ?_
        refine r_iload hE 5 dX11_use_g1.2.2.2.1 rfl ?_
        refine r_iload_n hE 3 dX11_use_g1.2.2.2.2.1 rfl rfl ?_
        refine r_iload hE 5 dX11_use_g1.2.2.2.2.2.1 rfl ?_
        refine r_iadd hE dX11_use_g1.2.2.2.2.2.2.1 ?_
        refine r_aload_n hE 2 dX11_use_g1.2.2.2.2.2.2.2.1 rfl rfl ?_
        refine cn_ru_value hE hm dX11_use_g1.2.2.2.2.2.2.2.2.1 ?_
        refine c_callSNi hE hm [.int (v3 + v5), .int (401 : Int32)] [.int v5, .ref (G.1 1304)] ck_X11_69 cw_X11_69 (kc_SX12_inside h) (by decide) rfl rfl (Nat.le_of_ble_eq_true rfl) dX11_use_g1.2.2.2.2.2.2.2.2.2.1 (fun s37 r38 h => ?_)
        refine r_if_eq hE 62 dX11_use_g1.2.2.2.2.2.2.2.2.2.2.1 (by decide) h (fun h => ?_) (fun h => ?_)
        · refine r_iconst (v := (-1 : Int32)) hE dX11_use_g2.2.1 (by decide) ?_
          exact kc_wo_use_t_ru_value_63 hE hm hF ih _ _ _ _ _ _ _ h
        · refine r_aload_n hE 2 dX11_use_g1.2.2.2.2.2.2.2.2.2.2.2.1 rfl rfl ?_
          refine r_iload_n hE 3 dX11_use_g1.2.2.2.2.2.2.2.2.2.2.2.2.1 rfl rfl ?_
          refine r_iload hE 5 dX11_use_g1.2.2.2.2.2.2.2.2.2.2.2.2.2.1 rfl ?_
          refine r_iadd hE dX11_use_g1.2.2.2.2.2.2.2.2.2.2.2.2.2.2.1 ?_
          obtain ⟨hi, h⟩ := h
          refine cl_ru_value hE hm dX11_use_g1.2.2.2.2.2.2.2.2.2.2.2.2.2.2.2 hi ?_
          refine r_goto hE 63 dX11_use_g2.1 (by decide) ?_
          exact kc_wo_use_t_ru_value_63 hE hm hF ih _ _ _ _ _ _ _ h
def wc_wo_use_t_ru_value (post : CS → Int32 → Prop) (σ : CS) (a1 : Nat) (a3 : Int32) : Prop := wc_rk_begin (fun (s39 : CS) => ∃ k : Nat, wc_wo_use_t_ru_value_13 post k s39 a1 a3 (0 : Int32) (0 : Int32)) σ
set_option maxRecDepth 20000 in
theorem kc_wo_use_t_ru_value {l : Launch} {D : va_G} {G : gAd} {post : CS → Int32 → Prop} {σ : CS} {a1 : Nat} {a3 : Int32} (h : wc_wo_use_t_ru_value post σ a1 a3) : cMet l D G yX11_use cX11_use 7 (some .int) 6 [.ref (G.1 1300), .ref (G.1 (7000 + a1)), .ref (G.1 1210), .int a3] σ (pI post) := by
  unfold wc_wo_use_t_ru_value at h
  refine c_enter (own := RX11) (by decide +kernel) rfl [(0, .ref (G.1 1300)), (1, .ref (G.1 (7000 + a1))), (2, .ref (G.1 1210)), (3, .int a3)] rfl (Nat.le_of_ble_eq_true rfl) ?_
  intro E hE hm hF
  have hN := hm.2.2.2.2.2.2.1
  refine r_aload_n hE 0 dX11_use_g0.1 rfl rfl ?_
  refine cg_wo_reckoner hE hm fk_X11_36 dX11_use_g0.2.1 ?_
  refine c_callVv hE hm [] [] ck_X11_58 (cr_rk hm rfl) (kc_rk_begin h) (by decide) rfl rfl (Nat.le_of_ble_eq_true rfl) dX11_use_g0.2.2.1 (fun s39 h => ?_)
  refine r_iconst (v := (0 : Int32)) hE dX11_use_g0.2.2.2.1 (by decide) ?_
  refine r_istore hE [(4, .int (0 : Int32)), (0, .ref (G.1 1300)), (1, .ref (G.1 (7000 + a1))), (2, .ref (G.1 1210)), (3, .int a3)] dX11_use_g0.2.2.2.2.1 hN (by decide) rfl ?_
  refine r_iconst (v := (0 : Int32)) hE dX11_use_g0.2.2.2.2.2.1 (by decide) ?_
  refine r_istore hE [(5, .int (0 : Int32)), (4, .int (0 : Int32)), (0, .ref (G.1 1300)), (1, .ref (G.1 (7000 + a1))), (2, .ref (G.1 1210)), (3, .int a3)] dX11_use_g0.2.2.2.2.2.2.1 hN (by decide) rfl ?_
  refine r_pick [2, 3, 4, 5, 1, 0] rfl ?_
  obtain ⟨k, h⟩ := h
  exact kc_wo_use_t_ru_value_13 hE hm hF k _ _ _ _ _ h
