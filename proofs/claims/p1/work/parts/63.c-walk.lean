/-! wo_perpendicular -/
def wc_wo_perpendicular (post : CS → Prop) (σ : CS) (a1 : Int64) (a3 : Int64) (a5 : Int64) (a7 : Int64) : Prop := wc_rk_negative (fun (s1 : CS) (r2 : Int64) => ∀ s3 : CS, s3 = c_wo_a_s s1 r2 → ∀ s4 : CS, s4 = c_wo_b_s s3 a5 → wc_rk_times (fun (s5 : CS) (r6 : Int64) => wc_rk_times (fun (s7 : CS) (r8 : Int64) => wc_rk_plus (fun (s9 : CS) (r10 : Int64) => ∀ s11 : CS, s11 = c_wo_c_s s9 r10 → post s11) s7 r6 r8) s5 (c_wo_b s5) a3) s4 (c_wo_a s4) a1) σ a7
set_option maxRecDepth 20000 in
theorem kc_wo_perpendicular {l : Launch} {D : va_G} {G : gAd} {post : CS → Prop} {σ : CS} {a1 : Int64} {a3 : Int64} {a5 : Int64} {a7 : Int64} (h : wc_wo_perpendicular post σ a1 a3 a5 a7) : cMet l D G yX11_perpendicular cX11_perpendicular 9 none 3 [.ref (G.1 1300), .long a1, .long a3, .long a5, .long a7] σ (pV post) := by
  unfold wc_wo_perpendicular at h
  refine c_enter (own := RX11) (by decide +kernel) rfl [(0, .ref (G.1 1300)), (1, .long a1), (3, .long a3), (5, .long a5), (7, .long a7)] rfl (Nat.le_of_ble_eq_true rfl) ?_
  intro E hE hm hF
  have hN := hm.2.2.2.2.2.2.1
  refine r_aload_n hE 0 dX11_perpendicular_g0.1 rfl rfl ?_
  refine r_aload_n hE 0 dX11_perpendicular_g0.2.1 rfl rfl ?_
  refine cg_wo_reckoner hE hm fk_X11_36 dX11_perpendicular_g0.2.2.1 ?_
  refine r_lload hE 4 dX11_perpendicular_g0.2.2.2.1 rfl ?_
  refine c_callVl hE hm [.long a7] [.ref (G.1 1300)] ck_X11_201 (cr_rk hm rfl) (kc_rk_negative h) (by decide) rfl rfl (Nat.le_of_ble_eq_true rfl) dX11_perpendicular_g0.2.2.2.2.1 (fun s1 r2 h => ?_)
  refine cp_wo_a hE hm fk_X11_24 dX11_perpendicular_g0.2.2.2.2.2.1 h (fun s3 h => ?_)
  refine r_aload_n hE 0 dX11_perpendicular_g0.2.2.2.2.2.2.1 rfl rfl ?_
  refine r_lload hE 3 dX11_perpendicular_g0.2.2.2.2.2.2.2.1 rfl ?_
  refine cp_wo_b hE hm fk_X11_27 dX11_perpendicular_g0.2.2.2.2.2.2.2.2.1 h (fun s4 h => ?_)
  refine r_aload_n hE 0 dX11_perpendicular_g0.2.2.2.2.2.2.2.2.2.1 rfl rfl ?_
  refine r_aload_n hE 0 dX11_perpendicular_g0.2.2.2.2.2.2.2.2.2.2.1 rfl rfl ?_
  refine cg_wo_reckoner hE hm fk_X11_36 dX11_perpendicular_g0.2.2.2.2.2.2.2.2.2.2.2.1 ?_
  refine r_aload_n hE 0 dX11_perpendicular_g0.2.2.2.2.2.2.2.2.2.2.2.2.1 rfl rfl ?_
  refine cg_wo_reckoner hE hm fk_X11_36 dX11_perpendicular_g0.2.2.2.2.2.2.2.2.2.2.2.2.2.1 ?_
  refine r_aload_n hE 0 dX11_perpendicular_g0.2.2.2.2.2.2.2.2.2.2.2.2.2.2.1 rfl rfl ?_
  refine cg_wo_a hE hm fk_X11_24 dX11_perpendicular_g0.2.2.2.2.2.2.2.2.2.2.2.2.2.2.2 ?_
  refine r_lload_n hE 1 dX11_perpendicular_g1.1 rfl rfl ?_
  refine c_callVl hE hm [.long (c_wo_a s4), .long a1] [.ref (G.1 800), .ref (G.1 1300)] ck_X11_236 (cr_rk hm rfl) (kc_rk_times h) (by decide) rfl rfl (Nat.le_of_ble_eq_true rfl) dX11_perpendicular_g1.2.1 (fun s5 r6 h => ?_)
  refine r_aload_n hE 0 dX11_perpendicular_g1.2.2.1 rfl rfl ?_
  refine cg_wo_reckoner hE hm fk_X11_36 dX11_perpendicular_g1.2.2.2.1 ?_
  refine r_aload_n hE 0 dX11_perpendicular_g1.2.2.2.2.1 rfl rfl ?_
  refine cg_wo_b hE hm fk_X11_27 dX11_perpendicular_g1.2.2.2.2.2.1 ?_
  refine r_lload_n hE 2 dX11_perpendicular_g1.2.2.2.2.2.2.1 rfl rfl ?_
  refine c_callVl hE hm [.long (c_wo_b s5), .long a3] [.long r6, .ref (G.1 800), .ref (G.1 1300)] ck_X11_236 (cr_rk hm rfl) (kc_rk_times h) (by decide) rfl rfl (Nat.le_of_ble_eq_true rfl) dX11_perpendicular_g1.2.2.2.2.2.2.2.1 (fun s7 r8 h => ?_)
  refine c_callVl hE hm [.long r6, .long r8] [.ref (G.1 1300)] ck_X11_239 (cr_rk hm rfl) (kc_rk_plus h) (by decide) rfl rfl (Nat.le_of_ble_eq_true rfl) dX11_perpendicular_g1.2.2.2.2.2.2.2.2.1 (fun s9 r10 h => ?_)
  refine cp_wo_c hE hm fk_X11_30 dX11_perpendicular_g1.2.2.2.2.2.2.2.2.2.1 h (fun s11 h => ?_)
  exact c_vret hE hm hF dX11_perpendicular_g1.2.2.2.2.2.2.2.2.2.2 h
/-! wo_through -/
def wc_wo_through (post : CS → Prop) (σ : CS) (a1 : Int64) (a3 : Int64) (a5 : Int64) (a7 : Int64) : Prop := wc_rk_minus (fun (s1 : CS) (r2 : Int64) => ∀ s3 : CS, s3 = c_wo_a_s s1 r2 → wc_rk_minus (fun (s4 : CS) (r5 : Int64) => ∀ s6 : CS, s6 = c_wo_b_s s4 r5 → wc_rk_times (fun (s7 : CS) (r8 : Int64) => wc_rk_times (fun (s9 : CS) (r10 : Int64) => wc_rk_plus (fun (s11 : CS) (r12 : Int64) => ∀ s13 : CS, s13 = c_wo_c_s s11 r12 → post s13) s9 r8 r10) s7 (c_wo_b s7) a3) s6 (c_wo_a s6) a1) s3 a5 a1) σ a3 a7
set_option maxRecDepth 20000 in
theorem kc_wo_through {l : Launch} {D : va_G} {G : gAd} {post : CS → Prop} {σ : CS} {a1 : Int64} {a3 : Int64} {a5 : Int64} {a7 : Int64} (h : wc_wo_through post σ a1 a3 a5 a7) : cMet l D G yX11_through cX11_through 9 none 3 [.ref (G.1 1300), .long a1, .long a3, .long a5, .long a7] σ (pV post) := by
  unfold wc_wo_through at h
  refine c_enter (own := RX11) (by decide +kernel) rfl [(0, .ref (G.1 1300)), (1, .long a1), (3, .long a3), (5, .long a5), (7, .long a7)] rfl (Nat.le_of_ble_eq_true rfl) ?_
  intro E hE hm hF
  have hN := hm.2.2.2.2.2.2.1
  refine r_aload_n hE 0 dX11_through_g0.1 rfl rfl ?_
  refine r_aload_n hE 0 dX11_through_g0.2.1 rfl rfl ?_
  refine cg_wo_reckoner hE hm fk_X11_36 dX11_through_g0.2.2.1 ?_
  refine r_lload_n hE 2 dX11_through_g0.2.2.2.1 rfl rfl ?_
  refine r_lload hE 4 dX11_through_g0.2.2.2.2.1 rfl ?_
  refine c_callVl hE hm [.long a3, .long a7] [.ref (G.1 1300)] ck_X11_226 (cr_rk hm rfl) (kc_rk_minus h) (by decide) rfl rfl (Nat.le_of_ble_eq_true rfl) dX11_through_g0.2.2.2.2.2.1 (fun s1 r2 h => ?_)
  refine cp_wo_a hE hm fk_X11_24 dX11_through_g0.2.2.2.2.2.2.1 h (fun s3 h => ?_)
  refine r_aload_n hE 0 dX11_through_g0.2.2.2.2.2.2.2.1 rfl rfl ?_
  refine r_aload_n hE 0 dX11_through_g0.2.2.2.2.2.2.2.2.1 rfl rfl ?_
  refine cg_wo_reckoner hE hm fk_X11_36 dX11_through_g0.2.2.2.2.2.2.2.2.2.1 ?_
  refine r_lload hE 3 dX11_through_g0.2.2.2.2.2.2.2.2.2.2.1 rfl ?_
  refine r_lload_n hE 1 dX11_through_g0.2.2.2.2.2.2.2.2.2.2.2.1 rfl rfl ?_
  refine c_callVl hE hm [.long a5, .long a1] [.ref (G.1 1300)] ck_X11_226 (cr_rk hm rfl) (kc_rk_minus h) (by decide) rfl rfl (Nat.le_of_ble_eq_true rfl) dX11_through_g0.2.2.2.2.2.2.2.2.2.2.2.2.1 (fun s4 r5 h => ?_)
  refine cp_wo_b hE hm fk_X11_27 dX11_through_g0.2.2.2.2.2.2.2.2.2.2.2.2.2.1 h (fun s6 h => ?_)
  refine r_aload_n hE 0 dX11_through_g0.2.2.2.2.2.2.2.2.2.2.2.2.2.2.1 rfl rfl ?_
  refine r_aload_n hE 0 dX11_through_g0.2.2.2.2.2.2.2.2.2.2.2.2.2.2.2 rfl rfl ?_
  refine cg_wo_reckoner hE hm fk_X11_36 dX11_through_g1.1 ?_
  refine r_aload_n hE 0 dX11_through_g1.2.1 rfl rfl ?_
  refine cg_wo_reckoner hE hm fk_X11_36 dX11_through_g1.2.2.1 ?_
  refine r_aload_n hE 0 dX11_through_g1.2.2.2.1 rfl rfl ?_
  refine cg_wo_a hE hm fk_X11_24 dX11_through_g1.2.2.2.2.1 ?_
  refine r_lload_n hE 1 dX11_through_g1.2.2.2.2.2.1 rfl rfl ?_
  refine c_callVl hE hm [.long (c_wo_a s6), .long a1] [.ref (G.1 800), .ref (G.1 1300)] ck_X11_236 (cr_rk hm rfl) (kc_rk_times h) (by decide) rfl rfl (Nat.le_of_ble_eq_true rfl) dX11_through_g1.2.2.2.2.2.2.1 (fun s7 r8 h => ?_)
  refine r_aload_n hE 0 dX11_through_g1.2.2.2.2.2.2.2.1 rfl rfl ?_
  refine cg_wo_reckoner hE hm fk_X11_36 dX11_through_g1.2.2.2.2.2.2.2.2.1 ?_
  refine r_aload_n hE 0 dX11_through_g1.2.2.2.2.2.2.2.2.2.1 rfl rfl ?_
  refine cg_wo_b hE hm fk_X11_27 dX11_through_g1.2.2.2.2.2.2.2.2.2.2.1 ?_
  refine r_lload_n hE 2 dX11_through_g1.2.2.2.2.2.2.2.2.2.2.2.1 rfl rfl ?_
  refine c_callVl hE hm [.long (c_wo_b s7), .long a3] [.long r8, .ref (G.1 800), .ref (G.1 1300)] ck_X11_236 (cr_rk hm rfl) (kc_rk_times h) (by decide) rfl rfl (Nat.le_of_ble_eq_true rfl) dX11_through_g1.2.2.2.2.2.2.2.2.2.2.2.2.1 (fun s9 r10 h => ?_)
  refine c_callVl hE hm [.long r8, .long r10] [.ref (G.1 1300)] ck_X11_239 (cr_rk hm rfl) (kc_rk_plus h) (by decide) rfl rfl (Nat.le_of_ble_eq_true rfl) dX11_through_g1.2.2.2.2.2.2.2.2.2.2.2.2.2.1 (fun s11 r12 h => ?_)
  refine cp_wo_c hE hm fk_X11_30 dX11_through_g1.2.2.2.2.2.2.2.2.2.2.2.2.2.2.1 h (fun s13 h => ?_)
  exact c_vret hE hm hF dX11_through_g1.2.2.2.2.2.2.2.2.2.2.2.2.2.2.2 h
/-! wo_makeLine_t -/
def wc_wo_makeLine_t_44 (post : CS → Prop) (σ : CS) : Prop := wc_wo_given (fun (s1 : CS) (r2 : Int64) => wc_wo_given (fun (s3 : CS) (r4 : Int64) => wc_wo_given (fun (s5 : CS) (r6 : Int64) => wc_wo_given (fun (s7 : CS) (r8 : Int64) => wc_wo_through (fun (s9 : CS) => wc_wo_normal (fun (s10 : CS) => post s10) s9) s7 r2 r4 r6 r8) s5 (1 : Int32) (1 : Int32)) s3 (1 : Int32) (0 : Int32)) s1 (0 : Int32) (1 : Int32)) σ (0 : Int32) (0 : Int32)
set_option maxRecDepth 20000 in
theorem kc_wo_makeLine_t_44  {E : gEnv} {l : Launch} {D : va_G} {G : gAd} {post : CS → Prop} (hE : gOK E cX11_makeLine RX11 none 4) (hm : cOK E l D G (pV post) 2) (hF : gFin E) (σ : CS) (h : wc_wo_makeLine_t_44 post σ) : GW E (cW G σ) 44 [(0, .ref (G.1 1300))] [] := by
  unfold wc_wo_makeLine_t_44 at h
  have hN := hm.2.2.2.2.2.2.1
  refine r_aload_n hE 0 dX11_makeLine_g0.2.2.2.2.2.1 rfl rfl ?_
  refine r_aload_n hE 0 dX11_makeLine_g0.2.2.2.2.2.2.1 rfl rfl ?_
  refine r_iconst (v := (0 : Int32)) hE dX11_makeLine_g0.2.2.2.2.2.2.2.1 (by decide) ?_
  refine r_iconst (v := (0 : Int32)) hE dX11_makeLine_g0.2.2.2.2.2.2.2.2.1 (by decide) ?_
  refine c_callVl hE hm [.int (0 : Int32), .int (0 : Int32)] [.ref (G.1 1300)] ck_X11_126 (cr_wo hm rfl) (kc_wo_given h) (by decide) rfl rfl (Nat.le_of_ble_eq_true rfl) dX11_makeLine_g0.2.2.2.2.2.2.2.2.2.1 (fun s1 r2 h => ?_)
  refine r_aload_n hE 0 dX11_makeLine_g0.2.2.2.2.2.2.2.2.2.2.1 rfl rfl ?_
  refine r_iconst (v := (0 : Int32)) hE dX11_makeLine_g0.2.2.2.2.2.2.2.2.2.2.2.1 (by decide) ?_
  refine r_iconst (v := (1 : Int32)) hE dX11_makeLine_g0.2.2.2.2.2.2.2.2.2.2.2.2.1 (by decide) ?_
  refine c_callVl hE hm [.int (0 : Int32), .int (1 : Int32)] [.long r2, .ref (G.1 1300)] ck_X11_126 (cr_wo hm rfl) (kc_wo_given h) (by decide) rfl rfl (Nat.le_of_ble_eq_true rfl) dX11_makeLine_g0.2.2.2.2.2.2.2.2.2.2.2.2.2.1 (fun s3 r4 h => ?_)
  refine r_aload_n hE 0 dX11_makeLine_g0.2.2.2.2.2.2.2.2.2.2.2.2.2.2.1 rfl rfl ?_
  refine r_iconst (v := (1 : Int32)) hE dX11_makeLine_g0.2.2.2.2.2.2.2.2.2.2.2.2.2.2.2 (by decide) ?_
  refine r_iconst (v := (0 : Int32)) hE dX11_makeLine_g1.1 (by decide) ?_
  refine c_callVl hE hm [.int (1 : Int32), .int (0 : Int32)] [.long r4, .long r2, .ref (G.1 1300)] ck_X11_126 (cr_wo hm rfl) (kc_wo_given h) (by decide) rfl rfl (Nat.le_of_ble_eq_true rfl) dX11_makeLine_g1.2.1 (fun s5 r6 h => ?_)
  refine r_aload_n hE 0 dX11_makeLine_g1.2.2.1 rfl rfl ?_
  refine r_iconst (v := (1 : Int32)) hE dX11_makeLine_g1.2.2.2.1 (by decide) ?_
  refine r_iconst (v := (1 : Int32)) hE dX11_makeLine_g1.2.2.2.2.1 (by decide) ?_
  refine c_callVl hE hm [.int (1 : Int32), .int (1 : Int32)] [.long r6, .long r4, .long r2, .ref (G.1 1300)] ck_X11_126 (cr_wo hm rfl) (kc_wo_given h) (by decide) rfl rfl (Nat.le_of_ble_eq_true rfl) dX11_makeLine_g1.2.2.2.2.2.1 (fun s7 r8 h => ?_)
  refine c_callVv hE hm [.long r2, .long r4, .long r6, .long r8] [] ck_X11_288 (cr_wo hm rfl) (kc_wo_through h) (by decide) rfl rfl (Nat.le_of_ble_eq_true rfl) dX11_makeLine_g1.2.2.2.2.2.2.1 (fun s9 h => ?_)
  refine r_aload_n hE 0 dX11_makeLine_g1.2.2.2.2.2.2.2.1 rfl rfl ?_
  refine c_callVv hE hm [] [] ck_X11_282 (cr_wo hm rfl) (kc_wo_normal h) (by decide) rfl rfl (Nat.le_of_ble_eq_true rfl) dX11_makeLine_g1.2.2.2.2.2.2.2.2.1 (fun s10 h => ?_)
  refine r_goto hE 350 dX11_makeLine_g1.2.2.2.2.2.2.2.2.2.1 (by decide) ?_
  exact c_vret hE hm hF dX11_makeLine_g11 h
def wc_wo_makeLine_t (post : CS → Prop) (σ : CS) (a1 : Nat) : Prop := a1 < 39 ∧ (wc_tSJx29ce0_ordinal_8abf5 (fun (s11 : CS) (r12 : Int32) => vp_in r12 39 ∧ (((swMap.getD r12.toNatClampNeg 0) = (23 : Int32) → (wc_wo_makeLine_t_44 post s11)) ∧ (¬ (swMap.getD r12.toNatClampNeg 0) = (23 : Int32) → (((swMap.getD r12.toNatClampNeg 0) = (24 : Int32) → (wc_wo_makeLine_t_44 post s11)) ∧ (¬ (swMap.getD r12.toNatClampNeg 0) = (24 : Int32) → (((swMap.getD r12.toNatClampNeg 0) = (25 : Int32) → (wc_wo_given (fun (s13 : CS) (r14 : Int64) => ∀ s15 : CS, s15 = c_wo_a_s s13 r14 → wc_wo_given (fun (s16 : CS) (r17 : Int64) => ∀ s18 : CS, s18 = c_wo_b_s s16 r17 → wc_wo_given (fun (s19 : CS) (r20 : Int64) => wc_rk_times (fun (s21 : CS) (r22 : Int64) => wc_wo_given (fun (s23 : CS) (r24 : Int64) => wc_rk_times (fun (s25 : CS) (r26 : Int64) => wc_rk_plus (fun (s27 : CS) (r28 : Int64) => ∀ s29 : CS, s29 = c_wo_c_s s27 r28 → post s29) s25 r22 r26) s23 (c_wo_b s21) r24) s21 (0 : Int32) (1 : Int32)) s19 (c_wo_a s18) r20) s18 (0 : Int32) (0 : Int32)) s15 (1 : Int32) (1 : Int32)) s11 (1 : Int32) (0 : Int32))) ∧ (¬ (swMap.getD r12.toNatClampNeg 0) = (25 : Int32) → (((swMap.getD r12.toNatClampNeg 0) = (26 : Int32) → (wc_wo_given (fun (s30 : CS) (r31 : Int64) => wc_wo_given (fun (s32 : CS) (r33 : Int64) => wc_wo_given (fun (s34 : CS) (r35 : Int64) => wc_wo_given (fun (s36 : CS) (r37 : Int64) => wc_wo_perpendicular (fun (s38 : CS) => wc_wo_normal (fun (s39 : CS) => post s39) s38) s36 r31 r33 r35 r37) s34 (1 : Int32) (1 : Int32)) s32 (1 : Int32) (0 : Int32)) s30 (0 : Int32) (1 : Int32)) s11 (0 : Int32) (0 : Int32))) ∧ (¬ (swMap.getD r12.toNatClampNeg 0) = (26 : Int32) → (((swMap.getD r12.toNatClampNeg 0) = (27 : Int32) → (wc_wo_given (fun (s40 : CS) (r41 : Int64) => wc_wo_given (fun (s42 : CS) (r43 : Int64) => wc_wo_given (fun (s44 : CS) (r45 : Int64) => wc_wo_given (fun (s46 : CS) (r47 : Int64) => wc_wo_middle (fun (s48 : CS) => wc_wo_given (fun (s49 : CS) (r50 : Int64) => wc_wo_given (fun (s51 : CS) (r52 : Int64) => wc_wo_perpendicular (fun (s53 : CS) => wc_wo_normal (fun (s54 : CS) => post s54) s53) s51 (c_wo_x s48) (c_wo_y s48) r50 r52) s49 (0 : Int32) (1 : Int32)) s48 (0 : Int32) (0 : Int32)) s46 r41 r43 r45 r47) s44 (0 : Int32) (6 : Int32)) s42 (0 : Int32) (5 : Int32)) s40 (0 : Int32) (4 : Int32)) s11 (0 : Int32) (3 : Int32))) ∧ (¬ (swMap.getD r12.toNatClampNeg 0) = (27 : Int32) → (wc_wo_given (fun (s55 : CS) (r56 : Int64) => wc_wo_given (fun (s57 : CS) (r58 : Int64) => wc_rk_minus (fun (s59 : CS) (r60 : Int64) => ∀ s61 : CS, s61 = c_wo_a_s s59 r60 → wc_wo_given (fun (s62 : CS) (r63 : Int64) => wc_wo_given (fun (s64 : CS) (r65 : Int64) => wc_rk_minus (fun (s66 : CS) (r67 : Int64) => ∀ s68 : CS, s68 = c_wo_b_s s66 r67 → wc_wo_given (fun (s69 : CS) (r70 : Int64) => wc_wo_given (fun (s71 : CS) (r72 : Int64) => wc_rk_times (fun (s73 : CS) (r74 : Int64) => wc_rk_plus (fun (s75 : CS) (r76 : Int64) => wc_wo_given (fun (s77 : CS) (r78 : Int64) => wc_rk_times (fun (s79 : CS) (r80 : Int64) => wc_rk_plus (fun (s81 : CS) (r82 : Int64) => ∀ s83 : CS, s83 = c_wo_c_s s81 r82 → wc_wo_normal (fun (s84 : CS) => post s84) s83) s79 r76 r80) s77 (c_wo_b s75) r78) s75 (1 : Int32) (1 : Int32)) s73 r70 r74) s71 (c_wo_a s69) r72) s69 (1 : Int32) (0 : Int32)) s68 (1 : Int32) (2 : Int32)) s64 r63 r65) s62 (1 : Int32) (1 : Int32)) s61 (0 : Int32) (1 : Int32)) s57 r56 r58) s55 (1 : Int32) (0 : Int32)) s11 (0 : Int32) (0 : Int32))))))))))))) σ a1)
set_option maxRecDepth 20000 in
theorem kc_wo_makeLine_t {l : Launch} {D : va_G} {G : gAd} {post : CS → Prop} {σ : CS} {a1 : Nat} (h : wc_wo_makeLine_t post σ a1) : cMet l D G yX11_makeLine cX11_makeLine 2 none 4 [.ref (G.1 1300), .ref (G.1 (7000 + a1))] σ (pV post) := by
  unfold wc_wo_makeLine_t at h
  refine c_enter (own := RX11) (by decide +kernel) rfl [(0, .ref (G.1 1300)), (1, .ref (G.1 (7000 + a1)))] rfl (Nat.le_of_ble_eq_true rfl) ?_
  intro E hE hm hF
  have hN := hm.2.2.2.2.2.2.1
  refine kz_swmap hE hm fk_X11_193 dX11_makeLine_g0.1 ?_
  refine r_aload_n hE 1 dX11_makeLine_g0.2.1 rfl rfl ?_
  obtain ⟨hx, h⟩ := h
  refine c_callU hE hm [] [.ref (G.1 8001)] cu_X11_198 ((c_z hE hm).2.2.2.1 _ hx).1 (kc_tSJx29ce0_ordinal_8abf5 h) (by decide) rfl rfl (Nat.le_of_ble_eq_true rfl) dX11_makeLine_g0.2.2.1 (fun s11 r12 h => ?_)
  obtain ⟨hi, h⟩ := h
  refine ka_swmap hE hm hi dX11_makeLine_g0.2.2.2.1 ?_
  refine r_case (23 : Int32) h (fun q0 h => ?_) (fun q0 h => ?_)
  · refine r_tableAt (off := 36) hE (23 : Int32) 44 dX11_makeLine_g0.2.2.2.2.1 q0 (by decide) (by decide) (by decide) (by decide) ?_
    refine r_pick [0] rfl ?_
    exact kc_wo_makeLine_t_44 hE hm hF _ h
  · refine r_case (24 : Int32) h (fun q1 h => ?_) (fun q1 h => ?_)
    · refine r_tableAt (off := 36) hE (24 : Int32) 44 dX11_makeLine_g0.2.2.2.2.1 q1 (by decide) (by decide) (by decide) (by decide) ?_
      refine r_pick [0] rfl ?_
      exact kc_wo_makeLine_t_44 hE hm hF _ h
    · refine r_case (25 : Int32) h (fun q2 h => ?_) (fun q2 h => ?_)
      · refine r_tableAt (off := 71) hE (25 : Int32) 79 dX11_makeLine_g0.2.2.2.2.1 q2 (by decide) (by decide) (by decide) (by decide) ?_
        refine r_aload_n hE 0 dX11_makeLine_g1.2.2.2.2.2.2.2.2.2.2.1 rfl rfl ?_
        refine r_aload_n hE 0 dX11_makeLine_g1.2.2.2.2.2.2.2.2.2.2.2.1 rfl rfl ?_
        refine r_iconst (v := (1 : Int32)) hE dX11_makeLine_g1.2.2.2.2.2.2.2.2.2.2.2.2.1 (by decide) ?_
        refine r_iconst (v := (0 : Int32)) hE dX11_makeLine_g1.2.2.2.2.2.2.2.2.2.2.2.2.2.1 (by decide) ?_
        refine c_callVl hE hm [.int (1 : Int32), .int (0 : Int32)] [.ref (G.1 1300)] ck_X11_126 (cr_wo hm rfl) (kc_wo_given h) (by decide) rfl rfl (Nat.le_of_ble_eq_true rfl) dX11_makeLine_g1.2.2.2.2.2.2.2.2.2.2.2.2.2.2.1 (fun s13 r14 h => ?_)
        refine cp_wo_a hE hm fk_X11_24 dX11_makeLine_g1.2.2.2.2.2.2.2.2.2.2.2.2.2.2.2 h (fun s15 h => ?_)
        refine r_aload_n hE 0 dX11_makeLine_g2.1 rfl rfl ?_
        refine r_aload_n hE 0 dX11_makeLine_g2.2.1 rfl rfl ?_
        refine r_iconst (v := (1 : Int32)) hE dX11_makeLine_g2.2.2.1 (by decide) ?_
        refine r_iconst (v := (1 : Int32)) hE dX11_makeLine_g2.2.2.2.1 (by decide) ?_
        refine c_callVl hE hm [.int (1 : Int32), .int (1 : Int32)] [.ref (G.1 1300)] ck_X11_126 (cr_wo hm rfl) (kc_wo_given h) (by decide) rfl rfl (Nat.le_of_ble_eq_true rfl) dX11_makeLine_g2.2.2.2.2.1 (fun s16 r17 h => ?_)
        refine cp_wo_b hE hm fk_X11_27 dX11_makeLine_g2.2.2.2.2.2.1 h (fun s18 h => ?_)
        refine r_aload_n hE 0 dX11_makeLine_g2.2.2.2.2.2.2.1 rfl rfl ?_
        refine r_aload_n hE 0 dX11_makeLine_g2.2.2.2.2.2.2.2.1 rfl rfl ?_
        refine cg_wo_reckoner hE hm fk_X11_36 dX11_makeLine_g2.2.2.2.2.2.2.2.2.1 ?_
        refine r_aload_n hE 0 dX11_makeLine_g2.2.2.2.2.2.2.2.2.2.1 rfl rfl ?_
        refine cg_wo_reckoner hE hm fk_X11_36 dX11_makeLine_g2.2.2.2.2.2.2.2.2.2.2.1 ?_
        refine r_aload_n hE 0 dX11_makeLine_g2.2.2.2.2.2.2.2.2.2.2.2.1 rfl rfl ?_
        refine cg_wo_a hE hm fk_X11_24 dX11_makeLine_g2.2.2.2.2.2.2.2.2.2.2.2.2.1 ?_
        refine r_aload_n hE 0 dX11_makeLine_g2.2.2.2.2.2.2.2.2.2.2.2.2.2.1 rfl rfl ?_
        refine r_iconst (v := (0 : Int32)) hE dX11_makeLine_g2.2.2.2.2.2.2.2.2.2.2.2.2.2.2.1 (by decide) ?_
        refine r_iconst (v := (0 : Int32)) hE dX11_makeLine_g2.2.2.2.2.2.2.2.2.2.2.2.2.2.2.2 (by decide) ?_
        refine c_callVl hE hm [.int (0 : Int32), .int (0 : Int32)] [.long (c_wo_a s18), .ref (G.1 800), .ref (G.1 800), .ref (G.1 1300)] ck_X11_126 (cr_wo hm rfl) (kc_wo_given h) (by decide) rfl rfl (Nat.le_of_ble_eq_true rfl) dX11_makeLine_g3.1 (fun s19 r20 h => ?_)
        refine c_callVl hE hm [.long (c_wo_a s18), .long r20] [.ref (G.1 800), .ref (G.1 1300)] ck_X11_236 (cr_rk hm rfl) (kc_rk_times h) (by decide) rfl rfl (Nat.le_of_ble_eq_true rfl) dX11_makeLine_g3.2.1 (fun s21 r22 h => ?_)
        refine r_aload_n hE 0 dX11_makeLine_g3.2.2.1 rfl rfl ?_
        refine cg_wo_reckoner hE hm fk_X11_36 dX11_makeLine_g3.2.2.2.1 ?_
        refine r_aload_n hE 0 dX11_makeLine_g3.2.2.2.2.1 rfl rfl ?_
        refine cg_wo_b hE hm fk_X11_27 dX11_makeLine_g3.2.2.2.2.2.1 ?_
        refine r_aload_n hE 0 dX11_makeLine_g3.2.2.2.2.2.2.1 rfl rfl ?_
        refine r_iconst (v := (0 : Int32)) hE dX11_makeLine_g3.2.2.2.2.2.2.2.1 (by decide) ?_
        refine r_iconst (v := (1 : Int32)) hE dX11_makeLine_g3.2.2.2.2.2.2.2.2.1 (by decide) ?_
        refine c_callVl hE hm [.int (0 : Int32), .int (1 : Int32)] [.long (c_wo_b s21), .ref (G.1 800), .long r22, .ref (G.1 800), .ref (G.1 1300)] ck_X11_126 (cr_wo hm rfl) (kc_wo_given h) (by decide) rfl rfl (Nat.le_of_ble_eq_true rfl) dX11_makeLine_g3.2.2.2.2.2.2.2.2.2.1 (fun s23 r24 h => ?_)
        refine c_callVl hE hm [.long (c_wo_b s21), .long r24] [.long r22, .ref (G.1 800), .ref (G.1 1300)] ck_X11_236 (cr_rk hm rfl) (kc_rk_times h) (by decide) rfl rfl (Nat.le_of_ble_eq_true rfl) dX11_makeLine_g3.2.2.2.2.2.2.2.2.2.2.1 (fun s25 r26 h => ?_)
        refine c_callVl hE hm [.long r22, .long r26] [.ref (G.1 1300)] ck_X11_239 (cr_rk hm rfl) (kc_rk_plus h) (by decide) rfl rfl (Nat.le_of_ble_eq_true rfl) dX11_makeLine_g3.2.2.2.2.2.2.2.2.2.2.2.1 (fun s27 r28 h => ?_)
        refine cp_wo_c hE hm fk_X11_30 dX11_makeLine_g3.2.2.2.2.2.2.2.2.2.2.2.2.1 h (fun s29 h => ?_)
        refine r_goto hE 350 dX11_makeLine_g3.2.2.2.2.2.2.2.2.2.2.2.2.2.1 (by decide) ?_
        exact c_vret hE hm hF dX11_makeLine_g11 h
      · refine r_case (26 : Int32) h (fun q3 h => ?_) (fun q3 h => ?_)
        · refine r_tableAt (off := 139) hE (26 : Int32) 147 dX11_makeLine_g0.2.2.2.2.1 q3 (by decide) (by decide) (by decide) (by decide) ?_
          refine r_aload_n hE 0 dX11_makeLine_g3.2.2.2.2.2.2.2.2.2.2.2.2.2.2.1 rfl rfl ?_
          refine r_aload_n hE 0 dX11_makeLine_g3.2.2.2.2.2.2.2.2.2.2.2.2.2.2.2 rfl rfl ?_
          refine r_iconst (v := (0 : Int32)) hE dX11_makeLine_g4.1 (by decide) ?_
          refine r_iconst (v := (0 : Int32)) hE dX11_makeLine_g4.2.1 (by decide) ?_
          refine c_callVl hE hm [.int (0 : Int32), .int (0 : Int32)] [.ref (G.1 1300)] ck_X11_126 (cr_wo hm rfl) (kc_wo_given h) (by decide) rfl rfl (Nat.le_of_ble_eq_true rfl) dX11_makeLine_g4.2.2.1 (fun s30 r31 h => ?_)
          refine r_aload_n hE 0 dX11_makeLine_g4.2.2.2.1 rfl rfl ?_
          refine r_iconst (v := (0 : Int32)) hE dX11_makeLine_g4.2.2.2.2.1 (by decide) ?_
          refine r_iconst (v := (1 : Int32)) hE dX11_makeLine_g4.2.2.2.2.2.1 (by decide) ?_
          refine c_callVl hE hm [.int (0 : Int32), .int (1 : Int32)] [.long r31, .ref (G.1 1300)] ck_X11_126 (cr_wo hm rfl) (kc_wo_given h) (by decide) rfl rfl (Nat.le_of_ble_eq_true rfl) dX11_makeLine_g4.2.2.2.2.2.2.1 (fun s32 r33 h => ?_)
          refine r_aload_n hE 0 dX11_makeLine_g4.2.2.2.2.2.2.2.1 rfl rfl ?_
          refine r_iconst (v := (1 : Int32)) hE dX11_makeLine_g4.2.2.2.2.2.2.2.2.1 (by decide) ?_
          refine r_iconst (v := (0 : Int32)) hE dX11_makeLine_g4.2.2.2.2.2.2.2.2.2.1 (by decide) ?_
          refine c_callVl hE hm [.int (1 : Int32), .int (0 : Int32)] [.long r33, .long r31, .ref (G.1 1300)] ck_X11_126 (cr_wo hm rfl) (kc_wo_given h) (by decide) rfl rfl (Nat.le_of_ble_eq_true rfl) dX11_makeLine_g4.2.2.2.2.2.2.2.2.2.2.1 (fun s34 r35 h => ?_)
          refine r_aload_n hE 0 dX11_makeLine_g4.2.2.2.2.2.2.2.2.2.2.2.1 rfl rfl ?_
          refine r_iconst (v := (1 : Int32)) hE dX11_makeLine_g4.2.2.2.2.2.2.2.2.2.2.2.2.1 (by decide) ?_
          refine r_iconst (v := (1 : Int32)) hE dX11_makeLine_g4.2.2.2.2.2.2.2.2.2.2.2.2.2.1 (by decide) ?_
          refine c_callVl hE hm [.int (1 : Int32), .int (1 : Int32)] [.long r35, .long r33, .long r31, .ref (G.1 1300)] ck_X11_126 (cr_wo hm rfl) (kc_wo_given h) (by decide) rfl rfl (Nat.le_of_ble_eq_true rfl) dX11_makeLine_g4.2.2.2.2.2.2.2.2.2.2.2.2.2.2.1 (fun s36 r37 h => ?_)
          refine c_callVv hE hm [.long r31, .long r33, .long r35, .long r37] [] ck_X11_279 (cr_wo hm rfl) (kc_wo_perpendicular h) (by decide) rfl rfl (Nat.le_of_ble_eq_true rfl) dX11_makeLine_g4.2.2.2.2.2.2.2.2.2.2.2.2.2.2.2 (fun s38 h => ?_)
          refine r_aload_n hE 0 dX11_makeLine_g5.1 rfl rfl ?_
          refine c_callVv hE hm [] [] ck_X11_282 (cr_wo hm rfl) (kc_wo_normal h) (by decide) rfl rfl (Nat.le_of_ble_eq_true rfl) dX11_makeLine_g5.2.1 (fun s39 h => ?_)
          refine r_goto hE 350 dX11_makeLine_g5.2.2.1 (by decide) ?_
          exact c_vret hE hm hF dX11_makeLine_g11 h
        · refine r_case (27 : Int32) h (fun q4 h => ?_) (fun q4 h => ?_)
          · refine r_tableAt (off := 174) hE (27 : Int32) 182 dX11_makeLine_g0.2.2.2.2.1 q4 (by decide) (by decide) (by decide) (by decide) ?_
            refine r_aload_n hE 0 dX11_makeLine_g5.2.2.2.1 rfl rfl ?_
            refine r_aload_n hE 0 dX11_makeLine_g5.2.2.2.2.1 rfl rfl ?_
            refine r_iconst (v := (0 : Int32)) hE dX11_makeLine_g5.2.2.2.2.2.1 (by decide) ?_
            refine r_iconst (v := (3 : Int32)) hE dX11_makeLine_g5.2.2.2.2.2.2.1 (by decide) ?_
            refine c_callVl hE hm [.int (0 : Int32), .int (3 : Int32)] [.ref (G.1 1300)] ck_X11_126 (cr_wo hm rfl) (kc_wo_given h) (by decide) rfl rfl (Nat.le_of_ble_eq_true rfl) dX11_makeLine_g5.2.2.2.2.2.2.2.1 (fun s40 r41 h => ?_)
            refine r_aload_n hE 0 dX11_makeLine_g5.2.2.2.2.2.2.2.2.1 rfl rfl ?_
            refine r_iconst (v := (0 : Int32)) hE dX11_makeLine_g5.2.2.2.2.2.2.2.2.2.1 (by decide) ?_
            refine r_iconst (v := (4 : Int32)) hE dX11_makeLine_g5.2.2.2.2.2.2.2.2.2.2.1 (by decide) ?_
            refine c_callVl hE hm [.int (0 : Int32), .int (4 : Int32)] [.long r41, .ref (G.1 1300)] ck_X11_126 (cr_wo hm rfl) (kc_wo_given h) (by decide) rfl rfl (Nat.le_of_ble_eq_true rfl) dX11_makeLine_g5.2.2.2.2.2.2.2.2.2.2.2.1 (fun s42 r43 h => ?_)
            refine r_aload_n hE 0 dX11_makeLine_g5.2.2.2.2.2.2.2.2.2.2.2.2.1 rfl rfl ?_
            refine r_iconst (v := (0 : Int32)) hE dX11_makeLine_g5.2.2.2.2.2.2.2.2.2.2.2.2.2.1 (by decide) ?_
            refine r_iconst (v := (5 : Int32)) hE dX11_makeLine_g5.2.2.2.2.2.2.2.2.2.2.2.2.2.2.1 (by decide) ?_
            refine c_callVl hE hm [.int (0 : Int32), .int (5 : Int32)] [.long r43, .long r41, .ref (G.1 1300)] ck_X11_126 (cr_wo hm rfl) (kc_wo_given h) (by decide) rfl rfl (Nat.le_of_ble_eq_true rfl) dX11_makeLine_g5.2.2.2.2.2.2.2.2.2.2.2.2.2.2.2 (fun s44 r45 h => ?_)
            refine r_aload_n hE 0 dX11_makeLine_g6.1 rfl rfl ?_
            refine r_iconst (v := (0 : Int32)) hE dX11_makeLine_g6.2.1 (by decide) ?_
            refine r_bipush (v := (6 : Int32)) hE dX11_makeLine_g6.2.2.1 (by decide) ?_
            refine c_callVl hE hm [.int (0 : Int32), .int (6 : Int32)] [.long r45, .long r43, .long r41, .ref (G.1 1300)] ck_X11_126 (cr_wo hm rfl) (kc_wo_given h) (by decide) rfl rfl (Nat.le_of_ble_eq_true rfl) dX11_makeLine_g6.2.2.2.1 (fun s46 r47 h => ?_)
            refine c_callVv hE hm [.long r41, .long r43, .long r45, .long r47] [] ck_X11_253 (cr_wo hm rfl) (kc_wo_middle h) (by decide) rfl rfl (Nat.le_of_ble_eq_true rfl) dX11_makeLine_g6.2.2.2.2.1 (fun s48 h => ?_)
            refine r_aload_n hE 0 dX11_makeLine_g6.2.2.2.2.2.1 rfl rfl ?_
            refine r_aload_n hE 0 dX11_makeLine_g6.2.2.2.2.2.2.1 rfl rfl ?_
            refine cg_wo_x hE hm fk_X11_17 dX11_makeLine_g6.2.2.2.2.2.2.2.1 ?_
            refine r_aload_n hE 0 dX11_makeLine_g6.2.2.2.2.2.2.2.2.1 rfl rfl ?_
            refine cg_wo_y hE hm fk_X11_21 dX11_makeLine_g6.2.2.2.2.2.2.2.2.2.1 ?_
            refine r_aload_n hE 0 dX11_makeLine_g6.2.2.2.2.2.2.2.2.2.2.1 rfl rfl ?_
            refine r_iconst (v := (0 : Int32)) hE dX11_makeLine_g6.2.2.2.2.2.2.2.2.2.2.2.1 (by decide) ?_
            refine r_iconst (v := (0 : Int32)) hE dX11_makeLine_g6.2.2.2.2.2.2.2.2.2.2.2.2.1 (by decide) ?_
            refine c_callVl hE hm [.int (0 : Int32), .int (0 : Int32)] [.long (c_wo_y s48), .long (c_wo_x s48), .ref (G.1 1300)] ck_X11_126 (cr_wo hm rfl) (kc_wo_given h) (by decide) rfl rfl (Nat.le_of_ble_eq_true rfl) dX11_makeLine_g6.2.2.2.2.2.2.2.2.2.2.2.2.2.1 (fun s49 r50 h => ?_)
            refine r_aload_n hE 0 dX11_makeLine_g6.2.2.2.2.2.2.2.2.2.2.2.2.2.2.1 rfl rfl ?_
            refine r_iconst (v := (0 : Int32)) hE dX11_makeLine_g6.2.2.2.2.2.2.2.2.2.2.2.2.2.2.2 (by decide) ?_
            refine r_iconst (v := (1 : Int32)) hE dX11_makeLine_g7.1 (by decide) ?_
            refine c_callVl hE hm [.int (0 : Int32), .int (1 : Int32)] [.long r50, .long (c_wo_y s48), .long (c_wo_x s48), .ref (G.1 1300)] ck_X11_126 (cr_wo hm rfl) (kc_wo_given h) (by decide) rfl rfl (Nat.le_of_ble_eq_true rfl) dX11_makeLine_g7.2.1 (fun s51 r52 h => ?_)
            refine c_callVv hE hm [.long (c_wo_x s48), .long (c_wo_y s48), .long r50, .long r52] [] ck_X11_279 (cr_wo hm rfl) (kc_wo_perpendicular h) (by decide) rfl rfl (Nat.le_of_ble_eq_true rfl) dX11_makeLine_g7.2.2.1 (fun s53 h => ?_)
            refine r_aload_n hE 0 dX11_makeLine_g7.2.2.2.1 rfl rfl ?_
            refine c_callVv hE hm [] [] ck_X11_282 (cr_wo hm rfl) (kc_wo_normal h) (by decide) rfl rfl (Nat.le_of_ble_eq_true rfl) dX11_makeLine_g7.2.2.2.2.1 (fun s54 h => ?_)
            refine r_goto hE 350 dX11_makeLine_g7.2.2.2.2.2.1 (by decide) ?_
            exact c_vret hE hm hF dX11_makeLine_g11 h
          · have n0 := lv_neT q0 (show (23 : Int32).toInt = 23 by decide)
            have n1 := lv_neT q1 (show (24 : Int32).toInt = 24 by decide)
            have n2 := lv_neT q2 (show (25 : Int32).toInt = 25 by decide)
            have n3 := lv_neT q3 (show (26 : Int32).toInt = 26 by decide)
            have n4 := lv_neT q4 (show (27 : Int32).toInt = 27 by decide)
            refine r_tableOut hE 242 dX11_makeLine_g0.2.2.2.2.1 (by omega) (by decide) ?_
            refine r_aload_n hE 0 dX11_makeLine_g7.2.2.2.2.2.2.1 rfl rfl ?_
            refine r_aload_n hE 0 dX11_makeLine_g7.2.2.2.2.2.2.2.1 rfl rfl ?_
            refine cg_wo_reckoner hE hm fk_X11_36 dX11_makeLine_g7.2.2.2.2.2.2.2.2.1 ?_
            refine r_aload_n hE 0 dX11_makeLine_g7.2.2.2.2.2.2.2.2.2.1 rfl rfl ?_
            refine r_iconst (v := (0 : Int32)) hE dX11_makeLine_g7.2.2.2.2.2.2.2.2.2.2.1 (by decide) ?_
            refine r_iconst (v := (0 : Int32)) hE dX11_makeLine_g7.2.2.2.2.2.2.2.2.2.2.2.1 (by decide) ?_
            refine c_callVl hE hm [.int (0 : Int32), .int (0 : Int32)] [.ref (G.1 800), .ref (G.1 1300)] ck_X11_126 (cr_wo hm rfl) (kc_wo_given h) (by decide) rfl rfl (Nat.le_of_ble_eq_true rfl) dX11_makeLine_g7.2.2.2.2.2.2.2.2.2.2.2.2.1 (fun s55 r56 h => ?_)
            refine r_aload_n hE 0 dX11_makeLine_g7.2.2.2.2.2.2.2.2.2.2.2.2.2.1 rfl rfl ?_
            refine r_iconst (v := (1 : Int32)) hE dX11_makeLine_g7.2.2.2.2.2.2.2.2.2.2.2.2.2.2.1 (by decide) ?_
            refine r_iconst (v := (0 : Int32)) hE dX11_makeLine_g7.2.2.2.2.2.2.2.2.2.2.2.2.2.2.2 (by decide) ?_
            refine c_callVl hE hm [.int (1 : Int32), .int (0 : Int32)] [.long r56, .ref (G.1 800), .ref (G.1 1300)] ck_X11_126 (cr_wo hm rfl) (kc_wo_given h) (by decide) rfl rfl (Nat.le_of_ble_eq_true rfl) dX11_makeLine_g8.1 (fun s57 r58 h => ?_)
            refine c_callVl hE hm [.long r56, .long r58] [.ref (G.1 1300)] ck_X11_226 (cr_rk hm rfl) (kc_rk_minus h) (by decide) rfl rfl (Nat.le_of_ble_eq_true rfl) dX11_makeLine_g8.2.1 (fun s59 r60 h => ?_)
            refine cp_wo_a hE hm fk_X11_24 dX11_makeLine_g8.2.2.1 h (fun s61 h => ?_)
            refine r_aload_n hE 0 dX11_makeLine_g8.2.2.2.1 rfl rfl ?_
            refine r_aload_n hE 0 dX11_makeLine_g8.2.2.2.2.1 rfl rfl ?_
            refine cg_wo_reckoner hE hm fk_X11_36 dX11_makeLine_g8.2.2.2.2.2.1 ?_
            refine r_aload_n hE 0 dX11_makeLine_g8.2.2.2.2.2.2.1 rfl rfl ?_
            refine r_iconst (v := (0 : Int32)) hE dX11_makeLine_g8.2.2.2.2.2.2.2.1 (by decide) ?_
            refine r_iconst (v := (1 : Int32)) hE dX11_makeLine_g8.2.2.2.2.2.2.2.2.1 (by decide) ?_
            refine c_callVl hE hm [.int (0 : Int32), .int (1 : Int32)] [.ref (G.1 800), .ref (G.1 1300)] ck_X11_126 (cr_wo hm rfl) (kc_wo_given h) (by decide) rfl rfl (Nat.le_of_ble_eq_true rfl) dX11_makeLine_g8.2.2.2.2.2.2.2.2.2.1 (fun s62 r63 h => ?_)
            refine r_aload_n hE 0 dX11_makeLine_g8.2.2.2.2.2.2.2.2.2.2.1 rfl rfl ?_
            refine r_iconst (v := (1 : Int32)) hE dX11_makeLine_g8.2.2.2.2.2.2.2.2.2.2.2.1 (by decide) ?_
            refine r_iconst (v := (1 : Int32)) hE dX11_makeLine_g8.2.2.2.2.2.2.2.2.2.2.2.2.1 (by decide) ?_
            refine c_callVl hE hm [.int (1 : Int32), .int (1 : Int32)] [.long r63, .ref (G.1 800), .ref (G.1 1300)] ck_X11_126 (cr_wo hm rfl) (kc_wo_given h) (by decide) rfl rfl (Nat.le_of_ble_eq_true rfl) dX11_makeLine_g8.2.2.2.2.2.2.2.2.2.2.2.2.2.1 (fun s64 r65 h => ?_)
            refine c_callVl hE hm [.long r63, .long r65] [.ref (G.1 1300)] ck_X11_226 (cr_rk hm rfl) (kc_rk_minus h) (by decide) rfl rfl (Nat.le_of_ble_eq_true rfl) dX11_makeLine_g8.2.2.2.2.2.2.2.2.2.2.2.2.2.2.1 (fun s66 r67 h => ?_)
            refine cp_wo_b hE hm fk_X11_27 dX11_makeLine_g8.2.2.2.2.2.2.2.2.2.2.2.2.2.2.2 h (fun s68 h => ?_)
            refine r_aload_n hE 0 dX11_makeLine_g9.1 rfl rfl ?_
            refine r_aload_n hE 0 dX11_makeLine_g9.2.1 rfl rfl ?_
            refine cg_wo_reckoner hE hm fk_X11_36 dX11_makeLine_g9.2.2.1 ?_
            refine r_aload_n hE 0 dX11_makeLine_g9.2.2.2.1 rfl rfl ?_
            refine cg_wo_reckoner hE hm fk_X11_36 dX11_makeLine_g9.2.2.2.2.1 ?_
            refine r_aload_n hE 0 dX11_makeLine_g9.2.2.2.2.2.1 rfl rfl ?_
            refine r_iconst (v := (1 : Int32)) hE dX11_makeLine_g9.2.2.2.2.2.2.1 (by decide) ?_
            refine r_iconst (v := (2 : Int32)) hE dX11_makeLine_g9.2.2.2.2.2.2.2.1 (by decide) ?_
            refine c_callVl hE hm [.int (1 : Int32), .int (2 : Int32)] [.ref (G.1 800), .ref (G.1 800), .ref (G.1 1300)] ck_X11_126 (cr_wo hm rfl) (kc_wo_given h) (by decide) rfl rfl (Nat.le_of_ble_eq_true rfl) dX11_makeLine_g9.2.2.2.2.2.2.2.2.1 (fun s69 r70 h => ?_)
            refine r_aload_n hE 0 dX11_makeLine_g9.2.2.2.2.2.2.2.2.2.1 rfl rfl ?_
            refine cg_wo_reckoner hE hm fk_X11_36 dX11_makeLine_g9.2.2.2.2.2.2.2.2.2.2.1 ?_
            refine r_aload_n hE 0 dX11_makeLine_g9.2.2.2.2.2.2.2.2.2.2.2.1 rfl rfl ?_
            refine cg_wo_a hE hm fk_X11_24 dX11_makeLine_g9.2.2.2.2.2.2.2.2.2.2.2.2.1 ?_
            refine r_aload_n hE 0 dX11_makeLine_g9.2.2.2.2.2.2.2.2.2.2.2.2.2.1 rfl rfl ?_
            refine r_iconst (v := (1 : Int32)) hE dX11_makeLine_g9.2.2.2.2.2.2.2.2.2.2.2.2.2.2.1 (by decide) ?_
            refine r_iconst (v := (0 : Int32)) hE dX11_makeLine_g9.2.2.2.2.2.2.2.2.2.2.2.2.2.2.2 (by decide) ?_
            refine c_callVl hE hm [.int (1 : Int32), .int (0 : Int32)] [.long (c_wo_a s69), .ref (G.1 800), .long r70, .ref (G.1 800), .ref (G.1 800), .ref (G.1 1300)] ck_X11_126 (cr_wo hm rfl) (kc_wo_given h) (by decide) rfl rfl (Nat.le_of_ble_eq_true rfl) dX11_makeLine_g10.1 (fun s71 r72 h => ?_)
            refine c_callVl hE hm [.long (c_wo_a s69), .long r72] [.long r70, .ref (G.1 800), .ref (G.1 800), .ref (G.1 1300)] ck_X11_236 (cr_rk hm rfl) (kc_rk_times h) (by decide) rfl rfl (Nat.le_of_ble_eq_true rfl) dX11_makeLine_g10.2.1 (fun s73 r74 h => ?_)
            refine c_callVl hE hm [.long r70, .long r74] [.ref (G.1 800), .ref (G.1 1300)] ck_X11_239 (cr_rk hm rfl) (kc_rk_plus h) (by decide) rfl rfl (Nat.le_of_ble_eq_true rfl) dX11_makeLine_g10.2.2.1 (fun s75 r76 h => ?_)
            refine r_aload_n hE 0 dX11_makeLine_g10.2.2.2.1 rfl rfl ?_
            refine cg_wo_reckoner hE hm fk_X11_36 dX11_makeLine_g10.2.2.2.2.1 ?_
            refine r_aload_n hE 0 dX11_makeLine_g10.2.2.2.2.2.1 rfl rfl ?_
            refine cg_wo_b hE hm fk_X11_27 dX11_makeLine_g10.2.2.2.2.2.2.1 ?_
            refine r_aload_n hE 0 dX11_makeLine_g10.2.2.2.2.2.2.2.1 rfl rfl ?_
            refine r_iconst (v := (1 : Int32)) hE dX11_makeLine_g10.2.2.2.2.2.2.2.2.1 (by decide) ?_
            refine r_iconst (v := (1 : Int32)) hE dX11_makeLine_g10.2.2.2.2.2.2.2.2.2.1 (by decide) ?_
            refine c_callVl hE hm [.int (1 : Int32), .int (1 : Int32)] [.long (c_wo_b s75), .ref (G.1 800), .long r76, .ref (G.1 800), .ref (G.1 1300)] ck_X11_126 (cr_wo hm rfl) (kc_wo_given h) (by decide) rfl rfl (Nat.le_of_ble_eq_true rfl) dX11_makeLine_g10.2.2.2.2.2.2.2.2.2.2.1 (fun s77 r78 h => ?_)
            refine c_callVl hE hm [.long (c_wo_b s75), .long r78] [.long r76, .ref (G.1 800), .ref (G.1 1300)] ck_X11_236 (cr_rk hm rfl) (kc_rk_times h) (by decide) rfl rfl (Nat.le_of_ble_eq_true rfl) dX11_makeLine_g10.2.2.2.2.2.2.2.2.2.2.2.1 (fun s79 r80 h => ?_)
            refine c_callVl hE hm [.long r76, .long r80] [.ref (G.1 1300)] ck_X11_239 (cr_rk hm rfl) (kc_rk_plus h) (by decide) rfl rfl (Nat.le_of_ble_eq_true rfl) dX11_makeLine_g10.2.2.2.2.2.2.2.2.2.2.2.2.1 (fun s81 r82 h => ?_)
            refine cp_wo_c hE hm fk_X11_30 dX11_makeLine_g10.2.2.2.2.2.2.2.2.2.2.2.2.2.1 h (fun s83 h => ?_)
            refine r_aload_n hE 0 dX11_makeLine_g10.2.2.2.2.2.2.2.2.2.2.2.2.2.2.1 rfl rfl ?_
            refine c_callVv hE hm [] [] ck_X11_282 (cr_wo hm rfl) (kc_wo_normal h) (by decide) rfl rfl (Nat.le_of_ble_eq_true rfl) dX11_makeLine_g10.2.2.2.2.2.2.2.2.2.2.2.2.2.2.2 (fun s84 h => ?_)
            exact c_vret hE hm hF dX11_makeLine_g11 h
/-! wo_askSide -/
def wc_wo_askSide (post : CS → Prop) (σ : CS) (a1 : Int64) : Prop := (((lg_cmp a1 (1 : Int64)) = (0 : Int32)) → (post σ)) ∧ ((¬ ((lg_cmp a1 (1 : Int64)) = (0 : Int32))) → ((((lg_cmp a1 (4294967297 : Int64)) = (0 : Int32)) → (post σ)) ∧ ((¬ ((lg_cmp a1 (4294967297 : Int64)) = (0 : Int32))) → (wc_rk_fail (fun (s1 : CS) => post s1) σ (3 : Int32)))))
set_option maxRecDepth 20000 in
theorem kc_wo_askSide {l : Launch} {D : va_G} {G : gAd} {post : CS → Prop} {σ : CS} {a1 : Int64} (h : wc_wo_askSide post σ a1) : cMet l D G yX11_askSide cX11_askSide 3 none 2 [.ref (G.1 1300), .long a1] σ (pV post) := by
  unfold wc_wo_askSide at h
  refine c_enter (own := RX11) (by decide +kernel) rfl [(0, .ref (G.1 1300)), (1, .long a1)] rfl (Nat.le_of_ble_eq_true rfl) ?_
  intro E hE hm hF
  have hN := hm.2.2.2.2.2.2.1
  refine r_lload_n hE 1 dX11_askSide_g0.1 rfl rfl ?_
  refine r_lconst (v := (1 : Int64)) hE dX11_askSide_g0.2.1 (by decide) ?_
  refine r_lcmp hE dX11_askSide_g0.2.2.1 ?_
  refine r_if_eq hE 22 dX11_askSide_g0.2.2.2.1 (by decide) h (fun h => ?_) (fun h => ?_)
  · exact c_vret hE hm hF dX11_askSide_g0.2.2.2.2.2.2.2.2.2.2.2.2 h
  · refine r_lload_n hE 1 dX11_askSide_g0.2.2.2.2.1 rfl rfl ?_
    refine r_ldc2 (v := (4294967297 : Int64)) hE dX11_askSide_g0.2.2.2.2.2.1 (gTb_5 (List.mem_of_getElem? (i := 113) rfl) rfl) ?_
    refine r_lcmp hE dX11_askSide_g0.2.2.2.2.2.2.1 ?_
    refine r_if_eq hE 22 dX11_askSide_g0.2.2.2.2.2.2.2.1 (by decide) h (fun h => ?_) (fun h => ?_)
    · exact c_vret hE hm hF dX11_askSide_g0.2.2.2.2.2.2.2.2.2.2.2.2 h
    · refine r_aload_n hE 0 dX11_askSide_g0.2.2.2.2.2.2.2.2.1 rfl rfl ?_
      refine cg_wo_reckoner hE hm fk_X11_36 dX11_askSide_g0.2.2.2.2.2.2.2.2.2.1 ?_
      refine r_iconst (v := (3 : Int32)) hE dX11_askSide_g0.2.2.2.2.2.2.2.2.2.2.1 (by decide) ?_
      refine c_callVv hE hm [.int (3 : Int32)] [] ck_X11_48 (cr_rk hm rfl) (kc_rk_fail h) (by decide) rfl rfl (Nat.le_of_ble_eq_true rfl) dX11_askSide_g0.2.2.2.2.2.2.2.2.2.2.2.1 (fun s1 h => ?_)
      exact c_vret hE hm hF dX11_askSide_g0.2.2.2.2.2.2.2.2.2.2.2.2 h
/-! SJ13_compare_74951 -/
def wc_SJ13_compare_74951 (post : CS → Int32 → Prop) (σ : CS) (a0 : Int64) (a2 : Int64) : Prop := (((0 : Int32) ≤ (lg_cmp a0 a2)) → (((¬ ((lg_cmp a0 a2) = (0 : Int32))) → (post σ (1 : Int32))) ∧ (((lg_cmp a0 a2) = (0 : Int32)) → (post σ (0 : Int32))))) ∧ ((¬ ((0 : Int32) ≤ (lg_cmp a0 a2))) → (post σ (-1 : Int32)))
set_option maxRecDepth 20000 in
theorem kc_SJ13_compare_74951 {l : Launch} {D : va_G} {G : gAd} {post : CS → Int32 → Prop} {σ : CS} {a0 : Int64} {a2 : Int64} (h : wc_SJ13_compare_74951 post σ a0 a2) : cMet l D G yJ13_compare_74951 cJ13_compare_74951 4 (some .int) 1 [.long a0, .long a2] σ (pI post) := by
  unfold wc_SJ13_compare_74951 at h
  refine c_enter (own := RJ13) (by decide +kernel) rfl [(0, .long a0), (2, .long a2)] rfl (Nat.le_of_ble_eq_true rfl) ?_
  intro E hE hm hF
  have hN := hm.2.2.2.2.2.2.1
  refine r_lload_n hE 0 dJ13_compare_74951_g0.1 rfl rfl ?_
  refine r_lload_n hE 1 dJ13_compare_74951_g0.2.1 rfl rfl ?_
  refine r_lcmp hE dJ13_compare_74951_g0.2.2.1 ?_
  refine r_if_ge hE 10 dJ13_compare_74951_g0.2.2.2.1 (by decide) h (fun h => ?_) (fun h => ?_)
  · refine r_lload_n hE 0 dJ13_compare_74951_g0.2.2.2.2.2.2.1 rfl rfl ?_
    refine r_lload_n hE 1 dJ13_compare_74951_g0.2.2.2.2.2.2.2.1 rfl rfl ?_
    refine r_lcmp hE dJ13_compare_74951_g0.2.2.2.2.2.2.2.2.1 ?_
    refine r_if_ne hE 20 dJ13_compare_74951_g0.2.2.2.2.2.2.2.2.2.1 (by decide) h (fun h => ?_) (fun h => ?_)
    · refine r_iconst (v := (1 : Int32)) hE dJ13_compare_74951_g0.2.2.2.2.2.2.2.2.2.2.2.2.1 (by decide) ?_
      exact c_iret hE hm hF dJ13_compare_74951_g0.2.2.2.2.2.2.2.2.2.2.2.2.2 h
    · refine r_iconst (v := (0 : Int32)) hE dJ13_compare_74951_g0.2.2.2.2.2.2.2.2.2.2.1 (by decide) ?_
      refine r_goto hE 21 dJ13_compare_74951_g0.2.2.2.2.2.2.2.2.2.2.2.1 (by decide) ?_
      exact c_iret hE hm hF dJ13_compare_74951_g0.2.2.2.2.2.2.2.2.2.2.2.2.2 h
  · refine r_iconst (v := (-1 : Int32)) hE dJ13_compare_74951_g0.2.2.2.2.1 (by decide) ?_
    refine r_goto hE 21 dJ13_compare_74951_g0.2.2.2.2.2.1 (by decide) ?_
    exact c_iret hE hm hF dJ13_compare_74951_g0.2.2.2.2.2.2.2.2.2.2.2.2.2 h
/-! SX6_compare -/
def wc_SX6_compare (post : CS → Int32 → Prop) (σ : CS) (a0 : Int64) (a2 : Int64) : Prop := wc_SX6_top (fun (s1 : CS) (r2 : Int64) => wc_SX6_bottom (fun (s3 : CS) (r4 : Int64) => wc_SX6_top (fun (s5 : CS) (r6 : Int64) => wc_SX6_bottom (fun (s7 : CS) (r8 : Int64) => wc_SJ13_compare_74951 (fun (s9 : CS) (r10 : Int32) => post s9 r10) s7 (r2 * r4) (r6 * r8)) s5 a0) s3 a2) s1 a2) σ a0
set_option maxRecDepth 20000 in
theorem kc_SX6_compare {l : Launch} {D : va_G} {G : gAd} {post : CS → Int32 → Prop} {σ : CS} {a0 : Int64} {a2 : Int64} (h : wc_SX6_compare post σ a0 a2) : cMet l D G yX6_compare cX6_compare 4 (some .int) 2 [.long a0, .long a2] σ (pI post) := by
  unfold wc_SX6_compare at h
  refine c_enter (own := RX6) (by decide +kernel) rfl [(0, .long a0), (2, .long a2)] rfl (Nat.le_of_ble_eq_true rfl) ?_
  intro E hE hm hF
  have hN := hm.2.2.2.2.2.2.1
  refine r_lload_n hE 0 dX6_compare_g0.1 rfl rfl ?_
  refine c_callSl hE hm [.long a0] [] ck_X6_19 (kc_SX6_top h) (by decide) rfl rfl (Nat.le_of_ble_eq_true rfl) dX6_compare_g0.2.1 (fun s1 r2 h => ?_)
  refine r_lload_n hE 1 dX6_compare_g0.2.2.1 rfl rfl ?_
  refine c_callSl hE hm [.long a2] [.long r2] ck_X6_23 (kc_SX6_bottom h) (by decide) rfl rfl (Nat.le_of_ble_eq_true rfl) dX6_compare_g0.2.2.2.1 (fun s3 r4 h => ?_)
  refine r_lmul hE dX6_compare_g0.2.2.2.2.1 ?_
  refine r_lload_n hE 1 dX6_compare_g0.2.2.2.2.2.1 rfl rfl ?_
  refine c_callSl hE hm [.long a2] [.long (r2 * r4)] ck_X6_19 (kc_SX6_top h) (by decide) rfl rfl (Nat.le_of_ble_eq_true rfl) dX6_compare_g0.2.2.2.2.2.2.1 (fun s5 r6 h => ?_)
  refine r_lload_n hE 0 dX6_compare_g0.2.2.2.2.2.2.2.1 rfl rfl ?_
  refine c_callSl hE hm [.long a0] [.long r6, .long (r2 * r4)] ck_X6_23 (kc_SX6_bottom h) (by decide) rfl rfl (Nat.le_of_ble_eq_true rfl) dX6_compare_g0.2.2.2.2.2.2.2.2.1 (fun s7 r8 h => ?_)
  refine r_lmul hE dX6_compare_g0.2.2.2.2.2.2.2.2.2.1 ?_
  refine c_callSi hE hm [.long (r2 * r4), .long (r6 * r8)] [] ck_X6_26 (kc_SJ13_compare_74951 h) (by decide) rfl rfl (Nat.le_of_ble_eq_true rfl) dX6_compare_g0.2.2.2.2.2.2.2.2.2.2.1 (fun s9 r10 h => ?_)
  exact c_iret hE hm hF dX6_compare_g0.2.2.2.2.2.2.2.2.2.2.2 h
/-! SX6_wholeRoot -/
def wc_SX6_wholeRoot_34 (post : CS → Int64 → Prop) (lp7 : CS → Int64 → Int64 → Int32 → Prop) (σ : CS) (v0 : Int64) (v2 : Int64) (v4 : Int32) : Prop := ∀ x1 : Int32, x1 = v4 >>> ((1 : Int32) &&& 31) → lp7 σ v0 v2 x1
set_option maxRecDepth 20000 in
theorem kc_SX6_wholeRoot_34  {E : gEnv} {l : Launch} {D : va_G} {G : gAd} {post : CS → Int64 → Prop} (hE : gOK E cX6_wholeRoot RX6 (some .long) 1) (hm : cOK E l D G (pL post) 5) (hF : gFin E) {lp7 : CS → Int64 → Int64 → Int32 → Prop} (hl7 : ∀ (σ : CS) (v0 : Int64) (v2 : Int64) (v4 : Int32), lp7 σ v0 v2 v4 → GW E (cW G σ) 7 [(0, .long v0), (2, .long v2), (4, .int v4)] []) (σ : CS) (v0 : Int64) (v2 : Int64) (v4 : Int32) (h : wc_SX6_wholeRoot_34 post lp7 σ v0 v2 v4) : GW E (cW G σ) 34 [(0, .long v0), (2, .long v2), (4, .int v4)] [] := by
  unfold wc_SX6_wholeRoot_34 at h
  have hN := hm.2.2.2.2.2.2.1
  refine r_iload hE 2 dX6_wholeRoot_g1.2.2.2.2.2.2.2.1 rfl ?_
  refine r_iconst (v := (1 : Int32)) hE dX6_wholeRoot_g1.2.2.2.2.2.2.2.2.1 (by decide) ?_
  refine r_ishr hE dX6_wholeRoot_g1.2.2.2.2.2.2.2.2.2.1 ?_
  refine r_topi h (fun x1 ex1 h => ?_)
  refine r_istore hE [(4, .int x1), (0, .long v0), (2, .long v2)] dX6_wholeRoot_g1.2.2.2.2.2.2.2.2.2.2.1 hN (by decide) rfl ?_
  refine r_goto hE 7 dX6_wholeRoot_g1.2.2.2.2.2.2.2.2.2.2.2.1 (by decide) ?_
  refine r_pick [1, 2, 0] rfl ?_
  exact hl7 _ _ _ _ h
def wc_SX6_wholeRoot_7 (post : CS → Int64 → Prop) : Nat → CS → Int64 → Int64 → Int32 → Prop
  | 0, _, _, _, _ => False
  | n + 1, σ, v0, v2, v4 => ((v4 ≤ (0 : Int32)) → (((¬ ((lg_cmp (v2 * v2) v0) = (0 : Int32))) → (post σ (-1 : Int64))) ∧ (((lg_cmp (v2 * v2) v0) = (0 : Int32)) → (post σ v2)))) ∧ ((¬ (v4 ≤ (0 : Int32))) → ((((0 : Int32) < (lg_cmp ((v2 + (v4.toInt64)) * (v2 + (v4.toInt64))) v0)) → (wc_SX6_wholeRoot_34 post (fun (ys : CS) (y0 : Int64) (y1 : Int64) (y2 : Int32) => wc_SX6_wholeRoot_7 post n ys y0 y1 y2) σ v0 v2 v4)) ∧ ((¬ ((0 : Int32) < (lg_cmp ((v2 + (v4.toInt64)) * (v2 + (v4.toInt64))) v0))) → (∀ x2 : Int64, x2 = v2 + (v4.toInt64) → wc_SX6_wholeRoot_34 post (fun (ys : CS) (y0 : Int64) (y1 : Int64) (y2 : Int32) => wc_SX6_wholeRoot_7 post n ys y0 y1 y2) σ v0 x2 v4))))
set_option maxRecDepth 20000 in
theorem kc_SX6_wholeRoot_7  {E : gEnv} {l : Launch} {D : va_G} {G : gAd} {post : CS → Int64 → Prop} (hE : gOK E cX6_wholeRoot RX6 (some .long) 1) (hm : cOK E l D G (pL post) 5) (hF : gFin E) : ∀ (n0 : Nat) (σ : CS) (v0 : Int64) (v2 : Int64) (v4 : Int32), wc_SX6_wholeRoot_7 post n0 σ v0 v2 v4 → GW E (cW G σ) 7 [(0, .long v0), (2, .long v2), (4, .int v4)] [] := by
  intro n0
  induction n0 with
  | zero => intro σ v0 v2 v4 h; exact h.elim
  | succ n0 ih =>
    intro σ v0 v2 v4 h
    rw [wc_SX6_wholeRoot_7] at h
    have hN := hm.2.2.2.2.2.2.1
    refine r_iload hE 2 dX6_wholeRoot_g0.2.2.2.2.1 rfl ?_
    refine r_if_le hE 43 dX6_wholeRoot_g0.2.2.2.2.2.1 (by decide) h (fun h => ?_) (fun h => ?_)
    · refine r_lload_n hE 1 dX6_wholeRoot_g1.2.2.2.2.2.2.2.2.2.2.2.2.1 rfl rfl ?_
      refine r_lload_n hE 1 dX6_wholeRoot_g1.2.2.2.2.2.2.2.2.2.2.2.2.2.1 rfl rfl ?_
      refine r_lmul hE dX6_wholeRoot_g1.2.2.2.2.2.2.2.2.2.2.2.2.2.2.1 ?_
      refine r_lload_n hE 0 dX6_wholeRoot_g1.2.2.2.2.2.2.2.2.2.2.2.2.2.2.2 rfl rfl ?_
      refine r_lcmp hE dX6_wholeRoot_g2.1 ?_
      refine r_if_ne hE 55 dX6_wholeRoot_g2.2.1 (by decide) h (fun h => ?_) (fun h => ?_)
      · refine r_ldc2 (v := (-1 : Int64)) hE dX6_wholeRoot_g2.2.2.2.2.1 (gTb_5 (List.mem_of_getElem? (i := 151) rfl) rfl) ?_
        exact c_lret hE hm hF dX6_wholeRoot_g2.2.2.2.2.2 h
      · refine r_lload_n hE 1 dX6_wholeRoot_g2.2.2.1 rfl rfl ?_
        refine r_goto hE 58 dX6_wholeRoot_g2.2.2.2.1 (by decide) ?_
        exact c_lret hE hm hF dX6_wholeRoot_g2.2.2.2.2.2 h
    · refine r_lload_n hE 1 dX6_wholeRoot_g0.2.2.2.2.2.2.1 rfl rfl ?_
      refine r_iload hE 2 dX6_wholeRoot_g0.2.2.2.2.2.2.2.1 rfl ?_
      refine r_i2l hE dX6_wholeRoot_g0.2.2.2.2.2.2.2.2.1 ?_
      refine r_ladd hE dX6_wholeRoot_g0.2.2.2.2.2.2.2.2.2.1 ?_
      refine r_lload_n hE 1 dX6_wholeRoot_g0.2.2.2.2.2.2.2.2.2.2.1 rfl rfl ?_
      refine r_iload hE 2 dX6_wholeRoot_g0.2.2.2.2.2.2.2.2.2.2.2.1 rfl ?_
      refine r_i2l hE dX6_wholeRoot_g0.2.2.2.2.2.2.2.2.2.2.2.2.1 ?_
      refine r_ladd hE dX6_wholeRoot_g0.2.2.2.2.2.2.2.2.2.2.2.2.2.1 ?_
      refine r_lmul hE dX6_wholeRoot_g0.2.2.2.2.2.2.2.2.2.2.2.2.2.2.1 ?_
      refine r_lload_n hE 0 dX6_wholeRoot_g0.2.2.2.2.2.2.2.2.2.2.2.2.2.2.2 rfl rfl ?_
      refine r_lcmp hE dX6_wholeRoot_g1.1 ?_
      refine r_if_gt hE 34 dX6_wholeRoot_g1.2.1 (by decide) h (fun h => ?_) (fun h => ?_)
      · exact kc_SX6_wholeRoot_34 hE hm hF ih _ _ _ _ h
      · refine r_lload_n hE 1 dX6_wholeRoot_g1.2.2.1 rfl rfl ?_
        refine r_iload hE 2 dX6_wholeRoot_g1.2.2.2.1 rfl ?_
        refine r_i2l hE dX6_wholeRoot_g1.2.2.2.2.1 ?_
        refine r_ladd hE dX6_wholeRoot_g1.2.2.2.2.2.1 ?_
        refine r_topl h (fun x2 ex2 h => ?_)
        refine r_lstore_n hE [(2, .long x2), (0, .long v0), (4, .int v4)] dX6_wholeRoot_g1.2.2.2.2.2.2.1 rfl hN (by decide) rfl ?_
        refine r_pick [1, 0, 2] rfl ?_
        exact kc_SX6_wholeRoot_34 hE hm hF ih _ _ _ _ h
def wc_SX6_wholeRoot (post : CS → Int64 → Prop) (σ : CS) (a0 : Int64) : Prop := ∃ k : Nat, wc_SX6_wholeRoot_7 post k σ a0 (0 : Int64) (16384 : Int32)
set_option maxRecDepth 20000 in
theorem kc_SX6_wholeRoot {l : Launch} {D : va_G} {G : gAd} {post : CS → Int64 → Prop} {σ : CS} {a0 : Int64} (h : wc_SX6_wholeRoot post σ a0) : cMet l D G yX6_wholeRoot cX6_wholeRoot 5 (some .long) 1 [.long a0] σ (pL post) := by
  unfold wc_SX6_wholeRoot at h
  refine c_enter (own := RX6) (by decide +kernel) rfl [(0, .long a0)] rfl (Nat.le_of_ble_eq_true rfl) ?_
  intro E hE hm hF
  have hN := hm.2.2.2.2.2.2.1
  refine r_lconst (v := (0 : Int64)) hE dX6_wholeRoot_g0.1 (by decide) ?_
  refine r_lstore_n hE [(2, .long (0 : Int64)), (0, .long a0)] dX6_wholeRoot_g0.2.1 rfl hN (by decide) rfl ?_
  refine r_sipush (v := (16384 : Int32)) hE dX6_wholeRoot_g0.2.2.1 (by decide) ?_
  refine r_istore hE [(4, .int (16384 : Int32)), (2, .long (0 : Int64)), (0, .long a0)] dX6_wholeRoot_g0.2.2.2.1 hN (by decide) rfl ?_
  refine r_pick [2, 1, 0] rfl ?_
  obtain ⟨k, h⟩ := h
  exact kc_SX6_wholeRoot_7 hE hm hF k _ _ _ _ h
/-! rk_root -/
def wc_rk_root_30 (post : CS → Int64 → Prop) (σ : CS) : Prop := wc_rk_fail (fun (s1 : CS) => post s1 (1 : Int64)) σ (8 : Int32)
set_option maxRecDepth 20000 in
theorem kc_rk_root_30  {E : gEnv} {l : Launch} {D : va_G} {G : gAd} {post : CS → Int64 → Prop} (hE : gOK E cX6_root RX6 (some .long) 2) (hm : cOK E l D G (pL post) 7) (hF : gFin E) (σ : CS) (h : wc_rk_root_30 post σ) : GW E (cW G σ) 30 [(0, .ref (G.1 800))] [] := by
  unfold wc_rk_root_30 at h
  have hN := hm.2.2.2.2.2.2.1
  refine r_aload_n hE 0 dX6_root_g1.1 rfl rfl ?_
  refine r_bipush (v := (8 : Int32)) hE dX6_root_g1.2.1 (by decide) ?_
  refine c_callVv hE hm [.int (8 : Int32)] [] ck_X6_43 (cr_rk hm rfl) (kc_rk_fail h) (by decide) rfl rfl (Nat.le_of_ble_eq_true rfl) dX6_root_g1.2.2.1 (fun s1 h => ?_)
  refine r_lconst (v := (1 : Int64)) hE dX6_root_g1.2.2.2.1 (by decide) ?_
  exact c_lret hE hm hF dX6_root_g1.2.2.2.2.1 h
def wc_rk_root (post : CS → Int64 → Prop) (σ : CS) (a1 : Int64) : Prop := wc_SX6_top (fun (s2 : CS) (r3 : Int64) => wc_SX6_wholeRoot (fun (s4 : CS) (r5 : Int64) => wc_SX6_bottom (fun (s6 : CS) (r7 : Int64) => wc_SX6_wholeRoot (fun (s8 : CS) (r9 : Int64) => (((lg_cmp r5 (0 : Int64)) < (0 : Int32)) → (wc_rk_root_30 post s8)) ∧ ((¬ ((lg_cmp r5 (0 : Int64)) < (0 : Int32))) → ((((0 : Int32) ≤ (lg_cmp r9 (1 : Int64))) → (post s8 ((r5 <<< ((32 : Int32).toInt64 &&& 63)) ||| r9))) ∧ ((¬ ((0 : Int32) ≤ (lg_cmp r9 (1 : Int64)))) → (wc_rk_root_30 post s8))))) s6 r7) s4 a1) s2 r3) σ a1
set_option maxRecDepth 20000 in
theorem kc_rk_root {l : Launch} {D : va_G} {G : gAd} {post : CS → Int64 → Prop} {σ : CS} {a1 : Int64} (h : wc_rk_root post σ a1) : cMet l D G yX6_root cX6_root 7 (some .long) 2 [.ref (G.1 800), .long a1] σ (pL post) := by
  unfold wc_rk_root at h
  refine c_enter (own := RX6) (by decide +kernel) rfl [(0, .ref (G.1 800)), (1, .long a1)] rfl (Nat.le_of_ble_eq_true rfl) ?_
  intro E hE hm hF
  have hN := hm.2.2.2.2.2.2.1
  refine r_lload_n hE 1 dX6_root_g0.1 rfl rfl ?_
  refine c_callSl hE hm [.long a1] [] ck_X6_19 (kc_SX6_top h) (by decide) rfl rfl (Nat.le_of_ble_eq_true rfl) dX6_root_g0.2.1 (fun s2 r3 h => ?_)
  refine c_callSl hE hm [.long r3] [] ck_X6_40 (kc_SX6_wholeRoot h) (by decide) rfl rfl (Nat.le_of_ble_eq_true rfl) dX6_root_g0.2.2.1 (fun s4 r5 h => ?_)
  refine r_lstore_n hE [(3, .long r5), (0, .ref (G.1 800)), (1, .long a1)] dX6_root_g0.2.2.2.1 rfl hN (by decide) rfl ?_
  refine r_lload_n hE 2 dX6_root_g0.2.2.2.2.1 rfl rfl ?_
  refine c_callSl hE hm [.long a1] [] ck_X6_23 (kc_SX6_bottom h) (by decide) rfl rfl (Nat.le_of_ble_eq_true rfl) dX6_root_g0.2.2.2.2.2.1 (fun s6 r7 h => ?_)
  refine c_callSl hE hm [.long r7] [] ck_X6_40 (kc_SX6_wholeRoot h) (by decide) rfl rfl (Nat.le_of_ble_eq_true rfl) dX6_root_g0.2.2.2.2.2.2.1 (fun s8 r9 h => ?_)
  refine r_lstore hE [(5, .long r9), (3, .long r5), (0, .ref (G.1 800)), (1, .long a1)] dX6_root_g0.2.2.2.2.2.2.2.1 hN (by decide) rfl ?_
  refine r_lload_n hE 1 dX6_root_g0.2.2.2.2.2.2.2.2.1 rfl rfl ?_
  refine r_lconst (v := (0 : Int64)) hE dX6_root_g0.2.2.2.2.2.2.2.2.2.1 (by decide) ?_
  refine r_lcmp hE dX6_root_g0.2.2.2.2.2.2.2.2.2.2.1 ?_
  refine r_if_lt hE 30 dX6_root_g0.2.2.2.2.2.2.2.2.2.2.2.1 (by decide) h (fun h => ?_) (fun h => ?_)
  · refine r_pick [2] rfl ?_
    exact kc_rk_root_30 hE hm hF _ h
  · refine r_lload hE 0 dX6_root_g0.2.2.2.2.2.2.2.2.2.2.2.2.1 rfl ?_
    refine r_lconst (v := (1 : Int64)) hE dX6_root_g0.2.2.2.2.2.2.2.2.2.2.2.2.2.1 (by decide) ?_
    refine r_lcmp hE dX6_root_g0.2.2.2.2.2.2.2.2.2.2.2.2.2.2.1 ?_
    refine r_if_ge hE 38 dX6_root_g0.2.2.2.2.2.2.2.2.2.2.2.2.2.2.2 (by decide) h (fun h => ?_) (fun h => ?_)
    · refine r_lload_n hE 1 dX6_root_g1.2.2.2.2.2.1 rfl rfl ?_
      refine r_bipush (v := (32 : Int32)) hE dX6_root_g1.2.2.2.2.2.2.1 (by decide) ?_
      refine r_lshl hE dX6_root_g1.2.2.2.2.2.2.2.1 ?_
      refine r_lload hE 0 dX6_root_g1.2.2.2.2.2.2.2.2.1 rfl ?_
      refine r_lor hE dX6_root_g1.2.2.2.2.2.2.2.2.2.1 ?_
      exact c_lret hE hm hF dX6_root_g1.2.2.2.2.2.2.2.2.2.2 h
    · refine r_pick [2] rfl ?_
      exact kc_rk_root_30 hE hm hF _ h
/-! wo_cutFromFoot -/
def wc_wo_cutFromFoot_300 (post : CS → Prop) (σ : CS) (t1 : Int64) : Prop := ∀ s1 : CS, s1 = c_wo_y_s σ t1 → post s1
set_option maxRecDepth 20000 in
theorem kc_wo_cutFromFoot_300  {E : gEnv} {l : Launch} {D : va_G} {G : gAd} {post : CS → Prop} (hE : gOK E cX11_cutFromFoot RX11 none 4) (hm : cOK E l D G (pV post) 20) (hF : gFin E) (σ : CS) (t1 : Int64) (h : wc_wo_cutFromFoot_300 post σ t1) : GW E (cW G σ) 300 [] [.long t1, .ref (G.1 1300)] := by
  unfold wc_wo_cutFromFoot_300 at h
  have hN := hm.2.2.2.2.2.2.1
  refine cp_wo_y hE hm fk_X11_21 dX11_cutFromFoot_g9.2.2.2.2.2.2.2.1 h (fun s1 h => ?_)
  exact c_vret hE hm hF dX11_cutFromFoot_g9.2.2.2.2.2.2.2.2 h
def wc_wo_cutFromFoot_284 (post : CS → Prop) (σ : CS) (v11 : Int64) (v15 : Int64) (v19 : Int32) (t1 : Int64) : Prop := ∀ s2 : CS, s2 = c_wo_x_s σ t1 → ((v19 = (0 : Int32)) → (wc_wo_cutFromFoot_300 post s2 v15)) ∧ ((¬ (v19 = (0 : Int32))) → (wc_wo_cutFromFoot_300 post s2 v11))
set_option maxRecDepth 20000 in
theorem kc_wo_cutFromFoot_284  {E : gEnv} {l : Launch} {D : va_G} {G : gAd} {post : CS → Prop} (hE : gOK E cX11_cutFromFoot RX11 none 4) (hm : cOK E l D G (pV post) 20) (hF : gFin E) (σ : CS) (v11 : Int64) (v15 : Int64) (v19 : Int32) (t1 : Int64) (h : wc_wo_cutFromFoot_284 post σ v11 v15 v19 t1) : GW E (cW G σ) 284 [(0, .ref (G.1 1300)), (11, .long v11), (15, .long v15), (19, .int v19)] [.long t1, .ref (G.1 1300)] := by
  unfold wc_wo_cutFromFoot_284 at h
  have hN := hm.2.2.2.2.2.2.1
  refine cp_wo_x hE hm fk_X11_17 dX11_cutFromFoot_g9.1 h (fun s2 h => ?_)
  refine r_aload_n hE 0 dX11_cutFromFoot_g9.2.1 rfl rfl ?_
  refine r_iload hE 3 dX11_cutFromFoot_g9.2.2.1 rfl ?_
  refine r_if_eq hE 298 dX11_cutFromFoot_g9.2.2.2.1 (by decide) h (fun h => ?_) (fun h => ?_)
  · refine r_lload hE 2 dX11_cutFromFoot_g9.2.2.2.2.2.2.1 rfl ?_
    refine r_pick [] rfl ?_
    exact kc_wo_cutFromFoot_300 hE hm hF _ _ h
  · refine r_lload hE 1 dX11_cutFromFoot_g9.2.2.2.2.1 rfl ?_
    refine r_goto hE 300 dX11_cutFromFoot_g9.2.2.2.2.2.1 (by decide) ?_
    refine r_pick [] rfl ?_
    exact kc_wo_cutFromFoot_300 hE hm hF _ _ h
def wc_wo_cutFromFoot_269 (post : CS → Prop) (σ : CS) (v9 : Int64) (v11 : Int64) (v13 : Int64) (v15 : Int64) (t0 : Int32) : Prop := ((t0 = (0 : Int32)) → (wc_wo_cutFromFoot_284 post σ v11 v15 t0 v13)) ∧ ((¬ (t0 = (0 : Int32))) → (wc_wo_cutFromFoot_284 post σ v11 v15 t0 v9))
set_option maxRecDepth 20000 in
theorem kc_wo_cutFromFoot_269  {E : gEnv} {l : Launch} {D : va_G} {G : gAd} {post : CS → Prop} (hE : gOK E cX11_cutFromFoot RX11 none 4) (hm : cOK E l D G (pV post) 20) (hF : gFin E) (σ : CS) (v9 : Int64) (v11 : Int64) (v13 : Int64) (v15 : Int64) (t0 : Int32) (h : wc_wo_cutFromFoot_269 post σ v9 v11 v13 v15 t0) : GW E (cW G σ) 269 [(0, .ref (G.1 1300)), (9, .long v9), (11, .long v11), (13, .long v13), (15, .long v15)] [.int t0] := by
  unfold wc_wo_cutFromFoot_269 at h
  have hN := hm.2.2.2.2.2.2.1
  refine r_istore hE [(19, .int t0), (0, .ref (G.1 1300)), (9, .long v9), (11, .long v11), (13, .long v13), (15, .long v15)] dX11_cutFromFoot_g8.2.2.2.2.2.2.2.2.2.1 hN (by decide) rfl ?_
  refine r_aload_n hE 1 dX11_cutFromFoot_g8.2.2.2.2.2.2.2.2.2.2.1 rfl rfl ?_
  refine r_iload hE 0 dX11_cutFromFoot_g8.2.2.2.2.2.2.2.2.2.2.2.1 rfl ?_
  refine r_if_eq hE 282 dX11_cutFromFoot_g8.2.2.2.2.2.2.2.2.2.2.2.2.1 (by decide) h (fun h => ?_) (fun h => ?_)
  · refine r_lload hE 4 dX11_cutFromFoot_g8.2.2.2.2.2.2.2.2.2.2.2.2.2.2.2 rfl ?_
    refine r_pick [1, 3, 5, 0] rfl ?_
    exact kc_wo_cutFromFoot_284 hE hm hF _ _ _ _ _ h
  · refine r_lload hE 2 dX11_cutFromFoot_g8.2.2.2.2.2.2.2.2.2.2.2.2.2.1 rfl ?_
    refine r_goto hE 284 dX11_cutFromFoot_g8.2.2.2.2.2.2.2.2.2.2.2.2.2.2.1 (by decide) ?_
    refine r_pick [1, 3, 5, 0] rfl ?_
    exact kc_wo_cutFromFoot_284 hE hm hF _ _ _ _ _ h
def wc_wo_cutFromFoot_261 (post : CS → Prop) (σ : CS) (v9 : Int64) (v11 : Int64) (v13 : Int64) (v15 : Int64) (t0 : Int32) (t1 : Int32) : Prop := ((¬ (t0 = t1)) → (wc_wo_cutFromFoot_269 post σ v9 v11 v13 v15 (0 : Int32))) ∧ ((t0 = t1) → (wc_wo_cutFromFoot_269 post σ v9 v11 v13 v15 (1 : Int32)))
set_option maxRecDepth 20000 in
theorem kc_wo_cutFromFoot_261  {E : gEnv} {l : Launch} {D : va_G} {G : gAd} {post : CS → Prop} (hE : gOK E cX11_cutFromFoot RX11 none 4) (hm : cOK E l D G (pV post) 20) (hF : gFin E) (σ : CS) (v9 : Int64) (v11 : Int64) (v13 : Int64) (v15 : Int64) (t0 : Int32) (t1 : Int32) (h : wc_wo_cutFromFoot_261 post σ v9 v11 v13 v15 t0 t1) : GW E (cW G σ) 261 [(0, .ref (G.1 1300)), (9, .long v9), (11, .long v11), (13, .long v13), (15, .long v15)] [.int t1, .int t0] := by
  unfold wc_wo_cutFromFoot_261 at h
  have hN := hm.2.2.2.2.2.2.1
  refine r_icmp_ne hE 268 dX11_cutFromFoot_g8.2.2.2.2.2.1 (by decide) h (fun h => ?_) (fun h => ?_)
  · refine r_iconst (v := (0 : Int32)) hE dX11_cutFromFoot_g8.2.2.2.2.2.2.2.2.1 (by decide) ?_
    exact kc_wo_cutFromFoot_269 hE hm hF _ _ _ _ _ _ h
  · refine r_iconst (v := (1 : Int32)) hE dX11_cutFromFoot_g8.2.2.2.2.2.2.1 (by decide) ?_
    refine r_goto hE 269 dX11_cutFromFoot_g8.2.2.2.2.2.2.2.1 (by decide) ?_
    exact kc_wo_cutFromFoot_269 hE hm hF _ _ _ _ _ _ h
def wc_wo_cutFromFoot_241 (post : CS → Prop) (σ : CS) (v9 : Int64) (v11 : Int64) (v13 : Int64) (v15 : Int64) (t0 : Int32) : Prop := wc_wo_given (fun (s3 : CS) (r4 : Int64) => ((¬ ((lg_cmp r4 (1 : Int64)) = (0 : Int32))) → (wc_wo_cutFromFoot_261 post s3 v9 v11 v13 v15 t0 (0 : Int32))) ∧ (((lg_cmp r4 (1 : Int64)) = (0 : Int32)) → (wc_wo_cutFromFoot_261 post s3 v9 v11 v13 v15 t0 (1 : Int32)))) σ (2 : Int32) (0 : Int32)
set_option maxRecDepth 20000 in
theorem kc_wo_cutFromFoot_241  {E : gEnv} {l : Launch} {D : va_G} {G : gAd} {post : CS → Prop} (hE : gOK E cX11_cutFromFoot RX11 none 4) (hm : cOK E l D G (pV post) 20) (hF : gFin E) (σ : CS) (v9 : Int64) (v11 : Int64) (v13 : Int64) (v15 : Int64) (t0 : Int32) (h : wc_wo_cutFromFoot_241 post σ v9 v11 v13 v15 t0) : GW E (cW G σ) 241 [(0, .ref (G.1 1300)), (9, .long v9), (11, .long v11), (13, .long v13), (15, .long v15)] [.int t0] := by
  unfold wc_wo_cutFromFoot_241 at h
  have hN := hm.2.2.2.2.2.2.1
  refine r_istore hE [(18, .int t0), (0, .ref (G.1 1300)), (9, .long v9), (11, .long v11), (13, .long v13), (15, .long v15)] dX11_cutFromFoot_g7.2.2.2.2.2.2.2.2.2.1 hN (by decide) rfl ?_
  refine r_iload hE 0 dX11_cutFromFoot_g7.2.2.2.2.2.2.2.2.2.2.1 rfl ?_
  refine r_aload_n hE 1 dX11_cutFromFoot_g7.2.2.2.2.2.2.2.2.2.2.2.1 rfl rfl ?_
  refine r_iconst (v := (2 : Int32)) hE dX11_cutFromFoot_g7.2.2.2.2.2.2.2.2.2.2.2.2.1 (by decide) ?_
  refine r_iconst (v := (0 : Int32)) hE dX11_cutFromFoot_g7.2.2.2.2.2.2.2.2.2.2.2.2.2.1 (by decide) ?_
  refine c_callVl hE hm [.int (2 : Int32), .int (0 : Int32)] [.int t0] ck_X11_126 (cr_wo hm rfl) (kc_wo_given h) (by decide) rfl rfl (Nat.le_of_ble_eq_true rfl) dX11_cutFromFoot_g7.2.2.2.2.2.2.2.2.2.2.2.2.2.2.1 (fun s3 r4 h => ?_)
  refine r_lconst (v := (1 : Int64)) hE dX11_cutFromFoot_g7.2.2.2.2.2.2.2.2.2.2.2.2.2.2.2 (by decide) ?_
  refine r_lcmp hE dX11_cutFromFoot_g8.1 ?_
  refine r_if_ne hE 260 dX11_cutFromFoot_g8.2.1 (by decide) h (fun h => ?_) (fun h => ?_)
  · refine r_iconst (v := (0 : Int32)) hE dX11_cutFromFoot_g8.2.2.2.2.1 (by decide) ?_
    refine r_pick [1, 2, 3, 4, 5] rfl ?_
    exact kc_wo_cutFromFoot_261 hE hm hF _ _ _ _ _ _ _ h
  · refine r_iconst (v := (1 : Int32)) hE dX11_cutFromFoot_g8.2.2.1 (by decide) ?_
    refine r_goto hE 261 dX11_cutFromFoot_g8.2.2.2.1 (by decide) ?_
    refine r_pick [1, 2, 3, 4, 5] rfl ?_
    exact kc_wo_cutFromFoot_261 hE hm hF _ _ _ _ _ _ _ h
def wc_wo_cutFromFoot_236 (post : CS → Prop) (σ : CS) (v9 : Int64) (v11 : Int64) (v13 : Int64) (v15 : Int64) : Prop := wc_wo_cutFromFoot_241 post σ v9 v11 v13 v15 (1 : Int32)
set_option maxRecDepth 20000 in
theorem kc_wo_cutFromFoot_236  {E : gEnv} {l : Launch} {D : va_G} {G : gAd} {post : CS → Prop} (hE : gOK E cX11_cutFromFoot RX11 none 4) (hm : cOK E l D G (pV post) 20) (hF : gFin E) (σ : CS) (v9 : Int64) (v11 : Int64) (v13 : Int64) (v15 : Int64) (h : wc_wo_cutFromFoot_236 post σ v9 v11 v13 v15) : GW E (cW G σ) 236 [(0, .ref (G.1 1300)), (9, .long v9), (11, .long v11), (13, .long v13), (15, .long v15)] [] := by
  unfold wc_wo_cutFromFoot_236 at h
  have hN := hm.2.2.2.2.2.2.1
  refine r_iconst (v := (1 : Int32)) hE dX11_cutFromFoot_g7.2.2.2.2.2.2.1 (by decide) ?_
  refine r_goto hE 241 dX11_cutFromFoot_g7.2.2.2.2.2.2.2.1 (by decide) ?_
  exact kc_wo_cutFromFoot_241 hE hm hF _ _ _ _ _ _ h
def wc_wo_cutFromFoot_240 (post : CS → Prop) (σ : CS) (v9 : Int64) (v11 : Int64) (v13 : Int64) (v15 : Int64) : Prop := wc_wo_cutFromFoot_241 post σ v9 v11 v13 v15 (0 : Int32)
set_option maxRecDepth 20000 in
theorem kc_wo_cutFromFoot_240  {E : gEnv} {l : Launch} {D : va_G} {G : gAd} {post : CS → Prop} (hE : gOK E cX11_cutFromFoot RX11 none 4) (hm : cOK E l D G (pV post) 20) (hF : gFin E) (σ : CS) (v9 : Int64) (v11 : Int64) (v13 : Int64) (v15 : Int64) (h : wc_wo_cutFromFoot_240 post σ v9 v11 v13 v15) : GW E (cW G σ) 240 [(0, .ref (G.1 1300)), (9, .long v9), (11, .long v11), (13, .long v13), (15, .long v15)] [] := by
  unfold wc_wo_cutFromFoot_240 at h
  have hN := hm.2.2.2.2.2.2.1
  refine r_iconst (v := (0 : Int32)) hE dX11_cutFromFoot_g7.2.2.2.2.2.2.2.2.1 (by decide) ?_
  exact kc_wo_cutFromFoot_241 hE hm hF _ _ _ _ _ _ h
def wc_wo_cutFromFoot_72 (post : CS → Prop) (σ : CS) (v1 : Int64) (v3 : Int64) (v5 : Int64) : Prop := wc_rk_times (fun (s5 : CS) (r6 : Int64) => wc_rk_times (fun (s7 : CS) (r8 : Int64) => wc_rk_plus (fun (s9 : CS) (r10 : Int64) => wc_rk_over (fun (s11 : CS) (r12 : Int64) => wc_rk_root (fun (s13 : CS) (r14 : Int64) => wc_rk_times (fun (s15 : CS) (r16 : Int64) => wc_rk_minus (fun (s17 : CS) (r18 : Int64) => wc_rk_times (fun (s19 : CS) (r20 : Int64) => wc_rk_plus (fun (s21 : CS) (r22 : Int64) => wc_rk_times (fun (s23 : CS) (r24 : Int64) => wc_rk_plus (fun (s25 : CS) (r26 : Int64) => wc_rk_times (fun (s27 : CS) (r28 : Int64) => wc_rk_minus (fun (s29 : CS) (r30 : Int64) => wc_SX6_compare (fun (s31 : CS) (r32 : Int32) => ((r32 < (0 : Int32)) → (wc_wo_cutFromFoot_236 post s31 r18 r22 r26 r30)) ∧ ((¬ (r32 < (0 : Int32))) → (((¬ (r32 = (0 : Int32))) → (wc_wo_cutFromFoot_240 post s31 r18 r22 r26 r30)) ∧ ((r32 = (0 : Int32)) → (wc_SX6_compare (fun (s33 : CS) (r34 : Int32) => (((0 : Int32) ≤ r34) → (wc_wo_cutFromFoot_240 post s33 r18 r22 r26 r30)) ∧ ((¬ ((0 : Int32) ≤ r34)) → (wc_wo_cutFromFoot_236 post s33 r18 r22 r26 r30))) s31 r22 r30))))) s29 r18 r26) s27 (c_wo_y s25) r28) s25 r14 v1) s23 (c_wo_x s21) r24) s21 r14 v3) s19 (c_wo_y s17) r20) s17 r14 v1) s15 (c_wo_x s13) r16) s13 r14 v3) s11 r12) s9 v5 r10) s7 r6 r8) s5 v3 v3) σ v1 v1
set_option maxRecDepth 20000 in
theorem kc_wo_cutFromFoot_72  {E : gEnv} {l : Launch} {D : va_G} {G : gAd} {post : CS → Prop} (hE : gOK E cX11_cutFromFoot RX11 none 4) (hm : cOK E l D G (pV post) 20) (hF : gFin E) (σ : CS) (v1 : Int64) (v3 : Int64) (v5 : Int64) (h : wc_wo_cutFromFoot_72 post σ v1 v3 v5) : GW E (cW G σ) 72 [(0, .ref (G.1 1300)), (1, .long v1), (3, .long v3), (5, .long v5)] [] := by
  unfold wc_wo_cutFromFoot_72 at h
  have hN := hm.2.2.2.2.2.2.1
  refine r_aload_n hE 0 dX11_cutFromFoot_g2.2.2.2.2.2.2.2.2.2.1 rfl rfl ?_
  refine cg_wo_reckoner hE hm fk_X11_36 dX11_cutFromFoot_g2.2.2.2.2.2.2.2.2.2.2.1 ?_
  refine r_aload_n hE 0 dX11_cutFromFoot_g2.2.2.2.2.2.2.2.2.2.2.2.1 rfl rfl ?_
  refine cg_wo_reckoner hE hm fk_X11_36 dX11_cutFromFoot_g2.2.2.2.2.2.2.2.2.2.2.2.2.1 ?_
  refine r_lload hE 3 dX11_cutFromFoot_g2.2.2.2.2.2.2.2.2.2.2.2.2.2.1 rfl ?_
  refine r_aload_n hE 0 dX11_cutFromFoot_g2.2.2.2.2.2.2.2.2.2.2.2.2.2.2.1 rfl rfl ?_
  refine cg_wo_reckoner hE hm fk_X11_36 dX11_cutFromFoot_g2.2.2.2.2.2.2.2.2.2.2.2.2.2.2.2 ?_
  refine r_aload_n hE 0 dX11_cutFromFoot_g3.1 rfl rfl ?_
  refine cg_wo_reckoner hE hm fk_X11_36 dX11_cutFromFoot_g3.2.1 ?_
  refine r_lload_n hE 1 dX11_cutFromFoot_g3.2.2.1 rfl rfl ?_
  refine r_lload_n hE 1 dX11_cutFromFoot_g3.2.2.2.1 rfl rfl ?_
  refine c_callVl hE hm [.long v1, .long v1] [.ref (G.1 800), .long v5, .ref (G.1 800), .ref (G.1 800)] ck_X11_236 (cr_rk hm rfl) (kc_rk_times h) (by decide) rfl rfl (Nat.le_of_ble_eq_true rfl) dX11_cutFromFoot_g3.2.2.2.2.1 (fun s5 r6 h => ?_)
  refine r_aload_n hE 0 dX11_cutFromFoot_g3.2.2.2.2.2.1 rfl rfl ?_
  refine cg_wo_reckoner hE hm fk_X11_36 dX11_cutFromFoot_g3.2.2.2.2.2.2.1 ?_
  refine r_lload_n hE 2 dX11_cutFromFoot_g3.2.2.2.2.2.2.2.1 rfl rfl ?_
  refine r_lload_n hE 2 dX11_cutFromFoot_g3.2.2.2.2.2.2.2.2.1 rfl rfl ?_
  refine c_callVl hE hm [.long v3, .long v3] [.long r6, .ref (G.1 800), .long v5, .ref (G.1 800), .ref (G.1 800)] ck_X11_236 (cr_rk hm rfl) (kc_rk_times h) (by decide) rfl rfl (Nat.le_of_ble_eq_true rfl) dX11_cutFromFoot_g3.2.2.2.2.2.2.2.2.2.1 (fun s7 r8 h => ?_)
  refine c_callVl hE hm [.long r6, .long r8] [.long v5, .ref (G.1 800), .ref (G.1 800)] ck_X11_239 (cr_rk hm rfl) (kc_rk_plus h) (by decide) rfl rfl (Nat.le_of_ble_eq_true rfl) dX11_cutFromFoot_g3.2.2.2.2.2.2.2.2.2.2.1 (fun s9 r10 h => ?_)
  refine c_callVl hE hm [.long v5, .long r10] [.ref (G.1 800)] ck_X11_204 (cr_rk hm rfl) (kc_rk_over h) (by decide) rfl rfl (Nat.le_of_ble_eq_true rfl) dX11_cutFromFoot_g3.2.2.2.2.2.2.2.2.2.2.2.1 (fun s11 r12 h => ?_)
  refine c_callVl hE hm [.long r12] [] ck_X11_285 (cr_rk hm rfl) (kc_rk_root h) (by decide) rfl rfl (Nat.le_of_ble_eq_true rfl) dX11_cutFromFoot_g3.2.2.2.2.2.2.2.2.2.2.2.2.1 (fun s13 r14 h => ?_)
  refine r_lstore hE [(7, .long r14), (0, .ref (G.1 1300)), (1, .long v1), (3, .long v3), (5, .long v5)] dX11_cutFromFoot_g3.2.2.2.2.2.2.2.2.2.2.2.2.2.1 hN (by decide) rfl ?_
  refine r_aload_n hE 1 dX11_cutFromFoot_g3.2.2.2.2.2.2.2.2.2.2.2.2.2.2.1 rfl rfl ?_
  refine cg_wo_reckoner hE hm fk_X11_36 dX11_cutFromFoot_g3.2.2.2.2.2.2.2.2.2.2.2.2.2.2.2 ?_
  refine r_aload_n hE 1 dX11_cutFromFoot_g4.1 rfl rfl ?_
  refine cg_wo_x hE hm fk_X11_17 dX11_cutFromFoot_g4.2.1 ?_
  refine r_aload_n hE 1 dX11_cutFromFoot_g4.2.2.1 rfl rfl ?_
  refine cg_wo_reckoner hE hm fk_X11_36 dX11_cutFromFoot_g4.2.2.2.1 ?_
  refine r_lload hE 0 dX11_cutFromFoot_g4.2.2.2.2.1 rfl ?_
  refine r_lload_n hE 3 dX11_cutFromFoot_g4.2.2.2.2.2.1 rfl rfl ?_
  refine c_callVl hE hm [.long r14, .long v3] [.long (c_wo_x s13), .ref (G.1 800)] ck_X11_236 (cr_rk hm rfl) (kc_rk_times h) (by decide) rfl rfl (Nat.le_of_ble_eq_true rfl) dX11_cutFromFoot_g4.2.2.2.2.2.2.1 (fun s15 r16 h => ?_)
  refine c_callVl hE hm [.long (c_wo_x s13), .long r16] [] ck_X11_226 (cr_rk hm rfl) (kc_rk_minus h) (by decide) rfl rfl (Nat.le_of_ble_eq_true rfl) dX11_cutFromFoot_g4.2.2.2.2.2.2.2.1 (fun s17 r18 h => ?_)
  refine r_lstore hE [(9, .long r18), (7, .long r14), (0, .ref (G.1 1300)), (1, .long v1), (3, .long v3), (5, .long v5)] dX11_cutFromFoot_g4.2.2.2.2.2.2.2.2.1 hN (by decide) rfl ?_
  refine r_aload_n hE 2 dX11_cutFromFoot_g4.2.2.2.2.2.2.2.2.2.1 rfl rfl ?_
  refine cg_wo_reckoner hE hm fk_X11_36 dX11_cutFromFoot_g4.2.2.2.2.2.2.2.2.2.2.1 ?_
  refine r_aload_n hE 2 dX11_cutFromFoot_g4.2.2.2.2.2.2.2.2.2.2.2.1 rfl rfl ?_
  refine cg_wo_y hE hm fk_X11_21 dX11_cutFromFoot_g4.2.2.2.2.2.2.2.2.2.2.2.2.1 ?_
  refine r_aload_n hE 2 dX11_cutFromFoot_g4.2.2.2.2.2.2.2.2.2.2.2.2.2.1 rfl rfl ?_
  refine cg_wo_reckoner hE hm fk_X11_36 dX11_cutFromFoot_g4.2.2.2.2.2.2.2.2.2.2.2.2.2.2.1 ?_
  refine r_lload hE 1 dX11_cutFromFoot_g4.2.2.2.2.2.2.2.2.2.2.2.2.2.2.2 rfl ?_
  refine r_lload_n hE 3 dX11_cutFromFoot_g5.1 rfl rfl ?_
  refine c_callVl hE hm [.long r14, .long v1] [.long (c_wo_y s17), .ref (G.1 800)] ck_X11_236 (cr_rk hm rfl) (kc_rk_times h) (by decide) rfl rfl (Nat.le_of_ble_eq_true rfl) dX11_cutFromFoot_g5.2.1 (fun s19 r20 h => ?_)
  refine c_callVl hE hm [.long (c_wo_y s17), .long r20] [] ck_X11_239 (cr_rk hm rfl) (kc_rk_plus h) (by decide) rfl rfl (Nat.le_of_ble_eq_true rfl) dX11_cutFromFoot_g5.2.2.1 (fun s21 r22 h => ?_)
  refine r_lstore hE [(11, .long r22), (9, .long r18), (7, .long r14), (0, .ref (G.1 1300)), (1, .long v1), (3, .long v3), (5, .long v5)] dX11_cutFromFoot_g5.2.2.2.1 hN (by decide) rfl ?_
  refine r_aload_n hE 3 dX11_cutFromFoot_g5.2.2.2.2.1 rfl rfl ?_
  refine cg_wo_reckoner hE hm fk_X11_36 dX11_cutFromFoot_g5.2.2.2.2.2.1 ?_
  refine r_aload_n hE 3 dX11_cutFromFoot_g5.2.2.2.2.2.2.1 rfl rfl ?_
  refine cg_wo_x hE hm fk_X11_17 dX11_cutFromFoot_g5.2.2.2.2.2.2.2.1 ?_
  refine r_aload_n hE 3 dX11_cutFromFoot_g5.2.2.2.2.2.2.2.2.1 rfl rfl ?_
  refine cg_wo_reckoner hE hm fk_X11_36 dX11_cutFromFoot_g5.2.2.2.2.2.2.2.2.2.1 ?_
  refine r_lload hE 2 dX11_cutFromFoot_g5.2.2.2.2.2.2.2.2.2.2.1 rfl ?_
  refine r_lload_n hE 5 dX11_cutFromFoot_g5.2.2.2.2.2.2.2.2.2.2.2.1 rfl rfl ?_
  refine c_callVl hE hm [.long r14, .long v3] [.long (c_wo_x s21), .ref (G.1 800)] ck_X11_236 (cr_rk hm rfl) (kc_rk_times h) (by decide) rfl rfl (Nat.le_of_ble_eq_true rfl) dX11_cutFromFoot_g5.2.2.2.2.2.2.2.2.2.2.2.2.1 (fun s23 r24 h => ?_)
  refine c_callVl hE hm [.long (c_wo_x s21), .long r24] [] ck_X11_239 (cr_rk hm rfl) (kc_rk_plus h) (by decide) rfl rfl (Nat.le_of_ble_eq_true rfl) dX11_cutFromFoot_g5.2.2.2.2.2.2.2.2.2.2.2.2.2.1 (fun s25 r26 h => ?_)
  refine r_lstore hE [(13, .long r26), (11, .long r22), (9, .long r18), (7, .long r14), (0, .ref (G.1 1300)), (1, .long v1), (3, .long v3), (5, .long v5)] dX11_cutFromFoot_g5.2.2.2.2.2.2.2.2.2.2.2.2.2.2.1 hN (by decide) rfl ?_
  refine r_aload_n hE 4 dX11_cutFromFoot_g5.2.2.2.2.2.2.2.2.2.2.2.2.2.2.2 rfl rfl ?_
  refine cg_wo_reckoner hE hm fk_X11_36 dX11_cutFromFoot_g6.1 ?_
  refine r_aload_n hE 4 dX11_cutFromFoot_g6.2.1 rfl rfl ?_
  refine cg_wo_y hE hm fk_X11_21 dX11_cutFromFoot_g6.2.2.1 ?_
  refine r_aload_n hE 4 dX11_cutFromFoot_g6.2.2.2.1 rfl rfl ?_
  refine cg_wo_reckoner hE hm fk_X11_36 dX11_cutFromFoot_g6.2.2.2.2.1 ?_
  refine r_lload hE 3 dX11_cutFromFoot_g6.2.2.2.2.2.1 rfl ?_
  refine r_lload_n hE 5 dX11_cutFromFoot_g6.2.2.2.2.2.2.1 rfl rfl ?_
  refine c_callVl hE hm [.long r14, .long v1] [.long (c_wo_y s25), .ref (G.1 800)] ck_X11_236 (cr_rk hm rfl) (kc_rk_times h) (by decide) rfl rfl (Nat.le_of_ble_eq_true rfl) dX11_cutFromFoot_g6.2.2.2.2.2.2.2.1 (fun s27 r28 h => ?_)
  refine c_callVl hE hm [.long (c_wo_y s25), .long r28] [] ck_X11_226 (cr_rk hm rfl) (kc_rk_minus h) (by decide) rfl rfl (Nat.le_of_ble_eq_true rfl) dX11_cutFromFoot_g6.2.2.2.2.2.2.2.2.1 (fun s29 r30 h => ?_)
  refine r_lstore hE [(15, .long r30), (13, .long r26), (11, .long r22), (9, .long r18), (7, .long r14), (0, .ref (G.1 1300)), (1, .long v1), (3, .long v3), (5, .long v5)] dX11_cutFromFoot_g6.2.2.2.2.2.2.2.2.2.1 hN (by decide) rfl ?_
  refine r_lload hE 3 dX11_cutFromFoot_g6.2.2.2.2.2.2.2.2.2.2.1 rfl ?_
  refine r_lload hE 1 dX11_cutFromFoot_g6.2.2.2.2.2.2.2.2.2.2.2.1 rfl ?_
  refine c_callSi hE hm [.long r18, .long r26] [] ck_X11_246 (kc_SX6_compare h) (by decide) rfl rfl (Nat.le_of_ble_eq_true rfl) dX11_cutFromFoot_g6.2.2.2.2.2.2.2.2.2.2.2.2.1 (fun s31 r32 h => ?_)
  refine r_istore hE [(17, .int r32), (15, .long r30), (13, .long r26), (11, .long r22), (9, .long r18), (7, .long r14), (0, .ref (G.1 1300)), (1, .long v1), (3, .long v3), (5, .long v5)] dX11_cutFromFoot_g6.2.2.2.2.2.2.2.2.2.2.2.2.2.1 hN (by decide) rfl ?_
  refine r_iload hE 0 dX11_cutFromFoot_g6.2.2.2.2.2.2.2.2.2.2.2.2.2.2.1 rfl ?_
  refine r_if_lt hE 236 dX11_cutFromFoot_g6.2.2.2.2.2.2.2.2.2.2.2.2.2.2.2 (by decide) h (fun h => ?_) (fun h => ?_)
  · refine r_pick [6, 4, 3, 2, 1] rfl ?_
    exact kc_wo_cutFromFoot_236 hE hm hF _ _ _ _ _ h
  · refine r_iload hE 0 dX11_cutFromFoot_g7.1 rfl ?_
    refine r_if_ne hE 240 dX11_cutFromFoot_g7.2.1 (by decide) h (fun h => ?_) (fun h => ?_)
    · refine r_pick [6, 4, 3, 2, 1] rfl ?_
      exact kc_wo_cutFromFoot_240 hE hm hF _ _ _ _ _ h
    · refine r_lload hE 3 dX11_cutFromFoot_g7.2.2.1 rfl ?_
      refine r_lload hE 1 dX11_cutFromFoot_g7.2.2.2.1 rfl ?_
      refine c_callSi hE hm [.long r22, .long r30] [] ck_X11_246 (kc_SX6_compare h) (by decide) rfl rfl (Nat.le_of_ble_eq_true rfl) dX11_cutFromFoot_g7.2.2.2.2.1 (fun s33 r34 h => ?_)
      refine r_if_ge hE 240 dX11_cutFromFoot_g7.2.2.2.2.2.1 (by decide) h (fun h => ?_) (fun h => ?_)
      · refine r_pick [6, 4, 3, 2, 1] rfl ?_
        exact kc_wo_cutFromFoot_240 hE hm hF _ _ _ _ _ h
      · refine r_pick [6, 4, 3, 2, 1] rfl ?_
        exact kc_wo_cutFromFoot_236 hE hm hF _ _ _ _ _ h
def wc_wo_cutFromFoot (post : CS → Prop) (σ : CS) : Prop := wc_wo_given (fun (s35 : CS) (r36 : Int64) => wc_wo_given (fun (s37 : CS) (r38 : Int64) => wc_wo_given (fun (s39 : CS) (r40 : Int64) => wc_wo_given (fun (s41 : CS) (r42 : Int64) => wc_wo_given (fun (s43 : CS) (r44 : Int64) => wc_wo_dist (fun (s45 : CS) (r46 : Int64) => wc_rk_minus (fun (s47 : CS) (r48 : Int64) => wc_SX6_top (fun (s49 : CS) (r50 : Int64) => (((0 : Int32) ≤ (lg_cmp r50 (0 : Int64))) → (wc_wo_cutFromFoot_72 post s49 r36 r38 r48)) ∧ ((¬ ((0 : Int32) ≤ (lg_cmp r50 (0 : Int64)))) → (wc_rk_fail (fun (s51 : CS) => wc_wo_cutFromFoot_72 post s51 r36 r38 r48) s49 (8 : Int32)))) s47 r48) s45 r40 r46) s43 r42 r44 (c_wo_x s43) (c_wo_y s43)) s41 (1 : Int32) (1 : Int32)) s39 (1 : Int32) (0 : Int32)) s37 (1 : Int32) (2 : Int32)) s35 (0 : Int32) (1 : Int32)) σ (0 : Int32) (0 : Int32)
set_option maxRecDepth 20000 in
theorem kc_wo_cutFromFoot {l : Launch} {D : va_G} {G : gAd} {post : CS → Prop} {σ : CS} (h : wc_wo_cutFromFoot post σ) : cMet l D G yX11_cutFromFoot cX11_cutFromFoot 20 none 4 [.ref (G.1 1300)] σ (pV post) := by
  unfold wc_wo_cutFromFoot at h
  refine c_enter (own := RX11) (by decide +kernel) rfl [(0, .ref (G.1 1300))] rfl (Nat.le_of_ble_eq_true rfl) ?_
  intro E hE hm hF
  have hN := hm.2.2.2.2.2.2.1
  refine r_aload_n hE 0 dX11_cutFromFoot_g0.1 rfl rfl ?_
  refine r_iconst (v := (0 : Int32)) hE dX11_cutFromFoot_g0.2.1 (by decide) ?_
  refine r_iconst (v := (0 : Int32)) hE dX11_cutFromFoot_g0.2.2.1 (by decide) ?_
  refine c_callVl hE hm [.int (0 : Int32), .int (0 : Int32)] [] ck_X11_126 (cr_wo hm rfl) (kc_wo_given h) (by decide) rfl rfl (Nat.le_of_ble_eq_true rfl) dX11_cutFromFoot_g0.2.2.2.1 (fun s35 r36 h => ?_)
  refine r_lstore_n hE [(1, .long r36), (0, .ref (G.1 1300))] dX11_cutFromFoot_g0.2.2.2.2.1 rfl hN (by decide) rfl ?_
  refine r_aload_n hE 1 dX11_cutFromFoot_g0.2.2.2.2.2.1 rfl rfl ?_
  refine r_iconst (v := (0 : Int32)) hE dX11_cutFromFoot_g0.2.2.2.2.2.2.1 (by decide) ?_
  refine r_iconst (v := (1 : Int32)) hE dX11_cutFromFoot_g0.2.2.2.2.2.2.2.1 (by decide) ?_
  refine c_callVl hE hm [.int (0 : Int32), .int (1 : Int32)] [] ck_X11_126 (cr_wo hm rfl) (kc_wo_given h) (by decide) rfl rfl (Nat.le_of_ble_eq_true rfl) dX11_cutFromFoot_g0.2.2.2.2.2.2.2.2.1 (fun s37 r38 h => ?_)
  refine r_lstore_n hE [(3, .long r38), (1, .long r36), (0, .ref (G.1 1300))] dX11_cutFromFoot_g0.2.2.2.2.2.2.2.2.2.1 rfl hN (by decide) rfl ?_
  refine r_aload_n hE 2 dX11_cutFromFoot_g0.2.2.2.2.2.2.2.2.2.2.1 rfl rfl ?_
  refine cg_wo_reckoner hE hm fk_X11_36 dX11_cutFromFoot_g0.2.2.2.2.2.2.2.2.2.2.2.1 ?_
  refine r_aload_n hE 2 dX11_cutFromFoot_g0.2.2.2.2.2.2.2.2.2.2.2.2.1 rfl rfl ?_
  refine r_iconst (v := (1 : Int32)) hE dX11_cutFromFoot_g0.2.2.2.2.2.2.2.2.2.2.2.2.2.1 (by decide) ?_
  refine r_iconst (v := (2 : Int32)) hE dX11_cutFromFoot_g0.2.2.2.2.2.2.2.2.2.2.2.2.2.2.1 (by decide) ?_
  refine c_callVl hE hm [.int (1 : Int32), .int (2 : Int32)] [.ref (G.1 800)] ck_X11_126 (cr_wo hm rfl) (kc_wo_given h) (by decide) rfl rfl (Nat.le_of_ble_eq_true rfl) dX11_cutFromFoot_g0.2.2.2.2.2.2.2.2.2.2.2.2.2.2.2 (fun s39 r40 h => ?_)
  refine r_aload_n hE 2 dX11_cutFromFoot_g1.1 rfl rfl ?_
  refine r_aload_n hE 2 dX11_cutFromFoot_g1.2.1 rfl rfl ?_
  refine r_iconst (v := (1 : Int32)) hE dX11_cutFromFoot_g1.2.2.1 (by decide) ?_
  refine r_iconst (v := (0 : Int32)) hE dX11_cutFromFoot_g1.2.2.2.1 (by decide) ?_
  refine c_callVl hE hm [.int (1 : Int32), .int (0 : Int32)] [.ref (G.1 1300), .long r40, .ref (G.1 800)] ck_X11_126 (cr_wo hm rfl) (kc_wo_given h) (by decide) rfl rfl (Nat.le_of_ble_eq_true rfl) dX11_cutFromFoot_g1.2.2.2.2.1 (fun s41 r42 h => ?_)
  refine r_aload_n hE 2 dX11_cutFromFoot_g1.2.2.2.2.2.1 rfl rfl ?_
  refine r_iconst (v := (1 : Int32)) hE dX11_cutFromFoot_g1.2.2.2.2.2.2.1 (by decide) ?_
  refine r_iconst (v := (1 : Int32)) hE dX11_cutFromFoot_g1.2.2.2.2.2.2.2.1 (by decide) ?_
  refine c_callVl hE hm [.int (1 : Int32), .int (1 : Int32)] [.long r42, .ref (G.1 1300), .long r40, .ref (G.1 800)] ck_X11_126 (cr_wo hm rfl) (kc_wo_given h) (by decide) rfl rfl (Nat.le_of_ble_eq_true rfl) dX11_cutFromFoot_g1.2.2.2.2.2.2.2.2.1 (fun s43 r44 h => ?_)
  refine r_aload_n hE 2 dX11_cutFromFoot_g1.2.2.2.2.2.2.2.2.2.1 rfl rfl ?_
  refine cg_wo_x hE hm fk_X11_17 dX11_cutFromFoot_g1.2.2.2.2.2.2.2.2.2.2.1 ?_
  refine r_aload_n hE 2 dX11_cutFromFoot_g1.2.2.2.2.2.2.2.2.2.2.2.1 rfl rfl ?_
  refine cg_wo_y hE hm fk_X11_21 dX11_cutFromFoot_g1.2.2.2.2.2.2.2.2.2.2.2.2.1 ?_
  refine c_callVl hE hm [.long r42, .long r44, .long (c_wo_x s43), .long (c_wo_y s43)] [.long r40, .ref (G.1 800)] ck_X11_218 (cr_wo hm rfl) (kc_wo_dist h) (by decide) rfl rfl (Nat.le_of_ble_eq_true rfl) dX11_cutFromFoot_g1.2.2.2.2.2.2.2.2.2.2.2.2.2.1 (fun s45 r46 h => ?_)
  refine c_callVl hE hm [.long r40, .long r46] [] ck_X11_226 (cr_rk hm rfl) (kc_rk_minus h) (by decide) rfl rfl (Nat.le_of_ble_eq_true rfl) dX11_cutFromFoot_g1.2.2.2.2.2.2.2.2.2.2.2.2.2.2.1 (fun s47 r48 h => ?_)
  refine r_lstore hE [(5, .long r48), (3, .long r38), (1, .long r36), (0, .ref (G.1 1300))] dX11_cutFromFoot_g1.2.2.2.2.2.2.2.2.2.2.2.2.2.2.2 hN (by decide) rfl ?_
  refine r_lload hE 0 dX11_cutFromFoot_g2.1 rfl ?_
  refine c_callSl hE hm [.long r48] [] ck_X11_175 (kc_SX6_top h) (by decide) rfl rfl (Nat.le_of_ble_eq_true rfl) dX11_cutFromFoot_g2.2.1 (fun s49 r50 h => ?_)
  refine r_lconst (v := (0 : Int64)) hE dX11_cutFromFoot_g2.2.2.1 (by decide) ?_
  refine r_lcmp hE dX11_cutFromFoot_g2.2.2.2.1 ?_
  refine r_if_ge hE 72 dX11_cutFromFoot_g2.2.2.2.2.1 (by decide) h (fun h => ?_) (fun h => ?_)
  · refine r_pick [3, 2, 1, 0] rfl ?_
    exact kc_wo_cutFromFoot_72 hE hm hF _ _ _ _ h
  · refine r_aload_n hE 3 dX11_cutFromFoot_g2.2.2.2.2.2.1 rfl rfl ?_
    refine cg_wo_reckoner hE hm fk_X11_36 dX11_cutFromFoot_g2.2.2.2.2.2.2.1 ?_
    refine r_bipush (v := (8 : Int32)) hE dX11_cutFromFoot_g2.2.2.2.2.2.2.2.1 (by decide) ?_
    refine c_callVv hE hm [.int (8 : Int32)] [] ck_X11_48 (cr_rk hm rfl) (kc_rk_fail h) (by decide) rfl rfl (Nat.le_of_ble_eq_true rfl) dX11_cutFromFoot_g2.2.2.2.2.2.2.2.2.1 (fun s51 h => ?_)
    refine r_pick [3, 2, 1, 0] rfl ?_
    exact kc_wo_cutFromFoot_72 hE hm hF _ _ _ _ h
/-! wo_meet -/
def wc_wo_meet (post : CS → Prop) (σ : CS) (a1 : Int64) (a3 : Int64) (a5 : Int64) (a7 : Int64) (a9 : Int64) (a11 : Int64) : Prop := wc_rk_times (fun (s1 : CS) (r2 : Int64) => wc_rk_times (fun (s3 : CS) (r4 : Int64) => wc_rk_minus (fun (s5 : CS) (r6 : Int64) => wc_rk_times (fun (s7 : CS) (r8 : Int64) => wc_rk_times (fun (s9 : CS) (r10 : Int64) => wc_rk_minus (fun (s11 : CS) (r12 : Int64) => wc_rk_over (fun (s13 : CS) (r14 : Int64) => ∀ s15 : CS, s15 = c_wo_x_s s13 r14 → wc_rk_times (fun (s16 : CS) (r17 : Int64) => wc_rk_times (fun (s18 : CS) (r19 : Int64) => wc_rk_minus (fun (s20 : CS) (r21 : Int64) => wc_rk_over (fun (s22 : CS) (r23 : Int64) => ∀ s24 : CS, s24 = c_wo_y_s s22 r23 → post s24) s20 r21 r6) s18 r17 r19) s16 a7 a5) s15 a1 a11) s11 r12 r6) s9 r8 r10) s7 a11 a3) s5 a5 a9) s3 r2 r4) s1 a7 a3) σ a1 a9
set_option maxRecDepth 20000 in
theorem kc_wo_meet {l : Launch} {D : va_G} {G : gAd} {post : CS → Prop} {σ : CS} {a1 : Int64} {a3 : Int64} {a5 : Int64} {a7 : Int64} {a9 : Int64} {a11 : Int64} (h : wc_wo_meet post σ a1 a3 a5 a7 a9 a11) : cMet l D G yX11_meet cX11_meet 15 none 3 [.ref (G.1 1300), .long a1, .long a3, .long a5, .long a7, .long a9, .long a11] σ (pV post) := by
  unfold wc_wo_meet at h
  refine c_enter (own := RX11) (by decide +kernel) rfl [(0, .ref (G.1 1300)), (1, .long a1), (3, .long a3), (5, .long a5), (7, .long a7), (9, .long a9), (11, .long a11)] rfl (Nat.le_of_ble_eq_true rfl) ?_
  intro E hE hm hF
  have hN := hm.2.2.2.2.2.2.1
  refine r_aload_n hE 0 dX11_meet_g0.1 rfl rfl ?_
  refine cg_wo_reckoner hE hm fk_X11_36 dX11_meet_g0.2.1 ?_
  refine r_aload_n hE 0 dX11_meet_g0.2.2.1 rfl rfl ?_
  refine cg_wo_reckoner hE hm fk_X11_36 dX11_meet_g0.2.2.2.1 ?_
  refine r_lload_n hE 1 dX11_meet_g0.2.2.2.2.1 rfl rfl ?_
  refine r_lload hE 5 dX11_meet_g0.2.2.2.2.2.1 rfl ?_
  refine c_callVl hE hm [.long a1, .long a9] [.ref (G.1 800)] ck_X11_236 (cr_rk hm rfl) (kc_rk_times h) (by decide) rfl rfl (Nat.le_of_ble_eq_true rfl) dX11_meet_g0.2.2.2.2.2.2.1 (fun s1 r2 h => ?_)
  refine r_aload_n hE 0 dX11_meet_g0.2.2.2.2.2.2.2.1 rfl rfl ?_
  refine cg_wo_reckoner hE hm fk_X11_36 dX11_meet_g0.2.2.2.2.2.2.2.2.1 ?_
  refine r_lload hE 4 dX11_meet_g0.2.2.2.2.2.2.2.2.2.1 rfl ?_
  refine r_lload_n hE 2 dX11_meet_g0.2.2.2.2.2.2.2.2.2.2.1 rfl rfl ?_
  refine c_callVl hE hm [.long a7, .long a3] [.long r2, .ref (G.1 800)] ck_X11_236 (cr_rk hm rfl) (kc_rk_times h) (by decide) rfl rfl (Nat.le_of_ble_eq_true rfl) dX11_meet_g0.2.2.2.2.2.2.2.2.2.2.2.1 (fun s3 r4 h => ?_)
  refine c_callVl hE hm [.long r2, .long r4] [] ck_X11_226 (cr_rk hm rfl) (kc_rk_minus h) (by decide) rfl rfl (Nat.le_of_ble_eq_true rfl) dX11_meet_g0.2.2.2.2.2.2.2.2.2.2.2.2.1 (fun s5 r6 h => ?_)
  refine r_lstore hE [(13, .long r6), (0, .ref (G.1 1300)), (1, .long a1), (3, .long a3), (5, .long a5), (7, .long a7), (9, .long a9), (11, .long a11)] dX11_meet_g0.2.2.2.2.2.2.2.2.2.2.2.2.2.1 hN (by decide) rfl ?_
  refine r_aload_n hE 1 dX11_meet_g0.2.2.2.2.2.2.2.2.2.2.2.2.2.2.1 rfl rfl ?_
  refine r_aload_n hE 1 dX11_meet_g0.2.2.2.2.2.2.2.2.2.2.2.2.2.2.2 rfl rfl ?_
  refine cg_wo_reckoner hE hm fk_X11_36 dX11_meet_g1.1 ?_
  refine r_aload_n hE 1 dX11_meet_g1.2.1 rfl rfl ?_
  refine cg_wo_reckoner hE hm fk_X11_36 dX11_meet_g1.2.2.1 ?_
  refine r_aload_n hE 1 dX11_meet_g1.2.2.2.1 rfl rfl ?_
  refine cg_wo_reckoner hE hm fk_X11_36 dX11_meet_g1.2.2.2.2.1 ?_
  refine r_lload hE 4 dX11_meet_g1.2.2.2.2.2.1 rfl ?_
  refine r_lload hE 6 dX11_meet_g1.2.2.2.2.2.2.1 rfl ?_
  refine c_callVl hE hm [.long a5, .long a9] [.ref (G.1 800), .ref (G.1 800), .ref (G.1 1300)] ck_X11_236 (cr_rk hm rfl) (kc_rk_times h) (by decide) rfl rfl (Nat.le_of_ble_eq_true rfl) dX11_meet_g1.2.2.2.2.2.2.2.1 (fun s7 r8 h => ?_)
  refine r_aload_n hE 1 dX11_meet_g1.2.2.2.2.2.2.2.2.1 rfl rfl ?_
  refine cg_wo_reckoner hE hm fk_X11_36 dX11_meet_g1.2.2.2.2.2.2.2.2.2.1 ?_
  refine r_lload hE 7 dX11_meet_g1.2.2.2.2.2.2.2.2.2.2.1 rfl ?_
  refine r_lload_n hE 3 dX11_meet_g1.2.2.2.2.2.2.2.2.2.2.2.1 rfl rfl ?_
  refine c_callVl hE hm [.long a11, .long a3] [.long r8, .ref (G.1 800), .ref (G.1 800), .ref (G.1 1300)] ck_X11_236 (cr_rk hm rfl) (kc_rk_times h) (by decide) rfl rfl (Nat.le_of_ble_eq_true rfl) dX11_meet_g1.2.2.2.2.2.2.2.2.2.2.2.2.1 (fun s9 r10 h => ?_)
  refine c_callVl hE hm [.long r8, .long r10] [.ref (G.1 800), .ref (G.1 1300)] ck_X11_226 (cr_rk hm rfl) (kc_rk_minus h) (by decide) rfl rfl (Nat.le_of_ble_eq_true rfl) dX11_meet_g1.2.2.2.2.2.2.2.2.2.2.2.2.2.1 (fun s11 r12 h => ?_)
  refine r_lload hE 0 dX11_meet_g1.2.2.2.2.2.2.2.2.2.2.2.2.2.2.1 rfl ?_
  refine c_callVl hE hm [.long r12, .long r6] [.ref (G.1 1300)] ck_X11_204 (cr_rk hm rfl) (kc_rk_over h) (by decide) rfl rfl (Nat.le_of_ble_eq_true rfl) dX11_meet_g1.2.2.2.2.2.2.2.2.2.2.2.2.2.2.2 (fun s13 r14 h => ?_)
  refine cp_wo_x hE hm fk_X11_17 dX11_meet_g2.1 h (fun s15 h => ?_)
  refine r_aload_n hE 1 dX11_meet_g2.2.1 rfl rfl ?_
  refine r_aload_n hE 1 dX11_meet_g2.2.2.1 rfl rfl ?_
  refine cg_wo_reckoner hE hm fk_X11_36 dX11_meet_g2.2.2.2.1 ?_
  refine r_aload_n hE 1 dX11_meet_g2.2.2.2.2.1 rfl rfl ?_
  refine cg_wo_reckoner hE hm fk_X11_36 dX11_meet_g2.2.2.2.2.2.1 ?_
  refine r_aload_n hE 1 dX11_meet_g2.2.2.2.2.2.2.1 rfl rfl ?_
  refine cg_wo_reckoner hE hm fk_X11_36 dX11_meet_g2.2.2.2.2.2.2.2.1 ?_
  refine r_lload_n hE 2 dX11_meet_g2.2.2.2.2.2.2.2.2.1 rfl rfl ?_
  refine r_lload hE 7 dX11_meet_g2.2.2.2.2.2.2.2.2.2.1 rfl ?_
  refine c_callVl hE hm [.long a1, .long a11] [.ref (G.1 800), .ref (G.1 800), .ref (G.1 1300)] ck_X11_236 (cr_rk hm rfl) (kc_rk_times h) (by decide) rfl rfl (Nat.le_of_ble_eq_true rfl) dX11_meet_g2.2.2.2.2.2.2.2.2.2.2.1 (fun s16 r17 h => ?_)
  refine r_aload_n hE 1 dX11_meet_g2.2.2.2.2.2.2.2.2.2.2.2.1 rfl rfl ?_
  refine cg_wo_reckoner hE hm fk_X11_36 dX11_meet_g2.2.2.2.2.2.2.2.2.2.2.2.2.1 ?_
  refine r_lload hE 5 dX11_meet_g2.2.2.2.2.2.2.2.2.2.2.2.2.2.1 rfl ?_
  refine r_lload hE 4 dX11_meet_g2.2.2.2.2.2.2.2.2.2.2.2.2.2.2.1 rfl ?_
  refine c_callVl hE hm [.long a7, .long a5] [.long r17, .ref (G.1 800), .ref (G.1 800), .ref (G.1 1300)] ck_X11_236 (cr_rk hm rfl) (kc_rk_times h) (by decide) rfl rfl (Nat.le_of_ble_eq_true rfl) dX11_meet_g2.2.2.2.2.2.2.2.2.2.2.2.2.2.2.2 (fun s18 r19 h => ?_)
  refine c_callVl hE hm [.long r17, .long r19] [.ref (G.1 800), .ref (G.1 1300)] ck_X11_226 (cr_rk hm rfl) (kc_rk_minus h) (by decide) rfl rfl (Nat.le_of_ble_eq_true rfl) dX11_meet_g3.1 (fun s20 r21 h => ?_)
  refine r_lload hE 0 dX11_meet_g3.2.1 rfl ?_
  refine c_callVl hE hm [.long r21, .long r6] [.ref (G.1 1300)] ck_X11_204 (cr_rk hm rfl) (kc_rk_over h) (by decide) rfl rfl (Nat.le_of_ble_eq_true rfl) dX11_meet_g3.2.2.1 (fun s22 r23 h => ?_)
  refine cp_wo_y hE hm fk_X11_21 dX11_meet_g3.2.2.2.1 h (fun s24 h => ?_)
  exact c_vret hE hm hF dX11_meet_g3.2.2.2.2 h
/-! wo_foot -/
def wc_wo_foot (post : CS → Prop) (σ : CS) (a1 : Int64) (a3 : Int64) (a5 : Int64) (a7 : Int64) (a9 : Int64) : Prop := wc_wo_perpendicular (fun (s1 : CS) => wc_wo_normal (fun (s2 : CS) => wc_wo_meet (fun (s3 : CS) => post s3) s2 a5 a7 a9 (c_wo_a s2) (c_wo_b s2) (c_wo_c s2)) s1) σ a1 a3 a5 a7
set_option maxRecDepth 20000 in
theorem kc_wo_foot {l : Launch} {D : va_G} {G : gAd} {post : CS → Prop} {σ : CS} {a1 : Int64} {a3 : Int64} {a5 : Int64} {a7 : Int64} {a9 : Int64} (h : wc_wo_foot post σ a1 a3 a5 a7 a9) : cMet l D G yX11_foot cX11_foot 11 none 4 [.ref (G.1 1300), .long a1, .long a3, .long a5, .long a7, .long a9] σ (pV post) := by
  unfold wc_wo_foot at h
  refine c_enter (own := RX11) (by decide +kernel) rfl [(0, .ref (G.1 1300)), (1, .long a1), (3, .long a3), (5, .long a5), (7, .long a7), (9, .long a9)] rfl (Nat.le_of_ble_eq_true rfl) ?_
  intro E hE hm hF
  have hN := hm.2.2.2.2.2.2.1
  refine r_aload_n hE 0 dX11_foot_g0.1 rfl rfl ?_
  refine r_lload_n hE 1 dX11_foot_g0.2.1 rfl rfl ?_
  refine r_lload_n hE 2 dX11_foot_g0.2.2.1 rfl rfl ?_
  refine r_lload hE 3 dX11_foot_g0.2.2.2.1 rfl ?_
  refine r_lload hE 4 dX11_foot_g0.2.2.2.2.1 rfl ?_
  refine c_callVv hE hm [.long a1, .long a3, .long a5, .long a7] [] ck_X11_279 (cr_wo hm rfl) (kc_wo_perpendicular h) (by decide) rfl rfl (Nat.le_of_ble_eq_true rfl) dX11_foot_g0.2.2.2.2.2.1 (fun s1 h => ?_)
  refine r_aload_n hE 0 dX11_foot_g0.2.2.2.2.2.2.1 rfl rfl ?_
  refine c_callVv hE hm [] [] ck_X11_282 (cr_wo hm rfl) (kc_wo_normal h) (by decide) rfl rfl (Nat.le_of_ble_eq_true rfl) dX11_foot_g0.2.2.2.2.2.2.2.1 (fun s2 h => ?_)
  refine r_aload_n hE 0 dX11_foot_g0.2.2.2.2.2.2.2.2.1 rfl rfl ?_
  refine r_lload hE 3 dX11_foot_g0.2.2.2.2.2.2.2.2.2.1 rfl ?_
  refine r_lload hE 4 dX11_foot_g0.2.2.2.2.2.2.2.2.2.2.1 rfl ?_
  refine r_lload hE 5 dX11_foot_g0.2.2.2.2.2.2.2.2.2.2.2.1 rfl ?_
  refine r_aload_n hE 0 dX11_foot_g0.2.2.2.2.2.2.2.2.2.2.2.2.1 rfl rfl ?_
  refine cg_wo_a hE hm fk_X11_24 dX11_foot_g0.2.2.2.2.2.2.2.2.2.2.2.2.2.1 ?_
  refine r_aload_n hE 0 dX11_foot_g0.2.2.2.2.2.2.2.2.2.2.2.2.2.2.1 rfl rfl ?_
  refine cg_wo_b hE hm fk_X11_27 dX11_foot_g0.2.2.2.2.2.2.2.2.2.2.2.2.2.2.2 ?_
  refine r_aload_n hE 0 dX11_foot_g1.1 rfl rfl ?_
  refine cg_wo_c hE hm fk_X11_30 dX11_foot_g1.2.1 ?_
  refine c_callVv hE hm [.long a5, .long a7, .long a9, .long (c_wo_a s2), .long (c_wo_b s2), .long (c_wo_c s2)] [] ck_X11_257 (cr_wo hm rfl) (kc_wo_meet h) (by decide) rfl rfl (Nat.le_of_ble_eq_true rfl) dX11_foot_g1.2.2.1 (fun s3 h => ?_)
  exact c_vret hE hm hF dX11_foot_g1.2.2.2 h
/-! wo_scale -/
def wc_wo_scale (post : CS → Prop) (σ : CS) (a1 : Int64) : Prop := wc_wo_given (fun (s1 : CS) (r2 : Int64) => wc_wo_given (fun (s3 : CS) (r4 : Int64) => wc_wo_given (fun (s5 : CS) (r6 : Int64) => wc_rk_minus (fun (s7 : CS) (r8 : Int64) => wc_rk_times (fun (s9 : CS) (r10 : Int64) => wc_rk_plus (fun (s11 : CS) (r12 : Int64) => ∀ s13 : CS, s13 = c_wo_x_s s11 r12 → wc_wo_given (fun (s14 : CS) (r15 : Int64) => wc_rk_minus (fun (s16 : CS) (r17 : Int64) => wc_rk_times (fun (s18 : CS) (r19 : Int64) => wc_rk_plus (fun (s20 : CS) (r21 : Int64) => ∀ s22 : CS, s22 = c_wo_y_s s20 r21 → post s22) s18 r4 r19) s16 a1 r17) s14 r15 r4) s13 (0 : Int32) (1 : Int32)) s9 r2 r10) s7 a1 r8) s5 r6 r2) s3 (0 : Int32) (0 : Int32)) s1 (1 : Int32) (1 : Int32)) σ (1 : Int32) (0 : Int32)
set_option maxRecDepth 20000 in
theorem kc_wo_scale {l : Launch} {D : va_G} {G : gAd} {post : CS → Prop} {σ : CS} {a1 : Int64} (h : wc_wo_scale post σ a1) : cMet l D G yX11_scale cX11_scale 7 none 3 [.ref (G.1 1300), .long a1] σ (pV post) := by
  unfold wc_wo_scale at h
  refine c_enter (own := RX11) (by decide +kernel) rfl [(0, .ref (G.1 1300)), (1, .long a1)] rfl (Nat.le_of_ble_eq_true rfl) ?_
  intro E hE hm hF
  have hN := hm.2.2.2.2.2.2.1
  refine r_aload_n hE 0 dX11_scale_g0.1 rfl rfl ?_
  refine r_iconst (v := (1 : Int32)) hE dX11_scale_g0.2.1 (by decide) ?_
  refine r_iconst (v := (0 : Int32)) hE dX11_scale_g0.2.2.1 (by decide) ?_
  refine c_callVl hE hm [.int (1 : Int32), .int (0 : Int32)] [] ck_X11_126 (cr_wo hm rfl) (kc_wo_given h) (by decide) rfl rfl (Nat.le_of_ble_eq_true rfl) dX11_scale_g0.2.2.2.1 (fun s1 r2 h => ?_)
  refine r_lstore_n hE [(3, .long r2), (0, .ref (G.1 1300)), (1, .long a1)] dX11_scale_g0.2.2.2.2.1 rfl hN (by decide) rfl ?_
  refine r_aload_n hE 1 dX11_scale_g0.2.2.2.2.2.1 rfl rfl ?_
  refine r_iconst (v := (1 : Int32)) hE dX11_scale_g0.2.2.2.2.2.2.1 (by decide) ?_
  refine r_iconst (v := (1 : Int32)) hE dX11_scale_g0.2.2.2.2.2.2.2.1 (by decide) ?_
  refine c_callVl hE hm [.int (1 : Int32), .int (1 : Int32)] [] ck_X11_126 (cr_wo hm rfl) (kc_wo_given h) (by decide) rfl rfl (Nat.le_of_ble_eq_true rfl) dX11_scale_g0.2.2.2.2.2.2.2.2.1 (fun s3 r4 h => ?_)
  refine r_lstore hE [(5, .long r4), (3, .long r2), (0, .ref (G.1 1300)), (1, .long a1)] dX11_scale_g0.2.2.2.2.2.2.2.2.2.1 hN (by decide) rfl ?_
  refine r_aload_n hE 2 dX11_scale_g0.2.2.2.2.2.2.2.2.2.2.1 rfl rfl ?_
  refine r_aload_n hE 2 dX11_scale_g0.2.2.2.2.2.2.2.2.2.2.2.1 rfl rfl ?_
  refine cg_wo_reckoner hE hm fk_X11_36 dX11_scale_g0.2.2.2.2.2.2.2.2.2.2.2.2.1 ?_
  refine r_lload_n hE 1 dX11_scale_g0.2.2.2.2.2.2.2.2.2.2.2.2.2.1 rfl rfl ?_
  refine r_aload_n hE 2 dX11_scale_g0.2.2.2.2.2.2.2.2.2.2.2.2.2.2.1 rfl rfl ?_
  refine cg_wo_reckoner hE hm fk_X11_36 dX11_scale_g0.2.2.2.2.2.2.2.2.2.2.2.2.2.2.2 ?_
  refine r_lload_n hE 3 dX11_scale_g1.1 rfl rfl ?_
  refine r_aload_n hE 2 dX11_scale_g1.2.1 rfl rfl ?_
  refine cg_wo_reckoner hE hm fk_X11_36 dX11_scale_g1.2.2.1 ?_
  refine r_aload_n hE 2 dX11_scale_g1.2.2.2.1 rfl rfl ?_
  refine r_iconst (v := (0 : Int32)) hE dX11_scale_g1.2.2.2.2.1 (by decide) ?_
  refine r_iconst (v := (0 : Int32)) hE dX11_scale_g1.2.2.2.2.2.1 (by decide) ?_
  refine c_callVl hE hm [.int (0 : Int32), .int (0 : Int32)] [.ref (G.1 800), .long a1, .ref (G.1 800), .long r2, .ref (G.1 800), .ref (G.1 1300)] ck_X11_126 (cr_wo hm rfl) (kc_wo_given h) (by decide) rfl rfl (Nat.le_of_ble_eq_true rfl) dX11_scale_g1.2.2.2.2.2.2.1 (fun s5 r6 h => ?_)
  refine r_lload_n hE 1 dX11_scale_g1.2.2.2.2.2.2.2.1 rfl rfl ?_
  refine c_callVl hE hm [.long r6, .long r2] [.long a1, .ref (G.1 800), .long r2, .ref (G.1 800), .ref (G.1 1300)] ck_X11_226 (cr_rk hm rfl) (kc_rk_minus h) (by decide) rfl rfl (Nat.le_of_ble_eq_true rfl) dX11_scale_g1.2.2.2.2.2.2.2.2.1 (fun s7 r8 h => ?_)
  refine c_callVl hE hm [.long a1, .long r8] [.long r2, .ref (G.1 800), .ref (G.1 1300)] ck_X11_236 (cr_rk hm rfl) (kc_rk_times h) (by decide) rfl rfl (Nat.le_of_ble_eq_true rfl) dX11_scale_g1.2.2.2.2.2.2.2.2.2.1 (fun s9 r10 h => ?_)
  refine c_callVl hE hm [.long r2, .long r10] [.ref (G.1 1300)] ck_X11_239 (cr_rk hm rfl) (kc_rk_plus h) (by decide) rfl rfl (Nat.le_of_ble_eq_true rfl) dX11_scale_g1.2.2.2.2.2.2.2.2.2.2.1 (fun s11 r12 h => ?_)
  refine cp_wo_x hE hm fk_X11_17 dX11_scale_g1.2.2.2.2.2.2.2.2.2.2.2.1 h (fun s13 h => ?_)
  refine r_aload_n hE 2 dX11_scale_g1.2.2.2.2.2.2.2.2.2.2.2.2.1 rfl rfl ?_
  refine r_aload_n hE 2 dX11_scale_g1.2.2.2.2.2.2.2.2.2.2.2.2.2.1 rfl rfl ?_
  refine cg_wo_reckoner hE hm fk_X11_36 dX11_scale_g1.2.2.2.2.2.2.2.2.2.2.2.2.2.2.1 ?_
  refine r_lload hE 0 dX11_scale_g1.2.2.2.2.2.2.2.2.2.2.2.2.2.2.2 rfl ?_
  refine r_aload_n hE 2 dX11_scale_g2.1 rfl rfl ?_
  refine cg_wo_reckoner hE hm fk_X11_36 dX11_scale_g2.2.1 ?_
  refine r_lload_n hE 3 dX11_scale_g2.2.2.1 rfl rfl ?_
  refine r_aload_n hE 2 dX11_scale_g2.2.2.2.1 rfl rfl ?_
  refine cg_wo_reckoner hE hm fk_X11_36 dX11_scale_g2.2.2.2.2.1 ?_
  refine r_aload_n hE 2 dX11_scale_g2.2.2.2.2.2.1 rfl rfl ?_
  refine r_iconst (v := (0 : Int32)) hE dX11_scale_g2.2.2.2.2.2.2.1 (by decide) ?_
  refine r_iconst (v := (1 : Int32)) hE dX11_scale_g2.2.2.2.2.2.2.2.1 (by decide) ?_
  refine c_callVl hE hm [.int (0 : Int32), .int (1 : Int32)] [.ref (G.1 800), .long a1, .ref (G.1 800), .long r4, .ref (G.1 800), .ref (G.1 1300)] ck_X11_126 (cr_wo hm rfl) (kc_wo_given h) (by decide) rfl rfl (Nat.le_of_ble_eq_true rfl) dX11_scale_g2.2.2.2.2.2.2.2.2.1 (fun s14 r15 h => ?_)
  refine r_lload hE 0 dX11_scale_g2.2.2.2.2.2.2.2.2.2.1 rfl ?_
  refine c_callVl hE hm [.long r15, .long r4] [.long a1, .ref (G.1 800), .long r4, .ref (G.1 800), .ref (G.1 1300)] ck_X11_226 (cr_rk hm rfl) (kc_rk_minus h) (by decide) rfl rfl (Nat.le_of_ble_eq_true rfl) dX11_scale_g2.2.2.2.2.2.2.2.2.2.2.1 (fun s16 r17 h => ?_)
  refine c_callVl hE hm [.long a1, .long r17] [.long r4, .ref (G.1 800), .ref (G.1 1300)] ck_X11_236 (cr_rk hm rfl) (kc_rk_times h) (by decide) rfl rfl (Nat.le_of_ble_eq_true rfl) dX11_scale_g2.2.2.2.2.2.2.2.2.2.2.2.1 (fun s18 r19 h => ?_)
  refine c_callVl hE hm [.long r4, .long r19] [.ref (G.1 1300)] ck_X11_239 (cr_rk hm rfl) (kc_rk_plus h) (by decide) rfl rfl (Nat.le_of_ble_eq_true rfl) dX11_scale_g2.2.2.2.2.2.2.2.2.2.2.2.2.1 (fun s20 r21 h => ?_)
  refine cp_wo_y hE hm fk_X11_21 dX11_scale_g2.2.2.2.2.2.2.2.2.2.2.2.2.2.1 h (fun s22 h => ?_)
  exact c_vret hE hm hF dX11_scale_g2.2.2.2.2.2.2.2.2.2.2.2.2.2.2 h
/-! wo_takeEnd -/
def wc_wo_takeEnd_26 (post : CS → Prop) (σ : CS) (t0 : Int32) : Prop := wc_wo_given (fun (s1 : CS) (r2 : Int64) => ∀ s3 : CS, s3 = c_wo_x_s s1 r2 → wc_wo_given (fun (s4 : CS) (r5 : Int64) => ∀ s6 : CS, s6 = c_wo_y_s s4 r5 → post s6) s3 (0 : Int32) (t0 + (1 : Int32))) σ (0 : Int32) t0
set_option maxRecDepth 20000 in
theorem kc_wo_takeEnd_26  {E : gEnv} {l : Launch} {D : va_G} {G : gAd} {post : CS → Prop} (hE : gOK E cX11_takeEnd RX11 none 3) (hm : cOK E l D G (pV post) 2) (hF : gFin E) (σ : CS) (t0 : Int32) (h : wc_wo_takeEnd_26 post σ t0) : GW E (cW G σ) 26 [(0, .ref (G.1 1300))] [.int t0] := by
  unfold wc_wo_takeEnd_26 at h
  have hN := hm.2.2.2.2.2.2.1
  refine r_istore_n hE [(1, .int t0), (0, .ref (G.1 1300))] dX11_takeEnd_g1.1 rfl hN (by decide) rfl ?_
  refine r_aload_n hE 1 dX11_takeEnd_g1.2.1 rfl rfl ?_
  refine r_aload_n hE 1 dX11_takeEnd_g1.2.2.1 rfl rfl ?_
  refine r_iconst (v := (0 : Int32)) hE dX11_takeEnd_g1.2.2.2.1 (by decide) ?_
  refine r_iload_n hE 0 dX11_takeEnd_g1.2.2.2.2.1 rfl rfl ?_
  refine c_callVl hE hm [.int (0 : Int32), .int t0] [.ref (G.1 1300)] ck_X11_126 (cr_wo hm rfl) (kc_wo_given h) (by decide) rfl rfl (Nat.le_of_ble_eq_true rfl) dX11_takeEnd_g1.2.2.2.2.2.1 (fun s1 r2 h => ?_)
  refine cp_wo_x hE hm fk_X11_17 dX11_takeEnd_g1.2.2.2.2.2.2.1 h (fun s3 h => ?_)
  refine r_aload_n hE 1 dX11_takeEnd_g1.2.2.2.2.2.2.2.1 rfl rfl ?_
  refine r_aload_n hE 1 dX11_takeEnd_g1.2.2.2.2.2.2.2.2.1 rfl rfl ?_
  refine r_iconst (v := (0 : Int32)) hE dX11_takeEnd_g1.2.2.2.2.2.2.2.2.2.1 (by decide) ?_
  refine r_iload_n hE 0 dX11_takeEnd_g1.2.2.2.2.2.2.2.2.2.2.1 rfl rfl ?_
  refine r_iconst (v := (1 : Int32)) hE dX11_takeEnd_g1.2.2.2.2.2.2.2.2.2.2.2.1 (by decide) ?_
  refine r_iadd hE dX11_takeEnd_g1.2.2.2.2.2.2.2.2.2.2.2.2.1 ?_
  refine c_callVl hE hm [.int (0 : Int32), .int (t0 + (1 : Int32))] [.ref (G.1 1300)] ck_X11_126 (cr_wo hm rfl) (kc_wo_given h) (by decide) rfl rfl (Nat.le_of_ble_eq_true rfl) dX11_takeEnd_g1.2.2.2.2.2.2.2.2.2.2.2.2.2.1 (fun s4 r5 h => ?_)
  refine cp_wo_y hE hm fk_X11_21 dX11_takeEnd_g1.2.2.2.2.2.2.2.2.2.2.2.2.2.2.1 h (fun s6 h => ?_)
  exact c_vret hE hm hF dX11_takeEnd_g1.2.2.2.2.2.2.2.2.2.2.2.2.2.2.2 h
def wc_wo_takeEnd (post : CS → Prop) (σ : CS) : Prop := wc_wo_given (fun (s7 : CS) (r8 : Int64) => wc_wo_askSide (fun (s9 : CS) => wc_wo_given (fun (s10 : CS) (r11 : Int64) => ((¬ ((lg_cmp r11 (1 : Int64)) = (0 : Int32))) → (wc_wo_takeEnd_26 post s10 (5 : Int32))) ∧ (((lg_cmp r11 (1 : Int64)) = (0 : Int32)) → (wc_wo_takeEnd_26 post s10 (3 : Int32)))) s9 (1 : Int32) (0 : Int32)) s7 r8) σ (1 : Int32) (0 : Int32)
set_option maxRecDepth 20000 in
theorem kc_wo_takeEnd {l : Launch} {D : va_G} {G : gAd} {post : CS → Prop} {σ : CS} (h : wc_wo_takeEnd post σ) : cMet l D G yX11_takeEnd cX11_takeEnd 2 none 3 [.ref (G.1 1300)] σ (pV post) := by
  unfold wc_wo_takeEnd at h
  refine c_enter (own := RX11) (by decide +kernel) rfl [(0, .ref (G.1 1300))] rfl (Nat.le_of_ble_eq_true rfl) ?_
  intro E hE hm hF
  have hN := hm.2.2.2.2.2.2.1
  refine r_aload_n hE 0 dX11_takeEnd_g0.1 rfl rfl ?_
  refine r_aload_n hE 0 dX11_takeEnd_g0.2.1 rfl rfl ?_
  refine r_iconst (v := (1 : Int32)) hE dX11_takeEnd_g0.2.2.1 (by decide) ?_
  refine r_iconst (v := (0 : Int32)) hE dX11_takeEnd_g0.2.2.2.1 (by decide) ?_
  refine c_callVl hE hm [.int (1 : Int32), .int (0 : Int32)] [.ref (G.1 1300)] ck_X11_126 (cr_wo hm rfl) (kc_wo_given h) (by decide) rfl rfl (Nat.le_of_ble_eq_true rfl) dX11_takeEnd_g0.2.2.2.2.1 (fun s7 r8 h => ?_)
  refine c_callVv hE hm [.long r8] [] ck_X11_271 (cr_wo hm rfl) (kc_wo_askSide h) (by decide) rfl rfl (Nat.le_of_ble_eq_true rfl) dX11_takeEnd_g0.2.2.2.2.2.1 (fun s9 h => ?_)
  refine r_aload_n hE 0 dX11_takeEnd_g0.2.2.2.2.2.2.1 rfl rfl ?_
  refine r_iconst (v := (1 : Int32)) hE dX11_takeEnd_g0.2.2.2.2.2.2.2.1 (by decide) ?_
  refine r_iconst (v := (0 : Int32)) hE dX11_takeEnd_g0.2.2.2.2.2.2.2.2.1 (by decide) ?_
  refine c_callVl hE hm [.int (1 : Int32), .int (0 : Int32)] [] ck_X11_126 (cr_wo hm rfl) (kc_wo_given h) (by decide) rfl rfl (Nat.le_of_ble_eq_true rfl) dX11_takeEnd_g0.2.2.2.2.2.2.2.2.2.1 (fun s10 r11 h => ?_)
  refine r_lconst (v := (1 : Int64)) hE dX11_takeEnd_g0.2.2.2.2.2.2.2.2.2.2.1 (by decide) ?_
  refine r_lcmp hE dX11_takeEnd_g0.2.2.2.2.2.2.2.2.2.2.2.1 ?_
  refine r_if_ne hE 25 dX11_takeEnd_g0.2.2.2.2.2.2.2.2.2.2.2.2.1 (by decide) h (fun h => ?_) (fun h => ?_)
  · refine r_iconst (v := (5 : Int32)) hE dX11_takeEnd_g0.2.2.2.2.2.2.2.2.2.2.2.2.2.2.2 (by decide) ?_
    exact kc_wo_takeEnd_26 hE hm hF _ _ h
  · refine r_iconst (v := (3 : Int32)) hE dX11_takeEnd_g0.2.2.2.2.2.2.2.2.2.2.2.2.2.1 (by decide) ?_
    refine r_goto hE 26 dX11_takeEnd_g0.2.2.2.2.2.2.2.2.2.2.2.2.2.2.1 (by decide) ?_
    exact kc_wo_takeEnd_26 hE hm hF _ _ h
/-! wo_makePoint_t -/
def wc_wo_makePoint_t (post : CS → Prop) (σ : CS) (a1 : Nat) : Prop := a1 < 39 ∧ (wc_tSJx29ce0_ordinal_8abf5 (fun (s1 : CS) (r2 : Int32) => vp_in r2 39 ∧ (((swMap.getD r2.toNatClampNeg 0) = (13 : Int32) → (wc_wo_given (fun (s3 : CS) (r4 : Int64) => ∀ s5 : CS, s5 = c_wo_x_s s3 r4 → wc_wo_given (fun (s6 : CS) (r7 : Int64) => ∀ s8 : CS, s8 = c_wo_y_s s6 r7 → post s8) s5 (1 : Int32) (0 : Int32)) s1 (0 : Int32) (0 : Int32))) ∧ (¬ (swMap.getD r2.toNatClampNeg 0) = (13 : Int32) → (((swMap.getD r2.toNatClampNeg 0) = (14 : Int32) → (wc_wo_given (fun (s9 : CS) (r10 : Int64) => ∀ s11 : CS, s11 = c_wo_x_s s9 r10 → wc_wo_given (fun (s12 : CS) (r13 : Int64) => ∀ s14 : CS, s14 = c_wo_y_s s12 r13 → post s14) s11 (0 : Int32) (1 : Int32)) s1 (0 : Int32) (0 : Int32))) ∧ (¬ (swMap.getD r2.toNatClampNeg 0) = (14 : Int32) → (((swMap.getD r2.toNatClampNeg 0) = (15 : Int32) → (wc_wo_takeEnd (fun (s15 : CS) => post s15) s1)) ∧ (¬ (swMap.getD r2.toNatClampNeg 0) = (15 : Int32) → (((swMap.getD r2.toNatClampNeg 0) = (16 : Int32) → (wc_wo_given (fun (s16 : CS) (r17 : Int64) => wc_wo_given (fun (s18 : CS) (r19 : Int64) => wc_wo_given (fun (s20 : CS) (r21 : Int64) => wc_wo_given (fun (s22 : CS) (r23 : Int64) => wc_wo_middle (fun (s24 : CS) => post s24) s22 r17 r19 r21 r23) s20 (1 : Int32) (1 : Int32)) s18 (1 : Int32) (0 : Int32)) s16 (0 : Int32) (1 : Int32)) s1 (0 : Int32) (0 : Int32))) ∧ (¬ (swMap.getD r2.toNatClampNeg 0) = (16 : Int32) → (((swMap.getD r2.toNatClampNeg 0) = (17 : Int32) → (wc_wo_given (fun (s25 : CS) (r26 : Int64) => wc_wo_given (fun (s27 : CS) (r28 : Int64) => wc_wo_given (fun (s29 : CS) (r30 : Int64) => wc_wo_given (fun (s31 : CS) (r32 : Int64) => wc_wo_given (fun (s33 : CS) (r34 : Int64) => wc_wo_given (fun (s35 : CS) (r36 : Int64) => wc_wo_meet (fun (s37 : CS) => post s37) s35 r26 r28 r30 r32 r34 r36) s33 (1 : Int32) (2 : Int32)) s31 (1 : Int32) (1 : Int32)) s29 (1 : Int32) (0 : Int32)) s27 (0 : Int32) (2 : Int32)) s25 (0 : Int32) (1 : Int32)) s1 (0 : Int32) (0 : Int32))) ∧ (¬ (swMap.getD r2.toNatClampNeg 0) = (17 : Int32) → (((swMap.getD r2.toNatClampNeg 0) = (18 : Int32) → (wc_wo_given (fun (s38 : CS) (r39 : Int64) => wc_wo_given (fun (s40 : CS) (r41 : Int64) => wc_wo_given (fun (s42 : CS) (r43 : Int64) => wc_wo_given (fun (s44 : CS) (r45 : Int64) => wc_wo_given (fun (s46 : CS) (r47 : Int64) => wc_wo_foot (fun (s48 : CS) => post s48) s46 r39 r41 r43 r45 r47) s44 (1 : Int32) (2 : Int32)) s42 (1 : Int32) (1 : Int32)) s40 (1 : Int32) (0 : Int32)) s38 (0 : Int32) (1 : Int32)) s1 (0 : Int32) (0 : Int32))) ∧ (¬ (swMap.getD r2.toNatClampNeg 0) = (18 : Int32) → (((swMap.getD r2.toNatClampNeg 0) = (19 : Int32) → (wc_wo_given (fun (s49 : CS) (r50 : Int64) => wc_wo_given (fun (s51 : CS) (r52 : Int64) => wc_wo_given (fun (s53 : CS) (r54 : Int64) => wc_wo_given (fun (s55 : CS) (r56 : Int64) => wc_wo_given (fun (s57 : CS) (r58 : Int64) => wc_wo_foot (fun (s59 : CS) => wc_rk_times (fun (s60 : CS) (r61 : Int64) => wc_wo_given (fun (s62 : CS) (r63 : Int64) => wc_rk_minus (fun (s64 : CS) (r65 : Int64) => ∀ s66 : CS, s66 = c_wo_x_s s64 r65 → wc_rk_times (fun (s67 : CS) (r68 : Int64) => wc_wo_given (fun (s69 : CS) (r70 : Int64) => wc_rk_minus (fun (s71 : CS) (r72 : Int64) => ∀ s73 : CS, s73 = c_wo_y_s s71 r72 → post s73) s69 r68 r70) s67 (0 : Int32) (1 : Int32)) s66 (8589934593 : Int64) (c_wo_y s66)) s62 r61 r63) s60 (0 : Int32) (0 : Int32)) s59 (8589934593 : Int64) (c_wo_x s59)) s57 r50 r52 r54 r56 r58) s55 (1 : Int32) (2 : Int32)) s53 (1 : Int32) (1 : Int32)) s51 (1 : Int32) (0 : Int32)) s49 (0 : Int32) (1 : Int32)) s1 (0 : Int32) (0 : Int32))) ∧ (¬ (swMap.getD r2.toNatClampNeg 0) = (19 : Int32) → (((swMap.getD r2.toNatClampNeg 0) = (20 : Int32) → (wc_wo_given (fun (s74 : CS) (r75 : Int64) => wc_wo_given (fun (s76 : CS) (r77 : Int64) => wc_wo_given (fun (s78 : CS) (r79 : Int64) => wc_rk_minus (fun (s80 : CS) (r81 : Int64) => wc_rk_minus (fun (s82 : CS) (r83 : Int64) => ∀ s84 : CS, s84 = c_wo_x_s s82 r83 → wc_wo_given (fun (s85 : CS) (r86 : Int64) => wc_wo_given (fun (s87 : CS) (r88 : Int64) => wc_wo_given (fun (s89 : CS) (r90 : Int64) => wc_rk_minus (fun (s91 : CS) (r92 : Int64) => wc_rk_plus (fun (s93 : CS) (r94 : Int64) => ∀ s95 : CS, s95 = c_wo_y_s s93 r94 → post s95) s91 r86 r92) s89 r88 r90) s87 (1 : Int32) (0 : Int32)) s85 (0 : Int32) (0 : Int32)) s84 (1 : Int32) (1 : Int32)) s80 r75 r81) s78 r77 r79) s76 (1 : Int32) (1 : Int32)) s74 (0 : Int32) (1 : Int32)) s1 (1 : Int32) (0 : Int32))) ∧ (¬ (swMap.getD r2.toNatClampNeg 0) = (20 : Int32) → (((swMap.getD r2.toNatClampNeg 0) = (21 : Int32) → (wc_wo_given (fun (s96 : CS) (r97 : Int64) => wc_wo_scale (fun (s98 : CS) => post s98) s96 r97) s1 (2 : Int32) (0 : Int32))) ∧ (¬ (swMap.getD r2.toNatClampNeg 0) = (21 : Int32) → (((swMap.getD r2.toNatClampNeg 0) = (22 : Int32) → (wc_wo_given (fun (s99 : CS) (r100 : Int64) => wc_wo_given (fun (s101 : CS) (r102 : Int64) => wc_wo_given (fun (s103 : CS) (r104 : Int64) => wc_wo_given (fun (s105 : CS) (r106 : Int64) => wc_wo_given (fun (s107 : CS) (r108 : Int64) => wc_wo_dist (fun (s109 : CS) (r110 : Int64) => wc_rk_over (fun (s111 : CS) (r112 : Int64) => wc_wo_scale (fun (s113 : CS) => post s113) s111 r112) s109 r100 r110) s107 r102 r104 r106 r108) s105 (1 : Int32) (1 : Int32)) s103 (1 : Int32) (0 : Int32)) s101 (0 : Int32) (1 : Int32)) s99 (0 : Int32) (0 : Int32)) s1 (1 : Int32) (2 : Int32))) ∧ (¬ (swMap.getD r2.toNatClampNeg 0) = (22 : Int32) → (wc_wo_given (fun (s114 : CS) (r115 : Int64) => wc_wo_askSide (fun (s116 : CS) => wc_wo_given (fun (s117 : CS) (r118 : Int64) => wc_wo_given (fun (s119 : CS) (r120 : Int64) => wc_wo_given (fun (s121 : CS) (r122 : Int64) => wc_wo_given (fun (s123 : CS) (r124 : Int64) => wc_wo_given (fun (s125 : CS) (r126 : Int64) => wc_wo_foot (fun (s127 : CS) => wc_wo_cutFromFoot (fun (s128 : CS) => post s128) s127) s125 r118 r120 r122 r124 r126) s123 (0 : Int32) (2 : Int32)) s121 (0 : Int32) (1 : Int32)) s119 (0 : Int32) (0 : Int32)) s117 (1 : Int32) (1 : Int32)) s116 (1 : Int32) (0 : Int32)) s114 r115) s1 (2 : Int32) (0 : Int32))))))))))))))))))))))) σ a1)
set_option maxRecDepth 20000 in
theorem kc_wo_makePoint_t {l : Launch} {D : va_G} {G : gAd} {post : CS → Prop} {σ : CS} {a1 : Nat} (h : wc_wo_makePoint_t post σ a1) : cMet l D G yX11_makePoint cX11_makePoint 2 none 5 [.ref (G.1 1300), .ref (G.1 (7000 + a1))] σ (pV post) := by
  unfold wc_wo_makePoint_t at h
  refine c_enter (own := RX11) (by decide +kernel) rfl [(0, .ref (G.1 1300)), (1, .ref (G.1 (7000 + a1)))] rfl (Nat.le_of_ble_eq_true rfl) ?_
  intro E hE hm hF
  have hN := hm.2.2.2.2.2.2.1
  refine kz_swmap hE hm fk_X11_193 dX11_makePoint_g0.1 ?_
  refine r_aload_n hE 1 dX11_makePoint_g0.2.1 rfl rfl ?_
  obtain ⟨hx, h⟩ := h
  refine c_callU hE hm [] [.ref (G.1 8001)] cu_X11_198 ((c_z hE hm).2.2.2.1 _ hx).1 (kc_tSJx29ce0_ordinal_8abf5 h) (by decide) rfl rfl (Nat.le_of_ble_eq_true rfl) dX11_makePoint_g0.2.2.1 (fun s1 r2 h => ?_)
  obtain ⟨hi, h⟩ := h
  refine ka_swmap hE hm hi dX11_makePoint_g0.2.2.2.1 ?_
  refine r_case (13 : Int32) h (fun q0 h => ?_) (fun q0 h => ?_)
  · refine r_tableAt (off := 56) hE (13 : Int32) 64 dX11_makePoint_g0.2.2.2.2.1 q0 (by decide) (by decide) (by decide) (by decide) ?_
    refine r_aload_n hE 0 dX11_makePoint_g0.2.2.2.2.2.1 rfl rfl ?_
    refine r_aload_n hE 0 dX11_makePoint_g0.2.2.2.2.2.2.1 rfl rfl ?_
    refine r_iconst (v := (0 : Int32)) hE dX11_makePoint_g0.2.2.2.2.2.2.2.1 (by decide) ?_
    refine r_iconst (v := (0 : Int32)) hE dX11_makePoint_g0.2.2.2.2.2.2.2.2.1 (by decide) ?_
    refine c_callVl hE hm [.int (0 : Int32), .int (0 : Int32)] [.ref (G.1 1300)] ck_X11_126 (cr_wo hm rfl) (kc_wo_given h) (by decide) rfl rfl (Nat.le_of_ble_eq_true rfl) dX11_makePoint_g0.2.2.2.2.2.2.2.2.2.1 (fun s3 r4 h => ?_)
    refine cp_wo_x hE hm fk_X11_17 dX11_makePoint_g0.2.2.2.2.2.2.2.2.2.2.1 h (fun s5 h => ?_)
    refine r_aload_n hE 0 dX11_makePoint_g0.2.2.2.2.2.2.2.2.2.2.2.1 rfl rfl ?_
    refine r_aload_n hE 0 dX11_makePoint_g0.2.2.2.2.2.2.2.2.2.2.2.2.1 rfl rfl ?_
    refine r_iconst (v := (1 : Int32)) hE dX11_makePoint_g0.2.2.2.2.2.2.2.2.2.2.2.2.2.1 (by decide) ?_
    refine r_iconst (v := (0 : Int32)) hE dX11_makePoint_g0.2.2.2.2.2.2.2.2.2.2.2.2.2.2.1 (by decide) ?_
    refine c_callVl hE hm [.int (1 : Int32), .int (0 : Int32)] [.ref (G.1 1300)] ck_X11_126 (cr_wo hm rfl) (kc_wo_given h) (by decide) rfl rfl (Nat.le_of_ble_eq_true rfl) dX11_makePoint_g0.2.2.2.2.2.2.2.2.2.2.2.2.2.2.2 (fun s6 r7 h => ?_)
    refine cp_wo_y hE hm fk_X11_21 dX11_makePoint_g1.1 h (fun s8 h => ?_)
    refine r_goto hE 511 dX11_makePoint_g1.2.1 (by decide) ?_
    exact c_vret hE hm hF dX11_makePoint_g16.2.2.2.2.2.2 h
  · refine r_case (14 : Int32) h (fun q1 h => ?_) (fun q1 h => ?_)
    · refine r_tableAt (off := 79) hE (14 : Int32) 87 dX11_makePoint_g0.2.2.2.2.1 q1 (by decide) (by decide) (by decide) (by decide) ?_
      refine r_aload_n hE 0 dX11_makePoint_g1.2.2.1 rfl rfl ?_
      refine r_aload_n hE 0 dX11_makePoint_g1.2.2.2.1 rfl rfl ?_
      refine r_iconst (v := (0 : Int32)) hE dX11_makePoint_g1.2.2.2.2.1 (by decide) ?_
      refine r_iconst (v := (0 : Int32)) hE dX11_makePoint_g1.2.2.2.2.2.1 (by decide) ?_
      refine c_callVl hE hm [.int (0 : Int32), .int (0 : Int32)] [.ref (G.1 1300)] ck_X11_126 (cr_wo hm rfl) (kc_wo_given h) (by decide) rfl rfl (Nat.le_of_ble_eq_true rfl) dX11_makePoint_g1.2.2.2.2.2.2.1 (fun s9 r10 h => ?_)
      refine cp_wo_x hE hm fk_X11_17 dX11_makePoint_g1.2.2.2.2.2.2.2.1 h (fun s11 h => ?_)
      refine r_aload_n hE 0 dX11_makePoint_g1.2.2.2.2.2.2.2.2.1 rfl rfl ?_
      refine r_aload_n hE 0 dX11_makePoint_g1.2.2.2.2.2.2.2.2.2.1 rfl rfl ?_
      refine r_iconst (v := (0 : Int32)) hE dX11_makePoint_g1.2.2.2.2.2.2.2.2.2.2.1 (by decide) ?_
      refine r_iconst (v := (1 : Int32)) hE dX11_makePoint_g1.2.2.2.2.2.2.2.2.2.2.2.1 (by decide) ?_
      refine c_callVl hE hm [.int (0 : Int32), .int (1 : Int32)] [.ref (G.1 1300)] ck_X11_126 (cr_wo hm rfl) (kc_wo_given h) (by decide) rfl rfl (Nat.le_of_ble_eq_true rfl) dX11_makePoint_g1.2.2.2.2.2.2.2.2.2.2.2.2.1 (fun s12 r13 h => ?_)
      refine cp_wo_y hE hm fk_X11_21 dX11_makePoint_g1.2.2.2.2.2.2.2.2.2.2.2.2.2.1 h (fun s14 h => ?_)
      refine r_goto hE 511 dX11_makePoint_g1.2.2.2.2.2.2.2.2.2.2.2.2.2.2.1 (by decide) ?_
      exact c_vret hE hm hF dX11_makePoint_g16.2.2.2.2.2.2 h
    · refine r_case (15 : Int32) h (fun q2 h => ?_) (fun q2 h => ?_)
      · refine r_tableAt (off := 102) hE (15 : Int32) 110 dX11_makePoint_g0.2.2.2.2.1 q2 (by decide) (by decide) (by decide) (by decide) ?_
        refine r_aload_n hE 0 dX11_makePoint_g1.2.2.2.2.2.2.2.2.2.2.2.2.2.2.2 rfl rfl ?_
        refine c_callVv hE hm [] [] ck_X11_250 (cr_wo hm rfl) (kc_wo_takeEnd h) (by decide) rfl rfl (Nat.le_of_ble_eq_true rfl) dX11_makePoint_g2.1 (fun s15 h => ?_)
        refine r_goto hE 511 dX11_makePoint_g2.2.1 (by decide) ?_
        exact c_vret hE hm hF dX11_makePoint_g16.2.2.2.2.2.2 h
      · refine r_case (16 : Int32) h (fun q3 h => ?_) (fun q3 h => ?_)
        · refine r_tableAt (off := 109) hE (16 : Int32) 117 dX11_makePoint_g0.2.2.2.2.1 q3 (by decide) (by decide) (by decide) (by decide) ?_
          refine r_aload_n hE 0 dX11_makePoint_g2.2.2.1 rfl rfl ?_
          refine r_aload_n hE 0 dX11_makePoint_g2.2.2.2.1 rfl rfl ?_
          refine r_iconst (v := (0 : Int32)) hE dX11_makePoint_g2.2.2.2.2.1 (by decide) ?_
          refine r_iconst (v := (0 : Int32)) hE dX11_makePoint_g2.2.2.2.2.2.1 (by decide) ?_
          refine c_callVl hE hm [.int (0 : Int32), .int (0 : Int32)] [.ref (G.1 1300)] ck_X11_126 (cr_wo hm rfl) (kc_wo_given h) (by decide) rfl rfl (Nat.le_of_ble_eq_true rfl) dX11_makePoint_g2.2.2.2.2.2.2.1 (fun s16 r17 h => ?_)
          refine r_aload_n hE 0 dX11_makePoint_g2.2.2.2.2.2.2.2.1 rfl rfl ?_
          refine r_iconst (v := (0 : Int32)) hE dX11_makePoint_g2.2.2.2.2.2.2.2.2.1 (by decide) ?_
          refine r_iconst (v := (1 : Int32)) hE dX11_makePoint_g2.2.2.2.2.2.2.2.2.2.1 (by decide) ?_
          refine c_callVl hE hm [.int (0 : Int32), .int (1 : Int32)] [.long r17, .ref (G.1 1300)] ck_X11_126 (cr_wo hm rfl) (kc_wo_given h) (by decide) rfl rfl (Nat.le_of_ble_eq_true rfl) dX11_makePoint_g2.2.2.2.2.2.2.2.2.2.2.1 (fun s18 r19 h => ?_)
          refine r_aload_n hE 0 dX11_makePoint_g2.2.2.2.2.2.2.2.2.2.2.2.1 rfl rfl ?_
          refine r_iconst (v := (1 : Int32)) hE dX11_makePoint_g2.2.2.2.2.2.2.2.2.2.2.2.2.1 (by decide) ?_
          refine r_iconst (v := (0 : Int32)) hE dX11_makePoint_g2.2.2.2.2.2.2.2.2.2.2.2.2.2.1 (by decide) ?_
          refine c_callVl hE hm [.int (1 : Int32), .int (0 : Int32)] [.long r19, .long r17, .ref (G.1 1300)] ck_X11_126 (cr_wo hm rfl) (kc_wo_given h) (by decide) rfl rfl (Nat.le_of_ble_eq_true rfl) dX11_makePoint_g2.2.2.2.2.2.2.2.2.2.2.2.2.2.2.1 (fun s20 r21 h => ?_)
          refine r_aload_n hE 0 dX11_makePoint_g2.2.2.2.2.2.2.2.2.2.2.2.2.2.2.2 rfl rfl ?_
          refine r_iconst (v := (1 : Int32)) hE dX11_makePoint_g3.1 (by decide) ?_
          refine r_iconst (v := (1 : Int32)) hE dX11_makePoint_g3.2.1 (by decide) ?_
          refine c_callVl hE hm [.int (1 : Int32), .int (1 : Int32)] [.long r21, .long r19, .long r17, .ref (G.1 1300)] ck_X11_126 (cr_wo hm rfl) (kc_wo_given h) (by decide) rfl rfl (Nat.le_of_ble_eq_true rfl) dX11_makePoint_g3.2.2.1 (fun s22 r23 h => ?_)
          refine c_callVv hE hm [.long r17, .long r19, .long r21, .long r23] [] ck_X11_253 (cr_wo hm rfl) (kc_wo_middle h) (by decide) rfl rfl (Nat.le_of_ble_eq_true rfl) dX11_makePoint_g3.2.2.2.1 (fun s24 h => ?_)
          refine r_goto hE 511 dX11_makePoint_g3.2.2.2.2.1 (by decide) ?_
          exact c_vret hE hm hF dX11_makePoint_g16.2.2.2.2.2.2 h
        · refine r_case (17 : Int32) h (fun q4 h => ?_) (fun q4 h => ?_)
          · refine r_tableAt (off := 140) hE (17 : Int32) 148 dX11_makePoint_g0.2.2.2.2.1 q4 (by decide) (by decide) (by decide) (by decide) ?_
            refine r_aload_n hE 0 dX11_makePoint_g3.2.2.2.2.2.1 rfl rfl ?_
            refine r_aload_n hE 0 dX11_makePoint_g3.2.2.2.2.2.2.1 rfl rfl ?_
            refine r_iconst (v := (0 : Int32)) hE dX11_makePoint_g3.2.2.2.2.2.2.2.1 (by decide) ?_
            refine r_iconst (v := (0 : Int32)) hE dX11_makePoint_g3.2.2.2.2.2.2.2.2.1 (by decide) ?_
            refine c_callVl hE hm [.int (0 : Int32), .int (0 : Int32)] [.ref (G.1 1300)] ck_X11_126 (cr_wo hm rfl) (kc_wo_given h) (by decide) rfl rfl (Nat.le_of_ble_eq_true rfl) dX11_makePoint_g3.2.2.2.2.2.2.2.2.2.1 (fun s25 r26 h => ?_)
            refine r_aload_n hE 0 dX11_makePoint_g3.2.2.2.2.2.2.2.2.2.2.1 rfl rfl ?_
            refine r_iconst (v := (0 : Int32)) hE dX11_makePoint_g3.2.2.2.2.2.2.2.2.2.2.2.1 (by decide) ?_
            refine r_iconst (v := (1 : Int32)) hE dX11_makePoint_g3.2.2.2.2.2.2.2.2.2.2.2.2.1 (by decide) ?_
            refine c_callVl hE hm [.int (0 : Int32), .int (1 : Int32)] [.long r26, .ref (G.1 1300)] ck_X11_126 (cr_wo hm rfl) (kc_wo_given h) (by decide) rfl rfl (Nat.le_of_ble_eq_true rfl) dX11_makePoint_g3.2.2.2.2.2.2.2.2.2.2.2.2.2.1 (fun s27 r28 h => ?_)
            refine r_aload_n hE 0 dX11_makePoint_g3.2.2.2.2.2.2.2.2.2.2.2.2.2.2.1 rfl rfl ?_
            refine r_iconst (v := (0 : Int32)) hE dX11_makePoint_g3.2.2.2.2.2.2.2.2.2.2.2.2.2.2.2 (by decide) ?_
            refine r_iconst (v := (2 : Int32)) hE dX11_makePoint_g4.1 (by decide) ?_
            refine c_callVl hE hm [.int (0 : Int32), .int (2 : Int32)] [.long r28, .long r26, .ref (G.1 1300)] ck_X11_126 (cr_wo hm rfl) (kc_wo_given h) (by decide) rfl rfl (Nat.le_of_ble_eq_true rfl) dX11_makePoint_g4.2.1 (fun s29 r30 h => ?_)
            refine r_aload_n hE 0 dX11_makePoint_g4.2.2.1 rfl rfl ?_
            refine r_iconst (v := (1 : Int32)) hE dX11_makePoint_g4.2.2.2.1 (by decide) ?_
            refine r_iconst (v := (0 : Int32)) hE dX11_makePoint_g4.2.2.2.2.1 (by decide) ?_
            refine c_callVl hE hm [.int (1 : Int32), .int (0 : Int32)] [.long r30, .long r28, .long r26, .ref (G.1 1300)] ck_X11_126 (cr_wo hm rfl) (kc_wo_given h) (by decide) rfl rfl (Nat.le_of_ble_eq_true rfl) dX11_makePoint_g4.2.2.2.2.2.1 (fun s31 r32 h => ?_)
            refine r_aload_n hE 0 dX11_makePoint_g4.2.2.2.2.2.2.1 rfl rfl ?_
            refine r_iconst (v := (1 : Int32)) hE dX11_makePoint_g4.2.2.2.2.2.2.2.1 (by decide) ?_
            refine r_iconst (v := (1 : Int32)) hE dX11_makePoint_g4.2.2.2.2.2.2.2.2.1 (by decide) ?_
            refine c_callVl hE hm [.int (1 : Int32), .int (1 : Int32)] [.long r32, .long r30, .long r28, .long r26, .ref (G.1 1300)] ck_X11_126 (cr_wo hm rfl) (kc_wo_given h) (by decide) rfl rfl (Nat.le_of_ble_eq_true rfl) dX11_makePoint_g4.2.2.2.2.2.2.2.2.2.1 (fun s33 r34 h => ?_)
            refine r_aload_n hE 0 dX11_makePoint_g4.2.2.2.2.2.2.2.2.2.2.1 rfl rfl ?_
            refine r_iconst (v := (1 : Int32)) hE dX11_makePoint_g4.2.2.2.2.2.2.2.2.2.2.2.1 (by decide) ?_
            refine r_iconst (v := (2 : Int32)) hE dX11_makePoint_g4.2.2.2.2.2.2.2.2.2.2.2.2.1 (by decide) ?_
            refine c_callVl hE hm [.int (1 : Int32), .int (2 : Int32)] [.long r34, .long r32, .long r30, .long r28, .long r26, .ref (G.1 1300)] ck_X11_126 (cr_wo hm rfl) (kc_wo_given h) (by decide) rfl rfl (Nat.le_of_ble_eq_true rfl) dX11_makePoint_g4.2.2.2.2.2.2.2.2.2.2.2.2.2.1 (fun s35 r36 h => ?_)
            refine c_callVv hE hm [.long r26, .long r28, .long r30, .long r32, .long r34, .long r36] [] ck_X11_257 (cr_wo hm rfl) (kc_wo_meet h) (by decide) rfl rfl (Nat.le_of_ble_eq_true rfl) dX11_makePoint_g4.2.2.2.2.2.2.2.2.2.2.2.2.2.2.1 (fun s37 h => ?_)
            refine r_goto hE 511 dX11_makePoint_g4.2.2.2.2.2.2.2.2.2.2.2.2.2.2.2 (by decide) ?_
            exact c_vret hE hm hF dX11_makePoint_g16.2.2.2.2.2.2 h
          · refine r_case (18 : Int32) h (fun q5 h => ?_) (fun q5 h => ?_)
            · refine r_tableAt (off := 183) hE (18 : Int32) 191 dX11_makePoint_g0.2.2.2.2.1 q5 (by decide) (by decide) (by decide) (by decide) ?_
              refine r_aload_n hE 0 dX11_makePoint_g5.1 rfl rfl ?_
              refine r_aload_n hE 0 dX11_makePoint_g5.2.1 rfl rfl ?_
              refine r_iconst (v := (0 : Int32)) hE dX11_makePoint_g5.2.2.1 (by decide) ?_
              refine r_iconst (v := (0 : Int32)) hE dX11_makePoint_g5.2.2.2.1 (by decide) ?_
              refine c_callVl hE hm [.int (0 : Int32), .int (0 : Int32)] [.ref (G.1 1300)] ck_X11_126 (cr_wo hm rfl) (kc_wo_given h) (by decide) rfl rfl (Nat.le_of_ble_eq_true rfl) dX11_makePoint_g5.2.2.2.2.1 (fun s38 r39 h => ?_)
              refine r_aload_n hE 0 dX11_makePoint_g5.2.2.2.2.2.1 rfl rfl ?_
              refine r_iconst (v := (0 : Int32)) hE dX11_makePoint_g5.2.2.2.2.2.2.1 (by decide) ?_
              refine r_iconst (v := (1 : Int32)) hE dX11_makePoint_g5.2.2.2.2.2.2.2.1 (by decide) ?_
              refine c_callVl hE hm [.int (0 : Int32), .int (1 : Int32)] [.long r39, .ref (G.1 1300)] ck_X11_126 (cr_wo hm rfl) (kc_wo_given h) (by decide) rfl rfl (Nat.le_of_ble_eq_true rfl) dX11_makePoint_g5.2.2.2.2.2.2.2.2.1 (fun s40 r41 h => ?_)
              refine r_aload_n hE 0 dX11_makePoint_g5.2.2.2.2.2.2.2.2.2.1 rfl rfl ?_
              refine r_iconst (v := (1 : Int32)) hE dX11_makePoint_g5.2.2.2.2.2.2.2.2.2.2.1 (by decide) ?_
              refine r_iconst (v := (0 : Int32)) hE dX11_makePoint_g5.2.2.2.2.2.2.2.2.2.2.2.1 (by decide) ?_
              refine c_callVl hE hm [.int (1 : Int32), .int (0 : Int32)] [.long r41, .long r39, .ref (G.1 1300)] ck_X11_126 (cr_wo hm rfl) (kc_wo_given h) (by decide) rfl rfl (Nat.le_of_ble_eq_true rfl) dX11_makePoint_g5.2.2.2.2.2.2.2.2.2.2.2.2.1 (fun s42 r43 h => ?_)
              refine r_aload_n hE 0 dX11_makePoint_g5.2.2.2.2.2.2.2.2.2.2.2.2.2.1 rfl rfl ?_
              refine r_iconst (v := (1 : Int32)) hE dX11_makePoint_g5.2.2.2.2.2.2.2.2.2.2.2.2.2.2.1 (by decide) ?_
              refine r_iconst (v := (1 : Int32)) hE dX11_makePoint_g5.2.2.2.2.2.2.2.2.2.2.2.2.2.2.2 (by decide) ?_
              refine c_callVl hE hm [.int (1 : Int32), .int (1 : Int32)] [.long r43, .long r41, .long r39, .ref (G.1 1300)] ck_X11_126 (cr_wo hm rfl) (kc_wo_given h) (by decide) rfl rfl (Nat.le_of_ble_eq_true rfl) dX11_makePoint_g6.1 (fun s44 r45 h => ?_)
              refine r_aload_n hE 0 dX11_makePoint_g6.2.1 rfl rfl ?_
              refine r_iconst (v := (1 : Int32)) hE dX11_makePoint_g6.2.2.1 (by decide) ?_
              refine r_iconst (v := (2 : Int32)) hE dX11_makePoint_g6.2.2.2.1 (by decide) ?_
              refine c_callVl hE hm [.int (1 : Int32), .int (2 : Int32)] [.long r45, .long r43, .long r41, .long r39, .ref (G.1 1300)] ck_X11_126 (cr_wo hm rfl) (kc_wo_given h) (by decide) rfl rfl (Nat.le_of_ble_eq_true rfl) dX11_makePoint_g6.2.2.2.2.1 (fun s46 r47 h => ?_)
              refine c_callVv hE hm [.long r39, .long r41, .long r43, .long r45, .long r47] [] ck_X11_261 (cr_wo hm rfl) (kc_wo_foot h) (by decide) rfl rfl (Nat.le_of_ble_eq_true rfl) dX11_makePoint_g6.2.2.2.2.2.1 (fun s48 h => ?_)
              refine r_goto hE 511 dX11_makePoint_g6.2.2.2.2.2.2.1 (by decide) ?_
              exact c_vret hE hm hF dX11_makePoint_g16.2.2.2.2.2.2 h
            · refine r_case (19 : Int32) h (fun q6 h => ?_) (fun q6 h => ?_)
              · refine r_tableAt (off := 220) hE (19 : Int32) 228 dX11_makePoint_g0.2.2.2.2.1 q6 (by decide) (by decide) (by decide) (by decide) ?_
                refine r_aload_n hE 0 dX11_makePoint_g6.2.2.2.2.2.2.2.1 rfl rfl ?_
                refine r_aload_n hE 0 dX11_makePoint_g6.2.2.2.2.2.2.2.2.1 rfl rfl ?_
                refine r_iconst (v := (0 : Int32)) hE dX11_makePoint_g6.2.2.2.2.2.2.2.2.2.1 (by decide) ?_
                refine r_iconst (v := (0 : Int32)) hE dX11_makePoint_g6.2.2.2.2.2.2.2.2.2.2.1 (by decide) ?_
                refine c_callVl hE hm [.int (0 : Int32), .int (0 : Int32)] [.ref (G.1 1300)] ck_X11_126 (cr_wo hm rfl) (kc_wo_given h) (by decide) rfl rfl (Nat.le_of_ble_eq_true rfl) dX11_makePoint_g6.2.2.2.2.2.2.2.2.2.2.2.1 (fun s49 r50 h => ?_)
                refine r_aload_n hE 0 dX11_makePoint_g6.2.2.2.2.2.2.2.2.2.2.2.2.1 rfl rfl ?_
                refine r_iconst (v := (0 : Int32)) hE dX11_makePoint_g6.2.2.2.2.2.2.2.2.2.2.2.2.2.1 (by decide) ?_
                refine r_iconst (v := (1 : Int32)) hE dX11_makePoint_g6.2.2.2.2.2.2.2.2.2.2.2.2.2.2.1 (by decide) ?_
                refine c_callVl hE hm [.int (0 : Int32), .int (1 : Int32)] [.long r50, .ref (G.1 1300)] ck_X11_126 (cr_wo hm rfl) (kc_wo_given h) (by decide) rfl rfl (Nat.le_of_ble_eq_true rfl) dX11_makePoint_g6.2.2.2.2.2.2.2.2.2.2.2.2.2.2.2 (fun s51 r52 h => ?_)
                refine r_aload_n hE 0 dX11_makePoint_g7.1 rfl rfl ?_
                refine r_iconst (v := (1 : Int32)) hE dX11_makePoint_g7.2.1 (by decide) ?_
                refine r_iconst (v := (0 : Int32)) hE dX11_makePoint_g7.2.2.1 (by decide) ?_
                refine c_callVl hE hm [.int (1 : Int32), .int (0 : Int32)] [.long r52, .long r50, .ref (G.1 1300)] ck_X11_126 (cr_wo hm rfl) (kc_wo_given h) (by decide) rfl rfl (Nat.le_of_ble_eq_true rfl) dX11_makePoint_g7.2.2.2.1 (fun s53 r54 h => ?_)
                refine r_aload_n hE 0 dX11_makePoint_g7.2.2.2.2.1 rfl rfl ?_
                refine r_iconst (v := (1 : Int32)) hE dX11_makePoint_g7.2.2.2.2.2.1 (by decide) ?_
                refine r_iconst (v := (1 : Int32)) hE dX11_makePoint_g7.2.2.2.2.2.2.1 (by decide) ?_
                refine c_callVl hE hm [.int (1 : Int32), .int (1 : Int32)] [.long r54, .long r52, .long r50, .ref (G.1 1300)] ck_X11_126 (cr_wo hm rfl) (kc_wo_given h) (by decide) rfl rfl (Nat.le_of_ble_eq_true rfl) dX11_makePoint_g7.2.2.2.2.2.2.2.1 (fun s55 r56 h => ?_)
                refine r_aload_n hE 0 dX11_makePoint_g7.2.2.2.2.2.2.2.2.1 rfl rfl ?_
                refine r_iconst (v := (1 : Int32)) hE dX11_makePoint_g7.2.2.2.2.2.2.2.2.2.1 (by decide) ?_
                refine r_iconst (v := (2 : Int32)) hE dX11_makePoint_g7.2.2.2.2.2.2.2.2.2.2.1 (by decide) ?_
                refine c_callVl hE hm [.int (1 : Int32), .int (2 : Int32)] [.long r56, .long r54, .long r52, .long r50, .ref (G.1 1300)] ck_X11_126 (cr_wo hm rfl) (kc_wo_given h) (by decide) rfl rfl (Nat.le_of_ble_eq_true rfl) dX11_makePoint_g7.2.2.2.2.2.2.2.2.2.2.2.1 (fun s57 r58 h => ?_)
                refine c_callVv hE hm [.long r50, .long r52, .long r54, .long r56, .long r58] [] ck_X11_261 (cr_wo hm rfl) (kc_wo_foot h) (by decide) rfl rfl (Nat.le_of_ble_eq_true rfl) dX11_makePoint_g7.2.2.2.2.2.2.2.2.2.2.2.2.1 (fun s59 h => ?_)
                refine r_aload_n hE 0 dX11_makePoint_g7.2.2.2.2.2.2.2.2.2.2.2.2.2.1 rfl rfl ?_
                refine r_aload_n hE 0 dX11_makePoint_g7.2.2.2.2.2.2.2.2.2.2.2.2.2.2.1 rfl rfl ?_
                refine cg_wo_reckoner hE hm fk_X11_36 dX11_makePoint_g7.2.2.2.2.2.2.2.2.2.2.2.2.2.2.2 ?_
                refine r_aload_n hE 0 dX11_makePoint_g8.1 rfl rfl ?_
                refine cg_wo_reckoner hE hm fk_X11_36 dX11_makePoint_g8.2.1 ?_
                refine r_ldc2 (v := (8589934593 : Int64)) hE dX11_makePoint_g8.2.2.1 (gTb_5 (List.mem_of_getElem? (i := 118) rfl) rfl) ?_
                refine r_aload_n hE 0 dX11_makePoint_g8.2.2.2.1 rfl rfl ?_
                refine cg_wo_x hE hm fk_X11_17 dX11_makePoint_g8.2.2.2.2.1 ?_
                refine c_callVl hE hm [.long (8589934593 : Int64), .long (c_wo_x s59)] [.ref (G.1 800), .ref (G.1 1300)] ck_X11_236 (cr_rk hm rfl) (kc_rk_times h) (by decide) rfl rfl (Nat.le_of_ble_eq_true rfl) dX11_makePoint_g8.2.2.2.2.2.1 (fun s60 r61 h => ?_)
                refine r_aload_n hE 0 dX11_makePoint_g8.2.2.2.2.2.2.1 rfl rfl ?_
                refine r_iconst (v := (0 : Int32)) hE dX11_makePoint_g8.2.2.2.2.2.2.2.1 (by decide) ?_
                refine r_iconst (v := (0 : Int32)) hE dX11_makePoint_g8.2.2.2.2.2.2.2.2.1 (by decide) ?_
                refine c_callVl hE hm [.int (0 : Int32), .int (0 : Int32)] [.long r61, .ref (G.1 800), .ref (G.1 1300)] ck_X11_126 (cr_wo hm rfl) (kc_wo_given h) (by decide) rfl rfl (Nat.le_of_ble_eq_true rfl) dX11_makePoint_g8.2.2.2.2.2.2.2.2.2.1 (fun s62 r63 h => ?_)
                refine c_callVl hE hm [.long r61, .long r63] [.ref (G.1 1300)] ck_X11_226 (cr_rk hm rfl) (kc_rk_minus h) (by decide) rfl rfl (Nat.le_of_ble_eq_true rfl) dX11_makePoint_g8.2.2.2.2.2.2.2.2.2.2.1 (fun s64 r65 h => ?_)
                refine cp_wo_x hE hm fk_X11_17 dX11_makePoint_g8.2.2.2.2.2.2.2.2.2.2.2.1 h (fun s66 h => ?_)
                refine r_aload_n hE 0 dX11_makePoint_g8.2.2.2.2.2.2.2.2.2.2.2.2.1 rfl rfl ?_
                refine r_aload_n hE 0 dX11_makePoint_g8.2.2.2.2.2.2.2.2.2.2.2.2.2.1 rfl rfl ?_
                refine cg_wo_reckoner hE hm fk_X11_36 dX11_makePoint_g8.2.2.2.2.2.2.2.2.2.2.2.2.2.2.1 ?_
                refine r_aload_n hE 0 dX11_makePoint_g8.2.2.2.2.2.2.2.2.2.2.2.2.2.2.2 rfl rfl ?_
                refine cg_wo_reckoner hE hm fk_X11_36 dX11_makePoint_g9.1 ?_
                refine r_ldc2 (v := (8589934593 : Int64)) hE dX11_makePoint_g9.2.1 (gTb_5 (List.mem_of_getElem? (i := 118) rfl) rfl) ?_
                refine r_aload_n hE 0 dX11_makePoint_g9.2.2.1 rfl rfl ?_
                refine cg_wo_y hE hm fk_X11_21 dX11_makePoint_g9.2.2.2.1 ?_
                refine c_callVl hE hm [.long (8589934593 : Int64), .long (c_wo_y s66)] [.ref (G.1 800), .ref (G.1 1300)] ck_X11_236 (cr_rk hm rfl) (kc_rk_times h) (by decide) rfl rfl (Nat.le_of_ble_eq_true rfl) dX11_makePoint_g9.2.2.2.2.1 (fun s67 r68 h => ?_)
                refine r_aload_n hE 0 dX11_makePoint_g9.2.2.2.2.2.1 rfl rfl ?_
                refine r_iconst (v := (0 : Int32)) hE dX11_makePoint_g9.2.2.2.2.2.2.1 (by decide) ?_
                refine r_iconst (v := (1 : Int32)) hE dX11_makePoint_g9.2.2.2.2.2.2.2.1 (by decide) ?_
                refine c_callVl hE hm [.int (0 : Int32), .int (1 : Int32)] [.long r68, .ref (G.1 800), .ref (G.1 1300)] ck_X11_126 (cr_wo hm rfl) (kc_wo_given h) (by decide) rfl rfl (Nat.le_of_ble_eq_true rfl) dX11_makePoint_g9.2.2.2.2.2.2.2.2.1 (fun s69 r70 h => ?_)
                refine c_callVl hE hm [.long r68, .long r70] [.ref (G.1 1300)] ck_X11_226 (cr_rk hm rfl) (kc_rk_minus h) (by decide) rfl rfl (Nat.le_of_ble_eq_true rfl) dX11_makePoint_g9.2.2.2.2.2.2.2.2.2.1 (fun s71 r72 h => ?_)
                refine cp_wo_y hE hm fk_X11_21 dX11_makePoint_g9.2.2.2.2.2.2.2.2.2.2.1 h (fun s73 h => ?_)
                refine r_goto hE 511 dX11_makePoint_g9.2.2.2.2.2.2.2.2.2.2.2.1 (by decide) ?_
                exact c_vret hE hm hF dX11_makePoint_g16.2.2.2.2.2.2 h
              · refine r_case (20 : Int32) h (fun q7 h => ?_) (fun q7 h => ?_)
                · refine r_tableAt (off := 319) hE (20 : Int32) 327 dX11_makePoint_g0.2.2.2.2.1 q7 (by decide) (by decide) (by decide) (by decide) ?_
                  refine r_aload_n hE 0 dX11_makePoint_g9.2.2.2.2.2.2.2.2.2.2.2.2.1 rfl rfl ?_
                  refine r_aload_n hE 0 dX11_makePoint_g9.2.2.2.2.2.2.2.2.2.2.2.2.2.1 rfl rfl ?_
                  refine cg_wo_reckoner hE hm fk_X11_36 dX11_makePoint_g9.2.2.2.2.2.2.2.2.2.2.2.2.2.2.1 ?_
                  refine r_aload_n hE 0 dX11_makePoint_g9.2.2.2.2.2.2.2.2.2.2.2.2.2.2.2 rfl rfl ?_
                  refine r_iconst (v := (1 : Int32)) hE dX11_makePoint_g10.1 (by decide) ?_
                  refine r_iconst (v := (0 : Int32)) hE dX11_makePoint_g10.2.1 (by decide) ?_
                  refine c_callVl hE hm [.int (1 : Int32), .int (0 : Int32)] [.ref (G.1 800), .ref (G.1 1300)] ck_X11_126 (cr_wo hm rfl) (kc_wo_given h) (by decide) rfl rfl (Nat.le_of_ble_eq_true rfl) dX11_makePoint_g10.2.2.1 (fun s74 r75 h => ?_)
                  refine r_aload_n hE 0 dX11_makePoint_g10.2.2.2.1 rfl rfl ?_
                  refine cg_wo_reckoner hE hm fk_X11_36 dX11_makePoint_g10.2.2.2.2.1 ?_
                  refine r_aload_n hE 0 dX11_makePoint_g10.2.2.2.2.2.1 rfl rfl ?_
                  refine r_iconst (v := (0 : Int32)) hE dX11_makePoint_g10.2.2.2.2.2.2.1 (by decide) ?_
                  refine r_iconst (v := (1 : Int32)) hE dX11_makePoint_g10.2.2.2.2.2.2.2.1 (by decide) ?_
                  refine c_callVl hE hm [.int (0 : Int32), .int (1 : Int32)] [.ref (G.1 800), .long r75, .ref (G.1 800), .ref (G.1 1300)] ck_X11_126 (cr_wo hm rfl) (kc_wo_given h) (by decide) rfl rfl (Nat.le_of_ble_eq_true rfl) dX11_makePoint_g10.2.2.2.2.2.2.2.2.1 (fun s76 r77 h => ?_)
                  refine r_aload_n hE 0 dX11_makePoint_g10.2.2.2.2.2.2.2.2.2.1 rfl rfl ?_
                  refine r_iconst (v := (1 : Int32)) hE dX11_makePoint_g10.2.2.2.2.2.2.2.2.2.2.1 (by decide) ?_
                  refine r_iconst (v := (1 : Int32)) hE dX11_makePoint_g10.2.2.2.2.2.2.2.2.2.2.2.1 (by decide) ?_
                  refine c_callVl hE hm [.int (1 : Int32), .int (1 : Int32)] [.long r77, .ref (G.1 800), .long r75, .ref (G.1 800), .ref (G.1 1300)] ck_X11_126 (cr_wo hm rfl) (kc_wo_given h) (by decide) rfl rfl (Nat.le_of_ble_eq_true rfl) dX11_makePoint_g10.2.2.2.2.2.2.2.2.2.2.2.2.1 (fun s78 r79 h => ?_)
                  refine c_callVl hE hm [.long r77, .long r79] [.long r75, .ref (G.1 800), .ref (G.1 1300)] ck_X11_226 (cr_rk hm rfl) (kc_rk_minus h) (by decide) rfl rfl (Nat.le_of_ble_eq_true rfl) dX11_makePoint_g10.2.2.2.2.2.2.2.2.2.2.2.2.2.1 (fun s80 r81 h => ?_)
                  refine c_callVl hE hm [.long r75, .long r81] [.ref (G.1 1300)] ck_X11_226 (cr_rk hm rfl) (kc_rk_minus h) (by decide) rfl rfl (Nat.le_of_ble_eq_true rfl) dX11_makePoint_g10.2.2.2.2.2.2.2.2.2.2.2.2.2.2.1 (fun s82 r83 h => ?_)
                  refine cp_wo_x hE hm fk_X11_17 dX11_makePoint_g10.2.2.2.2.2.2.2.2.2.2.2.2.2.2.2 h (fun s84 h => ?_)
                  refine r_aload_n hE 0 dX11_makePoint_g11.1 rfl rfl ?_
                  refine r_aload_n hE 0 dX11_makePoint_g11.2.1 rfl rfl ?_
                  refine cg_wo_reckoner hE hm fk_X11_36 dX11_makePoint_g11.2.2.1 ?_
                  refine r_aload_n hE 0 dX11_makePoint_g11.2.2.2.1 rfl rfl ?_
                  refine r_iconst (v := (1 : Int32)) hE dX11_makePoint_g11.2.2.2.2.1 (by decide) ?_
                  refine r_iconst (v := (1 : Int32)) hE dX11_makePoint_g11.2.2.2.2.2.1 (by decide) ?_
                  refine c_callVl hE hm [.int (1 : Int32), .int (1 : Int32)] [.ref (G.1 800), .ref (G.1 1300)] ck_X11_126 (cr_wo hm rfl) (kc_wo_given h) (by decide) rfl rfl (Nat.le_of_ble_eq_true rfl) dX11_makePoint_g11.2.2.2.2.2.2.1 (fun s85 r86 h => ?_)
                  refine r_aload_n hE 0 dX11_makePoint_g11.2.2.2.2.2.2.2.1 rfl rfl ?_
                  refine cg_wo_reckoner hE hm fk_X11_36 dX11_makePoint_g11.2.2.2.2.2.2.2.2.1 ?_
                  refine r_aload_n hE 0 dX11_makePoint_g11.2.2.2.2.2.2.2.2.2.1 rfl rfl ?_
                  refine r_iconst (v := (0 : Int32)) hE dX11_makePoint_g11.2.2.2.2.2.2.2.2.2.2.1 (by decide) ?_
                  refine r_iconst (v := (0 : Int32)) hE dX11_makePoint_g11.2.2.2.2.2.2.2.2.2.2.2.1 (by decide) ?_
                  refine c_callVl hE hm [.int (0 : Int32), .int (0 : Int32)] [.ref (G.1 800), .long r86, .ref (G.1 800), .ref (G.1 1300)] ck_X11_126 (cr_wo hm rfl) (kc_wo_given h) (by decide) rfl rfl (Nat.le_of_ble_eq_true rfl) dX11_makePoint_g11.2.2.2.2.2.2.2.2.2.2.2.2.1 (fun s87 r88 h => ?_)
                  refine r_aload_n hE 0 dX11_makePoint_g11.2.2.2.2.2.2.2.2.2.2.2.2.2.1 rfl rfl ?_
                  refine r_iconst (v := (1 : Int32)) hE dX11_makePoint_g11.2.2.2.2.2.2.2.2.2.2.2.2.2.2.1 (by decide) ?_
                  refine r_iconst (v := (0 : Int32)) hE dX11_makePoint_g11.2.2.2.2.2.2.2.2.2.2.2.2.2.2.2 (by decide) ?_
                  refine c_callVl hE hm [.int (1 : Int32), .int (0 : Int32)] [.long r88, .ref (G.1 800), .long r86, .ref (G.1 800), .ref (G.1 1300)] ck_X11_126 (cr_wo hm rfl) (kc_wo_given h) (by decide) rfl rfl (Nat.le_of_ble_eq_true rfl) dX11_makePoint_g12.1 (fun s89 r90 h => ?_)
                  refine c_callVl hE hm [.long r88, .long r90] [.long r86, .ref (G.1 800), .ref (G.1 1300)] ck_X11_226 (cr_rk hm rfl) (kc_rk_minus h) (by decide) rfl rfl (Nat.le_of_ble_eq_true rfl) dX11_makePoint_g12.2.1 (fun s91 r92 h => ?_)
                  refine c_callVl hE hm [.long r86, .long r92] [.ref (G.1 1300)] ck_X11_239 (cr_rk hm rfl) (kc_rk_plus h) (by decide) rfl rfl (Nat.le_of_ble_eq_true rfl) dX11_makePoint_g12.2.2.1 (fun s93 r94 h => ?_)
                  refine cp_wo_y hE hm fk_X11_21 dX11_makePoint_g12.2.2.2.1 h (fun s95 h => ?_)
                  refine r_goto hE 511 dX11_makePoint_g12.2.2.2.2.1 (by decide) ?_
                  exact c_vret hE hm hF dX11_makePoint_g16.2.2.2.2.2.2 h
                · refine r_case (21 : Int32) h (fun q8 h => ?_) (fun q8 h => ?_)
                  · refine r_tableAt (off := 394) hE (21 : Int32) 402 dX11_makePoint_g0.2.2.2.2.1 q8 (by decide) (by decide) (by decide) (by decide) ?_
                    refine r_aload_n hE 0 dX11_makePoint_g12.2.2.2.2.2.1 rfl rfl ?_
                    refine r_aload_n hE 0 dX11_makePoint_g12.2.2.2.2.2.2.1 rfl rfl ?_
                    refine r_iconst (v := (2 : Int32)) hE dX11_makePoint_g12.2.2.2.2.2.2.2.1 (by decide) ?_
                    refine r_iconst (v := (0 : Int32)) hE dX11_makePoint_g12.2.2.2.2.2.2.2.2.1 (by decide) ?_
                    refine c_callVl hE hm [.int (2 : Int32), .int (0 : Int32)] [.ref (G.1 1300)] ck_X11_126 (cr_wo hm rfl) (kc_wo_given h) (by decide) rfl rfl (Nat.le_of_ble_eq_true rfl) dX11_makePoint_g12.2.2.2.2.2.2.2.2.2.1 (fun s96 r97 h => ?_)
                    refine c_callVv hE hm [.long r97] [] ck_X11_267 (cr_wo hm rfl) (kc_wo_scale h) (by decide) rfl rfl (Nat.le_of_ble_eq_true rfl) dX11_makePoint_g12.2.2.2.2.2.2.2.2.2.2.1 (fun s98 h => ?_)
                    refine r_goto hE 511 dX11_makePoint_g12.2.2.2.2.2.2.2.2.2.2.2.1 (by decide) ?_
                    exact c_vret hE hm hF dX11_makePoint_g16.2.2.2.2.2.2 h
                  · refine r_case (22 : Int32) h (fun q9 h => ?_) (fun q9 h => ?_)
                    · refine r_tableAt (off := 407) hE (22 : Int32) 415 dX11_makePoint_g0.2.2.2.2.1 q9 (by decide) (by decide) (by decide) (by decide) ?_
                      refine r_aload_n hE 0 dX11_makePoint_g12.2.2.2.2.2.2.2.2.2.2.2.2.1 rfl rfl ?_
                      refine r_aload_n hE 0 dX11_makePoint_g12.2.2.2.2.2.2.2.2.2.2.2.2.2.1 rfl rfl ?_
                      refine cg_wo_reckoner hE hm fk_X11_36 dX11_makePoint_g12.2.2.2.2.2.2.2.2.2.2.2.2.2.2.1 ?_
                      refine r_aload_n hE 0 dX11_makePoint_g12.2.2.2.2.2.2.2.2.2.2.2.2.2.2.2 rfl rfl ?_
                      refine r_iconst (v := (1 : Int32)) hE dX11_makePoint_g13.1 (by decide) ?_
                      refine r_iconst (v := (2 : Int32)) hE dX11_makePoint_g13.2.1 (by decide) ?_
                      refine c_callVl hE hm [.int (1 : Int32), .int (2 : Int32)] [.ref (G.1 800), .ref (G.1 1300)] ck_X11_126 (cr_wo hm rfl) (kc_wo_given h) (by decide) rfl rfl (Nat.le_of_ble_eq_true rfl) dX11_makePoint_g13.2.2.1 (fun s99 r100 h => ?_)
                      refine r_aload_n hE 0 dX11_makePoint_g13.2.2.2.1 rfl rfl ?_
                      refine r_aload_n hE 0 dX11_makePoint_g13.2.2.2.2.1 rfl rfl ?_
                      refine r_iconst (v := (0 : Int32)) hE dX11_makePoint_g13.2.2.2.2.2.1 (by decide) ?_
                      refine r_iconst (v := (0 : Int32)) hE dX11_makePoint_g13.2.2.2.2.2.2.1 (by decide) ?_
                      refine c_callVl hE hm [.int (0 : Int32), .int (0 : Int32)] [.ref (G.1 1300), .long r100, .ref (G.1 800), .ref (G.1 1300)] ck_X11_126 (cr_wo hm rfl) (kc_wo_given h) (by decide) rfl rfl (Nat.le_of_ble_eq_true rfl) dX11_makePoint_g13.2.2.2.2.2.2.2.1 (fun s101 r102 h => ?_)
                      refine r_aload_n hE 0 dX11_makePoint_g13.2.2.2.2.2.2.2.2.1 rfl rfl ?_
                      refine r_iconst (v := (0 : Int32)) hE dX11_makePoint_g13.2.2.2.2.2.2.2.2.2.1 (by decide) ?_
                      refine r_iconst (v := (1 : Int32)) hE dX11_makePoint_g13.2.2.2.2.2.2.2.2.2.2.1 (by decide) ?_
                      refine c_callVl hE hm [.int (0 : Int32), .int (1 : Int32)] [.long r102, .ref (G.1 1300), .long r100, .ref (G.1 800), .ref (G.1 1300)] ck_X11_126 (cr_wo hm rfl) (kc_wo_given h) (by decide) rfl rfl (Nat.le_of_ble_eq_true rfl) dX11_makePoint_g13.2.2.2.2.2.2.2.2.2.2.2.1 (fun s103 r104 h => ?_)
                      refine r_aload_n hE 0 dX11_makePoint_g13.2.2.2.2.2.2.2.2.2.2.2.2.1 rfl rfl ?_
                      refine r_iconst (v := (1 : Int32)) hE dX11_makePoint_g13.2.2.2.2.2.2.2.2.2.2.2.2.2.1 (by decide) ?_
                      refine r_iconst (v := (0 : Int32)) hE dX11_makePoint_g13.2.2.2.2.2.2.2.2.2.2.2.2.2.2.1 (by decide) ?_
                      refine c_callVl hE hm [.int (1 : Int32), .int (0 : Int32)] [.long r104, .long r102, .ref (G.1 1300), .long r100, .ref (G.1 800), .ref (G.1 1300)] ck_X11_126 (cr_wo hm rfl) (kc_wo_given h) (by decide) rfl rfl (Nat.le_of_ble_eq_true rfl) dX11_makePoint_g13.2.2.2.2.2.2.2.2.2.2.2.2.2.2.2 (fun s105 r106 h => ?_)
                      refine r_aload_n hE 0 dX11_makePoint_g14.1 rfl rfl ?_
                      refine r_iconst (v := (1 : Int32)) hE dX11_makePoint_g14.2.1 (by decide) ?_
                      refine r_iconst (v := (1 : Int32)) hE dX11_makePoint_g14.2.2.1 (by decide) ?_
                      refine c_callVl hE hm [.int (1 : Int32), .int (1 : Int32)] [.long r106, .long r104, .long r102, .ref (G.1 1300), .long r100, .ref (G.1 800), .ref (G.1 1300)] ck_X11_126 (cr_wo hm rfl) (kc_wo_given h) (by decide) rfl rfl (Nat.le_of_ble_eq_true rfl) dX11_makePoint_g14.2.2.2.1 (fun s107 r108 h => ?_)
                      refine c_callVl hE hm [.long r102, .long r104, .long r106, .long r108] [.long r100, .ref (G.1 800), .ref (G.1 1300)] ck_X11_218 (cr_wo hm rfl) (kc_wo_dist h) (by decide) rfl rfl (Nat.le_of_ble_eq_true rfl) dX11_makePoint_g14.2.2.2.2.1 (fun s109 r110 h => ?_)
                      refine c_callVl hE hm [.long r100, .long r110] [.ref (G.1 1300)] ck_X11_204 (cr_rk hm rfl) (kc_rk_over h) (by decide) rfl rfl (Nat.le_of_ble_eq_true rfl) dX11_makePoint_g14.2.2.2.2.2.1 (fun s111 r112 h => ?_)
                      refine c_callVv hE hm [.long r112] [] ck_X11_267 (cr_wo hm rfl) (kc_wo_scale h) (by decide) rfl rfl (Nat.le_of_ble_eq_true rfl) dX11_makePoint_g14.2.2.2.2.2.2.1 (fun s113 h => ?_)
                      refine r_goto hE 511 dX11_makePoint_g14.2.2.2.2.2.2.2.1 (by decide) ?_
                      exact c_vret hE hm hF dX11_makePoint_g16.2.2.2.2.2.2 h
                    · have n0 := lv_neT q0 (show (13 : Int32).toInt = 13 by decide)
                      have n1 := lv_neT q1 (show (14 : Int32).toInt = 14 by decide)
                      have n2 := lv_neT q2 (show (15 : Int32).toInt = 15 by decide)
                      have n3 := lv_neT q3 (show (16 : Int32).toInt = 16 by decide)
                      have n4 := lv_neT q4 (show (17 : Int32).toInt = 17 by decide)
                      have n5 := lv_neT q5 (show (18 : Int32).toInt = 18 by decide)
                      have n6 := lv_neT q6 (show (19 : Int32).toInt = 19 by decide)
                      have n7 := lv_neT q7 (show (20 : Int32).toInt = 20 by decide)
                      have n8 := lv_neT q8 (show (21 : Int32).toInt = 21 by decide)
                      have n9 := lv_neT q9 (show (22 : Int32).toInt = 22 by decide)
                      refine r_tableOut hE 463 dX11_makePoint_g0.2.2.2.2.1 (by omega) (by decide) ?_
                      refine r_aload_n hE 0 dX11_makePoint_g14.2.2.2.2.2.2.2.2.1 rfl rfl ?_
                      refine r_aload_n hE 0 dX11_makePoint_g14.2.2.2.2.2.2.2.2.2.1 rfl rfl ?_
                      refine r_iconst (v := (2 : Int32)) hE dX11_makePoint_g14.2.2.2.2.2.2.2.2.2.2.1 (by decide) ?_
                      refine r_iconst (v := (0 : Int32)) hE dX11_makePoint_g14.2.2.2.2.2.2.2.2.2.2.2.1 (by decide) ?_
                      refine c_callVl hE hm [.int (2 : Int32), .int (0 : Int32)] [.ref (G.1 1300)] ck_X11_126 (cr_wo hm rfl) (kc_wo_given h) (by decide) rfl rfl (Nat.le_of_ble_eq_true rfl) dX11_makePoint_g14.2.2.2.2.2.2.2.2.2.2.2.2.1 (fun s114 r115 h => ?_)
                      refine c_callVv hE hm [.long r115] [] ck_X11_271 (cr_wo hm rfl) (kc_wo_askSide h) (by decide) rfl rfl (Nat.le_of_ble_eq_true rfl) dX11_makePoint_g14.2.2.2.2.2.2.2.2.2.2.2.2.2.1 (fun s116 h => ?_)
                      refine r_aload_n hE 0 dX11_makePoint_g14.2.2.2.2.2.2.2.2.2.2.2.2.2.2.1 rfl rfl ?_
                      refine r_aload_n hE 0 dX11_makePoint_g14.2.2.2.2.2.2.2.2.2.2.2.2.2.2.2 rfl rfl ?_
                      refine r_iconst (v := (1 : Int32)) hE dX11_makePoint_g15.1 (by decide) ?_
                      refine r_iconst (v := (0 : Int32)) hE dX11_makePoint_g15.2.1 (by decide) ?_
                      refine c_callVl hE hm [.int (1 : Int32), .int (0 : Int32)] [.ref (G.1 1300)] ck_X11_126 (cr_wo hm rfl) (kc_wo_given h) (by decide) rfl rfl (Nat.le_of_ble_eq_true rfl) dX11_makePoint_g15.2.2.1 (fun s117 r118 h => ?_)
                      refine r_aload_n hE 0 dX11_makePoint_g15.2.2.2.1 rfl rfl ?_
                      refine r_iconst (v := (1 : Int32)) hE dX11_makePoint_g15.2.2.2.2.1 (by decide) ?_
                      refine r_iconst (v := (1 : Int32)) hE dX11_makePoint_g15.2.2.2.2.2.1 (by decide) ?_
                      refine c_callVl hE hm [.int (1 : Int32), .int (1 : Int32)] [.long r118, .ref (G.1 1300)] ck_X11_126 (cr_wo hm rfl) (kc_wo_given h) (by decide) rfl rfl (Nat.le_of_ble_eq_true rfl) dX11_makePoint_g15.2.2.2.2.2.2.1 (fun s119 r120 h => ?_)
                      refine r_aload_n hE 0 dX11_makePoint_g15.2.2.2.2.2.2.2.1 rfl rfl ?_
                      refine r_iconst (v := (0 : Int32)) hE dX11_makePoint_g15.2.2.2.2.2.2.2.2.1 (by decide) ?_
                      refine r_iconst (v := (0 : Int32)) hE dX11_makePoint_g15.2.2.2.2.2.2.2.2.2.1 (by decide) ?_
                      refine c_callVl hE hm [.int (0 : Int32), .int (0 : Int32)] [.long r120, .long r118, .ref (G.1 1300)] ck_X11_126 (cr_wo hm rfl) (kc_wo_given h) (by decide) rfl rfl (Nat.le_of_ble_eq_true rfl) dX11_makePoint_g15.2.2.2.2.2.2.2.2.2.2.1 (fun s121 r122 h => ?_)
                      refine r_aload_n hE 0 dX11_makePoint_g15.2.2.2.2.2.2.2.2.2.2.2.1 rfl rfl ?_
                      refine r_iconst (v := (0 : Int32)) hE dX11_makePoint_g15.2.2.2.2.2.2.2.2.2.2.2.2.1 (by decide) ?_
                      refine r_iconst (v := (1 : Int32)) hE dX11_makePoint_g15.2.2.2.2.2.2.2.2.2.2.2.2.2.1 (by decide) ?_
                      refine c_callVl hE hm [.int (0 : Int32), .int (1 : Int32)] [.long r122, .long r120, .long r118, .ref (G.1 1300)] ck_X11_126 (cr_wo hm rfl) (kc_wo_given h) (by decide) rfl rfl (Nat.le_of_ble_eq_true rfl) dX11_makePoint_g15.2.2.2.2.2.2.2.2.2.2.2.2.2.2.1 (fun s123 r124 h => ?_)
                      refine r_aload_n hE 0 dX11_makePoint_g15.2.2.2.2.2.2.2.2.2.2.2.2.2.2.2 rfl rfl ?_
                      refine r_iconst (v := (0 : Int32)) hE dX11_makePoint_g16.1 (by decide) ?_
                      refine r_iconst (v := (2 : Int32)) hE dX11_makePoint_g16.2.1 (by decide) ?_
                      refine c_callVl hE hm [.int (0 : Int32), .int (2 : Int32)] [.long r124, .long r122, .long r120, .long r118, .ref (G.1 1300)] ck_X11_126 (cr_wo hm rfl) (kc_wo_given h) (by decide) rfl rfl (Nat.le_of_ble_eq_true rfl) dX11_makePoint_g16.2.2.1 (fun s125 r126 h => ?_)
                      refine c_callVv hE hm [.long r118, .long r120, .long r122, .long r124, .long r126] [] ck_X11_261 (cr_wo hm rfl) (kc_wo_foot h) (by decide) rfl rfl (Nat.le_of_ble_eq_true rfl) dX11_makePoint_g16.2.2.2.1 (fun s127 h => ?_)
                      refine r_aload_n hE 0 dX11_makePoint_g16.2.2.2.2.1 rfl rfl ?_
                      refine c_callVv hE hm [] [] ck_X11_274 (cr_wo hm rfl) (kc_wo_cutFromFoot h) (by decide) rfl rfl (Nat.le_of_ble_eq_true rfl) dX11_makePoint_g16.2.2.2.2.2.1 (fun s128 h => ?_)
                      exact c_vret hE hm hF dX11_makePoint_g16.2.2.2.2.2.2 h
/-! wo_area -/
def wc_wo_area (post : CS → Int64 → Prop) (σ : CS) : Prop := wc_wo_given (fun (s1 : CS) (r2 : Int64) => wc_wo_given (fun (s3 : CS) (r4 : Int64) => wc_rk_minus (fun (s5 : CS) (r6 : Int64) => wc_wo_given (fun (s7 : CS) (r8 : Int64) => wc_wo_given (fun (s9 : CS) (r10 : Int64) => wc_rk_minus (fun (s11 : CS) (r12 : Int64) => wc_rk_times (fun (s13 : CS) (r14 : Int64) => wc_wo_given (fun (s15 : CS) (r16 : Int64) => wc_wo_given (fun (s17 : CS) (r18 : Int64) => wc_rk_minus (fun (s19 : CS) (r20 : Int64) => wc_wo_given (fun (s21 : CS) (r22 : Int64) => wc_wo_given (fun (s23 : CS) (r24 : Int64) => wc_rk_minus (fun (s25 : CS) (r26 : Int64) => wc_rk_times (fun (s27 : CS) (r28 : Int64) => wc_rk_minus (fun (s29 : CS) (r30 : Int64) => post s29 r30) s27 r14 r28) s25 r20 r26) s23 r22 r24) s21 (0 : Int32) (1 : Int32)) s19 (1 : Int32) (1 : Int32)) s17 r16 r18) s15 (0 : Int32) (0 : Int32)) s13 (2 : Int32) (0 : Int32)) s11 r6 r12) s9 r8 r10) s7 (0 : Int32) (1 : Int32)) s5 (2 : Int32) (1 : Int32)) s3 r2 r4) s1 (0 : Int32) (0 : Int32)) σ (1 : Int32) (0 : Int32)
set_option maxRecDepth 20000 in
theorem kc_wo_area {l : Launch} {D : va_G} {G : gAd} {post : CS → Int64 → Prop} {σ : CS} (h : wc_wo_area post σ) : cMet l D G yX11_area cX11_area 5 (some .long) 3 [.ref (G.1 1300)] σ (pL post) := by
  unfold wc_wo_area at h
  refine c_enter (own := RX11) (by decide +kernel) rfl [(0, .ref (G.1 1300))] rfl (Nat.le_of_ble_eq_true rfl) ?_
  intro E hE hm hF
  have hN := hm.2.2.2.2.2.2.1
  refine r_aload_n hE 0 dX11_area_g0.1 rfl rfl ?_
  refine cg_wo_reckoner hE hm fk_X11_36 dX11_area_g0.2.1 ?_
  refine r_aload_n hE 0 dX11_area_g0.2.2.1 rfl rfl ?_
  refine cg_wo_reckoner hE hm fk_X11_36 dX11_area_g0.2.2.2.1 ?_
  refine r_aload_n hE 0 dX11_area_g0.2.2.2.2.1 rfl rfl ?_
  refine r_iconst (v := (1 : Int32)) hE dX11_area_g0.2.2.2.2.2.1 (by decide) ?_
  refine r_iconst (v := (0 : Int32)) hE dX11_area_g0.2.2.2.2.2.2.1 (by decide) ?_
  refine c_callVl hE hm [.int (1 : Int32), .int (0 : Int32)] [.ref (G.1 800), .ref (G.1 800)] ck_X11_126 (cr_wo hm rfl) (kc_wo_given h) (by decide) rfl rfl (Nat.le_of_ble_eq_true rfl) dX11_area_g0.2.2.2.2.2.2.2.1 (fun s1 r2 h => ?_)
  refine r_aload_n hE 0 dX11_area_g0.2.2.2.2.2.2.2.2.1 rfl rfl ?_
  refine r_iconst (v := (0 : Int32)) hE dX11_area_g0.2.2.2.2.2.2.2.2.2.1 (by decide) ?_
  refine r_iconst (v := (0 : Int32)) hE dX11_area_g0.2.2.2.2.2.2.2.2.2.2.1 (by decide) ?_
  refine c_callVl hE hm [.int (0 : Int32), .int (0 : Int32)] [.long r2, .ref (G.1 800), .ref (G.1 800)] ck_X11_126 (cr_wo hm rfl) (kc_wo_given h) (by decide) rfl rfl (Nat.le_of_ble_eq_true rfl) dX11_area_g0.2.2.2.2.2.2.2.2.2.2.2.1 (fun s3 r4 h => ?_)
  refine c_callVl hE hm [.long r2, .long r4] [.ref (G.1 800)] ck_X11_226 (cr_rk hm rfl) (kc_rk_minus h) (by decide) rfl rfl (Nat.le_of_ble_eq_true rfl) dX11_area_g0.2.2.2.2.2.2.2.2.2.2.2.2.1 (fun s5 r6 h => ?_)
  refine r_aload_n hE 0 dX11_area_g0.2.2.2.2.2.2.2.2.2.2.2.2.2.1 rfl rfl ?_
  refine cg_wo_reckoner hE hm fk_X11_36 dX11_area_g0.2.2.2.2.2.2.2.2.2.2.2.2.2.2.1 ?_
  refine r_aload_n hE 0 dX11_area_g0.2.2.2.2.2.2.2.2.2.2.2.2.2.2.2 rfl rfl ?_
  refine r_iconst (v := (2 : Int32)) hE dX11_area_g1.1 (by decide) ?_
  refine r_iconst (v := (1 : Int32)) hE dX11_area_g1.2.1 (by decide) ?_
  refine c_callVl hE hm [.int (2 : Int32), .int (1 : Int32)] [.ref (G.1 800), .long r6, .ref (G.1 800)] ck_X11_126 (cr_wo hm rfl) (kc_wo_given h) (by decide) rfl rfl (Nat.le_of_ble_eq_true rfl) dX11_area_g1.2.2.1 (fun s7 r8 h => ?_)
  refine r_aload_n hE 0 dX11_area_g1.2.2.2.1 rfl rfl ?_
  refine r_iconst (v := (0 : Int32)) hE dX11_area_g1.2.2.2.2.1 (by decide) ?_
  refine r_iconst (v := (1 : Int32)) hE dX11_area_g1.2.2.2.2.2.1 (by decide) ?_
  refine c_callVl hE hm [.int (0 : Int32), .int (1 : Int32)] [.long r8, .ref (G.1 800), .long r6, .ref (G.1 800)] ck_X11_126 (cr_wo hm rfl) (kc_wo_given h) (by decide) rfl rfl (Nat.le_of_ble_eq_true rfl) dX11_area_g1.2.2.2.2.2.2.1 (fun s9 r10 h => ?_)
  refine c_callVl hE hm [.long r8, .long r10] [.long r6, .ref (G.1 800)] ck_X11_226 (cr_rk hm rfl) (kc_rk_minus h) (by decide) rfl rfl (Nat.le_of_ble_eq_true rfl) dX11_area_g1.2.2.2.2.2.2.2.1 (fun s11 r12 h => ?_)
  refine c_callVl hE hm [.long r6, .long r12] [] ck_X11_236 (cr_rk hm rfl) (kc_rk_times h) (by decide) rfl rfl (Nat.le_of_ble_eq_true rfl) dX11_area_g1.2.2.2.2.2.2.2.2.1 (fun s13 r14 h => ?_)
  refine r_lstore_n hE [(1, .long r14), (0, .ref (G.1 1300))] dX11_area_g1.2.2.2.2.2.2.2.2.2.1 rfl hN (by decide) rfl ?_
  refine r_aload_n hE 1 dX11_area_g1.2.2.2.2.2.2.2.2.2.2.1 rfl rfl ?_
  refine cg_wo_reckoner hE hm fk_X11_36 dX11_area_g1.2.2.2.2.2.2.2.2.2.2.2.1 ?_
  refine r_aload_n hE 1 dX11_area_g1.2.2.2.2.2.2.2.2.2.2.2.2.1 rfl rfl ?_
  refine cg_wo_reckoner hE hm fk_X11_36 dX11_area_g1.2.2.2.2.2.2.2.2.2.2.2.2.2.1 ?_
  refine r_aload_n hE 1 dX11_area_g1.2.2.2.2.2.2.2.2.2.2.2.2.2.2.1 rfl rfl ?_
  refine r_iconst (v := (2 : Int32)) hE dX11_area_g1.2.2.2.2.2.2.2.2.2.2.2.2.2.2.2 (by decide) ?_
  refine r_iconst (v := (0 : Int32)) hE dX11_area_g2.1 (by decide) ?_
  refine c_callVl hE hm [.int (2 : Int32), .int (0 : Int32)] [.ref (G.1 800), .ref (G.1 800)] ck_X11_126 (cr_wo hm rfl) (kc_wo_given h) (by decide) rfl rfl (Nat.le_of_ble_eq_true rfl) dX11_area_g2.2.1 (fun s15 r16 h => ?_)
  refine r_aload_n hE 1 dX11_area_g2.2.2.1 rfl rfl ?_
  refine r_iconst (v := (0 : Int32)) hE dX11_area_g2.2.2.2.1 (by decide) ?_
  refine r_iconst (v := (0 : Int32)) hE dX11_area_g2.2.2.2.2.1 (by decide) ?_
  refine c_callVl hE hm [.int (0 : Int32), .int (0 : Int32)] [.long r16, .ref (G.1 800), .ref (G.1 800)] ck_X11_126 (cr_wo hm rfl) (kc_wo_given h) (by decide) rfl rfl (Nat.le_of_ble_eq_true rfl) dX11_area_g2.2.2.2.2.2.1 (fun s17 r18 h => ?_)
  refine c_callVl hE hm [.long r16, .long r18] [.ref (G.1 800)] ck_X11_226 (cr_rk hm rfl) (kc_rk_minus h) (by decide) rfl rfl (Nat.le_of_ble_eq_true rfl) dX11_area_g2.2.2.2.2.2.2.1 (fun s19 r20 h => ?_)
  refine r_aload_n hE 1 dX11_area_g2.2.2.2.2.2.2.2.1 rfl rfl ?_
  refine cg_wo_reckoner hE hm fk_X11_36 dX11_area_g2.2.2.2.2.2.2.2.2.1 ?_
  refine r_aload_n hE 1 dX11_area_g2.2.2.2.2.2.2.2.2.2.1 rfl rfl ?_
  refine r_iconst (v := (1 : Int32)) hE dX11_area_g2.2.2.2.2.2.2.2.2.2.2.1 (by decide) ?_
  refine r_iconst (v := (1 : Int32)) hE dX11_area_g2.2.2.2.2.2.2.2.2.2.2.2.1 (by decide) ?_
  refine c_callVl hE hm [.int (1 : Int32), .int (1 : Int32)] [.ref (G.1 800), .long r20, .ref (G.1 800)] ck_X11_126 (cr_wo hm rfl) (kc_wo_given h) (by decide) rfl rfl (Nat.le_of_ble_eq_true rfl) dX11_area_g2.2.2.2.2.2.2.2.2.2.2.2.2.1 (fun s21 r22 h => ?_)
  refine r_aload_n hE 1 dX11_area_g2.2.2.2.2.2.2.2.2.2.2.2.2.2.1 rfl rfl ?_
  refine r_iconst (v := (0 : Int32)) hE dX11_area_g2.2.2.2.2.2.2.2.2.2.2.2.2.2.2.1 (by decide) ?_
  refine r_iconst (v := (1 : Int32)) hE dX11_area_g2.2.2.2.2.2.2.2.2.2.2.2.2.2.2.2 (by decide) ?_
  refine c_callVl hE hm [.int (0 : Int32), .int (1 : Int32)] [.long r22, .ref (G.1 800), .long r20, .ref (G.1 800)] ck_X11_126 (cr_wo hm rfl) (kc_wo_given h) (by decide) rfl rfl (Nat.le_of_ble_eq_true rfl) dX11_area_g3.1 (fun s23 r24 h => ?_)
  refine c_callVl hE hm [.long r22, .long r24] [.long r20, .ref (G.1 800)] ck_X11_226 (cr_rk hm rfl) (kc_rk_minus h) (by decide) rfl rfl (Nat.le_of_ble_eq_true rfl) dX11_area_g3.2.1 (fun s25 r26 h => ?_)
  refine c_callVl hE hm [.long r20, .long r26] [] ck_X11_236 (cr_rk hm rfl) (kc_rk_times h) (by decide) rfl rfl (Nat.le_of_ble_eq_true rfl) dX11_area_g3.2.2.1 (fun s27 r28 h => ?_)
  refine r_lstore_n hE [(3, .long r28), (1, .long r14), (0, .ref (G.1 1300))] dX11_area_g3.2.2.2.1 rfl hN (by decide) rfl ?_
  refine r_aload_n hE 2 dX11_area_g3.2.2.2.2.1 rfl rfl ?_
  refine cg_wo_reckoner hE hm fk_X11_36 dX11_area_g3.2.2.2.2.2.1 ?_
  refine r_lload_n hE 1 dX11_area_g3.2.2.2.2.2.2.1 rfl rfl ?_
  refine r_lload_n hE 0 dX11_area_g3.2.2.2.2.2.2.2.1 rfl rfl ?_
  refine c_callVl hE hm [.long r14, .long r28] [] ck_X11_226 (cr_rk hm rfl) (kc_rk_minus h) (by decide) rfl rfl (Nat.le_of_ble_eq_true rfl) dX11_area_g3.2.2.2.2.2.2.2.2.1 (fun s29 r30 h => ?_)
  exact c_lret hE hm hF dX11_area_g3.2.2.2.2.2.2.2.2.2 h
