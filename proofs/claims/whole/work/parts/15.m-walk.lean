/-! dist -/
def wm_dist (post : MS → Prop) (σ : MS) (a1 : Int32) (a2 : Int32) : Prop := wm_part (fun (s1 : MS) => wm_part (fun (s2 : MS) => wm_less (fun (s3 : MS) => wm_part (fun (s4 : MS) => wm_part (fun (s5 : MS) => wm_less (fun (s6 : MS) => wm_times (fun (s7 : MS) => wm_part (fun (s8 : MS) => wm_part (fun (s9 : MS) => wm_less (fun (s10 : MS) => wm_part (fun (s11 : MS) => wm_part (fun (s12 : MS) => wm_less (fun (s13 : MS) => wm_times (fun (s14 : MS) => wm_plus (fun (s15 : MS) => post s15) s14) s13) s12) s11 a2 (1 : Int32)) s10 a1 (1 : Int32)) s9) s8 a2 (1 : Int32)) s7 a1 (1 : Int32)) s6) s5) s4 a2 (0 : Int32)) s3 a1 (0 : Int32)) s2) s1 a2 (0 : Int32)) σ a1 (0 : Int32)
set_option maxRecDepth 20000 in
theorem km_dist {l : Launch} {D : va_G} {cl : List vw_C} {G : gAd} {post : MS → Prop} (hcl : mC cl) {σ : MS} {a1 : Int32} {a2 : Int32} (h : wm_dist post σ a1 a2) : mMet l D cl G yX13_dist cX13_dist 3 none 4 [.ref (G.1 0), .int a1, .int a2] σ (qV post) := by
  unfold wm_dist at h
  refine m_enter hcl (by decide +kernel) rfl [(0, .ref (G.1 0)), (1, .int a1), (2, .int a2)] rfl (Nat.le_of_ble_eq_true rfl) ?_
  intro E hE hm
  have hN := hm.2.2.2.2.2.2.1
  refine r_aload_n hE 0 dX13_dist_0 rfl rfl ?_
  refine r_iload_n hE 1 dX13_dist_1 rfl rfl ?_
  refine r_iconst (v := (0 : Int32)) hE dX13_dist_2 (by decide) ?_
  refine m_callVv hE hm [.int a1, .int (0 : Int32)] [] mc_part (km_part hm.2.2.2.2.2.2.2.2 h) (by decide) rfl rfl (Nat.le_of_ble_eq_true rfl) dX13_dist_3 (fun s1 h => ?_)
  refine r_aload_n hE 0 dX13_dist_6 rfl rfl ?_
  refine r_iload_n hE 2 dX13_dist_7 rfl rfl ?_
  refine r_iconst (v := (0 : Int32)) hE dX13_dist_8 (by decide) ?_
  refine m_callVv hE hm [.int a2, .int (0 : Int32)] [] mc_part (km_part hm.2.2.2.2.2.2.2.2 h) (by decide) rfl rfl (Nat.le_of_ble_eq_true rfl) dX13_dist_9 (fun s2 h => ?_)
  refine r_aload_n hE 0 dX13_dist_12 rfl rfl ?_
  refine m_callVv hE hm [] [] mc_less (km_less hm.2.2.2.2.2.2.2.2 h) (by decide) rfl rfl (Nat.le_of_ble_eq_true rfl) dX13_dist_13 (fun s3 h => ?_)
  refine r_aload_n hE 0 dX13_dist_16 rfl rfl ?_
  refine r_iload_n hE 1 dX13_dist_17 rfl rfl ?_
  refine r_iconst (v := (0 : Int32)) hE dX13_dist_18 (by decide) ?_
  refine m_callVv hE hm [.int a1, .int (0 : Int32)] [] mc_part (km_part hm.2.2.2.2.2.2.2.2 h) (by decide) rfl rfl (Nat.le_of_ble_eq_true rfl) dX13_dist_19 (fun s4 h => ?_)
  refine r_aload_n hE 0 dX13_dist_22 rfl rfl ?_
  refine r_iload_n hE 2 dX13_dist_23 rfl rfl ?_
  refine r_iconst (v := (0 : Int32)) hE dX13_dist_24 (by decide) ?_
  refine m_callVv hE hm [.int a2, .int (0 : Int32)] [] mc_part (km_part hm.2.2.2.2.2.2.2.2 h) (by decide) rfl rfl (Nat.le_of_ble_eq_true rfl) dX13_dist_25 (fun s5 h => ?_)
  refine r_aload_n hE 0 dX13_dist_28 rfl rfl ?_
  refine m_callVv hE hm [] [] mc_less (km_less hm.2.2.2.2.2.2.2.2 h) (by decide) rfl rfl (Nat.le_of_ble_eq_true rfl) dX13_dist_29 (fun s6 h => ?_)
  refine r_aload_n hE 0 dX13_dist_32 rfl rfl ?_
  refine m_callVv hE hm [] [] mc_times (km_times hm.2.2.2.2.2.2.2.2 h) (by decide) rfl rfl (Nat.le_of_ble_eq_true rfl) dX13_dist_33 (fun s7 h => ?_)
  refine r_aload_n hE 0 dX13_dist_36 rfl rfl ?_
  refine r_iload_n hE 1 dX13_dist_37 rfl rfl ?_
  refine r_iconst (v := (1 : Int32)) hE dX13_dist_38 (by decide) ?_
  refine m_callVv hE hm [.int a1, .int (1 : Int32)] [] mc_part (km_part hm.2.2.2.2.2.2.2.2 h) (by decide) rfl rfl (Nat.le_of_ble_eq_true rfl) dX13_dist_39 (fun s8 h => ?_)
  refine r_aload_n hE 0 dX13_dist_42 rfl rfl ?_
  refine r_iload_n hE 2 dX13_dist_43 rfl rfl ?_
  refine r_iconst (v := (1 : Int32)) hE dX13_dist_44 (by decide) ?_
  refine m_callVv hE hm [.int a2, .int (1 : Int32)] [] mc_part (km_part hm.2.2.2.2.2.2.2.2 h) (by decide) rfl rfl (Nat.le_of_ble_eq_true rfl) dX13_dist_45 (fun s9 h => ?_)
  refine r_aload_n hE 0 dX13_dist_48 rfl rfl ?_
  refine m_callVv hE hm [] [] mc_less (km_less hm.2.2.2.2.2.2.2.2 h) (by decide) rfl rfl (Nat.le_of_ble_eq_true rfl) dX13_dist_49 (fun s10 h => ?_)
  refine r_aload_n hE 0 dX13_dist_52 rfl rfl ?_
  refine r_iload_n hE 1 dX13_dist_53 rfl rfl ?_
  refine r_iconst (v := (1 : Int32)) hE dX13_dist_54 (by decide) ?_
  refine m_callVv hE hm [.int a1, .int (1 : Int32)] [] mc_part (km_part hm.2.2.2.2.2.2.2.2 h) (by decide) rfl rfl (Nat.le_of_ble_eq_true rfl) dX13_dist_55 (fun s11 h => ?_)
  refine r_aload_n hE 0 dX13_dist_58 rfl rfl ?_
  refine r_iload_n hE 2 dX13_dist_59 rfl rfl ?_
  refine r_iconst (v := (1 : Int32)) hE dX13_dist_60 (by decide) ?_
  refine m_callVv hE hm [.int a2, .int (1 : Int32)] [] mc_part (km_part hm.2.2.2.2.2.2.2.2 h) (by decide) rfl rfl (Nat.le_of_ble_eq_true rfl) dX13_dist_61 (fun s12 h => ?_)
  refine r_aload_n hE 0 dX13_dist_64 rfl rfl ?_
  refine m_callVv hE hm [] [] mc_less (km_less hm.2.2.2.2.2.2.2.2 h) (by decide) rfl rfl (Nat.le_of_ble_eq_true rfl) dX13_dist_65 (fun s13 h => ?_)
  refine r_aload_n hE 0 dX13_dist_68 rfl rfl ?_
  refine m_callVv hE hm [] [] mc_times (km_times hm.2.2.2.2.2.2.2.2 h) (by decide) rfl rfl (Nat.le_of_ble_eq_true rfl) dX13_dist_69 (fun s14 h => ?_)
  refine r_aload_n hE 0 dX13_dist_72 rfl rfl ?_
  refine m_callVv hE hm [] [] mc_plus (km_plus hm.2.2.2.2.2.2.2.2 h) (by decide) rfl rfl (Nat.le_of_ble_eq_true rfl) dX13_dist_73 (fun s15 h => ?_)
  exact m_vret hE hm dX13_dist_76 h
/-! area -/
def wm_area (post : MS → Prop) (σ : MS) (a1 : Int32) (a2 : Int32) (a3 : Int32) : Prop := wm_part (fun (s1 : MS) => wm_part (fun (s2 : MS) => wm_less (fun (s3 : MS) => wm_part (fun (s4 : MS) => wm_part (fun (s5 : MS) => wm_less (fun (s6 : MS) => wm_times (fun (s7 : MS) => wm_part (fun (s8 : MS) => wm_part (fun (s9 : MS) => wm_less (fun (s10 : MS) => wm_part (fun (s11 : MS) => wm_part (fun (s12 : MS) => wm_less (fun (s13 : MS) => wm_times (fun (s14 : MS) => wm_less (fun (s15 : MS) => post s15) s14) s13) s12) s11 a1 (1 : Int32)) s10 a2 (1 : Int32)) s9) s8 a1 (0 : Int32)) s7 a3 (0 : Int32)) s6) s5) s4 a1 (1 : Int32)) s3 a3 (1 : Int32)) s2) s1 a1 (0 : Int32)) σ a2 (0 : Int32)
set_option maxRecDepth 20000 in
theorem km_area {l : Launch} {D : va_G} {cl : List vw_C} {G : gAd} {post : MS → Prop} (hcl : mC cl) {σ : MS} {a1 : Int32} {a2 : Int32} {a3 : Int32} (h : wm_area post σ a1 a2 a3) : mMet l D cl G yX13_area cX13_area 4 none 4 [.ref (G.1 0), .int a1, .int a2, .int a3] σ (qV post) := by
  unfold wm_area at h
  refine m_enter hcl (by decide +kernel) rfl [(0, .ref (G.1 0)), (1, .int a1), (2, .int a2), (3, .int a3)] rfl (Nat.le_of_ble_eq_true rfl) ?_
  intro E hE hm
  have hN := hm.2.2.2.2.2.2.1
  refine r_aload_n hE 0 dX13_area_0 rfl rfl ?_
  refine r_iload_n hE 2 dX13_area_1 rfl rfl ?_
  refine r_iconst (v := (0 : Int32)) hE dX13_area_2 (by decide) ?_
  refine m_callVv hE hm [.int a2, .int (0 : Int32)] [] mc_part (km_part hm.2.2.2.2.2.2.2.2 h) (by decide) rfl rfl (Nat.le_of_ble_eq_true rfl) dX13_area_3 (fun s1 h => ?_)
  refine r_aload_n hE 0 dX13_area_6 rfl rfl ?_
  refine r_iload_n hE 1 dX13_area_7 rfl rfl ?_
  refine r_iconst (v := (0 : Int32)) hE dX13_area_8 (by decide) ?_
  refine m_callVv hE hm [.int a1, .int (0 : Int32)] [] mc_part (km_part hm.2.2.2.2.2.2.2.2 h) (by decide) rfl rfl (Nat.le_of_ble_eq_true rfl) dX13_area_9 (fun s2 h => ?_)
  refine r_aload_n hE 0 dX13_area_12 rfl rfl ?_
  refine m_callVv hE hm [] [] mc_less (km_less hm.2.2.2.2.2.2.2.2 h) (by decide) rfl rfl (Nat.le_of_ble_eq_true rfl) dX13_area_13 (fun s3 h => ?_)
  refine r_aload_n hE 0 dX13_area_16 rfl rfl ?_
  refine r_iload_n hE 3 dX13_area_17 rfl rfl ?_
  refine r_iconst (v := (1 : Int32)) hE dX13_area_18 (by decide) ?_
  refine m_callVv hE hm [.int a3, .int (1 : Int32)] [] mc_part (km_part hm.2.2.2.2.2.2.2.2 h) (by decide) rfl rfl (Nat.le_of_ble_eq_true rfl) dX13_area_19 (fun s4 h => ?_)
  refine r_aload_n hE 0 dX13_area_22 rfl rfl ?_
  refine r_iload_n hE 1 dX13_area_23 rfl rfl ?_
  refine r_iconst (v := (1 : Int32)) hE dX13_area_24 (by decide) ?_
  refine m_callVv hE hm [.int a1, .int (1 : Int32)] [] mc_part (km_part hm.2.2.2.2.2.2.2.2 h) (by decide) rfl rfl (Nat.le_of_ble_eq_true rfl) dX13_area_25 (fun s5 h => ?_)
  refine r_aload_n hE 0 dX13_area_28 rfl rfl ?_
  refine m_callVv hE hm [] [] mc_less (km_less hm.2.2.2.2.2.2.2.2 h) (by decide) rfl rfl (Nat.le_of_ble_eq_true rfl) dX13_area_29 (fun s6 h => ?_)
  refine r_aload_n hE 0 dX13_area_32 rfl rfl ?_
  refine m_callVv hE hm [] [] mc_times (km_times hm.2.2.2.2.2.2.2.2 h) (by decide) rfl rfl (Nat.le_of_ble_eq_true rfl) dX13_area_33 (fun s7 h => ?_)
  refine r_aload_n hE 0 dX13_area_36 rfl rfl ?_
  refine r_iload_n hE 3 dX13_area_37 rfl rfl ?_
  refine r_iconst (v := (0 : Int32)) hE dX13_area_38 (by decide) ?_
  refine m_callVv hE hm [.int a3, .int (0 : Int32)] [] mc_part (km_part hm.2.2.2.2.2.2.2.2 h) (by decide) rfl rfl (Nat.le_of_ble_eq_true rfl) dX13_area_39 (fun s8 h => ?_)
  refine r_aload_n hE 0 dX13_area_42 rfl rfl ?_
  refine r_iload_n hE 1 dX13_area_43 rfl rfl ?_
  refine r_iconst (v := (0 : Int32)) hE dX13_area_44 (by decide) ?_
  refine m_callVv hE hm [.int a1, .int (0 : Int32)] [] mc_part (km_part hm.2.2.2.2.2.2.2.2 h) (by decide) rfl rfl (Nat.le_of_ble_eq_true rfl) dX13_area_45 (fun s9 h => ?_)
  refine r_aload_n hE 0 dX13_area_48 rfl rfl ?_
  refine m_callVv hE hm [] [] mc_less (km_less hm.2.2.2.2.2.2.2.2 h) (by decide) rfl rfl (Nat.le_of_ble_eq_true rfl) dX13_area_49 (fun s10 h => ?_)
  refine r_aload_n hE 0 dX13_area_52 rfl rfl ?_
  refine r_iload_n hE 2 dX13_area_53 rfl rfl ?_
  refine r_iconst (v := (1 : Int32)) hE dX13_area_54 (by decide) ?_
  refine m_callVv hE hm [.int a2, .int (1 : Int32)] [] mc_part (km_part hm.2.2.2.2.2.2.2.2 h) (by decide) rfl rfl (Nat.le_of_ble_eq_true rfl) dX13_area_55 (fun s11 h => ?_)
  refine r_aload_n hE 0 dX13_area_58 rfl rfl ?_
  refine r_iload_n hE 1 dX13_area_59 rfl rfl ?_
  refine r_iconst (v := (1 : Int32)) hE dX13_area_60 (by decide) ?_
  refine m_callVv hE hm [.int a1, .int (1 : Int32)] [] mc_part (km_part hm.2.2.2.2.2.2.2.2 h) (by decide) rfl rfl (Nat.le_of_ble_eq_true rfl) dX13_area_61 (fun s12 h => ?_)
  refine r_aload_n hE 0 dX13_area_64 rfl rfl ?_
  refine m_callVv hE hm [] [] mc_less (km_less hm.2.2.2.2.2.2.2.2 h) (by decide) rfl rfl (Nat.le_of_ble_eq_true rfl) dX13_area_65 (fun s13 h => ?_)
  refine r_aload_n hE 0 dX13_area_68 rfl rfl ?_
  refine m_callVv hE hm [] [] mc_times (km_times hm.2.2.2.2.2.2.2.2 h) (by decide) rfl rfl (Nat.le_of_ble_eq_true rfl) dX13_area_69 (fun s14 h => ?_)
  refine r_aload_n hE 0 dX13_area_72 rfl rfl ?_
  refine m_callVv hE hm [] [] mc_less (km_less hm.2.2.2.2.2.2.2.2 h) (by decide) rfl rfl (Nat.le_of_ble_eq_true rfl) dX13_area_73 (fun s15 h => ?_)
  exact m_vret hE hm dX13_area_76 h
/-! circle -/
def wm_circle (post : MS → Int32 → Prop) (σ : MS) (a1 : Int32) : Prop := wm_newThing (fun (s1 : MS) (r2 : Int32) => wm_keep (fun (s3 : MS) => wm_part (fun (s4 : MS) => wm_keep (fun (s5 : MS) => wm_part (fun (s6 : MS) => wm_keep (fun (s7 : MS) => post s7 r2) s6 r2 (1 : Int32)) s5 a1 (1 : Int32)) s4 r2 (0 : Int32)) s3 a1 (0 : Int32)) s1 r2 (2 : Int32)) σ (5 : Int32)
set_option maxRecDepth 20000 in
theorem km_circle {l : Launch} {D : va_G} {cl : List vw_C} {G : gAd} {post : MS → Int32 → Prop} (hcl : mC cl) {σ : MS} {a1 : Int32} (h : wm_circle post σ a1) : mMet l D cl G yX13_circle cX13_circle 3 (some .int) 3 [.ref (G.1 0), .int a1] σ (qI post) := by
  unfold wm_circle at h
  refine m_enter hcl (by decide +kernel) rfl [(0, .ref (G.1 0)), (1, .int a1)] rfl (Nat.le_of_ble_eq_true rfl) ?_
  intro E hE hm
  have hN := hm.2.2.2.2.2.2.1
  refine r_aload_n hE 0 dX13_circle_0 rfl rfl ?_
  refine r_iconst (v := (5 : Int32)) hE dX13_circle_1 (by decide) ?_
  refine m_callVi hE hm [.int (5 : Int32)] [] mc_newThing (km_newThing hm.2.2.2.2.2.2.2.2 h) (by decide) rfl rfl (Nat.le_of_ble_eq_true rfl) dX13_circle_2 (fun s1 r2 h => ?_)
  refine r_istore_n hE [(2, .int r2), (0, .ref (G.1 0)), (1, .int a1)] dX13_circle_5 rfl hN (by decide) rfl ?_
  refine r_aload_n hE 1 dX13_circle_6 rfl rfl ?_
  refine r_iload_n hE 0 dX13_circle_7 rfl rfl ?_
  refine r_iconst (v := (2 : Int32)) hE dX13_circle_8 (by decide) ?_
  refine m_callVv hE hm [.int r2, .int (2 : Int32)] [] mc_keep (km_keep hm.2.2.2.2.2.2.2.2 h) (by decide) rfl rfl (Nat.le_of_ble_eq_true rfl) dX13_circle_9 (fun s3 h => ?_)
  refine r_aload_n hE 1 dX13_circle_12 rfl rfl ?_
  refine r_iload_n hE 2 dX13_circle_13 rfl rfl ?_
  refine r_iconst (v := (0 : Int32)) hE dX13_circle_14 (by decide) ?_
  refine m_callVv hE hm [.int a1, .int (0 : Int32)] [] mc_part (km_part hm.2.2.2.2.2.2.2.2 h) (by decide) rfl rfl (Nat.le_of_ble_eq_true rfl) dX13_circle_15 (fun s4 h => ?_)
  refine r_aload_n hE 1 dX13_circle_18 rfl rfl ?_
  refine r_iload_n hE 0 dX13_circle_19 rfl rfl ?_
  refine r_iconst (v := (0 : Int32)) hE dX13_circle_20 (by decide) ?_
  refine m_callVv hE hm [.int r2, .int (0 : Int32)] [] mc_keep (km_keep hm.2.2.2.2.2.2.2.2 h) (by decide) rfl rfl (Nat.le_of_ble_eq_true rfl) dX13_circle_21 (fun s5 h => ?_)
  refine r_aload_n hE 1 dX13_circle_24 rfl rfl ?_
  refine r_iload_n hE 2 dX13_circle_25 rfl rfl ?_
  refine r_iconst (v := (1 : Int32)) hE dX13_circle_26 (by decide) ?_
  refine m_callVv hE hm [.int a1, .int (1 : Int32)] [] mc_part (km_part hm.2.2.2.2.2.2.2.2 h) (by decide) rfl rfl (Nat.le_of_ble_eq_true rfl) dX13_circle_27 (fun s6 h => ?_)
  refine r_aload_n hE 1 dX13_circle_30 rfl rfl ?_
  refine r_iload_n hE 0 dX13_circle_31 rfl rfl ?_
  refine r_iconst (v := (1 : Int32)) hE dX13_circle_32 (by decide) ?_
  refine m_callVv hE hm [.int r2, .int (1 : Int32)] [] mc_keep (km_keep hm.2.2.2.2.2.2.2.2 h) (by decide) rfl rfl (Nat.le_of_ble_eq_true rfl) dX13_circle_33 (fun s7 h => ?_)
  refine r_iload_n hE 0 dX13_circle_36 rfl rfl ?_
  exact m_iret hE hm dX13_circle_37 h
/-! centre -/
def wm_centre (post : MS → Int32 → Prop) (σ : MS) (a1 : Int32) : Prop := wm_newThing (fun (s1 : MS) (r2 : Int32) => wm_part (fun (s3 : MS) => wm_keep (fun (s4 : MS) => wm_part (fun (s5 : MS) => wm_keep (fun (s6 : MS) => post s6 r2) s5 r2 (1 : Int32)) s4 a1 (1 : Int32)) s3 r2 (0 : Int32)) s1 a1 (0 : Int32)) σ (1 : Int32)
set_option maxRecDepth 20000 in
theorem km_centre {l : Launch} {D : va_G} {cl : List vw_C} {G : gAd} {post : MS → Int32 → Prop} (hcl : mC cl) {σ : MS} {a1 : Int32} (h : wm_centre post σ a1) : mMet l D cl G yX13_centre cX13_centre 3 (some .int) 3 [.ref (G.1 0), .int a1] σ (qI post) := by
  unfold wm_centre at h
  refine m_enter hcl (by decide +kernel) rfl [(0, .ref (G.1 0)), (1, .int a1)] rfl (Nat.le_of_ble_eq_true rfl) ?_
  intro E hE hm
  have hN := hm.2.2.2.2.2.2.1
  refine r_aload_n hE 0 dX13_centre_0 rfl rfl ?_
  refine r_iconst (v := (1 : Int32)) hE dX13_centre_1 (by decide) ?_
  refine m_callVi hE hm [.int (1 : Int32)] [] mc_newThing (km_newThing hm.2.2.2.2.2.2.2.2 h) (by decide) rfl rfl (Nat.le_of_ble_eq_true rfl) dX13_centre_2 (fun s1 r2 h => ?_)
  refine r_istore_n hE [(2, .int r2), (0, .ref (G.1 0)), (1, .int a1)] dX13_centre_5 rfl hN (by decide) rfl ?_
  refine r_aload_n hE 1 dX13_centre_6 rfl rfl ?_
  refine r_iload_n hE 2 dX13_centre_7 rfl rfl ?_
  refine r_iconst (v := (0 : Int32)) hE dX13_centre_8 (by decide) ?_
  refine m_callVv hE hm [.int a1, .int (0 : Int32)] [] mc_part (km_part hm.2.2.2.2.2.2.2.2 h) (by decide) rfl rfl (Nat.le_of_ble_eq_true rfl) dX13_centre_9 (fun s3 h => ?_)
  refine r_aload_n hE 1 dX13_centre_12 rfl rfl ?_
  refine r_iload_n hE 0 dX13_centre_13 rfl rfl ?_
  refine r_iconst (v := (0 : Int32)) hE dX13_centre_14 (by decide) ?_
  refine m_callVv hE hm [.int r2, .int (0 : Int32)] [] mc_keep (km_keep hm.2.2.2.2.2.2.2.2 h) (by decide) rfl rfl (Nat.le_of_ble_eq_true rfl) dX13_centre_15 (fun s4 h => ?_)
  refine r_aload_n hE 1 dX13_centre_18 rfl rfl ?_
  refine r_iload_n hE 2 dX13_centre_19 rfl rfl ?_
  refine r_iconst (v := (1 : Int32)) hE dX13_centre_20 (by decide) ?_
  refine m_callVv hE hm [.int a1, .int (1 : Int32)] [] mc_part (km_part hm.2.2.2.2.2.2.2.2 h) (by decide) rfl rfl (Nat.le_of_ble_eq_true rfl) dX13_centre_21 (fun s5 h => ?_)
  refine r_aload_n hE 1 dX13_centre_24 rfl rfl ?_
  refine r_iload_n hE 0 dX13_centre_25 rfl rfl ?_
  refine r_iconst (v := (1 : Int32)) hE dX13_centre_26 (by decide) ?_
  refine m_callVv hE hm [.int r2, .int (1 : Int32)] [] mc_keep (km_keep hm.2.2.2.2.2.2.2.2 h) (by decide) rfl rfl (Nat.le_of_ble_eq_true rfl) dX13_centre_27 (fun s6 h => ?_)
  refine r_iload_n hE 0 dX13_centre_30 rfl rfl ?_
  exact m_iret hE hm dX13_centre_31 h
/-! ring -/
def wm_ring (post : MS → Int32 → Prop) (σ : MS) (a1 : Int32) (a2 : Int32) (a3 : Int32) : Prop := wm_mid (fun (s1 : MS) (r2 : Int32) => wm_line (fun (s3 : MS) (r4 : Int32) => wm_perp (fun (s5 : MS) (r6 : Int32) => wm_mid (fun (s7 : MS) (r8 : Int32) => wm_line (fun (s9 : MS) (r10 : Int32) => wm_perp (fun (s11 : MS) (r12 : Int32) => wm_meet (fun (s13 : MS) (r14 : Int32) => wm_dist (fun (s15 : MS) => wm_circle (fun (s16 : MS) (r17 : Int32) => post s16 r17) s15 r14) s13 r14 a1) s11 r6 r12) s9 r8 r10) s7 a1 a3 (3 : Int32)) s5 a1 a3) s3 r2 r4) s1 a1 a2 (3 : Int32)) σ a1 a2
set_option maxRecDepth 20000 in
theorem km_ring {l : Launch} {D : va_G} {cl : List vw_C} {G : gAd} {post : MS → Int32 → Prop} (hcl : mC cl) {σ : MS} {a1 : Int32} {a2 : Int32} {a3 : Int32} (h : wm_ring post σ a1 a2 a3) : mMet l D cl G yX13_ring cX13_ring 9 (some .int) 6 [.ref (G.1 0), .int a1, .int a2, .int a3] σ (qI post) := by
  unfold wm_ring at h
  refine m_enter hcl (by decide +kernel) rfl [(0, .ref (G.1 0)), (1, .int a1), (2, .int a2), (3, .int a3)] rfl (Nat.le_of_ble_eq_true rfl) ?_
  intro E hE hm
  have hN := hm.2.2.2.2.2.2.1
  refine r_aload_n hE 0 dX13_ring_0 rfl rfl ?_
  refine r_iload_n hE 1 dX13_ring_1 rfl rfl ?_
  refine r_iload_n hE 2 dX13_ring_2 rfl rfl ?_
  refine m_callVi hE hm [.int a1, .int a2] [] mc_mid (km_mid hm.2.2.2.2.2.2.2.2 h) (by decide) rfl rfl (Nat.le_of_ble_eq_true rfl) dX13_ring_3 (fun s1 r2 h => ?_)
  refine r_istore hE [(4, .int r2), (0, .ref (G.1 0)), (1, .int a1), (2, .int a2), (3, .int a3)] dX13_ring_6 hN (by decide) rfl ?_
  refine r_aload_n hE 1 dX13_ring_8 rfl rfl ?_
  refine r_iload hE 0 dX13_ring_9 rfl ?_
  refine r_aload_n hE 1 dX13_ring_11 rfl rfl ?_
  refine r_iload_n hE 2 dX13_ring_12 rfl rfl ?_
  refine r_iload_n hE 3 dX13_ring_13 rfl rfl ?_
  refine r_iconst (v := (3 : Int32)) hE dX13_ring_14 (by decide) ?_
  refine m_callVi hE hm [.int a1, .int a2, .int (3 : Int32)] [.int r2, .ref (G.1 0)] mc_line (km_line hm.2.2.2.2.2.2.2.2 h) (by decide) rfl rfl (Nat.le_of_ble_eq_true rfl) dX13_ring_15 (fun s3 r4 h => ?_)
  refine m_callVi hE hm [.int r2, .int r4] [] mc_perp (km_perp hm.2.2.2.2.2.2.2.2 h) (by decide) rfl rfl (Nat.le_of_ble_eq_true rfl) dX13_ring_18 (fun s5 r6 h => ?_)
  refine r_istore hE [(5, .int r6), (4, .int r2), (0, .ref (G.1 0)), (1, .int a1), (2, .int a2), (3, .int a3)] dX13_ring_21 hN (by decide) rfl ?_
  refine r_aload_n hE 2 dX13_ring_23 rfl rfl ?_
  refine r_iload_n hE 3 dX13_ring_24 rfl rfl ?_
  refine r_iload_n hE 5 dX13_ring_25 rfl rfl ?_
  refine m_callVi hE hm [.int a1, .int a3] [] mc_mid (km_mid hm.2.2.2.2.2.2.2.2 h) (by decide) rfl rfl (Nat.le_of_ble_eq_true rfl) dX13_ring_26 (fun s7 r8 h => ?_)
  refine r_istore hE [(6, .int r8), (5, .int r6), (4, .int r2), (0, .ref (G.1 0)), (1, .int a1), (2, .int a2), (3, .int a3)] dX13_ring_29 hN (by decide) rfl ?_
  refine r_aload_n hE 3 dX13_ring_31 rfl rfl ?_
  refine r_iload hE 0 dX13_ring_32 rfl ?_
  refine r_aload_n hE 3 dX13_ring_34 rfl rfl ?_
  refine r_iload_n hE 4 dX13_ring_35 rfl rfl ?_
  refine r_iload_n hE 6 dX13_ring_36 rfl rfl ?_
  refine r_iconst (v := (3 : Int32)) hE dX13_ring_37 (by decide) ?_
  refine m_callVi hE hm [.int a1, .int a3, .int (3 : Int32)] [.int r8, .ref (G.1 0)] mc_line (km_line hm.2.2.2.2.2.2.2.2 h) (by decide) rfl rfl (Nat.le_of_ble_eq_true rfl) dX13_ring_38 (fun s9 r10 h => ?_)
  refine m_callVi hE hm [.int r8, .int r10] [] mc_perp (km_perp hm.2.2.2.2.2.2.2.2 h) (by decide) rfl rfl (Nat.le_of_ble_eq_true rfl) dX13_ring_41 (fun s11 r12 h => ?_)
  refine r_istore hE [(7, .int r12), (6, .int r8), (5, .int r6), (4, .int r2), (0, .ref (G.1 0)), (1, .int a1), (2, .int a2), (3, .int a3)] dX13_ring_44 hN (by decide) rfl ?_
  refine r_aload_n hE 4 dX13_ring_46 rfl rfl ?_
  refine r_iload hE 2 dX13_ring_47 rfl ?_
  refine r_iload hE 0 dX13_ring_49 rfl ?_
  refine m_callVi hE hm [.int r6, .int r12] [] mc_meet (km_meet hm.2.2.2.2.2.2.2.2 h) (by decide) rfl rfl (Nat.le_of_ble_eq_true rfl) dX13_ring_51 (fun s13 r14 h => ?_)
  refine r_istore hE [(8, .int r14), (7, .int r12), (6, .int r8), (5, .int r6), (4, .int r2), (0, .ref (G.1 0)), (1, .int a1), (2, .int a2), (3, .int a3)] dX13_ring_54 hN (by decide) rfl ?_
  refine r_aload_n hE 5 dX13_ring_56 rfl rfl ?_
  refine r_iload hE 0 dX13_ring_57 rfl ?_
  refine r_iload_n hE 6 dX13_ring_59 rfl rfl ?_
  refine m_callVv hE hm [.int r14, .int a1] [] mc_dist (km_dist hm.2.2.2.2.2.2.2.2 h) (by decide) rfl rfl (Nat.le_of_ble_eq_true rfl) dX13_ring_60 (fun s15 h => ?_)
  refine r_aload_n hE 5 dX13_ring_63 rfl rfl ?_
  refine r_iload hE 0 dX13_ring_64 rfl ?_
  refine m_callVi hE hm [.int r14] [] mc_circle (km_circle hm.2.2.2.2.2.2.2.2 h) (by decide) rfl rfl (Nat.le_of_ble_eq_true rfl) dX13_ring_66 (fun s16 r17 h => ?_)
  exact m_iret hE hm dX13_ring_69 h
/-! endOf -/
def wm_endOf (post : MS → Int32 → Prop) (σ : MS) (a1 : Int32) (a2 : Int32) : Prop := wm_newThing (fun (s1 : MS) (r2 : Int32) => wm_part (fun (s3 : MS) => wm_keep (fun (s4 : MS) => wm_part (fun (s5 : MS) => wm_keep (fun (s6 : MS) => post s6 r2) s5 r2 (1 : Int32)) s4 a1 ((4 : Int32) + ((2 : Int32) * a2))) s3 r2 (0 : Int32)) s1 a1 ((3 : Int32) + ((2 : Int32) * a2))) σ (1 : Int32)
set_option maxRecDepth 20000 in
theorem km_endOf {l : Launch} {D : va_G} {cl : List vw_C} {G : gAd} {post : MS → Int32 → Prop} (hcl : mC cl) {σ : MS} {a1 : Int32} {a2 : Int32} (h : wm_endOf post σ a1 a2) : mMet l D cl G yX13_endOf cX13_endOf 4 (some .int) 3 [.ref (G.1 0), .int a1, .int a2] σ (qI post) := by
  unfold wm_endOf at h
  refine m_enter hcl (by decide +kernel) rfl [(0, .ref (G.1 0)), (1, .int a1), (2, .int a2)] rfl (Nat.le_of_ble_eq_true rfl) ?_
  intro E hE hm
  have hN := hm.2.2.2.2.2.2.1
  refine r_aload_n hE 0 dX13_endOf_0 rfl rfl ?_
  refine r_iconst (v := (1 : Int32)) hE dX13_endOf_1 (by decide) ?_
  refine m_callVi hE hm [.int (1 : Int32)] [] mc_newThing (km_newThing hm.2.2.2.2.2.2.2.2 h) (by decide) rfl rfl (Nat.le_of_ble_eq_true rfl) dX13_endOf_2 (fun s1 r2 h => ?_)
  refine r_istore_n hE [(3, .int r2), (0, .ref (G.1 0)), (1, .int a1), (2, .int a2)] dX13_endOf_5 rfl hN (by decide) rfl ?_
  refine r_aload_n hE 1 dX13_endOf_6 rfl rfl ?_
  refine r_iload_n hE 2 dX13_endOf_7 rfl rfl ?_
  refine r_iconst (v := (3 : Int32)) hE dX13_endOf_8 (by decide) ?_
  refine r_iconst (v := (2 : Int32)) hE dX13_endOf_9 (by decide) ?_
  refine r_iload_n hE 3 dX13_endOf_10 rfl rfl ?_
  refine r_imul hE dX13_endOf_11 ?_
  refine r_iadd hE dX13_endOf_12 ?_
  refine m_callVv hE hm [.int a1, .int ((3 : Int32) + ((2 : Int32) * a2))] [] mc_part (km_part hm.2.2.2.2.2.2.2.2 h) (by decide) rfl rfl (Nat.le_of_ble_eq_true rfl) dX13_endOf_13 (fun s3 h => ?_)
  refine r_aload_n hE 1 dX13_endOf_16 rfl rfl ?_
  refine r_iload_n hE 0 dX13_endOf_17 rfl rfl ?_
  refine r_iconst (v := (0 : Int32)) hE dX13_endOf_18 (by decide) ?_
  refine m_callVv hE hm [.int r2, .int (0 : Int32)] [] mc_keep (km_keep hm.2.2.2.2.2.2.2.2 h) (by decide) rfl rfl (Nat.le_of_ble_eq_true rfl) dX13_endOf_19 (fun s4 h => ?_)
  refine r_aload_n hE 1 dX13_endOf_22 rfl rfl ?_
  refine r_iload_n hE 2 dX13_endOf_23 rfl rfl ?_
  refine r_iconst (v := (4 : Int32)) hE dX13_endOf_24 (by decide) ?_
  refine r_iconst (v := (2 : Int32)) hE dX13_endOf_25 (by decide) ?_
  refine r_iload_n hE 3 dX13_endOf_26 rfl rfl ?_
  refine r_imul hE dX13_endOf_27 ?_
  refine r_iadd hE dX13_endOf_28 ?_
  refine m_callVv hE hm [.int a1, .int ((4 : Int32) + ((2 : Int32) * a2))] [] mc_part (km_part hm.2.2.2.2.2.2.2.2 h) (by decide) rfl rfl (Nat.le_of_ble_eq_true rfl) dX13_endOf_29 (fun s5 h => ?_)
  refine r_aload_n hE 1 dX13_endOf_32 rfl rfl ?_
  refine r_iload_n hE 0 dX13_endOf_33 rfl rfl ?_
  refine r_iconst (v := (1 : Int32)) hE dX13_endOf_34 (by decide) ?_
  refine m_callVv hE hm [.int r2, .int (1 : Int32)] [] mc_keep (km_keep hm.2.2.2.2.2.2.2.2 h) (by decide) rfl rfl (Nat.le_of_ble_eq_true rfl) dX13_endOf_35 (fun s6 h => ?_)
  refine r_iload_n hE 0 dX13_endOf_38 rfl rfl ?_
  exact m_iret hE hm dX13_endOf_39 h
/-! half -/
def wm_half (post : MS → Int32 → Prop) (σ : MS) (a1 : Int32) : Prop := wm_endOf (fun (s1 : MS) (r2 : Int32) => wm_endOf (fun (s3 : MS) (r4 : Int32) => wm_mid (fun (s5 : MS) (r6 : Int32) => wm_perp (fun (s7 : MS) (r8 : Int32) => post s7 r8) s5 r6 a1) s3 r2 r4) s1 a1 (1 : Int32)) σ a1 (0 : Int32)
set_option maxRecDepth 20000 in
theorem km_half {l : Launch} {D : va_G} {cl : List vw_C} {G : gAd} {post : MS → Int32 → Prop} (hcl : mC cl) {σ : MS} {a1 : Int32} (h : wm_half post σ a1) : mMet l D cl G yX13_half cX13_half 2 (some .int) 6 [.ref (G.1 0), .int a1] σ (qI post) := by
  unfold wm_half at h
  refine m_enter hcl (by decide +kernel) rfl [(0, .ref (G.1 0)), (1, .int a1)] rfl (Nat.le_of_ble_eq_true rfl) ?_
  intro E hE hm
  have hN := hm.2.2.2.2.2.2.1
  refine r_aload_n hE 0 dX13_half_0 rfl rfl ?_
  refine r_aload_n hE 0 dX13_half_1 rfl rfl ?_
  refine r_aload_n hE 0 dX13_half_2 rfl rfl ?_
  refine r_iload_n hE 1 dX13_half_3 rfl rfl ?_
  refine r_iconst (v := (0 : Int32)) hE dX13_half_4 (by decide) ?_
  refine m_callVi hE hm [.int a1, .int (0 : Int32)] [.ref (G.1 0), .ref (G.1 0)] mc_endOf (km_endOf hm.2.2.2.2.2.2.2.2 h) (by decide) rfl rfl (Nat.le_of_ble_eq_true rfl) dX13_half_5 (fun s1 r2 h => ?_)
  refine r_aload_n hE 0 dX13_half_8 rfl rfl ?_
  refine r_iload_n hE 1 dX13_half_9 rfl rfl ?_
  refine r_iconst (v := (1 : Int32)) hE dX13_half_10 (by decide) ?_
  refine m_callVi hE hm [.int a1, .int (1 : Int32)] [.int r2, .ref (G.1 0), .ref (G.1 0)] mc_endOf (km_endOf hm.2.2.2.2.2.2.2.2 h) (by decide) rfl rfl (Nat.le_of_ble_eq_true rfl) dX13_half_11 (fun s3 r4 h => ?_)
  refine m_callVi hE hm [.int r2, .int r4] [.ref (G.1 0)] mc_mid (km_mid hm.2.2.2.2.2.2.2.2 h) (by decide) rfl rfl (Nat.le_of_ble_eq_true rfl) dX13_half_14 (fun s5 r6 h => ?_)
  refine r_iload_n hE 1 dX13_half_17 rfl rfl ?_
  refine m_callVi hE hm [.int r6, .int a1] [] mc_perp (km_perp hm.2.2.2.2.2.2.2.2 h) (by decide) rfl rfl (Nat.le_of_ble_eq_true rfl) dX13_half_18 (fun s7 r8 h => ?_)
  exact m_iret hE hm dX13_half_21 h
/-! polar -/
def wm_polar_9 (post : MS → Int32 → Prop) : Nat → MS → Int32 → Int32 → Int32 → Int32 → Prop
  | 0, _, _, _, _, _ => False
  | n + 1, σ, v1, v2, v3, v4 => (((2 : Int32) ≤ v4) → (wm_part (fun (s1 : MS) => wm_part (fun (s2 : MS) => wm_part (fun (s3 : MS) => wm_times (fun (s4 : MS) => wm_plus (fun (s5 : MS) => wm_part (fun (s6 : MS) => wm_part (fun (s7 : MS) => wm_times (fun (s8 : MS) => wm_plus (fun (s9 : MS) => wm_keep (fun (s10 : MS) => wm_normal (fun (s11 : MS) => post s11 v3) s10 v3) s9 v3 (2 : Int32)) s8) s7) s6 v2 (1 : Int32)) s5 v3 (1 : Int32)) s4) s3) s2 v2 (0 : Int32)) s1 v3 (0 : Int32)) σ v2 (2 : Int32))) ∧ ((¬ ((2 : Int32) ≤ v4)) → (wm_part (fun (s12 : MS) => wm_part (fun (s13 : MS) => wm_less (fun (s14 : MS) => wm_keep (fun (s15 : MS) => ∀ x16 : Int32, x16 = v4 + (1 : Int32) → wm_polar_9 post n s15 v1 v2 v3 x16) s14 v3 v4) s13) s12 v2 v4) σ v1 v4))
set_option maxRecDepth 20000 in
theorem km_polar_9 {E : gEnv} {l : Launch} {D : va_G} {cl : List vw_C} {G : gAd} {post : MS → Int32 → Prop} (hE : gOK E cX13_polar RX13 (some .int) 5) (hm : mOK E l D cl G (qI post) 5) : ∀ (n : Nat) (σ : MS) (v1 : Int32) (v2 : Int32) (v3 : Int32) (v4 : Int32), wm_polar_9 post n σ v1 v2 v3 v4 → GW E (mW G σ) 9 [(0, .ref (G.1 0)), (1, .int v1), (2, .int v2), (3, .int v3), (4, .int v4)] [] := by
  intro n
  induction n with
  | zero => intro σ v1 v2 v3 v4 h; exact h.elim
  | succ n ih =>
    intro σ v1 v2 v3 v4 h
    rw [wm_polar_9] at h
    have hN := hm.2.2.2.2.2.2.1
    refine r_iload hE 4 dX13_polar_9 rfl ?_
    refine r_iconst (v := (2 : Int32)) hE dX13_polar_11 (by decide) ?_
    refine r_icmp_ge hE 46 dX13_polar_12 (by decide) h (fun h => ?_) (fun h => ?_)
    · refine r_aload_n hE 0 dX13_polar_46 rfl rfl ?_
      refine r_iload_n hE 2 dX13_polar_47 rfl rfl ?_
      refine r_iconst (v := (2 : Int32)) hE dX13_polar_48 (by decide) ?_
      refine m_callVv hE hm [.int v2, .int (2 : Int32)] [] mc_part (km_part hm.2.2.2.2.2.2.2.2 h) (by decide) rfl rfl (Nat.le_of_ble_eq_true rfl) dX13_polar_49 (fun s1 h => ?_)
      refine r_aload_n hE 0 dX13_polar_52 rfl rfl ?_
      refine r_iload_n hE 3 dX13_polar_53 rfl rfl ?_
      refine r_iconst (v := (0 : Int32)) hE dX13_polar_54 (by decide) ?_
      refine m_callVv hE hm [.int v3, .int (0 : Int32)] [] mc_part (km_part hm.2.2.2.2.2.2.2.2 h) (by decide) rfl rfl (Nat.le_of_ble_eq_true rfl) dX13_polar_55 (fun s2 h => ?_)
      refine r_aload_n hE 0 dX13_polar_58 rfl rfl ?_
      refine r_iload_n hE 2 dX13_polar_59 rfl rfl ?_
      refine r_iconst (v := (0 : Int32)) hE dX13_polar_60 (by decide) ?_
      refine m_callVv hE hm [.int v2, .int (0 : Int32)] [] mc_part (km_part hm.2.2.2.2.2.2.2.2 h) (by decide) rfl rfl (Nat.le_of_ble_eq_true rfl) dX13_polar_61 (fun s3 h => ?_)
      refine r_aload_n hE 0 dX13_polar_64 rfl rfl ?_
      refine m_callVv hE hm [] [] mc_times (km_times hm.2.2.2.2.2.2.2.2 h) (by decide) rfl rfl (Nat.le_of_ble_eq_true rfl) dX13_polar_65 (fun s4 h => ?_)
      refine r_aload_n hE 0 dX13_polar_68 rfl rfl ?_
      refine m_callVv hE hm [] [] mc_plus (km_plus hm.2.2.2.2.2.2.2.2 h) (by decide) rfl rfl (Nat.le_of_ble_eq_true rfl) dX13_polar_69 (fun s5 h => ?_)
      refine r_aload_n hE 0 dX13_polar_72 rfl rfl ?_
      refine r_iload_n hE 3 dX13_polar_73 rfl rfl ?_
      refine r_iconst (v := (1 : Int32)) hE dX13_polar_74 (by decide) ?_
      refine m_callVv hE hm [.int v3, .int (1 : Int32)] [] mc_part (km_part hm.2.2.2.2.2.2.2.2 h) (by decide) rfl rfl (Nat.le_of_ble_eq_true rfl) dX13_polar_75 (fun s6 h => ?_)
      refine r_aload_n hE 0 dX13_polar_78 rfl rfl ?_
      refine r_iload_n hE 2 dX13_polar_79 rfl rfl ?_
      refine r_iconst (v := (1 : Int32)) hE dX13_polar_80 (by decide) ?_
      refine m_callVv hE hm [.int v2, .int (1 : Int32)] [] mc_part (km_part hm.2.2.2.2.2.2.2.2 h) (by decide) rfl rfl (Nat.le_of_ble_eq_true rfl) dX13_polar_81 (fun s7 h => ?_)
      refine r_aload_n hE 0 dX13_polar_84 rfl rfl ?_
      refine m_callVv hE hm [] [] mc_times (km_times hm.2.2.2.2.2.2.2.2 h) (by decide) rfl rfl (Nat.le_of_ble_eq_true rfl) dX13_polar_85 (fun s8 h => ?_)
      refine r_aload_n hE 0 dX13_polar_88 rfl rfl ?_
      refine m_callVv hE hm [] [] mc_plus (km_plus hm.2.2.2.2.2.2.2.2 h) (by decide) rfl rfl (Nat.le_of_ble_eq_true rfl) dX13_polar_89 (fun s9 h => ?_)
      refine r_aload_n hE 0 dX13_polar_92 rfl rfl ?_
      refine r_iload_n hE 3 dX13_polar_93 rfl rfl ?_
      refine r_iconst (v := (2 : Int32)) hE dX13_polar_94 (by decide) ?_
      refine m_callVv hE hm [.int v3, .int (2 : Int32)] [] mc_keep (km_keep hm.2.2.2.2.2.2.2.2 h) (by decide) rfl rfl (Nat.le_of_ble_eq_true rfl) dX13_polar_95 (fun s10 h => ?_)
      refine r_aload_n hE 0 dX13_polar_98 rfl rfl ?_
      refine r_iload_n hE 3 dX13_polar_99 rfl rfl ?_
      refine m_callVv hE hm [.int v3] [] mc_normal (km_normal hm.2.2.2.2.2.2.2.2 h) (by decide) rfl rfl (Nat.le_of_ble_eq_true rfl) dX13_polar_100 (fun s11 h => ?_)
      refine r_iload_n hE 3 dX13_polar_103 rfl rfl ?_
      exact m_iret hE hm dX13_polar_104 h
    · refine r_aload_n hE 0 dX13_polar_15 rfl rfl ?_
      refine r_iload_n hE 1 dX13_polar_16 rfl rfl ?_
      refine r_iload hE 4 dX13_polar_17 rfl ?_
      refine m_callVv hE hm [.int v1, .int v4] [] mc_part (km_part hm.2.2.2.2.2.2.2.2 h) (by decide) rfl rfl (Nat.le_of_ble_eq_true rfl) dX13_polar_19 (fun s12 h => ?_)
      refine r_aload_n hE 0 dX13_polar_22 rfl rfl ?_
      refine r_iload_n hE 2 dX13_polar_23 rfl rfl ?_
      refine r_iload hE 4 dX13_polar_24 rfl ?_
      refine m_callVv hE hm [.int v2, .int v4] [] mc_part (km_part hm.2.2.2.2.2.2.2.2 h) (by decide) rfl rfl (Nat.le_of_ble_eq_true rfl) dX13_polar_26 (fun s13 h => ?_)
      refine r_aload_n hE 0 dX13_polar_29 rfl rfl ?_
      refine m_callVv hE hm [] [] mc_less (km_less hm.2.2.2.2.2.2.2.2 h) (by decide) rfl rfl (Nat.le_of_ble_eq_true rfl) dX13_polar_30 (fun s14 h => ?_)
      refine r_aload_n hE 0 dX13_polar_33 rfl rfl ?_
      refine r_iload_n hE 3 dX13_polar_34 rfl rfl ?_
      refine r_iload hE 4 dX13_polar_35 rfl ?_
      refine m_callVv hE hm [.int v3, .int v4] [] mc_keep (km_keep hm.2.2.2.2.2.2.2.2 h) (by decide) rfl rfl (Nat.le_of_ble_eq_true rfl) dX13_polar_37 (fun s15 h => ?_)
      obtain ⟨x16, ex16⟩ : ∃ z : Int32, z = v4 + (1 : Int32) := ⟨_, rfl⟩
      have h := h x16 ex16
      refine r_iinc (v := x16) hE [(4, .int x16), (0, .ref (G.1 0)), (1, .int v1), (2, .int v2), (3, .int v3)] 4 dX13_polar_40 rfl (by rw [ex16]; rfl) hN (by decide) rfl ?_
      refine r_goto hE 9 dX13_polar_43 (by decide) ?_
      refine r_pick [1, 2, 3, 4, 0] rfl ?_
      exact ih _ _ _ _ _ h
def wm_polar (post : MS → Int32 → Prop) (σ : MS) (a1 : Int32) (a2 : Int32) : Prop := wm_newThing (fun (s17 : MS) (r18 : Int32) => ∃ k : Nat, wm_polar_9 post k s17 a1 a2 r18 (0 : Int32)) σ (3 : Int32)
set_option maxRecDepth 20000 in
theorem km_polar {l : Launch} {D : va_G} {cl : List vw_C} {G : gAd} {post : MS → Int32 → Prop} (hcl : mC cl) {σ : MS} {a1 : Int32} {a2 : Int32} (h : wm_polar post σ a1 a2) : mMet l D cl G yX13_polar cX13_polar 5 (some .int) 5 [.ref (G.1 0), .int a1, .int a2] σ (qI post) := by
  unfold wm_polar at h
  refine m_enter hcl (by decide +kernel) rfl [(0, .ref (G.1 0)), (1, .int a1), (2, .int a2)] rfl (Nat.le_of_ble_eq_true rfl) ?_
  intro E hE hm
  have hN := hm.2.2.2.2.2.2.1
  refine r_aload_n hE 0 dX13_polar_0 rfl rfl ?_
  refine r_iconst (v := (3 : Int32)) hE dX13_polar_1 (by decide) ?_
  refine m_callVi hE hm [.int (3 : Int32)] [] mc_newThing (km_newThing hm.2.2.2.2.2.2.2.2 h) (by decide) rfl rfl (Nat.le_of_ble_eq_true rfl) dX13_polar_2 (fun s17 r18 h => ?_)
  refine r_istore_n hE [(3, .int r18), (0, .ref (G.1 0)), (1, .int a1), (2, .int a2)] dX13_polar_5 rfl hN (by decide) rfl ?_
  refine r_iconst (v := (0 : Int32)) hE dX13_polar_6 (by decide) ?_
  refine r_istore hE [(4, .int (0 : Int32)), (3, .int r18), (0, .ref (G.1 0)), (1, .int a1), (2, .int a2)] dX13_polar_7 hN (by decide) rfl ?_
  refine r_pick [2, 3, 4, 1, 0] rfl ?_
  obtain ⟨k, h⟩ := h
  exact km_polar_9 hE hm k _ _ _ _ _ h
/-! invert -/
def wm_invert (post : MS → Int32 → Prop) (σ : MS) (a1 : Int32) (a2 : Int32) : Prop := wm_centre (fun (s1 : MS) (r2 : Int32) => wm_part (fun (s3 : MS) => wm_dist (fun (s4 : MS) => wm_by (fun (s5 : MS) => ∀ s6 : MS, s6 = m_piled_s s5 ((m_piled s5) - (1 : Int32)) → vp_in (m_piled s6) 40 ∧ (vp_in (m_piled s6) 40 ∧ (wm_scale (fun (s7 : MS) (r8 : Int32) => post s7 r8) s6 a1 r2 (m_top s6 (m_piled s6).toNatClampNeg) (m_bottom s6 (m_piled s6).toNatClampNeg)))) s4) s3 a1 r2) s1 a2 (2 : Int32)) σ a2
set_option maxRecDepth 20000 in
theorem km_invert {l : Launch} {D : va_G} {cl : List vw_C} {G : gAd} {post : MS → Int32 → Prop} (hcl : mC cl) {σ : MS} {a1 : Int32} {a2 : Int32} (h : wm_invert post σ a1 a2) : mMet l D cl G yX13_invert cX13_invert 4 (some .int) 5 [.ref (G.1 0), .int a1, .int a2] σ (qI post) := by
  unfold wm_invert at h
  refine m_enter hcl (by decide +kernel) rfl [(0, .ref (G.1 0)), (1, .int a1), (2, .int a2)] rfl (Nat.le_of_ble_eq_true rfl) ?_
  intro E hE hm
  have hN := hm.2.2.2.2.2.2.1
  refine r_aload_n hE 0 dX13_invert_0 rfl rfl ?_
  refine r_iload_n hE 2 dX13_invert_1 rfl rfl ?_
  refine m_callVi hE hm [.int a2] [] mc_centre (km_centre hm.2.2.2.2.2.2.2.2 h) (by decide) rfl rfl (Nat.le_of_ble_eq_true rfl) dX13_invert_2 (fun s1 r2 h => ?_)
  refine r_istore_n hE [(3, .int r2), (0, .ref (G.1 0)), (1, .int a1), (2, .int a2)] dX13_invert_5 rfl hN (by decide) rfl ?_
  refine r_aload_n hE 1 dX13_invert_6 rfl rfl ?_
  refine r_iload_n hE 3 dX13_invert_7 rfl rfl ?_
  refine r_iconst (v := (2 : Int32)) hE dX13_invert_8 (by decide) ?_
  refine m_callVv hE hm [.int a2, .int (2 : Int32)] [] mc_part (km_part hm.2.2.2.2.2.2.2.2 h) (by decide) rfl rfl (Nat.le_of_ble_eq_true rfl) dX13_invert_9 (fun s3 h => ?_)
  refine r_aload_n hE 1 dX13_invert_12 rfl rfl ?_
  refine r_iload_n hE 2 dX13_invert_13 rfl rfl ?_
  refine r_iload_n hE 0 dX13_invert_14 rfl rfl ?_
  refine m_callVv hE hm [.int a1, .int r2] [] mc_dist (km_dist hm.2.2.2.2.2.2.2.2 h) (by decide) rfl rfl (Nat.le_of_ble_eq_true rfl) dX13_invert_15 (fun s4 h => ?_)
  refine r_aload_n hE 1 dX13_invert_18 rfl rfl ?_
  refine m_callVv hE hm [] [] mc_by (km_by hm.2.2.2.2.2.2.2.2 h) (by decide) rfl rfl (Nat.le_of_ble_eq_true rfl) dX13_invert_19 (fun s5 h => ?_)
  refine r_aload_n hE 1 dX13_invert_22 rfl rfl ?_
  refine r_dup hE dX13_invert_23 rfl ?_
  refine mg_piled hE hm dX13_invert_24 ?_
  refine r_iconst (v := (1 : Int32)) hE dX13_invert_27 (by decide) ?_
  refine r_isub hE dX13_invert_28 ?_
  refine mp_piled hE hm dX13_invert_29 h (fun s6 h => ?_)
  refine r_aload_n hE 1 dX13_invert_32 rfl rfl ?_
  refine r_iload_n hE 2 dX13_invert_33 rfl rfl ?_
  refine r_iload_n hE 0 dX13_invert_34 rfl rfl ?_
  refine r_aload_n hE 1 dX13_invert_35 rfl rfl ?_
  refine mg_top hE hm dX13_invert_36 ?_
  refine r_aload_n hE 1 dX13_invert_39 rfl rfl ?_
  refine mg_piled hE hm dX13_invert_40 ?_
  obtain ⟨hi, h⟩ := h
  refine ml_top hE hm dX13_invert_43 hi ?_
  refine r_aload_n hE 1 dX13_invert_44 rfl rfl ?_
  refine mg_bottom hE hm dX13_invert_45 ?_
  refine r_aload_n hE 1 dX13_invert_48 rfl rfl ?_
  refine mg_piled hE hm dX13_invert_49 ?_
  obtain ⟨hi, h⟩ := h
  refine ml_bottom hE hm dX13_invert_52 hi ?_
  refine m_callVi hE hm [.int a1, .int r2, .long (m_top s6 (m_piled s6).toNatClampNeg), .long (m_bottom s6 (m_piled s6).toNatClampNeg)] [] mc_scale (km_scale hm.2.2.2.2.2.2.2.2 h) (by decide) rfl rfl (Nat.le_of_ble_eq_true rfl) dX13_invert_53 (fun s7 r8 h => ?_)
  exact m_iret hE hm dX13_invert_56 h
/-! root -/
def wm_root_36 (post : MS → Int64 → Prop) (lp7 : MS → Int64 → Int64 → Int64 → Prop) (σ : MS) (v0 : Int64) (v4 : Int64) (t0 : Int64) : Prop := ∀ x1 : Int64, x1 = v4 / (2 : Int64) → lp7 σ v0 t0 x1
set_option maxRecDepth 20000 in
theorem km_root_36 {E : gEnv} {l : Launch} {D : va_G} {cl : List vw_C} {G : gAd} {post : MS → Int64 → Prop} (hE : gOK E cX13_root RX13 (some .long) 1) (hm : mOK E l D cl G (qL post) 6) {lp7 : MS → Int64 → Int64 → Int64 → Prop} (hl7 : ∀ (σ : MS) (v0 : Int64) (v2 : Int64) (v4 : Int64), lp7 σ v0 v2 v4 → GW E (mW G σ) 7 [(0, .long v0), (2, .long v2), (4, .long v4)] []) (σ : MS) (v0 : Int64) (v4 : Int64) (t0 : Int64) (h : wm_root_36 post lp7 σ v0 v4 t0) : GW E (mW G σ) 36 [(0, .long v0), (4, .long v4)] [.long t0] := by
  unfold wm_root_36 at h
  have hN := hm.2.2.2.2.2.2.1
  refine r_lstore_n hE [(2, .long t0), (0, .long v0), (4, .long v4)] dX13_root_36 rfl hN (by decide) rfl ?_
  refine r_lload hE 2 dX13_root_37 rfl ?_
  refine r_ldc2 (v := (2 : Int64)) hE dX13_root_39 (gTb_10 (List.mem_of_getElem? (i := 171) rfl) rfl) ?_
  refine r_ldiv hE dX13_root_42 (by decide) ?_
  refine r_topl h (fun x1 ex1 h => ?_)
  refine r_lstore hE [(4, .long x1), (2, .long t0), (0, .long v0)] dX13_root_43 hN (by decide) rfl ?_
  refine r_goto hE 7 dX13_root_45 (by decide) ?_
  refine r_pick [2, 1, 0] rfl ?_
  exact hl7 _ _ _ _ h
def wm_root_7 (post : MS → Int64 → Prop) : Nat → MS → Int64 → Int64 → Int64 → Prop
  | 0, _, _, _, _ => False
  | n + 1, σ, v0, v2, v4 => (((lg_cmp v4 (0 : Int64)) ≤ (0 : Int32)) → (((¬ ((lg_cmp (v2 * v2) v0) = (0 : Int32))) → (post σ (-1 : Int64))) ∧ (((lg_cmp (v2 * v2) v0) = (0 : Int32)) → (post σ v2)))) ∧ ((¬ ((lg_cmp v4 (0 : Int64)) ≤ (0 : Int32))) → ((((0 : Int32) < (lg_cmp ((v2 + v4) * (v2 + v4)) v0)) → (wm_root_36 post (fun (ys : MS) (y0 : Int64) (y1 : Int64) (y2 : Int64) => wm_root_7 post n ys y0 y1 y2) σ v0 v4 v2)) ∧ ((¬ ((0 : Int32) < (lg_cmp ((v2 + v4) * (v2 + v4)) v0))) → (wm_root_36 post (fun (ys : MS) (y0 : Int64) (y1 : Int64) (y2 : Int64) => wm_root_7 post n ys y0 y1 y2) σ v0 v4 (v2 + v4)))))
set_option maxRecDepth 20000 in
theorem km_root_7 {E : gEnv} {l : Launch} {D : va_G} {cl : List vw_C} {G : gAd} {post : MS → Int64 → Prop} (hE : gOK E cX13_root RX13 (some .long) 1) (hm : mOK E l D cl G (qL post) 6) : ∀ (n : Nat) (σ : MS) (v0 : Int64) (v2 : Int64) (v4 : Int64), wm_root_7 post n σ v0 v2 v4 → GW E (mW G σ) 7 [(0, .long v0), (2, .long v2), (4, .long v4)] [] := by
  intro n
  induction n with
  | zero => intro σ v0 v2 v4 h; exact h.elim
  | succ n ih =>
    intro σ v0 v2 v4 h
    rw [wm_root_7] at h
    have hN := hm.2.2.2.2.2.2.1
    refine r_lload hE 2 dX13_root_7 rfl ?_
    refine r_lconst (v := (0 : Int64)) hE dX13_root_9 (by decide) ?_
    refine r_lcmp hE dX13_root_10 ?_
    refine r_if_le hE 48 dX13_root_11 (by decide) h (fun h => ?_) (fun h => ?_)
    · refine r_lload_n hE 1 dX13_root_48 rfl rfl ?_
      refine r_lload_n hE 1 dX13_root_49 rfl rfl ?_
      refine r_lmul hE dX13_root_50 ?_
      refine r_lload_n hE 0 dX13_root_51 rfl rfl ?_
      refine r_lcmp hE dX13_root_52 ?_
      refine r_if_ne hE 60 dX13_root_53 (by decide) h (fun h => ?_) (fun h => ?_)
      · refine r_ldc2 (v := (-1 : Int64)) hE dX13_root_60 (gTb_11 (List.mem_of_getElem? (i := 45) rfl) rfl) ?_
        exact m_lret hE hm dX13_root_63 h
      · refine r_lload_n hE 1 dX13_root_56 rfl rfl ?_
        refine r_goto hE 63 dX13_root_57 (by decide) ?_
        exact m_lret hE hm dX13_root_63 h
    · refine r_lload_n hE 1 dX13_root_14 rfl rfl ?_
      refine r_lload hE 2 dX13_root_15 rfl ?_
      refine r_ladd hE dX13_root_17 ?_
      refine r_lload_n hE 1 dX13_root_18 rfl rfl ?_
      refine r_lload hE 2 dX13_root_19 rfl ?_
      refine r_ladd hE dX13_root_21 ?_
      refine r_lmul hE dX13_root_22 ?_
      refine r_lload_n hE 0 dX13_root_23 rfl rfl ?_
      refine r_lcmp hE dX13_root_24 ?_
      refine r_if_gt hE 35 dX13_root_25 (by decide) h (fun h => ?_) (fun h => ?_)
      · refine r_lload_n hE 1 dX13_root_35 rfl rfl ?_
        refine r_pick [0, 2] rfl ?_
        exact km_root_36 hE hm ih _ _ _ _ h
      · refine r_lload_n hE 1 dX13_root_28 rfl rfl ?_
        refine r_lload hE 2 dX13_root_29 rfl ?_
        refine r_ladd hE dX13_root_31 ?_
        refine r_goto hE 36 dX13_root_32 (by decide) ?_
        refine r_pick [0, 2] rfl ?_
        exact km_root_36 hE hm ih _ _ _ _ h
def wm_root (post : MS → Int64 → Prop) (σ : MS) (a0 : Int64) : Prop := ∃ k : Nat, wm_root_7 post k σ a0 (0 : Int64) (32768 : Int64)
set_option maxRecDepth 20000 in
theorem km_root {l : Launch} {D : va_G} {cl : List vw_C} {G : gAd} {post : MS → Int64 → Prop} (hcl : mC cl) {σ : MS} {a0 : Int64} (h : wm_root post σ a0) : mMet l D cl G yX13_root cX13_root 6 (some .long) 1 [.long a0] σ (qL post) := by
  unfold wm_root at h
  refine m_enter hcl (by decide +kernel) rfl [(0, .long a0)] rfl (Nat.le_of_ble_eq_true rfl) ?_
  intro E hE hm
  have hN := hm.2.2.2.2.2.2.1
  refine r_lconst (v := (0 : Int64)) hE dX13_root_0 (by decide) ?_
  refine r_lstore_n hE [(2, .long (0 : Int64)), (0, .long a0)] dX13_root_1 rfl hN (by decide) rfl ?_
  refine r_ldc2 (v := (32768 : Int64)) hE dX13_root_2 (gTb_11 (List.mem_of_getElem? (i := 44) rfl) rfl) ?_
  refine r_lstore hE [(4, .long (32768 : Int64)), (2, .long (0 : Int64)), (0, .long a0)] dX13_root_5 hN (by decide) rfl ?_
  refine r_pick [2, 1, 0] rfl ?_
  obtain ⟨k, h⟩ := h
  exact km_root_7 hE hm k _ _ _ _ h
/-! aside -/
def wm_aside_92 (post : MS → Int32 → Prop) (σ : MS) (v8 : Int32) : Prop := wm_keep (fun (s1 : MS) => post s1 v8) σ v8 (1 : Int32)
set_option maxRecDepth 20000 in
theorem km_aside_92 {E : gEnv} {l : Launch} {D : va_G} {cl : List vw_C} {G : gAd} {post : MS → Int32 → Prop} (hE : gOK E cX13_aside RX13 (some .int) 4) (hm : mOK E l D cl G (qI post) 9) (σ : MS) (v8 : Int32) (h : wm_aside_92 post σ v8) : GW E (mW G σ) 92 [(0, .ref (G.1 0)), (8, .int v8)] [] := by
  unfold wm_aside_92 at h
  have hN := hm.2.2.2.2.2.2.1
  refine r_aload_n hE 0 dX13_aside_92 rfl rfl ?_
  refine r_iload hE 1 dX13_aside_93 rfl ?_
  refine r_iconst (v := (1 : Int32)) hE dX13_aside_95 (by decide) ?_
  refine m_callVv hE hm [.int v8, .int (1 : Int32)] [] mc_keep (km_keep hm.2.2.2.2.2.2.2.2 h) (by decide) rfl rfl (Nat.le_of_ble_eq_true rfl) dX13_aside_96 (fun s1 h => ?_)
  refine r_iload hE 1 dX13_aside_99 rfl ?_
  exact m_iret hE hm dX13_aside_101 h
def wm_aside_46 (post : MS → Int32 → Prop) (σ : MS) (v1 : Int32) (v2 : Int32) (v3 : Int64) (v5 : Int64) (v7 : Int32) (v8 : Int32) : Prop := wm_keep (fun (s2 : MS) => wm_part (fun (s3 : MS) => wm_push (fun (s4 : MS) => wm_part (fun (s5 : MS) => wm_times (fun (s6 : MS) => ((v7 = (0 : Int32)) → (wm_plus (fun (s7 : MS) => wm_aside_92 post s7 v8) s6)) ∧ ((¬ (v7 = (0 : Int32))) → (wm_less (fun (s8 : MS) => wm_aside_92 post s8 v8) s6))) s5) s4 v1 (0 : Int32)) s3 v3 v5) s2 v2 (1 : Int32)) σ v8 (0 : Int32)
set_option maxRecDepth 20000 in
theorem km_aside_46 {E : gEnv} {l : Launch} {D : va_G} {cl : List vw_C} {G : gAd} {post : MS → Int32 → Prop} (hE : gOK E cX13_aside RX13 (some .int) 4) (hm : mOK E l D cl G (qI post) 9) (σ : MS) (v1 : Int32) (v2 : Int32) (v3 : Int64) (v5 : Int64) (v7 : Int32) (v8 : Int32) (h : wm_aside_46 post σ v1 v2 v3 v5 v7 v8) : GW E (mW G σ) 46 [(0, .ref (G.1 0)), (1, .int v1), (2, .int v2), (3, .long v3), (5, .long v5), (7, .int v7), (8, .int v8)] [] := by
  unfold wm_aside_46 at h
  have hN := hm.2.2.2.2.2.2.1
  refine r_aload_n hE 0 dX13_aside_46 rfl rfl ?_
  refine r_iload hE 6 dX13_aside_47 rfl ?_
  refine r_iconst (v := (0 : Int32)) hE dX13_aside_49 (by decide) ?_
  refine m_callVv hE hm [.int v8, .int (0 : Int32)] [] mc_keep (km_keep hm.2.2.2.2.2.2.2.2 h) (by decide) rfl rfl (Nat.le_of_ble_eq_true rfl) dX13_aside_50 (fun s2 h => ?_)
  refine r_aload_n hE 0 dX13_aside_53 rfl rfl ?_
  refine r_iload_n hE 2 dX13_aside_54 rfl rfl ?_
  refine r_iconst (v := (1 : Int32)) hE dX13_aside_55 (by decide) ?_
  refine m_callVv hE hm [.int v2, .int (1 : Int32)] [] mc_part (km_part hm.2.2.2.2.2.2.2.2 h) (by decide) rfl rfl (Nat.le_of_ble_eq_true rfl) dX13_aside_56 (fun s3 h => ?_)
  refine r_aload_n hE 0 dX13_aside_59 rfl rfl ?_
  refine r_lload_n hE 3 dX13_aside_60 rfl rfl ?_
  refine r_lload hE 4 dX13_aside_61 rfl ?_
  refine m_callVv hE hm [.long v3, .long v5] [] mc_push (km_push hm.2.2.2.2.2.2.2.2 h) (by decide) rfl rfl (Nat.le_of_ble_eq_true rfl) dX13_aside_63 (fun s4 h => ?_)
  refine r_aload_n hE 0 dX13_aside_66 rfl rfl ?_
  refine r_iload_n hE 1 dX13_aside_67 rfl rfl ?_
  refine r_iconst (v := (0 : Int32)) hE dX13_aside_68 (by decide) ?_
  refine m_callVv hE hm [.int v1, .int (0 : Int32)] [] mc_part (km_part hm.2.2.2.2.2.2.2.2 h) (by decide) rfl rfl (Nat.le_of_ble_eq_true rfl) dX13_aside_69 (fun s5 h => ?_)
  refine r_aload_n hE 0 dX13_aside_72 rfl rfl ?_
  refine m_callVv hE hm [] [] mc_times (km_times hm.2.2.2.2.2.2.2.2 h) (by decide) rfl rfl (Nat.le_of_ble_eq_true rfl) dX13_aside_73 (fun s6 h => ?_)
  refine r_iload hE 5 dX13_aside_76 rfl ?_
  refine r_if_eq hE 88 dX13_aside_78 (by decide) h (fun h => ?_) (fun h => ?_)
  · refine r_aload_n hE 0 dX13_aside_88 rfl rfl ?_
    refine m_callVv hE hm [] [] mc_plus (km_plus hm.2.2.2.2.2.2.2.2 h) (by decide) rfl rfl (Nat.le_of_ble_eq_true rfl) dX13_aside_89 (fun s7 h => ?_)
    refine r_pick [0, 6] rfl ?_
    exact km_aside_92 hE hm _ _ h
  · refine r_aload_n hE 0 dX13_aside_81 rfl rfl ?_
    refine m_callVv hE hm [] [] mc_less (km_less hm.2.2.2.2.2.2.2.2 h) (by decide) rfl rfl (Nat.le_of_ble_eq_true rfl) dX13_aside_82 (fun s8 h => ?_)
    refine r_goto hE 92 dX13_aside_85 (by decide) ?_
    refine r_pick [0, 6] rfl ?_
    exact km_aside_92 hE hm _ _ h
def wm_aside (post : MS → Int32 → Prop) (σ : MS) (a1 : Int32) (a2 : Int32) (a3 : Int64) (a5 : Int64) (a7 : Int32) : Prop := wm_newThing (fun (s9 : MS) (r10 : Int32) => wm_part (fun (s11 : MS) => wm_push (fun (s12 : MS) => wm_part (fun (s13 : MS) => wm_times (fun (s14 : MS) => ((a7 = (0 : Int32)) → (wm_less (fun (s15 : MS) => wm_aside_46 post s15 a1 a2 a3 a5 a7 r10) s14)) ∧ ((¬ (a7 = (0 : Int32))) → (wm_plus (fun (s16 : MS) => wm_aside_46 post s16 a1 a2 a3 a5 a7 r10) s14))) s13) s12 a1 (1 : Int32)) s11 a3 a5) s9 a2 (0 : Int32)) σ (1 : Int32)
set_option maxRecDepth 20000 in
theorem km_aside {l : Launch} {D : va_G} {cl : List vw_C} {G : gAd} {post : MS → Int32 → Prop} (hcl : mC cl) {σ : MS} {a1 : Int32} {a2 : Int32} {a3 : Int64} {a5 : Int64} {a7 : Int32} (h : wm_aside post σ a1 a2 a3 a5 a7) : mMet l D cl G yX13_aside cX13_aside 9 (some .int) 4 [.ref (G.1 0), .int a1, .int a2, .long a3, .long a5, .int a7] σ (qI post) := by
  unfold wm_aside at h
  refine m_enter hcl (by decide +kernel) rfl [(0, .ref (G.1 0)), (1, .int a1), (2, .int a2), (3, .long a3), (5, .long a5), (7, .int a7)] rfl (Nat.le_of_ble_eq_true rfl) ?_
  intro E hE hm
  have hN := hm.2.2.2.2.2.2.1
  refine r_aload_n hE 0 dX13_aside_0 rfl rfl ?_
  refine r_iconst (v := (1 : Int32)) hE dX13_aside_1 (by decide) ?_
  refine m_callVi hE hm [.int (1 : Int32)] [] mc_newThing (km_newThing hm.2.2.2.2.2.2.2.2 h) (by decide) rfl rfl (Nat.le_of_ble_eq_true rfl) dX13_aside_2 (fun s9 r10 h => ?_)
  refine r_istore hE [(8, .int r10), (0, .ref (G.1 0)), (1, .int a1), (2, .int a2), (3, .long a3), (5, .long a5), (7, .int a7)] dX13_aside_5 hN (by decide) rfl ?_
  refine r_aload_n hE 1 dX13_aside_7 rfl rfl ?_
  refine r_iload_n hE 3 dX13_aside_8 rfl rfl ?_
  refine r_iconst (v := (0 : Int32)) hE dX13_aside_9 (by decide) ?_
  refine m_callVv hE hm [.int a2, .int (0 : Int32)] [] mc_part (km_part hm.2.2.2.2.2.2.2.2 h) (by decide) rfl rfl (Nat.le_of_ble_eq_true rfl) dX13_aside_10 (fun s11 h => ?_)
  refine r_aload_n hE 1 dX13_aside_13 rfl rfl ?_
  refine r_lload_n hE 4 dX13_aside_14 rfl rfl ?_
  refine r_lload hE 5 dX13_aside_15 rfl ?_
  refine m_callVv hE hm [.long a3, .long a5] [] mc_push (km_push hm.2.2.2.2.2.2.2.2 h) (by decide) rfl rfl (Nat.le_of_ble_eq_true rfl) dX13_aside_17 (fun s12 h => ?_)
  refine r_aload_n hE 1 dX13_aside_20 rfl rfl ?_
  refine r_iload_n hE 2 dX13_aside_21 rfl rfl ?_
  refine r_iconst (v := (1 : Int32)) hE dX13_aside_22 (by decide) ?_
  refine m_callVv hE hm [.int a1, .int (1 : Int32)] [] mc_part (km_part hm.2.2.2.2.2.2.2.2 h) (by decide) rfl rfl (Nat.le_of_ble_eq_true rfl) dX13_aside_23 (fun s13 h => ?_)
  refine r_aload_n hE 1 dX13_aside_26 rfl rfl ?_
  refine m_callVv hE hm [] [] mc_times (km_times hm.2.2.2.2.2.2.2.2 h) (by decide) rfl rfl (Nat.le_of_ble_eq_true rfl) dX13_aside_27 (fun s14 h => ?_)
  refine r_iload hE 6 dX13_aside_30 rfl ?_
  refine r_if_eq hE 42 dX13_aside_32 (by decide) h (fun h => ?_) (fun h => ?_)
  · refine r_aload_n hE 1 dX13_aside_42 rfl rfl ?_
    refine m_callVv hE hm [] [] mc_less (km_less hm.2.2.2.2.2.2.2.2 h) (by decide) rfl rfl (Nat.le_of_ble_eq_true rfl) dX13_aside_43 (fun s15 h => ?_)
    refine r_pick [1, 2, 3, 4, 5, 6, 0] rfl ?_
    exact km_aside_46 hE hm _ _ _ _ _ _ _ h
  · refine r_aload_n hE 1 dX13_aside_35 rfl rfl ?_
    refine m_callVv hE hm [] [] mc_plus (km_plus hm.2.2.2.2.2.2.2.2 h) (by decide) rfl rfl (Nat.le_of_ble_eq_true rfl) dX13_aside_36 (fun s16 h => ?_)
    refine r_goto hE 46 dX13_aside_39 (by decide) ?_
    refine r_pick [1, 2, 3, 4, 5, 6, 0] rfl ?_
    exact km_aside_46 hE hm _ _ _ _ _ _ _ h
/-! cut_ -/
def wm_cut__311 (post : MS → Int32 → Prop) (σ : MS) (v11 : Int32) (v12 : Int32) (t0 : Int32) (t1 : Int32) : Prop := ((¬ (t0 = t1)) → (post σ v12)) ∧ ((t0 = t1) → (post σ v11))
set_option maxRecDepth 20000 in
theorem km_cut__311 {E : gEnv} {l : Launch} {D : va_G} {cl : List vw_C} {G : gAd} {post : MS → Int32 → Prop} (hE : gOK E cX13_cut_ RX13 (some .int) 7) (hm : mOK E l D cl G (qI post) 14) (σ : MS) (v11 : Int32) (v12 : Int32) (t0 : Int32) (t1 : Int32) (h : wm_cut__311 post σ v11 v12 t0 t1) : GW E (mW G σ) 311 [(11, .int v11), (12, .int v12)] [.int t1, .int t0] := by
  unfold wm_cut__311 at h
  have hN := hm.2.2.2.2.2.2.1
  refine r_icmp_ne hE 319 dX13_cut__311 (by decide) h (fun h => ?_) (fun h => ?_)
  · refine r_iload hE 1 dX13_cut__319 rfl ?_
    exact m_iret hE hm dX13_cut__321 h
  · refine r_iload hE 0 dX13_cut__314 rfl ?_
    refine r_goto hE 321 dX13_cut__316 (by decide) ?_
    exact m_iret hE hm dX13_cut__321 h
def wm_cut__300 (post : MS → Int32 → Prop) (σ : MS) (v3 : Int64) (v11 : Int32) (v12 : Int32) (t0 : Int32) : Prop := ((¬ ((lg_cmp v3 (0 : Int64)) = (0 : Int32))) → (wm_cut__311 post σ v11 v12 t0 (0 : Int32))) ∧ (((lg_cmp v3 (0 : Int64)) = (0 : Int32)) → (wm_cut__311 post σ v11 v12 t0 (1 : Int32)))
set_option maxRecDepth 20000 in
theorem km_cut__300 {E : gEnv} {l : Launch} {D : va_G} {cl : List vw_C} {G : gAd} {post : MS → Int32 → Prop} (hE : gOK E cX13_cut_ RX13 (some .int) 7) (hm : mOK E l D cl G (qI post) 14) (σ : MS) (v3 : Int64) (v11 : Int32) (v12 : Int32) (t0 : Int32) (h : wm_cut__300 post σ v3 v11 v12 t0) : GW E (mW G σ) 300 [(3, .long v3), (11, .int v11), (12, .int v12)] [.int t0] := by
  unfold wm_cut__300 at h
  have hN := hm.2.2.2.2.2.2.1
  refine r_lload_n hE 0 dX13_cut__300 rfl rfl ?_
  refine r_lconst (v := (0 : Int64)) hE dX13_cut__301 (by decide) ?_
  refine r_lcmp hE dX13_cut__302 ?_
  refine r_if_ne hE 310 dX13_cut__303 (by decide) h (fun h => ?_) (fun h => ?_)
  · refine r_iconst (v := (0 : Int32)) hE dX13_cut__310 (by decide) ?_
    refine r_pick [1, 2] rfl ?_
    exact km_cut__311 hE hm _ _ _ _ _ h
  · refine r_iconst (v := (1 : Int32)) hE dX13_cut__306 (by decide) ?_
    refine r_goto hE 311 dX13_cut__307 (by decide) ?_
    refine r_pick [1, 2] rfl ?_
    exact km_cut__311 hE hm _ _ _ _ _ h
def wm_cut__288 (post : MS → Int32 → Prop) (σ : MS) (v3 : Int64) (v11 : Int32) (v12 : Int32) (t0 : Int32) : Prop := (((0 : Int32) < t0) → (wm_cut__300 post σ v3 v11 v12 (0 : Int32))) ∧ ((¬ ((0 : Int32) < t0)) → (wm_cut__300 post σ v3 v11 v12 (1 : Int32)))
set_option maxRecDepth 20000 in
theorem km_cut__288 {E : gEnv} {l : Launch} {D : va_G} {cl : List vw_C} {G : gAd} {post : MS → Int32 → Prop} (hE : gOK E cX13_cut_ RX13 (some .int) 7) (hm : mOK E l D cl G (qI post) 14) (σ : MS) (v3 : Int64) (v11 : Int32) (v12 : Int32) (t0 : Int32) (h : wm_cut__288 post σ v3 v11 v12 t0) : GW E (mW G σ) 288 [(3, .long v3), (11, .int v11), (12, .int v12)] [.int t0] := by
  unfold wm_cut__288 at h
  have hN := hm.2.2.2.2.2.2.1
  refine r_istore hE [(13, .int t0), (3, .long v3), (11, .int v11), (12, .int v12)] dX13_cut__288 hN (by decide) rfl ?_
  refine r_iload hE 0 dX13_cut__290 rfl ?_
  refine r_if_gt hE 299 dX13_cut__292 (by decide) h (fun h => ?_) (fun h => ?_)
  · refine r_iconst (v := (0 : Int32)) hE dX13_cut__299 (by decide) ?_
    refine r_pick [1, 2, 3] rfl ?_
    exact km_cut__300 hE hm _ _ _ _ _ h
  · refine r_iconst (v := (1 : Int32)) hE dX13_cut__295 (by decide) ?_
    refine r_goto hE 300 dX13_cut__296 (by decide) ?_
    refine r_pick [1, 2, 3] rfl ?_
    exact km_cut__300 hE hm _ _ _ _ _ h
def wm_cut__154 (post : MS → Int32 → Prop) (σ : MS) (v1 : Int32) (v3 : Int64) (v6 : Int32) (v7 : Int64) (v9 : Int64) : Prop := wm_aside (fun (s1 : MS) (r2 : Int32) => wm_aside (fun (s3 : MS) (r4 : Int32) => vp_in ((7 : Int32) * r2) 3360 ∧ (vp_in ((7 : Int32) * r2) 3360 ∧ (vp_in ((7 : Int32) * r4) 3360 ∧ (vp_in ((7 : Int32) * r4) 3360 ∧ (wm_compare (fun (s5 : MS) (r6 : Int32) => ((¬ (r6 = (0 : Int32))) → (wm_cut__288 post s5 v3 r2 r4 r6)) ∧ ((r6 = (0 : Int32)) → (vp_in (((7 : Int32) * r2) + (1 : Int32)) 3360 ∧ (vp_in (((7 : Int32) * r2) + (1 : Int32)) 3360 ∧ (vp_in (((7 : Int32) * r4) + (1 : Int32)) 3360 ∧ (vp_in (((7 : Int32) * r4) + (1 : Int32)) 3360 ∧ (wm_compare (fun (s7 : MS) (r8 : Int32) => wm_cut__288 post s7 v3 r2 r4 r8) s5 (m_up s5 (((7 : Int32) * r2) + (1 : Int32)).toNatClampNeg) (m_low s5 (((7 : Int32) * r2) + (1 : Int32)).toNatClampNeg) (m_up s5 (((7 : Int32) * r4) + (1 : Int32)).toNatClampNeg) (m_low s5 (((7 : Int32) * r4) + (1 : Int32)).toNatClampNeg)))))))) s3 (m_up s3 ((7 : Int32) * r2).toNatClampNeg) (m_low s3 ((7 : Int32) * r2).toNatClampNeg) (m_up s3 ((7 : Int32) * r4).toNatClampNeg) (m_low s3 ((7 : Int32) * r4).toNatClampNeg)))))) s1 v1 v6 v7 v9 (1 : Int32)) σ v1 v6 v7 v9 (0 : Int32)
set_option maxRecDepth 20000 in
theorem km_cut__154 {E : gEnv} {l : Launch} {D : va_G} {cl : List vw_C} {G : gAd} {post : MS → Int32 → Prop} (hE : gOK E cX13_cut_ RX13 (some .int) 7) (hm : mOK E l D cl G (qI post) 14) (σ : MS) (v1 : Int32) (v3 : Int64) (v6 : Int32) (v7 : Int64) (v9 : Int64) (h : wm_cut__154 post σ v1 v3 v6 v7 v9) : GW E (mW G σ) 154 [(0, .ref (G.1 0)), (1, .int v1), (3, .long v3), (6, .int v6), (7, .long v7), (9, .long v9)] [] := by
  unfold wm_cut__154 at h
  have hN := hm.2.2.2.2.2.2.1
  refine r_aload_n hE 0 dX13_cut__154 rfl rfl ?_
  refine r_iload_n hE 1 dX13_cut__155 rfl rfl ?_
  refine r_iload hE 3 dX13_cut__156 rfl ?_
  refine r_lload hE 4 dX13_cut__158 rfl ?_
  refine r_lload hE 5 dX13_cut__160 rfl ?_
  refine r_iconst (v := (0 : Int32)) hE dX13_cut__162 (by decide) ?_
  refine m_callVi hE hm [.int v1, .int v6, .long v7, .long v9, .int (0 : Int32)] [] mc_aside (km_aside hm.2.2.2.2.2.2.2.2 h) (by decide) rfl rfl (Nat.le_of_ble_eq_true rfl) dX13_cut__163 (fun s1 r2 h => ?_)
  refine r_istore hE [(11, .int r2), (0, .ref (G.1 0)), (1, .int v1), (3, .long v3), (6, .int v6), (7, .long v7), (9, .long v9)] dX13_cut__166 hN (by decide) rfl ?_
  refine r_aload_n hE 1 dX13_cut__168 rfl rfl ?_
  refine r_iload_n hE 2 dX13_cut__169 rfl rfl ?_
  refine r_iload hE 4 dX13_cut__170 rfl ?_
  refine r_lload hE 5 dX13_cut__172 rfl ?_
  refine r_lload hE 6 dX13_cut__174 rfl ?_
  refine r_iconst (v := (1 : Int32)) hE dX13_cut__176 (by decide) ?_
  refine m_callVi hE hm [.int v1, .int v6, .long v7, .long v9, .int (1 : Int32)] [] mc_aside (km_aside hm.2.2.2.2.2.2.2.2 h) (by decide) rfl rfl (Nat.le_of_ble_eq_true rfl) dX13_cut__177 (fun s3 r4 h => ?_)
  refine r_istore hE [(12, .int r4), (11, .int r2), (0, .ref (G.1 0)), (1, .int v1), (3, .long v3), (6, .int v6), (7, .long v7), (9, .long v9)] dX13_cut__180 hN (by decide) rfl ?_
  refine r_aload_n hE 2 dX13_cut__182 rfl rfl ?_
  refine mg_up hE hm dX13_cut__183 ?_
  refine r_bipush (v := (7 : Int32)) hE dX13_cut__186 (by decide) ?_
  refine r_iload hE 1 dX13_cut__188 rfl ?_
  refine r_imul hE dX13_cut__190 ?_
  obtain ⟨hi, h⟩ := h
  refine ml_up hE hm dX13_cut__191 hi ?_
  refine r_aload_n hE 2 dX13_cut__192 rfl rfl ?_
  refine mg_low hE hm dX13_cut__193 ?_
  refine r_bipush (v := (7 : Int32)) hE dX13_cut__196 (by decide) ?_
  refine r_iload hE 1 dX13_cut__198 rfl ?_
  refine r_imul hE dX13_cut__200 ?_
  obtain ⟨hi, h⟩ := h
  refine ml_low hE hm dX13_cut__201 hi ?_
  refine r_aload_n hE 2 dX13_cut__202 rfl rfl ?_
  refine mg_up hE hm dX13_cut__203 ?_
  refine r_bipush (v := (7 : Int32)) hE dX13_cut__206 (by decide) ?_
  refine r_iload hE 0 dX13_cut__208 rfl ?_
  refine r_imul hE dX13_cut__210 ?_
  obtain ⟨hi, h⟩ := h
  refine ml_up hE hm dX13_cut__211 hi ?_
  refine r_aload_n hE 2 dX13_cut__212 rfl rfl ?_
  refine mg_low hE hm dX13_cut__213 ?_
  refine r_bipush (v := (7 : Int32)) hE dX13_cut__216 (by decide) ?_
  refine r_iload hE 0 dX13_cut__218 rfl ?_
  refine r_imul hE dX13_cut__220 ?_
  obtain ⟨hi, h⟩ := h
  refine ml_low hE hm dX13_cut__221 hi ?_
  refine m_callSi hE hm [.long (m_up s3 ((7 : Int32) * r2).toNatClampNeg), .long (m_low s3 ((7 : Int32) * r2).toNatClampNeg), .long (m_up s3 ((7 : Int32) * r4).toNatClampNeg), .long (m_low s3 ((7 : Int32) * r4).toNatClampNeg)] [] mc_compare (km_compare hm.2.2.2.2.2.2.2.2 h) (by decide) rfl rfl (Nat.le_of_ble_eq_true rfl) dX13_cut__222 (fun s5 r6 h => ?_)
  refine r_istore hE [(13, .int r6), (12, .int r4), (11, .int r2), (0, .ref (G.1 0)), (1, .int v1), (3, .long v3), (6, .int v6), (7, .long v7), (9, .long v9)] dX13_cut__225 hN (by decide) rfl ?_
  refine r_iload hE 0 dX13_cut__227 rfl ?_
  refine r_if_ne hE 286 dX13_cut__229 (by decide) h (fun h => ?_) (fun h => ?_)
  · refine r_iload hE 0 dX13_cut__286 rfl ?_
    refine r_pick [5, 2, 1] rfl ?_
    exact km_cut__288 hE hm _ _ _ _ _ h
  · refine r_aload_n hE 3 dX13_cut__232 rfl rfl ?_
    refine mg_up hE hm dX13_cut__233 ?_
    refine r_bipush (v := (7 : Int32)) hE dX13_cut__236 (by decide) ?_
    refine r_iload hE 2 dX13_cut__238 rfl ?_
    refine r_imul hE dX13_cut__240 ?_
    refine r_iconst (v := (1 : Int32)) hE dX13_cut__241 (by decide) ?_
    refine r_iadd hE dX13_cut__242 ?_
    obtain ⟨hi, h⟩ := h
    refine ml_up hE hm dX13_cut__243 hi ?_
    refine r_aload_n hE 3 dX13_cut__244 rfl rfl ?_
    refine mg_low hE hm dX13_cut__245 ?_
    refine r_bipush (v := (7 : Int32)) hE dX13_cut__248 (by decide) ?_
    refine r_iload hE 2 dX13_cut__250 rfl ?_
    refine r_imul hE dX13_cut__252 ?_
    refine r_iconst (v := (1 : Int32)) hE dX13_cut__253 (by decide) ?_
    refine r_iadd hE dX13_cut__254 ?_
    obtain ⟨hi, h⟩ := h
    refine ml_low hE hm dX13_cut__255 hi ?_
    refine r_aload_n hE 3 dX13_cut__256 rfl rfl ?_
    refine mg_up hE hm dX13_cut__257 ?_
    refine r_bipush (v := (7 : Int32)) hE dX13_cut__260 (by decide) ?_
    refine r_iload hE 1 dX13_cut__262 rfl ?_
    refine r_imul hE dX13_cut__264 ?_
    refine r_iconst (v := (1 : Int32)) hE dX13_cut__265 (by decide) ?_
    refine r_iadd hE dX13_cut__266 ?_
    obtain ⟨hi, h⟩ := h
    refine ml_up hE hm dX13_cut__267 hi ?_
    refine r_aload_n hE 3 dX13_cut__268 rfl rfl ?_
    refine mg_low hE hm dX13_cut__269 ?_
    refine r_bipush (v := (7 : Int32)) hE dX13_cut__272 (by decide) ?_
    refine r_iload hE 1 dX13_cut__274 rfl ?_
    refine r_imul hE dX13_cut__276 ?_
    refine r_iconst (v := (1 : Int32)) hE dX13_cut__277 (by decide) ?_
    refine r_iadd hE dX13_cut__278 ?_
    obtain ⟨hi, h⟩ := h
    refine ml_low hE hm dX13_cut__279 hi ?_
    refine m_callSi hE hm [.long (m_up s5 (((7 : Int32) * r2) + (1 : Int32)).toNatClampNeg), .long (m_low s5 (((7 : Int32) * r2) + (1 : Int32)).toNatClampNeg), .long (m_up s5 (((7 : Int32) * r4) + (1 : Int32)).toNatClampNeg), .long (m_low s5 (((7 : Int32) * r4) + (1 : Int32)).toNatClampNeg)] [] mc_compare (km_compare hm.2.2.2.2.2.2.2.2 h) (by decide) rfl rfl (Nat.le_of_ble_eq_true rfl) dX13_cut__280 (fun s7 r8 h => ?_)
    refine r_goto hE 288 dX13_cut__283 (by decide) ?_
    refine r_pick [5, 2, 1] rfl ?_
    exact km_cut__288 hE hm _ _ _ _ _ h
def wm_cut__148 (post : MS → Int32 → Prop) (σ : MS) (v1 : Int32) (v3 : Int64) (v6 : Int32) (v7 : Int64) (v9 : Int64) : Prop := wm_fail (fun (s9 : MS) => wm_cut__154 post s9 v1 v3 v6 v7 v9) σ (8 : Int32)
set_option maxRecDepth 20000 in
theorem km_cut__148 {E : gEnv} {l : Launch} {D : va_G} {cl : List vw_C} {G : gAd} {post : MS → Int32 → Prop} (hE : gOK E cX13_cut_ RX13 (some .int) 7) (hm : mOK E l D cl G (qI post) 14) (σ : MS) (v1 : Int32) (v3 : Int64) (v6 : Int32) (v7 : Int64) (v9 : Int64) (h : wm_cut__148 post σ v1 v3 v6 v7 v9) : GW E (mW G σ) 148 [(0, .ref (G.1 0)), (1, .int v1), (3, .long v3), (6, .int v6), (7, .long v7), (9, .long v9)] [] := by
  unfold wm_cut__148 at h
  have hN := hm.2.2.2.2.2.2.1
  refine r_aload_n hE 0 dX13_cut__148 rfl rfl ?_
  refine r_bipush (v := (8 : Int32)) hE dX13_cut__149 (by decide) ?_
  refine m_callVv hE hm [.int (8 : Int32)] [] mc_fail (km_fail hm.2.2.2.2.2.2.2.2 h) (by decide) rfl rfl (Nat.le_of_ble_eq_true rfl) dX13_cut__151 (fun s9 h => ?_)
  exact km_cut__154 hE hm _ _ _ _ _ _ h
def wm_cut__56 (post : MS → Int32 → Prop) (σ : MS) (v1 : Int32) (v3 : Int64) (v6 : Int32) : Prop := wm_part (fun (s10 : MS) => wm_part (fun (s11 : MS) => wm_times (fun (s12 : MS) => wm_part (fun (s13 : MS) => wm_part (fun (s14 : MS) => wm_times (fun (s15 : MS) => wm_plus (fun (s16 : MS) => wm_by (fun (s17 : MS) => ∀ s18 : MS, s18 = m_piled_s s17 ((m_piled s17) - (1 : Int32)) → vp_in (m_piled s18) 40 ∧ (wm_root (fun (s19 : MS) (r20 : Int64) => vp_in (m_piled s19) 40 ∧ (wm_root (fun (s21 : MS) (r22 : Int64) => (((lg_cmp r20 (0 : Int64)) < (0 : Int32)) → (wm_cut__148 post s21 v1 v3 v6 r20 r22)) ∧ ((¬ ((lg_cmp r20 (0 : Int64)) < (0 : Int32))) → ((((0 : Int32) ≤ (lg_cmp r22 (0 : Int64))) → (wm_cut__154 post s21 v1 v3 v6 r20 r22)) ∧ ((¬ ((0 : Int32) ≤ (lg_cmp r22 (0 : Int64)))) → (wm_cut__148 post s21 v1 v3 v6 r20 r22))))) s19 (m_bottom s19 (m_piled s19).toNatClampNeg))) s18 (m_top s18 (m_piled s18).toNatClampNeg))) s16) s15) s14) s13 v1 (1 : Int32)) s12 v1 (1 : Int32)) s11) s10 v1 (0 : Int32)) σ v1 (0 : Int32)
set_option maxRecDepth 20000 in
theorem km_cut__56 {E : gEnv} {l : Launch} {D : va_G} {cl : List vw_C} {G : gAd} {post : MS → Int32 → Prop} (hE : gOK E cX13_cut_ RX13 (some .int) 7) (hm : mOK E l D cl G (qI post) 14) (σ : MS) (v1 : Int32) (v3 : Int64) (v6 : Int32) (h : wm_cut__56 post σ v1 v3 v6) : GW E (mW G σ) 56 [(0, .ref (G.1 0)), (1, .int v1), (3, .long v3), (6, .int v6)] [] := by
  unfold wm_cut__56 at h
  have hN := hm.2.2.2.2.2.2.1
  refine r_aload_n hE 0 dX13_cut__56 rfl rfl ?_
  refine r_iload_n hE 1 dX13_cut__57 rfl rfl ?_
  refine r_iconst (v := (0 : Int32)) hE dX13_cut__58 (by decide) ?_
  refine m_callVv hE hm [.int v1, .int (0 : Int32)] [] mc_part (km_part hm.2.2.2.2.2.2.2.2 h) (by decide) rfl rfl (Nat.le_of_ble_eq_true rfl) dX13_cut__59 (fun s10 h => ?_)
  refine r_aload_n hE 0 dX13_cut__62 rfl rfl ?_
  refine r_iload_n hE 1 dX13_cut__63 rfl rfl ?_
  refine r_iconst (v := (0 : Int32)) hE dX13_cut__64 (by decide) ?_
  refine m_callVv hE hm [.int v1, .int (0 : Int32)] [] mc_part (km_part hm.2.2.2.2.2.2.2.2 h) (by decide) rfl rfl (Nat.le_of_ble_eq_true rfl) dX13_cut__65 (fun s11 h => ?_)
  refine r_aload_n hE 0 dX13_cut__68 rfl rfl ?_
  refine m_callVv hE hm [] [] mc_times (km_times hm.2.2.2.2.2.2.2.2 h) (by decide) rfl rfl (Nat.le_of_ble_eq_true rfl) dX13_cut__69 (fun s12 h => ?_)
  refine r_aload_n hE 0 dX13_cut__72 rfl rfl ?_
  refine r_iload_n hE 1 dX13_cut__73 rfl rfl ?_
  refine r_iconst (v := (1 : Int32)) hE dX13_cut__74 (by decide) ?_
  refine m_callVv hE hm [.int v1, .int (1 : Int32)] [] mc_part (km_part hm.2.2.2.2.2.2.2.2 h) (by decide) rfl rfl (Nat.le_of_ble_eq_true rfl) dX13_cut__75 (fun s13 h => ?_)
  refine r_aload_n hE 0 dX13_cut__78 rfl rfl ?_
  refine r_iload_n hE 1 dX13_cut__79 rfl rfl ?_
  refine r_iconst (v := (1 : Int32)) hE dX13_cut__80 (by decide) ?_
  refine m_callVv hE hm [.int v1, .int (1 : Int32)] [] mc_part (km_part hm.2.2.2.2.2.2.2.2 h) (by decide) rfl rfl (Nat.le_of_ble_eq_true rfl) dX13_cut__81 (fun s14 h => ?_)
  refine r_aload_n hE 0 dX13_cut__84 rfl rfl ?_
  refine m_callVv hE hm [] [] mc_times (km_times hm.2.2.2.2.2.2.2.2 h) (by decide) rfl rfl (Nat.le_of_ble_eq_true rfl) dX13_cut__85 (fun s15 h => ?_)
  refine r_aload_n hE 0 dX13_cut__88 rfl rfl ?_
  refine m_callVv hE hm [] [] mc_plus (km_plus hm.2.2.2.2.2.2.2.2 h) (by decide) rfl rfl (Nat.le_of_ble_eq_true rfl) dX13_cut__89 (fun s16 h => ?_)
  refine r_aload_n hE 0 dX13_cut__92 rfl rfl ?_
  refine m_callVv hE hm [] [] mc_by (km_by hm.2.2.2.2.2.2.2.2 h) (by decide) rfl rfl (Nat.le_of_ble_eq_true rfl) dX13_cut__93 (fun s17 h => ?_)
  refine r_aload_n hE 0 dX13_cut__96 rfl rfl ?_
  refine r_dup hE dX13_cut__97 rfl ?_
  refine mg_piled hE hm dX13_cut__98 ?_
  refine r_iconst (v := (1 : Int32)) hE dX13_cut__101 (by decide) ?_
  refine r_isub hE dX13_cut__102 ?_
  refine mp_piled hE hm dX13_cut__103 h (fun s18 h => ?_)
  refine r_aload_n hE 0 dX13_cut__106 rfl rfl ?_
  refine mg_top hE hm dX13_cut__107 ?_
  refine r_aload_n hE 0 dX13_cut__110 rfl rfl ?_
  refine mg_piled hE hm dX13_cut__111 ?_
  obtain ⟨hi, h⟩ := h
  refine ml_top hE hm dX13_cut__114 hi ?_
  refine m_callSl hE hm [.long (m_top s18 (m_piled s18).toNatClampNeg)] [] mc_root (km_root hm.2.2.2.2.2.2.2.2 h) (by decide) rfl rfl (Nat.le_of_ble_eq_true rfl) dX13_cut__115 (fun s19 r20 h => ?_)
  refine r_lstore hE [(7, .long r20), (0, .ref (G.1 0)), (1, .int v1), (3, .long v3), (6, .int v6)] dX13_cut__118 hN (by decide) rfl ?_
  refine r_aload_n hE 1 dX13_cut__120 rfl rfl ?_
  refine mg_bottom hE hm dX13_cut__121 ?_
  refine r_aload_n hE 1 dX13_cut__124 rfl rfl ?_
  refine mg_piled hE hm dX13_cut__125 ?_
  obtain ⟨hi, h⟩ := h
  refine ml_bottom hE hm dX13_cut__128 hi ?_
  refine m_callSl hE hm [.long (m_bottom s19 (m_piled s19).toNatClampNeg)] [] mc_root (km_root hm.2.2.2.2.2.2.2.2 h) (by decide) rfl rfl (Nat.le_of_ble_eq_true rfl) dX13_cut__129 (fun s21 r22 h => ?_)
  refine r_lstore hE [(9, .long r22), (7, .long r20), (0, .ref (G.1 0)), (1, .int v1), (3, .long v3), (6, .int v6)] dX13_cut__132 hN (by decide) rfl ?_
  refine r_lload hE 1 dX13_cut__134 rfl ?_
  refine r_lconst (v := (0 : Int64)) hE dX13_cut__136 (by decide) ?_
  refine r_lcmp hE dX13_cut__137 ?_
  refine r_if_lt hE 148 dX13_cut__138 (by decide) h (fun h => ?_) (fun h => ?_)
  · refine r_pick [2, 3, 4, 5, 1, 0] rfl ?_
    exact km_cut__148 hE hm _ _ _ _ _ _ h
  · refine r_lload hE 0 dX13_cut__141 rfl ?_
    refine r_lconst (v := (0 : Int64)) hE dX13_cut__143 (by decide) ?_
    refine r_lcmp hE dX13_cut__144 ?_
    refine r_if_ge hE 154 dX13_cut__145 (by decide) h (fun h => ?_) (fun h => ?_)
    · refine r_pick [2, 3, 4, 5, 1, 0] rfl ?_
      exact km_cut__154 hE hm _ _ _ _ _ _ h
    · refine r_pick [2, 3, 4, 5, 1, 0] rfl ?_
      exact km_cut__148 hE hm _ _ _ _ _ _ h
def wm_cut_ (post : MS → Int32 → Prop) (σ : MS) (a1 : Int32) (a2 : Int32) (a3 : Int64) : Prop := wm_centre (fun (s23 : MS) (r24 : Int32) => wm_foot (fun (s25 : MS) (r26 : Int32) => wm_part (fun (s27 : MS) => wm_dist (fun (s28 : MS) => wm_less (fun (s29 : MS) => vp_in ((m_piled s29) - (1 : Int32)) 40 ∧ ((((0 : Int32) ≤ (lg_cmp (m_top s29 ((m_piled s29) - (1 : Int32)).toNatClampNeg) (0 : Int64))) → (wm_cut__56 post s29 a1 a3 r26)) ∧ ((¬ ((0 : Int32) ≤ (lg_cmp (m_top s29 ((m_piled s29) - (1 : Int32)).toNatClampNeg) (0 : Int64)))) → (wm_fail (fun (s30 : MS) => wm_cut__56 post s30 a1 a3 r26) s29 (8 : Int32))))) s28) s27 r24 r26) s25 a2 (2 : Int32)) s23 r24 a1) σ a2
set_option maxRecDepth 20000 in
theorem km_cut_ {l : Launch} {D : va_G} {cl : List vw_C} {G : gAd} {post : MS → Int32 → Prop} (hcl : mC cl) {σ : MS} {a1 : Int32} {a2 : Int32} {a3 : Int64} (h : wm_cut_ post σ a1 a2 a3) : mMet l D cl G yX13_cut_ cX13_cut_ 14 (some .int) 7 [.ref (G.1 0), .int a1, .int a2, .long a3] σ (qI post) := by
  unfold wm_cut_ at h
  refine m_enter hcl (by decide +kernel) rfl [(0, .ref (G.1 0)), (1, .int a1), (2, .int a2), (3, .long a3)] rfl (Nat.le_of_ble_eq_true rfl) ?_
  intro E hE hm
  have hN := hm.2.2.2.2.2.2.1
  refine r_aload_n hE 0 dX13_cut__0 rfl rfl ?_
  refine r_iload_n hE 2 dX13_cut__1 rfl rfl ?_
  refine m_callVi hE hm [.int a2] [] mc_centre (km_centre hm.2.2.2.2.2.2.2.2 h) (by decide) rfl rfl (Nat.le_of_ble_eq_true rfl) dX13_cut__2 (fun s23 r24 h => ?_)
  refine r_istore hE [(5, .int r24), (0, .ref (G.1 0)), (1, .int a1), (2, .int a2), (3, .long a3)] dX13_cut__5 hN (by decide) rfl ?_
  refine r_aload_n hE 1 dX13_cut__7 rfl rfl ?_
  refine r_iload hE 0 dX13_cut__8 rfl ?_
  refine r_iload_n hE 2 dX13_cut__10 rfl rfl ?_
  refine m_callVi hE hm [.int r24, .int a1] [] mc_foot (km_foot hm.2.2.2.2.2.2.2.2 h) (by decide) rfl rfl (Nat.le_of_ble_eq_true rfl) dX13_cut__11 (fun s25 r26 h => ?_)
  refine r_istore hE [(6, .int r26), (5, .int r24), (0, .ref (G.1 0)), (1, .int a1), (2, .int a2), (3, .long a3)] dX13_cut__14 hN (by decide) rfl ?_
  refine r_aload_n hE 2 dX13_cut__16 rfl rfl ?_
  refine r_iload_n hE 4 dX13_cut__17 rfl rfl ?_
  refine r_iconst (v := (2 : Int32)) hE dX13_cut__18 (by decide) ?_
  refine m_callVv hE hm [.int a2, .int (2 : Int32)] [] mc_part (km_part hm.2.2.2.2.2.2.2.2 h) (by decide) rfl rfl (Nat.le_of_ble_eq_true rfl) dX13_cut__19 (fun s27 h => ?_)
  refine r_aload_n hE 2 dX13_cut__22 rfl rfl ?_
  refine r_iload hE 1 dX13_cut__23 rfl ?_
  refine r_iload hE 0 dX13_cut__25 rfl ?_
  refine m_callVv hE hm [.int r24, .int r26] [] mc_dist (km_dist hm.2.2.2.2.2.2.2.2 h) (by decide) rfl rfl (Nat.le_of_ble_eq_true rfl) dX13_cut__27 (fun s28 h => ?_)
  refine r_aload_n hE 2 dX13_cut__30 rfl rfl ?_
  refine m_callVv hE hm [] [] mc_less (km_less hm.2.2.2.2.2.2.2.2 h) (by decide) rfl rfl (Nat.le_of_ble_eq_true rfl) dX13_cut__31 (fun s29 h => ?_)
  refine r_aload_n hE 2 dX13_cut__34 rfl rfl ?_
  refine mg_top hE hm dX13_cut__35 ?_
  refine r_aload_n hE 2 dX13_cut__38 rfl rfl ?_
  refine mg_piled hE hm dX13_cut__39 ?_
  refine r_iconst (v := (1 : Int32)) hE dX13_cut__42 (by decide) ?_
  refine r_isub hE dX13_cut__43 ?_
  obtain ⟨hi, h⟩ := h
  refine ml_top hE hm dX13_cut__44 hi ?_
  refine r_lconst (v := (0 : Int64)) hE dX13_cut__45 (by decide) ?_
  refine r_lcmp hE dX13_cut__46 ?_
  refine r_if_ge hE 56 dX13_cut__47 (by decide) h (fun h => ?_) (fun h => ?_)
  · refine r_pick [2, 3, 5, 0] rfl ?_
    exact km_cut__56 hE hm _ _ _ _ h
  · refine r_aload_n hE 2 dX13_cut__50 rfl rfl ?_
    refine r_bipush (v := (8 : Int32)) hE dX13_cut__51 (by decide) ?_
    refine m_callVv hE hm [.int (8 : Int32)] [] mc_fail (km_fail hm.2.2.2.2.2.2.2.2 h) (by decide) rfl rfl (Nat.le_of_ble_eq_true rfl) dX13_cut__53 (fun s30 h => ?_)
    refine r_pick [2, 3, 5, 0] rfl ?_
    exact km_cut__56 hE hm _ _ _ _ h
/-! comes -/
def wm_comes (post : MS → Prop) (σ : MS) (a1 : Int32) : Prop := vp_in (m_comes σ) 1200 ∧ (∀ s1 : MS, s1 = m_come_s σ (m_comes σ).toNatClampNeg a1 → ∀ s2 : MS, s2 = m_comes_s s1 ((m_comes s1) + (1 : Int32)) → post s2)
set_option maxRecDepth 20000 in
theorem km_comes {l : Launch} {D : va_G} {cl : List vw_C} {G : gAd} {post : MS → Prop} (hcl : mC cl) {σ : MS} {a1 : Int32} (h : wm_comes post σ a1) : mMet l D cl G yX13_comes cX13_comes 2 none 1 [.ref (G.1 0), .int a1] σ (qV post) := by
  unfold wm_comes at h
  refine m_enter hcl (by decide +kernel) rfl [(0, .ref (G.1 0)), (1, .int a1)] rfl (Nat.le_of_ble_eq_true rfl) ?_
  intro E hE hm
  have hN := hm.2.2.2.2.2.2.1
  refine r_aload_n hE 0 dX13_comes_0 rfl rfl ?_
  refine mg_come hE hm dX13_comes_1 ?_
  refine r_aload_n hE 0 dX13_comes_4 rfl rfl ?_
  refine mg_comes hE hm dX13_comes_5 ?_
  refine r_iload_n hE 1 dX13_comes_8 rfl rfl ?_
  obtain ⟨hi, h⟩ := h
  refine ms_come hE hm dX13_comes_9 hi h (fun s1 h => ?_)
  refine r_aload_n hE 0 dX13_comes_10 rfl rfl ?_
  refine r_dup hE dX13_comes_11 rfl ?_
  refine mg_comes hE hm dX13_comes_12 ?_
  refine r_iconst (v := (1 : Int32)) hE dX13_comes_15 (by decide) ?_
  refine r_iadd hE dX13_comes_16 ?_
  refine mp_comes hE hm dX13_comes_17 h (fun s2 h => ?_)
  exact m_vret hE hm dX13_comes_20 h
/-! give -/
def wm_give_5 (post : MS → Prop) : Nat → MS → Prop
  | 0, _ => False
  | n + 1, σ => vp_in ((m_jobs σ) - (1 : Int32)) 2000 ∧ ((((m_job σ ((m_jobs σ) - (1 : Int32)).toNatClampNeg) = (5 : Int32)) → (post σ)) ∧ ((¬ ((m_job σ ((m_jobs σ) - (1 : Int32)).toNatClampNeg) = (5 : Int32))) → (∀ s1 : MS, s1 = m_jobs_s σ ((m_jobs σ) - (1 : Int32)) → wm_give_5 post n s1)))
set_option maxRecDepth 20000 in
theorem km_give_5 {E : gEnv} {l : Launch} {D : va_G} {cl : List vw_C} {G : gAd} {post : MS → Prop} (hE : gOK E cX13_give RX13 none 1) (hm : mOK E l D cl G (qV post) 2) : ∀ (n : Nat) (σ : MS), wm_give_5 post n σ → GW E (mW G σ) 5 [(0, .ref (G.1 0))] [] := by
  intro n
  induction n with
  | zero => intro σ h; exact h.elim
  | succ n ih =>
    intro σ h
    rw [wm_give_5] at h
    have hN := hm.2.2.2.2.2.2.1
    refine r_aload_n hE 0 dX13_give_5 rfl rfl ?_
    refine mg_job hE hm dX13_give_6 ?_
    refine r_aload_n hE 0 dX13_give_9 rfl rfl ?_
    refine mg_jobs hE hm dX13_give_10 ?_
    refine r_iconst (v := (1 : Int32)) hE dX13_give_13 (by decide) ?_
    refine r_isub hE dX13_give_14 ?_
    obtain ⟨hi, h⟩ := h
    refine ml_job hE hm dX13_give_15 hi ?_
    refine r_iconst (v := (5 : Int32)) hE dX13_give_16 (by decide) ?_
    refine r_icmp_eq hE 33 dX13_give_17 (by decide) h (fun h => ?_) (fun h => ?_)
    · exact m_vret hE hm dX13_give_33 h
    · refine r_aload_n hE 0 dX13_give_20 rfl rfl ?_
      refine r_dup hE dX13_give_21 rfl ?_
      refine mg_jobs hE hm dX13_give_22 ?_
      refine r_iconst (v := (1 : Int32)) hE dX13_give_25 (by decide) ?_
      refine r_isub hE dX13_give_26 ?_
      refine mp_jobs hE hm dX13_give_27 h (fun s1 h => ?_)
      refine r_goto hE 5 dX13_give_30 (by decide) ?_
      exact ih _ h
def wm_give (post : MS → Prop) (σ : MS) (a1 : Int32) : Prop := ∀ s2 : MS, s2 = m_gift_s σ a1 → ∃ k : Nat, wm_give_5 post k s2
set_option maxRecDepth 20000 in
theorem km_give {l : Launch} {D : va_G} {cl : List vw_C} {G : gAd} {post : MS → Prop} (hcl : mC cl) {σ : MS} {a1 : Int32} (h : wm_give post σ a1) : mMet l D cl G yX13_give cX13_give 2 none 1 [.ref (G.1 0), .int a1] σ (qV post) := by
  unfold wm_give at h
  refine m_enter hcl (by decide +kernel) rfl [(0, .ref (G.1 0)), (1, .int a1)] rfl (Nat.le_of_ble_eq_true rfl) ?_
  intro E hE hm
  have hN := hm.2.2.2.2.2.2.1
  refine r_aload_n hE 0 dX13_give_0 rfl rfl ?_
  refine r_iload_n hE 1 dX13_give_1 rfl rfl ?_
  refine mp_gift hE hm dX13_give_2 h (fun s2 h => ?_)
  refine r_pick [0] rfl ?_
  obtain ⟨k, h⟩ := h
  exact km_give_5 hE hm k _ h
/-! later -/
def wm_later (post : MS → Prop) (σ : MS) (a1 : Int32) (a2 : Int32) (a3 : Int64) : Prop := vp_in (m_jobs σ) 2000 ∧ (∀ s1 : MS, s1 = m_job_s σ (m_jobs σ).toNatClampNeg a1 → vp_in (m_jobs s1) 2000 ∧ (∀ s2 : MS, s2 = m_jobOf_s s1 (m_jobs s1).toNatClampNeg a2 → vp_in (m_jobs s2) 2000 ∧ (∀ s3 : MS, s3 = m_jobWith_s s2 (m_jobs s2).toNatClampNeg a3 → ∀ s4 : MS, s4 = m_jobs_s s3 ((m_jobs s3) + (1 : Int32)) → post s4)))
set_option maxRecDepth 20000 in
theorem km_later {l : Launch} {D : va_G} {cl : List vw_C} {G : gAd} {post : MS → Prop} (hcl : mC cl) {σ : MS} {a1 : Int32} {a2 : Int32} {a3 : Int64} (h : wm_later post σ a1 a2 a3) : mMet l D cl G yX13_later cX13_later 5 none 1 [.ref (G.1 0), .int a1, .int a2, .long a3] σ (qV post) := by
  unfold wm_later at h
  refine m_enter hcl (by decide +kernel) rfl [(0, .ref (G.1 0)), (1, .int a1), (2, .int a2), (3, .long a3)] rfl (Nat.le_of_ble_eq_true rfl) ?_
  intro E hE hm
  have hN := hm.2.2.2.2.2.2.1
  refine r_aload_n hE 0 dX13_later_0 rfl rfl ?_
  refine mg_job hE hm dX13_later_1 ?_
  refine r_aload_n hE 0 dX13_later_4 rfl rfl ?_
  refine mg_jobs hE hm dX13_later_5 ?_
  refine r_iload_n hE 1 dX13_later_8 rfl rfl ?_
  obtain ⟨hi, h⟩ := h
  refine ms_job hE hm dX13_later_9 hi h (fun s1 h => ?_)
  refine r_aload_n hE 0 dX13_later_10 rfl rfl ?_
  refine mg_jobOf hE hm dX13_later_11 ?_
  refine r_aload_n hE 0 dX13_later_14 rfl rfl ?_
  refine mg_jobs hE hm dX13_later_15 ?_
  refine r_iload_n hE 2 dX13_later_18 rfl rfl ?_
  obtain ⟨hi, h⟩ := h
  refine ms_jobOf hE hm dX13_later_19 hi h (fun s2 h => ?_)
  refine r_aload_n hE 0 dX13_later_20 rfl rfl ?_
  refine mg_jobWith hE hm dX13_later_21 ?_
  refine r_aload_n hE 0 dX13_later_24 rfl rfl ?_
  refine mg_jobs hE hm dX13_later_25 ?_
  refine r_lload_n hE 3 dX13_later_28 rfl rfl ?_
  obtain ⟨hi, h⟩ := h
  refine ms_jobWith hE hm dX13_later_29 hi h (fun s3 h => ?_)
  refine r_aload_n hE 0 dX13_later_30 rfl rfl ?_
  refine r_dup hE dX13_later_31 rfl ?_
  refine mg_jobs hE hm dX13_later_32 ?_
  refine r_iconst (v := (1 : Int32)) hE dX13_later_35 (by decide) ?_
  refine r_iadd hE dX13_later_36 ?_
  refine mp_jobs hE hm dX13_later_37 h (fun s4 h => ?_)
  exact m_vret hE hm dX13_later_40 h
/-! show -/
def wm_show (post : MS → Prop) (σ : MS) (a1 : Int32) : Prop := vp_in (m_statedMany σ) 40 ∧ (∀ s1 : MS, s1 = m_stated_s σ (m_statedMany σ).toNatClampNeg a1 → ∀ s2 : MS, s2 = m_statedMany_s s1 ((m_statedMany s1) + (1 : Int32)) → post s2)
set_option maxRecDepth 20000 in
theorem km_show {l : Launch} {D : va_G} {cl : List vw_C} {G : gAd} {post : MS → Prop} (hcl : mC cl) {σ : MS} {a1 : Int32} (h : wm_show post σ a1) : mMet l D cl G yX13_show cX13_show 2 none 1 [.ref (G.1 0), .int a1] σ (qV post) := by
  unfold wm_show at h
  refine m_enter hcl (by decide +kernel) rfl [(0, .ref (G.1 0)), (1, .int a1)] rfl (Nat.le_of_ble_eq_true rfl) ?_
  intro E hE hm
  have hN := hm.2.2.2.2.2.2.1
  refine r_aload_n hE 0 dX13_show_0 rfl rfl ?_
  refine mg_stated hE hm dX13_show_1 ?_
  refine r_aload_n hE 0 dX13_show_4 rfl rfl ?_
  refine mg_statedMany hE hm dX13_show_5 ?_
  refine r_iload_n hE 1 dX13_show_8 rfl rfl ?_
  obtain ⟨hi, h⟩ := h
  refine ms_stated hE hm dX13_show_9 hi h (fun s1 h => ?_)
  refine r_aload_n hE 0 dX13_show_10 rfl rfl ?_
  refine r_dup hE dX13_show_11 rfl ?_
  refine mg_statedMany hE hm dX13_show_12 ?_
  refine r_iconst (v := (1 : Int32)) hE dX13_show_15 (by decide) ?_
  refine r_iadd hE dX13_show_16 ?_
  refine mp_statedMany hE hm dX13_show_17 h (fun s2 h => ?_)
  exact m_vret hE hm dX13_show_20 h
/-! behindFall -/
def wm_behindFall (post : MS → Prop) (σ : MS) (a1 : Int32) : Prop := vp_in a1 600 ∧ (((¬ ((m_kind σ a1.toNatClampNeg) = (0 : Int32))) → (vp_in a1 600 ∧ (((¬ ((m_kind σ a1.toNatClampNeg) = (2 : Int32))) → (vp_in a1 600 ∧ (((¬ ((m_kind σ a1.toNatClampNeg) = (4 : Int32))) → (vp_in a1 600 ∧ (((¬ ((m_kind σ a1.toNatClampNeg) = (6 : Int32))) → (post σ)) ∧ (((m_kind σ a1.toNatClampNeg) = (6 : Int32)) → (wm_give (fun (s1 : MS) => post s1) σ (-1 : Int32)))))) ∧ (((m_kind σ a1.toNatClampNeg) = (4 : Int32)) → (wm_show (fun (s2 : MS) => post s2) σ (-1 : Int32)))))) ∧ (((m_kind σ a1.toNatClampNeg) = (2 : Int32)) → (vp_in a1 600 ∧ (wm_later (fun (s3 : MS) => post s3) σ (0 : Int32) (m_three σ a1.toNatClampNeg) (0 : Int64))))))) ∧ (((m_kind σ a1.toNatClampNeg) = (0 : Int32)) → (vp_in a1 600 ∧ (vp_in (((20 : Int32) * (m_depth σ)) + (m_one σ a1.toNatClampNeg)) 180 ∧ (∀ s4 : MS, s4 = m_held_s σ (((20 : Int32) * (m_depth σ)) + (m_one σ a1.toNatClampNeg)).toNatClampNeg (-1 : Int32) → post s4)))))
set_option maxRecDepth 20000 in
theorem km_behindFall {l : Launch} {D : va_G} {cl : List vw_C} {G : gAd} {post : MS → Prop} (hcl : mC cl) {σ : MS} {a1 : Int32} (h : wm_behindFall post σ a1) : mMet l D cl G yX13_behindFall cX13_behindFall 2 none 2 [.ref (G.1 0), .int a1] σ (qV post) := by
  unfold wm_behindFall at h
  refine m_enter hcl (by decide +kernel) rfl [(0, .ref (G.1 0)), (1, .int a1)] rfl (Nat.le_of_ble_eq_true rfl) ?_
  intro E hE hm
  have hN := hm.2.2.2.2.2.2.1
  refine r_aload_n hE 0 dX13_behindFall_0 rfl rfl ?_
  refine mg_kind hE hm dX13_behindFall_1 ?_
  refine r_iload_n hE 1 dX13_behindFall_4 rfl rfl ?_
  obtain ⟨hi, h⟩ := h
  refine ml_kind hE hm dX13_behindFall_5 hi ?_
  refine r_if_ne hE 32 dX13_behindFall_6 (by decide) h (fun h => ?_) (fun h => ?_)
  · refine r_aload_n hE 0 dX13_behindFall_32 rfl rfl ?_
    refine mg_kind hE hm dX13_behindFall_33 ?_
    refine r_iload_n hE 1 dX13_behindFall_36 rfl rfl ?_
    obtain ⟨hi, h⟩ := h
    refine ml_kind hE hm dX13_behindFall_37 hi ?_
    refine r_iconst (v := (2 : Int32)) hE dX13_behindFall_38 (by decide) ?_
    refine r_icmp_ne hE 57 dX13_behindFall_39 (by decide) h (fun h => ?_) (fun h => ?_)
    · refine r_aload_n hE 0 dX13_behindFall_57 rfl rfl ?_
      refine mg_kind hE hm dX13_behindFall_58 ?_
      refine r_iload_n hE 1 dX13_behindFall_61 rfl rfl ?_
      obtain ⟨hi, h⟩ := h
      refine ml_kind hE hm dX13_behindFall_62 hi ?_
      refine r_iconst (v := (4 : Int32)) hE dX13_behindFall_63 (by decide) ?_
      refine r_icmp_ne hE 75 dX13_behindFall_64 (by decide) h (fun h => ?_) (fun h => ?_)
      · refine r_aload_n hE 0 dX13_behindFall_75 rfl rfl ?_
        refine mg_kind hE hm dX13_behindFall_76 ?_
        refine r_iload_n hE 1 dX13_behindFall_79 rfl rfl ?_
        obtain ⟨hi, h⟩ := h
        refine ml_kind hE hm dX13_behindFall_80 hi ?_
        refine r_bipush (v := (6 : Int32)) hE dX13_behindFall_81 (by decide) ?_
        refine r_icmp_ne hE 91 dX13_behindFall_83 (by decide) h (fun h => ?_) (fun h => ?_)
        · exact m_vret hE hm dX13_behindFall_91 h
        · refine r_aload_n hE 0 dX13_behindFall_86 rfl rfl ?_
          refine r_iconst (v := (-1 : Int32)) hE dX13_behindFall_87 (by decide) ?_
          refine m_callVv hE hm [.int (-1 : Int32)] [] mc_give (km_give hm.2.2.2.2.2.2.2.2 h) (by decide) rfl rfl (Nat.le_of_ble_eq_true rfl) dX13_behindFall_88 (fun s1 h => ?_)
          exact m_vret hE hm dX13_behindFall_91 h
      · refine r_aload_n hE 0 dX13_behindFall_67 rfl rfl ?_
        refine r_iconst (v := (-1 : Int32)) hE dX13_behindFall_68 (by decide) ?_
        refine m_callVv hE hm [.int (-1 : Int32)] [] mc_show (km_show hm.2.2.2.2.2.2.2.2 h) (by decide) rfl rfl (Nat.le_of_ble_eq_true rfl) dX13_behindFall_69 (fun s2 h => ?_)
        refine r_goto hE 91 dX13_behindFall_72 (by decide) ?_
        exact m_vret hE hm dX13_behindFall_91 h
    · refine r_aload_n hE 0 dX13_behindFall_42 rfl rfl ?_
      refine r_iconst (v := (0 : Int32)) hE dX13_behindFall_43 (by decide) ?_
      refine r_aload_n hE 0 dX13_behindFall_44 rfl rfl ?_
      refine mg_three hE hm dX13_behindFall_45 ?_
      refine r_iload_n hE 1 dX13_behindFall_48 rfl rfl ?_
      obtain ⟨hi, h⟩ := h
      refine ml_three hE hm dX13_behindFall_49 hi ?_
      refine r_lconst (v := (0 : Int64)) hE dX13_behindFall_50 (by decide) ?_
      refine m_callVv hE hm [.int (0 : Int32), .int (m_three σ a1.toNatClampNeg), .long (0 : Int64)] [] mc_later (km_later hm.2.2.2.2.2.2.2.2 h) (by decide) rfl rfl (Nat.le_of_ble_eq_true rfl) dX13_behindFall_51 (fun s3 h => ?_)
      refine r_goto hE 91 dX13_behindFall_54 (by decide) ?_
      exact m_vret hE hm dX13_behindFall_91 h
  · refine r_aload_n hE 0 dX13_behindFall_9 rfl rfl ?_
    refine mg_held hE hm dX13_behindFall_10 ?_
    refine r_bipush (v := (20 : Int32)) hE dX13_behindFall_13 (by decide) ?_
    refine r_aload_n hE 0 dX13_behindFall_15 rfl rfl ?_
    refine mg_depth hE hm dX13_behindFall_16 ?_
    refine r_imul hE dX13_behindFall_19 ?_
    refine r_aload_n hE 0 dX13_behindFall_20 rfl rfl ?_
    refine mg_one hE hm dX13_behindFall_21 ?_
    refine r_iload_n hE 1 dX13_behindFall_24 rfl rfl ?_
    obtain ⟨hi, h⟩ := h
    refine ml_one hE hm dX13_behindFall_25 hi ?_
    refine r_iadd hE dX13_behindFall_26 ?_
    refine r_iconst (v := (-1 : Int32)) hE dX13_behindFall_27 (by decide) ?_
    obtain ⟨hi, h⟩ := h
    refine ms_held hE hm dX13_behindFall_28 hi h (fun s4 h => ?_)
    refine r_goto hE 91 dX13_behindFall_29 (by decide) ?_
    exact m_vret hE hm dX13_behindFall_91 h
/-! note -/
def wm_note_62 (post : MS → Prop) (σ : MS) (t1 : Int32) : Prop := isB t1 ∧ (∀ s1 : MS, s1 = m_spent_s σ t1 → post s1)
set_option maxRecDepth 20000 in
theorem km_note_62 {E : gEnv} {l : Launch} {D : va_G} {cl : List vw_C} {G : gAd} {post : MS → Prop} (hE : gOK E cX13_note RX13 none 1) (hm : mOK E l D cl G (qV post) 3) (σ : MS) (t1 : Int32) (h : wm_note_62 post σ t1) : GW E (mW G σ) 62 [] [.int t1, .ref (G.1 0)] := by
  unfold wm_note_62 at h
  have hN := hm.2.2.2.2.2.2.1
  obtain ⟨hb, h⟩ := h
  refine mp_spent hE hm dX13_note_62 hb h (fun s1 h => ?_)
  exact m_vret hE hm dX13_note_65 h
def wm_note_57 (post : MS → Prop) (σ : MS) : Prop := wm_note_62 post σ (1 : Int32)
set_option maxRecDepth 20000 in
theorem km_note_57 {E : gEnv} {l : Launch} {D : va_G} {cl : List vw_C} {G : gAd} {post : MS → Prop} (hE : gOK E cX13_note RX13 none 1) (hm : mOK E l D cl G (qV post) 3) (σ : MS) (h : wm_note_57 post σ) : GW E (mW G σ) 57 [] [.ref (G.1 0)] := by
  unfold wm_note_57 at h
  have hN := hm.2.2.2.2.2.2.1
  refine r_iconst (v := (1 : Int32)) hE dX13_note_57 (by decide) ?_
  refine r_goto hE 62 dX13_note_58 (by decide) ?_
  exact km_note_62 hE hm _ _ h
def wm_note (post : MS → Prop) (σ : MS) (a1 : Int32) (a2 : Int32) : Prop := vp_in (m_falls σ) 12 ∧ (∀ s2 : MS, s2 = m_fallWhat_s σ (m_falls σ).toNatClampNeg a1 → vp_in (m_falls s2) 12 ∧ (∀ s3 : MS, s3 = m_fallAt_s s2 (m_falls s2).toNatClampNeg a2 → ∀ s4 : MS, s4 = m_falls_s s3 ((m_falls s3) + (1 : Int32)) → ∀ s5 : MS, s5 = m_failure_s s4 (0 : Int32) → ∀ s6 : MS, s6 = m_piled_s s5 (0 : Int32) → ((¬ ((m_spent s6) = (0 : Int32))) → (wm_note_57 post s6)) ∧ (((m_spent s6) = (0 : Int32)) → (((¬ ((m_falls s6) = (12 : Int32))) → (wm_note_62 post s6 (0 : Int32))) ∧ (((m_falls s6) = (12 : Int32)) → (wm_note_57 post s6))))))
set_option maxRecDepth 20000 in
theorem km_note {l : Launch} {D : va_G} {cl : List vw_C} {G : gAd} {post : MS → Prop} (hcl : mC cl) {σ : MS} {a1 : Int32} {a2 : Int32} (h : wm_note post σ a1 a2) : mMet l D cl G yX13_note cX13_note 3 none 1 [.ref (G.1 0), .int a1, .int a2] σ (qV post) := by
  unfold wm_note at h
  refine m_enter hcl (by decide +kernel) rfl [(0, .ref (G.1 0)), (1, .int a1), (2, .int a2)] rfl (Nat.le_of_ble_eq_true rfl) ?_
  intro E hE hm
  have hN := hm.2.2.2.2.2.2.1
  refine r_aload_n hE 0 dX13_note_0 rfl rfl ?_
  refine mg_fallWhat hE hm dX13_note_1 ?_
  refine r_aload_n hE 0 dX13_note_4 rfl rfl ?_
  refine mg_falls hE hm dX13_note_5 ?_
  refine r_iload_n hE 1 dX13_note_8 rfl rfl ?_
  obtain ⟨hi, h⟩ := h
  refine ms_fallWhat hE hm dX13_note_9 hi h (fun s2 h => ?_)
  refine r_aload_n hE 0 dX13_note_10 rfl rfl ?_
  refine mg_fallAt hE hm dX13_note_11 ?_
  refine r_aload_n hE 0 dX13_note_14 rfl rfl ?_
  refine mg_falls hE hm dX13_note_15 ?_
  refine r_iload_n hE 2 dX13_note_18 rfl rfl ?_
  obtain ⟨hi, h⟩ := h
  refine ms_fallAt hE hm dX13_note_19 hi h (fun s3 h => ?_)
  refine r_aload_n hE 0 dX13_note_20 rfl rfl ?_
  refine r_dup hE dX13_note_21 rfl ?_
  refine mg_falls hE hm dX13_note_22 ?_
  refine r_iconst (v := (1 : Int32)) hE dX13_note_25 (by decide) ?_
  refine r_iadd hE dX13_note_26 ?_
  refine mp_falls hE hm dX13_note_27 h (fun s4 h => ?_)
  refine r_aload_n hE 0 dX13_note_30 rfl rfl ?_
  refine r_iconst (v := (0 : Int32)) hE dX13_note_31 (by decide) ?_
  refine mp_failure hE hm dX13_note_32 h (fun s5 h => ?_)
  refine r_aload_n hE 0 dX13_note_35 rfl rfl ?_
  refine r_iconst (v := (0 : Int32)) hE dX13_note_36 (by decide) ?_
  refine mp_piled hE hm dX13_note_37 h (fun s6 h => ?_)
  refine r_aload_n hE 0 dX13_note_40 rfl rfl ?_
  refine r_aload_n hE 0 dX13_note_41 rfl rfl ?_
  refine mg_spent hE hm dX13_note_42 ?_
  refine r_if_ne hE 57 dX13_note_45 (by decide) h (fun h => ?_) (fun h => ?_)
  · refine r_pick [] rfl ?_
    exact km_note_57 hE hm _ h
  · refine r_aload_n hE 0 dX13_note_48 rfl rfl ?_
    refine mg_falls hE hm dX13_note_49 ?_
    refine r_bipush (v := (12 : Int32)) hE dX13_note_52 (by decide) ?_
    refine r_icmp_ne hE 61 dX13_note_54 (by decide) h (fun h => ?_) (fun h => ?_)
    · refine r_iconst (v := (0 : Int32)) hE dX13_note_61 (by decide) ?_
      refine r_pick [] rfl ?_
      exact km_note_62 hE hm _ _ h
    · refine r_pick [] rfl ?_
      exact km_note_57 hE hm _ h
/-! fails -/
def wm_fails_0 (post : MS → Prop) : Nat → MS → Int32 → Int32 → Prop
  | 0, _, _, _ => False
  | n + 1, σ, v1, v2 => vp_in ((m_jobs σ) - (1 : Int32)) 2000 ∧ ((((m_job σ ((m_jobs σ) - (1 : Int32)).toNatClampNeg) = (3 : Int32)) → (∀ s1 : MS, s1 = m_jobs_s σ ((m_jobs σ) - (1 : Int32)) → vp_in (m_jobs s1) 2000 ∧ (∀ s2 : MS, s2 = m_comes_s s1 ((m_jobWith s1 (m_jobs s1).toNatClampNeg).toInt32) → vp_in v2 600 ∧ (wm_note (fun (s3 : MS) => ((¬ ((m_spent s3) = (0 : Int32))) → (post s3)) ∧ (((m_spent s3) = (0 : Int32)) → (vp_in (m_jobs s3) 2000 ∧ (wm_behindFall (fun (s4 : MS) => post s4) s3 (m_jobOf s3 (m_jobs s3).toNatClampNeg))))) s2 v1 (m_byteOf s2 v2.toNatClampNeg))))) ∧ ((¬ ((m_job σ ((m_jobs σ) - (1 : Int32)).toNatClampNeg) = (3 : Int32))) → (∀ s5 : MS, s5 = m_jobs_s σ ((m_jobs σ) - (1 : Int32)) → wm_fails_0 post n s5 v1 v2)))
set_option maxRecDepth 20000 in
theorem km_fails_0 {E : gEnv} {l : Launch} {D : va_G} {cl : List vw_C} {G : gAd} {post : MS → Prop} (hE : gOK E cX13_fails RX13 none 3) (hm : mOK E l D cl G (qV post) 3) : ∀ (n : Nat) (σ : MS) (v1 : Int32) (v2 : Int32), wm_fails_0 post n σ v1 v2 → GW E (mW G σ) 0 [(0, .ref (G.1 0)), (1, .int v1), (2, .int v2)] [] := by
  intro n
  induction n with
  | zero => intro σ v1 v2 h; exact h.elim
  | succ n ih =>
    intro σ v1 v2 h
    rw [wm_fails_0] at h
    have hN := hm.2.2.2.2.2.2.1
    refine r_aload_n hE 0 dX13_fails_0 rfl rfl ?_
    refine mg_job hE hm dX13_fails_1 ?_
    refine r_aload_n hE 0 dX13_fails_4 rfl rfl ?_
    refine mg_jobs hE hm dX13_fails_5 ?_
    refine r_iconst (v := (1 : Int32)) hE dX13_fails_8 (by decide) ?_
    refine r_isub hE dX13_fails_9 ?_
    obtain ⟨hi, h⟩ := h
    refine ml_job hE hm dX13_fails_10 hi ?_
    refine r_iconst (v := (3 : Int32)) hE dX13_fails_11 (by decide) ?_
    refine r_icmp_eq hE 28 dX13_fails_12 (by decide) h (fun h => ?_) (fun h => ?_)
    · refine r_aload_n hE 0 dX13_fails_28 rfl rfl ?_
      refine r_dup hE dX13_fails_29 rfl ?_
      refine mg_jobs hE hm dX13_fails_30 ?_
      refine r_iconst (v := (1 : Int32)) hE dX13_fails_33 (by decide) ?_
      refine r_isub hE dX13_fails_34 ?_
      refine mp_jobs hE hm dX13_fails_35 h (fun s1 h => ?_)
      refine r_aload_n hE 0 dX13_fails_38 rfl rfl ?_
      refine r_aload_n hE 0 dX13_fails_39 rfl rfl ?_
      refine mg_jobWith hE hm dX13_fails_40 ?_
      refine r_aload_n hE 0 dX13_fails_43 rfl rfl ?_
      refine mg_jobs hE hm dX13_fails_44 ?_
      obtain ⟨hi, h⟩ := h
      refine ml_jobWith hE hm dX13_fails_47 hi ?_
      refine r_l2i hE dX13_fails_48 ?_
      refine mp_comes hE hm dX13_fails_49 h (fun s2 h => ?_)
      refine r_aload_n hE 0 dX13_fails_52 rfl rfl ?_
      refine r_iload_n hE 1 dX13_fails_53 rfl rfl ?_
      refine r_aload_n hE 0 dX13_fails_54 rfl rfl ?_
      refine mg_byteOf hE hm dX13_fails_55 ?_
      refine r_iload_n hE 2 dX13_fails_58 rfl rfl ?_
      obtain ⟨hi, h⟩ := h
      refine ml_byteOf hE hm dX13_fails_59 hi ?_
      refine m_callVv hE hm [.int v1, .int (m_byteOf s2 v2.toNatClampNeg)] [] mc_note (km_note hm.2.2.2.2.2.2.2.2 h) (by decide) rfl rfl (Nat.le_of_ble_eq_true rfl) dX13_fails_60 (fun s3 h => ?_)
      refine r_aload_n hE 0 dX13_fails_63 rfl rfl ?_
      refine mg_spent hE hm dX13_fails_64 ?_
      refine r_if_ne hE 83 dX13_fails_67 (by decide) h (fun h => ?_) (fun h => ?_)
      · exact m_vret hE hm dX13_fails_83 h
      · refine r_aload_n hE 0 dX13_fails_70 rfl rfl ?_
        refine r_aload_n hE 0 dX13_fails_71 rfl rfl ?_
        refine mg_jobOf hE hm dX13_fails_72 ?_
        refine r_aload_n hE 0 dX13_fails_75 rfl rfl ?_
        refine mg_jobs hE hm dX13_fails_76 ?_
        obtain ⟨hi, h⟩ := h
        refine ml_jobOf hE hm dX13_fails_79 hi ?_
        refine m_callVv hE hm [.int (m_jobOf s3 (m_jobs s3).toNatClampNeg)] [] mc_behindFall (km_behindFall hm.2.2.2.2.2.2.2.2 h) (by decide) rfl rfl (Nat.le_of_ble_eq_true rfl) dX13_fails_80 (fun s4 h => ?_)
        exact m_vret hE hm dX13_fails_83 h
    · refine r_aload_n hE 0 dX13_fails_15 rfl rfl ?_
      refine r_dup hE dX13_fails_16 rfl ?_
      refine mg_jobs hE hm dX13_fails_17 ?_
      refine r_iconst (v := (1 : Int32)) hE dX13_fails_20 (by decide) ?_
      refine r_isub hE dX13_fails_21 ?_
      refine mp_jobs hE hm dX13_fails_22 h (fun s5 h => ?_)
      refine r_goto hE 0 dX13_fails_25 (by decide) ?_
      exact ih _ _ _ h
def wm_fails (post : MS → Prop) (σ : MS) (a1 : Int32) (a2 : Int32) : Prop := ∃ k : Nat, wm_fails_0 post k σ a1 a2
set_option maxRecDepth 20000 in
theorem km_fails {l : Launch} {D : va_G} {cl : List vw_C} {G : gAd} {post : MS → Prop} (hcl : mC cl) {σ : MS} {a1 : Int32} {a2 : Int32} (h : wm_fails post σ a1 a2) : mMet l D cl G yX13_fails cX13_fails 3 none 3 [.ref (G.1 0), .int a1, .int a2] σ (qV post) := by
  unfold wm_fails at h
  refine m_enter hcl (by decide +kernel) rfl [(0, .ref (G.1 0)), (1, .int a1), (2, .int a2)] rfl (Nat.le_of_ble_eq_true rfl) ?_
  intro E hE hm
  have hN := hm.2.2.2.2.2.2.1
  obtain ⟨k, h⟩ := h
  exact km_fails_0 hE hm k _ _ _ h
/-! isWhole -/
def wm_isWhole (post : MS → Int32 → Prop) (σ : MS) (a1 : Int32) : Prop := vp_in a1 480 ∧ (((¬ ((m_sort σ a1.toNatClampNeg) = (0 : Int32))) → (post σ (0 : Int32))) ∧ (((m_sort σ a1.toNatClampNeg) = (0 : Int32)) → (vp_in ((7 : Int32) * a1) 3360 ∧ (((¬ ((lg_cmp (m_low σ ((7 : Int32) * a1).toNatClampNeg) (1 : Int64)) = (0 : Int32))) → (post σ (0 : Int32))) ∧ (((lg_cmp (m_low σ ((7 : Int32) * a1).toNatClampNeg) (1 : Int64)) = (0 : Int32)) → (post σ (1 : Int32)))))))
set_option maxRecDepth 20000 in
theorem km_isWhole {l : Launch} {D : va_G} {cl : List vw_C} {G : gAd} {post : MS → Int32 → Prop} (hcl : mC cl) {σ : MS} {a1 : Int32} (h : wm_isWhole post σ a1) : mMet l D cl G yX13_isWhole cX13_isWhole 2 (some .boolean) 1 [.ref (G.1 0), .int a1] σ (qI post) := by
  unfold wm_isWhole at h
  refine m_enter hcl (by decide +kernel) rfl [(0, .ref (G.1 0)), (1, .int a1)] rfl (Nat.le_of_ble_eq_true rfl) ?_
  intro E hE hm
  have hN := hm.2.2.2.2.2.2.1
  refine r_aload_n hE 0 dX13_isWhole_0 rfl rfl ?_
  refine mg_sort hE hm dX13_isWhole_1 ?_
  refine r_iload_n hE 1 dX13_isWhole_4 rfl rfl ?_
  obtain ⟨hi, h⟩ := h
  refine ml_sort hE hm dX13_isWhole_5 hi ?_
  refine r_if_ne hE 27 dX13_isWhole_6 (by decide) h (fun h => ?_) (fun h => ?_)
  · refine r_iconst (v := (0 : Int32)) hE dX13_isWhole_27 (by decide) ?_
    exact m_zret hE hm dX13_isWhole_28 (Or.inl rfl) h
  · refine r_aload_n hE 0 dX13_isWhole_9 rfl rfl ?_
    refine mg_low hE hm dX13_isWhole_10 ?_
    refine r_bipush (v := (7 : Int32)) hE dX13_isWhole_13 (by decide) ?_
    refine r_iload_n hE 1 dX13_isWhole_15 rfl rfl ?_
    refine r_imul hE dX13_isWhole_16 ?_
    obtain ⟨hi, h⟩ := h
    refine ml_low hE hm dX13_isWhole_17 hi ?_
    refine r_lconst (v := (1 : Int64)) hE dX13_isWhole_18 (by decide) ?_
    refine r_lcmp hE dX13_isWhole_19 ?_
    refine r_if_ne hE 27 dX13_isWhole_20 (by decide) h (fun h => ?_) (fun h => ?_)
    · refine r_iconst (v := (0 : Int32)) hE dX13_isWhole_27 (by decide) ?_
      exact m_zret hE hm dX13_isWhole_28 (Or.inl rfl) h
    · refine r_iconst (v := (1 : Int32)) hE dX13_isWhole_23 (by decide) ?_
      refine r_goto hE 28 dX13_isWhole_24 (by decide) ?_
      exact m_zret hE hm dX13_isWhole_28 (Or.inr rfl) h
/-! taken -/
def wm_taken (post : MS → Int32 → Prop) (σ : MS) : Prop := ∀ s1 : MS, s1 = m_comes_s σ ((m_comes σ) - (1 : Int32)) → vp_in (m_comes s1) 1200 ∧ (post s1 (m_come s1 (m_comes s1).toNatClampNeg))
set_option maxRecDepth 20000 in
theorem km_taken {l : Launch} {D : va_G} {cl : List vw_C} {G : gAd} {post : MS → Int32 → Prop} (hcl : mC cl) {σ : MS} (h : wm_taken post σ) : mMet l D cl G yX13_taken cX13_taken 1 (some .int) 1 [.ref (G.1 0)] σ (qI post) := by
  unfold wm_taken at h
  refine m_enter hcl (by decide +kernel) rfl [(0, .ref (G.1 0))] rfl (Nat.le_of_ble_eq_true rfl) ?_
  intro E hE hm
  have hN := hm.2.2.2.2.2.2.1
  refine r_aload_n hE 0 dX13_taken_0 rfl rfl ?_
  refine r_dup hE dX13_taken_1 rfl ?_
  refine mg_comes hE hm dX13_taken_2 ?_
  refine r_iconst (v := (1 : Int32)) hE dX13_taken_5 (by decide) ?_
  refine r_isub hE dX13_taken_6 ?_
  refine mp_comes hE hm dX13_taken_7 h (fun s1 h => ?_)
  refine r_aload_n hE 0 dX13_taken_10 rfl rfl ?_
  refine mg_come hE hm dX13_taken_11 ?_
  refine r_aload_n hE 0 dX13_taken_14 rfl rfl ?_
  refine mg_comes hE hm dX13_taken_15 ?_
  obtain ⟨hi, h⟩ := h
  refine ml_come hE hm dX13_taken_18 hi ?_
  exact m_iret hE hm dX13_taken_19 h
/-! applyAt -/
def wm_applyAt_103 (post : MS → Prop) (σ : MS) (v1 : Int32) (v2 : Int32) (v3 : Int32) (t0 : Int32) : Prop := ((t0 ≤ (0 : Int32)) → (vp_in v3 480 ∧ (vp_in ((7 : Int32) * v2) 3360 ∧ (vp_in (((20 : Int32) * (m_rowOf σ v3.toNatClampNeg)) + ((m_up σ ((7 : Int32) * v2).toNatClampNeg).toInt32)) 9600 ∧ (wm_comes (fun (s1 : MS) => post s1) σ (m_rowItem σ (((20 : Int32) * (m_rowOf σ v3.toNatClampNeg)) + ((m_up σ ((7 : Int32) * v2).toNatClampNeg).toInt32)).toNatClampNeg)))))) ∧ ((¬ (t0 ≤ (0 : Int32))) → (wm_fails (fun (s2 : MS) => post s2) σ t0 v1))
set_option maxRecDepth 20000 in
theorem km_applyAt_103 {E : gEnv} {l : Launch} {D : va_G} {cl : List vw_C} {G : gAd} {post : MS → Prop} (hE : gOK E cX13_applyAt RX13 none 4) (hm : mOK E l D cl G (qV post) 5) (σ : MS) (v1 : Int32) (v2 : Int32) (v3 : Int32) (t0 : Int32) (h : wm_applyAt_103 post σ v1 v2 v3 t0) : GW E (mW G σ) 103 [(0, .ref (G.1 0)), (1, .int v1), (2, .int v2), (3, .int v3)] [.int t0] := by
  unfold wm_applyAt_103 at h
  have hN := hm.2.2.2.2.2.2.1
  refine r_istore hE [(4, .int t0), (0, .ref (G.1 0)), (1, .int v1), (2, .int v2), (3, .int v3)] dX13_applyAt_103 hN (by decide) rfl ?_
  refine r_iload hE 0 dX13_applyAt_105 rfl ?_
  refine r_if_le hE 120 dX13_applyAt_107 (by decide) h (fun h => ?_) (fun h => ?_)
  · refine r_aload_n hE 1 dX13_applyAt_120 rfl rfl ?_
    refine r_aload_n hE 1 dX13_applyAt_121 rfl rfl ?_
    refine mg_rowItem hE hm dX13_applyAt_122 ?_
    refine r_bipush (v := (20 : Int32)) hE dX13_applyAt_125 (by decide) ?_
    refine r_aload_n hE 1 dX13_applyAt_127 rfl rfl ?_
    refine mg_rowOf hE hm dX13_applyAt_128 ?_
    refine r_iload_n hE 4 dX13_applyAt_131 rfl rfl ?_
    obtain ⟨hi, h⟩ := h
    refine ml_rowOf hE hm dX13_applyAt_132 hi ?_
    refine r_imul hE dX13_applyAt_133 ?_
    refine r_aload_n hE 1 dX13_applyAt_134 rfl rfl ?_
    refine mg_up hE hm dX13_applyAt_135 ?_
    refine r_bipush (v := (7 : Int32)) hE dX13_applyAt_138 (by decide) ?_
    refine r_iload_n hE 3 dX13_applyAt_140 rfl rfl ?_
    refine r_imul hE dX13_applyAt_141 ?_
    obtain ⟨hi, h⟩ := h
    refine ml_up hE hm dX13_applyAt_142 hi ?_
    refine r_l2i hE dX13_applyAt_143 ?_
    refine r_iadd hE dX13_applyAt_144 ?_
    obtain ⟨hi, h⟩ := h
    refine ml_rowItem hE hm dX13_applyAt_145 hi ?_
    refine m_callVv hE hm [.int (m_rowItem σ (((20 : Int32) * (m_rowOf σ v3.toNatClampNeg)) + ((m_up σ ((7 : Int32) * v2).toNatClampNeg).toInt32)).toNatClampNeg)] [] mc_comes (km_comes hm.2.2.2.2.2.2.2.2 h) (by decide) rfl rfl (Nat.le_of_ble_eq_true rfl) dX13_applyAt_146 (fun s1 h => ?_)
    exact m_vret hE hm dX13_applyAt_149 h
  · refine r_aload_n hE 1 dX13_applyAt_110 rfl rfl ?_
    refine r_iload hE 0 dX13_applyAt_111 rfl ?_
    refine r_iload_n hE 2 dX13_applyAt_113 rfl rfl ?_
    refine m_callVv hE hm [.int t0, .int v1] [] mc_fails (km_fails hm.2.2.2.2.2.2.2.2 h) (by decide) rfl rfl (Nat.le_of_ble_eq_true rfl) dX13_applyAt_114 (fun s2 h => ?_)
    refine r_goto hE 149 dX13_applyAt_117 (by decide) ?_
    exact m_vret hE hm dX13_applyAt_149 h
def wm_applyAt (post : MS → Prop) (σ : MS) (a1 : Int32) : Prop := wm_taken (fun (s3 : MS) (r4 : Int32) => vp_in a1 600 ∧ (vp_in (((20 : Int32) * (m_depth s3)) + (m_one s3 a1.toNatClampNeg)) 180 ∧ (∀ x5 : Int32, x5 = m_held s3 (((20 : Int32) * (m_depth s3)) + (m_one s3 a1.toNatClampNeg)).toNatClampNeg → (((0 : Int32) ≤ x5) → (vp_in x5 480 ∧ ((((m_sort s3 x5.toNatClampNeg) = (6 : Int32)) → ((((0 : Int32) ≤ r4) → (wm_isWhole (fun (s6 : MS) (r7 : Int32) => ((¬ (r7 = (0 : Int32))) → (vp_in ((7 : Int32) * r4) 3360 ∧ (vp_in x5 480 ∧ (vp_in (m_rowOf s6 x5.toNatClampNeg) 480 ∧ (wm_in (fun (s8 : MS) (r9 : Int32) => ((¬ (r9 = (0 : Int32))) → (wm_applyAt_103 post s8 a1 r4 x5 (0 : Int32))) ∧ ((r9 = (0 : Int32)) → (wm_applyAt_103 post s8 a1 r4 x5 (3 : Int32)))) s6 (m_up s6 ((7 : Int32) * r4).toNatClampNeg) (0 : Int64) (((m_rowSize s6 (m_rowOf s6 x5.toNatClampNeg).toNatClampNeg) - (1 : Int32)).toInt64)))))) ∧ ((r7 = (0 : Int32)) → (wm_applyAt_103 post s6 a1 r4 x5 (2 : Int32)))) s3 r4)) ∧ ((¬ ((0 : Int32) ≤ r4)) → (wm_applyAt_103 post s3 a1 r4 x5 (1 : Int32))))) ∧ ((¬ ((m_sort s3 x5.toNatClampNeg) = (6 : Int32))) → (wm_applyAt_103 post s3 a1 r4 x5 (2 : Int32)))))) ∧ ((¬ ((0 : Int32) ≤ x5)) → (wm_applyAt_103 post s3 a1 r4 x5 (1 : Int32)))))) σ
set_option maxRecDepth 20000 in
theorem km_applyAt {l : Launch} {D : va_G} {cl : List vw_C} {G : gAd} {post : MS → Prop} (hcl : mC cl) {σ : MS} {a1 : Int32} (h : wm_applyAt post σ a1) : mMet l D cl G yX13_applyAt cX13_applyAt 5 none 4 [.ref (G.1 0), .int a1] σ (qV post) := by
  unfold wm_applyAt at h
  refine m_enter hcl (by decide +kernel) rfl [(0, .ref (G.1 0)), (1, .int a1)] rfl (Nat.le_of_ble_eq_true rfl) ?_
  intro E hE hm
  have hN := hm.2.2.2.2.2.2.1
  refine r_aload_n hE 0 dX13_applyAt_0 rfl rfl ?_
  refine m_callVi hE hm [] [] mc_taken (km_taken hm.2.2.2.2.2.2.2.2 h) (by decide) rfl rfl (Nat.le_of_ble_eq_true rfl) dX13_applyAt_1 (fun s3 r4 h => ?_)
  refine r_istore_n hE [(2, .int r4), (0, .ref (G.1 0)), (1, .int a1)] dX13_applyAt_4 rfl hN (by decide) rfl ?_
  refine r_aload_n hE 1 dX13_applyAt_5 rfl rfl ?_
  refine mg_held hE hm dX13_applyAt_6 ?_
  refine r_bipush (v := (20 : Int32)) hE dX13_applyAt_9 (by decide) ?_
  refine r_aload_n hE 1 dX13_applyAt_11 rfl rfl ?_
  refine mg_depth hE hm dX13_applyAt_12 ?_
  refine r_imul hE dX13_applyAt_15 ?_
  refine r_aload_n hE 1 dX13_applyAt_16 rfl rfl ?_
  refine mg_one hE hm dX13_applyAt_17 ?_
  refine r_iload_n hE 2 dX13_applyAt_20 rfl rfl ?_
  obtain ⟨hi, h⟩ := h
  refine ml_one hE hm dX13_applyAt_21 hi ?_
  refine r_iadd hE dX13_applyAt_22 ?_
  obtain ⟨hi, h⟩ := h
  refine ml_held hE hm dX13_applyAt_23 hi ?_
  refine r_topi h (fun x5 ex5 h => ?_)
  refine r_istore_n hE [(3, .int x5), (2, .int r4), (0, .ref (G.1 0)), (1, .int a1)] dX13_applyAt_24 rfl hN (by decide) rfl ?_
  refine r_iload_n hE 0 dX13_applyAt_25 rfl rfl ?_
  refine r_if_ge hE 33 dX13_applyAt_26 (by decide) h (fun h => ?_) (fun h => ?_)
  · refine r_aload_n hE 2 dX13_applyAt_33 rfl rfl ?_
    refine mg_sort hE hm dX13_applyAt_34 ?_
    refine r_iload_n hE 0 dX13_applyAt_37 rfl rfl ?_
    obtain ⟨hi, h⟩ := h
    refine ml_sort hE hm dX13_applyAt_38 hi ?_
    refine r_bipush (v := (6 : Int32)) hE dX13_applyAt_39 (by decide) ?_
    refine r_icmp_eq hE 48 dX13_applyAt_41 (by decide) h (fun h => ?_) (fun h => ?_)
    · refine r_iload_n hE 1 dX13_applyAt_48 rfl rfl ?_
      refine r_if_ge hE 56 dX13_applyAt_49 (by decide) h (fun h => ?_) (fun h => ?_)
      · refine r_aload_n hE 2 dX13_applyAt_56 rfl rfl ?_
        refine r_iload_n hE 1 dX13_applyAt_57 rfl rfl ?_
        refine m_callVi hE hm [.int r4] [] mc_isWhole (km_isWhole hm.2.2.2.2.2.2.2.2 h) (by decide) rfl rfl (Nat.le_of_ble_eq_true rfl) dX13_applyAt_58 (fun s6 r7 h => ?_)
        refine r_if_ne hE 68 dX13_applyAt_61 (by decide) h (fun h => ?_) (fun h => ?_)
        · refine r_aload_n hE 2 dX13_applyAt_68 rfl rfl ?_
          refine mg_up hE hm dX13_applyAt_69 ?_
          refine r_bipush (v := (7 : Int32)) hE dX13_applyAt_72 (by decide) ?_
          refine r_iload_n hE 1 dX13_applyAt_74 rfl rfl ?_
          refine r_imul hE dX13_applyAt_75 ?_
          obtain ⟨hi, h⟩ := h
          refine ml_up hE hm dX13_applyAt_76 hi ?_
          refine r_lconst (v := (0 : Int64)) hE dX13_applyAt_77 (by decide) ?_
          refine r_aload_n hE 2 dX13_applyAt_78 rfl rfl ?_
          refine mg_rowSize hE hm dX13_applyAt_79 ?_
          refine r_aload_n hE 2 dX13_applyAt_82 rfl rfl ?_
          refine mg_rowOf hE hm dX13_applyAt_83 ?_
          refine r_iload_n hE 0 dX13_applyAt_86 rfl rfl ?_
          obtain ⟨hi, h⟩ := h
          refine ml_rowOf hE hm dX13_applyAt_87 hi ?_
          obtain ⟨hi, h⟩ := h
          refine ml_rowSize hE hm dX13_applyAt_88 hi ?_
          refine r_iconst (v := (1 : Int32)) hE dX13_applyAt_89 (by decide) ?_
          refine r_isub hE dX13_applyAt_90 ?_
          refine r_i2l hE dX13_applyAt_91 ?_
          refine m_callSi hE hm [.long (m_up s6 ((7 : Int32) * r4).toNatClampNeg), .long (0 : Int64), .long (((m_rowSize s6 (m_rowOf s6 x5.toNatClampNeg).toNatClampNeg) - (1 : Int32)).toInt64)] [] mc_in (km_in hm.2.2.2.2.2.2.2.2 h) (by decide) rfl rfl (Nat.le_of_ble_eq_true rfl) dX13_applyAt_92 (fun s8 r9 h => ?_)
          refine r_if_ne hE 102 dX13_applyAt_95 (by decide) h (fun h => ?_) (fun h => ?_)
          · refine r_iconst (v := (0 : Int32)) hE dX13_applyAt_102 (by decide) ?_
            refine r_pick [2, 3, 1, 0] rfl ?_
            exact km_applyAt_103 hE hm _ _ _ _ _ h
          · refine r_iconst (v := (3 : Int32)) hE dX13_applyAt_98 (by decide) ?_
            refine r_goto hE 103 dX13_applyAt_99 (by decide) ?_
            refine r_pick [2, 3, 1, 0] rfl ?_
            exact km_applyAt_103 hE hm _ _ _ _ _ h
        · refine r_iconst (v := (2 : Int32)) hE dX13_applyAt_64 (by decide) ?_
          refine r_goto hE 103 dX13_applyAt_65 (by decide) ?_
          refine r_pick [2, 3, 1, 0] rfl ?_
          exact km_applyAt_103 hE hm _ _ _ _ _ h
      · refine r_iconst (v := (1 : Int32)) hE dX13_applyAt_52 (by decide) ?_
        refine r_goto hE 103 dX13_applyAt_53 (by decide) ?_
        refine r_pick [2, 3, 1, 0] rfl ?_
        exact km_applyAt_103 hE hm _ _ _ _ _ h
    · refine r_iconst (v := (2 : Int32)) hE dX13_applyAt_44 (by decide) ?_
      refine r_goto hE 103 dX13_applyAt_45 (by decide) ?_
      refine r_pick [2, 3, 1, 0] rfl ?_
      exact km_applyAt_103 hE hm _ _ _ _ _ h
  · refine r_iconst (v := (1 : Int32)) hE dX13_applyAt_29 (by decide) ?_
    refine r_goto hE 103 dX13_applyAt_30 (by decide) ?_
    refine r_pick [2, 3, 1, 0] rfl ?_
    exact km_applyAt_103 hE hm _ _ _ _ _ h
/-! applyMacro -/
def wm_applyMacro_81 (post : MS → Prop) : Nat → MS → Int32 → Int32 → Int32 → Prop
  | 0, _, _, _, _ => False
  | n + 1, σ, v2, v3, v4 => ((v4 < (0 : Int32)) → (wm_later (fun (s1 : MS) => vp_in v2 26 ∧ (wm_later (fun (s2 : MS) => post s2) s1 (0 : Int32) (m_bodyOf s1 v2.toNatClampNeg) (0 : Int64))) σ (5 : Int32) (0 : Int32) (0 : Int64))) ∧ ((¬ (v4 < (0 : Int32))) → (wm_taken (fun (s3 : MS) (r4 : Int32) => vp_in (v3 + v4) 180 ∧ (∀ s5 : MS, s5 = m_held_s s3 (v3 + v4).toNatClampNeg r4 → ∀ x6 : Int32, x6 = v4 + (-1 : Int32) → wm_applyMacro_81 post n s5 v2 v3 x6)) σ))
set_option maxRecDepth 20000 in
theorem km_applyMacro_81 {E : gEnv} {l : Launch} {D : va_G} {cl : List vw_C} {G : gAd} {post : MS → Prop} (hE : gOK E cX13_applyMacro RX13 none 4) (hm : mOK E l D cl G (qV post) 5) : ∀ (n : Nat) (σ : MS) (v2 : Int32) (v3 : Int32) (v4 : Int32), wm_applyMacro_81 post n σ v2 v3 v4 → GW E (mW G σ) 81 [(0, .ref (G.1 0)), (2, .int v2), (3, .int v3), (4, .int v4)] [] := by
  intro n
  induction n with
  | zero => intro σ v2 v3 v4 h; exact h.elim
  | succ n ih =>
    intro σ v2 v3 v4 h
    rw [wm_applyMacro_81] at h
    have hN := hm.2.2.2.2.2.2.1
    refine r_iload hE 3 dX13_applyMacro_81 rfl ?_
    refine r_if_lt hE 105 dX13_applyMacro_83 (by decide) h (fun h => ?_) (fun h => ?_)
    · refine r_aload_n hE 0 dX13_applyMacro_105 rfl rfl ?_
      refine r_iconst (v := (5 : Int32)) hE dX13_applyMacro_106 (by decide) ?_
      refine r_iconst (v := (0 : Int32)) hE dX13_applyMacro_107 (by decide) ?_
      refine r_lconst (v := (0 : Int64)) hE dX13_applyMacro_108 (by decide) ?_
      refine m_callVv hE hm [.int (5 : Int32), .int (0 : Int32), .long (0 : Int64)] [] mc_later (km_later hm.2.2.2.2.2.2.2.2 h) (by decide) rfl rfl (Nat.le_of_ble_eq_true rfl) dX13_applyMacro_109 (fun s1 h => ?_)
      refine r_aload_n hE 0 dX13_applyMacro_112 rfl rfl ?_
      refine r_iconst (v := (0 : Int32)) hE dX13_applyMacro_113 (by decide) ?_
      refine r_aload_n hE 0 dX13_applyMacro_114 rfl rfl ?_
      refine mg_bodyOf hE hm dX13_applyMacro_115 ?_
      refine r_iload_n hE 1 dX13_applyMacro_118 rfl rfl ?_
      obtain ⟨hi, h⟩ := h
      refine ml_bodyOf hE hm dX13_applyMacro_119 hi ?_
      refine r_lconst (v := (0 : Int64)) hE dX13_applyMacro_120 (by decide) ?_
      refine m_callVv hE hm [.int (0 : Int32), .int (m_bodyOf s1 v2.toNatClampNeg), .long (0 : Int64)] [] mc_later (km_later hm.2.2.2.2.2.2.2.2 h) (by decide) rfl rfl (Nat.le_of_ble_eq_true rfl) dX13_applyMacro_121 (fun s2 h => ?_)
      exact m_vret hE hm dX13_applyMacro_124 h
    · refine r_aload_n hE 0 dX13_applyMacro_86 rfl rfl ?_
      refine mg_held hE hm dX13_applyMacro_87 ?_
      refine r_iload_n hE 2 dX13_applyMacro_90 rfl rfl ?_
      refine r_iload hE 3 dX13_applyMacro_91 rfl ?_
      refine r_iadd hE dX13_applyMacro_93 ?_
      refine r_aload_n hE 0 dX13_applyMacro_94 rfl rfl ?_
      refine m_callVi hE hm [] [.int (v3 + v4), .ref (G.1 80)] mc_taken (km_taken hm.2.2.2.2.2.2.2.2 h) (by decide) rfl rfl (Nat.le_of_ble_eq_true rfl) dX13_applyMacro_95 (fun s3 r4 h => ?_)
      obtain ⟨hi, h⟩ := h
      refine ms_held hE hm dX13_applyMacro_98 hi h (fun s5 h => ?_)
      obtain ⟨x6, ex6⟩ : ∃ z : Int32, z = v4 + (-1 : Int32) := ⟨_, rfl⟩
      have h := h x6 ex6
      refine r_iinc (v := x6) hE [(4, .int x6), (0, .ref (G.1 0)), (2, .int v2), (3, .int v3)] 3 dX13_applyMacro_99 rfl (by rw [ex6]; rfl) hN (by decide) rfl ?_
      refine r_goto hE 81 dX13_applyMacro_102 (by decide) ?_
      refine r_pick [1, 2, 3, 0] rfl ?_
      exact ih _ _ _ _ h
def wm_applyMacro_48 (post : MS → Prop) : Nat → MS → Int32 → Int32 → Int32 → Prop
  | 0, _, _, _, _ => False
  | n + 1, σ, v2, v3, v4 => (((20 : Int32) ≤ v4) → (vp_in v2 26 ∧ (∀ x7 : Int32, x7 = (m_paramMany σ v2.toNatClampNeg) - (1 : Int32) → ∃ k : Nat, wm_applyMacro_81 post k σ v2 v3 x7))) ∧ ((¬ ((20 : Int32) ≤ v4)) → (vp_in (v3 + v4) 180 ∧ (∀ s8 : MS, s8 = m_held_s σ (v3 + v4).toNatClampNeg (-1 : Int32) → ∀ x9 : Int32, x9 = v4 + (1 : Int32) → wm_applyMacro_48 post n s8 v2 v3 x9)))
set_option maxRecDepth 20000 in
theorem km_applyMacro_48 {E : gEnv} {l : Launch} {D : va_G} {cl : List vw_C} {G : gAd} {post : MS → Prop} (hE : gOK E cX13_applyMacro RX13 none 4) (hm : mOK E l D cl G (qV post) 5) : ∀ (n : Nat) (σ : MS) (v2 : Int32) (v3 : Int32) (v4 : Int32), wm_applyMacro_48 post n σ v2 v3 v4 → GW E (mW G σ) 48 [(0, .ref (G.1 0)), (2, .int v2), (3, .int v3), (4, .int v4)] [] := by
  intro n
  induction n with
  | zero => intro σ v2 v3 v4 h; exact h.elim
  | succ n ih =>
    intro σ v2 v3 v4 h
    rw [wm_applyMacro_48] at h
    have hN := hm.2.2.2.2.2.2.1
    refine r_iload hE 3 dX13_applyMacro_48 rfl ?_
    refine r_bipush (v := (20 : Int32)) hE dX13_applyMacro_50 (by decide) ?_
    refine r_icmp_ge hE 71 dX13_applyMacro_52 (by decide) h (fun h => ?_) (fun h => ?_)
    · refine r_aload_n hE 0 dX13_applyMacro_71 rfl rfl ?_
      refine mg_paramMany hE hm dX13_applyMacro_72 ?_
      refine r_iload_n hE 1 dX13_applyMacro_75 rfl rfl ?_
      obtain ⟨hi, h⟩ := h
      refine ml_paramMany hE hm dX13_applyMacro_76 hi ?_
      refine r_iconst (v := (1 : Int32)) hE dX13_applyMacro_77 (by decide) ?_
      refine r_isub hE dX13_applyMacro_78 ?_
      refine r_topi h (fun x7 ex7 h => ?_)
      refine r_istore hE [(4, .int x7), (0, .ref (G.1 0)), (2, .int v2), (3, .int v3)] dX13_applyMacro_79 hN (by decide) rfl ?_
      refine r_pick [1, 2, 3, 0] rfl ?_
      obtain ⟨k, h⟩ := h
      exact km_applyMacro_81 hE hm k _ _ _ _ h
    · refine r_aload_n hE 0 dX13_applyMacro_55 rfl rfl ?_
      refine mg_held hE hm dX13_applyMacro_56 ?_
      refine r_iload_n hE 2 dX13_applyMacro_59 rfl rfl ?_
      refine r_iload hE 3 dX13_applyMacro_60 rfl ?_
      refine r_iadd hE dX13_applyMacro_62 ?_
      refine r_iconst (v := (-1 : Int32)) hE dX13_applyMacro_63 (by decide) ?_
      obtain ⟨hi, h⟩ := h
      refine ms_held hE hm dX13_applyMacro_64 hi h (fun s8 h => ?_)
      obtain ⟨x9, ex9⟩ : ∃ z : Int32, z = v4 + (1 : Int32) := ⟨_, rfl⟩
      have h := h x9 ex9
      refine r_iinc (v := x9) hE [(4, .int x9), (0, .ref (G.1 0)), (2, .int v2), (3, .int v3)] 3 dX13_applyMacro_65 rfl (by rw [ex9]; rfl) hN (by decide) rfl ?_
      refine r_goto hE 48 dX13_applyMacro_68 (by decide) ?_
      refine r_pick [1, 2, 3, 0] rfl ?_
      exact ih _ _ _ _ h
def wm_applyMacro (post : MS → Prop) (σ : MS) (a1 : Int32) : Prop := vp_in a1 600 ∧ (∀ x10 : Int32, x10 = (m_one σ a1.toNatClampNeg) - (100 : Int32) → ((¬ ((m_depth σ) = (8 : Int32))) → (∀ s11 : MS, s11 = m_depth_s σ ((m_depth σ) + (1 : Int32)) → ∀ x12 : Int32, x12 = (20 : Int32) * (m_depth s11) → ∃ k : Nat, wm_applyMacro_48 post k s11 x10 x12 (0 : Int32))) ∧ (((m_depth σ) = (8 : Int32)) → (wm_fails (fun (s13 : MS) => post s13) σ (9 : Int32) a1)))
set_option maxRecDepth 20000 in
theorem km_applyMacro {l : Launch} {D : va_G} {cl : List vw_C} {G : gAd} {post : MS → Prop} (hcl : mC cl) {σ : MS} {a1 : Int32} (h : wm_applyMacro post σ a1) : mMet l D cl G yX13_applyMacro cX13_applyMacro 5 none 4 [.ref (G.1 0), .int a1] σ (qV post) := by
  unfold wm_applyMacro at h
  refine m_enter hcl (by decide +kernel) rfl [(0, .ref (G.1 0)), (1, .int a1)] rfl (Nat.le_of_ble_eq_true rfl) ?_
  intro E hE hm
  have hN := hm.2.2.2.2.2.2.1
  refine r_aload_n hE 0 dX13_applyMacro_0 rfl rfl ?_
  refine mg_one hE hm dX13_applyMacro_1 ?_
  refine r_iload_n hE 1 dX13_applyMacro_4 rfl rfl ?_
  obtain ⟨hi, h⟩ := h
  refine ml_one hE hm dX13_applyMacro_5 hi ?_
  refine r_bipush (v := (100 : Int32)) hE dX13_applyMacro_6 (by decide) ?_
  refine r_isub hE dX13_applyMacro_8 ?_
  refine r_topi h (fun x10 ex10 h => ?_)
  refine r_istore_n hE [(2, .int x10), (0, .ref (G.1 0)), (1, .int a1)] dX13_applyMacro_9 rfl hN (by decide) rfl ?_
  refine r_aload_n hE 1 dX13_applyMacro_10 rfl rfl ?_
  refine mg_depth hE hm dX13_applyMacro_11 ?_
  refine r_bipush (v := (8 : Int32)) hE dX13_applyMacro_14 (by decide) ?_
  refine r_icmp_ne hE 27 dX13_applyMacro_16 (by decide) h (fun h => ?_) (fun h => ?_)
  · refine r_aload_n hE 1 dX13_applyMacro_27 rfl rfl ?_
    refine r_dup hE dX13_applyMacro_28 rfl ?_
    refine mg_depth hE hm dX13_applyMacro_29 ?_
    refine r_iconst (v := (1 : Int32)) hE dX13_applyMacro_32 (by decide) ?_
    refine r_iadd hE dX13_applyMacro_33 ?_
    refine mp_depth hE hm dX13_applyMacro_34 h (fun s11 h => ?_)
    refine r_bipush (v := (20 : Int32)) hE dX13_applyMacro_37 (by decide) ?_
    refine r_aload_n hE 1 dX13_applyMacro_39 rfl rfl ?_
    refine mg_depth hE hm dX13_applyMacro_40 ?_
    refine r_imul hE dX13_applyMacro_43 ?_
    refine r_topi h (fun x12 ex12 h => ?_)
    refine r_istore_n hE [(3, .int x12), (2, .int x10), (0, .ref (G.1 0)), (1, .int a1)] dX13_applyMacro_44 rfl hN (by decide) rfl ?_
    refine r_iconst (v := (0 : Int32)) hE dX13_applyMacro_45 (by decide) ?_
    refine r_istore hE [(4, .int (0 : Int32)), (3, .int x12), (2, .int x10), (0, .ref (G.1 0)), (1, .int a1)] dX13_applyMacro_46 hN (by decide) rfl ?_
    refine r_pick [3, 2, 1, 0] rfl ?_
    obtain ⟨k, h⟩ := h
    exact km_applyMacro_48 hE hm k _ _ _ _ h
  · refine r_aload_n hE 1 dX13_applyMacro_19 rfl rfl ?_
    refine r_bipush (v := (9 : Int32)) hE dX13_applyMacro_20 (by decide) ?_
    refine r_iload_n hE 2 dX13_applyMacro_22 rfl rfl ?_
    refine m_callVv hE hm [.int (9 : Int32), .int a1] [] mc_fails (km_fails hm.2.2.2.2.2.2.2.2 h) (by decide) rfl rfl (Nat.le_of_ble_eq_true rfl) dX13_applyMacro_23 (fun s13 h => ?_)
    exact m_vret hE hm dX13_applyMacro_26 h
/-! askedOf -/
def wm_askedOf_116 (post : MS → Int32 → Prop) (σ : MS) (t0 : Int32) : Prop := ((t0 = (0 : Int32)) → (post σ (2 : Int32))) ∧ ((¬ (t0 = (0 : Int32))) → (post σ (0 : Int32)))
set_option maxRecDepth 20000 in
theorem km_askedOf_116 {E : gEnv} {l : Launch} {D : va_G} {cl : List vw_C} {G : gAd} {post : MS → Int32 → Prop} (hE : gOK E cX13_askedOf RX13 (some .int) 2) (hm : mOK E l D cl G (qI post) 5) (σ : MS) (t0 : Int32) (h : wm_askedOf_116 post σ t0) : GW E (mW G σ) 116 [] [.int t0] := by
  unfold wm_askedOf_116 at h
  have hN := hm.2.2.2.2.2.2.1
  refine r_istore hE [(4, .int t0)] dX13_askedOf_116 hN (by decide) rfl ?_
  refine r_iload hE 0 dX13_askedOf_118 rfl ?_
  refine r_if_eq hE 127 dX13_askedOf_120 (by decide) h (fun h => ?_) (fun h => ?_)
  · refine r_iconst (v := (2 : Int32)) hE dX13_askedOf_127 (by decide) ?_
    exact m_iret hE hm dX13_askedOf_128 h
  · refine r_iconst (v := (0 : Int32)) hE dX13_askedOf_123 (by decide) ?_
    refine r_goto hE 128 dX13_askedOf_124 (by decide) ?_
    exact m_iret hE hm dX13_askedOf_128 h
def wm_askedOf_111 (post : MS → Int32 → Prop) (σ : MS) : Prop := wm_askedOf_116 post σ (1 : Int32)
set_option maxRecDepth 20000 in
theorem km_askedOf_111 {E : gEnv} {l : Launch} {D : va_G} {cl : List vw_C} {G : gAd} {post : MS → Int32 → Prop} (hE : gOK E cX13_askedOf RX13 (some .int) 2) (hm : mOK E l D cl G (qI post) 5) (σ : MS) (h : wm_askedOf_111 post σ) : GW E (mW G σ) 111 [] [] := by
  unfold wm_askedOf_111 at h
  have hN := hm.2.2.2.2.2.2.1
  refine r_iconst (v := (1 : Int32)) hE dX13_askedOf_111 (by decide) ?_
  refine r_goto hE 116 dX13_askedOf_112 (by decide) ?_
  exact km_askedOf_116 hE hm _ _ h
def wm_askedOf_115 (post : MS → Int32 → Prop) (σ : MS) : Prop := wm_askedOf_116 post σ (0 : Int32)
set_option maxRecDepth 20000 in
theorem km_askedOf_115 {E : gEnv} {l : Launch} {D : va_G} {cl : List vw_C} {G : gAd} {post : MS → Int32 → Prop} (hE : gOK E cX13_askedOf RX13 (some .int) 2) (hm : mOK E l D cl G (qI post) 5) (σ : MS) (h : wm_askedOf_115 post σ) : GW E (mW G σ) 115 [] [] := by
  unfold wm_askedOf_115 at h
  have hN := hm.2.2.2.2.2.2.1
  refine r_iconst (v := (0 : Int32)) hE dX13_askedOf_115 (by decide) ?_
  exact km_askedOf_116 hE hm _ _ h
def wm_askedOf_99 (post : MS → Int32 → Prop) (σ : MS) (v2 : Int32) (v3 : Int32) : Prop := ((¬ (v2 = (114 : Int32))) → (wm_askedOf_115 post σ)) ∧ ((v2 = (114 : Int32)) → (((¬ (v3 = (6 : Int32))) → (wm_askedOf_115 post σ)) ∧ ((v3 = (6 : Int32)) → (wm_askedOf_111 post σ))))
set_option maxRecDepth 20000 in
theorem km_askedOf_99 {E : gEnv} {l : Launch} {D : va_G} {cl : List vw_C} {G : gAd} {post : MS → Int32 → Prop} (hE : gOK E cX13_askedOf RX13 (some .int) 2) (hm : mOK E l D cl G (qI post) 5) (σ : MS) (v2 : Int32) (v3 : Int32) (h : wm_askedOf_99 post σ v2 v3) : GW E (mW G σ) 99 [(2, .int v2), (3, .int v3)] [] := by
  unfold wm_askedOf_99 at h
  have hN := hm.2.2.2.2.2.2.1
  refine r_iload_n hE 0 dX13_askedOf_99 rfl rfl ?_
  refine r_bipush (v := (114 : Int32)) hE dX13_askedOf_100 (by decide) ?_
  refine r_icmp_ne hE 115 dX13_askedOf_102 (by decide) h (fun h => ?_) (fun h => ?_)
  · refine r_pick [] rfl ?_
    exact km_askedOf_115 hE hm _ h
  · refine r_iload_n hE 1 dX13_askedOf_105 rfl rfl ?_
    refine r_bipush (v := (6 : Int32)) hE dX13_askedOf_106 (by decide) ?_
    refine r_icmp_ne hE 115 dX13_askedOf_108 (by decide) h (fun h => ?_) (fun h => ?_)
    · refine r_pick [] rfl ?_
      exact km_askedOf_115 hE hm _ h
    · refine r_pick [] rfl ?_
      exact km_askedOf_111 hE hm _ h
def wm_askedOf_88 (post : MS → Int32 → Prop) (σ : MS) (v2 : Int32) (v3 : Int32) : Prop := ((¬ (v2 = (100 : Int32))) → (wm_askedOf_99 post σ v2 v3)) ∧ ((v2 = (100 : Int32)) → (((v3 = (5 : Int32)) → (wm_askedOf_111 post σ)) ∧ ((¬ (v3 = (5 : Int32))) → (wm_askedOf_99 post σ v2 v3))))
set_option maxRecDepth 20000 in
theorem km_askedOf_88 {E : gEnv} {l : Launch} {D : va_G} {cl : List vw_C} {G : gAd} {post : MS → Int32 → Prop} (hE : gOK E cX13_askedOf RX13 (some .int) 2) (hm : mOK E l D cl G (qI post) 5) (σ : MS) (v2 : Int32) (v3 : Int32) (h : wm_askedOf_88 post σ v2 v3) : GW E (mW G σ) 88 [(2, .int v2), (3, .int v3)] [] := by
  unfold wm_askedOf_88 at h
  have hN := hm.2.2.2.2.2.2.1
  refine r_iload_n hE 0 dX13_askedOf_88 rfl rfl ?_
  refine r_bipush (v := (100 : Int32)) hE dX13_askedOf_89 (by decide) ?_
  refine r_icmp_ne hE 99 dX13_askedOf_91 (by decide) h (fun h => ?_) (fun h => ?_)
  · exact km_askedOf_99 hE hm _ _ _ h
  · refine r_iload_n hE 1 dX13_askedOf_94 rfl rfl ?_
    refine r_iconst (v := (5 : Int32)) hE dX13_askedOf_95 (by decide) ?_
    refine r_icmp_eq hE 111 dX13_askedOf_96 (by decide) h (fun h => ?_) (fun h => ?_)
    · refine r_pick [] rfl ?_
      exact km_askedOf_111 hE hm _ h
    · exact km_askedOf_99 hE hm _ _ _ h
def wm_askedOf_77 (post : MS → Int32 → Prop) (σ : MS) (v2 : Int32) (v3 : Int32) : Prop := ((¬ (v2 = (115 : Int32))) → (wm_askedOf_88 post σ v2 v3)) ∧ ((v2 = (115 : Int32)) → (((v3 = (4 : Int32)) → (wm_askedOf_111 post σ)) ∧ ((¬ (v3 = (4 : Int32))) → (wm_askedOf_88 post σ v2 v3))))
set_option maxRecDepth 20000 in
theorem km_askedOf_77 {E : gEnv} {l : Launch} {D : va_G} {cl : List vw_C} {G : gAd} {post : MS → Int32 → Prop} (hE : gOK E cX13_askedOf RX13 (some .int) 2) (hm : mOK E l D cl G (qI post) 5) (σ : MS) (v2 : Int32) (v3 : Int32) (h : wm_askedOf_77 post σ v2 v3) : GW E (mW G σ) 77 [(2, .int v2), (3, .int v3)] [] := by
  unfold wm_askedOf_77 at h
  have hN := hm.2.2.2.2.2.2.1
  refine r_iload_n hE 0 dX13_askedOf_77 rfl rfl ?_
  refine r_bipush (v := (115 : Int32)) hE dX13_askedOf_78 (by decide) ?_
  refine r_icmp_ne hE 88 dX13_askedOf_80 (by decide) h (fun h => ?_) (fun h => ?_)
  · exact km_askedOf_88 hE hm _ _ _ h
  · refine r_iload_n hE 1 dX13_askedOf_83 rfl rfl ?_
    refine r_iconst (v := (4 : Int32)) hE dX13_askedOf_84 (by decide) ?_
    refine r_icmp_eq hE 111 dX13_askedOf_85 (by decide) h (fun h => ?_) (fun h => ?_)
    · refine r_pick [] rfl ?_
      exact km_askedOf_111 hE hm _ h
    · exact km_askedOf_88 hE hm _ _ _ h
def wm_askedOf_64 (post : MS → Int32 → Prop) (σ : MS) (v2 : Int32) (v3 : Int32) : Prop := ((¬ (v2 = (108 : Int32))) → (wm_askedOf_77 post σ v2 v3)) ∧ ((v2 = (108 : Int32)) → (wm_isLine (fun (s1 : MS) (r2 : Int32) => ((¬ (r2 = (0 : Int32))) → (wm_askedOf_111 post s1)) ∧ ((r2 = (0 : Int32)) → (wm_askedOf_77 post s1 v2 v3))) σ v3))
set_option maxRecDepth 20000 in
theorem km_askedOf_64 {E : gEnv} {l : Launch} {D : va_G} {cl : List vw_C} {G : gAd} {post : MS → Int32 → Prop} (hE : gOK E cX13_askedOf RX13 (some .int) 2) (hm : mOK E l D cl G (qI post) 5) (σ : MS) (v2 : Int32) (v3 : Int32) (h : wm_askedOf_64 post σ v2 v3) : GW E (mW G σ) 64 [(2, .int v2), (3, .int v3)] [] := by
  unfold wm_askedOf_64 at h
  have hN := hm.2.2.2.2.2.2.1
  refine r_iload_n hE 0 dX13_askedOf_64 rfl rfl ?_
  refine r_bipush (v := (108 : Int32)) hE dX13_askedOf_65 (by decide) ?_
  refine r_icmp_ne hE 77 dX13_askedOf_67 (by decide) h (fun h => ?_) (fun h => ?_)
  · exact km_askedOf_77 hE hm _ _ _ h
  · refine r_iload_n hE 1 dX13_askedOf_70 rfl rfl ?_
    refine m_callSi hE hm [.int v3] [] mc_isLine (km_isLine hm.2.2.2.2.2.2.2.2 h) (by decide) rfl rfl (Nat.le_of_ble_eq_true rfl) dX13_askedOf_71 (fun s1 r2 h => ?_)
    refine r_if_ne hE 111 dX13_askedOf_74 (by decide) h (fun h => ?_) (fun h => ?_)
    · refine r_pick [] rfl ?_
      exact km_askedOf_111 hE hm _ h
    · exact km_askedOf_77 hE hm _ _ _ h
def wm_askedOf_51 (post : MS → Int32 → Prop) (σ : MS) (v2 : Int32) (v3 : Int32) : Prop := ((¬ (v2 = (112 : Int32))) → (wm_askedOf_64 post σ v2 v3)) ∧ ((v2 = (112 : Int32)) → (wm_isPoint (fun (s3 : MS) (r4 : Int32) => ((¬ (r4 = (0 : Int32))) → (wm_askedOf_111 post s3)) ∧ ((r4 = (0 : Int32)) → (wm_askedOf_64 post s3 v2 v3))) σ v3))
set_option maxRecDepth 20000 in
theorem km_askedOf_51 {E : gEnv} {l : Launch} {D : va_G} {cl : List vw_C} {G : gAd} {post : MS → Int32 → Prop} (hE : gOK E cX13_askedOf RX13 (some .int) 2) (hm : mOK E l D cl G (qI post) 5) (σ : MS) (v2 : Int32) (v3 : Int32) (h : wm_askedOf_51 post σ v2 v3) : GW E (mW G σ) 51 [(2, .int v2), (3, .int v3)] [] := by
  unfold wm_askedOf_51 at h
  have hN := hm.2.2.2.2.2.2.1
  refine r_iload_n hE 0 dX13_askedOf_51 rfl rfl ?_
  refine r_bipush (v := (112 : Int32)) hE dX13_askedOf_52 (by decide) ?_
  refine r_icmp_ne hE 64 dX13_askedOf_54 (by decide) h (fun h => ?_) (fun h => ?_)
  · exact km_askedOf_64 hE hm _ _ _ h
  · refine r_iload_n hE 1 dX13_askedOf_57 rfl rfl ?_
    refine m_callSi hE hm [.int v3] [] mc_isPoint (km_isPoint hm.2.2.2.2.2.2.2.2 h) (by decide) rfl rfl (Nat.le_of_ble_eq_true rfl) dX13_askedOf_58 (fun s3 r4 h => ?_)
    refine r_if_ne hE 111 dX13_askedOf_61 (by decide) h (fun h => ?_) (fun h => ?_)
    · refine r_pick [] rfl ?_
      exact km_askedOf_111 hE hm _ h
    · exact km_askedOf_64 hE hm _ _ _ h
def wm_askedOf_37 (post : MS → Int32 → Prop) (σ : MS) (v1 : Int32) (v2 : Int32) (v3 : Int32) : Prop := ((¬ (v2 = (107 : Int32))) → (wm_askedOf_51 post σ v2 v3)) ∧ ((v2 = (107 : Int32)) → (wm_isWhole (fun (s5 : MS) (r6 : Int32) => ((¬ (r6 = (0 : Int32))) → (wm_askedOf_111 post s5)) ∧ ((r6 = (0 : Int32)) → (wm_askedOf_51 post s5 v2 v3))) σ v1))
set_option maxRecDepth 20000 in
theorem km_askedOf_37 {E : gEnv} {l : Launch} {D : va_G} {cl : List vw_C} {G : gAd} {post : MS → Int32 → Prop} (hE : gOK E cX13_askedOf RX13 (some .int) 2) (hm : mOK E l D cl G (qI post) 5) (σ : MS) (v1 : Int32) (v2 : Int32) (v3 : Int32) (h : wm_askedOf_37 post σ v1 v2 v3) : GW E (mW G σ) 37 [(0, .ref (G.1 0)), (1, .int v1), (2, .int v2), (3, .int v3)] [] := by
  unfold wm_askedOf_37 at h
  have hN := hm.2.2.2.2.2.2.1
  refine r_iload_n hE 2 dX13_askedOf_37 rfl rfl ?_
  refine r_bipush (v := (107 : Int32)) hE dX13_askedOf_38 (by decide) ?_
  refine r_icmp_ne hE 51 dX13_askedOf_40 (by decide) h (fun h => ?_) (fun h => ?_)
  · refine r_pick [2, 3] rfl ?_
    exact km_askedOf_51 hE hm _ _ _ h
  · refine r_aload_n hE 0 dX13_askedOf_43 rfl rfl ?_
    refine r_iload_n hE 1 dX13_askedOf_44 rfl rfl ?_
    refine m_callVi hE hm [.int v1] [] mc_isWhole (km_isWhole hm.2.2.2.2.2.2.2.2 h) (by decide) rfl rfl (Nat.le_of_ble_eq_true rfl) dX13_askedOf_45 (fun s5 r6 h => ?_)
    refine r_if_ne hE 111 dX13_askedOf_48 (by decide) h (fun h => ?_) (fun h => ?_)
    · refine r_pick [] rfl ?_
      exact km_askedOf_111 hE hm _ h
    · refine r_pick [2, 3] rfl ?_
      exact km_askedOf_51 hE hm _ _ _ h
def wm_askedOf (post : MS → Int32 → Prop) (σ : MS) (a1 : Int32) (a2 : Int32) : Prop := ((¬ (a2 = (110 : Int32))) → ((((0 : Int32) ≤ a1) → (vp_in a1 480 ∧ (∀ x7 : Int32, x7 = m_sort σ a1.toNatClampNeg → ((a2 = (119 : Int32)) → (wm_askedOf_111 post σ)) ∧ ((¬ (a2 = (119 : Int32))) → (((¬ (a2 = (117 : Int32))) → (wm_askedOf_37 post σ a1 a2 x7)) ∧ ((a2 = (117 : Int32)) → (((x7 = (0 : Int32)) → (wm_askedOf_111 post σ)) ∧ ((¬ (x7 = (0 : Int32))) → (wm_askedOf_37 post σ a1 a2 x7))))))))) ∧ ((¬ ((0 : Int32) ≤ a1)) → (post σ (1 : Int32))))) ∧ ((a2 = (110 : Int32)) → (post σ (0 : Int32)))
set_option maxRecDepth 20000 in
theorem km_askedOf {l : Launch} {D : va_G} {cl : List vw_C} {G : gAd} {post : MS → Int32 → Prop} (hcl : mC cl) {σ : MS} {a1 : Int32} {a2 : Int32} (h : wm_askedOf post σ a1 a2) : mMet l D cl G yX13_askedOf cX13_askedOf 5 (some .int) 2 [.ref (G.1 0), .int a1, .int a2] σ (qI post) := by
  unfold wm_askedOf at h
  refine m_enter hcl (by decide +kernel) rfl [(0, .ref (G.1 0)), (1, .int a1), (2, .int a2)] rfl (Nat.le_of_ble_eq_true rfl) ?_
  intro E hE hm
  have hN := hm.2.2.2.2.2.2.1
  refine r_iload_n hE 2 dX13_askedOf_0 rfl rfl ?_
  refine r_bipush (v := (110 : Int32)) hE dX13_askedOf_1 (by decide) ?_
  refine r_icmp_ne hE 8 dX13_askedOf_3 (by decide) h (fun h => ?_) (fun h => ?_)
  · refine r_iload_n hE 1 dX13_askedOf_8 rfl rfl ?_
    refine r_if_ge hE 14 dX13_askedOf_9 (by decide) h (fun h => ?_) (fun h => ?_)
    · refine r_aload_n hE 0 dX13_askedOf_14 rfl rfl ?_
      refine mg_sort hE hm dX13_askedOf_15 ?_
      refine r_iload_n hE 1 dX13_askedOf_18 rfl rfl ?_
      obtain ⟨hi, h⟩ := h
      refine ml_sort hE hm dX13_askedOf_19 hi ?_
      refine r_topi h (fun x7 ex7 h => ?_)
      refine r_istore_n hE [(3, .int x7), (0, .ref (G.1 0)), (1, .int a1), (2, .int a2)] dX13_askedOf_20 rfl hN (by decide) rfl ?_
      refine r_iload_n hE 3 dX13_askedOf_21 rfl rfl ?_
      refine r_bipush (v := (119 : Int32)) hE dX13_askedOf_22 (by decide) ?_
      refine r_icmp_eq hE 111 dX13_askedOf_24 (by decide) h (fun h => ?_) (fun h => ?_)
      · refine r_pick [] rfl ?_
        exact km_askedOf_111 hE hm _ h
      · refine r_iload_n hE 3 dX13_askedOf_27 rfl rfl ?_
        refine r_bipush (v := (117 : Int32)) hE dX13_askedOf_28 (by decide) ?_
        refine r_icmp_ne hE 37 dX13_askedOf_30 (by decide) h (fun h => ?_) (fun h => ?_)
        · refine r_pick [1, 2, 3, 0] rfl ?_
          exact km_askedOf_37 hE hm _ _ _ _ h
        · refine r_iload_n hE 0 dX13_askedOf_33 rfl rfl ?_
          refine r_if_eq hE 111 dX13_askedOf_34 (by decide) h (fun h => ?_) (fun h => ?_)
          · refine r_pick [] rfl ?_
            exact km_askedOf_111 hE hm _ h
          · refine r_pick [1, 2, 3, 0] rfl ?_
            exact km_askedOf_37 hE hm _ _ _ _ h
    · refine r_iconst (v := (1 : Int32)) hE dX13_askedOf_12 (by decide) ?_
      exact m_iret hE hm dX13_askedOf_13 h
  · refine r_iconst (v := (0 : Int32)) hE dX13_askedOf_6 (by decide) ?_
    exact m_iret hE hm dX13_askedOf_7 h
/-! freeLeans -/
def wm_freeLeans (post : MS → Int32 → Prop) (σ : MS) (a1 : Int32) (a2 : Int32) : Prop := ∀ x1 : Int32, x1 = (m_frees σ) - (1 : Int32) → vp_in x1 12 ∧ (∀ s2 : MS, s2 = m_freeThing_s σ x1.toNatClampNeg a1 → vp_in x1 12 ∧ ((((m_isMoved s2 x1.toNatClampNeg) = (0 : Int32)) → (post s2 (((1 : Int32) <<< (x1 &&& 31)) ||| a2))) ∧ ((¬ ((m_isMoved s2 x1.toNatClampNeg) = (0 : Int32))) → (post s2 (((1 : Int32) <<< (x1 &&& 31)) ||| (0 : Int32))))))
set_option maxRecDepth 20000 in
theorem km_freeLeans {l : Launch} {D : va_G} {cl : List vw_C} {G : gAd} {post : MS → Int32 → Prop} (hcl : mC cl) {σ : MS} {a1 : Int32} {a2 : Int32} (h : wm_freeLeans post σ a1 a2) : mMet l D cl G yX13_freeLeans cX13_freeLeans 4 (some .int) 1 [.ref (G.1 0), .int a1, .int a2] σ (qI post) := by
  unfold wm_freeLeans at h
  refine m_enter hcl (by decide +kernel) rfl [(0, .ref (G.1 0)), (1, .int a1), (2, .int a2)] rfl (Nat.le_of_ble_eq_true rfl) ?_
  intro E hE hm
  have hN := hm.2.2.2.2.2.2.1
  refine r_aload_n hE 0 dX13_freeLeans_0 rfl rfl ?_
  refine mg_frees hE hm dX13_freeLeans_1 ?_
  refine r_iconst (v := (1 : Int32)) hE dX13_freeLeans_4 (by decide) ?_
  refine r_isub hE dX13_freeLeans_5 ?_
  refine r_topi h (fun x1 ex1 h => ?_)
  refine r_istore_n hE [(3, .int x1), (0, .ref (G.1 0)), (1, .int a1), (2, .int a2)] dX13_freeLeans_6 rfl hN (by decide) rfl ?_
  refine r_aload_n hE 1 dX13_freeLeans_7 rfl rfl ?_
  refine mg_freeThing hE hm dX13_freeLeans_8 ?_
  refine r_iload_n hE 0 dX13_freeLeans_11 rfl rfl ?_
  refine r_iload_n hE 2 dX13_freeLeans_12 rfl rfl ?_
  obtain ⟨hi, h⟩ := h
  refine ms_freeThing hE hm dX13_freeLeans_13 hi h (fun s2 h => ?_)
  refine r_iconst (v := (1 : Int32)) hE dX13_freeLeans_14 (by decide) ?_
  refine r_iload_n hE 0 dX13_freeLeans_15 rfl rfl ?_
  refine r_ishl hE dX13_freeLeans_16 ?_
  refine r_aload_n hE 1 dX13_freeLeans_17 rfl rfl ?_
  refine mg_isMoved hE hm dX13_freeLeans_18 ?_
  refine r_iload_n hE 0 dX13_freeLeans_21 rfl rfl ?_
  obtain ⟨hi, h⟩ := h
  refine ml_isMoved hE hm dX13_freeLeans_22 hi ?_
  refine r_if_eq hE 30 dX13_freeLeans_23 (by decide) h (fun h => ?_) (fun h => ?_)
  · refine r_iload_n hE 3 dX13_freeLeans_30 rfl rfl ?_
    refine r_ior hE dX13_freeLeans_31 ?_
    exact m_iret hE hm dX13_freeLeans_32 h
  · refine r_iconst (v := (0 : Int32)) hE dX13_freeLeans_26 (by decide) ?_
    refine r_goto hE 31 dX13_freeLeans_27 (by decide) ?_
    refine r_ior hE dX13_freeLeans_31 ?_
    exact m_iret hE hm dX13_freeLeans_32 h
/-! placeOf12 -/
def wm_placeOf_wantedList_22 (post : MS → Int32 → Prop) (lp4 : MS → Int32 → Int32 → Prop) (σ : MS) (v2 : Int32) (t0 : Int32) (t1 : Int32) : Prop := ∀ x1 : Int32, x1 = t0 - t1 → ∀ x2 : Int32, x2 = v2 + (1 : Int32) → lp4 σ x2 x1
set_option maxRecDepth 20000 in
theorem km_placeOf_wantedList_22 {E : gEnv} {l : Launch} {D : va_G} {cl : List vw_C} {G : gAd} {post : MS → Int32 → Prop} (hE : gOK E cX13_placeOf RX13 (some .int) 1) (hm : mOK E l D cl G (qI post) 4) {lp4 : MS → Int32 → Int32 → Prop} (hl4 : ∀ (σ : MS) (v2 : Int32) (v3 : Int32), lp4 σ v2 v3 → GW E (mW G σ) 4 [(0, .ref (G.1 12)), (2, .int v2), (3, .int v3)] []) (σ : MS) (v2 : Int32) (t0 : Int32) (t1 : Int32) (h : wm_placeOf_wantedList_22 post lp4 σ v2 t0 t1) : GW E (mW G σ) 22 [(0, .ref (G.1 12)), (2, .int v2)] [.int t1, .int t0] := by
  unfold wm_placeOf_wantedList_22 at h
  have hN := hm.2.2.2.2.2.2.1
  refine r_isub hE dX13_placeOf_22 ?_
  refine r_topi h (fun x1 ex1 h => ?_)
  refine r_istore_n hE [(3, .int x1), (0, .ref (G.1 12)), (2, .int v2)] dX13_placeOf_23 rfl hN (by decide) rfl ?_
  obtain ⟨x2, ex2⟩ : ∃ z : Int32, z = v2 + (1 : Int32) := ⟨_, rfl⟩
  have h := h x2 ex2
  refine r_iinc (v := x2) hE [(2, .int x2), (3, .int x1), (0, .ref (G.1 12))] 2 dX13_placeOf_24 rfl (by rw [ex2]; rfl) hN (by decide) rfl ?_
  refine r_goto hE 4 dX13_placeOf_27 (by decide) ?_
  refine r_pick [2, 0, 1] rfl ?_
  exact hl4 _ _ _ h
def wm_placeOf_wantedList_4 (post : MS → Int32 → Prop) : Nat → MS → Int32 → Int32 → Prop
  | 0, _, _, _ => False
  | n + 1, σ, v2, v3 => ((v3 ≤ (0 : Int32)) → (post σ v2)) ∧ ((¬ (v3 ≤ (0 : Int32))) → (vp_in v2 108 ∧ (((¬ ((m_wantedList σ v2.toNatClampNeg) = (32 : Int32))) → (wm_placeOf_wantedList_22 post (fun (ys : MS) (y0 : Int32) (y1 : Int32) => wm_placeOf_wantedList_4 post n ys y0 y1) σ v2 v3 (0 : Int32))) ∧ (((m_wantedList σ v2.toNatClampNeg) = (32 : Int32)) → (wm_placeOf_wantedList_22 post (fun (ys : MS) (y0 : Int32) (y1 : Int32) => wm_placeOf_wantedList_4 post n ys y0 y1) σ v2 v3 (1 : Int32))))))
set_option maxRecDepth 20000 in
theorem km_placeOf_wantedList_4 {E : gEnv} {l : Launch} {D : va_G} {cl : List vw_C} {G : gAd} {post : MS → Int32 → Prop} (hE : gOK E cX13_placeOf RX13 (some .int) 1) (hm : mOK E l D cl G (qI post) 4) : ∀ (n : Nat) (σ : MS) (v2 : Int32) (v3 : Int32), wm_placeOf_wantedList_4 post n σ v2 v3 → GW E (mW G σ) 4 [(0, .ref (G.1 12)), (2, .int v2), (3, .int v3)] [] := by
  intro n
  induction n with
  | zero => intro σ v2 v3 h; exact h.elim
  | succ n ih =>
    intro σ v2 v3 h
    rw [wm_placeOf_wantedList_4] at h
    have hN := hm.2.2.2.2.2.2.1
    refine r_iload_n hE 2 dX13_placeOf_4 rfl rfl ?_
    refine r_if_le hE 30 dX13_placeOf_5 (by decide) h (fun h => ?_) (fun h => ?_)
    · refine r_iload_n hE 1 dX13_placeOf_30 rfl rfl ?_
      exact m_iret hE hm dX13_placeOf_31 h
    · refine r_iload_n hE 2 dX13_placeOf_8 rfl rfl ?_
      refine r_aload_n hE 0 dX13_placeOf_9 rfl rfl ?_
      refine r_iload_n hE 1 dX13_placeOf_10 rfl rfl ?_
      obtain ⟨hi, h⟩ := h
      refine ml_wantedList hE hm dX13_placeOf_11 hi ?_
      refine r_bipush (v := (32 : Int32)) hE dX13_placeOf_12 (by decide) ?_
      refine r_icmp_ne hE 21 dX13_placeOf_14 (by decide) h (fun h => ?_) (fun h => ?_)
      · refine r_iconst (v := (0 : Int32)) hE dX13_placeOf_21 (by decide) ?_
        refine r_pick [0, 1] rfl ?_
        exact km_placeOf_wantedList_22 hE hm ih _ _ _ _ h
      · refine r_iconst (v := (1 : Int32)) hE dX13_placeOf_17 (by decide) ?_
        refine r_goto hE 22 dX13_placeOf_18 (by decide) ?_
        refine r_pick [0, 1] rfl ?_
        exact km_placeOf_wantedList_22 hE hm ih _ _ _ _ h
def wm_placeOf_wantedList (post : MS → Int32 → Prop) (σ : MS) (a1 : Int32) : Prop := ∃ k : Nat, wm_placeOf_wantedList_4 post k σ (0 : Int32) a1
set_option maxRecDepth 20000 in
theorem km_placeOf_wantedList {l : Launch} {D : va_G} {cl : List vw_C} {G : gAd} {post : MS → Int32 → Prop} (hcl : mC cl) {σ : MS} {a1 : Int32} (h : wm_placeOf_wantedList post σ a1) : mMet l D cl G yX13_placeOf cX13_placeOf 4 (some .int) 1 [.ref (G.1 12), .int a1] σ (qI post) := by
  unfold wm_placeOf_wantedList at h
  refine m_enter hcl (by decide +kernel) rfl [(0, .ref (G.1 12)), (1, .int a1)] rfl (Nat.le_of_ble_eq_true rfl) ?_
  intro E hE hm
  have hN := hm.2.2.2.2.2.2.1
  refine r_iconst (v := (0 : Int32)) hE dX13_placeOf_0 (by decide) ?_
  refine r_istore_n hE [(2, .int (0 : Int32)), (0, .ref (G.1 12)), (1, .int a1)] dX13_placeOf_1 rfl hN (by decide) rfl ?_
  refine r_iload_n hE 2 dX13_placeOf_2 rfl rfl ?_
  refine r_istore_n hE [(3, .int a1), (2, .int (0 : Int32)), (0, .ref (G.1 12)), (1, .int a1)] dX13_placeOf_3 rfl hN (by decide) rfl ?_
  refine r_pick [2, 1, 0] rfl ?_
  obtain ⟨k, h⟩ := h
  exact km_placeOf_wantedList_4 hE hm k _ _ _ h
/-! newRow -/
def wm_newRow_37 (post : MS → Int32 → Prop) (σ : MS) (v2 : Int32) (t1 : Int32) : Prop := wm_fail (fun (s1 : MS) => post s1 v2) σ t1
set_option maxRecDepth 20000 in
theorem km_newRow_37 {E : gEnv} {l : Launch} {D : va_G} {cl : List vw_C} {G : gAd} {post : MS → Int32 → Prop} (hE : gOK E cX13_newRow RX13 (some .int) 2) (hm : mOK E l D cl G (qI post) 7) (σ : MS) (v2 : Int32) (t1 : Int32) (h : wm_newRow_37 post σ v2 t1) : GW E (mW G σ) 37 [(2, .int v2)] [.int t1, .ref (G.1 0)] := by
  unfold wm_newRow_37 at h
  have hN := hm.2.2.2.2.2.2.1
  refine m_callVv hE hm [.int t1] [] mc_fail (km_fail hm.2.2.2.2.2.2.2.2 h) (by decide) rfl rfl (Nat.le_of_ble_eq_true rfl) dX13_newRow_37 (fun s1 h => ?_)
  refine r_iload_n hE 0 dX13_newRow_40 rfl rfl ?_
  exact m_iret hE hm dX13_newRow_41 h
def wm_newRow_24 (post : MS → Int32 → Prop) (σ : MS) (v2 : Int32) (v3 : Int64) : Prop := (((0 : Int32) ≤ (lg_cmp v3 (0 : Int64))) → (wm_newRow_37 post σ v2 (9 : Int32))) ∧ ((¬ ((0 : Int32) ≤ (lg_cmp v3 (0 : Int64)))) → (wm_newRow_37 post σ v2 (4 : Int32)))
set_option maxRecDepth 20000 in
theorem km_newRow_24 {E : gEnv} {l : Launch} {D : va_G} {cl : List vw_C} {G : gAd} {post : MS → Int32 → Prop} (hE : gOK E cX13_newRow RX13 (some .int) 2) (hm : mOK E l D cl G (qI post) 7) (σ : MS) (v2 : Int32) (v3 : Int64) (h : wm_newRow_24 post σ v2 v3) : GW E (mW G σ) 24 [(0, .ref (G.1 0)), (2, .int v2), (3, .long v3)] [] := by
  unfold wm_newRow_24 at h
  have hN := hm.2.2.2.2.2.2.1
  refine r_aload_n hE 0 dX13_newRow_24 rfl rfl ?_
  refine r_lload_n hE 2 dX13_newRow_25 rfl rfl ?_
  refine r_lconst (v := (0 : Int64)) hE dX13_newRow_26 (by decide) ?_
  refine r_lcmp hE dX13_newRow_27 ?_
  refine r_if_ge hE 35 dX13_newRow_28 (by decide) h (fun h => ?_) (fun h => ?_)
  · refine r_bipush (v := (9 : Int32)) hE dX13_newRow_35 (by decide) ?_
    refine r_pick [1] rfl ?_
    exact km_newRow_37 hE hm _ _ _ h
  · refine r_iconst (v := (4 : Int32)) hE dX13_newRow_31 (by decide) ?_
    refine r_goto hE 37 dX13_newRow_32 (by decide) ?_
    refine r_pick [1] rfl ?_
    exact km_newRow_37 hE hm _ _ _ h
def wm_newRow_85 (post : MS → Int32 → Prop) : Nat → MS → Int32 → Int32 → Prop
  | 0, _, _, _ => False
  | n + 1, σ, v5, v6 => (((20 : Int32) ≤ v6) → (∀ s2 : MS, s2 = m_rows_s σ ((m_rows σ) + (1 : Int32)) → post s2 v5)) ∧ ((¬ ((20 : Int32) ≤ v6)) → (vp_in (((20 : Int32) * (m_rows σ)) + v6) 9600 ∧ (∀ s3 : MS, s3 = m_rowItem_s σ (((20 : Int32) * (m_rows σ)) + v6).toNatClampNeg (-1 : Int32) → ∀ x4 : Int32, x4 = v6 + (1 : Int32) → wm_newRow_85 post n s3 v5 x4)))
set_option maxRecDepth 20000 in
theorem km_newRow_85 {E : gEnv} {l : Launch} {D : va_G} {cl : List vw_C} {G : gAd} {post : MS → Int32 → Prop} (hE : gOK E cX13_newRow RX13 (some .int) 2) (hm : mOK E l D cl G (qI post) 7) : ∀ (n : Nat) (σ : MS) (v5 : Int32) (v6 : Int32), wm_newRow_85 post n σ v5 v6 → GW E (mW G σ) 85 [(0, .ref (G.1 0)), (5, .int v5), (6, .int v6)] [] := by
  intro n
  induction n with
  | zero => intro σ v5 v6 h; exact h.elim
  | succ n ih =>
    intro σ v5 v6 h
    rw [wm_newRow_85] at h
    have hN := hm.2.2.2.2.2.2.1
    refine r_iload hE 2 dX13_newRow_85 rfl ?_
    refine r_bipush (v := (20 : Int32)) hE dX13_newRow_87 (by decide) ?_
    refine r_icmp_ge hE 114 dX13_newRow_89 (by decide) h (fun h => ?_) (fun h => ?_)
    · refine r_aload_n hE 0 dX13_newRow_114 rfl rfl ?_
      refine r_dup hE dX13_newRow_115 rfl ?_
      refine mg_rows hE hm dX13_newRow_116 ?_
      refine r_iconst (v := (1 : Int32)) hE dX13_newRow_119 (by decide) ?_
      refine r_iadd hE dX13_newRow_120 ?_
      refine mp_rows hE hm dX13_newRow_121 h (fun s2 h => ?_)
      refine r_iload hE 1 dX13_newRow_124 rfl ?_
      exact m_iret hE hm dX13_newRow_126 h
    · refine r_aload_n hE 0 dX13_newRow_92 rfl rfl ?_
      refine mg_rowItem hE hm dX13_newRow_93 ?_
      refine r_bipush (v := (20 : Int32)) hE dX13_newRow_96 (by decide) ?_
      refine r_aload_n hE 0 dX13_newRow_98 rfl rfl ?_
      refine mg_rows hE hm dX13_newRow_99 ?_
      refine r_imul hE dX13_newRow_102 ?_
      refine r_iload hE 2 dX13_newRow_103 rfl ?_
      refine r_iadd hE dX13_newRow_105 ?_
      refine r_iconst (v := (-1 : Int32)) hE dX13_newRow_106 (by decide) ?_
      obtain ⟨hi, h⟩ := h
      refine ms_rowItem hE hm dX13_newRow_107 hi h (fun s3 h => ?_)
      obtain ⟨x4, ex4⟩ : ∃ z : Int32, z = v6 + (1 : Int32) := ⟨_, rfl⟩
      have h := h x4 ex4
      refine r_iinc (v := x4) hE [(6, .int x4), (0, .ref (G.1 0)), (5, .int v5)] 2 dX13_newRow_108 rfl (by rw [ex4]; rfl) hN (by decide) rfl ?_
      refine r_goto hE 85 dX13_newRow_111 (by decide) ?_
      refine r_pick [1, 2, 0] rfl ?_
      exact ih _ _ _ h
def wm_newRow (post : MS → Int32 → Prop) (σ : MS) (a1 : Int32) (a2 : Int32) : Prop := vp_in ((7 : Int32) * a2) 3360 ∧ (∀ x5 : Int64, x5 = m_up σ ((7 : Int32) * a2).toNatClampNeg → (((lg_cmp x5 (0 : Int64)) < (0 : Int32)) → (wm_newRow_24 post σ a2 x5)) ∧ ((¬ ((lg_cmp x5 (0 : Int64)) < (0 : Int32))) → ((((lg_cmp x5 (20 : Int64)) ≤ (0 : Int32)) → (wm_newThing (fun (s6 : MS) (r7 : Int32) => vp_in r7 480 ∧ (∀ s8 : MS, s8 = m_rowOf_s s6 r7.toNatClampNeg (m_rows s6) → vp_in (m_rows s8) 480 ∧ (∀ s9 : MS, s9 = m_rowSort_s s8 (m_rows s8).toNatClampNeg a1 → vp_in (m_rows s9) 480 ∧ (∀ s10 : MS, s10 = m_rowSize_s s9 (m_rows s9).toNatClampNeg (x5.toInt32) → ∃ k : Nat, wm_newRow_85 post k s10 r7 (0 : Int32))))) σ (6 : Int32))) ∧ ((¬ ((lg_cmp x5 (20 : Int64)) ≤ (0 : Int32))) → (wm_newRow_24 post σ a2 x5)))))
set_option maxRecDepth 20000 in
theorem km_newRow {l : Launch} {D : va_G} {cl : List vw_C} {G : gAd} {post : MS → Int32 → Prop} (hcl : mC cl) {σ : MS} {a1 : Int32} {a2 : Int32} (h : wm_newRow post σ a1 a2) : mMet l D cl G yX13_newRow cX13_newRow 7 (some .int) 2 [.ref (G.1 0), .int a1, .int a2] σ (qI post) := by
  unfold wm_newRow at h
  refine m_enter hcl (by decide +kernel) rfl [(0, .ref (G.1 0)), (1, .int a1), (2, .int a2)] rfl (Nat.le_of_ble_eq_true rfl) ?_
  intro E hE hm
  have hN := hm.2.2.2.2.2.2.1
  refine r_aload_n hE 0 dX13_newRow_0 rfl rfl ?_
  refine mg_up hE hm dX13_newRow_1 ?_
  refine r_bipush (v := (7 : Int32)) hE dX13_newRow_4 (by decide) ?_
  refine r_iload_n hE 2 dX13_newRow_6 rfl rfl ?_
  refine r_imul hE dX13_newRow_7 ?_
  obtain ⟨hi, h⟩ := h
  refine ml_up hE hm dX13_newRow_8 hi ?_
  refine r_topl h (fun x5 ex5 h => ?_)
  refine r_lstore_n hE [(3, .long x5), (0, .ref (G.1 0)), (1, .int a1), (2, .int a2)] dX13_newRow_9 rfl hN (by decide) rfl ?_
  refine r_lload_n hE 0 dX13_newRow_10 rfl rfl ?_
  refine r_lconst (v := (0 : Int64)) hE dX13_newRow_11 (by decide) ?_
  refine r_lcmp hE dX13_newRow_12 ?_
  refine r_if_lt hE 24 dX13_newRow_13 (by decide) h (fun h => ?_) (fun h => ?_)
  · refine r_pick [1, 3, 0] rfl ?_
    exact km_newRow_24 hE hm _ _ _ h
  · refine r_lload_n hE 0 dX13_newRow_16 rfl rfl ?_
    refine r_ldc2 (v := (20 : Int64)) hE dX13_newRow_17 (gTb_10 (List.mem_of_getElem? (i := 188) rfl) rfl) ?_
    refine r_lcmp hE dX13_newRow_20 ?_
    refine r_if_le hE 42 dX13_newRow_21 (by decide) h (fun h => ?_) (fun h => ?_)
    · refine r_aload_n hE 1 dX13_newRow_42 rfl rfl ?_
      refine r_bipush (v := (6 : Int32)) hE dX13_newRow_43 (by decide) ?_
      refine m_callVi hE hm [.int (6 : Int32)] [] mc_newThing (km_newThing hm.2.2.2.2.2.2.2.2 h) (by decide) rfl rfl (Nat.le_of_ble_eq_true rfl) dX13_newRow_45 (fun s6 r7 h => ?_)
      refine r_istore hE [(5, .int r7), (3, .long x5), (0, .ref (G.1 0)), (1, .int a1), (2, .int a2)] dX13_newRow_48 hN (by decide) rfl ?_
      refine r_aload_n hE 2 dX13_newRow_50 rfl rfl ?_
      refine mg_rowOf hE hm dX13_newRow_51 ?_
      refine r_iload hE 0 dX13_newRow_54 rfl ?_
      refine r_aload_n hE 2 dX13_newRow_56 rfl rfl ?_
      refine mg_rows hE hm dX13_newRow_57 ?_
      obtain ⟨hi, h⟩ := h
      refine ms_rowOf hE hm dX13_newRow_60 hi h (fun s8 h => ?_)
      refine r_aload_n hE 2 dX13_newRow_61 rfl rfl ?_
      refine mg_rowSort hE hm dX13_newRow_62 ?_
      refine r_aload_n hE 2 dX13_newRow_65 rfl rfl ?_
      refine mg_rows hE hm dX13_newRow_66 ?_
      refine r_iload_n hE 3 dX13_newRow_69 rfl rfl ?_
      obtain ⟨hi, h⟩ := h
      refine ms_rowSort hE hm dX13_newRow_70 hi h (fun s9 h => ?_)
      refine r_aload_n hE 2 dX13_newRow_71 rfl rfl ?_
      refine mg_rowSize hE hm dX13_newRow_72 ?_
      refine r_aload_n hE 2 dX13_newRow_75 rfl rfl ?_
      refine mg_rows hE hm dX13_newRow_76 ?_
      refine r_lload_n hE 1 dX13_newRow_79 rfl rfl ?_
      refine r_l2i hE dX13_newRow_80 ?_
      obtain ⟨hi, h⟩ := h
      refine ms_rowSize hE hm dX13_newRow_81 hi h (fun s10 h => ?_)
      refine r_iconst (v := (0 : Int32)) hE dX13_newRow_82 (by decide) ?_
      refine r_istore hE [(6, .int (0 : Int32)), (5, .int r7), (3, .long x5), (0, .ref (G.1 0)), (1, .int a1), (2, .int a2)] dX13_newRow_83 hN (by decide) rfl ?_
      refine r_pick [3, 1, 0] rfl ?_
      obtain ⟨k, h⟩ := h
      exact km_newRow_85 hE hm k _ _ _ h
    · refine r_pick [1, 3, 0] rfl ?_
      exact km_newRow_24 hE hm _ _ _ h
/-! number -/
def wm_number (post : MS → Int32 → Prop) (σ : MS) (a1 : Int64) (a3 : Int64) (a5 : Int32) : Prop := wm_newThing (fun (s1 : MS) (r2 : Int32) => vp_in ((7 : Int32) * r2) 3360 ∧ (∀ s3 : MS, s3 = m_up_s s1 ((7 : Int32) * r2).toNatClampNeg a1 → vp_in ((7 : Int32) * r2) 3360 ∧ (∀ s4 : MS, s4 = m_low_s s3 ((7 : Int32) * r2).toNatClampNeg a3 → vp_in r2 480 ∧ (∀ s5 : MS, s5 = m_lean_s s4 r2.toNatClampNeg a5 → post s5 r2)))) σ (0 : Int32)
set_option maxRecDepth 20000 in
theorem km_number {l : Launch} {D : va_G} {cl : List vw_C} {G : gAd} {post : MS → Int32 → Prop} (hcl : mC cl) {σ : MS} {a1 : Int64} {a3 : Int64} {a5 : Int32} (h : wm_number post σ a1 a3 a5) : mMet l D cl G yX13_number cX13_number 7 (some .int) 2 [.ref (G.1 0), .long a1, .long a3, .int a5] σ (qI post) := by
  unfold wm_number at h
  refine m_enter hcl (by decide +kernel) rfl [(0, .ref (G.1 0)), (1, .long a1), (3, .long a3), (5, .int a5)] rfl (Nat.le_of_ble_eq_true rfl) ?_
  intro E hE hm
  have hN := hm.2.2.2.2.2.2.1
  refine r_aload_n hE 0 dX13_number_0 rfl rfl ?_
  refine r_iconst (v := (0 : Int32)) hE dX13_number_1 (by decide) ?_
  refine m_callVi hE hm [.int (0 : Int32)] [] mc_newThing (km_newThing hm.2.2.2.2.2.2.2.2 h) (by decide) rfl rfl (Nat.le_of_ble_eq_true rfl) dX13_number_2 (fun s1 r2 h => ?_)
  refine r_istore hE [(6, .int r2), (0, .ref (G.1 0)), (1, .long a1), (3, .long a3), (5, .int a5)] dX13_number_5 hN (by decide) rfl ?_
  refine r_aload_n hE 1 dX13_number_7 rfl rfl ?_
  refine mg_up hE hm dX13_number_8 ?_
  refine r_bipush (v := (7 : Int32)) hE dX13_number_11 (by decide) ?_
  refine r_iload hE 0 dX13_number_13 rfl ?_
  refine r_imul hE dX13_number_15 ?_
  refine r_lload_n hE 2 dX13_number_16 rfl rfl ?_
  obtain ⟨hi, h⟩ := h
  refine ms_up hE hm dX13_number_17 hi h (fun s3 h => ?_)
  refine r_aload_n hE 1 dX13_number_18 rfl rfl ?_
  refine mg_low hE hm dX13_number_19 ?_
  refine r_bipush (v := (7 : Int32)) hE dX13_number_22 (by decide) ?_
  refine r_iload hE 0 dX13_number_24 rfl ?_
  refine r_imul hE dX13_number_26 ?_
  refine r_lload_n hE 3 dX13_number_27 rfl rfl ?_
  obtain ⟨hi, h⟩ := h
  refine ms_low hE hm dX13_number_28 hi h (fun s4 h => ?_)
  refine r_aload_n hE 1 dX13_number_29 rfl rfl ?_
  refine mg_lean hE hm dX13_number_30 ?_
  refine r_iload hE 0 dX13_number_33 rfl ?_
  refine r_iload hE 4 dX13_number_35 rfl ?_
  obtain ⟨hi, h⟩ := h
  refine ms_lean hE hm dX13_number_37 hi h (fun s5 h => ?_)
  refine r_iload hE 0 dX13_number_38 rfl ?_
  exact m_iret hE hm dX13_number_40 h
/-! told -/
def wm_told (post : MS → Int32 → Prop) (σ : MS) : Prop := ∀ s1 : MS, s1 = m_piled_s σ ((m_piled σ) - (1 : Int32)) → vp_in (m_piled s1) 40 ∧ (vp_in (m_piled s1) 40 ∧ (wm_number (fun (s2 : MS) (r3 : Int32) => post s2 r3) s1 (m_top s1 (m_piled s1).toNatClampNeg) (m_bottom s1 (m_piled s1).toNatClampNeg) (0 : Int32)))
set_option maxRecDepth 20000 in
theorem km_told {l : Launch} {D : va_G} {cl : List vw_C} {G : gAd} {post : MS → Int32 → Prop} (hcl : mC cl) {σ : MS} (h : wm_told post σ) : mMet l D cl G yX13_told cX13_told 1 (some .int) 3 [.ref (G.1 0)] σ (qI post) := by
  unfold wm_told at h
  refine m_enter hcl (by decide +kernel) rfl [(0, .ref (G.1 0))] rfl (Nat.le_of_ble_eq_true rfl) ?_
  intro E hE hm
  have hN := hm.2.2.2.2.2.2.1
  refine r_aload_n hE 0 dX13_told_0 rfl rfl ?_
  refine r_dup hE dX13_told_1 rfl ?_
  refine mg_piled hE hm dX13_told_2 ?_
  refine r_iconst (v := (1 : Int32)) hE dX13_told_5 (by decide) ?_
  refine r_isub hE dX13_told_6 ?_
  refine mp_piled hE hm dX13_told_7 h (fun s1 h => ?_)
  refine r_aload_n hE 0 dX13_told_10 rfl rfl ?_
  refine r_aload_n hE 0 dX13_told_11 rfl rfl ?_
  refine mg_top hE hm dX13_told_12 ?_
  refine r_aload_n hE 0 dX13_told_15 rfl rfl ?_
  refine mg_piled hE hm dX13_told_16 ?_
  obtain ⟨hi, h⟩ := h
  refine ml_top hE hm dX13_told_19 hi ?_
  refine r_aload_n hE 0 dX13_told_20 rfl rfl ?_
  refine mg_bottom hE hm dX13_told_21 ?_
  refine r_aload_n hE 0 dX13_told_24 rfl rfl ?_
  refine mg_piled hE hm dX13_told_25 ?_
  obtain ⟨hi, h⟩ := h
  refine ml_bottom hE hm dX13_told_28 hi ?_
  refine r_iconst (v := (0 : Int32)) hE dX13_told_29 (by decide) ?_
  refine m_callVi hE hm [.long (m_top s1 (m_piled s1).toNatClampNeg), .long (m_bottom s1 (m_piled s1).toNatClampNeg), .int (0 : Int32)] [] mc_number (km_number hm.2.2.2.2.2.2.2.2 h) (by decide) rfl rfl (Nat.le_of_ble_eq_true rfl) dX13_told_30 (fun s2 r3 h => ?_)
  exact m_iret hE hm dX13_told_33 h
