/-! perp -/
def wm_perp (post : MS → Int32 → Prop) (σ : MS) (a1 : Int32) (a2 : Int32) : Prop := wm_newThing (fun (s1 : MS) (r2 : Int32) => wm_part (fun (s3 : MS) => wm_negative (fun (s4 : MS) => wm_keep (fun (s5 : MS) => wm_part (fun (s6 : MS) => wm_keep (fun (s7 : MS) => wm_part (fun (s8 : MS) => wm_negative (fun (s9 : MS) => wm_part (fun (s10 : MS) => wm_times (fun (s11 : MS) => wm_part (fun (s12 : MS) => wm_part (fun (s13 : MS) => wm_times (fun (s14 : MS) => wm_plus (fun (s15 : MS) => wm_keep (fun (s16 : MS) => wm_normal (fun (s17 : MS) => post s17 r2) s16 r2) s15 r2 (2 : Int32)) s14) s13) s12 a1 (1 : Int32)) s11 a2 (0 : Int32)) s10) s9 a1 (0 : Int32)) s8) s7 a2 (1 : Int32)) s6 r2 (1 : Int32)) s5 a2 (0 : Int32)) s4 r2 (0 : Int32)) s3) s1 a2 (1 : Int32)) σ (3 : Int32)
set_option maxRecDepth 20000 in
theorem km_perp {l : Launch} {D : va_G} {cl : List vw_C} {G : gAd} {post : MS → Int32 → Prop} (hcl : mC cl) {σ : MS} {a1 : Int32} {a2 : Int32} (h : wm_perp post σ a1 a2) : mMet l D cl G yX13_perp cX13_perp 4 (some .int) 5 [.ref (G.1 0), .int a1, .int a2] σ (qI post) := by
  unfold wm_perp at h
  refine m_enter hcl (by decide +kernel) rfl [(0, .ref (G.1 0)), (1, .int a1), (2, .int a2)] rfl (Nat.le_of_ble_eq_true rfl) ?_
  intro E hE hm hF
  have hN := hm.2.2.2.2.2.2.1
  refine r_aload_n hE 0 dX13_perp_g0.1 rfl rfl ?_
  refine r_iconst (v := (3 : Int32)) hE dX13_perp_g0.2.1 (by decide) ?_
  refine m_callVi hE hm [.int (3 : Int32)] [] mc_newThing (km_newThing hm.2.2.2.2.2.2.2.2 h) (by decide) rfl rfl (Nat.le_of_ble_eq_true rfl) dX13_perp_g0.2.2.1 (fun s1 r2 h => ?_)
  refine r_istore_n hE [(3, .int r2), (0, .ref (G.1 0)), (1, .int a1), (2, .int a2)] dX13_perp_g0.2.2.2.1 rfl hN (by decide) rfl ?_
  refine r_aload_n hE 1 dX13_perp_g0.2.2.2.2.1 rfl rfl ?_
  refine r_iload_n hE 3 dX13_perp_g0.2.2.2.2.2.1 rfl rfl ?_
  refine r_iconst (v := (1 : Int32)) hE dX13_perp_g0.2.2.2.2.2.2.1 (by decide) ?_
  refine m_callVv hE hm [.int a2, .int (1 : Int32)] [] mc_part (km_part hm.2.2.2.2.2.2.2.2 h) (by decide) rfl rfl (Nat.le_of_ble_eq_true rfl) dX13_perp_g0.2.2.2.2.2.2.2.1 (fun s3 h => ?_)
  refine r_aload_n hE 1 dX13_perp_g0.2.2.2.2.2.2.2.2.1 rfl rfl ?_
  refine m_callVv hE hm [] [] mc_negative (km_negative hm.2.2.2.2.2.2.2.2 h) (by decide) rfl rfl (Nat.le_of_ble_eq_true rfl) dX13_perp_g0.2.2.2.2.2.2.2.2.2.1 (fun s4 h => ?_)
  refine r_aload_n hE 1 dX13_perp_g0.2.2.2.2.2.2.2.2.2.2.1 rfl rfl ?_
  refine r_iload_n hE 0 dX13_perp_g0.2.2.2.2.2.2.2.2.2.2.2.1 rfl rfl ?_
  refine r_iconst (v := (0 : Int32)) hE dX13_perp_g0.2.2.2.2.2.2.2.2.2.2.2.2.1 (by decide) ?_
  refine m_callVv hE hm [.int r2, .int (0 : Int32)] [] mc_keep (km_keep hm.2.2.2.2.2.2.2.2 h) (by decide) rfl rfl (Nat.le_of_ble_eq_true rfl) dX13_perp_g0.2.2.2.2.2.2.2.2.2.2.2.2.2.1 (fun s5 h => ?_)
  refine r_aload_n hE 1 dX13_perp_g0.2.2.2.2.2.2.2.2.2.2.2.2.2.2.1 rfl rfl ?_
  refine r_iload_n hE 3 dX13_perp_g0.2.2.2.2.2.2.2.2.2.2.2.2.2.2.2 rfl rfl ?_
  refine r_iconst (v := (0 : Int32)) hE dX13_perp_g1.1 (by decide) ?_
  refine m_callVv hE hm [.int a2, .int (0 : Int32)] [] mc_part (km_part hm.2.2.2.2.2.2.2.2 h) (by decide) rfl rfl (Nat.le_of_ble_eq_true rfl) dX13_perp_g1.2.1 (fun s6 h => ?_)
  refine r_aload_n hE 1 dX13_perp_g1.2.2.1 rfl rfl ?_
  refine r_iload_n hE 0 dX13_perp_g1.2.2.2.1 rfl rfl ?_
  refine r_iconst (v := (1 : Int32)) hE dX13_perp_g1.2.2.2.2.1 (by decide) ?_
  refine m_callVv hE hm [.int r2, .int (1 : Int32)] [] mc_keep (km_keep hm.2.2.2.2.2.2.2.2 h) (by decide) rfl rfl (Nat.le_of_ble_eq_true rfl) dX13_perp_g1.2.2.2.2.2.1 (fun s7 h => ?_)
  refine r_aload_n hE 1 dX13_perp_g1.2.2.2.2.2.2.1 rfl rfl ?_
  refine r_iload_n hE 3 dX13_perp_g1.2.2.2.2.2.2.2.1 rfl rfl ?_
  refine r_iconst (v := (1 : Int32)) hE dX13_perp_g1.2.2.2.2.2.2.2.2.1 (by decide) ?_
  refine m_callVv hE hm [.int a2, .int (1 : Int32)] [] mc_part (km_part hm.2.2.2.2.2.2.2.2 h) (by decide) rfl rfl (Nat.le_of_ble_eq_true rfl) dX13_perp_g1.2.2.2.2.2.2.2.2.2.1 (fun s8 h => ?_)
  refine r_aload_n hE 1 dX13_perp_g1.2.2.2.2.2.2.2.2.2.2.1 rfl rfl ?_
  refine m_callVv hE hm [] [] mc_negative (km_negative hm.2.2.2.2.2.2.2.2 h) (by decide) rfl rfl (Nat.le_of_ble_eq_true rfl) dX13_perp_g1.2.2.2.2.2.2.2.2.2.2.2.1 (fun s9 h => ?_)
  refine r_aload_n hE 1 dX13_perp_g1.2.2.2.2.2.2.2.2.2.2.2.2.1 rfl rfl ?_
  refine r_iload_n hE 2 dX13_perp_g1.2.2.2.2.2.2.2.2.2.2.2.2.2.1 rfl rfl ?_
  refine r_iconst (v := (0 : Int32)) hE dX13_perp_g1.2.2.2.2.2.2.2.2.2.2.2.2.2.2.1 (by decide) ?_
  refine m_callVv hE hm [.int a1, .int (0 : Int32)] [] mc_part (km_part hm.2.2.2.2.2.2.2.2 h) (by decide) rfl rfl (Nat.le_of_ble_eq_true rfl) dX13_perp_g1.2.2.2.2.2.2.2.2.2.2.2.2.2.2.2 (fun s10 h => ?_)
  refine r_aload_n hE 1 dX13_perp_g2.1 rfl rfl ?_
  refine m_callVv hE hm [] [] mc_times (km_times hm.2.2.2.2.2.2.2.2 h) (by decide) rfl rfl (Nat.le_of_ble_eq_true rfl) dX13_perp_g2.2.1 (fun s11 h => ?_)
  refine r_aload_n hE 1 dX13_perp_g2.2.2.1 rfl rfl ?_
  refine r_iload_n hE 3 dX13_perp_g2.2.2.2.1 rfl rfl ?_
  refine r_iconst (v := (0 : Int32)) hE dX13_perp_g2.2.2.2.2.1 (by decide) ?_
  refine m_callVv hE hm [.int a2, .int (0 : Int32)] [] mc_part (km_part hm.2.2.2.2.2.2.2.2 h) (by decide) rfl rfl (Nat.le_of_ble_eq_true rfl) dX13_perp_g2.2.2.2.2.2.1 (fun s12 h => ?_)
  refine r_aload_n hE 1 dX13_perp_g2.2.2.2.2.2.2.1 rfl rfl ?_
  refine r_iload_n hE 2 dX13_perp_g2.2.2.2.2.2.2.2.1 rfl rfl ?_
  refine r_iconst (v := (1 : Int32)) hE dX13_perp_g2.2.2.2.2.2.2.2.2.1 (by decide) ?_
  refine m_callVv hE hm [.int a1, .int (1 : Int32)] [] mc_part (km_part hm.2.2.2.2.2.2.2.2 h) (by decide) rfl rfl (Nat.le_of_ble_eq_true rfl) dX13_perp_g2.2.2.2.2.2.2.2.2.2.1 (fun s13 h => ?_)
  refine r_aload_n hE 1 dX13_perp_g2.2.2.2.2.2.2.2.2.2.2.1 rfl rfl ?_
  refine m_callVv hE hm [] [] mc_times (km_times hm.2.2.2.2.2.2.2.2 h) (by decide) rfl rfl (Nat.le_of_ble_eq_true rfl) dX13_perp_g2.2.2.2.2.2.2.2.2.2.2.2.1 (fun s14 h => ?_)
  refine r_aload_n hE 1 dX13_perp_g2.2.2.2.2.2.2.2.2.2.2.2.2.1 rfl rfl ?_
  refine m_callVv hE hm [] [] mc_plus (km_plus hm.2.2.2.2.2.2.2.2 h) (by decide) rfl rfl (Nat.le_of_ble_eq_true rfl) dX13_perp_g2.2.2.2.2.2.2.2.2.2.2.2.2.2.1 (fun s15 h => ?_)
  refine r_aload_n hE 1 dX13_perp_g2.2.2.2.2.2.2.2.2.2.2.2.2.2.2.1 rfl rfl ?_
  refine r_iload_n hE 0 dX13_perp_g2.2.2.2.2.2.2.2.2.2.2.2.2.2.2.2 rfl rfl ?_
  refine r_iconst (v := (2 : Int32)) hE dX13_perp_g3.1 (by decide) ?_
  refine m_callVv hE hm [.int r2, .int (2 : Int32)] [] mc_keep (km_keep hm.2.2.2.2.2.2.2.2 h) (by decide) rfl rfl (Nat.le_of_ble_eq_true rfl) dX13_perp_g3.2.1 (fun s16 h => ?_)
  refine r_aload_n hE 1 dX13_perp_g3.2.2.1 rfl rfl ?_
  refine r_iload_n hE 0 dX13_perp_g3.2.2.2.1 rfl rfl ?_
  refine m_callVv hE hm [.int r2] [] mc_normal (km_normal hm.2.2.2.2.2.2.2.2 h) (by decide) rfl rfl (Nat.le_of_ble_eq_true rfl) dX13_perp_g3.2.2.2.2.1 (fun s17 h => ?_)
  refine r_iload_n hE 0 dX13_perp_g3.2.2.2.2.2.1 rfl rfl ?_
  exact m_iret hE hm hF dX13_perp_g3.2.2.2.2.2.2 h
/-! meet -/
def wm_meet (post : MS → Int32 → Prop) (σ : MS) (a1 : Int32) (a2 : Int32) : Prop := wm_newThing (fun (s1 : MS) (r2 : Int32) => wm_part (fun (s3 : MS) => wm_part (fun (s4 : MS) => wm_times (fun (s5 : MS) => wm_part (fun (s6 : MS) => wm_part (fun (s7 : MS) => wm_times (fun (s8 : MS) => wm_less (fun (s9 : MS) => vp_in ((m_piled s9) - (1 : Int32)) 40 ∧ (∀ x10 : Int64, x10 = m_top s9 ((m_piled s9) - (1 : Int32)).toNatClampNeg → vp_in ((m_piled s9) - (1 : Int32)) 40 ∧ (∀ x11 : Int64, x11 = m_bottom s9 ((m_piled s9) - (1 : Int32)).toNatClampNeg → ∀ s12 : MS, s12 = m_piled_s s9 ((m_piled s9) - (1 : Int32)) → wm_part (fun (s13 : MS) => wm_part (fun (s14 : MS) => wm_times (fun (s15 : MS) => wm_part (fun (s16 : MS) => wm_part (fun (s17 : MS) => wm_times (fun (s18 : MS) => wm_less (fun (s19 : MS) => wm_push (fun (s20 : MS) => wm_by (fun (s21 : MS) => wm_keep (fun (s22 : MS) => wm_part (fun (s23 : MS) => wm_part (fun (s24 : MS) => wm_times (fun (s25 : MS) => wm_part (fun (s26 : MS) => wm_part (fun (s27 : MS) => wm_times (fun (s28 : MS) => wm_less (fun (s29 : MS) => wm_push (fun (s30 : MS) => wm_by (fun (s31 : MS) => wm_keep (fun (s32 : MS) => post s32 r2) s31 r2 (1 : Int32)) s30) s29 x10 x11) s28) s27) s26 a1 (2 : Int32)) s25 a2 (0 : Int32)) s24) s23 a2 (2 : Int32)) s22 a1 (0 : Int32)) s21 r2 (0 : Int32)) s20) s19 x10 x11) s18) s17) s16 a1 (1 : Int32)) s15 a2 (2 : Int32)) s14) s13 a2 (1 : Int32)) s12 a1 (2 : Int32)))) s8) s7) s6 a1 (1 : Int32)) s5 a2 (0 : Int32)) s4) s3 a2 (1 : Int32)) s1 a1 (0 : Int32)) σ (1 : Int32)
set_option maxRecDepth 20000 in
theorem km_meet {l : Launch} {D : va_G} {cl : List vw_C} {G : gAd} {post : MS → Int32 → Prop} (hcl : mC cl) {σ : MS} {a1 : Int32} {a2 : Int32} (h : wm_meet post σ a1 a2) : mMet l D cl G yX13_meet cX13_meet 8 (some .int) 4 [.ref (G.1 0), .int a1, .int a2] σ (qI post) := by
  unfold wm_meet at h
  refine m_enter hcl (by decide +kernel) rfl [(0, .ref (G.1 0)), (1, .int a1), (2, .int a2)] rfl (Nat.le_of_ble_eq_true rfl) ?_
  intro E hE hm hF
  have hN := hm.2.2.2.2.2.2.1
  refine r_aload_n hE 0 dX13_meet_g0.1 rfl rfl ?_
  refine r_iconst (v := (1 : Int32)) hE dX13_meet_g0.2.1 (by decide) ?_
  refine m_callVi hE hm [.int (1 : Int32)] [] mc_newThing (km_newThing hm.2.2.2.2.2.2.2.2 h) (by decide) rfl rfl (Nat.le_of_ble_eq_true rfl) dX13_meet_g0.2.2.1 (fun s1 r2 h => ?_)
  refine r_istore_n hE [(3, .int r2), (0, .ref (G.1 0)), (1, .int a1), (2, .int a2)] dX13_meet_g0.2.2.2.1 rfl hN (by decide) rfl ?_
  refine r_aload_n hE 1 dX13_meet_g0.2.2.2.2.1 rfl rfl ?_
  refine r_iload_n hE 2 dX13_meet_g0.2.2.2.2.2.1 rfl rfl ?_
  refine r_iconst (v := (0 : Int32)) hE dX13_meet_g0.2.2.2.2.2.2.1 (by decide) ?_
  refine m_callVv hE hm [.int a1, .int (0 : Int32)] [] mc_part (km_part hm.2.2.2.2.2.2.2.2 h) (by decide) rfl rfl (Nat.le_of_ble_eq_true rfl) dX13_meet_g0.2.2.2.2.2.2.2.1 (fun s3 h => ?_)
  refine r_aload_n hE 1 dX13_meet_g0.2.2.2.2.2.2.2.2.1 rfl rfl ?_
  refine r_iload_n hE 3 dX13_meet_g0.2.2.2.2.2.2.2.2.2.1 rfl rfl ?_
  refine r_iconst (v := (1 : Int32)) hE dX13_meet_g0.2.2.2.2.2.2.2.2.2.2.1 (by decide) ?_
  refine m_callVv hE hm [.int a2, .int (1 : Int32)] [] mc_part (km_part hm.2.2.2.2.2.2.2.2 h) (by decide) rfl rfl (Nat.le_of_ble_eq_true rfl) dX13_meet_g0.2.2.2.2.2.2.2.2.2.2.2.1 (fun s4 h => ?_)
  refine r_aload_n hE 1 dX13_meet_g0.2.2.2.2.2.2.2.2.2.2.2.2.1 rfl rfl ?_
  refine m_callVv hE hm [] [] mc_times (km_times hm.2.2.2.2.2.2.2.2 h) (by decide) rfl rfl (Nat.le_of_ble_eq_true rfl) dX13_meet_g0.2.2.2.2.2.2.2.2.2.2.2.2.2.1 (fun s5 h => ?_)
  refine r_aload_n hE 1 dX13_meet_g0.2.2.2.2.2.2.2.2.2.2.2.2.2.2.1 rfl rfl ?_
  refine r_iload_n hE 3 dX13_meet_g0.2.2.2.2.2.2.2.2.2.2.2.2.2.2.2 rfl rfl ?_
  refine r_iconst (v := (0 : Int32)) hE dX13_meet_g1.1 (by decide) ?_
  refine m_callVv hE hm [.int a2, .int (0 : Int32)] [] mc_part (km_part hm.2.2.2.2.2.2.2.2 h) (by decide) rfl rfl (Nat.le_of_ble_eq_true rfl) dX13_meet_g1.2.1 (fun s6 h => ?_)
  refine r_aload_n hE 1 dX13_meet_g1.2.2.1 rfl rfl ?_
  refine r_iload_n hE 2 dX13_meet_g1.2.2.2.1 rfl rfl ?_
  refine r_iconst (v := (1 : Int32)) hE dX13_meet_g1.2.2.2.2.1 (by decide) ?_
  refine m_callVv hE hm [.int a1, .int (1 : Int32)] [] mc_part (km_part hm.2.2.2.2.2.2.2.2 h) (by decide) rfl rfl (Nat.le_of_ble_eq_true rfl) dX13_meet_g1.2.2.2.2.2.1 (fun s7 h => ?_)
  refine r_aload_n hE 1 dX13_meet_g1.2.2.2.2.2.2.1 rfl rfl ?_
  refine m_callVv hE hm [] [] mc_times (km_times hm.2.2.2.2.2.2.2.2 h) (by decide) rfl rfl (Nat.le_of_ble_eq_true rfl) dX13_meet_g1.2.2.2.2.2.2.2.1 (fun s8 h => ?_)
  refine r_aload_n hE 1 dX13_meet_g1.2.2.2.2.2.2.2.2.1 rfl rfl ?_
  refine m_callVv hE hm [] [] mc_less (km_less hm.2.2.2.2.2.2.2.2 h) (by decide) rfl rfl (Nat.le_of_ble_eq_true rfl) dX13_meet_g1.2.2.2.2.2.2.2.2.2.1 (fun s9 h => ?_)
  refine r_aload_n hE 1 dX13_meet_g1.2.2.2.2.2.2.2.2.2.2.1 rfl rfl ?_
  refine mg_top hE hm dX13_meet_g1.2.2.2.2.2.2.2.2.2.2.2.1 ?_
  refine r_aload_n hE 1 dX13_meet_g1.2.2.2.2.2.2.2.2.2.2.2.2.1 rfl rfl ?_
  refine mg_piled hE hm dX13_meet_g1.2.2.2.2.2.2.2.2.2.2.2.2.2.1 ?_
  refine r_iconst (v := (1 : Int32)) hE dX13_meet_g1.2.2.2.2.2.2.2.2.2.2.2.2.2.2.1 (by decide) ?_
  refine r_isub hE dX13_meet_g1.2.2.2.2.2.2.2.2.2.2.2.2.2.2.2 ?_
  obtain ⟨hi, h⟩ := h
  refine ml_top hE hm dX13_meet_g2.1 hi ?_
  refine r_topl h (fun x10 ex10 h => ?_)
  refine r_lstore hE [(4, .long x10), (3, .int r2), (0, .ref (G.1 0)), (1, .int a1), (2, .int a2)] dX13_meet_g2.2.1 hN (by decide) rfl ?_
  refine r_aload_n hE 2 dX13_meet_g2.2.2.1 rfl rfl ?_
  refine mg_bottom hE hm dX13_meet_g2.2.2.2.1 ?_
  refine r_aload_n hE 2 dX13_meet_g2.2.2.2.2.1 rfl rfl ?_
  refine mg_piled hE hm dX13_meet_g2.2.2.2.2.2.1 ?_
  refine r_iconst (v := (1 : Int32)) hE dX13_meet_g2.2.2.2.2.2.2.1 (by decide) ?_
  refine r_isub hE dX13_meet_g2.2.2.2.2.2.2.2.1 ?_
  obtain ⟨hi, h⟩ := h
  refine ml_bottom hE hm dX13_meet_g2.2.2.2.2.2.2.2.2.1 hi ?_
  refine r_topl h (fun x11 ex11 h => ?_)
  refine r_lstore hE [(6, .long x11), (4, .long x10), (3, .int r2), (0, .ref (G.1 0)), (1, .int a1), (2, .int a2)] dX13_meet_g2.2.2.2.2.2.2.2.2.2.1 hN (by decide) rfl ?_
  refine r_aload_n hE 3 dX13_meet_g2.2.2.2.2.2.2.2.2.2.2.1 rfl rfl ?_
  refine r_dup hE dX13_meet_g2.2.2.2.2.2.2.2.2.2.2.2.1 rfl ?_
  refine mg_piled hE hm dX13_meet_g2.2.2.2.2.2.2.2.2.2.2.2.2.1 ?_
  refine r_iconst (v := (1 : Int32)) hE dX13_meet_g2.2.2.2.2.2.2.2.2.2.2.2.2.2.1 (by decide) ?_
  refine r_isub hE dX13_meet_g2.2.2.2.2.2.2.2.2.2.2.2.2.2.2.1 ?_
  refine mp_piled hE hm dX13_meet_g2.2.2.2.2.2.2.2.2.2.2.2.2.2.2.2 h (fun s12 h => ?_)
  refine r_aload_n hE 3 dX13_meet_g3.1 rfl rfl ?_
  refine r_iload_n hE 4 dX13_meet_g3.2.1 rfl rfl ?_
  refine r_iconst (v := (2 : Int32)) hE dX13_meet_g3.2.2.1 (by decide) ?_
  refine m_callVv hE hm [.int a1, .int (2 : Int32)] [] mc_part (km_part hm.2.2.2.2.2.2.2.2 h) (by decide) rfl rfl (Nat.le_of_ble_eq_true rfl) dX13_meet_g3.2.2.2.1 (fun s13 h => ?_)
  refine r_aload_n hE 3 dX13_meet_g3.2.2.2.2.1 rfl rfl ?_
  refine r_iload_n hE 5 dX13_meet_g3.2.2.2.2.2.1 rfl rfl ?_
  refine r_iconst (v := (1 : Int32)) hE dX13_meet_g3.2.2.2.2.2.2.1 (by decide) ?_
  refine m_callVv hE hm [.int a2, .int (1 : Int32)] [] mc_part (km_part hm.2.2.2.2.2.2.2.2 h) (by decide) rfl rfl (Nat.le_of_ble_eq_true rfl) dX13_meet_g3.2.2.2.2.2.2.2.1 (fun s14 h => ?_)
  refine r_aload_n hE 3 dX13_meet_g3.2.2.2.2.2.2.2.2.1 rfl rfl ?_
  refine m_callVv hE hm [] [] mc_times (km_times hm.2.2.2.2.2.2.2.2 h) (by decide) rfl rfl (Nat.le_of_ble_eq_true rfl) dX13_meet_g3.2.2.2.2.2.2.2.2.2.1 (fun s15 h => ?_)
  refine r_aload_n hE 3 dX13_meet_g3.2.2.2.2.2.2.2.2.2.2.1 rfl rfl ?_
  refine r_iload_n hE 5 dX13_meet_g3.2.2.2.2.2.2.2.2.2.2.2.1 rfl rfl ?_
  refine r_iconst (v := (2 : Int32)) hE dX13_meet_g3.2.2.2.2.2.2.2.2.2.2.2.2.1 (by decide) ?_
  refine m_callVv hE hm [.int a2, .int (2 : Int32)] [] mc_part (km_part hm.2.2.2.2.2.2.2.2 h) (by decide) rfl rfl (Nat.le_of_ble_eq_true rfl) dX13_meet_g3.2.2.2.2.2.2.2.2.2.2.2.2.2.1 (fun s16 h => ?_)
  refine r_aload_n hE 3 dX13_meet_g3.2.2.2.2.2.2.2.2.2.2.2.2.2.2.1 rfl rfl ?_
  refine r_iload_n hE 4 dX13_meet_g3.2.2.2.2.2.2.2.2.2.2.2.2.2.2.2 rfl rfl ?_
  refine r_iconst (v := (1 : Int32)) hE dX13_meet_g4.1 (by decide) ?_
  refine m_callVv hE hm [.int a1, .int (1 : Int32)] [] mc_part (km_part hm.2.2.2.2.2.2.2.2 h) (by decide) rfl rfl (Nat.le_of_ble_eq_true rfl) dX13_meet_g4.2.1 (fun s17 h => ?_)
  refine r_aload_n hE 3 dX13_meet_g4.2.2.1 rfl rfl ?_
  refine m_callVv hE hm [] [] mc_times (km_times hm.2.2.2.2.2.2.2.2 h) (by decide) rfl rfl (Nat.le_of_ble_eq_true rfl) dX13_meet_g4.2.2.2.1 (fun s18 h => ?_)
  refine r_aload_n hE 3 dX13_meet_g4.2.2.2.2.1 rfl rfl ?_
  refine m_callVv hE hm [] [] mc_less (km_less hm.2.2.2.2.2.2.2.2 h) (by decide) rfl rfl (Nat.le_of_ble_eq_true rfl) dX13_meet_g4.2.2.2.2.2.1 (fun s19 h => ?_)
  refine r_aload_n hE 3 dX13_meet_g4.2.2.2.2.2.2.1 rfl rfl ?_
  refine r_lload hE 1 dX13_meet_g4.2.2.2.2.2.2.2.1 rfl ?_
  refine r_lload hE 0 dX13_meet_g4.2.2.2.2.2.2.2.2.1 rfl ?_
  refine m_callVv hE hm [.long x10, .long x11] [] mc_push (km_push hm.2.2.2.2.2.2.2.2 h) (by decide) rfl rfl (Nat.le_of_ble_eq_true rfl) dX13_meet_g4.2.2.2.2.2.2.2.2.2.1 (fun s20 h => ?_)
  refine r_aload_n hE 3 dX13_meet_g4.2.2.2.2.2.2.2.2.2.2.1 rfl rfl ?_
  refine m_callVv hE hm [] [] mc_by (km_by hm.2.2.2.2.2.2.2.2 h) (by decide) rfl rfl (Nat.le_of_ble_eq_true rfl) dX13_meet_g4.2.2.2.2.2.2.2.2.2.2.2.1 (fun s21 h => ?_)
  refine r_aload_n hE 3 dX13_meet_g4.2.2.2.2.2.2.2.2.2.2.2.2.1 rfl rfl ?_
  refine r_iload_n hE 2 dX13_meet_g4.2.2.2.2.2.2.2.2.2.2.2.2.2.1 rfl rfl ?_
  refine r_iconst (v := (0 : Int32)) hE dX13_meet_g4.2.2.2.2.2.2.2.2.2.2.2.2.2.2.1 (by decide) ?_
  refine m_callVv hE hm [.int r2, .int (0 : Int32)] [] mc_keep (km_keep hm.2.2.2.2.2.2.2.2 h) (by decide) rfl rfl (Nat.le_of_ble_eq_true rfl) dX13_meet_g4.2.2.2.2.2.2.2.2.2.2.2.2.2.2.2 (fun s22 h => ?_)
  refine r_aload_n hE 3 dX13_meet_g5.1 rfl rfl ?_
  refine r_iload_n hE 4 dX13_meet_g5.2.1 rfl rfl ?_
  refine r_iconst (v := (0 : Int32)) hE dX13_meet_g5.2.2.1 (by decide) ?_
  refine m_callVv hE hm [.int a1, .int (0 : Int32)] [] mc_part (km_part hm.2.2.2.2.2.2.2.2 h) (by decide) rfl rfl (Nat.le_of_ble_eq_true rfl) dX13_meet_g5.2.2.2.1 (fun s23 h => ?_)
  refine r_aload_n hE 3 dX13_meet_g5.2.2.2.2.1 rfl rfl ?_
  refine r_iload_n hE 5 dX13_meet_g5.2.2.2.2.2.1 rfl rfl ?_
  refine r_iconst (v := (2 : Int32)) hE dX13_meet_g5.2.2.2.2.2.2.1 (by decide) ?_
  refine m_callVv hE hm [.int a2, .int (2 : Int32)] [] mc_part (km_part hm.2.2.2.2.2.2.2.2 h) (by decide) rfl rfl (Nat.le_of_ble_eq_true rfl) dX13_meet_g5.2.2.2.2.2.2.2.1 (fun s24 h => ?_)
  refine r_aload_n hE 3 dX13_meet_g5.2.2.2.2.2.2.2.2.1 rfl rfl ?_
  refine m_callVv hE hm [] [] mc_times (km_times hm.2.2.2.2.2.2.2.2 h) (by decide) rfl rfl (Nat.le_of_ble_eq_true rfl) dX13_meet_g5.2.2.2.2.2.2.2.2.2.1 (fun s25 h => ?_)
  refine r_aload_n hE 3 dX13_meet_g5.2.2.2.2.2.2.2.2.2.2.1 rfl rfl ?_
  refine r_iload_n hE 5 dX13_meet_g5.2.2.2.2.2.2.2.2.2.2.2.1 rfl rfl ?_
  refine r_iconst (v := (0 : Int32)) hE dX13_meet_g5.2.2.2.2.2.2.2.2.2.2.2.2.1 (by decide) ?_
  refine m_callVv hE hm [.int a2, .int (0 : Int32)] [] mc_part (km_part hm.2.2.2.2.2.2.2.2 h) (by decide) rfl rfl (Nat.le_of_ble_eq_true rfl) dX13_meet_g5.2.2.2.2.2.2.2.2.2.2.2.2.2.1 (fun s26 h => ?_)
  refine r_aload_n hE 3 dX13_meet_g5.2.2.2.2.2.2.2.2.2.2.2.2.2.2.1 rfl rfl ?_
  refine r_iload_n hE 4 dX13_meet_g5.2.2.2.2.2.2.2.2.2.2.2.2.2.2.2 rfl rfl ?_
  refine r_iconst (v := (2 : Int32)) hE dX13_meet_g6.1 (by decide) ?_
  refine m_callVv hE hm [.int a1, .int (2 : Int32)] [] mc_part (km_part hm.2.2.2.2.2.2.2.2 h) (by decide) rfl rfl (Nat.le_of_ble_eq_true rfl) dX13_meet_g6.2.1 (fun s27 h => ?_)
  refine r_aload_n hE 3 dX13_meet_g6.2.2.1 rfl rfl ?_
  refine m_callVv hE hm [] [] mc_times (km_times hm.2.2.2.2.2.2.2.2 h) (by decide) rfl rfl (Nat.le_of_ble_eq_true rfl) dX13_meet_g6.2.2.2.1 (fun s28 h => ?_)
  refine r_aload_n hE 3 dX13_meet_g6.2.2.2.2.1 rfl rfl ?_
  refine m_callVv hE hm [] [] mc_less (km_less hm.2.2.2.2.2.2.2.2 h) (by decide) rfl rfl (Nat.le_of_ble_eq_true rfl) dX13_meet_g6.2.2.2.2.2.1 (fun s29 h => ?_)
  refine r_aload_n hE 3 dX13_meet_g6.2.2.2.2.2.2.1 rfl rfl ?_
  refine r_lload hE 1 dX13_meet_g6.2.2.2.2.2.2.2.1 rfl ?_
  refine r_lload hE 0 dX13_meet_g6.2.2.2.2.2.2.2.2.1 rfl ?_
  refine m_callVv hE hm [.long x10, .long x11] [] mc_push (km_push hm.2.2.2.2.2.2.2.2 h) (by decide) rfl rfl (Nat.le_of_ble_eq_true rfl) dX13_meet_g6.2.2.2.2.2.2.2.2.2.1 (fun s30 h => ?_)
  refine r_aload_n hE 3 dX13_meet_g6.2.2.2.2.2.2.2.2.2.2.1 rfl rfl ?_
  refine m_callVv hE hm [] [] mc_by (km_by hm.2.2.2.2.2.2.2.2 h) (by decide) rfl rfl (Nat.le_of_ble_eq_true rfl) dX13_meet_g6.2.2.2.2.2.2.2.2.2.2.2.1 (fun s31 h => ?_)
  refine r_aload_n hE 3 dX13_meet_g6.2.2.2.2.2.2.2.2.2.2.2.2.1 rfl rfl ?_
  refine r_iload_n hE 2 dX13_meet_g6.2.2.2.2.2.2.2.2.2.2.2.2.2.1 rfl rfl ?_
  refine r_iconst (v := (1 : Int32)) hE dX13_meet_g6.2.2.2.2.2.2.2.2.2.2.2.2.2.2.1 (by decide) ?_
  refine m_callVv hE hm [.int r2, .int (1 : Int32)] [] mc_keep (km_keep hm.2.2.2.2.2.2.2.2 h) (by decide) rfl rfl (Nat.le_of_ble_eq_true rfl) dX13_meet_g6.2.2.2.2.2.2.2.2.2.2.2.2.2.2.2 (fun s32 h => ?_)
  refine r_iload_n hE 2 dX13_meet_g7.1 rfl rfl ?_
  exact m_iret hE hm hF dX13_meet_g7.2 h
/-! foot -/
def wm_foot (post : MS → Int32 → Prop) (σ : MS) (a1 : Int32) (a2 : Int32) : Prop := wm_perp (fun (s1 : MS) (r2 : Int32) => wm_meet (fun (s3 : MS) (r4 : Int32) => post s3 r4) s1 a2 r2) σ a1 a2
set_option maxRecDepth 20000 in
theorem km_foot {l : Launch} {D : va_G} {cl : List vw_C} {G : gAd} {post : MS → Int32 → Prop} (hcl : mC cl) {σ : MS} {a1 : Int32} {a2 : Int32} (h : wm_foot post σ a1 a2) : mMet l D cl G yX13_foot cX13_foot 3 (some .int) 6 [.ref (G.1 0), .int a1, .int a2] σ (qI post) := by
  unfold wm_foot at h
  refine m_enter hcl (by decide +kernel) rfl [(0, .ref (G.1 0)), (1, .int a1), (2, .int a2)] rfl (Nat.le_of_ble_eq_true rfl) ?_
  intro E hE hm hF
  have hN := hm.2.2.2.2.2.2.1
  refine r_aload_n hE 0 dX13_foot_g0.1 rfl rfl ?_
  refine r_iload_n hE 2 dX13_foot_g0.2.1 rfl rfl ?_
  refine r_aload_n hE 0 dX13_foot_g0.2.2.1 rfl rfl ?_
  refine r_iload_n hE 1 dX13_foot_g0.2.2.2.1 rfl rfl ?_
  refine r_iload_n hE 2 dX13_foot_g0.2.2.2.2.1 rfl rfl ?_
  refine m_callVi hE hm [.int a1, .int a2] [.int a2, .ref (G.1 0)] mc_perp (km_perp hm.2.2.2.2.2.2.2.2 h) (by decide) rfl rfl (Nat.le_of_ble_eq_true rfl) dX13_foot_g0.2.2.2.2.2.1 (fun s1 r2 h => ?_)
  refine m_callVi hE hm [.int a2, .int r2] [] mc_meet (km_meet hm.2.2.2.2.2.2.2.2 h) (by decide) rfl rfl (Nat.le_of_ble_eq_true rfl) dX13_foot_g0.2.2.2.2.2.2.1 (fun s3 r4 h => ?_)
  exact m_iret hE hm hF dX13_foot_g0.2.2.2.2.2.2.2 h
/-! mirror -/
def wm_mirror_17 (post : MS → Int32 → Prop) : Nat → MS → Int32 → Int32 → Int32 → Int32 → Prop
  | 0, _, _, _, _, _ => False
  | n + 1, σ, v1, v3, v4, v5 => (((2 : Int32) ≤ v5) → (post σ v4)) ∧ ((¬ ((2 : Int32) ≤ v5)) → (wm_whole (fun (s1 : MS) => wm_part (fun (s2 : MS) => wm_times (fun (s3 : MS) => wm_part (fun (s4 : MS) => wm_less (fun (s5 : MS) => wm_keep (fun (s6 : MS) => ∀ x7 : Int32, x7 = v5 + (1 : Int32) → wm_mirror_17 post n s6 v1 v3 v4 x7) s5 v4 v5) s4) s3 v1 v5) s2) s1 v3 v5) σ (2 : Int64)))
set_option maxRecDepth 20000 in
theorem km_mirror_17 {E : gEnv} {l : Launch} {D : va_G} {cl : List vw_C} {G : gAd} {post : MS → Int32 → Prop} (hE : gOK E cX13_mirror RX13 (some .int) 7) (hm : mOK E l D cl G (qI post) 6) (hF : gFin E) : ∀ (n : Nat) (σ : MS) (v1 : Int32) (v3 : Int32) (v4 : Int32) (v5 : Int32), wm_mirror_17 post n σ v1 v3 v4 v5 → GW E (mW G σ) 17 [(0, .ref (G.1 0)), (1, .int v1), (3, .int v3), (4, .int v4), (5, .int v5)] [] := by
  intro n
  induction n with
  | zero => intro σ v1 v3 v4 v5 h; exact h.elim
  | succ n ih =>
    intro σ v1 v3 v4 v5 h
    rw [wm_mirror_17] at h
    have hN := hm.2.2.2.2.2.2.1
    refine r_iload hE 4 dX13_mirror_g0.2.2.2.2.2.2.2.2.2.2.2.1 rfl ?_
    refine r_iconst (v := (2 : Int32)) hE dX13_mirror_g0.2.2.2.2.2.2.2.2.2.2.2.2.1 (by decide) ?_
    refine r_icmp_ge hE 66 dX13_mirror_g0.2.2.2.2.2.2.2.2.2.2.2.2.2.1 (by decide) h (fun h => ?_) (fun h => ?_)
    · refine r_iload hE 3 dX13_mirror_g2.2.2.2.1 rfl ?_
      exact m_iret hE hm hF dX13_mirror_g2.2.2.2.2 h
    · refine r_aload_n hE 0 dX13_mirror_g0.2.2.2.2.2.2.2.2.2.2.2.2.2.2.1 rfl rfl ?_
      refine r_ldc2 (v := (2 : Int64)) hE dX13_mirror_g0.2.2.2.2.2.2.2.2.2.2.2.2.2.2.2 (gTb_10 (List.mem_of_getElem? (i := 171) rfl) rfl) ?_
      refine m_callVv hE hm [.long (2 : Int64)] [] mc_whole (km_whole hm.2.2.2.2.2.2.2.2 h) (by decide) rfl rfl (Nat.le_of_ble_eq_true rfl) dX13_mirror_g1.1 (fun s1 h => ?_)
      refine r_aload_n hE 0 dX13_mirror_g1.2.1 rfl rfl ?_
      refine r_iload_n hE 2 dX13_mirror_g1.2.2.1 rfl rfl ?_
      refine r_iload hE 4 dX13_mirror_g1.2.2.2.1 rfl ?_
      refine m_callVv hE hm [.int v3, .int v5] [] mc_part (km_part hm.2.2.2.2.2.2.2.2 h) (by decide) rfl rfl (Nat.le_of_ble_eq_true rfl) dX13_mirror_g1.2.2.2.2.1 (fun s2 h => ?_)
      refine r_aload_n hE 0 dX13_mirror_g1.2.2.2.2.2.1 rfl rfl ?_
      refine m_callVv hE hm [] [] mc_times (km_times hm.2.2.2.2.2.2.2.2 h) (by decide) rfl rfl (Nat.le_of_ble_eq_true rfl) dX13_mirror_g1.2.2.2.2.2.2.1 (fun s3 h => ?_)
      refine r_aload_n hE 0 dX13_mirror_g1.2.2.2.2.2.2.2.1 rfl rfl ?_
      refine r_iload_n hE 1 dX13_mirror_g1.2.2.2.2.2.2.2.2.1 rfl rfl ?_
      refine r_iload hE 4 dX13_mirror_g1.2.2.2.2.2.2.2.2.2.1 rfl ?_
      refine m_callVv hE hm [.int v1, .int v5] [] mc_part (km_part hm.2.2.2.2.2.2.2.2 h) (by decide) rfl rfl (Nat.le_of_ble_eq_true rfl) dX13_mirror_g1.2.2.2.2.2.2.2.2.2.2.1 (fun s4 h => ?_)
      refine r_aload_n hE 0 dX13_mirror_g1.2.2.2.2.2.2.2.2.2.2.2.1 rfl rfl ?_
      refine m_callVv hE hm [] [] mc_less (km_less hm.2.2.2.2.2.2.2.2 h) (by decide) rfl rfl (Nat.le_of_ble_eq_true rfl) dX13_mirror_g1.2.2.2.2.2.2.2.2.2.2.2.2.1 (fun s5 h => ?_)
      refine r_aload_n hE 0 dX13_mirror_g1.2.2.2.2.2.2.2.2.2.2.2.2.2.1 rfl rfl ?_
      refine r_iload hE 3 dX13_mirror_g1.2.2.2.2.2.2.2.2.2.2.2.2.2.2.1 rfl ?_
      refine r_iload hE 4 dX13_mirror_g1.2.2.2.2.2.2.2.2.2.2.2.2.2.2.2 rfl ?_
      refine m_callVv hE hm [.int v4, .int v5] [] mc_keep (km_keep hm.2.2.2.2.2.2.2.2 h) (by decide) rfl rfl (Nat.le_of_ble_eq_true rfl) dX13_mirror_g2.1 (fun s6 h => ?_)
      obtain ⟨x7, ex7⟩ : ∃ z : Int32, z = v5 + (1 : Int32) := ⟨_, rfl⟩
      have h := h x7 ex7
      refine r_iinc (v := x7) hE [(5, .int x7), (0, .ref (G.1 0)), (1, .int v1), (3, .int v3), (4, .int v4)] 4 dX13_mirror_g2.2.1 rfl (by rw [ex7]; rfl) hN (by decide) rfl ?_
      refine r_goto hE 17 dX13_mirror_g2.2.2.1 (by decide) ?_
      refine r_pick [1, 2, 3, 4, 0] rfl ?_
      exact ih _ _ _ _ _ h
def wm_mirror (post : MS → Int32 → Prop) (σ : MS) (a1 : Int32) (a2 : Int32) : Prop := wm_foot (fun (s8 : MS) (r9 : Int32) => wm_newThing (fun (s10 : MS) (r11 : Int32) => ∃ k : Nat, wm_mirror_17 post k s10 a1 r9 r11 (0 : Int32)) s8 (1 : Int32)) σ a1 a2
set_option maxRecDepth 20000 in
theorem km_mirror {l : Launch} {D : va_G} {cl : List vw_C} {G : gAd} {post : MS → Int32 → Prop} (hcl : mC cl) {σ : MS} {a1 : Int32} {a2 : Int32} (h : wm_mirror post σ a1 a2) : mMet l D cl G yX13_mirror cX13_mirror 6 (some .int) 7 [.ref (G.1 0), .int a1, .int a2] σ (qI post) := by
  unfold wm_mirror at h
  refine m_enter hcl (by decide +kernel) rfl [(0, .ref (G.1 0)), (1, .int a1), (2, .int a2)] rfl (Nat.le_of_ble_eq_true rfl) ?_
  intro E hE hm hF
  have hN := hm.2.2.2.2.2.2.1
  refine r_aload_n hE 0 dX13_mirror_g0.1 rfl rfl ?_
  refine r_iload_n hE 1 dX13_mirror_g0.2.1 rfl rfl ?_
  refine r_iload_n hE 2 dX13_mirror_g0.2.2.1 rfl rfl ?_
  refine m_callVi hE hm [.int a1, .int a2] [] mc_foot (km_foot hm.2.2.2.2.2.2.2.2 h) (by decide) rfl rfl (Nat.le_of_ble_eq_true rfl) dX13_mirror_g0.2.2.2.1 (fun s8 r9 h => ?_)
  refine r_istore_n hE [(3, .int r9), (0, .ref (G.1 0)), (1, .int a1), (2, .int a2)] dX13_mirror_g0.2.2.2.2.1 rfl hN (by decide) rfl ?_
  refine r_aload_n hE 1 dX13_mirror_g0.2.2.2.2.2.1 rfl rfl ?_
  refine r_iconst (v := (1 : Int32)) hE dX13_mirror_g0.2.2.2.2.2.2.1 (by decide) ?_
  refine m_callVi hE hm [.int (1 : Int32)] [] mc_newThing (km_newThing hm.2.2.2.2.2.2.2.2 h) (by decide) rfl rfl (Nat.le_of_ble_eq_true rfl) dX13_mirror_g0.2.2.2.2.2.2.2.1 (fun s10 r11 h => ?_)
  refine r_istore hE [(4, .int r11), (3, .int r9), (0, .ref (G.1 0)), (1, .int a1), (2, .int a2)] dX13_mirror_g0.2.2.2.2.2.2.2.2.1 hN (by decide) rfl ?_
  refine r_iconst (v := (0 : Int32)) hE dX13_mirror_g0.2.2.2.2.2.2.2.2.2.1 (by decide) ?_
  refine r_istore hE [(5, .int (0 : Int32)), (4, .int r11), (3, .int r9), (0, .ref (G.1 0)), (1, .int a1), (2, .int a2)] dX13_mirror_g0.2.2.2.2.2.2.2.2.2.2.1 hN (by decide) rfl ?_
  refine r_pick [3, 4, 2, 1, 0] rfl ?_
  obtain ⟨k, h⟩ := h
  exact km_mirror_17 hE hm hF k _ _ _ _ _ h
/-! turn -/
def wm_turn (post : MS → Int32 → Prop) (σ : MS) (a1 : Int32) (a2 : Int32) : Prop := wm_newThing (fun (s1 : MS) (r2 : Int32) => wm_part (fun (s3 : MS) => wm_part (fun (s4 : MS) => wm_part (fun (s5 : MS) => wm_less (fun (s6 : MS) => wm_less (fun (s7 : MS) => wm_keep (fun (s8 : MS) => wm_part (fun (s9 : MS) => wm_part (fun (s10 : MS) => wm_part (fun (s11 : MS) => wm_less (fun (s12 : MS) => wm_plus (fun (s13 : MS) => wm_keep (fun (s14 : MS) => post s14 r2) s13 r2 (1 : Int32)) s12) s11) s10 a2 (0 : Int32)) s9 a1 (0 : Int32)) s8 a2 (1 : Int32)) s7 r2 (0 : Int32)) s6) s5) s4 a2 (1 : Int32)) s3 a1 (1 : Int32)) s1 a2 (0 : Int32)) σ (1 : Int32)
set_option maxRecDepth 20000 in
theorem km_turn {l : Launch} {D : va_G} {cl : List vw_C} {G : gAd} {post : MS → Int32 → Prop} (hcl : mC cl) {σ : MS} {a1 : Int32} {a2 : Int32} (h : wm_turn post σ a1 a2) : mMet l D cl G yX13_turn cX13_turn 4 (some .int) 4 [.ref (G.1 0), .int a1, .int a2] σ (qI post) := by
  unfold wm_turn at h
  refine m_enter hcl (by decide +kernel) rfl [(0, .ref (G.1 0)), (1, .int a1), (2, .int a2)] rfl (Nat.le_of_ble_eq_true rfl) ?_
  intro E hE hm hF
  have hN := hm.2.2.2.2.2.2.1
  refine r_aload_n hE 0 dX13_turn_g0.1 rfl rfl ?_
  refine r_iconst (v := (1 : Int32)) hE dX13_turn_g0.2.1 (by decide) ?_
  refine m_callVi hE hm [.int (1 : Int32)] [] mc_newThing (km_newThing hm.2.2.2.2.2.2.2.2 h) (by decide) rfl rfl (Nat.le_of_ble_eq_true rfl) dX13_turn_g0.2.2.1 (fun s1 r2 h => ?_)
  refine r_istore_n hE [(3, .int r2), (0, .ref (G.1 0)), (1, .int a1), (2, .int a2)] dX13_turn_g0.2.2.2.1 rfl hN (by decide) rfl ?_
  refine r_aload_n hE 1 dX13_turn_g0.2.2.2.2.1 rfl rfl ?_
  refine r_iload_n hE 3 dX13_turn_g0.2.2.2.2.2.1 rfl rfl ?_
  refine r_iconst (v := (0 : Int32)) hE dX13_turn_g0.2.2.2.2.2.2.1 (by decide) ?_
  refine m_callVv hE hm [.int a2, .int (0 : Int32)] [] mc_part (km_part hm.2.2.2.2.2.2.2.2 h) (by decide) rfl rfl (Nat.le_of_ble_eq_true rfl) dX13_turn_g0.2.2.2.2.2.2.2.1 (fun s3 h => ?_)
  refine r_aload_n hE 1 dX13_turn_g0.2.2.2.2.2.2.2.2.1 rfl rfl ?_
  refine r_iload_n hE 2 dX13_turn_g0.2.2.2.2.2.2.2.2.2.1 rfl rfl ?_
  refine r_iconst (v := (1 : Int32)) hE dX13_turn_g0.2.2.2.2.2.2.2.2.2.2.1 (by decide) ?_
  refine m_callVv hE hm [.int a1, .int (1 : Int32)] [] mc_part (km_part hm.2.2.2.2.2.2.2.2 h) (by decide) rfl rfl (Nat.le_of_ble_eq_true rfl) dX13_turn_g0.2.2.2.2.2.2.2.2.2.2.2.1 (fun s4 h => ?_)
  refine r_aload_n hE 1 dX13_turn_g0.2.2.2.2.2.2.2.2.2.2.2.2.1 rfl rfl ?_
  refine r_iload_n hE 3 dX13_turn_g0.2.2.2.2.2.2.2.2.2.2.2.2.2.1 rfl rfl ?_
  refine r_iconst (v := (1 : Int32)) hE dX13_turn_g0.2.2.2.2.2.2.2.2.2.2.2.2.2.2.1 (by decide) ?_
  refine m_callVv hE hm [.int a2, .int (1 : Int32)] [] mc_part (km_part hm.2.2.2.2.2.2.2.2 h) (by decide) rfl rfl (Nat.le_of_ble_eq_true rfl) dX13_turn_g0.2.2.2.2.2.2.2.2.2.2.2.2.2.2.2 (fun s5 h => ?_)
  refine r_aload_n hE 1 dX13_turn_g1.1 rfl rfl ?_
  refine m_callVv hE hm [] [] mc_less (km_less hm.2.2.2.2.2.2.2.2 h) (by decide) rfl rfl (Nat.le_of_ble_eq_true rfl) dX13_turn_g1.2.1 (fun s6 h => ?_)
  refine r_aload_n hE 1 dX13_turn_g1.2.2.1 rfl rfl ?_
  refine m_callVv hE hm [] [] mc_less (km_less hm.2.2.2.2.2.2.2.2 h) (by decide) rfl rfl (Nat.le_of_ble_eq_true rfl) dX13_turn_g1.2.2.2.1 (fun s7 h => ?_)
  refine r_aload_n hE 1 dX13_turn_g1.2.2.2.2.1 rfl rfl ?_
  refine r_iload_n hE 0 dX13_turn_g1.2.2.2.2.2.1 rfl rfl ?_
  refine r_iconst (v := (0 : Int32)) hE dX13_turn_g1.2.2.2.2.2.2.1 (by decide) ?_
  refine m_callVv hE hm [.int r2, .int (0 : Int32)] [] mc_keep (km_keep hm.2.2.2.2.2.2.2.2 h) (by decide) rfl rfl (Nat.le_of_ble_eq_true rfl) dX13_turn_g1.2.2.2.2.2.2.2.1 (fun s8 h => ?_)
  refine r_aload_n hE 1 dX13_turn_g1.2.2.2.2.2.2.2.2.1 rfl rfl ?_
  refine r_iload_n hE 3 dX13_turn_g1.2.2.2.2.2.2.2.2.2.1 rfl rfl ?_
  refine r_iconst (v := (1 : Int32)) hE dX13_turn_g1.2.2.2.2.2.2.2.2.2.2.1 (by decide) ?_
  refine m_callVv hE hm [.int a2, .int (1 : Int32)] [] mc_part (km_part hm.2.2.2.2.2.2.2.2 h) (by decide) rfl rfl (Nat.le_of_ble_eq_true rfl) dX13_turn_g1.2.2.2.2.2.2.2.2.2.2.2.1 (fun s9 h => ?_)
  refine r_aload_n hE 1 dX13_turn_g1.2.2.2.2.2.2.2.2.2.2.2.2.1 rfl rfl ?_
  refine r_iload_n hE 2 dX13_turn_g1.2.2.2.2.2.2.2.2.2.2.2.2.2.1 rfl rfl ?_
  refine r_iconst (v := (0 : Int32)) hE dX13_turn_g1.2.2.2.2.2.2.2.2.2.2.2.2.2.2.1 (by decide) ?_
  refine m_callVv hE hm [.int a1, .int (0 : Int32)] [] mc_part (km_part hm.2.2.2.2.2.2.2.2 h) (by decide) rfl rfl (Nat.le_of_ble_eq_true rfl) dX13_turn_g1.2.2.2.2.2.2.2.2.2.2.2.2.2.2.2 (fun s10 h => ?_)
  refine r_aload_n hE 1 dX13_turn_g2.1 rfl rfl ?_
  refine r_iload_n hE 3 dX13_turn_g2.2.1 rfl rfl ?_
  refine r_iconst (v := (0 : Int32)) hE dX13_turn_g2.2.2.1 (by decide) ?_
  refine m_callVv hE hm [.int a2, .int (0 : Int32)] [] mc_part (km_part hm.2.2.2.2.2.2.2.2 h) (by decide) rfl rfl (Nat.le_of_ble_eq_true rfl) dX13_turn_g2.2.2.2.1 (fun s11 h => ?_)
  refine r_aload_n hE 1 dX13_turn_g2.2.2.2.2.1 rfl rfl ?_
  refine m_callVv hE hm [] [] mc_less (km_less hm.2.2.2.2.2.2.2.2 h) (by decide) rfl rfl (Nat.le_of_ble_eq_true rfl) dX13_turn_g2.2.2.2.2.2.1 (fun s12 h => ?_)
  refine r_aload_n hE 1 dX13_turn_g2.2.2.2.2.2.2.1 rfl rfl ?_
  refine m_callVv hE hm [] [] mc_plus (km_plus hm.2.2.2.2.2.2.2.2 h) (by decide) rfl rfl (Nat.le_of_ble_eq_true rfl) dX13_turn_g2.2.2.2.2.2.2.2.1 (fun s13 h => ?_)
  refine r_aload_n hE 1 dX13_turn_g2.2.2.2.2.2.2.2.2.1 rfl rfl ?_
  refine r_iload_n hE 0 dX13_turn_g2.2.2.2.2.2.2.2.2.2.1 rfl rfl ?_
  refine r_iconst (v := (1 : Int32)) hE dX13_turn_g2.2.2.2.2.2.2.2.2.2.2.1 (by decide) ?_
  refine m_callVv hE hm [.int r2, .int (1 : Int32)] [] mc_keep (km_keep hm.2.2.2.2.2.2.2.2 h) (by decide) rfl rfl (Nat.le_of_ble_eq_true rfl) dX13_turn_g2.2.2.2.2.2.2.2.2.2.2.2.1 (fun s14 h => ?_)
  refine r_iload_n hE 0 dX13_turn_g2.2.2.2.2.2.2.2.2.2.2.2.2.1 rfl rfl ?_
  exact m_iret hE hm hF dX13_turn_g2.2.2.2.2.2.2.2.2.2.2.2.2.2 h
/-! scale -/
def wm_scale_10 (post : MS → Int32 → Prop) : Nat → MS → Int32 → Int32 → Int64 → Int64 → Int32 → Int32 → Prop
  | 0, _, _, _, _, _, _, _ => False
  | n + 1, σ, v1, v2, v3, v5, v7, v8 => (((2 : Int32) ≤ v8) → (post σ v7)) ∧ ((¬ ((2 : Int32) ≤ v8)) → (wm_part (fun (s1 : MS) => wm_push (fun (s2 : MS) => wm_part (fun (s3 : MS) => wm_part (fun (s4 : MS) => wm_less (fun (s5 : MS) => wm_times (fun (s6 : MS) => wm_plus (fun (s7 : MS) => wm_keep (fun (s8 : MS) => ∀ x9 : Int32, x9 = v8 + (1 : Int32) → wm_scale_10 post n s8 v1 v2 v3 v5 v7 x9) s7 v7 v8) s6) s5) s4) s3 v2 v8) s2 v1 v8) s1 v3 v5) σ v2 v8))
set_option maxRecDepth 20000 in
theorem km_scale_10 {E : gEnv} {l : Launch} {D : va_G} {cl : List vw_C} {G : gAd} {post : MS → Int32 → Prop} (hE : gOK E cX13_scale RX13 (some .int) 4) (hm : mOK E l D cl G (qI post) 9) (hF : gFin E) : ∀ (n : Nat) (σ : MS) (v1 : Int32) (v2 : Int32) (v3 : Int64) (v5 : Int64) (v7 : Int32) (v8 : Int32), wm_scale_10 post n σ v1 v2 v3 v5 v7 v8 → GW E (mW G σ) 10 [(0, .ref (G.1 0)), (1, .int v1), (2, .int v2), (3, .long v3), (5, .long v5), (7, .int v7), (8, .int v8)] [] := by
  intro n
  induction n with
  | zero => intro σ v1 v2 v3 v5 v7 v8 h; exact h.elim
  | succ n ih =>
    intro σ v1 v2 v3 v5 v7 v8 h
    rw [wm_scale_10] at h
    have hN := hm.2.2.2.2.2.2.1
    refine r_iload hE 6 dX13_scale_g0.2.2.2.2.2.2.1 rfl ?_
    refine r_iconst (v := (2 : Int32)) hE dX13_scale_g0.2.2.2.2.2.2.2.1 (by decide) ?_
    refine r_icmp_ge hE 70 dX13_scale_g0.2.2.2.2.2.2.2.2.1 (by decide) h (fun h => ?_) (fun h => ?_)
    · refine r_iload hE 5 dX13_scale_g2.2.2.2.2.2.1 rfl ?_
      exact m_iret hE hm hF dX13_scale_g2.2.2.2.2.2.2 h
    · refine r_aload_n hE 0 dX13_scale_g0.2.2.2.2.2.2.2.2.2.1 rfl rfl ?_
      refine r_iload_n hE 2 dX13_scale_g0.2.2.2.2.2.2.2.2.2.2.1 rfl rfl ?_
      refine r_iload hE 6 dX13_scale_g0.2.2.2.2.2.2.2.2.2.2.2.1 rfl ?_
      refine m_callVv hE hm [.int v2, .int v8] [] mc_part (km_part hm.2.2.2.2.2.2.2.2 h) (by decide) rfl rfl (Nat.le_of_ble_eq_true rfl) dX13_scale_g0.2.2.2.2.2.2.2.2.2.2.2.2.1 (fun s1 h => ?_)
      refine r_aload_n hE 0 dX13_scale_g0.2.2.2.2.2.2.2.2.2.2.2.2.2.1 rfl rfl ?_
      refine r_lload_n hE 3 dX13_scale_g0.2.2.2.2.2.2.2.2.2.2.2.2.2.2.1 rfl rfl ?_
      refine r_lload hE 4 dX13_scale_g0.2.2.2.2.2.2.2.2.2.2.2.2.2.2.2 rfl ?_
      refine m_callVv hE hm [.long v3, .long v5] [] mc_push (km_push hm.2.2.2.2.2.2.2.2 h) (by decide) rfl rfl (Nat.le_of_ble_eq_true rfl) dX13_scale_g1.1 (fun s2 h => ?_)
      refine r_aload_n hE 0 dX13_scale_g1.2.1 rfl rfl ?_
      refine r_iload_n hE 1 dX13_scale_g1.2.2.1 rfl rfl ?_
      refine r_iload hE 6 dX13_scale_g1.2.2.2.1 rfl ?_
      refine m_callVv hE hm [.int v1, .int v8] [] mc_part (km_part hm.2.2.2.2.2.2.2.2 h) (by decide) rfl rfl (Nat.le_of_ble_eq_true rfl) dX13_scale_g1.2.2.2.2.1 (fun s3 h => ?_)
      refine r_aload_n hE 0 dX13_scale_g1.2.2.2.2.2.1 rfl rfl ?_
      refine r_iload_n hE 2 dX13_scale_g1.2.2.2.2.2.2.1 rfl rfl ?_
      refine r_iload hE 6 dX13_scale_g1.2.2.2.2.2.2.2.1 rfl ?_
      refine m_callVv hE hm [.int v2, .int v8] [] mc_part (km_part hm.2.2.2.2.2.2.2.2 h) (by decide) rfl rfl (Nat.le_of_ble_eq_true rfl) dX13_scale_g1.2.2.2.2.2.2.2.2.1 (fun s4 h => ?_)
      refine r_aload_n hE 0 dX13_scale_g1.2.2.2.2.2.2.2.2.2.1 rfl rfl ?_
      refine m_callVv hE hm [] [] mc_less (km_less hm.2.2.2.2.2.2.2.2 h) (by decide) rfl rfl (Nat.le_of_ble_eq_true rfl) dX13_scale_g1.2.2.2.2.2.2.2.2.2.2.1 (fun s5 h => ?_)
      refine r_aload_n hE 0 dX13_scale_g1.2.2.2.2.2.2.2.2.2.2.2.1 rfl rfl ?_
      refine m_callVv hE hm [] [] mc_times (km_times hm.2.2.2.2.2.2.2.2 h) (by decide) rfl rfl (Nat.le_of_ble_eq_true rfl) dX13_scale_g1.2.2.2.2.2.2.2.2.2.2.2.2.1 (fun s6 h => ?_)
      refine r_aload_n hE 0 dX13_scale_g1.2.2.2.2.2.2.2.2.2.2.2.2.2.1 rfl rfl ?_
      refine m_callVv hE hm [] [] mc_plus (km_plus hm.2.2.2.2.2.2.2.2 h) (by decide) rfl rfl (Nat.le_of_ble_eq_true rfl) dX13_scale_g1.2.2.2.2.2.2.2.2.2.2.2.2.2.2.1 (fun s7 h => ?_)
      refine r_aload_n hE 0 dX13_scale_g1.2.2.2.2.2.2.2.2.2.2.2.2.2.2.2 rfl rfl ?_
      refine r_iload hE 5 dX13_scale_g2.1 rfl ?_
      refine r_iload hE 6 dX13_scale_g2.2.1 rfl ?_
      refine m_callVv hE hm [.int v7, .int v8] [] mc_keep (km_keep hm.2.2.2.2.2.2.2.2 h) (by decide) rfl rfl (Nat.le_of_ble_eq_true rfl) dX13_scale_g2.2.2.1 (fun s8 h => ?_)
      obtain ⟨x9, ex9⟩ : ∃ z : Int32, z = v8 + (1 : Int32) := ⟨_, rfl⟩
      have h := h x9 ex9
      refine r_iinc (v := x9) hE [(8, .int x9), (0, .ref (G.1 0)), (1, .int v1), (2, .int v2), (3, .long v3), (5, .long v5), (7, .int v7)] 6 dX13_scale_g2.2.2.2.1 rfl (by rw [ex9]; rfl) hN (by decide) rfl ?_
      refine r_goto hE 10 dX13_scale_g2.2.2.2.2.1 (by decide) ?_
      refine r_pick [1, 2, 3, 4, 5, 6, 0] rfl ?_
      exact ih _ _ _ _ _ _ _ h
def wm_scale (post : MS → Int32 → Prop) (σ : MS) (a1 : Int32) (a2 : Int32) (a3 : Int64) (a5 : Int64) : Prop := wm_newThing (fun (s10 : MS) (r11 : Int32) => ∃ k : Nat, wm_scale_10 post k s10 a1 a2 a3 a5 r11 (0 : Int32)) σ (1 : Int32)
set_option maxRecDepth 20000 in
theorem km_scale {l : Launch} {D : va_G} {cl : List vw_C} {G : gAd} {post : MS → Int32 → Prop} (hcl : mC cl) {σ : MS} {a1 : Int32} {a2 : Int32} {a3 : Int64} {a5 : Int64} (h : wm_scale post σ a1 a2 a3 a5) : mMet l D cl G yX13_scale cX13_scale 9 (some .int) 4 [.ref (G.1 0), .int a1, .int a2, .long a3, .long a5] σ (qI post) := by
  unfold wm_scale at h
  refine m_enter hcl (by decide +kernel) rfl [(0, .ref (G.1 0)), (1, .int a1), (2, .int a2), (3, .long a3), (5, .long a5)] rfl (Nat.le_of_ble_eq_true rfl) ?_
  intro E hE hm hF
  have hN := hm.2.2.2.2.2.2.1
  refine r_aload_n hE 0 dX13_scale_g0.1 rfl rfl ?_
  refine r_iconst (v := (1 : Int32)) hE dX13_scale_g0.2.1 (by decide) ?_
  refine m_callVi hE hm [.int (1 : Int32)] [] mc_newThing (km_newThing hm.2.2.2.2.2.2.2.2 h) (by decide) rfl rfl (Nat.le_of_ble_eq_true rfl) dX13_scale_g0.2.2.1 (fun s10 r11 h => ?_)
  refine r_istore hE [(7, .int r11), (0, .ref (G.1 0)), (1, .int a1), (2, .int a2), (3, .long a3), (5, .long a5)] dX13_scale_g0.2.2.2.1 hN (by decide) rfl ?_
  refine r_iconst (v := (0 : Int32)) hE dX13_scale_g0.2.2.2.2.1 (by decide) ?_
  refine r_istore hE [(8, .int (0 : Int32)), (7, .int r11), (0, .ref (G.1 0)), (1, .int a1), (2, .int a2), (3, .long a3), (5, .long a5)] dX13_scale_g0.2.2.2.2.2.1 hN (by decide) rfl ?_
  refine r_pick [2, 3, 4, 5, 6, 1, 0] rfl ?_
  obtain ⟨k, h⟩ := h
  exact km_scale_10 hE hm hF k _ _ _ _ _ _ _ h
/-! dist -/
def wm_dist (post : MS → Prop) (σ : MS) (a1 : Int32) (a2 : Int32) : Prop := wm_part (fun (s1 : MS) => wm_part (fun (s2 : MS) => wm_less (fun (s3 : MS) => wm_part (fun (s4 : MS) => wm_part (fun (s5 : MS) => wm_less (fun (s6 : MS) => wm_times (fun (s7 : MS) => wm_part (fun (s8 : MS) => wm_part (fun (s9 : MS) => wm_less (fun (s10 : MS) => wm_part (fun (s11 : MS) => wm_part (fun (s12 : MS) => wm_less (fun (s13 : MS) => wm_times (fun (s14 : MS) => wm_plus (fun (s15 : MS) => post s15) s14) s13) s12) s11 a2 (1 : Int32)) s10 a1 (1 : Int32)) s9) s8 a2 (1 : Int32)) s7 a1 (1 : Int32)) s6) s5) s4 a2 (0 : Int32)) s3 a1 (0 : Int32)) s2) s1 a2 (0 : Int32)) σ a1 (0 : Int32)
set_option maxRecDepth 20000 in
theorem km_dist {l : Launch} {D : va_G} {cl : List vw_C} {G : gAd} {post : MS → Prop} (hcl : mC cl) {σ : MS} {a1 : Int32} {a2 : Int32} (h : wm_dist post σ a1 a2) : mMet l D cl G yX13_dist cX13_dist 3 none 4 [.ref (G.1 0), .int a1, .int a2] σ (qV post) := by
  unfold wm_dist at h
  refine m_enter hcl (by decide +kernel) rfl [(0, .ref (G.1 0)), (1, .int a1), (2, .int a2)] rfl (Nat.le_of_ble_eq_true rfl) ?_
  intro E hE hm hF
  have hN := hm.2.2.2.2.2.2.1
  refine r_aload_n hE 0 dX13_dist_g0.1 rfl rfl ?_
  refine r_iload_n hE 1 dX13_dist_g0.2.1 rfl rfl ?_
  refine r_iconst (v := (0 : Int32)) hE dX13_dist_g0.2.2.1 (by decide) ?_
  refine m_callVv hE hm [.int a1, .int (0 : Int32)] [] mc_part (km_part hm.2.2.2.2.2.2.2.2 h) (by decide) rfl rfl (Nat.le_of_ble_eq_true rfl) dX13_dist_g0.2.2.2.1 (fun s1 h => ?_)
  refine r_aload_n hE 0 dX13_dist_g0.2.2.2.2.1 rfl rfl ?_
  refine r_iload_n hE 2 dX13_dist_g0.2.2.2.2.2.1 rfl rfl ?_
  refine r_iconst (v := (0 : Int32)) hE dX13_dist_g0.2.2.2.2.2.2.1 (by decide) ?_
  refine m_callVv hE hm [.int a2, .int (0 : Int32)] [] mc_part (km_part hm.2.2.2.2.2.2.2.2 h) (by decide) rfl rfl (Nat.le_of_ble_eq_true rfl) dX13_dist_g0.2.2.2.2.2.2.2.1 (fun s2 h => ?_)
  refine r_aload_n hE 0 dX13_dist_g0.2.2.2.2.2.2.2.2.1 rfl rfl ?_
  refine m_callVv hE hm [] [] mc_less (km_less hm.2.2.2.2.2.2.2.2 h) (by decide) rfl rfl (Nat.le_of_ble_eq_true rfl) dX13_dist_g0.2.2.2.2.2.2.2.2.2.1 (fun s3 h => ?_)
  refine r_aload_n hE 0 dX13_dist_g0.2.2.2.2.2.2.2.2.2.2.1 rfl rfl ?_
  refine r_iload_n hE 1 dX13_dist_g0.2.2.2.2.2.2.2.2.2.2.2.1 rfl rfl ?_
  refine r_iconst (v := (0 : Int32)) hE dX13_dist_g0.2.2.2.2.2.2.2.2.2.2.2.2.1 (by decide) ?_
  refine m_callVv hE hm [.int a1, .int (0 : Int32)] [] mc_part (km_part hm.2.2.2.2.2.2.2.2 h) (by decide) rfl rfl (Nat.le_of_ble_eq_true rfl) dX13_dist_g0.2.2.2.2.2.2.2.2.2.2.2.2.2.1 (fun s4 h => ?_)
  refine r_aload_n hE 0 dX13_dist_g0.2.2.2.2.2.2.2.2.2.2.2.2.2.2.1 rfl rfl ?_
  refine r_iload_n hE 2 dX13_dist_g0.2.2.2.2.2.2.2.2.2.2.2.2.2.2.2 rfl rfl ?_
  refine r_iconst (v := (0 : Int32)) hE dX13_dist_g1.1 (by decide) ?_
  refine m_callVv hE hm [.int a2, .int (0 : Int32)] [] mc_part (km_part hm.2.2.2.2.2.2.2.2 h) (by decide) rfl rfl (Nat.le_of_ble_eq_true rfl) dX13_dist_g1.2.1 (fun s5 h => ?_)
  refine r_aload_n hE 0 dX13_dist_g1.2.2.1 rfl rfl ?_
  refine m_callVv hE hm [] [] mc_less (km_less hm.2.2.2.2.2.2.2.2 h) (by decide) rfl rfl (Nat.le_of_ble_eq_true rfl) dX13_dist_g1.2.2.2.1 (fun s6 h => ?_)
  refine r_aload_n hE 0 dX13_dist_g1.2.2.2.2.1 rfl rfl ?_
  refine m_callVv hE hm [] [] mc_times (km_times hm.2.2.2.2.2.2.2.2 h) (by decide) rfl rfl (Nat.le_of_ble_eq_true rfl) dX13_dist_g1.2.2.2.2.2.1 (fun s7 h => ?_)
  refine r_aload_n hE 0 dX13_dist_g1.2.2.2.2.2.2.1 rfl rfl ?_
  refine r_iload_n hE 1 dX13_dist_g1.2.2.2.2.2.2.2.1 rfl rfl ?_
  refine r_iconst (v := (1 : Int32)) hE dX13_dist_g1.2.2.2.2.2.2.2.2.1 (by decide) ?_
  refine m_callVv hE hm [.int a1, .int (1 : Int32)] [] mc_part (km_part hm.2.2.2.2.2.2.2.2 h) (by decide) rfl rfl (Nat.le_of_ble_eq_true rfl) dX13_dist_g1.2.2.2.2.2.2.2.2.2.1 (fun s8 h => ?_)
  refine r_aload_n hE 0 dX13_dist_g1.2.2.2.2.2.2.2.2.2.2.1 rfl rfl ?_
  refine r_iload_n hE 2 dX13_dist_g1.2.2.2.2.2.2.2.2.2.2.2.1 rfl rfl ?_
  refine r_iconst (v := (1 : Int32)) hE dX13_dist_g1.2.2.2.2.2.2.2.2.2.2.2.2.1 (by decide) ?_
  refine m_callVv hE hm [.int a2, .int (1 : Int32)] [] mc_part (km_part hm.2.2.2.2.2.2.2.2 h) (by decide) rfl rfl (Nat.le_of_ble_eq_true rfl) dX13_dist_g1.2.2.2.2.2.2.2.2.2.2.2.2.2.1 (fun s9 h => ?_)
  refine r_aload_n hE 0 dX13_dist_g1.2.2.2.2.2.2.2.2.2.2.2.2.2.2.1 rfl rfl ?_
  refine m_callVv hE hm [] [] mc_less (km_less hm.2.2.2.2.2.2.2.2 h) (by decide) rfl rfl (Nat.le_of_ble_eq_true rfl) dX13_dist_g1.2.2.2.2.2.2.2.2.2.2.2.2.2.2.2 (fun s10 h => ?_)
  refine r_aload_n hE 0 dX13_dist_g2.1 rfl rfl ?_
  refine r_iload_n hE 1 dX13_dist_g2.2.1 rfl rfl ?_
  refine r_iconst (v := (1 : Int32)) hE dX13_dist_g2.2.2.1 (by decide) ?_
  refine m_callVv hE hm [.int a1, .int (1 : Int32)] [] mc_part (km_part hm.2.2.2.2.2.2.2.2 h) (by decide) rfl rfl (Nat.le_of_ble_eq_true rfl) dX13_dist_g2.2.2.2.1 (fun s11 h => ?_)
  refine r_aload_n hE 0 dX13_dist_g2.2.2.2.2.1 rfl rfl ?_
  refine r_iload_n hE 2 dX13_dist_g2.2.2.2.2.2.1 rfl rfl ?_
  refine r_iconst (v := (1 : Int32)) hE dX13_dist_g2.2.2.2.2.2.2.1 (by decide) ?_
  refine m_callVv hE hm [.int a2, .int (1 : Int32)] [] mc_part (km_part hm.2.2.2.2.2.2.2.2 h) (by decide) rfl rfl (Nat.le_of_ble_eq_true rfl) dX13_dist_g2.2.2.2.2.2.2.2.1 (fun s12 h => ?_)
  refine r_aload_n hE 0 dX13_dist_g2.2.2.2.2.2.2.2.2.1 rfl rfl ?_
  refine m_callVv hE hm [] [] mc_less (km_less hm.2.2.2.2.2.2.2.2 h) (by decide) rfl rfl (Nat.le_of_ble_eq_true rfl) dX13_dist_g2.2.2.2.2.2.2.2.2.2.1 (fun s13 h => ?_)
  refine r_aload_n hE 0 dX13_dist_g2.2.2.2.2.2.2.2.2.2.2.1 rfl rfl ?_
  refine m_callVv hE hm [] [] mc_times (km_times hm.2.2.2.2.2.2.2.2 h) (by decide) rfl rfl (Nat.le_of_ble_eq_true rfl) dX13_dist_g2.2.2.2.2.2.2.2.2.2.2.2.1 (fun s14 h => ?_)
  refine r_aload_n hE 0 dX13_dist_g2.2.2.2.2.2.2.2.2.2.2.2.2.1 rfl rfl ?_
  refine m_callVv hE hm [] [] mc_plus (km_plus hm.2.2.2.2.2.2.2.2 h) (by decide) rfl rfl (Nat.le_of_ble_eq_true rfl) dX13_dist_g2.2.2.2.2.2.2.2.2.2.2.2.2.2.1 (fun s15 h => ?_)
  exact m_vret hE hm hF dX13_dist_g2.2.2.2.2.2.2.2.2.2.2.2.2.2.2 h
/-! area -/
def wm_area (post : MS → Prop) (σ : MS) (a1 : Int32) (a2 : Int32) (a3 : Int32) : Prop := wm_part (fun (s1 : MS) => wm_part (fun (s2 : MS) => wm_less (fun (s3 : MS) => wm_part (fun (s4 : MS) => wm_part (fun (s5 : MS) => wm_less (fun (s6 : MS) => wm_times (fun (s7 : MS) => wm_part (fun (s8 : MS) => wm_part (fun (s9 : MS) => wm_less (fun (s10 : MS) => wm_part (fun (s11 : MS) => wm_part (fun (s12 : MS) => wm_less (fun (s13 : MS) => wm_times (fun (s14 : MS) => wm_less (fun (s15 : MS) => post s15) s14) s13) s12) s11 a1 (1 : Int32)) s10 a2 (1 : Int32)) s9) s8 a1 (0 : Int32)) s7 a3 (0 : Int32)) s6) s5) s4 a1 (1 : Int32)) s3 a3 (1 : Int32)) s2) s1 a1 (0 : Int32)) σ a2 (0 : Int32)
set_option maxRecDepth 20000 in
theorem km_area {l : Launch} {D : va_G} {cl : List vw_C} {G : gAd} {post : MS → Prop} (hcl : mC cl) {σ : MS} {a1 : Int32} {a2 : Int32} {a3 : Int32} (h : wm_area post σ a1 a2 a3) : mMet l D cl G yX13_area cX13_area 4 none 4 [.ref (G.1 0), .int a1, .int a2, .int a3] σ (qV post) := by
  unfold wm_area at h
  refine m_enter hcl (by decide +kernel) rfl [(0, .ref (G.1 0)), (1, .int a1), (2, .int a2), (3, .int a3)] rfl (Nat.le_of_ble_eq_true rfl) ?_
  intro E hE hm hF
  have hN := hm.2.2.2.2.2.2.1
  refine r_aload_n hE 0 dX13_area_g0.1 rfl rfl ?_
  refine r_iload_n hE 2 dX13_area_g0.2.1 rfl rfl ?_
  refine r_iconst (v := (0 : Int32)) hE dX13_area_g0.2.2.1 (by decide) ?_
  refine m_callVv hE hm [.int a2, .int (0 : Int32)] [] mc_part (km_part hm.2.2.2.2.2.2.2.2 h) (by decide) rfl rfl (Nat.le_of_ble_eq_true rfl) dX13_area_g0.2.2.2.1 (fun s1 h => ?_)
  refine r_aload_n hE 0 dX13_area_g0.2.2.2.2.1 rfl rfl ?_
  refine r_iload_n hE 1 dX13_area_g0.2.2.2.2.2.1 rfl rfl ?_
  refine r_iconst (v := (0 : Int32)) hE dX13_area_g0.2.2.2.2.2.2.1 (by decide) ?_
  refine m_callVv hE hm [.int a1, .int (0 : Int32)] [] mc_part (km_part hm.2.2.2.2.2.2.2.2 h) (by decide) rfl rfl (Nat.le_of_ble_eq_true rfl) dX13_area_g0.2.2.2.2.2.2.2.1 (fun s2 h => ?_)
  refine r_aload_n hE 0 dX13_area_g0.2.2.2.2.2.2.2.2.1 rfl rfl ?_
  refine m_callVv hE hm [] [] mc_less (km_less hm.2.2.2.2.2.2.2.2 h) (by decide) rfl rfl (Nat.le_of_ble_eq_true rfl) dX13_area_g0.2.2.2.2.2.2.2.2.2.1 (fun s3 h => ?_)
  refine r_aload_n hE 0 dX13_area_g0.2.2.2.2.2.2.2.2.2.2.1 rfl rfl ?_
  refine r_iload_n hE 3 dX13_area_g0.2.2.2.2.2.2.2.2.2.2.2.1 rfl rfl ?_
  refine r_iconst (v := (1 : Int32)) hE dX13_area_g0.2.2.2.2.2.2.2.2.2.2.2.2.1 (by decide) ?_
  refine m_callVv hE hm [.int a3, .int (1 : Int32)] [] mc_part (km_part hm.2.2.2.2.2.2.2.2 h) (by decide) rfl rfl (Nat.le_of_ble_eq_true rfl) dX13_area_g0.2.2.2.2.2.2.2.2.2.2.2.2.2.1 (fun s4 h => ?_)
  refine r_aload_n hE 0 dX13_area_g0.2.2.2.2.2.2.2.2.2.2.2.2.2.2.1 rfl rfl ?_
  refine r_iload_n hE 1 dX13_area_g0.2.2.2.2.2.2.2.2.2.2.2.2.2.2.2 rfl rfl ?_
  refine r_iconst (v := (1 : Int32)) hE dX13_area_g1.1 (by decide) ?_
  refine m_callVv hE hm [.int a1, .int (1 : Int32)] [] mc_part (km_part hm.2.2.2.2.2.2.2.2 h) (by decide) rfl rfl (Nat.le_of_ble_eq_true rfl) dX13_area_g1.2.1 (fun s5 h => ?_)
  refine r_aload_n hE 0 dX13_area_g1.2.2.1 rfl rfl ?_
  refine m_callVv hE hm [] [] mc_less (km_less hm.2.2.2.2.2.2.2.2 h) (by decide) rfl rfl (Nat.le_of_ble_eq_true rfl) dX13_area_g1.2.2.2.1 (fun s6 h => ?_)
  refine r_aload_n hE 0 dX13_area_g1.2.2.2.2.1 rfl rfl ?_
  refine m_callVv hE hm [] [] mc_times (km_times hm.2.2.2.2.2.2.2.2 h) (by decide) rfl rfl (Nat.le_of_ble_eq_true rfl) dX13_area_g1.2.2.2.2.2.1 (fun s7 h => ?_)
  refine r_aload_n hE 0 dX13_area_g1.2.2.2.2.2.2.1 rfl rfl ?_
  refine r_iload_n hE 3 dX13_area_g1.2.2.2.2.2.2.2.1 rfl rfl ?_
  refine r_iconst (v := (0 : Int32)) hE dX13_area_g1.2.2.2.2.2.2.2.2.1 (by decide) ?_
  refine m_callVv hE hm [.int a3, .int (0 : Int32)] [] mc_part (km_part hm.2.2.2.2.2.2.2.2 h) (by decide) rfl rfl (Nat.le_of_ble_eq_true rfl) dX13_area_g1.2.2.2.2.2.2.2.2.2.1 (fun s8 h => ?_)
  refine r_aload_n hE 0 dX13_area_g1.2.2.2.2.2.2.2.2.2.2.1 rfl rfl ?_
  refine r_iload_n hE 1 dX13_area_g1.2.2.2.2.2.2.2.2.2.2.2.1 rfl rfl ?_
  refine r_iconst (v := (0 : Int32)) hE dX13_area_g1.2.2.2.2.2.2.2.2.2.2.2.2.1 (by decide) ?_
  refine m_callVv hE hm [.int a1, .int (0 : Int32)] [] mc_part (km_part hm.2.2.2.2.2.2.2.2 h) (by decide) rfl rfl (Nat.le_of_ble_eq_true rfl) dX13_area_g1.2.2.2.2.2.2.2.2.2.2.2.2.2.1 (fun s9 h => ?_)
  refine r_aload_n hE 0 dX13_area_g1.2.2.2.2.2.2.2.2.2.2.2.2.2.2.1 rfl rfl ?_
  refine m_callVv hE hm [] [] mc_less (km_less hm.2.2.2.2.2.2.2.2 h) (by decide) rfl rfl (Nat.le_of_ble_eq_true rfl) dX13_area_g1.2.2.2.2.2.2.2.2.2.2.2.2.2.2.2 (fun s10 h => ?_)
  refine r_aload_n hE 0 dX13_area_g2.1 rfl rfl ?_
  refine r_iload_n hE 2 dX13_area_g2.2.1 rfl rfl ?_
  refine r_iconst (v := (1 : Int32)) hE dX13_area_g2.2.2.1 (by decide) ?_
  refine m_callVv hE hm [.int a2, .int (1 : Int32)] [] mc_part (km_part hm.2.2.2.2.2.2.2.2 h) (by decide) rfl rfl (Nat.le_of_ble_eq_true rfl) dX13_area_g2.2.2.2.1 (fun s11 h => ?_)
  refine r_aload_n hE 0 dX13_area_g2.2.2.2.2.1 rfl rfl ?_
  refine r_iload_n hE 1 dX13_area_g2.2.2.2.2.2.1 rfl rfl ?_
  refine r_iconst (v := (1 : Int32)) hE dX13_area_g2.2.2.2.2.2.2.1 (by decide) ?_
  refine m_callVv hE hm [.int a1, .int (1 : Int32)] [] mc_part (km_part hm.2.2.2.2.2.2.2.2 h) (by decide) rfl rfl (Nat.le_of_ble_eq_true rfl) dX13_area_g2.2.2.2.2.2.2.2.1 (fun s12 h => ?_)
  refine r_aload_n hE 0 dX13_area_g2.2.2.2.2.2.2.2.2.1 rfl rfl ?_
  refine m_callVv hE hm [] [] mc_less (km_less hm.2.2.2.2.2.2.2.2 h) (by decide) rfl rfl (Nat.le_of_ble_eq_true rfl) dX13_area_g2.2.2.2.2.2.2.2.2.2.1 (fun s13 h => ?_)
  refine r_aload_n hE 0 dX13_area_g2.2.2.2.2.2.2.2.2.2.2.1 rfl rfl ?_
  refine m_callVv hE hm [] [] mc_times (km_times hm.2.2.2.2.2.2.2.2 h) (by decide) rfl rfl (Nat.le_of_ble_eq_true rfl) dX13_area_g2.2.2.2.2.2.2.2.2.2.2.2.1 (fun s14 h => ?_)
  refine r_aload_n hE 0 dX13_area_g2.2.2.2.2.2.2.2.2.2.2.2.2.1 rfl rfl ?_
  refine m_callVv hE hm [] [] mc_less (km_less hm.2.2.2.2.2.2.2.2 h) (by decide) rfl rfl (Nat.le_of_ble_eq_true rfl) dX13_area_g2.2.2.2.2.2.2.2.2.2.2.2.2.2.1 (fun s15 h => ?_)
  exact m_vret hE hm hF dX13_area_g2.2.2.2.2.2.2.2.2.2.2.2.2.2.2 h
/-! circle -/
def wm_circle (post : MS → Int32 → Prop) (σ : MS) (a1 : Int32) : Prop := wm_newThing (fun (s1 : MS) (r2 : Int32) => wm_keep (fun (s3 : MS) => wm_part (fun (s4 : MS) => wm_keep (fun (s5 : MS) => wm_part (fun (s6 : MS) => wm_keep (fun (s7 : MS) => post s7 r2) s6 r2 (1 : Int32)) s5 a1 (1 : Int32)) s4 r2 (0 : Int32)) s3 a1 (0 : Int32)) s1 r2 (2 : Int32)) σ (5 : Int32)
set_option maxRecDepth 20000 in
theorem km_circle {l : Launch} {D : va_G} {cl : List vw_C} {G : gAd} {post : MS → Int32 → Prop} (hcl : mC cl) {σ : MS} {a1 : Int32} (h : wm_circle post σ a1) : mMet l D cl G yX13_circle cX13_circle 3 (some .int) 3 [.ref (G.1 0), .int a1] σ (qI post) := by
  unfold wm_circle at h
  refine m_enter hcl (by decide +kernel) rfl [(0, .ref (G.1 0)), (1, .int a1)] rfl (Nat.le_of_ble_eq_true rfl) ?_
  intro E hE hm hF
  have hN := hm.2.2.2.2.2.2.1
  refine r_aload_n hE 0 dX13_circle_g0.1 rfl rfl ?_
  refine r_iconst (v := (5 : Int32)) hE dX13_circle_g0.2.1 (by decide) ?_
  refine m_callVi hE hm [.int (5 : Int32)] [] mc_newThing (km_newThing hm.2.2.2.2.2.2.2.2 h) (by decide) rfl rfl (Nat.le_of_ble_eq_true rfl) dX13_circle_g0.2.2.1 (fun s1 r2 h => ?_)
  refine r_istore_n hE [(2, .int r2), (0, .ref (G.1 0)), (1, .int a1)] dX13_circle_g0.2.2.2.1 rfl hN (by decide) rfl ?_
  refine r_aload_n hE 1 dX13_circle_g0.2.2.2.2.1 rfl rfl ?_
  refine r_iload_n hE 0 dX13_circle_g0.2.2.2.2.2.1 rfl rfl ?_
  refine r_iconst (v := (2 : Int32)) hE dX13_circle_g0.2.2.2.2.2.2.1 (by decide) ?_
  refine m_callVv hE hm [.int r2, .int (2 : Int32)] [] mc_keep (km_keep hm.2.2.2.2.2.2.2.2 h) (by decide) rfl rfl (Nat.le_of_ble_eq_true rfl) dX13_circle_g0.2.2.2.2.2.2.2.1 (fun s3 h => ?_)
  refine r_aload_n hE 1 dX13_circle_g0.2.2.2.2.2.2.2.2.1 rfl rfl ?_
  refine r_iload_n hE 2 dX13_circle_g0.2.2.2.2.2.2.2.2.2.1 rfl rfl ?_
  refine r_iconst (v := (0 : Int32)) hE dX13_circle_g0.2.2.2.2.2.2.2.2.2.2.1 (by decide) ?_
  refine m_callVv hE hm [.int a1, .int (0 : Int32)] [] mc_part (km_part hm.2.2.2.2.2.2.2.2 h) (by decide) rfl rfl (Nat.le_of_ble_eq_true rfl) dX13_circle_g0.2.2.2.2.2.2.2.2.2.2.2.1 (fun s4 h => ?_)
  refine r_aload_n hE 1 dX13_circle_g0.2.2.2.2.2.2.2.2.2.2.2.2.1 rfl rfl ?_
  refine r_iload_n hE 0 dX13_circle_g0.2.2.2.2.2.2.2.2.2.2.2.2.2.1 rfl rfl ?_
  refine r_iconst (v := (0 : Int32)) hE dX13_circle_g0.2.2.2.2.2.2.2.2.2.2.2.2.2.2.1 (by decide) ?_
  refine m_callVv hE hm [.int r2, .int (0 : Int32)] [] mc_keep (km_keep hm.2.2.2.2.2.2.2.2 h) (by decide) rfl rfl (Nat.le_of_ble_eq_true rfl) dX13_circle_g0.2.2.2.2.2.2.2.2.2.2.2.2.2.2.2 (fun s5 h => ?_)
  refine r_aload_n hE 1 dX13_circle_g1.1 rfl rfl ?_
  refine r_iload_n hE 2 dX13_circle_g1.2.1 rfl rfl ?_
  refine r_iconst (v := (1 : Int32)) hE dX13_circle_g1.2.2.1 (by decide) ?_
  refine m_callVv hE hm [.int a1, .int (1 : Int32)] [] mc_part (km_part hm.2.2.2.2.2.2.2.2 h) (by decide) rfl rfl (Nat.le_of_ble_eq_true rfl) dX13_circle_g1.2.2.2.1 (fun s6 h => ?_)
  refine r_aload_n hE 1 dX13_circle_g1.2.2.2.2.1 rfl rfl ?_
  refine r_iload_n hE 0 dX13_circle_g1.2.2.2.2.2.1 rfl rfl ?_
  refine r_iconst (v := (1 : Int32)) hE dX13_circle_g1.2.2.2.2.2.2.1 (by decide) ?_
  refine m_callVv hE hm [.int r2, .int (1 : Int32)] [] mc_keep (km_keep hm.2.2.2.2.2.2.2.2 h) (by decide) rfl rfl (Nat.le_of_ble_eq_true rfl) dX13_circle_g1.2.2.2.2.2.2.2.1 (fun s7 h => ?_)
  refine r_iload_n hE 0 dX13_circle_g1.2.2.2.2.2.2.2.2.1 rfl rfl ?_
  exact m_iret hE hm hF dX13_circle_g1.2.2.2.2.2.2.2.2.2 h
/-! centre -/
def wm_centre (post : MS → Int32 → Prop) (σ : MS) (a1 : Int32) : Prop := wm_newThing (fun (s1 : MS) (r2 : Int32) => wm_part (fun (s3 : MS) => wm_keep (fun (s4 : MS) => wm_part (fun (s5 : MS) => wm_keep (fun (s6 : MS) => post s6 r2) s5 r2 (1 : Int32)) s4 a1 (1 : Int32)) s3 r2 (0 : Int32)) s1 a1 (0 : Int32)) σ (1 : Int32)
set_option maxRecDepth 20000 in
theorem km_centre {l : Launch} {D : va_G} {cl : List vw_C} {G : gAd} {post : MS → Int32 → Prop} (hcl : mC cl) {σ : MS} {a1 : Int32} (h : wm_centre post σ a1) : mMet l D cl G yX13_centre cX13_centre 3 (some .int) 3 [.ref (G.1 0), .int a1] σ (qI post) := by
  unfold wm_centre at h
  refine m_enter hcl (by decide +kernel) rfl [(0, .ref (G.1 0)), (1, .int a1)] rfl (Nat.le_of_ble_eq_true rfl) ?_
  intro E hE hm hF
  have hN := hm.2.2.2.2.2.2.1
  refine r_aload_n hE 0 dX13_centre_g0.1 rfl rfl ?_
  refine r_iconst (v := (1 : Int32)) hE dX13_centre_g0.2.1 (by decide) ?_
  refine m_callVi hE hm [.int (1 : Int32)] [] mc_newThing (km_newThing hm.2.2.2.2.2.2.2.2 h) (by decide) rfl rfl (Nat.le_of_ble_eq_true rfl) dX13_centre_g0.2.2.1 (fun s1 r2 h => ?_)
  refine r_istore_n hE [(2, .int r2), (0, .ref (G.1 0)), (1, .int a1)] dX13_centre_g0.2.2.2.1 rfl hN (by decide) rfl ?_
  refine r_aload_n hE 1 dX13_centre_g0.2.2.2.2.1 rfl rfl ?_
  refine r_iload_n hE 2 dX13_centre_g0.2.2.2.2.2.1 rfl rfl ?_
  refine r_iconst (v := (0 : Int32)) hE dX13_centre_g0.2.2.2.2.2.2.1 (by decide) ?_
  refine m_callVv hE hm [.int a1, .int (0 : Int32)] [] mc_part (km_part hm.2.2.2.2.2.2.2.2 h) (by decide) rfl rfl (Nat.le_of_ble_eq_true rfl) dX13_centre_g0.2.2.2.2.2.2.2.1 (fun s3 h => ?_)
  refine r_aload_n hE 1 dX13_centre_g0.2.2.2.2.2.2.2.2.1 rfl rfl ?_
  refine r_iload_n hE 0 dX13_centre_g0.2.2.2.2.2.2.2.2.2.1 rfl rfl ?_
  refine r_iconst (v := (0 : Int32)) hE dX13_centre_g0.2.2.2.2.2.2.2.2.2.2.1 (by decide) ?_
  refine m_callVv hE hm [.int r2, .int (0 : Int32)] [] mc_keep (km_keep hm.2.2.2.2.2.2.2.2 h) (by decide) rfl rfl (Nat.le_of_ble_eq_true rfl) dX13_centre_g0.2.2.2.2.2.2.2.2.2.2.2.1 (fun s4 h => ?_)
  refine r_aload_n hE 1 dX13_centre_g0.2.2.2.2.2.2.2.2.2.2.2.2.1 rfl rfl ?_
  refine r_iload_n hE 2 dX13_centre_g0.2.2.2.2.2.2.2.2.2.2.2.2.2.1 rfl rfl ?_
  refine r_iconst (v := (1 : Int32)) hE dX13_centre_g0.2.2.2.2.2.2.2.2.2.2.2.2.2.2.1 (by decide) ?_
  refine m_callVv hE hm [.int a1, .int (1 : Int32)] [] mc_part (km_part hm.2.2.2.2.2.2.2.2 h) (by decide) rfl rfl (Nat.le_of_ble_eq_true rfl) dX13_centre_g0.2.2.2.2.2.2.2.2.2.2.2.2.2.2.2 (fun s5 h => ?_)
  refine r_aload_n hE 1 dX13_centre_g1.1 rfl rfl ?_
  refine r_iload_n hE 0 dX13_centre_g1.2.1 rfl rfl ?_
  refine r_iconst (v := (1 : Int32)) hE dX13_centre_g1.2.2.1 (by decide) ?_
  refine m_callVv hE hm [.int r2, .int (1 : Int32)] [] mc_keep (km_keep hm.2.2.2.2.2.2.2.2 h) (by decide) rfl rfl (Nat.le_of_ble_eq_true rfl) dX13_centre_g1.2.2.2.1 (fun s6 h => ?_)
  refine r_iload_n hE 0 dX13_centre_g1.2.2.2.2.1 rfl rfl ?_
  exact m_iret hE hm hF dX13_centre_g1.2.2.2.2.2 h
/-! ring -/
def wm_ring (post : MS → Int32 → Prop) (σ : MS) (a1 : Int32) (a2 : Int32) (a3 : Int32) : Prop := wm_mid (fun (s1 : MS) (r2 : Int32) => wm_line (fun (s3 : MS) (r4 : Int32) => wm_perp (fun (s5 : MS) (r6 : Int32) => wm_mid (fun (s7 : MS) (r8 : Int32) => wm_line (fun (s9 : MS) (r10 : Int32) => wm_perp (fun (s11 : MS) (r12 : Int32) => wm_meet (fun (s13 : MS) (r14 : Int32) => wm_dist (fun (s15 : MS) => wm_circle (fun (s16 : MS) (r17 : Int32) => post s16 r17) s15 r14) s13 r14 a1) s11 r6 r12) s9 r8 r10) s7 a1 a3 (3 : Int32)) s5 a1 a3) s3 r2 r4) s1 a1 a2 (3 : Int32)) σ a1 a2
set_option maxRecDepth 20000 in
theorem km_ring {l : Launch} {D : va_G} {cl : List vw_C} {G : gAd} {post : MS → Int32 → Prop} (hcl : mC cl) {σ : MS} {a1 : Int32} {a2 : Int32} {a3 : Int32} (h : wm_ring post σ a1 a2 a3) : mMet l D cl G yX13_ring cX13_ring 9 (some .int) 6 [.ref (G.1 0), .int a1, .int a2, .int a3] σ (qI post) := by
  unfold wm_ring at h
  refine m_enter hcl (by decide +kernel) rfl [(0, .ref (G.1 0)), (1, .int a1), (2, .int a2), (3, .int a3)] rfl (Nat.le_of_ble_eq_true rfl) ?_
  intro E hE hm hF
  have hN := hm.2.2.2.2.2.2.1
  refine r_aload_n hE 0 dX13_ring_g0.1 rfl rfl ?_
  refine r_iload_n hE 1 dX13_ring_g0.2.1 rfl rfl ?_
  refine r_iload_n hE 2 dX13_ring_g0.2.2.1 rfl rfl ?_
  refine m_callVi hE hm [.int a1, .int a2] [] mc_mid (km_mid hm.2.2.2.2.2.2.2.2 h) (by decide) rfl rfl (Nat.le_of_ble_eq_true rfl) dX13_ring_g0.2.2.2.1 (fun s1 r2 h => ?_)
  refine r_istore hE [(4, .int r2), (0, .ref (G.1 0)), (1, .int a1), (2, .int a2), (3, .int a3)] dX13_ring_g0.2.2.2.2.1 hN (by decide) rfl ?_
  refine r_aload_n hE 1 dX13_ring_g0.2.2.2.2.2.1 rfl rfl ?_
  refine r_iload hE 0 dX13_ring_g0.2.2.2.2.2.2.1 rfl ?_
  refine r_aload_n hE 1 dX13_ring_g0.2.2.2.2.2.2.2.1 rfl rfl ?_
  refine r_iload_n hE 2 dX13_ring_g0.2.2.2.2.2.2.2.2.1 rfl rfl ?_
  refine r_iload_n hE 3 dX13_ring_g0.2.2.2.2.2.2.2.2.2.1 rfl rfl ?_
  refine r_iconst (v := (3 : Int32)) hE dX13_ring_g0.2.2.2.2.2.2.2.2.2.2.1 (by decide) ?_
  refine m_callVi hE hm [.int a1, .int a2, .int (3 : Int32)] [.int r2, .ref (G.1 0)] mc_line (km_line hm.2.2.2.2.2.2.2.2 h) (by decide) rfl rfl (Nat.le_of_ble_eq_true rfl) dX13_ring_g0.2.2.2.2.2.2.2.2.2.2.2.1 (fun s3 r4 h => ?_)
  refine m_callVi hE hm [.int r2, .int r4] [] mc_perp (km_perp hm.2.2.2.2.2.2.2.2 h) (by decide) rfl rfl (Nat.le_of_ble_eq_true rfl) dX13_ring_g0.2.2.2.2.2.2.2.2.2.2.2.2.1 (fun s5 r6 h => ?_)
  refine r_istore hE [(5, .int r6), (4, .int r2), (0, .ref (G.1 0)), (1, .int a1), (2, .int a2), (3, .int a3)] dX13_ring_g0.2.2.2.2.2.2.2.2.2.2.2.2.2.1 hN (by decide) rfl ?_
  refine r_aload_n hE 2 dX13_ring_g0.2.2.2.2.2.2.2.2.2.2.2.2.2.2.1 rfl rfl ?_
  refine r_iload_n hE 3 dX13_ring_g0.2.2.2.2.2.2.2.2.2.2.2.2.2.2.2 rfl rfl ?_
  refine r_iload_n hE 5 dX13_ring_g1.1 rfl rfl ?_
  refine m_callVi hE hm [.int a1, .int a3] [] mc_mid (km_mid hm.2.2.2.2.2.2.2.2 h) (by decide) rfl rfl (Nat.le_of_ble_eq_true rfl) dX13_ring_g1.2.1 (fun s7 r8 h => ?_)
  refine r_istore hE [(6, .int r8), (5, .int r6), (4, .int r2), (0, .ref (G.1 0)), (1, .int a1), (2, .int a2), (3, .int a3)] dX13_ring_g1.2.2.1 hN (by decide) rfl ?_
  refine r_aload_n hE 3 dX13_ring_g1.2.2.2.1 rfl rfl ?_
  refine r_iload hE 0 dX13_ring_g1.2.2.2.2.1 rfl ?_
  refine r_aload_n hE 3 dX13_ring_g1.2.2.2.2.2.1 rfl rfl ?_
  refine r_iload_n hE 4 dX13_ring_g1.2.2.2.2.2.2.1 rfl rfl ?_
  refine r_iload_n hE 6 dX13_ring_g1.2.2.2.2.2.2.2.1 rfl rfl ?_
  refine r_iconst (v := (3 : Int32)) hE dX13_ring_g1.2.2.2.2.2.2.2.2.1 (by decide) ?_
  refine m_callVi hE hm [.int a1, .int a3, .int (3 : Int32)] [.int r8, .ref (G.1 0)] mc_line (km_line hm.2.2.2.2.2.2.2.2 h) (by decide) rfl rfl (Nat.le_of_ble_eq_true rfl) dX13_ring_g1.2.2.2.2.2.2.2.2.2.1 (fun s9 r10 h => ?_)
  refine m_callVi hE hm [.int r8, .int r10] [] mc_perp (km_perp hm.2.2.2.2.2.2.2.2 h) (by decide) rfl rfl (Nat.le_of_ble_eq_true rfl) dX13_ring_g1.2.2.2.2.2.2.2.2.2.2.1 (fun s11 r12 h => ?_)
  refine r_istore hE [(7, .int r12), (6, .int r8), (5, .int r6), (4, .int r2), (0, .ref (G.1 0)), (1, .int a1), (2, .int a2), (3, .int a3)] dX13_ring_g1.2.2.2.2.2.2.2.2.2.2.2.1 hN (by decide) rfl ?_
  refine r_aload_n hE 4 dX13_ring_g1.2.2.2.2.2.2.2.2.2.2.2.2.1 rfl rfl ?_
  refine r_iload hE 2 dX13_ring_g1.2.2.2.2.2.2.2.2.2.2.2.2.2.1 rfl ?_
  refine r_iload hE 0 dX13_ring_g1.2.2.2.2.2.2.2.2.2.2.2.2.2.2.1 rfl ?_
  refine m_callVi hE hm [.int r6, .int r12] [] mc_meet (km_meet hm.2.2.2.2.2.2.2.2 h) (by decide) rfl rfl (Nat.le_of_ble_eq_true rfl) dX13_ring_g1.2.2.2.2.2.2.2.2.2.2.2.2.2.2.2 (fun s13 r14 h => ?_)
  refine r_istore hE [(8, .int r14), (7, .int r12), (6, .int r8), (5, .int r6), (4, .int r2), (0, .ref (G.1 0)), (1, .int a1), (2, .int a2), (3, .int a3)] dX13_ring_g2.1 hN (by decide) rfl ?_
  refine r_aload_n hE 5 dX13_ring_g2.2.1 rfl rfl ?_
  refine r_iload hE 0 dX13_ring_g2.2.2.1 rfl ?_
  refine r_iload_n hE 6 dX13_ring_g2.2.2.2.1 rfl rfl ?_
  refine m_callVv hE hm [.int r14, .int a1] [] mc_dist (km_dist hm.2.2.2.2.2.2.2.2 h) (by decide) rfl rfl (Nat.le_of_ble_eq_true rfl) dX13_ring_g2.2.2.2.2.1 (fun s15 h => ?_)
  refine r_aload_n hE 5 dX13_ring_g2.2.2.2.2.2.1 rfl rfl ?_
  refine r_iload hE 0 dX13_ring_g2.2.2.2.2.2.2.1 rfl ?_
  refine m_callVi hE hm [.int r14] [] mc_circle (km_circle hm.2.2.2.2.2.2.2.2 h) (by decide) rfl rfl (Nat.le_of_ble_eq_true rfl) dX13_ring_g2.2.2.2.2.2.2.2.1 (fun s16 r17 h => ?_)
  exact m_iret hE hm hF dX13_ring_g2.2.2.2.2.2.2.2.2 h
/-! endOf -/
def wm_endOf (post : MS → Int32 → Prop) (σ : MS) (a1 : Int32) (a2 : Int32) : Prop := wm_newThing (fun (s1 : MS) (r2 : Int32) => wm_part (fun (s3 : MS) => wm_keep (fun (s4 : MS) => wm_part (fun (s5 : MS) => wm_keep (fun (s6 : MS) => post s6 r2) s5 r2 (1 : Int32)) s4 a1 ((4 : Int32) + ((2 : Int32) * a2))) s3 r2 (0 : Int32)) s1 a1 ((3 : Int32) + ((2 : Int32) * a2))) σ (1 : Int32)
set_option maxRecDepth 20000 in
theorem km_endOf {l : Launch} {D : va_G} {cl : List vw_C} {G : gAd} {post : MS → Int32 → Prop} (hcl : mC cl) {σ : MS} {a1 : Int32} {a2 : Int32} (h : wm_endOf post σ a1 a2) : mMet l D cl G yX13_endOf cX13_endOf 4 (some .int) 3 [.ref (G.1 0), .int a1, .int a2] σ (qI post) := by
  unfold wm_endOf at h
  refine m_enter hcl (by decide +kernel) rfl [(0, .ref (G.1 0)), (1, .int a1), (2, .int a2)] rfl (Nat.le_of_ble_eq_true rfl) ?_
  intro E hE hm hF
  have hN := hm.2.2.2.2.2.2.1
  refine r_aload_n hE 0 dX13_endOf_g0.1 rfl rfl ?_
  refine r_iconst (v := (1 : Int32)) hE dX13_endOf_g0.2.1 (by decide) ?_
  refine m_callVi hE hm [.int (1 : Int32)] [] mc_newThing (km_newThing hm.2.2.2.2.2.2.2.2 h) (by decide) rfl rfl (Nat.le_of_ble_eq_true rfl) dX13_endOf_g0.2.2.1 (fun s1 r2 h => ?_)
  refine r_istore_n hE [(3, .int r2), (0, .ref (G.1 0)), (1, .int a1), (2, .int a2)] dX13_endOf_g0.2.2.2.1 rfl hN (by decide) rfl ?_
  refine r_aload_n hE 1 dX13_endOf_g0.2.2.2.2.1 rfl rfl ?_
  refine r_iload_n hE 2 dX13_endOf_g0.2.2.2.2.2.1 rfl rfl ?_
  refine r_iconst (v := (3 : Int32)) hE dX13_endOf_g0.2.2.2.2.2.2.1 (by decide) ?_
  refine r_iconst (v := (2 : Int32)) hE dX13_endOf_g0.2.2.2.2.2.2.2.1 (by decide) ?_
  refine r_iload_n hE 3 dX13_endOf_g0.2.2.2.2.2.2.2.2.1 rfl rfl ?_
  refine r_imul hE dX13_endOf_g0.2.2.2.2.2.2.2.2.2.1 ?_
  refine r_iadd hE dX13_endOf_g0.2.2.2.2.2.2.2.2.2.2.1 ?_
  refine m_callVv hE hm [.int a1, .int ((3 : Int32) + ((2 : Int32) * a2))] [] mc_part (km_part hm.2.2.2.2.2.2.2.2 h) (by decide) rfl rfl (Nat.le_of_ble_eq_true rfl) dX13_endOf_g0.2.2.2.2.2.2.2.2.2.2.2.1 (fun s3 h => ?_)
  refine r_aload_n hE 1 dX13_endOf_g0.2.2.2.2.2.2.2.2.2.2.2.2.1 rfl rfl ?_
  refine r_iload_n hE 0 dX13_endOf_g0.2.2.2.2.2.2.2.2.2.2.2.2.2.1 rfl rfl ?_
  refine r_iconst (v := (0 : Int32)) hE dX13_endOf_g0.2.2.2.2.2.2.2.2.2.2.2.2.2.2.1 (by decide) ?_
  refine m_callVv hE hm [.int r2, .int (0 : Int32)] [] mc_keep (km_keep hm.2.2.2.2.2.2.2.2 h) (by decide) rfl rfl (Nat.le_of_ble_eq_true rfl) dX13_endOf_g0.2.2.2.2.2.2.2.2.2.2.2.2.2.2.2 (fun s4 h => ?_)
  refine r_aload_n hE 1 dX13_endOf_g1.1 rfl rfl ?_
  refine r_iload_n hE 2 dX13_endOf_g1.2.1 rfl rfl ?_
  refine r_iconst (v := (4 : Int32)) hE dX13_endOf_g1.2.2.1 (by decide) ?_
  refine r_iconst (v := (2 : Int32)) hE dX13_endOf_g1.2.2.2.1 (by decide) ?_
  refine r_iload_n hE 3 dX13_endOf_g1.2.2.2.2.1 rfl rfl ?_
  refine r_imul hE dX13_endOf_g1.2.2.2.2.2.1 ?_
  refine r_iadd hE dX13_endOf_g1.2.2.2.2.2.2.1 ?_
  refine m_callVv hE hm [.int a1, .int ((4 : Int32) + ((2 : Int32) * a2))] [] mc_part (km_part hm.2.2.2.2.2.2.2.2 h) (by decide) rfl rfl (Nat.le_of_ble_eq_true rfl) dX13_endOf_g1.2.2.2.2.2.2.2.1 (fun s5 h => ?_)
  refine r_aload_n hE 1 dX13_endOf_g1.2.2.2.2.2.2.2.2.1 rfl rfl ?_
  refine r_iload_n hE 0 dX13_endOf_g1.2.2.2.2.2.2.2.2.2.1 rfl rfl ?_
  refine r_iconst (v := (1 : Int32)) hE dX13_endOf_g1.2.2.2.2.2.2.2.2.2.2.1 (by decide) ?_
  refine m_callVv hE hm [.int r2, .int (1 : Int32)] [] mc_keep (km_keep hm.2.2.2.2.2.2.2.2 h) (by decide) rfl rfl (Nat.le_of_ble_eq_true rfl) dX13_endOf_g1.2.2.2.2.2.2.2.2.2.2.2.1 (fun s6 h => ?_)
  refine r_iload_n hE 0 dX13_endOf_g1.2.2.2.2.2.2.2.2.2.2.2.2.1 rfl rfl ?_
  exact m_iret hE hm hF dX13_endOf_g1.2.2.2.2.2.2.2.2.2.2.2.2.2 h
/-! half -/
def wm_half (post : MS → Int32 → Prop) (σ : MS) (a1 : Int32) : Prop := wm_endOf (fun (s1 : MS) (r2 : Int32) => wm_endOf (fun (s3 : MS) (r4 : Int32) => wm_mid (fun (s5 : MS) (r6 : Int32) => wm_perp (fun (s7 : MS) (r8 : Int32) => post s7 r8) s5 r6 a1) s3 r2 r4) s1 a1 (1 : Int32)) σ a1 (0 : Int32)
set_option maxRecDepth 20000 in
theorem km_half {l : Launch} {D : va_G} {cl : List vw_C} {G : gAd} {post : MS → Int32 → Prop} (hcl : mC cl) {σ : MS} {a1 : Int32} (h : wm_half post σ a1) : mMet l D cl G yX13_half cX13_half 2 (some .int) 6 [.ref (G.1 0), .int a1] σ (qI post) := by
  unfold wm_half at h
  refine m_enter hcl (by decide +kernel) rfl [(0, .ref (G.1 0)), (1, .int a1)] rfl (Nat.le_of_ble_eq_true rfl) ?_
  intro E hE hm hF
  have hN := hm.2.2.2.2.2.2.1
  refine r_aload_n hE 0 dX13_half_g0.1 rfl rfl ?_
  refine r_aload_n hE 0 dX13_half_g0.2.1 rfl rfl ?_
  refine r_aload_n hE 0 dX13_half_g0.2.2.1 rfl rfl ?_
  refine r_iload_n hE 1 dX13_half_g0.2.2.2.1 rfl rfl ?_
  refine r_iconst (v := (0 : Int32)) hE dX13_half_g0.2.2.2.2.1 (by decide) ?_
  refine m_callVi hE hm [.int a1, .int (0 : Int32)] [.ref (G.1 0), .ref (G.1 0)] mc_endOf (km_endOf hm.2.2.2.2.2.2.2.2 h) (by decide) rfl rfl (Nat.le_of_ble_eq_true rfl) dX13_half_g0.2.2.2.2.2.1 (fun s1 r2 h => ?_)
  refine r_aload_n hE 0 dX13_half_g0.2.2.2.2.2.2.1 rfl rfl ?_
  refine r_iload_n hE 1 dX13_half_g0.2.2.2.2.2.2.2.1 rfl rfl ?_
  refine r_iconst (v := (1 : Int32)) hE dX13_half_g0.2.2.2.2.2.2.2.2.1 (by decide) ?_
  refine m_callVi hE hm [.int a1, .int (1 : Int32)] [.int r2, .ref (G.1 0), .ref (G.1 0)] mc_endOf (km_endOf hm.2.2.2.2.2.2.2.2 h) (by decide) rfl rfl (Nat.le_of_ble_eq_true rfl) dX13_half_g0.2.2.2.2.2.2.2.2.2.1 (fun s3 r4 h => ?_)
  refine m_callVi hE hm [.int r2, .int r4] [.ref (G.1 0)] mc_mid (km_mid hm.2.2.2.2.2.2.2.2 h) (by decide) rfl rfl (Nat.le_of_ble_eq_true rfl) dX13_half_g0.2.2.2.2.2.2.2.2.2.2.1 (fun s5 r6 h => ?_)
  refine r_iload_n hE 1 dX13_half_g0.2.2.2.2.2.2.2.2.2.2.2.1 rfl rfl ?_
  refine m_callVi hE hm [.int r6, .int a1] [] mc_perp (km_perp hm.2.2.2.2.2.2.2.2 h) (by decide) rfl rfl (Nat.le_of_ble_eq_true rfl) dX13_half_g0.2.2.2.2.2.2.2.2.2.2.2.2.1 (fun s7 r8 h => ?_)
  exact m_iret hE hm hF dX13_half_g0.2.2.2.2.2.2.2.2.2.2.2.2.2 h
/-! polar -/
def wm_polar_9 (post : MS → Int32 → Prop) : Nat → MS → Int32 → Int32 → Int32 → Int32 → Prop
  | 0, _, _, _, _, _ => False
  | n + 1, σ, v1, v2, v3, v4 => (((2 : Int32) ≤ v4) → (wm_part (fun (s1 : MS) => wm_part (fun (s2 : MS) => wm_part (fun (s3 : MS) => wm_times (fun (s4 : MS) => wm_plus (fun (s5 : MS) => wm_part (fun (s6 : MS) => wm_part (fun (s7 : MS) => wm_times (fun (s8 : MS) => wm_plus (fun (s9 : MS) => wm_keep (fun (s10 : MS) => wm_normal (fun (s11 : MS) => post s11 v3) s10 v3) s9 v3 (2 : Int32)) s8) s7) s6 v2 (1 : Int32)) s5 v3 (1 : Int32)) s4) s3) s2 v2 (0 : Int32)) s1 v3 (0 : Int32)) σ v2 (2 : Int32))) ∧ ((¬ ((2 : Int32) ≤ v4)) → (wm_part (fun (s12 : MS) => wm_part (fun (s13 : MS) => wm_less (fun (s14 : MS) => wm_keep (fun (s15 : MS) => ∀ x16 : Int32, x16 = v4 + (1 : Int32) → wm_polar_9 post n s15 v1 v2 v3 x16) s14 v3 v4) s13) s12 v2 v4) σ v1 v4))
set_option maxRecDepth 20000 in
theorem km_polar_9 {E : gEnv} {l : Launch} {D : va_G} {cl : List vw_C} {G : gAd} {post : MS → Int32 → Prop} (hE : gOK E cX13_polar RX13 (some .int) 5) (hm : mOK E l D cl G (qI post) 5) (hF : gFin E) : ∀ (n : Nat) (σ : MS) (v1 : Int32) (v2 : Int32) (v3 : Int32) (v4 : Int32), wm_polar_9 post n σ v1 v2 v3 v4 → GW E (mW G σ) 9 [(0, .ref (G.1 0)), (1, .int v1), (2, .int v2), (3, .int v3), (4, .int v4)] [] := by
  intro n
  induction n with
  | zero => intro σ v1 v2 v3 v4 h; exact h.elim
  | succ n ih =>
    intro σ v1 v2 v3 v4 h
    rw [wm_polar_9] at h
    have hN := hm.2.2.2.2.2.2.1
    refine r_iload hE 4 dX13_polar_g0.2.2.2.2.2.2.1 rfl ?_
    refine r_iconst (v := (2 : Int32)) hE dX13_polar_g0.2.2.2.2.2.2.2.1 (by decide) ?_
    refine r_icmp_ge hE 46 dX13_polar_g0.2.2.2.2.2.2.2.2.1 (by decide) h (fun h => ?_) (fun h => ?_)
    · refine r_aload_n hE 0 dX13_polar_g1.2.2.2.2.2.2.2.2.2.1 rfl rfl ?_
      refine r_iload_n hE 2 dX13_polar_g1.2.2.2.2.2.2.2.2.2.2.1 rfl rfl ?_
      refine r_iconst (v := (2 : Int32)) hE dX13_polar_g1.2.2.2.2.2.2.2.2.2.2.2.1 (by decide) ?_
      refine m_callVv hE hm [.int v2, .int (2 : Int32)] [] mc_part (km_part hm.2.2.2.2.2.2.2.2 h) (by decide) rfl rfl (Nat.le_of_ble_eq_true rfl) dX13_polar_g1.2.2.2.2.2.2.2.2.2.2.2.2.1 (fun s1 h => ?_)
      refine r_aload_n hE 0 dX13_polar_g1.2.2.2.2.2.2.2.2.2.2.2.2.2.1 rfl rfl ?_
      refine r_iload_n hE 3 dX13_polar_g1.2.2.2.2.2.2.2.2.2.2.2.2.2.2.1 rfl rfl ?_
      refine r_iconst (v := (0 : Int32)) hE dX13_polar_g1.2.2.2.2.2.2.2.2.2.2.2.2.2.2.2 (by decide) ?_
      refine m_callVv hE hm [.int v3, .int (0 : Int32)] [] mc_part (km_part hm.2.2.2.2.2.2.2.2 h) (by decide) rfl rfl (Nat.le_of_ble_eq_true rfl) dX13_polar_g2.1 (fun s2 h => ?_)
      refine r_aload_n hE 0 dX13_polar_g2.2.1 rfl rfl ?_
      refine r_iload_n hE 2 dX13_polar_g2.2.2.1 rfl rfl ?_
      refine r_iconst (v := (0 : Int32)) hE dX13_polar_g2.2.2.2.1 (by decide) ?_
      refine m_callVv hE hm [.int v2, .int (0 : Int32)] [] mc_part (km_part hm.2.2.2.2.2.2.2.2 h) (by decide) rfl rfl (Nat.le_of_ble_eq_true rfl) dX13_polar_g2.2.2.2.2.1 (fun s3 h => ?_)
      refine r_aload_n hE 0 dX13_polar_g2.2.2.2.2.2.1 rfl rfl ?_
      refine m_callVv hE hm [] [] mc_times (km_times hm.2.2.2.2.2.2.2.2 h) (by decide) rfl rfl (Nat.le_of_ble_eq_true rfl) dX13_polar_g2.2.2.2.2.2.2.1 (fun s4 h => ?_)
      refine r_aload_n hE 0 dX13_polar_g2.2.2.2.2.2.2.2.1 rfl rfl ?_
      refine m_callVv hE hm [] [] mc_plus (km_plus hm.2.2.2.2.2.2.2.2 h) (by decide) rfl rfl (Nat.le_of_ble_eq_true rfl) dX13_polar_g2.2.2.2.2.2.2.2.2.1 (fun s5 h => ?_)
      refine r_aload_n hE 0 dX13_polar_g2.2.2.2.2.2.2.2.2.2.1 rfl rfl ?_
      refine r_iload_n hE 3 dX13_polar_g2.2.2.2.2.2.2.2.2.2.2.1 rfl rfl ?_
      refine r_iconst (v := (1 : Int32)) hE dX13_polar_g2.2.2.2.2.2.2.2.2.2.2.2.1 (by decide) ?_
      refine m_callVv hE hm [.int v3, .int (1 : Int32)] [] mc_part (km_part hm.2.2.2.2.2.2.2.2 h) (by decide) rfl rfl (Nat.le_of_ble_eq_true rfl) dX13_polar_g2.2.2.2.2.2.2.2.2.2.2.2.2.1 (fun s6 h => ?_)
      refine r_aload_n hE 0 dX13_polar_g2.2.2.2.2.2.2.2.2.2.2.2.2.2.1 rfl rfl ?_
      refine r_iload_n hE 2 dX13_polar_g2.2.2.2.2.2.2.2.2.2.2.2.2.2.2.1 rfl rfl ?_
      refine r_iconst (v := (1 : Int32)) hE dX13_polar_g2.2.2.2.2.2.2.2.2.2.2.2.2.2.2.2 (by decide) ?_
      refine m_callVv hE hm [.int v2, .int (1 : Int32)] [] mc_part (km_part hm.2.2.2.2.2.2.2.2 h) (by decide) rfl rfl (Nat.le_of_ble_eq_true rfl) dX13_polar_g3.1 (fun s7 h => ?_)
      refine r_aload_n hE 0 dX13_polar_g3.2.1 rfl rfl ?_
      refine m_callVv hE hm [] [] mc_times (km_times hm.2.2.2.2.2.2.2.2 h) (by decide) rfl rfl (Nat.le_of_ble_eq_true rfl) dX13_polar_g3.2.2.1 (fun s8 h => ?_)
      refine r_aload_n hE 0 dX13_polar_g3.2.2.2.1 rfl rfl ?_
      refine m_callVv hE hm [] [] mc_plus (km_plus hm.2.2.2.2.2.2.2.2 h) (by decide) rfl rfl (Nat.le_of_ble_eq_true rfl) dX13_polar_g3.2.2.2.2.1 (fun s9 h => ?_)
      refine r_aload_n hE 0 dX13_polar_g3.2.2.2.2.2.1 rfl rfl ?_
      refine r_iload_n hE 3 dX13_polar_g3.2.2.2.2.2.2.1 rfl rfl ?_
      refine r_iconst (v := (2 : Int32)) hE dX13_polar_g3.2.2.2.2.2.2.2.1 (by decide) ?_
      refine m_callVv hE hm [.int v3, .int (2 : Int32)] [] mc_keep (km_keep hm.2.2.2.2.2.2.2.2 h) (by decide) rfl rfl (Nat.le_of_ble_eq_true rfl) dX13_polar_g3.2.2.2.2.2.2.2.2.1 (fun s10 h => ?_)
      refine r_aload_n hE 0 dX13_polar_g3.2.2.2.2.2.2.2.2.2.1 rfl rfl ?_
      refine r_iload_n hE 3 dX13_polar_g3.2.2.2.2.2.2.2.2.2.2.1 rfl rfl ?_
      refine m_callVv hE hm [.int v3] [] mc_normal (km_normal hm.2.2.2.2.2.2.2.2 h) (by decide) rfl rfl (Nat.le_of_ble_eq_true rfl) dX13_polar_g3.2.2.2.2.2.2.2.2.2.2.2.1 (fun s11 h => ?_)
      refine r_iload_n hE 3 dX13_polar_g3.2.2.2.2.2.2.2.2.2.2.2.2.1 rfl rfl ?_
      exact m_iret hE hm hF dX13_polar_g3.2.2.2.2.2.2.2.2.2.2.2.2.2 h
    · refine r_aload_n hE 0 dX13_polar_g0.2.2.2.2.2.2.2.2.2.1 rfl rfl ?_
      refine r_iload_n hE 1 dX13_polar_g0.2.2.2.2.2.2.2.2.2.2.1 rfl rfl ?_
      refine r_iload hE 4 dX13_polar_g0.2.2.2.2.2.2.2.2.2.2.2.1 rfl ?_
      refine m_callVv hE hm [.int v1, .int v4] [] mc_part (km_part hm.2.2.2.2.2.2.2.2 h) (by decide) rfl rfl (Nat.le_of_ble_eq_true rfl) dX13_polar_g0.2.2.2.2.2.2.2.2.2.2.2.2.1 (fun s12 h => ?_)
      refine r_aload_n hE 0 dX13_polar_g0.2.2.2.2.2.2.2.2.2.2.2.2.2.1 rfl rfl ?_
      refine r_iload_n hE 2 dX13_polar_g0.2.2.2.2.2.2.2.2.2.2.2.2.2.2.1 rfl rfl ?_
      refine r_iload hE 4 dX13_polar_g0.2.2.2.2.2.2.2.2.2.2.2.2.2.2.2 rfl ?_
      refine m_callVv hE hm [.int v2, .int v4] [] mc_part (km_part hm.2.2.2.2.2.2.2.2 h) (by decide) rfl rfl (Nat.le_of_ble_eq_true rfl) dX13_polar_g1.1 (fun s13 h => ?_)
      refine r_aload_n hE 0 dX13_polar_g1.2.1 rfl rfl ?_
      refine m_callVv hE hm [] [] mc_less (km_less hm.2.2.2.2.2.2.2.2 h) (by decide) rfl rfl (Nat.le_of_ble_eq_true rfl) dX13_polar_g1.2.2.1 (fun s14 h => ?_)
      refine r_aload_n hE 0 dX13_polar_g1.2.2.2.1 rfl rfl ?_
      refine r_iload_n hE 3 dX13_polar_g1.2.2.2.2.1 rfl rfl ?_
      refine r_iload hE 4 dX13_polar_g1.2.2.2.2.2.1 rfl ?_
      refine m_callVv hE hm [.int v3, .int v4] [] mc_keep (km_keep hm.2.2.2.2.2.2.2.2 h) (by decide) rfl rfl (Nat.le_of_ble_eq_true rfl) dX13_polar_g1.2.2.2.2.2.2.1 (fun s15 h => ?_)
      obtain ⟨x16, ex16⟩ : ∃ z : Int32, z = v4 + (1 : Int32) := ⟨_, rfl⟩
      have h := h x16 ex16
      refine r_iinc (v := x16) hE [(4, .int x16), (0, .ref (G.1 0)), (1, .int v1), (2, .int v2), (3, .int v3)] 4 dX13_polar_g1.2.2.2.2.2.2.2.1 rfl (by rw [ex16]; rfl) hN (by decide) rfl ?_
      refine r_goto hE 9 dX13_polar_g1.2.2.2.2.2.2.2.2.1 (by decide) ?_
      refine r_pick [1, 2, 3, 4, 0] rfl ?_
      exact ih _ _ _ _ _ h
def wm_polar (post : MS → Int32 → Prop) (σ : MS) (a1 : Int32) (a2 : Int32) : Prop := wm_newThing (fun (s17 : MS) (r18 : Int32) => ∃ k : Nat, wm_polar_9 post k s17 a1 a2 r18 (0 : Int32)) σ (3 : Int32)
set_option maxRecDepth 20000 in
theorem km_polar {l : Launch} {D : va_G} {cl : List vw_C} {G : gAd} {post : MS → Int32 → Prop} (hcl : mC cl) {σ : MS} {a1 : Int32} {a2 : Int32} (h : wm_polar post σ a1 a2) : mMet l D cl G yX13_polar cX13_polar 5 (some .int) 5 [.ref (G.1 0), .int a1, .int a2] σ (qI post) := by
  unfold wm_polar at h
  refine m_enter hcl (by decide +kernel) rfl [(0, .ref (G.1 0)), (1, .int a1), (2, .int a2)] rfl (Nat.le_of_ble_eq_true rfl) ?_
  intro E hE hm hF
  have hN := hm.2.2.2.2.2.2.1
  refine r_aload_n hE 0 dX13_polar_g0.1 rfl rfl ?_
  refine r_iconst (v := (3 : Int32)) hE dX13_polar_g0.2.1 (by decide) ?_
  refine m_callVi hE hm [.int (3 : Int32)] [] mc_newThing (km_newThing hm.2.2.2.2.2.2.2.2 h) (by decide) rfl rfl (Nat.le_of_ble_eq_true rfl) dX13_polar_g0.2.2.1 (fun s17 r18 h => ?_)
  refine r_istore_n hE [(3, .int r18), (0, .ref (G.1 0)), (1, .int a1), (2, .int a2)] dX13_polar_g0.2.2.2.1 rfl hN (by decide) rfl ?_
  refine r_iconst (v := (0 : Int32)) hE dX13_polar_g0.2.2.2.2.1 (by decide) ?_
  refine r_istore hE [(4, .int (0 : Int32)), (3, .int r18), (0, .ref (G.1 0)), (1, .int a1), (2, .int a2)] dX13_polar_g0.2.2.2.2.2.1 hN (by decide) rfl ?_
  refine r_pick [2, 3, 4, 1, 0] rfl ?_
  obtain ⟨k, h⟩ := h
  exact km_polar_9 hE hm hF k _ _ _ _ _ h
/-! invert -/
def wm_invert (post : MS → Int32 → Prop) (σ : MS) (a1 : Int32) (a2 : Int32) : Prop := wm_centre (fun (s1 : MS) (r2 : Int32) => wm_part (fun (s3 : MS) => wm_dist (fun (s4 : MS) => wm_by (fun (s5 : MS) => ∀ s6 : MS, s6 = m_piled_s s5 ((m_piled s5) - (1 : Int32)) → vp_in (m_piled s6) 40 ∧ (vp_in (m_piled s6) 40 ∧ (wm_scale (fun (s7 : MS) (r8 : Int32) => post s7 r8) s6 a1 r2 (m_top s6 (m_piled s6).toNatClampNeg) (m_bottom s6 (m_piled s6).toNatClampNeg)))) s4) s3 a1 r2) s1 a2 (2 : Int32)) σ a2
set_option maxRecDepth 20000 in
theorem km_invert {l : Launch} {D : va_G} {cl : List vw_C} {G : gAd} {post : MS → Int32 → Prop} (hcl : mC cl) {σ : MS} {a1 : Int32} {a2 : Int32} (h : wm_invert post σ a1 a2) : mMet l D cl G yX13_invert cX13_invert 4 (some .int) 5 [.ref (G.1 0), .int a1, .int a2] σ (qI post) := by
  unfold wm_invert at h
  refine m_enter hcl (by decide +kernel) rfl [(0, .ref (G.1 0)), (1, .int a1), (2, .int a2)] rfl (Nat.le_of_ble_eq_true rfl) ?_
  intro E hE hm hF
  have hN := hm.2.2.2.2.2.2.1
  refine r_aload_n hE 0 dX13_invert_g0.1 rfl rfl ?_
  refine r_iload_n hE 2 dX13_invert_g0.2.1 rfl rfl ?_
  refine m_callVi hE hm [.int a2] [] mc_centre (km_centre hm.2.2.2.2.2.2.2.2 h) (by decide) rfl rfl (Nat.le_of_ble_eq_true rfl) dX13_invert_g0.2.2.1 (fun s1 r2 h => ?_)
  refine r_istore_n hE [(3, .int r2), (0, .ref (G.1 0)), (1, .int a1), (2, .int a2)] dX13_invert_g0.2.2.2.1 rfl hN (by decide) rfl ?_
  refine r_aload_n hE 1 dX13_invert_g0.2.2.2.2.1 rfl rfl ?_
  refine r_iload_n hE 3 dX13_invert_g0.2.2.2.2.2.1 rfl rfl ?_
  refine r_iconst (v := (2 : Int32)) hE dX13_invert_g0.2.2.2.2.2.2.1 (by decide) ?_
  refine m_callVv hE hm [.int a2, .int (2 : Int32)] [] mc_part (km_part hm.2.2.2.2.2.2.2.2 h) (by decide) rfl rfl (Nat.le_of_ble_eq_true rfl) dX13_invert_g0.2.2.2.2.2.2.2.1 (fun s3 h => ?_)
  refine r_aload_n hE 1 dX13_invert_g0.2.2.2.2.2.2.2.2.1 rfl rfl ?_
  refine r_iload_n hE 2 dX13_invert_g0.2.2.2.2.2.2.2.2.2.1 rfl rfl ?_
  refine r_iload_n hE 0 dX13_invert_g0.2.2.2.2.2.2.2.2.2.2.1 rfl rfl ?_
  refine m_callVv hE hm [.int a1, .int r2] [] mc_dist (km_dist hm.2.2.2.2.2.2.2.2 h) (by decide) rfl rfl (Nat.le_of_ble_eq_true rfl) dX13_invert_g0.2.2.2.2.2.2.2.2.2.2.2.1 (fun s4 h => ?_)
  refine r_aload_n hE 1 dX13_invert_g0.2.2.2.2.2.2.2.2.2.2.2.2.1 rfl rfl ?_
  refine m_callVv hE hm [] [] mc_by (km_by hm.2.2.2.2.2.2.2.2 h) (by decide) rfl rfl (Nat.le_of_ble_eq_true rfl) dX13_invert_g0.2.2.2.2.2.2.2.2.2.2.2.2.2.1 (fun s5 h => ?_)
  refine r_aload_n hE 1 dX13_invert_g0.2.2.2.2.2.2.2.2.2.2.2.2.2.2.1 rfl rfl ?_
  refine r_dup hE dX13_invert_g0.2.2.2.2.2.2.2.2.2.2.2.2.2.2.2 rfl ?_
  refine mg_piled hE hm dX13_invert_g1.1 ?_
  refine r_iconst (v := (1 : Int32)) hE dX13_invert_g1.2.1 (by decide) ?_
  refine r_isub hE dX13_invert_g1.2.2.1 ?_
  refine mp_piled hE hm dX13_invert_g1.2.2.2.1 h (fun s6 h => ?_)
  refine r_aload_n hE 1 dX13_invert_g1.2.2.2.2.1 rfl rfl ?_
  refine r_iload_n hE 2 dX13_invert_g1.2.2.2.2.2.1 rfl rfl ?_
  refine r_iload_n hE 0 dX13_invert_g1.2.2.2.2.2.2.1 rfl rfl ?_
  refine r_aload_n hE 1 dX13_invert_g1.2.2.2.2.2.2.2.1 rfl rfl ?_
  refine mg_top hE hm dX13_invert_g1.2.2.2.2.2.2.2.2.1 ?_
  refine r_aload_n hE 1 dX13_invert_g1.2.2.2.2.2.2.2.2.2.1 rfl rfl ?_
  refine mg_piled hE hm dX13_invert_g1.2.2.2.2.2.2.2.2.2.2.1 ?_
  obtain ⟨hi, h⟩ := h
  refine ml_top hE hm dX13_invert_g1.2.2.2.2.2.2.2.2.2.2.2.1 hi ?_
  refine r_aload_n hE 1 dX13_invert_g1.2.2.2.2.2.2.2.2.2.2.2.2.1 rfl rfl ?_
  refine mg_bottom hE hm dX13_invert_g1.2.2.2.2.2.2.2.2.2.2.2.2.2.1 ?_
  refine r_aload_n hE 1 dX13_invert_g1.2.2.2.2.2.2.2.2.2.2.2.2.2.2.1 rfl rfl ?_
  refine mg_piled hE hm dX13_invert_g1.2.2.2.2.2.2.2.2.2.2.2.2.2.2.2 ?_
  obtain ⟨hi, h⟩ := h
  refine ml_bottom hE hm dX13_invert_g2.1 hi ?_
  refine m_callVi hE hm [.int a1, .int r2, .long (m_top s6 (m_piled s6).toNatClampNeg), .long (m_bottom s6 (m_piled s6).toNatClampNeg)] [] mc_scale (km_scale hm.2.2.2.2.2.2.2.2 h) (by decide) rfl rfl (Nat.le_of_ble_eq_true rfl) dX13_invert_g2.2.1 (fun s7 r8 h => ?_)
  exact m_iret hE hm hF dX13_invert_g2.2.2 h
/-! root -/
def wm_root_36 (post : MS → Int64 → Prop) (lp7 : MS → Int64 → Int64 → Int64 → Prop) (σ : MS) (v0 : Int64) (v4 : Int64) (t0 : Int64) : Prop := ∀ x1 : Int64, x1 = v4 / (2 : Int64) → lp7 σ v0 t0 x1
set_option maxRecDepth 20000 in
theorem km_root_36 {E : gEnv} {l : Launch} {D : va_G} {cl : List vw_C} {G : gAd} {post : MS → Int64 → Prop} (hE : gOK E cX13_root RX13 (some .long) 1) (hm : mOK E l D cl G (qL post) 6) (hF : gFin E) {lp7 : MS → Int64 → Int64 → Int64 → Prop} (hl7 : ∀ (σ : MS) (v0 : Int64) (v2 : Int64) (v4 : Int64), lp7 σ v0 v2 v4 → GW E (mW G σ) 7 [(0, .long v0), (2, .long v2), (4, .long v4)] []) (σ : MS) (v0 : Int64) (v4 : Int64) (t0 : Int64) (h : wm_root_36 post lp7 σ v0 v4 t0) : GW E (mW G σ) 36 [(0, .long v0), (4, .long v4)] [.long t0] := by
  unfold wm_root_36 at h
  have hN := hm.2.2.2.2.2.2.1
  refine r_lstore_n hE [(2, .long t0), (0, .long v0), (4, .long v4)] dX13_root_g1.2.2.2.2.2.2.2.1 rfl hN (by decide) rfl ?_
  refine r_lload hE 2 dX13_root_g1.2.2.2.2.2.2.2.2.1 rfl ?_
  refine r_ldc2 (v := (2 : Int64)) hE dX13_root_g1.2.2.2.2.2.2.2.2.2.1 (gTb_10 (List.mem_of_getElem? (i := 171) rfl) rfl) ?_
  refine r_ldiv hE dX13_root_g1.2.2.2.2.2.2.2.2.2.2.1 (by decide) ?_
  refine r_topl h (fun x1 ex1 h => ?_)
  refine r_lstore hE [(4, .long x1), (2, .long t0), (0, .long v0)] dX13_root_g1.2.2.2.2.2.2.2.2.2.2.2.1 hN (by decide) rfl ?_
  refine r_goto hE 7 dX13_root_g1.2.2.2.2.2.2.2.2.2.2.2.2.1 (by decide) ?_
  refine r_pick [2, 1, 0] rfl ?_
  exact hl7 _ _ _ _ h
def wm_root_7 (post : MS → Int64 → Prop) : Nat → MS → Int64 → Int64 → Int64 → Prop
  | 0, _, _, _, _ => False
  | n + 1, σ, v0, v2, v4 => (((lg_cmp v4 (0 : Int64)) ≤ (0 : Int32)) → (((¬ ((lg_cmp (v2 * v2) v0) = (0 : Int32))) → (post σ (-1 : Int64))) ∧ (((lg_cmp (v2 * v2) v0) = (0 : Int32)) → (post σ v2)))) ∧ ((¬ ((lg_cmp v4 (0 : Int64)) ≤ (0 : Int32))) → ((((0 : Int32) < (lg_cmp ((v2 + v4) * (v2 + v4)) v0)) → (wm_root_36 post (fun (ys : MS) (y0 : Int64) (y1 : Int64) (y2 : Int64) => wm_root_7 post n ys y0 y1 y2) σ v0 v4 v2)) ∧ ((¬ ((0 : Int32) < (lg_cmp ((v2 + v4) * (v2 + v4)) v0))) → (wm_root_36 post (fun (ys : MS) (y0 : Int64) (y1 : Int64) (y2 : Int64) => wm_root_7 post n ys y0 y1 y2) σ v0 v4 (v2 + v4)))))
set_option maxRecDepth 20000 in
theorem km_root_7 {E : gEnv} {l : Launch} {D : va_G} {cl : List vw_C} {G : gAd} {post : MS → Int64 → Prop} (hE : gOK E cX13_root RX13 (some .long) 1) (hm : mOK E l D cl G (qL post) 6) (hF : gFin E) : ∀ (n : Nat) (σ : MS) (v0 : Int64) (v2 : Int64) (v4 : Int64), wm_root_7 post n σ v0 v2 v4 → GW E (mW G σ) 7 [(0, .long v0), (2, .long v2), (4, .long v4)] [] := by
  intro n
  induction n with
  | zero => intro σ v0 v2 v4 h; exact h.elim
  | succ n ih =>
    intro σ v0 v2 v4 h
    rw [wm_root_7] at h
    have hN := hm.2.2.2.2.2.2.1
    refine r_lload hE 2 dX13_root_g0.2.2.2.2.1 rfl ?_
    refine r_lconst (v := (0 : Int64)) hE dX13_root_g0.2.2.2.2.2.1 (by decide) ?_
    refine r_lcmp hE dX13_root_g0.2.2.2.2.2.2.1 ?_
    refine r_if_le hE 48 dX13_root_g0.2.2.2.2.2.2.2.1 (by decide) h (fun h => ?_) (fun h => ?_)
    · refine r_lload_n hE 1 dX13_root_g1.2.2.2.2.2.2.2.2.2.2.2.2.2.1 rfl rfl ?_
      refine r_lload_n hE 1 dX13_root_g1.2.2.2.2.2.2.2.2.2.2.2.2.2.2.1 rfl rfl ?_
      refine r_lmul hE dX13_root_g1.2.2.2.2.2.2.2.2.2.2.2.2.2.2.2 ?_
      refine r_lload_n hE 0 dX13_root_g2.1 rfl rfl ?_
      refine r_lcmp hE dX13_root_g2.2.1 ?_
      refine r_if_ne hE 60 dX13_root_g2.2.2.1 (by decide) h (fun h => ?_) (fun h => ?_)
      · refine r_ldc2 (v := (-1 : Int64)) hE dX13_root_g2.2.2.2.2.2.1 (gTb_11 (List.mem_of_getElem? (i := 45) rfl) rfl) ?_
        exact m_lret hE hm hF dX13_root_g2.2.2.2.2.2.2 h
      · refine r_lload_n hE 1 dX13_root_g2.2.2.2.1 rfl rfl ?_
        refine r_goto hE 63 dX13_root_g2.2.2.2.2.1 (by decide) ?_
        exact m_lret hE hm hF dX13_root_g2.2.2.2.2.2.2 h
    · refine r_lload_n hE 1 dX13_root_g0.2.2.2.2.2.2.2.2.1 rfl rfl ?_
      refine r_lload hE 2 dX13_root_g0.2.2.2.2.2.2.2.2.2.1 rfl ?_
      refine r_ladd hE dX13_root_g0.2.2.2.2.2.2.2.2.2.2.1 ?_
      refine r_lload_n hE 1 dX13_root_g0.2.2.2.2.2.2.2.2.2.2.2.1 rfl rfl ?_
      refine r_lload hE 2 dX13_root_g0.2.2.2.2.2.2.2.2.2.2.2.2.1 rfl ?_
      refine r_ladd hE dX13_root_g0.2.2.2.2.2.2.2.2.2.2.2.2.2.1 ?_
      refine r_lmul hE dX13_root_g0.2.2.2.2.2.2.2.2.2.2.2.2.2.2.1 ?_
      refine r_lload_n hE 0 dX13_root_g0.2.2.2.2.2.2.2.2.2.2.2.2.2.2.2 rfl rfl ?_
      refine r_lcmp hE dX13_root_g1.1 ?_
      refine r_if_gt hE 35 dX13_root_g1.2.1 (by decide) h (fun h => ?_) (fun h => ?_)
      · refine r_lload_n hE 1 dX13_root_g1.2.2.2.2.2.2.1 rfl rfl ?_
        refine r_pick [0, 2] rfl ?_
        exact km_root_36 hE hm hF ih _ _ _ _ h
      · refine r_lload_n hE 1 dX13_root_g1.2.2.1 rfl rfl ?_
        refine r_lload hE 2 dX13_root_g1.2.2.2.1 rfl ?_
        refine r_ladd hE dX13_root_g1.2.2.2.2.1 ?_
        refine r_goto hE 36 dX13_root_g1.2.2.2.2.2.1 (by decide) ?_
        refine r_pick [0, 2] rfl ?_
        exact km_root_36 hE hm hF ih _ _ _ _ h
def wm_root (post : MS → Int64 → Prop) (σ : MS) (a0 : Int64) : Prop := ∃ k : Nat, wm_root_7 post k σ a0 (0 : Int64) (32768 : Int64)
set_option maxRecDepth 20000 in
theorem km_root {l : Launch} {D : va_G} {cl : List vw_C} {G : gAd} {post : MS → Int64 → Prop} (hcl : mC cl) {σ : MS} {a0 : Int64} (h : wm_root post σ a0) : mMet l D cl G yX13_root cX13_root 6 (some .long) 1 [.long a0] σ (qL post) := by
  unfold wm_root at h
  refine m_enter hcl (by decide +kernel) rfl [(0, .long a0)] rfl (Nat.le_of_ble_eq_true rfl) ?_
  intro E hE hm hF
  have hN := hm.2.2.2.2.2.2.1
  refine r_lconst (v := (0 : Int64)) hE dX13_root_g0.1 (by decide) ?_
  refine r_lstore_n hE [(2, .long (0 : Int64)), (0, .long a0)] dX13_root_g0.2.1 rfl hN (by decide) rfl ?_
  refine r_ldc2 (v := (32768 : Int64)) hE dX13_root_g0.2.2.1 (gTb_11 (List.mem_of_getElem? (i := 44) rfl) rfl) ?_
  refine r_lstore hE [(4, .long (32768 : Int64)), (2, .long (0 : Int64)), (0, .long a0)] dX13_root_g0.2.2.2.1 hN (by decide) rfl ?_
  refine r_pick [2, 1, 0] rfl ?_
  obtain ⟨k, h⟩ := h
  exact km_root_7 hE hm hF k _ _ _ _ h
/-! aside -/
def wm_aside_92 (post : MS → Int32 → Prop) (σ : MS) (v8 : Int32) : Prop := wm_keep (fun (s1 : MS) => post s1 v8) σ v8 (1 : Int32)
set_option maxRecDepth 20000 in
theorem km_aside_92 {E : gEnv} {l : Launch} {D : va_G} {cl : List vw_C} {G : gAd} {post : MS → Int32 → Prop} (hE : gOK E cX13_aside RX13 (some .int) 4) (hm : mOK E l D cl G (qI post) 9) (hF : gFin E) (σ : MS) (v8 : Int32) (h : wm_aside_92 post σ v8) : GW E (mW G σ) 92 [(0, .ref (G.1 0)), (8, .int v8)] [] := by
  unfold wm_aside_92 at h
  have hN := hm.2.2.2.2.2.2.1
  refine r_aload_n hE 0 dX13_aside_g3.2.2.1 rfl rfl ?_
  refine r_iload hE 1 dX13_aside_g3.2.2.2.1 rfl ?_
  refine r_iconst (v := (1 : Int32)) hE dX13_aside_g3.2.2.2.2.1 (by decide) ?_
  refine m_callVv hE hm [.int v8, .int (1 : Int32)] [] mc_keep (km_keep hm.2.2.2.2.2.2.2.2 h) (by decide) rfl rfl (Nat.le_of_ble_eq_true rfl) dX13_aside_g3.2.2.2.2.2.1 (fun s1 h => ?_)
  refine r_iload hE 1 dX13_aside_g3.2.2.2.2.2.2.1 rfl ?_
  exact m_iret hE hm hF dX13_aside_g3.2.2.2.2.2.2.2 h
def wm_aside_46 (post : MS → Int32 → Prop) (σ : MS) (v1 : Int32) (v2 : Int32) (v3 : Int64) (v5 : Int64) (v7 : Int32) (v8 : Int32) : Prop := wm_keep (fun (s2 : MS) => wm_part (fun (s3 : MS) => wm_push (fun (s4 : MS) => wm_part (fun (s5 : MS) => wm_times (fun (s6 : MS) => ((v7 = (0 : Int32)) → (wm_plus (fun (s7 : MS) => wm_aside_92 post s7 v8) s6)) ∧ ((¬ (v7 = (0 : Int32))) → (wm_less (fun (s8 : MS) => wm_aside_92 post s8 v8) s6))) s5) s4 v1 (0 : Int32)) s3 v3 v5) s2 v2 (1 : Int32)) σ v8 (0 : Int32)
set_option maxRecDepth 20000 in
theorem km_aside_46 {E : gEnv} {l : Launch} {D : va_G} {cl : List vw_C} {G : gAd} {post : MS → Int32 → Prop} (hE : gOK E cX13_aside RX13 (some .int) 4) (hm : mOK E l D cl G (qI post) 9) (hF : gFin E) (σ : MS) (v1 : Int32) (v2 : Int32) (v3 : Int64) (v5 : Int64) (v7 : Int32) (v8 : Int32) (h : wm_aside_46 post σ v1 v2 v3 v5 v7 v8) : GW E (mW G σ) 46 [(0, .ref (G.1 0)), (1, .int v1), (2, .int v2), (3, .long v3), (5, .long v5), (7, .int v7), (8, .int v8)] [] := by
  unfold wm_aside_46 at h
  have hN := hm.2.2.2.2.2.2.1
  refine r_aload_n hE 0 dX13_aside_g1.2.2.2.2.2.2.2.2.2.1 rfl rfl ?_
  refine r_iload hE 6 dX13_aside_g1.2.2.2.2.2.2.2.2.2.2.1 rfl ?_
  refine r_iconst (v := (0 : Int32)) hE dX13_aside_g1.2.2.2.2.2.2.2.2.2.2.2.1 (by decide) ?_
  refine m_callVv hE hm [.int v8, .int (0 : Int32)] [] mc_keep (km_keep hm.2.2.2.2.2.2.2.2 h) (by decide) rfl rfl (Nat.le_of_ble_eq_true rfl) dX13_aside_g1.2.2.2.2.2.2.2.2.2.2.2.2.1 (fun s2 h => ?_)
  refine r_aload_n hE 0 dX13_aside_g1.2.2.2.2.2.2.2.2.2.2.2.2.2.1 rfl rfl ?_
  refine r_iload_n hE 2 dX13_aside_g1.2.2.2.2.2.2.2.2.2.2.2.2.2.2.1 rfl rfl ?_
  refine r_iconst (v := (1 : Int32)) hE dX13_aside_g1.2.2.2.2.2.2.2.2.2.2.2.2.2.2.2 (by decide) ?_
  refine m_callVv hE hm [.int v2, .int (1 : Int32)] [] mc_part (km_part hm.2.2.2.2.2.2.2.2 h) (by decide) rfl rfl (Nat.le_of_ble_eq_true rfl) dX13_aside_g2.1 (fun s3 h => ?_)
  refine r_aload_n hE 0 dX13_aside_g2.2.1 rfl rfl ?_
  refine r_lload_n hE 3 dX13_aside_g2.2.2.1 rfl rfl ?_
  refine r_lload hE 4 dX13_aside_g2.2.2.2.1 rfl ?_
  refine m_callVv hE hm [.long v3, .long v5] [] mc_push (km_push hm.2.2.2.2.2.2.2.2 h) (by decide) rfl rfl (Nat.le_of_ble_eq_true rfl) dX13_aside_g2.2.2.2.2.1 (fun s4 h => ?_)
  refine r_aload_n hE 0 dX13_aside_g2.2.2.2.2.2.1 rfl rfl ?_
  refine r_iload_n hE 1 dX13_aside_g2.2.2.2.2.2.2.1 rfl rfl ?_
  refine r_iconst (v := (0 : Int32)) hE dX13_aside_g2.2.2.2.2.2.2.2.1 (by decide) ?_
  refine m_callVv hE hm [.int v1, .int (0 : Int32)] [] mc_part (km_part hm.2.2.2.2.2.2.2.2 h) (by decide) rfl rfl (Nat.le_of_ble_eq_true rfl) dX13_aside_g2.2.2.2.2.2.2.2.2.1 (fun s5 h => ?_)
  refine r_aload_n hE 0 dX13_aside_g2.2.2.2.2.2.2.2.2.2.1 rfl rfl ?_
  refine m_callVv hE hm [] [] mc_times (km_times hm.2.2.2.2.2.2.2.2 h) (by decide) rfl rfl (Nat.le_of_ble_eq_true rfl) dX13_aside_g2.2.2.2.2.2.2.2.2.2.2.1 (fun s6 h => ?_)
  refine r_iload hE 5 dX13_aside_g2.2.2.2.2.2.2.2.2.2.2.2.1 rfl ?_
  refine r_if_eq hE 88 dX13_aside_g2.2.2.2.2.2.2.2.2.2.2.2.2.1 (by decide) h (fun h => ?_) (fun h => ?_)
  · refine r_aload_n hE 0 dX13_aside_g3.1 rfl rfl ?_
    refine m_callVv hE hm [] [] mc_plus (km_plus hm.2.2.2.2.2.2.2.2 h) (by decide) rfl rfl (Nat.le_of_ble_eq_true rfl) dX13_aside_g3.2.1 (fun s7 h => ?_)
    refine r_pick [0, 6] rfl ?_
    exact km_aside_92 hE hm hF _ _ h
  · refine r_aload_n hE 0 dX13_aside_g2.2.2.2.2.2.2.2.2.2.2.2.2.2.1 rfl rfl ?_
    refine m_callVv hE hm [] [] mc_less (km_less hm.2.2.2.2.2.2.2.2 h) (by decide) rfl rfl (Nat.le_of_ble_eq_true rfl) dX13_aside_g2.2.2.2.2.2.2.2.2.2.2.2.2.2.2.1 (fun s8 h => ?_)
    refine r_goto hE 92 dX13_aside_g2.2.2.2.2.2.2.2.2.2.2.2.2.2.2.2 (by decide) ?_
    refine r_pick [0, 6] rfl ?_
    exact km_aside_92 hE hm hF _ _ h
def wm_aside (post : MS → Int32 → Prop) (σ : MS) (a1 : Int32) (a2 : Int32) (a3 : Int64) (a5 : Int64) (a7 : Int32) : Prop := wm_newThing (fun (s9 : MS) (r10 : Int32) => wm_part (fun (s11 : MS) => wm_push (fun (s12 : MS) => wm_part (fun (s13 : MS) => wm_times (fun (s14 : MS) => ((a7 = (0 : Int32)) → (wm_less (fun (s15 : MS) => wm_aside_46 post s15 a1 a2 a3 a5 a7 r10) s14)) ∧ ((¬ (a7 = (0 : Int32))) → (wm_plus (fun (s16 : MS) => wm_aside_46 post s16 a1 a2 a3 a5 a7 r10) s14))) s13) s12 a1 (1 : Int32)) s11 a3 a5) s9 a2 (0 : Int32)) σ (1 : Int32)
set_option maxRecDepth 20000 in
theorem km_aside {l : Launch} {D : va_G} {cl : List vw_C} {G : gAd} {post : MS → Int32 → Prop} (hcl : mC cl) {σ : MS} {a1 : Int32} {a2 : Int32} {a3 : Int64} {a5 : Int64} {a7 : Int32} (h : wm_aside post σ a1 a2 a3 a5 a7) : mMet l D cl G yX13_aside cX13_aside 9 (some .int) 4 [.ref (G.1 0), .int a1, .int a2, .long a3, .long a5, .int a7] σ (qI post) := by
  unfold wm_aside at h
  refine m_enter hcl (by decide +kernel) rfl [(0, .ref (G.1 0)), (1, .int a1), (2, .int a2), (3, .long a3), (5, .long a5), (7, .int a7)] rfl (Nat.le_of_ble_eq_true rfl) ?_
  intro E hE hm hF
  have hN := hm.2.2.2.2.2.2.1
  refine r_aload_n hE 0 dX13_aside_g0.1 rfl rfl ?_
  refine r_iconst (v := (1 : Int32)) hE dX13_aside_g0.2.1 (by decide) ?_
  refine m_callVi hE hm [.int (1 : Int32)] [] mc_newThing (km_newThing hm.2.2.2.2.2.2.2.2 h) (by decide) rfl rfl (Nat.le_of_ble_eq_true rfl) dX13_aside_g0.2.2.1 (fun s9 r10 h => ?_)
  refine r_istore hE [(8, .int r10), (0, .ref (G.1 0)), (1, .int a1), (2, .int a2), (3, .long a3), (5, .long a5), (7, .int a7)] dX13_aside_g0.2.2.2.1 hN (by decide) rfl ?_
  refine r_aload_n hE 1 dX13_aside_g0.2.2.2.2.1 rfl rfl ?_
  refine r_iload_n hE 3 dX13_aside_g0.2.2.2.2.2.1 rfl rfl ?_
  refine r_iconst (v := (0 : Int32)) hE dX13_aside_g0.2.2.2.2.2.2.1 (by decide) ?_
  refine m_callVv hE hm [.int a2, .int (0 : Int32)] [] mc_part (km_part hm.2.2.2.2.2.2.2.2 h) (by decide) rfl rfl (Nat.le_of_ble_eq_true rfl) dX13_aside_g0.2.2.2.2.2.2.2.1 (fun s11 h => ?_)
  refine r_aload_n hE 1 dX13_aside_g0.2.2.2.2.2.2.2.2.1 rfl rfl ?_
  refine r_lload_n hE 4 dX13_aside_g0.2.2.2.2.2.2.2.2.2.1 rfl rfl ?_
  refine r_lload hE 5 dX13_aside_g0.2.2.2.2.2.2.2.2.2.2.1 rfl ?_
  refine m_callVv hE hm [.long a3, .long a5] [] mc_push (km_push hm.2.2.2.2.2.2.2.2 h) (by decide) rfl rfl (Nat.le_of_ble_eq_true rfl) dX13_aside_g0.2.2.2.2.2.2.2.2.2.2.2.1 (fun s12 h => ?_)
  refine r_aload_n hE 1 dX13_aside_g0.2.2.2.2.2.2.2.2.2.2.2.2.1 rfl rfl ?_
  refine r_iload_n hE 2 dX13_aside_g0.2.2.2.2.2.2.2.2.2.2.2.2.2.1 rfl rfl ?_
  refine r_iconst (v := (1 : Int32)) hE dX13_aside_g0.2.2.2.2.2.2.2.2.2.2.2.2.2.2.1 (by decide) ?_
  refine m_callVv hE hm [.int a1, .int (1 : Int32)] [] mc_part (km_part hm.2.2.2.2.2.2.2.2 h) (by decide) rfl rfl (Nat.le_of_ble_eq_true rfl) dX13_aside_g0.2.2.2.2.2.2.2.2.2.2.2.2.2.2.2 (fun s13 h => ?_)
  refine r_aload_n hE 1 dX13_aside_g1.1 rfl rfl ?_
  refine m_callVv hE hm [] [] mc_times (km_times hm.2.2.2.2.2.2.2.2 h) (by decide) rfl rfl (Nat.le_of_ble_eq_true rfl) dX13_aside_g1.2.1 (fun s14 h => ?_)
  refine r_iload hE 6 dX13_aside_g1.2.2.1 rfl ?_
  refine r_if_eq hE 42 dX13_aside_g1.2.2.2.1 (by decide) h (fun h => ?_) (fun h => ?_)
  · refine r_aload_n hE 1 dX13_aside_g1.2.2.2.2.2.2.2.1 rfl rfl ?_
    refine m_callVv hE hm [] [] mc_less (km_less hm.2.2.2.2.2.2.2.2 h) (by decide) rfl rfl (Nat.le_of_ble_eq_true rfl) dX13_aside_g1.2.2.2.2.2.2.2.2.1 (fun s15 h => ?_)
    refine r_pick [1, 2, 3, 4, 5, 6, 0] rfl ?_
    exact km_aside_46 hE hm hF _ _ _ _ _ _ _ h
  · refine r_aload_n hE 1 dX13_aside_g1.2.2.2.2.1 rfl rfl ?_
    refine m_callVv hE hm [] [] mc_plus (km_plus hm.2.2.2.2.2.2.2.2 h) (by decide) rfl rfl (Nat.le_of_ble_eq_true rfl) dX13_aside_g1.2.2.2.2.2.1 (fun s16 h => ?_)
    refine r_goto hE 46 dX13_aside_g1.2.2.2.2.2.2.1 (by decide) ?_
    refine r_pick [1, 2, 3, 4, 5, 6, 0] rfl ?_
    exact km_aside_46 hE hm hF _ _ _ _ _ _ _ h
/-! cut_ -/
def wm_cut__311 (post : MS → Int32 → Prop) (σ : MS) (v11 : Int32) (v12 : Int32) (t0 : Int32) (t1 : Int32) : Prop := ((¬ (t0 = t1)) → (post σ v12)) ∧ ((t0 = t1) → (post σ v11))
set_option maxRecDepth 20000 in
theorem km_cut__311 {E : gEnv} {l : Launch} {D : va_G} {cl : List vw_C} {G : gAd} {post : MS → Int32 → Prop} (hE : gOK E cX13_cut_ RX13 (some .int) 7) (hm : mOK E l D cl G (qI post) 14) (hF : gFin E) (σ : MS) (v11 : Int32) (v12 : Int32) (t0 : Int32) (t1 : Int32) (h : wm_cut__311 post σ v11 v12 t0 t1) : GW E (mW G σ) 311 [(11, .int v11), (12, .int v12)] [.int t1, .int t0] := by
  unfold wm_cut__311 at h
  have hN := hm.2.2.2.2.2.2.1
  refine r_icmp_ne hE 319 dX13_cut__g11.2.2.2.1 (by decide) h (fun h => ?_) (fun h => ?_)
  · refine r_iload hE 1 dX13_cut__g11.2.2.2.2.2.2.1 rfl ?_
    exact m_iret hE hm hF dX13_cut__g11.2.2.2.2.2.2.2 h
  · refine r_iload hE 0 dX13_cut__g11.2.2.2.2.1 rfl ?_
    refine r_goto hE 321 dX13_cut__g11.2.2.2.2.2.1 (by decide) ?_
    exact m_iret hE hm hF dX13_cut__g11.2.2.2.2.2.2.2 h
def wm_cut__300 (post : MS → Int32 → Prop) (σ : MS) (v3 : Int64) (v11 : Int32) (v12 : Int32) (t0 : Int32) : Prop := ((¬ ((lg_cmp v3 (0 : Int64)) = (0 : Int32))) → (wm_cut__311 post σ v11 v12 t0 (0 : Int32))) ∧ (((lg_cmp v3 (0 : Int64)) = (0 : Int32)) → (wm_cut__311 post σ v11 v12 t0 (1 : Int32)))
set_option maxRecDepth 20000 in
theorem km_cut__300 {E : gEnv} {l : Launch} {D : va_G} {cl : List vw_C} {G : gAd} {post : MS → Int32 → Prop} (hE : gOK E cX13_cut_ RX13 (some .int) 7) (hm : mOK E l D cl G (qI post) 14) (hF : gFin E) (σ : MS) (v3 : Int64) (v11 : Int32) (v12 : Int32) (t0 : Int32) (h : wm_cut__300 post σ v3 v11 v12 t0) : GW E (mW G σ) 300 [(3, .long v3), (11, .int v11), (12, .int v12)] [.int t0] := by
  unfold wm_cut__300 at h
  have hN := hm.2.2.2.2.2.2.1
  refine r_lload_n hE 0 dX13_cut__g10.2.2.2.2.2.2.2.2.2.2.2.2.1 rfl rfl ?_
  refine r_lconst (v := (0 : Int64)) hE dX13_cut__g10.2.2.2.2.2.2.2.2.2.2.2.2.2.1 (by decide) ?_
  refine r_lcmp hE dX13_cut__g10.2.2.2.2.2.2.2.2.2.2.2.2.2.2.1 ?_
  refine r_if_ne hE 310 dX13_cut__g10.2.2.2.2.2.2.2.2.2.2.2.2.2.2.2 (by decide) h (fun h => ?_) (fun h => ?_)
  · refine r_iconst (v := (0 : Int32)) hE dX13_cut__g11.2.2.1 (by decide) ?_
    refine r_pick [1, 2] rfl ?_
    exact km_cut__311 hE hm hF _ _ _ _ _ h
  · refine r_iconst (v := (1 : Int32)) hE dX13_cut__g11.1 (by decide) ?_
    refine r_goto hE 311 dX13_cut__g11.2.1 (by decide) ?_
    refine r_pick [1, 2] rfl ?_
    exact km_cut__311 hE hm hF _ _ _ _ _ h
def wm_cut__288 (post : MS → Int32 → Prop) (σ : MS) (v3 : Int64) (v11 : Int32) (v12 : Int32) (t0 : Int32) : Prop := (((0 : Int32) < t0) → (wm_cut__300 post σ v3 v11 v12 (0 : Int32))) ∧ ((¬ ((0 : Int32) < t0)) → (wm_cut__300 post σ v3 v11 v12 (1 : Int32)))
set_option maxRecDepth 20000 in
theorem km_cut__288 {E : gEnv} {l : Launch} {D : va_G} {cl : List vw_C} {G : gAd} {post : MS → Int32 → Prop} (hE : gOK E cX13_cut_ RX13 (some .int) 7) (hm : mOK E l D cl G (qI post) 14) (hF : gFin E) (σ : MS) (v3 : Int64) (v11 : Int32) (v12 : Int32) (t0 : Int32) (h : wm_cut__288 post σ v3 v11 v12 t0) : GW E (mW G σ) 288 [(3, .long v3), (11, .int v11), (12, .int v12)] [.int t0] := by
  unfold wm_cut__288 at h
  have hN := hm.2.2.2.2.2.2.1
  refine r_istore hE [(13, .int t0), (3, .long v3), (11, .int v11), (12, .int v12)] dX13_cut__g10.2.2.2.2.2.2.1 hN (by decide) rfl ?_
  refine r_iload hE 0 dX13_cut__g10.2.2.2.2.2.2.2.1 rfl ?_
  refine r_if_gt hE 299 dX13_cut__g10.2.2.2.2.2.2.2.2.1 (by decide) h (fun h => ?_) (fun h => ?_)
  · refine r_iconst (v := (0 : Int32)) hE dX13_cut__g10.2.2.2.2.2.2.2.2.2.2.2.1 (by decide) ?_
    refine r_pick [1, 2, 3] rfl ?_
    exact km_cut__300 hE hm hF _ _ _ _ _ h
  · refine r_iconst (v := (1 : Int32)) hE dX13_cut__g10.2.2.2.2.2.2.2.2.2.1 (by decide) ?_
    refine r_goto hE 300 dX13_cut__g10.2.2.2.2.2.2.2.2.2.2.1 (by decide) ?_
    refine r_pick [1, 2, 3] rfl ?_
    exact km_cut__300 hE hm hF _ _ _ _ _ h
def wm_cut__154 (post : MS → Int32 → Prop) (σ : MS) (v1 : Int32) (v3 : Int64) (v6 : Int32) (v7 : Int64) (v9 : Int64) : Prop := wm_aside (fun (s1 : MS) (r2 : Int32) => wm_aside (fun (s3 : MS) (r4 : Int32) => vp_in ((7 : Int32) * r2) 3360 ∧ (vp_in ((7 : Int32) * r2) 3360 ∧ (vp_in ((7 : Int32) * r4) 3360 ∧ (vp_in ((7 : Int32) * r4) 3360 ∧ (wm_compare (fun (s5 : MS) (r6 : Int32) => ((¬ (r6 = (0 : Int32))) → (wm_cut__288 post s5 v3 r2 r4 r6)) ∧ ((r6 = (0 : Int32)) → (vp_in (((7 : Int32) * r2) + (1 : Int32)) 3360 ∧ (vp_in (((7 : Int32) * r2) + (1 : Int32)) 3360 ∧ (vp_in (((7 : Int32) * r4) + (1 : Int32)) 3360 ∧ (vp_in (((7 : Int32) * r4) + (1 : Int32)) 3360 ∧ (wm_compare (fun (s7 : MS) (r8 : Int32) => wm_cut__288 post s7 v3 r2 r4 r8) s5 (m_up s5 (((7 : Int32) * r2) + (1 : Int32)).toNatClampNeg) (m_low s5 (((7 : Int32) * r2) + (1 : Int32)).toNatClampNeg) (m_up s5 (((7 : Int32) * r4) + (1 : Int32)).toNatClampNeg) (m_low s5 (((7 : Int32) * r4) + (1 : Int32)).toNatClampNeg)))))))) s3 (m_up s3 ((7 : Int32) * r2).toNatClampNeg) (m_low s3 ((7 : Int32) * r2).toNatClampNeg) (m_up s3 ((7 : Int32) * r4).toNatClampNeg) (m_low s3 ((7 : Int32) * r4).toNatClampNeg)))))) s1 v1 v6 v7 v9 (1 : Int32)) σ v1 v6 v7 v9 (0 : Int32)
set_option maxRecDepth 20000 in
theorem km_cut__154 {E : gEnv} {l : Launch} {D : va_G} {cl : List vw_C} {G : gAd} {post : MS → Int32 → Prop} (hE : gOK E cX13_cut_ RX13 (some .int) 7) (hm : mOK E l D cl G (qI post) 14) (hF : gFin E) (σ : MS) (v1 : Int32) (v3 : Int64) (v6 : Int32) (v7 : Int64) (v9 : Int64) (h : wm_cut__154 post σ v1 v3 v6 v7 v9) : GW E (mW G σ) 154 [(0, .ref (G.1 0)), (1, .int v1), (3, .long v3), (6, .int v6), (7, .long v7), (9, .long v9)] [] := by
  unfold wm_cut__154 at h
  have hN := hm.2.2.2.2.2.2.1
  refine r_aload_n hE 0 dX13_cut__g5.2.2.2.2.2.2.2.1 rfl rfl ?_
  refine r_iload_n hE 1 dX13_cut__g5.2.2.2.2.2.2.2.2.1 rfl rfl ?_
  refine r_iload hE 3 dX13_cut__g5.2.2.2.2.2.2.2.2.2.1 rfl ?_
  refine r_lload hE 4 dX13_cut__g5.2.2.2.2.2.2.2.2.2.2.1 rfl ?_
  refine r_lload hE 5 dX13_cut__g5.2.2.2.2.2.2.2.2.2.2.2.1 rfl ?_
  refine r_iconst (v := (0 : Int32)) hE dX13_cut__g5.2.2.2.2.2.2.2.2.2.2.2.2.1 (by decide) ?_
  refine m_callVi hE hm [.int v1, .int v6, .long v7, .long v9, .int (0 : Int32)] [] mc_aside (km_aside hm.2.2.2.2.2.2.2.2 h) (by decide) rfl rfl (Nat.le_of_ble_eq_true rfl) dX13_cut__g5.2.2.2.2.2.2.2.2.2.2.2.2.2.1 (fun s1 r2 h => ?_)
  refine r_istore hE [(11, .int r2), (0, .ref (G.1 0)), (1, .int v1), (3, .long v3), (6, .int v6), (7, .long v7), (9, .long v9)] dX13_cut__g5.2.2.2.2.2.2.2.2.2.2.2.2.2.2.1 hN (by decide) rfl ?_
  refine r_aload_n hE 1 dX13_cut__g5.2.2.2.2.2.2.2.2.2.2.2.2.2.2.2 rfl rfl ?_
  refine r_iload_n hE 2 dX13_cut__g6.1 rfl rfl ?_
  refine r_iload hE 4 dX13_cut__g6.2.1 rfl ?_
  refine r_lload hE 5 dX13_cut__g6.2.2.1 rfl ?_
  refine r_lload hE 6 dX13_cut__g6.2.2.2.1 rfl ?_
  refine r_iconst (v := (1 : Int32)) hE dX13_cut__g6.2.2.2.2.1 (by decide) ?_
  refine m_callVi hE hm [.int v1, .int v6, .long v7, .long v9, .int (1 : Int32)] [] mc_aside (km_aside hm.2.2.2.2.2.2.2.2 h) (by decide) rfl rfl (Nat.le_of_ble_eq_true rfl) dX13_cut__g6.2.2.2.2.2.1 (fun s3 r4 h => ?_)
  refine r_istore hE [(12, .int r4), (11, .int r2), (0, .ref (G.1 0)), (1, .int v1), (3, .long v3), (6, .int v6), (7, .long v7), (9, .long v9)] dX13_cut__g6.2.2.2.2.2.2.1 hN (by decide) rfl ?_
  refine r_aload_n hE 2 dX13_cut__g6.2.2.2.2.2.2.2.1 rfl rfl ?_
  refine mg_up hE hm dX13_cut__g6.2.2.2.2.2.2.2.2.1 ?_
  refine r_bipush (v := (7 : Int32)) hE dX13_cut__g6.2.2.2.2.2.2.2.2.2.1 (by decide) ?_
  refine r_iload hE 1 dX13_cut__g6.2.2.2.2.2.2.2.2.2.2.1 rfl ?_
  refine r_imul hE dX13_cut__g6.2.2.2.2.2.2.2.2.2.2.2.1 ?_
  obtain ⟨hi, h⟩ := h
  refine ml_up hE hm dX13_cut__g6.2.2.2.2.2.2.2.2.2.2.2.2.1 hi ?_
  refine r_aload_n hE 2 dX13_cut__g6.2.2.2.2.2.2.2.2.2.2.2.2.2.1 rfl rfl ?_
  refine mg_low hE hm dX13_cut__g6.2.2.2.2.2.2.2.2.2.2.2.2.2.2.1 ?_
  refine r_bipush (v := (7 : Int32)) hE dX13_cut__g6.2.2.2.2.2.2.2.2.2.2.2.2.2.2.2 (by decide) ?_
  refine r_iload hE 1 dX13_cut__g7.1 rfl ?_
  refine r_imul hE dX13_cut__g7.2.1 ?_
  obtain ⟨hi, h⟩ := h
  refine ml_low hE hm dX13_cut__g7.2.2.1 hi ?_
  refine r_aload_n hE 2 dX13_cut__g7.2.2.2.1 rfl rfl ?_
  refine mg_up hE hm dX13_cut__g7.2.2.2.2.1 ?_
  refine r_bipush (v := (7 : Int32)) hE dX13_cut__g7.2.2.2.2.2.1 (by decide) ?_
  refine r_iload hE 0 dX13_cut__g7.2.2.2.2.2.2.1 rfl ?_
  refine r_imul hE dX13_cut__g7.2.2.2.2.2.2.2.1 ?_
  obtain ⟨hi, h⟩ := h
  refine ml_up hE hm dX13_cut__g7.2.2.2.2.2.2.2.2.1 hi ?_
  refine r_aload_n hE 2 dX13_cut__g7.2.2.2.2.2.2.2.2.2.1 rfl rfl ?_
  refine mg_low hE hm dX13_cut__g7.2.2.2.2.2.2.2.2.2.2.1 ?_
  refine r_bipush (v := (7 : Int32)) hE dX13_cut__g7.2.2.2.2.2.2.2.2.2.2.2.1 (by decide) ?_
  refine r_iload hE 0 dX13_cut__g7.2.2.2.2.2.2.2.2.2.2.2.2.1 rfl ?_
  refine r_imul hE dX13_cut__g7.2.2.2.2.2.2.2.2.2.2.2.2.2.1 ?_
  obtain ⟨hi, h⟩ := h
  refine ml_low hE hm dX13_cut__g7.2.2.2.2.2.2.2.2.2.2.2.2.2.2.1 hi ?_
  refine m_callSi hE hm [.long (m_up s3 ((7 : Int32) * r2).toNatClampNeg), .long (m_low s3 ((7 : Int32) * r2).toNatClampNeg), .long (m_up s3 ((7 : Int32) * r4).toNatClampNeg), .long (m_low s3 ((7 : Int32) * r4).toNatClampNeg)] [] mc_compare (km_compare hm.2.2.2.2.2.2.2.2 h) (by decide) rfl rfl (Nat.le_of_ble_eq_true rfl) dX13_cut__g7.2.2.2.2.2.2.2.2.2.2.2.2.2.2.2 (fun s5 r6 h => ?_)
  refine r_istore hE [(13, .int r6), (12, .int r4), (11, .int r2), (0, .ref (G.1 0)), (1, .int v1), (3, .long v3), (6, .int v6), (7, .long v7), (9, .long v9)] dX13_cut__g8.1 hN (by decide) rfl ?_
  refine r_iload hE 0 dX13_cut__g8.2.1 rfl ?_
  refine r_if_ne hE 286 dX13_cut__g8.2.2.1 (by decide) h (fun h => ?_) (fun h => ?_)
  · refine r_iload hE 0 dX13_cut__g10.2.2.2.2.2.1 rfl ?_
    refine r_pick [5, 2, 1] rfl ?_
    exact km_cut__288 hE hm hF _ _ _ _ _ h
  · refine r_aload_n hE 3 dX13_cut__g8.2.2.2.1 rfl rfl ?_
    refine mg_up hE hm dX13_cut__g8.2.2.2.2.1 ?_
    refine r_bipush (v := (7 : Int32)) hE dX13_cut__g8.2.2.2.2.2.1 (by decide) ?_
    refine r_iload hE 2 dX13_cut__g8.2.2.2.2.2.2.1 rfl ?_
    refine r_imul hE dX13_cut__g8.2.2.2.2.2.2.2.1 ?_
    refine r_iconst (v := (1 : Int32)) hE dX13_cut__g8.2.2.2.2.2.2.2.2.1 (by decide) ?_
    refine r_iadd hE dX13_cut__g8.2.2.2.2.2.2.2.2.2.1 ?_
    obtain ⟨hi, h⟩ := h
    refine ml_up hE hm dX13_cut__g8.2.2.2.2.2.2.2.2.2.2.1 hi ?_
    refine r_aload_n hE 3 dX13_cut__g8.2.2.2.2.2.2.2.2.2.2.2.1 rfl rfl ?_
    refine mg_low hE hm dX13_cut__g8.2.2.2.2.2.2.2.2.2.2.2.2.1 ?_
    refine r_bipush (v := (7 : Int32)) hE dX13_cut__g8.2.2.2.2.2.2.2.2.2.2.2.2.2.1 (by decide) ?_
    refine r_iload hE 2 dX13_cut__g8.2.2.2.2.2.2.2.2.2.2.2.2.2.2.1 rfl ?_
    refine r_imul hE dX13_cut__g8.2.2.2.2.2.2.2.2.2.2.2.2.2.2.2 ?_
    refine r_iconst (v := (1 : Int32)) hE dX13_cut__g9.1 (by decide) ?_
    refine r_iadd hE dX13_cut__g9.2.1 ?_
    obtain ⟨hi, h⟩ := h
    refine ml_low hE hm dX13_cut__g9.2.2.1 hi ?_
    refine r_aload_n hE 3 dX13_cut__g9.2.2.2.1 rfl rfl ?_
    refine mg_up hE hm dX13_cut__g9.2.2.2.2.1 ?_
    refine r_bipush (v := (7 : Int32)) hE dX13_cut__g9.2.2.2.2.2.1 (by decide) ?_
    refine r_iload hE 1 dX13_cut__g9.2.2.2.2.2.2.1 rfl ?_
    refine r_imul hE dX13_cut__g9.2.2.2.2.2.2.2.1 ?_
    refine r_iconst (v := (1 : Int32)) hE dX13_cut__g9.2.2.2.2.2.2.2.2.1 (by decide) ?_
    refine r_iadd hE dX13_cut__g9.2.2.2.2.2.2.2.2.2.1 ?_
    obtain ⟨hi, h⟩ := h
    refine ml_up hE hm dX13_cut__g9.2.2.2.2.2.2.2.2.2.2.1 hi ?_
    refine r_aload_n hE 3 dX13_cut__g9.2.2.2.2.2.2.2.2.2.2.2.1 rfl rfl ?_
    refine mg_low hE hm dX13_cut__g9.2.2.2.2.2.2.2.2.2.2.2.2.1 ?_
    refine r_bipush (v := (7 : Int32)) hE dX13_cut__g9.2.2.2.2.2.2.2.2.2.2.2.2.2.1 (by decide) ?_
    refine r_iload hE 1 dX13_cut__g9.2.2.2.2.2.2.2.2.2.2.2.2.2.2.1 rfl ?_
    refine r_imul hE dX13_cut__g9.2.2.2.2.2.2.2.2.2.2.2.2.2.2.2 ?_
    refine r_iconst (v := (1 : Int32)) hE dX13_cut__g10.1 (by decide) ?_
    refine r_iadd hE dX13_cut__g10.2.1 ?_
    obtain ⟨hi, h⟩ := h
    refine ml_low hE hm dX13_cut__g10.2.2.1 hi ?_
    refine m_callSi hE hm [.long (m_up s5 (((7 : Int32) * r2) + (1 : Int32)).toNatClampNeg), .long (m_low s5 (((7 : Int32) * r2) + (1 : Int32)).toNatClampNeg), .long (m_up s5 (((7 : Int32) * r4) + (1 : Int32)).toNatClampNeg), .long (m_low s5 (((7 : Int32) * r4) + (1 : Int32)).toNatClampNeg)] [] mc_compare (km_compare hm.2.2.2.2.2.2.2.2 h) (by decide) rfl rfl (Nat.le_of_ble_eq_true rfl) dX13_cut__g10.2.2.2.1 (fun s7 r8 h => ?_)
    refine r_goto hE 288 dX13_cut__g10.2.2.2.2.1 (by decide) ?_
    refine r_pick [5, 2, 1] rfl ?_
    exact km_cut__288 hE hm hF _ _ _ _ _ h
def wm_cut__148 (post : MS → Int32 → Prop) (σ : MS) (v1 : Int32) (v3 : Int64) (v6 : Int32) (v7 : Int64) (v9 : Int64) : Prop := wm_fail (fun (s9 : MS) => wm_cut__154 post s9 v1 v3 v6 v7 v9) σ (8 : Int32)
set_option maxRecDepth 20000 in
theorem km_cut__148 {E : gEnv} {l : Launch} {D : va_G} {cl : List vw_C} {G : gAd} {post : MS → Int32 → Prop} (hE : gOK E cX13_cut_ RX13 (some .int) 7) (hm : mOK E l D cl G (qI post) 14) (hF : gFin E) (σ : MS) (v1 : Int32) (v3 : Int64) (v6 : Int32) (v7 : Int64) (v9 : Int64) (h : wm_cut__148 post σ v1 v3 v6 v7 v9) : GW E (mW G σ) 148 [(0, .ref (G.1 0)), (1, .int v1), (3, .long v3), (6, .int v6), (7, .long v7), (9, .long v9)] [] := by
  unfold wm_cut__148 at h
  have hN := hm.2.2.2.2.2.2.1
  refine r_aload_n hE 0 dX13_cut__g5.2.2.2.2.1 rfl rfl ?_
  refine r_bipush (v := (8 : Int32)) hE dX13_cut__g5.2.2.2.2.2.1 (by decide) ?_
  refine m_callVv hE hm [.int (8 : Int32)] [] mc_fail (km_fail hm.2.2.2.2.2.2.2.2 h) (by decide) rfl rfl (Nat.le_of_ble_eq_true rfl) dX13_cut__g5.2.2.2.2.2.2.1 (fun s9 h => ?_)
  exact km_cut__154 hE hm hF _ _ _ _ _ _ h
def wm_cut__56 (post : MS → Int32 → Prop) (σ : MS) (v1 : Int32) (v3 : Int64) (v6 : Int32) : Prop := wm_part (fun (s10 : MS) => wm_part (fun (s11 : MS) => wm_times (fun (s12 : MS) => wm_part (fun (s13 : MS) => wm_part (fun (s14 : MS) => wm_times (fun (s15 : MS) => wm_plus (fun (s16 : MS) => wm_by (fun (s17 : MS) => ∀ s18 : MS, s18 = m_piled_s s17 ((m_piled s17) - (1 : Int32)) → vp_in (m_piled s18) 40 ∧ (wm_root (fun (s19 : MS) (r20 : Int64) => vp_in (m_piled s19) 40 ∧ (wm_root (fun (s21 : MS) (r22 : Int64) => (((lg_cmp r20 (0 : Int64)) < (0 : Int32)) → (wm_cut__148 post s21 v1 v3 v6 r20 r22)) ∧ ((¬ ((lg_cmp r20 (0 : Int64)) < (0 : Int32))) → ((((0 : Int32) ≤ (lg_cmp r22 (0 : Int64))) → (wm_cut__154 post s21 v1 v3 v6 r20 r22)) ∧ ((¬ ((0 : Int32) ≤ (lg_cmp r22 (0 : Int64)))) → (wm_cut__148 post s21 v1 v3 v6 r20 r22))))) s19 (m_bottom s19 (m_piled s19).toNatClampNeg))) s18 (m_top s18 (m_piled s18).toNatClampNeg))) s16) s15) s14) s13 v1 (1 : Int32)) s12 v1 (1 : Int32)) s11) s10 v1 (0 : Int32)) σ v1 (0 : Int32)
set_option maxRecDepth 20000 in
theorem km_cut__56 {E : gEnv} {l : Launch} {D : va_G} {cl : List vw_C} {G : gAd} {post : MS → Int32 → Prop} (hE : gOK E cX13_cut_ RX13 (some .int) 7) (hm : mOK E l D cl G (qI post) 14) (hF : gFin E) (σ : MS) (v1 : Int32) (v3 : Int64) (v6 : Int32) (h : wm_cut__56 post σ v1 v3 v6) : GW E (mW G σ) 56 [(0, .ref (G.1 0)), (1, .int v1), (3, .long v3), (6, .int v6)] [] := by
  unfold wm_cut__56 at h
  have hN := hm.2.2.2.2.2.2.1
  refine r_aload_n hE 0 dX13_cut__g2.1 rfl rfl ?_
  refine r_iload_n hE 1 dX13_cut__g2.2.1 rfl rfl ?_
  refine r_iconst (v := (0 : Int32)) hE dX13_cut__g2.2.2.1 (by decide) ?_
  refine m_callVv hE hm [.int v1, .int (0 : Int32)] [] mc_part (km_part hm.2.2.2.2.2.2.2.2 h) (by decide) rfl rfl (Nat.le_of_ble_eq_true rfl) dX13_cut__g2.2.2.2.1 (fun s10 h => ?_)
  refine r_aload_n hE 0 dX13_cut__g2.2.2.2.2.1 rfl rfl ?_
  refine r_iload_n hE 1 dX13_cut__g2.2.2.2.2.2.1 rfl rfl ?_
  refine r_iconst (v := (0 : Int32)) hE dX13_cut__g2.2.2.2.2.2.2.1 (by decide) ?_
  refine m_callVv hE hm [.int v1, .int (0 : Int32)] [] mc_part (km_part hm.2.2.2.2.2.2.2.2 h) (by decide) rfl rfl (Nat.le_of_ble_eq_true rfl) dX13_cut__g2.2.2.2.2.2.2.2.1 (fun s11 h => ?_)
  refine r_aload_n hE 0 dX13_cut__g2.2.2.2.2.2.2.2.2.1 rfl rfl ?_
  refine m_callVv hE hm [] [] mc_times (km_times hm.2.2.2.2.2.2.2.2 h) (by decide) rfl rfl (Nat.le_of_ble_eq_true rfl) dX13_cut__g2.2.2.2.2.2.2.2.2.2.1 (fun s12 h => ?_)
  refine r_aload_n hE 0 dX13_cut__g2.2.2.2.2.2.2.2.2.2.2.1 rfl rfl ?_
  refine r_iload_n hE 1 dX13_cut__g2.2.2.2.2.2.2.2.2.2.2.2.1 rfl rfl ?_
  refine r_iconst (v := (1 : Int32)) hE dX13_cut__g2.2.2.2.2.2.2.2.2.2.2.2.2.1 (by decide) ?_
  refine m_callVv hE hm [.int v1, .int (1 : Int32)] [] mc_part (km_part hm.2.2.2.2.2.2.2.2 h) (by decide) rfl rfl (Nat.le_of_ble_eq_true rfl) dX13_cut__g2.2.2.2.2.2.2.2.2.2.2.2.2.2.1 (fun s13 h => ?_)
  refine r_aload_n hE 0 dX13_cut__g2.2.2.2.2.2.2.2.2.2.2.2.2.2.2.1 rfl rfl ?_
  refine r_iload_n hE 1 dX13_cut__g2.2.2.2.2.2.2.2.2.2.2.2.2.2.2.2 rfl rfl ?_
  refine r_iconst (v := (1 : Int32)) hE dX13_cut__g3.1 (by decide) ?_
  refine m_callVv hE hm [.int v1, .int (1 : Int32)] [] mc_part (km_part hm.2.2.2.2.2.2.2.2 h) (by decide) rfl rfl (Nat.le_of_ble_eq_true rfl) dX13_cut__g3.2.1 (fun s14 h => ?_)
  refine r_aload_n hE 0 dX13_cut__g3.2.2.1 rfl rfl ?_
  refine m_callVv hE hm [] [] mc_times (km_times hm.2.2.2.2.2.2.2.2 h) (by decide) rfl rfl (Nat.le_of_ble_eq_true rfl) dX13_cut__g3.2.2.2.1 (fun s15 h => ?_)
  refine r_aload_n hE 0 dX13_cut__g3.2.2.2.2.1 rfl rfl ?_
  refine m_callVv hE hm [] [] mc_plus (km_plus hm.2.2.2.2.2.2.2.2 h) (by decide) rfl rfl (Nat.le_of_ble_eq_true rfl) dX13_cut__g3.2.2.2.2.2.1 (fun s16 h => ?_)
  refine r_aload_n hE 0 dX13_cut__g3.2.2.2.2.2.2.1 rfl rfl ?_
  refine m_callVv hE hm [] [] mc_by (km_by hm.2.2.2.2.2.2.2.2 h) (by decide) rfl rfl (Nat.le_of_ble_eq_true rfl) dX13_cut__g3.2.2.2.2.2.2.2.1 (fun s17 h => ?_)
  refine r_aload_n hE 0 dX13_cut__g3.2.2.2.2.2.2.2.2.1 rfl rfl ?_
  refine r_dup hE dX13_cut__g3.2.2.2.2.2.2.2.2.2.1 rfl ?_
  refine mg_piled hE hm dX13_cut__g3.2.2.2.2.2.2.2.2.2.2.1 ?_
  refine r_iconst (v := (1 : Int32)) hE dX13_cut__g3.2.2.2.2.2.2.2.2.2.2.2.1 (by decide) ?_
  refine r_isub hE dX13_cut__g3.2.2.2.2.2.2.2.2.2.2.2.2.1 ?_
  refine mp_piled hE hm dX13_cut__g3.2.2.2.2.2.2.2.2.2.2.2.2.2.1 h (fun s18 h => ?_)
  refine r_aload_n hE 0 dX13_cut__g3.2.2.2.2.2.2.2.2.2.2.2.2.2.2.1 rfl rfl ?_
  refine mg_top hE hm dX13_cut__g3.2.2.2.2.2.2.2.2.2.2.2.2.2.2.2 ?_
  refine r_aload_n hE 0 dX13_cut__g4.1 rfl rfl ?_
  refine mg_piled hE hm dX13_cut__g4.2.1 ?_
  obtain ⟨hi, h⟩ := h
  refine ml_top hE hm dX13_cut__g4.2.2.1 hi ?_
  refine m_callSl hE hm [.long (m_top s18 (m_piled s18).toNatClampNeg)] [] mc_root (km_root hm.2.2.2.2.2.2.2.2 h) (by decide) rfl rfl (Nat.le_of_ble_eq_true rfl) dX13_cut__g4.2.2.2.1 (fun s19 r20 h => ?_)
  refine r_lstore hE [(7, .long r20), (0, .ref (G.1 0)), (1, .int v1), (3, .long v3), (6, .int v6)] dX13_cut__g4.2.2.2.2.1 hN (by decide) rfl ?_
  refine r_aload_n hE 1 dX13_cut__g4.2.2.2.2.2.1 rfl rfl ?_
  refine mg_bottom hE hm dX13_cut__g4.2.2.2.2.2.2.1 ?_
  refine r_aload_n hE 1 dX13_cut__g4.2.2.2.2.2.2.2.1 rfl rfl ?_
  refine mg_piled hE hm dX13_cut__g4.2.2.2.2.2.2.2.2.1 ?_
  obtain ⟨hi, h⟩ := h
  refine ml_bottom hE hm dX13_cut__g4.2.2.2.2.2.2.2.2.2.1 hi ?_
  refine m_callSl hE hm [.long (m_bottom s19 (m_piled s19).toNatClampNeg)] [] mc_root (km_root hm.2.2.2.2.2.2.2.2 h) (by decide) rfl rfl (Nat.le_of_ble_eq_true rfl) dX13_cut__g4.2.2.2.2.2.2.2.2.2.2.1 (fun s21 r22 h => ?_)
  refine r_lstore hE [(9, .long r22), (7, .long r20), (0, .ref (G.1 0)), (1, .int v1), (3, .long v3), (6, .int v6)] dX13_cut__g4.2.2.2.2.2.2.2.2.2.2.2.1 hN (by decide) rfl ?_
  refine r_lload hE 1 dX13_cut__g4.2.2.2.2.2.2.2.2.2.2.2.2.1 rfl ?_
  refine r_lconst (v := (0 : Int64)) hE dX13_cut__g4.2.2.2.2.2.2.2.2.2.2.2.2.2.1 (by decide) ?_
  refine r_lcmp hE dX13_cut__g4.2.2.2.2.2.2.2.2.2.2.2.2.2.2.1 ?_
  refine r_if_lt hE 148 dX13_cut__g4.2.2.2.2.2.2.2.2.2.2.2.2.2.2.2 (by decide) h (fun h => ?_) (fun h => ?_)
  · refine r_pick [2, 3, 4, 5, 1, 0] rfl ?_
    exact km_cut__148 hE hm hF _ _ _ _ _ _ h
  · refine r_lload hE 0 dX13_cut__g5.1 rfl ?_
    refine r_lconst (v := (0 : Int64)) hE dX13_cut__g5.2.1 (by decide) ?_
    refine r_lcmp hE dX13_cut__g5.2.2.1 ?_
    refine r_if_ge hE 154 dX13_cut__g5.2.2.2.1 (by decide) h (fun h => ?_) (fun h => ?_)
    · refine r_pick [2, 3, 4, 5, 1, 0] rfl ?_
      exact km_cut__154 hE hm hF _ _ _ _ _ _ h
    · refine r_pick [2, 3, 4, 5, 1, 0] rfl ?_
      exact km_cut__148 hE hm hF _ _ _ _ _ _ h
def wm_cut_ (post : MS → Int32 → Prop) (σ : MS) (a1 : Int32) (a2 : Int32) (a3 : Int64) : Prop := wm_centre (fun (s23 : MS) (r24 : Int32) => wm_foot (fun (s25 : MS) (r26 : Int32) => wm_part (fun (s27 : MS) => wm_dist (fun (s28 : MS) => wm_less (fun (s29 : MS) => vp_in ((m_piled s29) - (1 : Int32)) 40 ∧ ((((0 : Int32) ≤ (lg_cmp (m_top s29 ((m_piled s29) - (1 : Int32)).toNatClampNeg) (0 : Int64))) → (wm_cut__56 post s29 a1 a3 r26)) ∧ ((¬ ((0 : Int32) ≤ (lg_cmp (m_top s29 ((m_piled s29) - (1 : Int32)).toNatClampNeg) (0 : Int64)))) → (wm_fail (fun (s30 : MS) => wm_cut__56 post s30 a1 a3 r26) s29 (8 : Int32))))) s28) s27 r24 r26) s25 a2 (2 : Int32)) s23 r24 a1) σ a2
set_option maxRecDepth 20000 in
theorem km_cut_ {l : Launch} {D : va_G} {cl : List vw_C} {G : gAd} {post : MS → Int32 → Prop} (hcl : mC cl) {σ : MS} {a1 : Int32} {a2 : Int32} {a3 : Int64} (h : wm_cut_ post σ a1 a2 a3) : mMet l D cl G yX13_cut_ cX13_cut_ 14 (some .int) 7 [.ref (G.1 0), .int a1, .int a2, .long a3] σ (qI post) := by
  unfold wm_cut_ at h
  refine m_enter hcl (by decide +kernel) rfl [(0, .ref (G.1 0)), (1, .int a1), (2, .int a2), (3, .long a3)] rfl (Nat.le_of_ble_eq_true rfl) ?_
  intro E hE hm hF
  have hN := hm.2.2.2.2.2.2.1
  refine r_aload_n hE 0 dX13_cut__g0.1 rfl rfl ?_
  refine r_iload_n hE 2 dX13_cut__g0.2.1 rfl rfl ?_
  refine m_callVi hE hm [.int a2] [] mc_centre (km_centre hm.2.2.2.2.2.2.2.2 h) (by decide) rfl rfl (Nat.le_of_ble_eq_true rfl) dX13_cut__g0.2.2.1 (fun s23 r24 h => ?_)
  refine r_istore hE [(5, .int r24), (0, .ref (G.1 0)), (1, .int a1), (2, .int a2), (3, .long a3)] dX13_cut__g0.2.2.2.1 hN (by decide) rfl ?_
  refine r_aload_n hE 1 dX13_cut__g0.2.2.2.2.1 rfl rfl ?_
  refine r_iload hE 0 dX13_cut__g0.2.2.2.2.2.1 rfl ?_
  refine r_iload_n hE 2 dX13_cut__g0.2.2.2.2.2.2.1 rfl rfl ?_
  refine m_callVi hE hm [.int r24, .int a1] [] mc_foot (km_foot hm.2.2.2.2.2.2.2.2 h) (by decide) rfl rfl (Nat.le_of_ble_eq_true rfl) dX13_cut__g0.2.2.2.2.2.2.2.1 (fun s25 r26 h => ?_)
  refine r_istore hE [(6, .int r26), (5, .int r24), (0, .ref (G.1 0)), (1, .int a1), (2, .int a2), (3, .long a3)] dX13_cut__g0.2.2.2.2.2.2.2.2.1 hN (by decide) rfl ?_
  refine r_aload_n hE 2 dX13_cut__g0.2.2.2.2.2.2.2.2.2.1 rfl rfl ?_
  refine r_iload_n hE 4 dX13_cut__g0.2.2.2.2.2.2.2.2.2.2.1 rfl rfl ?_
  refine r_iconst (v := (2 : Int32)) hE dX13_cut__g0.2.2.2.2.2.2.2.2.2.2.2.1 (by decide) ?_
  refine m_callVv hE hm [.int a2, .int (2 : Int32)] [] mc_part (km_part hm.2.2.2.2.2.2.2.2 h) (by decide) rfl rfl (Nat.le_of_ble_eq_true rfl) dX13_cut__g0.2.2.2.2.2.2.2.2.2.2.2.2.1 (fun s27 h => ?_)
  refine r_aload_n hE 2 dX13_cut__g0.2.2.2.2.2.2.2.2.2.2.2.2.2.1 rfl rfl ?_
  refine r_iload hE 1 dX13_cut__g0.2.2.2.2.2.2.2.2.2.2.2.2.2.2.1 rfl ?_
  refine r_iload hE 0 dX13_cut__g0.2.2.2.2.2.2.2.2.2.2.2.2.2.2.2 rfl ?_
  refine m_callVv hE hm [.int r24, .int r26] [] mc_dist (km_dist hm.2.2.2.2.2.2.2.2 h) (by decide) rfl rfl (Nat.le_of_ble_eq_true rfl) dX13_cut__g1.1 (fun s28 h => ?_)
  refine r_aload_n hE 2 dX13_cut__g1.2.1 rfl rfl ?_
  refine m_callVv hE hm [] [] mc_less (km_less hm.2.2.2.2.2.2.2.2 h) (by decide) rfl rfl (Nat.le_of_ble_eq_true rfl) dX13_cut__g1.2.2.1 (fun s29 h => ?_)
  refine r_aload_n hE 2 dX13_cut__g1.2.2.2.1 rfl rfl ?_
  refine mg_top hE hm dX13_cut__g1.2.2.2.2.1 ?_
  refine r_aload_n hE 2 dX13_cut__g1.2.2.2.2.2.1 rfl rfl ?_
  refine mg_piled hE hm dX13_cut__g1.2.2.2.2.2.2.1 ?_
  refine r_iconst (v := (1 : Int32)) hE dX13_cut__g1.2.2.2.2.2.2.2.1 (by decide) ?_
  refine r_isub hE dX13_cut__g1.2.2.2.2.2.2.2.2.1 ?_
  obtain ⟨hi, h⟩ := h
  refine ml_top hE hm dX13_cut__g1.2.2.2.2.2.2.2.2.2.1 hi ?_
  refine r_lconst (v := (0 : Int64)) hE dX13_cut__g1.2.2.2.2.2.2.2.2.2.2.1 (by decide) ?_
  refine r_lcmp hE dX13_cut__g1.2.2.2.2.2.2.2.2.2.2.2.1 ?_
  refine r_if_ge hE 56 dX13_cut__g1.2.2.2.2.2.2.2.2.2.2.2.2.1 (by decide) h (fun h => ?_) (fun h => ?_)
  · refine r_pick [2, 3, 5, 0] rfl ?_
    exact km_cut__56 hE hm hF _ _ _ _ h
  · refine r_aload_n hE 2 dX13_cut__g1.2.2.2.2.2.2.2.2.2.2.2.2.2.1 rfl rfl ?_
    refine r_bipush (v := (8 : Int32)) hE dX13_cut__g1.2.2.2.2.2.2.2.2.2.2.2.2.2.2.1 (by decide) ?_
    refine m_callVv hE hm [.int (8 : Int32)] [] mc_fail (km_fail hm.2.2.2.2.2.2.2.2 h) (by decide) rfl rfl (Nat.le_of_ble_eq_true rfl) dX13_cut__g1.2.2.2.2.2.2.2.2.2.2.2.2.2.2.2 (fun s30 h => ?_)
    refine r_pick [2, 3, 5, 0] rfl ?_
    exact km_cut__56 hE hm hF _ _ _ _ h
/-! comes -/
def wm_comes (post : MS → Prop) (σ : MS) (a1 : Int32) : Prop := vp_in (m_comes σ) 1200 ∧ (∀ s1 : MS, s1 = m_come_s σ (m_comes σ).toNatClampNeg a1 → ∀ s2 : MS, s2 = m_comes_s s1 ((m_comes s1) + (1 : Int32)) → post s2)
set_option maxRecDepth 20000 in
theorem km_comes {l : Launch} {D : va_G} {cl : List vw_C} {G : gAd} {post : MS → Prop} (hcl : mC cl) {σ : MS} {a1 : Int32} (h : wm_comes post σ a1) : mMet l D cl G yX13_comes cX13_comes 2 none 1 [.ref (G.1 0), .int a1] σ (qV post) := by
  unfold wm_comes at h
  refine m_enter hcl (by decide +kernel) rfl [(0, .ref (G.1 0)), (1, .int a1)] rfl (Nat.le_of_ble_eq_true rfl) ?_
  intro E hE hm hF
  have hN := hm.2.2.2.2.2.2.1
  refine r_aload_n hE 0 dX13_comes_g0.1 rfl rfl ?_
  refine mg_come hE hm dX13_comes_g0.2.1 ?_
  refine r_aload_n hE 0 dX13_comes_g0.2.2.1 rfl rfl ?_
  refine mg_comes hE hm dX13_comes_g0.2.2.2.1 ?_
  refine r_iload_n hE 1 dX13_comes_g0.2.2.2.2.1 rfl rfl ?_
  obtain ⟨hi, h⟩ := h
  refine ms_come hE hm dX13_comes_g0.2.2.2.2.2.1 hi h (fun s1 h => ?_)
  refine r_aload_n hE 0 dX13_comes_g0.2.2.2.2.2.2.1 rfl rfl ?_
  refine r_dup hE dX13_comes_g0.2.2.2.2.2.2.2.1 rfl ?_
  refine mg_comes hE hm dX13_comes_g0.2.2.2.2.2.2.2.2.1 ?_
  refine r_iconst (v := (1 : Int32)) hE dX13_comes_g0.2.2.2.2.2.2.2.2.2.1 (by decide) ?_
  refine r_iadd hE dX13_comes_g0.2.2.2.2.2.2.2.2.2.2.1 ?_
  refine mp_comes hE hm dX13_comes_g0.2.2.2.2.2.2.2.2.2.2.2.1 h (fun s2 h => ?_)
  exact m_vret hE hm hF dX13_comes_g0.2.2.2.2.2.2.2.2.2.2.2.2 h
/-! give -/
def wm_give_5 (post : MS → Prop) : Nat → MS → Prop
  | 0, _ => False
  | n + 1, σ => vp_in ((m_jobs σ) - (1 : Int32)) 2000 ∧ ((((m_job σ ((m_jobs σ) - (1 : Int32)).toNatClampNeg) = (5 : Int32)) → (post σ)) ∧ ((¬ ((m_job σ ((m_jobs σ) - (1 : Int32)).toNatClampNeg) = (5 : Int32))) → (∀ s1 : MS, s1 = m_jobs_s σ ((m_jobs σ) - (1 : Int32)) → wm_give_5 post n s1)))
set_option maxRecDepth 20000 in
theorem km_give_5 {E : gEnv} {l : Launch} {D : va_G} {cl : List vw_C} {G : gAd} {post : MS → Prop} (hE : gOK E cX13_give RX13 none 1) (hm : mOK E l D cl G (qV post) 2) (hF : gFin E) : ∀ (n : Nat) (σ : MS), wm_give_5 post n σ → GW E (mW G σ) 5 [(0, .ref (G.1 0))] [] := by
  intro n
  induction n with
  | zero => intro σ h; exact h.elim
  | succ n ih =>
    intro σ h
    rw [wm_give_5] at h
    have hN := hm.2.2.2.2.2.2.1
    refine r_aload_n hE 0 dX13_give_g0.2.2.2.1 rfl rfl ?_
    refine mg_job hE hm dX13_give_g0.2.2.2.2.1 ?_
    refine r_aload_n hE 0 dX13_give_g0.2.2.2.2.2.1 rfl rfl ?_
    refine mg_jobs hE hm dX13_give_g0.2.2.2.2.2.2.1 ?_
    refine r_iconst (v := (1 : Int32)) hE dX13_give_g0.2.2.2.2.2.2.2.1 (by decide) ?_
    refine r_isub hE dX13_give_g0.2.2.2.2.2.2.2.2.1 ?_
    obtain ⟨hi, h⟩ := h
    refine ml_job hE hm dX13_give_g0.2.2.2.2.2.2.2.2.2.1 hi ?_
    refine r_iconst (v := (5 : Int32)) hE dX13_give_g0.2.2.2.2.2.2.2.2.2.2.1 (by decide) ?_
    refine r_icmp_eq hE 33 dX13_give_g0.2.2.2.2.2.2.2.2.2.2.2.1 (by decide) h (fun h => ?_) (fun h => ?_)
    · exact m_vret hE hm hF dX13_give_g1.2.2.2 h
    · refine r_aload_n hE 0 dX13_give_g0.2.2.2.2.2.2.2.2.2.2.2.2.1 rfl rfl ?_
      refine r_dup hE dX13_give_g0.2.2.2.2.2.2.2.2.2.2.2.2.2.1 rfl ?_
      refine mg_jobs hE hm dX13_give_g0.2.2.2.2.2.2.2.2.2.2.2.2.2.2.1 ?_
      refine r_iconst (v := (1 : Int32)) hE dX13_give_g0.2.2.2.2.2.2.2.2.2.2.2.2.2.2.2 (by decide) ?_
      refine r_isub hE dX13_give_g1.1 ?_
      refine mp_jobs hE hm dX13_give_g1.2.1 h (fun s1 h => ?_)
      refine r_goto hE 5 dX13_give_g1.2.2.1 (by decide) ?_
      exact ih _ h
def wm_give (post : MS → Prop) (σ : MS) (a1 : Int32) : Prop := ∀ s2 : MS, s2 = m_gift_s σ a1 → ∃ k : Nat, wm_give_5 post k s2
set_option maxRecDepth 20000 in
theorem km_give {l : Launch} {D : va_G} {cl : List vw_C} {G : gAd} {post : MS → Prop} (hcl : mC cl) {σ : MS} {a1 : Int32} (h : wm_give post σ a1) : mMet l D cl G yX13_give cX13_give 2 none 1 [.ref (G.1 0), .int a1] σ (qV post) := by
  unfold wm_give at h
  refine m_enter hcl (by decide +kernel) rfl [(0, .ref (G.1 0)), (1, .int a1)] rfl (Nat.le_of_ble_eq_true rfl) ?_
  intro E hE hm hF
  have hN := hm.2.2.2.2.2.2.1
  refine r_aload_n hE 0 dX13_give_g0.1 rfl rfl ?_
  refine r_iload_n hE 1 dX13_give_g0.2.1 rfl rfl ?_
  refine mp_gift hE hm dX13_give_g0.2.2.1 h (fun s2 h => ?_)
  refine r_pick [0] rfl ?_
  obtain ⟨k, h⟩ := h
  exact km_give_5 hE hm hF k _ h
/-! later -/
def wm_later (post : MS → Prop) (σ : MS) (a1 : Int32) (a2 : Int32) (a3 : Int64) : Prop := vp_in (m_jobs σ) 2000 ∧ (∀ s1 : MS, s1 = m_job_s σ (m_jobs σ).toNatClampNeg a1 → vp_in (m_jobs s1) 2000 ∧ (∀ s2 : MS, s2 = m_jobOf_s s1 (m_jobs s1).toNatClampNeg a2 → vp_in (m_jobs s2) 2000 ∧ (∀ s3 : MS, s3 = m_jobWith_s s2 (m_jobs s2).toNatClampNeg a3 → ∀ s4 : MS, s4 = m_jobs_s s3 ((m_jobs s3) + (1 : Int32)) → post s4)))
set_option maxRecDepth 20000 in
theorem km_later {l : Launch} {D : va_G} {cl : List vw_C} {G : gAd} {post : MS → Prop} (hcl : mC cl) {σ : MS} {a1 : Int32} {a2 : Int32} {a3 : Int64} (h : wm_later post σ a1 a2 a3) : mMet l D cl G yX13_later cX13_later 5 none 1 [.ref (G.1 0), .int a1, .int a2, .long a3] σ (qV post) := by
  unfold wm_later at h
  refine m_enter hcl (by decide +kernel) rfl [(0, .ref (G.1 0)), (1, .int a1), (2, .int a2), (3, .long a3)] rfl (Nat.le_of_ble_eq_true rfl) ?_
  intro E hE hm hF
  have hN := hm.2.2.2.2.2.2.1
  refine r_aload_n hE 0 dX13_later_g0.1 rfl rfl ?_
  refine mg_job hE hm dX13_later_g0.2.1 ?_
  refine r_aload_n hE 0 dX13_later_g0.2.2.1 rfl rfl ?_
  refine mg_jobs hE hm dX13_later_g0.2.2.2.1 ?_
  refine r_iload_n hE 1 dX13_later_g0.2.2.2.2.1 rfl rfl ?_
  obtain ⟨hi, h⟩ := h
  refine ms_job hE hm dX13_later_g0.2.2.2.2.2.1 hi h (fun s1 h => ?_)
  refine r_aload_n hE 0 dX13_later_g0.2.2.2.2.2.2.1 rfl rfl ?_
  refine mg_jobOf hE hm dX13_later_g0.2.2.2.2.2.2.2.1 ?_
  refine r_aload_n hE 0 dX13_later_g0.2.2.2.2.2.2.2.2.1 rfl rfl ?_
  refine mg_jobs hE hm dX13_later_g0.2.2.2.2.2.2.2.2.2.1 ?_
  refine r_iload_n hE 2 dX13_later_g0.2.2.2.2.2.2.2.2.2.2.1 rfl rfl ?_
  obtain ⟨hi, h⟩ := h
  refine ms_jobOf hE hm dX13_later_g0.2.2.2.2.2.2.2.2.2.2.2.1 hi h (fun s2 h => ?_)
  refine r_aload_n hE 0 dX13_later_g0.2.2.2.2.2.2.2.2.2.2.2.2.1 rfl rfl ?_
  refine mg_jobWith hE hm dX13_later_g0.2.2.2.2.2.2.2.2.2.2.2.2.2.1 ?_
  refine r_aload_n hE 0 dX13_later_g0.2.2.2.2.2.2.2.2.2.2.2.2.2.2.1 rfl rfl ?_
  refine mg_jobs hE hm dX13_later_g0.2.2.2.2.2.2.2.2.2.2.2.2.2.2.2 ?_
  refine r_lload_n hE 3 dX13_later_g1.1 rfl rfl ?_
  obtain ⟨hi, h⟩ := h
  refine ms_jobWith hE hm dX13_later_g1.2.1 hi h (fun s3 h => ?_)
  refine r_aload_n hE 0 dX13_later_g1.2.2.1 rfl rfl ?_
  refine r_dup hE dX13_later_g1.2.2.2.1 rfl ?_
  refine mg_jobs hE hm dX13_later_g1.2.2.2.2.1 ?_
  refine r_iconst (v := (1 : Int32)) hE dX13_later_g1.2.2.2.2.2.1 (by decide) ?_
  refine r_iadd hE dX13_later_g1.2.2.2.2.2.2.1 ?_
  refine mp_jobs hE hm dX13_later_g1.2.2.2.2.2.2.2.1 h (fun s4 h => ?_)
  exact m_vret hE hm hF dX13_later_g1.2.2.2.2.2.2.2.2 h
/-! show -/
def wm_show (post : MS → Prop) (σ : MS) (a1 : Int32) : Prop := vp_in (m_statedMany σ) 40 ∧ (∀ s1 : MS, s1 = m_stated_s σ (m_statedMany σ).toNatClampNeg a1 → ∀ s2 : MS, s2 = m_statedMany_s s1 ((m_statedMany s1) + (1 : Int32)) → post s2)
set_option maxRecDepth 20000 in
theorem km_show {l : Launch} {D : va_G} {cl : List vw_C} {G : gAd} {post : MS → Prop} (hcl : mC cl) {σ : MS} {a1 : Int32} (h : wm_show post σ a1) : mMet l D cl G yX13_show cX13_show 2 none 1 [.ref (G.1 0), .int a1] σ (qV post) := by
  unfold wm_show at h
  refine m_enter hcl (by decide +kernel) rfl [(0, .ref (G.1 0)), (1, .int a1)] rfl (Nat.le_of_ble_eq_true rfl) ?_
  intro E hE hm hF
  have hN := hm.2.2.2.2.2.2.1
  refine r_aload_n hE 0 dX13_show_g0.1 rfl rfl ?_
  refine mg_stated hE hm dX13_show_g0.2.1 ?_
  refine r_aload_n hE 0 dX13_show_g0.2.2.1 rfl rfl ?_
  refine mg_statedMany hE hm dX13_show_g0.2.2.2.1 ?_
  refine r_iload_n hE 1 dX13_show_g0.2.2.2.2.1 rfl rfl ?_
  obtain ⟨hi, h⟩ := h
  refine ms_stated hE hm dX13_show_g0.2.2.2.2.2.1 hi h (fun s1 h => ?_)
  refine r_aload_n hE 0 dX13_show_g0.2.2.2.2.2.2.1 rfl rfl ?_
  refine r_dup hE dX13_show_g0.2.2.2.2.2.2.2.1 rfl ?_
  refine mg_statedMany hE hm dX13_show_g0.2.2.2.2.2.2.2.2.1 ?_
  refine r_iconst (v := (1 : Int32)) hE dX13_show_g0.2.2.2.2.2.2.2.2.2.1 (by decide) ?_
  refine r_iadd hE dX13_show_g0.2.2.2.2.2.2.2.2.2.2.1 ?_
  refine mp_statedMany hE hm dX13_show_g0.2.2.2.2.2.2.2.2.2.2.2.1 h (fun s2 h => ?_)
  exact m_vret hE hm hF dX13_show_g0.2.2.2.2.2.2.2.2.2.2.2.2 h
/-! behindFall -/
def wm_behindFall (post : MS → Prop) (σ : MS) (a1 : Int32) : Prop := vp_in a1 600 ∧ (((¬ ((m_kind σ a1.toNatClampNeg) = (0 : Int32))) → (vp_in a1 600 ∧ (((¬ ((m_kind σ a1.toNatClampNeg) = (2 : Int32))) → (vp_in a1 600 ∧ (((¬ ((m_kind σ a1.toNatClampNeg) = (4 : Int32))) → (vp_in a1 600 ∧ (((¬ ((m_kind σ a1.toNatClampNeg) = (6 : Int32))) → (post σ)) ∧ (((m_kind σ a1.toNatClampNeg) = (6 : Int32)) → (wm_give (fun (s1 : MS) => post s1) σ (-1 : Int32)))))) ∧ (((m_kind σ a1.toNatClampNeg) = (4 : Int32)) → (wm_show (fun (s2 : MS) => post s2) σ (-1 : Int32)))))) ∧ (((m_kind σ a1.toNatClampNeg) = (2 : Int32)) → (vp_in a1 600 ∧ (wm_later (fun (s3 : MS) => post s3) σ (0 : Int32) (m_three σ a1.toNatClampNeg) (0 : Int64))))))) ∧ (((m_kind σ a1.toNatClampNeg) = (0 : Int32)) → (vp_in a1 600 ∧ (vp_in (((20 : Int32) * (m_depth σ)) + (m_one σ a1.toNatClampNeg)) 180 ∧ (∀ s4 : MS, s4 = m_held_s σ (((20 : Int32) * (m_depth σ)) + (m_one σ a1.toNatClampNeg)).toNatClampNeg (-1 : Int32) → post s4)))))
set_option maxRecDepth 20000 in
theorem km_behindFall {l : Launch} {D : va_G} {cl : List vw_C} {G : gAd} {post : MS → Prop} (hcl : mC cl) {σ : MS} {a1 : Int32} (h : wm_behindFall post σ a1) : mMet l D cl G yX13_behindFall cX13_behindFall 2 none 2 [.ref (G.1 0), .int a1] σ (qV post) := by
  unfold wm_behindFall at h
  refine m_enter hcl (by decide +kernel) rfl [(0, .ref (G.1 0)), (1, .int a1)] rfl (Nat.le_of_ble_eq_true rfl) ?_
  intro E hE hm hF
  have hN := hm.2.2.2.2.2.2.1
  refine r_aload_n hE 0 dX13_behindFall_g0.1 rfl rfl ?_
  refine mg_kind hE hm dX13_behindFall_g0.2.1 ?_
  refine r_iload_n hE 1 dX13_behindFall_g0.2.2.1 rfl rfl ?_
  obtain ⟨hi, h⟩ := h
  refine ml_kind hE hm dX13_behindFall_g0.2.2.2.1 hi ?_
  refine r_if_ne hE 32 dX13_behindFall_g0.2.2.2.2.1 (by decide) h (fun h => ?_) (fun h => ?_)
  · refine r_aload_n hE 0 dX13_behindFall_g1.2.2.2.1 rfl rfl ?_
    refine mg_kind hE hm dX13_behindFall_g1.2.2.2.2.1 ?_
    refine r_iload_n hE 1 dX13_behindFall_g1.2.2.2.2.2.1 rfl rfl ?_
    obtain ⟨hi, h⟩ := h
    refine ml_kind hE hm dX13_behindFall_g1.2.2.2.2.2.2.1 hi ?_
    refine r_iconst (v := (2 : Int32)) hE dX13_behindFall_g1.2.2.2.2.2.2.2.1 (by decide) ?_
    refine r_icmp_ne hE 57 dX13_behindFall_g1.2.2.2.2.2.2.2.2.1 (by decide) h (fun h => ?_) (fun h => ?_)
    · refine r_aload_n hE 0 dX13_behindFall_g2.2.2.1 rfl rfl ?_
      refine mg_kind hE hm dX13_behindFall_g2.2.2.2.1 ?_
      refine r_iload_n hE 1 dX13_behindFall_g2.2.2.2.2.1 rfl rfl ?_
      obtain ⟨hi, h⟩ := h
      refine ml_kind hE hm dX13_behindFall_g2.2.2.2.2.2.1 hi ?_
      refine r_iconst (v := (4 : Int32)) hE dX13_behindFall_g2.2.2.2.2.2.2.1 (by decide) ?_
      refine r_icmp_ne hE 75 dX13_behindFall_g2.2.2.2.2.2.2.2.1 (by decide) h (fun h => ?_) (fun h => ?_)
      · refine r_aload_n hE 0 dX13_behindFall_g2.2.2.2.2.2.2.2.2.2.2.2.2.1 rfl rfl ?_
        refine mg_kind hE hm dX13_behindFall_g2.2.2.2.2.2.2.2.2.2.2.2.2.2.1 ?_
        refine r_iload_n hE 1 dX13_behindFall_g2.2.2.2.2.2.2.2.2.2.2.2.2.2.2.1 rfl rfl ?_
        obtain ⟨hi, h⟩ := h
        refine ml_kind hE hm dX13_behindFall_g2.2.2.2.2.2.2.2.2.2.2.2.2.2.2.2 hi ?_
        refine r_bipush (v := (6 : Int32)) hE dX13_behindFall_g3.1 (by decide) ?_
        refine r_icmp_ne hE 91 dX13_behindFall_g3.2.1 (by decide) h (fun h => ?_) (fun h => ?_)
        · exact m_vret hE hm hF dX13_behindFall_g3.2.2.2.2.2 h
        · refine r_aload_n hE 0 dX13_behindFall_g3.2.2.1 rfl rfl ?_
          refine r_iconst (v := (-1 : Int32)) hE dX13_behindFall_g3.2.2.2.1 (by decide) ?_
          refine m_callVv hE hm [.int (-1 : Int32)] [] mc_give (km_give hm.2.2.2.2.2.2.2.2 h) (by decide) rfl rfl (Nat.le_of_ble_eq_true rfl) dX13_behindFall_g3.2.2.2.2.1 (fun s1 h => ?_)
          exact m_vret hE hm hF dX13_behindFall_g3.2.2.2.2.2 h
      · refine r_aload_n hE 0 dX13_behindFall_g2.2.2.2.2.2.2.2.2.1 rfl rfl ?_
        refine r_iconst (v := (-1 : Int32)) hE dX13_behindFall_g2.2.2.2.2.2.2.2.2.2.1 (by decide) ?_
        refine m_callVv hE hm [.int (-1 : Int32)] [] mc_show (km_show hm.2.2.2.2.2.2.2.2 h) (by decide) rfl rfl (Nat.le_of_ble_eq_true rfl) dX13_behindFall_g2.2.2.2.2.2.2.2.2.2.2.1 (fun s2 h => ?_)
        refine r_goto hE 91 dX13_behindFall_g2.2.2.2.2.2.2.2.2.2.2.2.1 (by decide) ?_
        exact m_vret hE hm hF dX13_behindFall_g3.2.2.2.2.2 h
    · refine r_aload_n hE 0 dX13_behindFall_g1.2.2.2.2.2.2.2.2.2.1 rfl rfl ?_
      refine r_iconst (v := (0 : Int32)) hE dX13_behindFall_g1.2.2.2.2.2.2.2.2.2.2.1 (by decide) ?_
      refine r_aload_n hE 0 dX13_behindFall_g1.2.2.2.2.2.2.2.2.2.2.2.1 rfl rfl ?_
      refine mg_three hE hm dX13_behindFall_g1.2.2.2.2.2.2.2.2.2.2.2.2.1 ?_
      refine r_iload_n hE 1 dX13_behindFall_g1.2.2.2.2.2.2.2.2.2.2.2.2.2.1 rfl rfl ?_
      obtain ⟨hi, h⟩ := h
      refine ml_three hE hm dX13_behindFall_g1.2.2.2.2.2.2.2.2.2.2.2.2.2.2.1 hi ?_
      refine r_lconst (v := (0 : Int64)) hE dX13_behindFall_g1.2.2.2.2.2.2.2.2.2.2.2.2.2.2.2 (by decide) ?_
      refine m_callVv hE hm [.int (0 : Int32), .int (m_three σ a1.toNatClampNeg), .long (0 : Int64)] [] mc_later (km_later hm.2.2.2.2.2.2.2.2 h) (by decide) rfl rfl (Nat.le_of_ble_eq_true rfl) dX13_behindFall_g2.1 (fun s3 h => ?_)
      refine r_goto hE 91 dX13_behindFall_g2.2.1 (by decide) ?_
      exact m_vret hE hm hF dX13_behindFall_g3.2.2.2.2.2 h
  · refine r_aload_n hE 0 dX13_behindFall_g0.2.2.2.2.2.1 rfl rfl ?_
    refine mg_held hE hm dX13_behindFall_g0.2.2.2.2.2.2.1 ?_
    refine r_bipush (v := (20 : Int32)) hE dX13_behindFall_g0.2.2.2.2.2.2.2.1 (by decide) ?_
    refine r_aload_n hE 0 dX13_behindFall_g0.2.2.2.2.2.2.2.2.1 rfl rfl ?_
    refine mg_depth hE hm dX13_behindFall_g0.2.2.2.2.2.2.2.2.2.1 ?_
    refine r_imul hE dX13_behindFall_g0.2.2.2.2.2.2.2.2.2.2.1 ?_
    refine r_aload_n hE 0 dX13_behindFall_g0.2.2.2.2.2.2.2.2.2.2.2.1 rfl rfl ?_
    refine mg_one hE hm dX13_behindFall_g0.2.2.2.2.2.2.2.2.2.2.2.2.1 ?_
    refine r_iload_n hE 1 dX13_behindFall_g0.2.2.2.2.2.2.2.2.2.2.2.2.2.1 rfl rfl ?_
    obtain ⟨hi, h⟩ := h
    refine ml_one hE hm dX13_behindFall_g0.2.2.2.2.2.2.2.2.2.2.2.2.2.2.1 hi ?_
    refine r_iadd hE dX13_behindFall_g0.2.2.2.2.2.2.2.2.2.2.2.2.2.2.2 ?_
    refine r_iconst (v := (-1 : Int32)) hE dX13_behindFall_g1.1 (by decide) ?_
    obtain ⟨hi, h⟩ := h
    refine ms_held hE hm dX13_behindFall_g1.2.1 hi h (fun s4 h => ?_)
    refine r_goto hE 91 dX13_behindFall_g1.2.2.1 (by decide) ?_
    exact m_vret hE hm hF dX13_behindFall_g3.2.2.2.2.2 h
/-! note -/
def wm_note_62 (post : MS → Prop) (σ : MS) (t1 : Int32) : Prop := isB t1 ∧ (∀ s1 : MS, s1 = m_spent_s σ t1 → post s1)
set_option maxRecDepth 20000 in
theorem km_note_62 {E : gEnv} {l : Launch} {D : va_G} {cl : List vw_C} {G : gAd} {post : MS → Prop} (hE : gOK E cX13_note RX13 none 1) (hm : mOK E l D cl G (qV post) 3) (hF : gFin E) (σ : MS) (t1 : Int32) (h : wm_note_62 post σ t1) : GW E (mW G σ) 62 [] [.int t1, .ref (G.1 0)] := by
  unfold wm_note_62 at h
  have hN := hm.2.2.2.2.2.2.1
  obtain ⟨hb, h⟩ := h
  refine mp_spent hE hm dX13_note_g2.2.2.2.1 hb h (fun s1 h => ?_)
  exact m_vret hE hm hF dX13_note_g2.2.2.2.2 h
def wm_note_57 (post : MS → Prop) (σ : MS) : Prop := wm_note_62 post σ (1 : Int32)
set_option maxRecDepth 20000 in
theorem km_note_57 {E : gEnv} {l : Launch} {D : va_G} {cl : List vw_C} {G : gAd} {post : MS → Prop} (hE : gOK E cX13_note RX13 none 1) (hm : mOK E l D cl G (qV post) 3) (hF : gFin E) (σ : MS) (h : wm_note_57 post σ) : GW E (mW G σ) 57 [] [.ref (G.1 0)] := by
  unfold wm_note_57 at h
  have hN := hm.2.2.2.2.2.2.1
  refine r_iconst (v := (1 : Int32)) hE dX13_note_g2.1 (by decide) ?_
  refine r_goto hE 62 dX13_note_g2.2.1 (by decide) ?_
  exact km_note_62 hE hm hF _ _ h
def wm_note (post : MS → Prop) (σ : MS) (a1 : Int32) (a2 : Int32) : Prop := vp_in (m_falls σ) 12 ∧ (∀ s2 : MS, s2 = m_fallWhat_s σ (m_falls σ).toNatClampNeg a1 → vp_in (m_falls s2) 12 ∧ (∀ s3 : MS, s3 = m_fallAt_s s2 (m_falls s2).toNatClampNeg a2 → ∀ s4 : MS, s4 = m_falls_s s3 ((m_falls s3) + (1 : Int32)) → ∀ s5 : MS, s5 = m_failure_s s4 (0 : Int32) → ∀ s6 : MS, s6 = m_piled_s s5 (0 : Int32) → ((¬ ((m_spent s6) = (0 : Int32))) → (wm_note_57 post s6)) ∧ (((m_spent s6) = (0 : Int32)) → (((¬ ((m_falls s6) = (12 : Int32))) → (wm_note_62 post s6 (0 : Int32))) ∧ (((m_falls s6) = (12 : Int32)) → (wm_note_57 post s6))))))
set_option maxRecDepth 20000 in
theorem km_note {l : Launch} {D : va_G} {cl : List vw_C} {G : gAd} {post : MS → Prop} (hcl : mC cl) {σ : MS} {a1 : Int32} {a2 : Int32} (h : wm_note post σ a1 a2) : mMet l D cl G yX13_note cX13_note 3 none 1 [.ref (G.1 0), .int a1, .int a2] σ (qV post) := by
  unfold wm_note at h
  refine m_enter hcl (by decide +kernel) rfl [(0, .ref (G.1 0)), (1, .int a1), (2, .int a2)] rfl (Nat.le_of_ble_eq_true rfl) ?_
  intro E hE hm hF
  have hN := hm.2.2.2.2.2.2.1
  refine r_aload_n hE 0 dX13_note_g0.1 rfl rfl ?_
  refine mg_fallWhat hE hm dX13_note_g0.2.1 ?_
  refine r_aload_n hE 0 dX13_note_g0.2.2.1 rfl rfl ?_
  refine mg_falls hE hm dX13_note_g0.2.2.2.1 ?_
  refine r_iload_n hE 1 dX13_note_g0.2.2.2.2.1 rfl rfl ?_
  obtain ⟨hi, h⟩ := h
  refine ms_fallWhat hE hm dX13_note_g0.2.2.2.2.2.1 hi h (fun s2 h => ?_)
  refine r_aload_n hE 0 dX13_note_g0.2.2.2.2.2.2.1 rfl rfl ?_
  refine mg_fallAt hE hm dX13_note_g0.2.2.2.2.2.2.2.1 ?_
  refine r_aload_n hE 0 dX13_note_g0.2.2.2.2.2.2.2.2.1 rfl rfl ?_
  refine mg_falls hE hm dX13_note_g0.2.2.2.2.2.2.2.2.2.1 ?_
  refine r_iload_n hE 2 dX13_note_g0.2.2.2.2.2.2.2.2.2.2.1 rfl rfl ?_
  obtain ⟨hi, h⟩ := h
  refine ms_fallAt hE hm dX13_note_g0.2.2.2.2.2.2.2.2.2.2.2.1 hi h (fun s3 h => ?_)
  refine r_aload_n hE 0 dX13_note_g0.2.2.2.2.2.2.2.2.2.2.2.2.1 rfl rfl ?_
  refine r_dup hE dX13_note_g0.2.2.2.2.2.2.2.2.2.2.2.2.2.1 rfl ?_
  refine mg_falls hE hm dX13_note_g0.2.2.2.2.2.2.2.2.2.2.2.2.2.2.1 ?_
  refine r_iconst (v := (1 : Int32)) hE dX13_note_g0.2.2.2.2.2.2.2.2.2.2.2.2.2.2.2 (by decide) ?_
  refine r_iadd hE dX13_note_g1.1 ?_
  refine mp_falls hE hm dX13_note_g1.2.1 h (fun s4 h => ?_)
  refine r_aload_n hE 0 dX13_note_g1.2.2.1 rfl rfl ?_
  refine r_iconst (v := (0 : Int32)) hE dX13_note_g1.2.2.2.1 (by decide) ?_
  refine mp_failure hE hm dX13_note_g1.2.2.2.2.1 h (fun s5 h => ?_)
  refine r_aload_n hE 0 dX13_note_g1.2.2.2.2.2.1 rfl rfl ?_
  refine r_iconst (v := (0 : Int32)) hE dX13_note_g1.2.2.2.2.2.2.1 (by decide) ?_
  refine mp_piled hE hm dX13_note_g1.2.2.2.2.2.2.2.1 h (fun s6 h => ?_)
  refine r_aload_n hE 0 dX13_note_g1.2.2.2.2.2.2.2.2.1 rfl rfl ?_
  refine r_aload_n hE 0 dX13_note_g1.2.2.2.2.2.2.2.2.2.1 rfl rfl ?_
  refine mg_spent hE hm dX13_note_g1.2.2.2.2.2.2.2.2.2.2.1 ?_
  refine r_if_ne hE 57 dX13_note_g1.2.2.2.2.2.2.2.2.2.2.2.1 (by decide) h (fun h => ?_) (fun h => ?_)
  · refine r_pick [] rfl ?_
    exact km_note_57 hE hm hF _ h
  · refine r_aload_n hE 0 dX13_note_g1.2.2.2.2.2.2.2.2.2.2.2.2.1 rfl rfl ?_
    refine mg_falls hE hm dX13_note_g1.2.2.2.2.2.2.2.2.2.2.2.2.2.1 ?_
    refine r_bipush (v := (12 : Int32)) hE dX13_note_g1.2.2.2.2.2.2.2.2.2.2.2.2.2.2.1 (by decide) ?_
    refine r_icmp_ne hE 61 dX13_note_g1.2.2.2.2.2.2.2.2.2.2.2.2.2.2.2 (by decide) h (fun h => ?_) (fun h => ?_)
    · refine r_iconst (v := (0 : Int32)) hE dX13_note_g2.2.2.1 (by decide) ?_
      refine r_pick [] rfl ?_
      exact km_note_62 hE hm hF _ _ h
    · refine r_pick [] rfl ?_
      exact km_note_57 hE hm hF _ h
/-! fails -/
def wm_fails_0 (post : MS → Prop) : Nat → MS → Int32 → Int32 → Prop
  | 0, _, _, _ => False
  | n + 1, σ, v1, v2 => vp_in ((m_jobs σ) - (1 : Int32)) 2000 ∧ ((((m_job σ ((m_jobs σ) - (1 : Int32)).toNatClampNeg) = (3 : Int32)) → (∀ s1 : MS, s1 = m_jobs_s σ ((m_jobs σ) - (1 : Int32)) → vp_in (m_jobs s1) 2000 ∧ (∀ s2 : MS, s2 = m_comes_s s1 ((m_jobWith s1 (m_jobs s1).toNatClampNeg).toInt32) → vp_in v2 600 ∧ (wm_note (fun (s3 : MS) => ((¬ ((m_spent s3) = (0 : Int32))) → (post s3)) ∧ (((m_spent s3) = (0 : Int32)) → (vp_in (m_jobs s3) 2000 ∧ (wm_behindFall (fun (s4 : MS) => post s4) s3 (m_jobOf s3 (m_jobs s3).toNatClampNeg))))) s2 v1 (m_byteOf s2 v2.toNatClampNeg))))) ∧ ((¬ ((m_job σ ((m_jobs σ) - (1 : Int32)).toNatClampNeg) = (3 : Int32))) → (∀ s5 : MS, s5 = m_jobs_s σ ((m_jobs σ) - (1 : Int32)) → wm_fails_0 post n s5 v1 v2)))
set_option maxRecDepth 20000 in
theorem km_fails_0 {E : gEnv} {l : Launch} {D : va_G} {cl : List vw_C} {G : gAd} {post : MS → Prop} (hE : gOK E cX13_fails RX13 none 3) (hm : mOK E l D cl G (qV post) 3) (hF : gFin E) : ∀ (n : Nat) (σ : MS) (v1 : Int32) (v2 : Int32), wm_fails_0 post n σ v1 v2 → GW E (mW G σ) 0 [(0, .ref (G.1 0)), (1, .int v1), (2, .int v2)] [] := by
  intro n
  induction n with
  | zero => intro σ v1 v2 h; exact h.elim
  | succ n ih =>
    intro σ v1 v2 h
    rw [wm_fails_0] at h
    have hN := hm.2.2.2.2.2.2.1
    refine r_aload_n hE 0 dX13_fails_g0.1 rfl rfl ?_
    refine mg_job hE hm dX13_fails_g0.2.1 ?_
    refine r_aload_n hE 0 dX13_fails_g0.2.2.1 rfl rfl ?_
    refine mg_jobs hE hm dX13_fails_g0.2.2.2.1 ?_
    refine r_iconst (v := (1 : Int32)) hE dX13_fails_g0.2.2.2.2.1 (by decide) ?_
    refine r_isub hE dX13_fails_g0.2.2.2.2.2.1 ?_
    obtain ⟨hi, h⟩ := h
    refine ml_job hE hm dX13_fails_g0.2.2.2.2.2.2.1 hi ?_
    refine r_iconst (v := (3 : Int32)) hE dX13_fails_g0.2.2.2.2.2.2.2.1 (by decide) ?_
    refine r_icmp_eq hE 28 dX13_fails_g0.2.2.2.2.2.2.2.2.1 (by decide) h (fun h => ?_) (fun h => ?_)
    · refine r_aload_n hE 0 dX13_fails_g1.1 rfl rfl ?_
      refine r_dup hE dX13_fails_g1.2.1 rfl ?_
      refine mg_jobs hE hm dX13_fails_g1.2.2.1 ?_
      refine r_iconst (v := (1 : Int32)) hE dX13_fails_g1.2.2.2.1 (by decide) ?_
      refine r_isub hE dX13_fails_g1.2.2.2.2.1 ?_
      refine mp_jobs hE hm dX13_fails_g1.2.2.2.2.2.1 h (fun s1 h => ?_)
      refine r_aload_n hE 0 dX13_fails_g1.2.2.2.2.2.2.1 rfl rfl ?_
      refine r_aload_n hE 0 dX13_fails_g1.2.2.2.2.2.2.2.1 rfl rfl ?_
      refine mg_jobWith hE hm dX13_fails_g1.2.2.2.2.2.2.2.2.1 ?_
      refine r_aload_n hE 0 dX13_fails_g1.2.2.2.2.2.2.2.2.2.1 rfl rfl ?_
      refine mg_jobs hE hm dX13_fails_g1.2.2.2.2.2.2.2.2.2.2.1 ?_
      obtain ⟨hi, h⟩ := h
      refine ml_jobWith hE hm dX13_fails_g1.2.2.2.2.2.2.2.2.2.2.2.1 hi ?_
      refine r_l2i hE dX13_fails_g1.2.2.2.2.2.2.2.2.2.2.2.2.1 ?_
      refine mp_comes hE hm dX13_fails_g1.2.2.2.2.2.2.2.2.2.2.2.2.2.1 h (fun s2 h => ?_)
      refine r_aload_n hE 0 dX13_fails_g1.2.2.2.2.2.2.2.2.2.2.2.2.2.2.1 rfl rfl ?_
      refine r_iload_n hE 1 dX13_fails_g1.2.2.2.2.2.2.2.2.2.2.2.2.2.2.2 rfl rfl ?_
      refine r_aload_n hE 0 dX13_fails_g2.1 rfl rfl ?_
      refine mg_byteOf hE hm dX13_fails_g2.2.1 ?_
      refine r_iload_n hE 2 dX13_fails_g2.2.2.1 rfl rfl ?_
      obtain ⟨hi, h⟩ := h
      refine ml_byteOf hE hm dX13_fails_g2.2.2.2.1 hi ?_
      refine m_callVv hE hm [.int v1, .int (m_byteOf s2 v2.toNatClampNeg)] [] mc_note (km_note hm.2.2.2.2.2.2.2.2 h) (by decide) rfl rfl (Nat.le_of_ble_eq_true rfl) dX13_fails_g2.2.2.2.2.1 (fun s3 h => ?_)
      refine r_aload_n hE 0 dX13_fails_g2.2.2.2.2.2.1 rfl rfl ?_
      refine mg_spent hE hm dX13_fails_g2.2.2.2.2.2.2.1 ?_
      refine r_if_ne hE 83 dX13_fails_g2.2.2.2.2.2.2.2.1 (by decide) h (fun h => ?_) (fun h => ?_)
      · exact m_vret hE hm hF dX13_fails_g2.2.2.2.2.2.2.2.2.2.2.2.2.2.2.2 h
      · refine r_aload_n hE 0 dX13_fails_g2.2.2.2.2.2.2.2.2.1 rfl rfl ?_
        refine r_aload_n hE 0 dX13_fails_g2.2.2.2.2.2.2.2.2.2.1 rfl rfl ?_
        refine mg_jobOf hE hm dX13_fails_g2.2.2.2.2.2.2.2.2.2.2.1 ?_
        refine r_aload_n hE 0 dX13_fails_g2.2.2.2.2.2.2.2.2.2.2.2.1 rfl rfl ?_
        refine mg_jobs hE hm dX13_fails_g2.2.2.2.2.2.2.2.2.2.2.2.2.1 ?_
        obtain ⟨hi, h⟩ := h
        refine ml_jobOf hE hm dX13_fails_g2.2.2.2.2.2.2.2.2.2.2.2.2.2.1 hi ?_
        refine m_callVv hE hm [.int (m_jobOf s3 (m_jobs s3).toNatClampNeg)] [] mc_behindFall (km_behindFall hm.2.2.2.2.2.2.2.2 h) (by decide) rfl rfl (Nat.le_of_ble_eq_true rfl) dX13_fails_g2.2.2.2.2.2.2.2.2.2.2.2.2.2.2.1 (fun s4 h => ?_)
        exact m_vret hE hm hF dX13_fails_g2.2.2.2.2.2.2.2.2.2.2.2.2.2.2.2 h
    · refine r_aload_n hE 0 dX13_fails_g0.2.2.2.2.2.2.2.2.2.1 rfl rfl ?_
      refine r_dup hE dX13_fails_g0.2.2.2.2.2.2.2.2.2.2.1 rfl ?_
      refine mg_jobs hE hm dX13_fails_g0.2.2.2.2.2.2.2.2.2.2.2.1 ?_
      refine r_iconst (v := (1 : Int32)) hE dX13_fails_g0.2.2.2.2.2.2.2.2.2.2.2.2.1 (by decide) ?_
      refine r_isub hE dX13_fails_g0.2.2.2.2.2.2.2.2.2.2.2.2.2.1 ?_
      refine mp_jobs hE hm dX13_fails_g0.2.2.2.2.2.2.2.2.2.2.2.2.2.2.1 h (fun s5 h => ?_)
      refine r_goto hE 0 dX13_fails_g0.2.2.2.2.2.2.2.2.2.2.2.2.2.2.2 (by decide) ?_
      exact ih _ _ _ h
def wm_fails (post : MS → Prop) (σ : MS) (a1 : Int32) (a2 : Int32) : Prop := ∃ k : Nat, wm_fails_0 post k σ a1 a2
set_option maxRecDepth 20000 in
theorem km_fails {l : Launch} {D : va_G} {cl : List vw_C} {G : gAd} {post : MS → Prop} (hcl : mC cl) {σ : MS} {a1 : Int32} {a2 : Int32} (h : wm_fails post σ a1 a2) : mMet l D cl G yX13_fails cX13_fails 3 none 3 [.ref (G.1 0), .int a1, .int a2] σ (qV post) := by
  unfold wm_fails at h
  refine m_enter hcl (by decide +kernel) rfl [(0, .ref (G.1 0)), (1, .int a1), (2, .int a2)] rfl (Nat.le_of_ble_eq_true rfl) ?_
  intro E hE hm hF
  have hN := hm.2.2.2.2.2.2.1
  obtain ⟨k, h⟩ := h
  exact km_fails_0 hE hm hF k _ _ _ h
/-! isWhole -/
def wm_isWhole (post : MS → Int32 → Prop) (σ : MS) (a1 : Int32) : Prop := vp_in a1 480 ∧ (((¬ ((m_sort σ a1.toNatClampNeg) = (0 : Int32))) → (post σ (0 : Int32))) ∧ (((m_sort σ a1.toNatClampNeg) = (0 : Int32)) → (vp_in ((7 : Int32) * a1) 3360 ∧ (((¬ ((lg_cmp (m_low σ ((7 : Int32) * a1).toNatClampNeg) (1 : Int64)) = (0 : Int32))) → (post σ (0 : Int32))) ∧ (((lg_cmp (m_low σ ((7 : Int32) * a1).toNatClampNeg) (1 : Int64)) = (0 : Int32)) → (post σ (1 : Int32)))))))
set_option maxRecDepth 20000 in
theorem km_isWhole {l : Launch} {D : va_G} {cl : List vw_C} {G : gAd} {post : MS → Int32 → Prop} (hcl : mC cl) {σ : MS} {a1 : Int32} (h : wm_isWhole post σ a1) : mMet l D cl G yX13_isWhole cX13_isWhole 2 (some .boolean) 1 [.ref (G.1 0), .int a1] σ (qI post) := by
  unfold wm_isWhole at h
  refine m_enter hcl (by decide +kernel) rfl [(0, .ref (G.1 0)), (1, .int a1)] rfl (Nat.le_of_ble_eq_true rfl) ?_
  intro E hE hm hF
  have hN := hm.2.2.2.2.2.2.1
  refine r_aload_n hE 0 dX13_isWhole_g0.1 rfl rfl ?_
  refine mg_sort hE hm dX13_isWhole_g0.2.1 ?_
  refine r_iload_n hE 1 dX13_isWhole_g0.2.2.1 rfl rfl ?_
  obtain ⟨hi, h⟩ := h
  refine ml_sort hE hm dX13_isWhole_g0.2.2.2.1 hi ?_
  refine r_if_ne hE 27 dX13_isWhole_g0.2.2.2.2.1 (by decide) h (fun h => ?_) (fun h => ?_)
  · refine r_iconst (v := (0 : Int32)) hE dX13_isWhole_g1.1 (by decide) ?_
    exact m_zret hE hm hF dX13_isWhole_g1.2 (Or.inl rfl) h
  · refine r_aload_n hE 0 dX13_isWhole_g0.2.2.2.2.2.1 rfl rfl ?_
    refine mg_low hE hm dX13_isWhole_g0.2.2.2.2.2.2.1 ?_
    refine r_bipush (v := (7 : Int32)) hE dX13_isWhole_g0.2.2.2.2.2.2.2.1 (by decide) ?_
    refine r_iload_n hE 1 dX13_isWhole_g0.2.2.2.2.2.2.2.2.1 rfl rfl ?_
    refine r_imul hE dX13_isWhole_g0.2.2.2.2.2.2.2.2.2.1 ?_
    obtain ⟨hi, h⟩ := h
    refine ml_low hE hm dX13_isWhole_g0.2.2.2.2.2.2.2.2.2.2.1 hi ?_
    refine r_lconst (v := (1 : Int64)) hE dX13_isWhole_g0.2.2.2.2.2.2.2.2.2.2.2.1 (by decide) ?_
    refine r_lcmp hE dX13_isWhole_g0.2.2.2.2.2.2.2.2.2.2.2.2.1 ?_
    refine r_if_ne hE 27 dX13_isWhole_g0.2.2.2.2.2.2.2.2.2.2.2.2.2.1 (by decide) h (fun h => ?_) (fun h => ?_)
    · refine r_iconst (v := (0 : Int32)) hE dX13_isWhole_g1.1 (by decide) ?_
      exact m_zret hE hm hF dX13_isWhole_g1.2 (Or.inl rfl) h
    · refine r_iconst (v := (1 : Int32)) hE dX13_isWhole_g0.2.2.2.2.2.2.2.2.2.2.2.2.2.2.1 (by decide) ?_
      refine r_goto hE 28 dX13_isWhole_g0.2.2.2.2.2.2.2.2.2.2.2.2.2.2.2 (by decide) ?_
      exact m_zret hE hm hF dX13_isWhole_g1.2 (Or.inr rfl) h
