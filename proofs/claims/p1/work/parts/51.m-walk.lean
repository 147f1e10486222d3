/-! begin -/
def wm_begin (post : MS → Prop) (σ : MS) (a1 : Int32) (a2 : Int32) : Prop := ∀ s1 : MS, s1 = m_blocks_s σ ((m_blocks σ) + (1 : Int32)) → vp_in (m_blocks s1) 16 ∧ (∀ s2 : MS, s2 = m_owner_s s1 (m_blocks s1).toNatClampNeg a1 → vp_in (m_blocks s2) 16 ∧ (isB a2 ∧ (∀ s3 : MS, s3 = m_isElse_s s2 (m_blocks s2).toNatClampNeg a2 → vp_in (m_blocks s3) 16 ∧ (∀ s4 : MS, s4 = m_latest_s s3 (m_blocks s3).toNatClampNeg (-1 : Int32) → post s4))))
set_option maxRecDepth 20000 in
theorem km_begin {l : Launch} {D : va_G} {cl : List vw_C} {G : gAd} {post : MS → Prop} (hcl : mC cl) {σ : MS} {a1 : Int32} {a2 : Int32} (h : wm_begin post σ a1 a2) : mMet l D cl G yX13_begin cX13_begin 3 none 1 [.ref (G.1 0), .int a1, .int a2] σ (qV post) := by
  unfold wm_begin at h
  refine m_enter hcl (by decide +kernel) rfl [(0, .ref (G.1 0)), (1, .int a1), (2, .int a2)] rfl (Nat.le_of_ble_eq_true rfl) ?_
  intro E hE hm hF
  have hN := hm.2.2.2.2.2.2.1
  refine r_aload_n hE 0 dX13_begin_g0.1 rfl rfl ?_
  refine r_dup hE dX13_begin_g0.2.1 rfl ?_
  refine mg_blocks hE hm dX13_begin_g0.2.2.1 ?_
  refine r_iconst (v := (1 : Int32)) hE dX13_begin_g0.2.2.2.1 (by decide) ?_
  refine r_iadd hE dX13_begin_g0.2.2.2.2.1 ?_
  refine mp_blocks hE hm dX13_begin_g0.2.2.2.2.2.1 h (fun s1 h => ?_)
  refine r_aload_n hE 0 dX13_begin_g0.2.2.2.2.2.2.1 rfl rfl ?_
  refine mg_owner hE hm dX13_begin_g0.2.2.2.2.2.2.2.1 ?_
  refine r_aload_n hE 0 dX13_begin_g0.2.2.2.2.2.2.2.2.1 rfl rfl ?_
  refine mg_blocks hE hm dX13_begin_g0.2.2.2.2.2.2.2.2.2.1 ?_
  refine r_iload_n hE 1 dX13_begin_g0.2.2.2.2.2.2.2.2.2.2.1 rfl rfl ?_
  obtain ⟨hi, h⟩ := h
  refine ms_owner hE hm dX13_begin_g0.2.2.2.2.2.2.2.2.2.2.2.1 hi h (fun s2 h => ?_)
  refine r_aload_n hE 0 dX13_begin_g0.2.2.2.2.2.2.2.2.2.2.2.2.1 rfl rfl ?_
  refine mg_isElse hE hm dX13_begin_g0.2.2.2.2.2.2.2.2.2.2.2.2.2.1 ?_
  refine r_aload_n hE 0 dX13_begin_g0.2.2.2.2.2.2.2.2.2.2.2.2.2.2.1 rfl rfl ?_
  refine mg_blocks hE hm dX13_begin_g0.2.2.2.2.2.2.2.2.2.2.2.2.2.2.2 ?_
  refine r_iload_n hE 2 dX13_begin_g1.1 rfl rfl ?_
  obtain ⟨hi, h⟩ := h
  obtain ⟨hb, h⟩ := h
  refine ms_isElse hE hm dX13_begin_g1.2.1 hi hb h (fun s3 h => ?_)
  refine r_aload_n hE 0 dX13_begin_g1.2.2.1 rfl rfl ?_
  refine mg_latest hE hm dX13_begin_g1.2.2.2.1 ?_
  refine r_aload_n hE 0 dX13_begin_g1.2.2.2.2.1 rfl rfl ?_
  refine mg_blocks hE hm dX13_begin_g1.2.2.2.2.2.1 ?_
  refine r_iconst (v := (-1 : Int32)) hE dX13_begin_g1.2.2.2.2.2.2.1 (by decide) ?_
  obtain ⟨hi, h⟩ := h
  refine ms_latest hE hm dX13_begin_g1.2.2.2.2.2.2.2.1 hi h (fun s4 h => ?_)
  exact m_vret hE hm hF dX13_begin_g1.2.2.2.2.2.2.2.2 h
/-! endBlock -/
def wm_endBlock (post : MS → Prop) (σ : MS) : Prop := wm_shut (fun (s1 : MS) => vp_in (m_blocks s1) 16 ∧ (∀ x2 : Int32, x2 = m_owner s1 (m_blocks s1).toNatClampNeg → vp_in (m_blocks s1) 16 ∧ (∀ x3 : Int32, x3 = m_isElse s1 (m_blocks s1).toNatClampNeg → ∀ s4 : MS, s4 = m_blocks_s s1 ((m_blocks s1) - (1 : Int32)) → wm_fine (fun (s5 : MS) (r6 : Int32) => ((r6 = (0 : Int32)) → (post s5)) ∧ ((¬ (r6 = (0 : Int32))) → (((¬ (x3 = (0 : Int32))) → (post s5)) ∧ ((x3 = (0 : Int32)) → (vp_in x2 600 ∧ (((¬ ((m_kind s5 x2.toNatClampNeg) = (2 : Int32))) → (post s5)) ∧ (((m_kind s5 x2.toNatClampNeg) = (2 : Int32)) → (((¬ ((m_token s5) = (1 : Int32))) → (post s5)) ∧ (((m_token s5) = (1 : Int32)) → (wm_wordOf_wordList (fun (s7 : MS) (r8 : Int32) => ((¬ (r8 = (2 : Int32))) → (post s7)) ∧ ((r8 = (2 : Int32)) → (wm_next (fun (s9 : MS) => vp_in x2 600 ∧ (∀ s10 : MS, s10 = m_value_s s9 x2.toNatClampNeg (1 : Int64) → wm_open (fun (s11 : MS) => wm_begin (fun (s12 : MS) => post s12) s11 x2 (1 : Int32)) s10 (123 : Int32))) s7))) s5)))))))))) s4))) σ (125 : Int32)
set_option maxRecDepth 20000 in
theorem km_endBlock {l : Launch} {D : va_G} {cl : List vw_C} {G : gAd} {post : MS → Prop} (hcl : mC cl) {σ : MS} (h : wm_endBlock post σ) : mMet l D cl G yX13_endBlock cX13_endBlock 3 none 7 [.ref (G.1 0)] σ (qV post) := by
  unfold wm_endBlock at h
  refine m_enter hcl (by decide +kernel) rfl [(0, .ref (G.1 0))] rfl (Nat.le_of_ble_eq_true rfl) ?_
  intro E hE hm hF
  have hN := hm.2.2.2.2.2.2.1
  refine r_aload_n hE 0 dX13_endBlock_g0.1 rfl rfl ?_
  refine r_bipush (v := (125 : Int32)) hE dX13_endBlock_g0.2.1 (by decide) ?_
  refine m_callVv hE hm [.int (125 : Int32)] [] mc_shut (km_shut hm.2.2.2.2.2.2.2.2 h) (by decide) rfl rfl (Nat.le_of_ble_eq_true rfl) dX13_endBlock_g0.2.2.1 (fun s1 h => ?_)
  refine r_aload_n hE 0 dX13_endBlock_g0.2.2.2.1 rfl rfl ?_
  refine mg_owner hE hm dX13_endBlock_g0.2.2.2.2.1 ?_
  refine r_aload_n hE 0 dX13_endBlock_g0.2.2.2.2.2.1 rfl rfl ?_
  refine mg_blocks hE hm dX13_endBlock_g0.2.2.2.2.2.2.1 ?_
  obtain ⟨hi, h⟩ := h
  refine ml_owner hE hm dX13_endBlock_g0.2.2.2.2.2.2.2.1 hi ?_
  refine r_topi h (fun x2 ex2 h => ?_)
  refine r_istore_n hE [(1, .int x2), (0, .ref (G.1 0))] dX13_endBlock_g0.2.2.2.2.2.2.2.2.1 rfl hN (by decide) rfl ?_
  refine r_aload_n hE 1 dX13_endBlock_g0.2.2.2.2.2.2.2.2.2.1 rfl rfl ?_
  refine mg_isElse hE hm dX13_endBlock_g0.2.2.2.2.2.2.2.2.2.2.1 ?_
  refine r_aload_n hE 1 dX13_endBlock_g0.2.2.2.2.2.2.2.2.2.2.2.1 rfl rfl ?_
  refine mg_blocks hE hm dX13_endBlock_g0.2.2.2.2.2.2.2.2.2.2.2.2.1 ?_
  obtain ⟨hi, h⟩ := h
  refine ml_isElse hE hm dX13_endBlock_g0.2.2.2.2.2.2.2.2.2.2.2.2.2.1 hi ?_
  refine r_topi h (fun x3 ex3 h => ?_)
  refine r_istore_n hE [(2, .int x3), (1, .int x2), (0, .ref (G.1 0))] dX13_endBlock_g0.2.2.2.2.2.2.2.2.2.2.2.2.2.2.1 rfl hN (by decide) rfl ?_
  refine r_aload_n hE 2 dX13_endBlock_g0.2.2.2.2.2.2.2.2.2.2.2.2.2.2.2 rfl rfl ?_
  refine r_dup hE dX13_endBlock_g1.1 rfl ?_
  refine mg_blocks hE hm dX13_endBlock_g1.2.1 ?_
  refine r_iconst (v := (1 : Int32)) hE dX13_endBlock_g1.2.2.1 (by decide) ?_
  refine r_isub hE dX13_endBlock_g1.2.2.2.1 ?_
  refine mp_blocks hE hm dX13_endBlock_g1.2.2.2.2.1 h (fun s4 h => ?_)
  refine r_aload_n hE 2 dX13_endBlock_g1.2.2.2.2.2.1 rfl rfl ?_
  refine m_callVi hE hm [] [] mc_fine (km_fine hm.2.2.2.2.2.2.2.2 h) (by decide) rfl rfl (Nat.le_of_ble_eq_true rfl) dX13_endBlock_g1.2.2.2.2.2.2.1 (fun s5 r6 h => ?_)
  refine r_if_eq hE 100 dX13_endBlock_g1.2.2.2.2.2.2.2.1 (by decide) h (fun h => ?_) (fun h => ?_)
  · exact m_vret hE hm hF dX13_endBlock_g3.2.2.2.2.2.2.2.2 h
  · refine r_iload_n hE 0 dX13_endBlock_g1.2.2.2.2.2.2.2.2.1 rfl rfl ?_
    refine r_if_ne hE 100 dX13_endBlock_g1.2.2.2.2.2.2.2.2.2.1 (by decide) h (fun h => ?_) (fun h => ?_)
    · exact m_vret hE hm hF dX13_endBlock_g3.2.2.2.2.2.2.2.2 h
    · refine r_aload_n hE 2 dX13_endBlock_g1.2.2.2.2.2.2.2.2.2.2.1 rfl rfl ?_
      refine mg_kind hE hm dX13_endBlock_g1.2.2.2.2.2.2.2.2.2.2.2.1 ?_
      refine r_iload_n hE 1 dX13_endBlock_g1.2.2.2.2.2.2.2.2.2.2.2.2.1 rfl rfl ?_
      obtain ⟨hi, h⟩ := h
      refine ml_kind hE hm dX13_endBlock_g1.2.2.2.2.2.2.2.2.2.2.2.2.2.1 hi ?_
      refine r_iconst (v := (2 : Int32)) hE dX13_endBlock_g1.2.2.2.2.2.2.2.2.2.2.2.2.2.2.1 (by decide) ?_
      refine r_icmp_ne hE 100 dX13_endBlock_g1.2.2.2.2.2.2.2.2.2.2.2.2.2.2.2 (by decide) h (fun h => ?_) (fun h => ?_)
      · exact m_vret hE hm hF dX13_endBlock_g3.2.2.2.2.2.2.2.2 h
      · refine r_aload_n hE 2 dX13_endBlock_g2.1 rfl rfl ?_
        refine mg_token hE hm dX13_endBlock_g2.2.1 ?_
        refine r_iconst (v := (1 : Int32)) hE dX13_endBlock_g2.2.2.1 (by decide) ?_
        refine r_icmp_ne hE 100 dX13_endBlock_g2.2.2.2.1 (by decide) h (fun h => ?_) (fun h => ?_)
        · exact m_vret hE hm hF dX13_endBlock_g3.2.2.2.2.2.2.2.2 h
        · refine r_aload_n hE 2 dX13_endBlock_g2.2.2.2.2.1 rfl rfl ?_
          refine r_aload_n hE 2 dX13_endBlock_g2.2.2.2.2.2.1 rfl rfl ?_
          refine mg_wordList hE hm dX13_endBlock_g2.2.2.2.2.2.2.1 ?_
          refine m_callVi hE hm [.ref (G.1 10)] [] mc_wordOf (km_wordOf_wordList hm.2.2.2.2.2.2.2.2 h) (by decide) rfl rfl (Nat.le_of_ble_eq_true rfl) dX13_endBlock_g2.2.2.2.2.2.2.2.1 (fun s7 r8 h => ?_)
          refine r_iconst (v := (2 : Int32)) hE dX13_endBlock_g2.2.2.2.2.2.2.2.2.1 (by decide) ?_
          refine r_icmp_ne hE 100 dX13_endBlock_g2.2.2.2.2.2.2.2.2.2.1 (by decide) h (fun h => ?_) (fun h => ?_)
          · exact m_vret hE hm hF dX13_endBlock_g3.2.2.2.2.2.2.2.2 h
          · refine r_aload_n hE 2 dX13_endBlock_g2.2.2.2.2.2.2.2.2.2.2.1 rfl rfl ?_
            refine m_callVv hE hm [] [] mc_next (km_next hm.2.2.2.2.2.2.2.2 h) (by decide) rfl rfl (Nat.le_of_ble_eq_true rfl) dX13_endBlock_g2.2.2.2.2.2.2.2.2.2.2.2.1 (fun s9 h => ?_)
            refine r_aload_n hE 2 dX13_endBlock_g2.2.2.2.2.2.2.2.2.2.2.2.2.1 rfl rfl ?_
            refine mg_value hE hm dX13_endBlock_g2.2.2.2.2.2.2.2.2.2.2.2.2.2.1 ?_
            refine r_iload_n hE 1 dX13_endBlock_g2.2.2.2.2.2.2.2.2.2.2.2.2.2.2.1 rfl rfl ?_
            refine r_lconst (v := (1 : Int64)) hE dX13_endBlock_g2.2.2.2.2.2.2.2.2.2.2.2.2.2.2.2 (by decide) ?_
            obtain ⟨hi, h⟩ := h
            refine ms_value hE hm dX13_endBlock_g3.1 hi h (fun s10 h => ?_)
            refine r_aload_n hE 2 dX13_endBlock_g3.2.1 rfl rfl ?_
            refine r_bipush (v := (123 : Int32)) hE dX13_endBlock_g3.2.2.1 (by decide) ?_
            refine m_callVv hE hm [.int (123 : Int32)] [] mc_open (km_open hm.2.2.2.2.2.2.2.2 h) (by decide) rfl rfl (Nat.le_of_ble_eq_true rfl) dX13_endBlock_g3.2.2.2.1 (fun s11 h => ?_)
            refine r_aload_n hE 2 dX13_endBlock_g3.2.2.2.2.1 rfl rfl ?_
            refine r_iload_n hE 1 dX13_endBlock_g3.2.2.2.2.2.1 rfl rfl ?_
            refine r_iconst (v := (1 : Int32)) hE dX13_endBlock_g3.2.2.2.2.2.2.1 (by decide) ?_
            refine m_callVv hE hm [.int x2, .int (1 : Int32)] [] mc_begin (km_begin hm.2.2.2.2.2.2.2.2 h) (by decide) rfl rfl (Nat.le_of_ble_eq_true rfl) dX13_endBlock_g3.2.2.2.2.2.2.2.1 (fun s12 h => ?_)
            exact m_vret hE hm hF dX13_endBlock_g3.2.2.2.2.2.2.2.2 h
/-! hang -/
def wm_hang_89 (post : MS → Prop) (σ : MS) (v1 : Int32) : Prop := vp_in (m_blocks σ) 16 ∧ (∀ s1 : MS, s1 = m_latest_s σ (m_blocks σ).toNatClampNeg v1 → post s1)
set_option maxRecDepth 20000 in
theorem km_hang_89 {E : gEnv} {l : Launch} {D : va_G} {cl : List vw_C} {G : gAd} {post : MS → Prop} (hE : gOK E cX13_hang RX13 none 1) (hm : mOK E l D cl G (qV post) 2) (hF : gFin E) (σ : MS) (v1 : Int32) (h : wm_hang_89 post σ v1) : GW E (mW G σ) 89 [(0, .ref (G.1 0)), (1, .int v1)] [] := by
  unfold wm_hang_89 at h
  have hN := hm.2.2.2.2.2.2.1
  refine r_aload_n hE 0 dX13_hang_g2.2.2.2.2.2.2.2.2.2.2.2.2.2.2.2 rfl rfl ?_
  refine mg_latest hE hm dX13_hang_g3.1 ?_
  refine r_aload_n hE 0 dX13_hang_g3.2.1 rfl rfl ?_
  refine mg_blocks hE hm dX13_hang_g3.2.2.1 ?_
  refine r_iload_n hE 1 dX13_hang_g3.2.2.2.1 rfl rfl ?_
  obtain ⟨hi, h⟩ := h
  refine ms_latest hE hm dX13_hang_g3.2.2.2.2.1 hi h (fun s1 h => ?_)
  exact m_vret hE hm hF dX13_hang_g3.2.2.2.2.2 h
def wm_hang_67 (post : MS → Prop) (σ : MS) (v1 : Int32) : Prop := (((m_blocks σ) ≤ (0 : Int32)) → (wm_hang_89 post σ v1)) ∧ ((¬ ((m_blocks σ) ≤ (0 : Int32))) → (vp_in (m_blocks σ) 16 ∧ (vp_in (m_owner σ (m_blocks σ).toNatClampNeg) 600 ∧ (∀ s2 : MS, s2 = m_two_s σ (m_owner σ (m_blocks σ).toNatClampNeg).toNatClampNeg v1 → wm_hang_89 post s2 v1))))
set_option maxRecDepth 20000 in
theorem km_hang_67 {E : gEnv} {l : Launch} {D : va_G} {cl : List vw_C} {G : gAd} {post : MS → Prop} (hE : gOK E cX13_hang RX13 none 1) (hm : mOK E l D cl G (qV post) 2) (hF : gFin E) (σ : MS) (v1 : Int32) (h : wm_hang_67 post σ v1) : GW E (mW G σ) 67 [(0, .ref (G.1 0)), (1, .int v1)] [] := by
  unfold wm_hang_67 at h
  have hN := hm.2.2.2.2.2.2.1
  refine r_aload_n hE 0 dX13_hang_g2.2.2.2.1 rfl rfl ?_
  refine mg_blocks hE hm dX13_hang_g2.2.2.2.2.1 ?_
  refine r_if_le hE 89 dX13_hang_g2.2.2.2.2.2.1 (by decide) h (fun h => ?_) (fun h => ?_)
  · exact km_hang_89 hE hm hF _ _ h
  · refine r_aload_n hE 0 dX13_hang_g2.2.2.2.2.2.2.1 rfl rfl ?_
    refine mg_two hE hm dX13_hang_g2.2.2.2.2.2.2.2.1 ?_
    refine r_aload_n hE 0 dX13_hang_g2.2.2.2.2.2.2.2.2.1 rfl rfl ?_
    refine mg_owner hE hm dX13_hang_g2.2.2.2.2.2.2.2.2.2.1 ?_
    refine r_aload_n hE 0 dX13_hang_g2.2.2.2.2.2.2.2.2.2.2.1 rfl rfl ?_
    refine mg_blocks hE hm dX13_hang_g2.2.2.2.2.2.2.2.2.2.2.2.1 ?_
    obtain ⟨hi, h⟩ := h
    refine ml_owner hE hm dX13_hang_g2.2.2.2.2.2.2.2.2.2.2.2.2.1 hi ?_
    refine r_iload_n hE 1 dX13_hang_g2.2.2.2.2.2.2.2.2.2.2.2.2.2.1 rfl rfl ?_
    obtain ⟨hi, h⟩ := h
    refine ms_two hE hm dX13_hang_g2.2.2.2.2.2.2.2.2.2.2.2.2.2.2.1 hi h (fun s2 h => ?_)
    exact km_hang_89 hE hm hF _ _ h
def wm_hang (post : MS → Prop) (σ : MS) (a1 : Int32) : Prop := vp_in (m_blocks σ) 16 ∧ ((((m_latest σ (m_blocks σ).toNatClampNeg) < (0 : Int32)) → ((((m_blocks σ) ≤ (0 : Int32)) → (wm_hang_67 post σ a1)) ∧ ((¬ ((m_blocks σ) ≤ (0 : Int32))) → (vp_in (m_blocks σ) 16 ∧ ((((m_isElse σ (m_blocks σ).toNatClampNeg) = (0 : Int32)) → (wm_hang_67 post σ a1)) ∧ ((¬ ((m_isElse σ (m_blocks σ).toNatClampNeg) = (0 : Int32))) → (vp_in (m_blocks σ) 16 ∧ (vp_in (m_owner σ (m_blocks σ).toNatClampNeg) 600 ∧ (∀ s3 : MS, s3 = m_three_s σ (m_owner σ (m_blocks σ).toNatClampNeg).toNatClampNeg a1 → wm_hang_89 post s3 a1))))))))) ∧ ((¬ ((m_latest σ (m_blocks σ).toNatClampNeg) < (0 : Int32))) → (vp_in (m_blocks σ) 16 ∧ (vp_in (m_latest σ (m_blocks σ).toNatClampNeg) 600 ∧ (∀ s4 : MS, s4 = m_sister_s σ (m_latest σ (m_blocks σ).toNatClampNeg).toNatClampNeg a1 → wm_hang_89 post s4 a1)))))
set_option maxRecDepth 20000 in
theorem km_hang {l : Launch} {D : va_G} {cl : List vw_C} {G : gAd} {post : MS → Prop} (hcl : mC cl) {σ : MS} {a1 : Int32} (h : wm_hang post σ a1) : mMet l D cl G yX13_hang cX13_hang 2 none 1 [.ref (G.1 0), .int a1] σ (qV post) := by
  unfold wm_hang at h
  refine m_enter hcl (by decide +kernel) rfl [(0, .ref (G.1 0)), (1, .int a1)] rfl (Nat.le_of_ble_eq_true rfl) ?_
  intro E hE hm hF
  have hN := hm.2.2.2.2.2.2.1
  refine r_aload_n hE 0 dX13_hang_g0.1 rfl rfl ?_
  refine mg_latest hE hm dX13_hang_g0.2.1 ?_
  refine r_aload_n hE 0 dX13_hang_g0.2.2.1 rfl rfl ?_
  refine mg_blocks hE hm dX13_hang_g0.2.2.2.1 ?_
  obtain ⟨hi, h⟩ := h
  refine ml_latest hE hm dX13_hang_g0.2.2.2.2.1 hi ?_
  refine r_if_lt hE 30 dX13_hang_g0.2.2.2.2.2.1 (by decide) h (fun h => ?_) (fun h => ?_)
  · refine r_aload_n hE 0 dX13_hang_g1.1 rfl rfl ?_
    refine mg_blocks hE hm dX13_hang_g1.2.1 ?_
    refine r_if_le hE 67 dX13_hang_g1.2.2.1 (by decide) h (fun h => ?_) (fun h => ?_)
    · exact km_hang_67 hE hm hF _ _ h
    · refine r_aload_n hE 0 dX13_hang_g1.2.2.2.1 rfl rfl ?_
      refine mg_isElse hE hm dX13_hang_g1.2.2.2.2.1 ?_
      refine r_aload_n hE 0 dX13_hang_g1.2.2.2.2.2.1 rfl rfl ?_
      refine mg_blocks hE hm dX13_hang_g1.2.2.2.2.2.2.1 ?_
      obtain ⟨hi, h⟩ := h
      refine ml_isElse hE hm dX13_hang_g1.2.2.2.2.2.2.2.1 hi ?_
      refine r_if_eq hE 67 dX13_hang_g1.2.2.2.2.2.2.2.2.1 (by decide) h (fun h => ?_) (fun h => ?_)
      · exact km_hang_67 hE hm hF _ _ h
      · refine r_aload_n hE 0 dX13_hang_g1.2.2.2.2.2.2.2.2.2.1 rfl rfl ?_
        refine mg_three hE hm dX13_hang_g1.2.2.2.2.2.2.2.2.2.2.1 ?_
        refine r_aload_n hE 0 dX13_hang_g1.2.2.2.2.2.2.2.2.2.2.2.1 rfl rfl ?_
        refine mg_owner hE hm dX13_hang_g1.2.2.2.2.2.2.2.2.2.2.2.2.1 ?_
        refine r_aload_n hE 0 dX13_hang_g1.2.2.2.2.2.2.2.2.2.2.2.2.2.1 rfl rfl ?_
        refine mg_blocks hE hm dX13_hang_g1.2.2.2.2.2.2.2.2.2.2.2.2.2.2.1 ?_
        obtain ⟨hi, h⟩ := h
        refine ml_owner hE hm dX13_hang_g1.2.2.2.2.2.2.2.2.2.2.2.2.2.2.2 hi ?_
        refine r_iload_n hE 1 dX13_hang_g2.1 rfl rfl ?_
        obtain ⟨hi, h⟩ := h
        refine ms_three hE hm dX13_hang_g2.2.1 hi h (fun s3 h => ?_)
        refine r_goto hE 89 dX13_hang_g2.2.2.1 (by decide) ?_
        exact km_hang_89 hE hm hF _ _ h
  · refine r_aload_n hE 0 dX13_hang_g0.2.2.2.2.2.2.1 rfl rfl ?_
    refine mg_sister hE hm dX13_hang_g0.2.2.2.2.2.2.2.1 ?_
    refine r_aload_n hE 0 dX13_hang_g0.2.2.2.2.2.2.2.2.1 rfl rfl ?_
    refine mg_latest hE hm dX13_hang_g0.2.2.2.2.2.2.2.2.2.1 ?_
    refine r_aload_n hE 0 dX13_hang_g0.2.2.2.2.2.2.2.2.2.2.1 rfl rfl ?_
    refine mg_blocks hE hm dX13_hang_g0.2.2.2.2.2.2.2.2.2.2.2.1 ?_
    obtain ⟨hi, h⟩ := h
    refine ml_latest hE hm dX13_hang_g0.2.2.2.2.2.2.2.2.2.2.2.2.1 hi ?_
    refine r_iload_n hE 1 dX13_hang_g0.2.2.2.2.2.2.2.2.2.2.2.2.2.1 rfl rfl ?_
    obtain ⟨hi, h⟩ := h
    refine ms_sister hE hm dX13_hang_g0.2.2.2.2.2.2.2.2.2.2.2.2.2.2.1 hi h (fun s4 h => ?_)
    refine r_goto hE 89 dX13_hang_g0.2.2.2.2.2.2.2.2.2.2.2.2.2.2.2 (by decide) ?_
    exact km_hang_89 hE hm hF _ _ h
/-! argue -/
def wm_argue_49 (post : MS → Prop) (σ : MS) (v1 : Int32) : Prop := vp_in v1 600 ∧ (∀ s1 : MS, s1 = m_waitLast_s σ v1.toNatClampNeg (m_operand σ) → vp_in v1 600 ∧ (vp_in v1 600 ∧ (∀ s2 : MS, s2 = m_waitMany_s s1 v1.toNatClampNeg ((m_waitMany s1 v1.toNatClampNeg) + (1 : Int32)) → post s2)))
set_option maxRecDepth 20000 in
theorem km_argue_49 {E : gEnv} {l : Launch} {D : va_G} {cl : List vw_C} {G : gAd} {post : MS → Prop} (hE : gOK E cX13_argue RX13 none 1) (hm : mOK E l D cl G (qV post) 2) (hF : gFin E) (σ : MS) (v1 : Int32) (h : wm_argue_49 post σ v1) : GW E (mW G σ) 49 [(0, .ref (G.1 0)), (1, .int v1)] [] := by
  unfold wm_argue_49 at h
  have hN := hm.2.2.2.2.2.2.1
  refine r_aload_n hE 0 dX13_argue_g1.2.2.2.2.2.2.2.2.2.2.2.2.2.1 rfl rfl ?_
  refine mg_waitLast hE hm dX13_argue_g1.2.2.2.2.2.2.2.2.2.2.2.2.2.2.1 ?_
  refine r_iload_n hE 1 dX13_argue_g1.2.2.2.2.2.2.2.2.2.2.2.2.2.2.2 rfl rfl ?_
  refine r_aload_n hE 0 dX13_argue_g2.1 rfl rfl ?_
  refine mg_operand hE hm dX13_argue_g2.2.1 ?_
  obtain ⟨hi, h⟩ := h
  refine ms_waitLast hE hm dX13_argue_g2.2.2.1 hi h (fun s1 h => ?_)
  refine r_aload_n hE 0 dX13_argue_g2.2.2.2.1 rfl rfl ?_
  refine mg_waitMany hE hm dX13_argue_g2.2.2.2.2.1 ?_
  refine r_iload_n hE 1 dX13_argue_g2.2.2.2.2.2.1 rfl rfl ?_
  refine r_dup2 hE dX13_argue_g2.2.2.2.2.2.2.1 rfl rfl ?_
  obtain ⟨hi, h⟩ := h
  refine ml_waitMany hE hm dX13_argue_g2.2.2.2.2.2.2.2.1 hi ?_
  refine r_iconst (v := (1 : Int32)) hE dX13_argue_g2.2.2.2.2.2.2.2.2.1 (by decide) ?_
  refine r_iadd hE dX13_argue_g2.2.2.2.2.2.2.2.2.2.1 ?_
  obtain ⟨hi, h⟩ := h
  refine ms_waitMany hE hm dX13_argue_g2.2.2.2.2.2.2.2.2.2.2.1 hi h (fun s2 h => ?_)
  exact m_vret hE hm hF dX13_argue_g2.2.2.2.2.2.2.2.2.2.2.2 h
def wm_argue (post : MS → Prop) (σ : MS) : Prop := ∀ x3 : Int32, x3 = (m_waiting σ) - (1 : Int32) → vp_in x3 600 ∧ ((((0 : Int32) ≤ (m_waitLast σ x3.toNatClampNeg)) → (vp_in x3 600 ∧ (vp_in (m_waitLast σ x3.toNatClampNeg) 600 ∧ (∀ s4 : MS, s4 = m_sister_s σ (m_waitLast σ x3.toNatClampNeg).toNatClampNeg (m_operand σ) → wm_argue_49 post s4 x3)))) ∧ ((¬ ((0 : Int32) ≤ (m_waitLast σ x3.toNatClampNeg))) → (vp_in x3 600 ∧ (vp_in (m_waitNode σ x3.toNatClampNeg) 600 ∧ (∀ s5 : MS, s5 = m_two_s σ (m_waitNode σ x3.toNatClampNeg).toNatClampNeg (m_operand σ) → wm_argue_49 post s5 x3)))))
set_option maxRecDepth 20000 in
theorem km_argue {l : Launch} {D : va_G} {cl : List vw_C} {G : gAd} {post : MS → Prop} (hcl : mC cl) {σ : MS} (h : wm_argue post σ) : mMet l D cl G yX13_argue cX13_argue 2 none 1 [.ref (G.1 0)] σ (qV post) := by
  unfold wm_argue at h
  refine m_enter hcl (by decide +kernel) rfl [(0, .ref (G.1 0))] rfl (Nat.le_of_ble_eq_true rfl) ?_
  intro E hE hm hF
  have hN := hm.2.2.2.2.2.2.1
  refine r_aload_n hE 0 dX13_argue_g0.1 rfl rfl ?_
  refine mg_waiting hE hm dX13_argue_g0.2.1 ?_
  refine r_iconst (v := (1 : Int32)) hE dX13_argue_g0.2.2.1 (by decide) ?_
  refine r_isub hE dX13_argue_g0.2.2.2.1 ?_
  refine r_topi h (fun x3 ex3 h => ?_)
  refine r_istore_n hE [(1, .int x3), (0, .ref (G.1 0))] dX13_argue_g0.2.2.2.2.1 rfl hN (by decide) rfl ?_
  refine r_aload_n hE 1 dX13_argue_g0.2.2.2.2.2.1 rfl rfl ?_
  refine mg_waitLast hE hm dX13_argue_g0.2.2.2.2.2.2.1 ?_
  refine r_iload_n hE 0 dX13_argue_g0.2.2.2.2.2.2.2.1 rfl rfl ?_
  obtain ⟨hi, h⟩ := h
  refine ml_waitLast hE hm dX13_argue_g0.2.2.2.2.2.2.2.2.1 hi ?_
  refine r_if_ge hE 34 dX13_argue_g0.2.2.2.2.2.2.2.2.2.1 (by decide) h (fun h => ?_) (fun h => ?_)
  · refine r_aload_n hE 1 dX13_argue_g1.2.2.2.2.1 rfl rfl ?_
    refine mg_sister hE hm dX13_argue_g1.2.2.2.2.2.1 ?_
    refine r_aload_n hE 1 dX13_argue_g1.2.2.2.2.2.2.1 rfl rfl ?_
    refine mg_waitLast hE hm dX13_argue_g1.2.2.2.2.2.2.2.1 ?_
    refine r_iload_n hE 0 dX13_argue_g1.2.2.2.2.2.2.2.2.1 rfl rfl ?_
    obtain ⟨hi, h⟩ := h
    refine ml_waitLast hE hm dX13_argue_g1.2.2.2.2.2.2.2.2.2.1 hi ?_
    refine r_aload_n hE 1 dX13_argue_g1.2.2.2.2.2.2.2.2.2.2.1 rfl rfl ?_
    refine mg_operand hE hm dX13_argue_g1.2.2.2.2.2.2.2.2.2.2.2.1 ?_
    obtain ⟨hi, h⟩ := h
    refine ms_sister hE hm dX13_argue_g1.2.2.2.2.2.2.2.2.2.2.2.2.1 hi h (fun s4 h => ?_)
    refine r_pick [1, 0] rfl ?_
    exact km_argue_49 hE hm hF _ _ h
  · refine r_aload_n hE 1 dX13_argue_g0.2.2.2.2.2.2.2.2.2.2.1 rfl rfl ?_
    refine mg_two hE hm dX13_argue_g0.2.2.2.2.2.2.2.2.2.2.2.1 ?_
    refine r_aload_n hE 1 dX13_argue_g0.2.2.2.2.2.2.2.2.2.2.2.2.1 rfl rfl ?_
    refine mg_waitNode hE hm dX13_argue_g0.2.2.2.2.2.2.2.2.2.2.2.2.2.1 ?_
    refine r_iload_n hE 0 dX13_argue_g0.2.2.2.2.2.2.2.2.2.2.2.2.2.2.1 rfl rfl ?_
    obtain ⟨hi, h⟩ := h
    refine ml_waitNode hE hm dX13_argue_g0.2.2.2.2.2.2.2.2.2.2.2.2.2.2.2 hi ?_
    refine r_aload_n hE 1 dX13_argue_g1.1 rfl rfl ?_
    refine mg_operand hE hm dX13_argue_g1.2.1 ?_
    obtain ⟨hi, h⟩ := h
    refine ms_two hE hm dX13_argue_g1.2.2.1 hi h (fun s5 h => ?_)
    refine r_goto hE 49 dX13_argue_g1.2.2.2.1 (by decide) ?_
    refine r_pick [1, 0] rfl ?_
    exact km_argue_49 hE hm hF _ _ h
/-! rankOf -/
def wm_rankOf_12 (post : MS → Int32 → Prop) (σ : MS) : Prop := post σ (1 : Int32)
set_option maxRecDepth 20000 in
theorem km_rankOf_12 {E : gEnv} {l : Launch} {D : va_G} {cl : List vw_C} {G : gAd} {post : MS → Int32 → Prop} (hE : gOK E cX13_rankOf RX13 (some .int) 1) (hm : mOK E l D cl G (qI post) 1) (hF : gFin E) (σ : MS) (h : wm_rankOf_12 post σ) : GW E (mW G σ) 12 [] [] := by
  unfold wm_rankOf_12 at h
  have hN := hm.2.2.2.2.2.2.1
  refine r_iconst (v := (1 : Int32)) hE dX13_rankOf_g0.2.2.2.2.2.2.1 (by decide) ?_
  refine r_goto hE 49 dX13_rankOf_g0.2.2.2.2.2.2.2.1 (by decide) ?_
  exact m_iret hE hm hF dX13_rankOf_g1.2.2.2.2.2.2.2.2.2 h
def wm_rankOf_28 (post : MS → Int32 → Prop) (σ : MS) : Prop := post σ (2 : Int32)
set_option maxRecDepth 20000 in
theorem km_rankOf_28 {E : gEnv} {l : Launch} {D : va_G} {cl : List vw_C} {G : gAd} {post : MS → Int32 → Prop} (hE : gOK E cX13_rankOf RX13 (some .int) 1) (hm : mOK E l D cl G (qI post) 1) (hF : gFin E) (σ : MS) (h : wm_rankOf_28 post σ) : GW E (mW G σ) 28 [] [] := by
  unfold wm_rankOf_28 at h
  have hN := hm.2.2.2.2.2.2.1
  refine r_iconst (v := (2 : Int32)) hE dX13_rankOf_g0.2.2.2.2.2.2.2.2.2.2.2.2.2.2.1 (by decide) ?_
  refine r_goto hE 49 dX13_rankOf_g0.2.2.2.2.2.2.2.2.2.2.2.2.2.2.2 (by decide) ?_
  exact m_iret hE hm hF dX13_rankOf_g1.2.2.2.2.2.2.2.2.2 h
def wm_rankOf_44 (post : MS → Int32 → Prop) (σ : MS) : Prop := post σ (3 : Int32)
set_option maxRecDepth 20000 in
theorem km_rankOf_44 {E : gEnv} {l : Launch} {D : va_G} {cl : List vw_C} {G : gAd} {post : MS → Int32 → Prop} (hE : gOK E cX13_rankOf RX13 (some .int) 1) (hm : mOK E l D cl G (qI post) 1) (hF : gFin E) (σ : MS) (h : wm_rankOf_44 post σ) : GW E (mW G σ) 44 [] [] := by
  unfold wm_rankOf_44 at h
  have hN := hm.2.2.2.2.2.2.1
  refine r_iconst (v := (3 : Int32)) hE dX13_rankOf_g1.2.2.2.2.2.2.1 (by decide) ?_
  refine r_goto hE 49 dX13_rankOf_g1.2.2.2.2.2.2.2.1 (by decide) ?_
  exact m_iret hE hm hF dX13_rankOf_g1.2.2.2.2.2.2.2.2.2 h
def wm_rankOf (post : MS → Int32 → Prop) (σ : MS) (a0 : Int32) : Prop := ((a0 = (61 : Int32)) → (wm_rankOf_12 post σ)) ∧ ((¬ (a0 = (61 : Int32))) → (((¬ (a0 = (60 : Int32))) → (((a0 = (43 : Int32)) → (wm_rankOf_28 post σ)) ∧ ((¬ (a0 = (43 : Int32))) → (((¬ (a0 = (45 : Int32))) → (((a0 = (42 : Int32)) → (wm_rankOf_44 post σ)) ∧ ((¬ (a0 = (42 : Int32))) → (((¬ (a0 = (47 : Int32))) → (post σ (0 : Int32))) ∧ ((a0 = (47 : Int32)) → (wm_rankOf_44 post σ)))))) ∧ ((a0 = (45 : Int32)) → (wm_rankOf_28 post σ)))))) ∧ ((a0 = (60 : Int32)) → (wm_rankOf_12 post σ))))
set_option maxRecDepth 20000 in
theorem km_rankOf {l : Launch} {D : va_G} {cl : List vw_C} {G : gAd} {post : MS → Int32 → Prop} (hcl : mC cl) {σ : MS} {a0 : Int32} (h : wm_rankOf post σ a0) : mMet l D cl G yX13_rankOf cX13_rankOf 1 (some .int) 1 [.int a0] σ (qI post) := by
  unfold wm_rankOf at h
  refine m_enter hcl (by decide +kernel) rfl [(0, .int a0)] rfl (Nat.le_of_ble_eq_true rfl) ?_
  intro E hE hm hF
  have hN := hm.2.2.2.2.2.2.1
  refine r_iload_n hE 0 dX13_rankOf_g0.1 rfl rfl ?_
  refine r_bipush (v := (61 : Int32)) hE dX13_rankOf_g0.2.1 (by decide) ?_
  refine r_icmp_eq hE 12 dX13_rankOf_g0.2.2.1 (by decide) h (fun h => ?_) (fun h => ?_)
  · refine r_pick [] rfl ?_
    exact km_rankOf_12 hE hm hF _ h
  · refine r_iload_n hE 0 dX13_rankOf_g0.2.2.2.1 rfl rfl ?_
    refine r_bipush (v := (60 : Int32)) hE dX13_rankOf_g0.2.2.2.2.1 (by decide) ?_
    refine r_icmp_ne hE 16 dX13_rankOf_g0.2.2.2.2.2.1 (by decide) h (fun h => ?_) (fun h => ?_)
    · refine r_iload_n hE 0 dX13_rankOf_g0.2.2.2.2.2.2.2.2.1 rfl rfl ?_
      refine r_bipush (v := (43 : Int32)) hE dX13_rankOf_g0.2.2.2.2.2.2.2.2.2.1 (by decide) ?_
      refine r_icmp_eq hE 28 dX13_rankOf_g0.2.2.2.2.2.2.2.2.2.2.1 (by decide) h (fun h => ?_) (fun h => ?_)
      · refine r_pick [] rfl ?_
        exact km_rankOf_28 hE hm hF _ h
      · refine r_iload_n hE 0 dX13_rankOf_g0.2.2.2.2.2.2.2.2.2.2.2.1 rfl rfl ?_
        refine r_bipush (v := (45 : Int32)) hE dX13_rankOf_g0.2.2.2.2.2.2.2.2.2.2.2.2.1 (by decide) ?_
        refine r_icmp_ne hE 32 dX13_rankOf_g0.2.2.2.2.2.2.2.2.2.2.2.2.2.1 (by decide) h (fun h => ?_) (fun h => ?_)
        · refine r_iload_n hE 0 dX13_rankOf_g1.1 rfl rfl ?_
          refine r_bipush (v := (42 : Int32)) hE dX13_rankOf_g1.2.1 (by decide) ?_
          refine r_icmp_eq hE 44 dX13_rankOf_g1.2.2.1 (by decide) h (fun h => ?_) (fun h => ?_)
          · refine r_pick [] rfl ?_
            exact km_rankOf_44 hE hm hF _ h
          · refine r_iload_n hE 0 dX13_rankOf_g1.2.2.2.1 rfl rfl ?_
            refine r_bipush (v := (47 : Int32)) hE dX13_rankOf_g1.2.2.2.2.1 (by decide) ?_
            refine r_icmp_ne hE 48 dX13_rankOf_g1.2.2.2.2.2.1 (by decide) h (fun h => ?_) (fun h => ?_)
            · refine r_iconst (v := (0 : Int32)) hE dX13_rankOf_g1.2.2.2.2.2.2.2.2.1 (by decide) ?_
              exact m_iret hE hm hF dX13_rankOf_g1.2.2.2.2.2.2.2.2.2 h
            · refine r_pick [] rfl ?_
              exact km_rankOf_44 hE hm hF _ h
        · refine r_pick [] rfl ?_
          exact km_rankOf_28 hE hm hF _ h
    · refine r_pick [] rfl ?_
      exact km_rankOf_12 hE hm hF _ h
/-! close -/
def wm_close_0 (post : MS → Prop) : Nat → MS → Int32 → Prop
  | 0, _, _ => False
  | n + 1, σ, v1 => vp_in ((m_waiting σ) - (1 : Int32)) 600 ∧ (((¬ ((m_waits σ ((m_waiting σ) - (1 : Int32)).toNatClampNeg) = (1 : Int32))) → (post σ)) ∧ (((m_waits σ ((m_waiting σ) - (1 : Int32)).toNatClampNeg) = (1 : Int32)) → (vp_in ((m_waiting σ) - (1 : Int32)) 600 ∧ (vp_in (m_waitNode σ ((m_waiting σ) - (1 : Int32)).toNatClampNeg) 600 ∧ (wm_rankOf (fun (s1 : MS) (r2 : Int32) => ((r2 < v1) → (post s1)) ∧ ((¬ (r2 < v1)) → (∀ s3 : MS, s3 = m_waiting_s s1 ((m_waiting s1) - (1 : Int32)) → vp_in (m_waiting s3) 600 ∧ (vp_in (m_waitNode s3 (m_waiting s3).toNatClampNeg) 600 ∧ (∀ s4 : MS, s4 = m_three_s s3 (m_waitNode s3 (m_waiting s3).toNatClampNeg).toNatClampNeg (m_operand s3) → vp_in (m_waiting s4) 600 ∧ (∀ s5 : MS, s5 = m_operand_s s4 (m_waitNode s4 (m_waiting s4).toNatClampNeg) → wm_close_0 post n s5 v1)))))) σ (m_one σ (m_waitNode σ ((m_waiting σ) - (1 : Int32)).toNatClampNeg).toNatClampNeg))))))
set_option maxRecDepth 20000 in
theorem km_close_0 {E : gEnv} {l : Launch} {D : va_G} {cl : List vw_C} {G : gAd} {post : MS → Prop} (hE : gOK E cX13_close RX13 none 2) (hm : mOK E l D cl G (qV post) 2) (hF : gFin E) : ∀ (n : Nat) (σ : MS) (v1 : Int32), wm_close_0 post n σ v1 → GW E (mW G σ) 0 [(0, .ref (G.1 0)), (1, .int v1)] [] := by
  intro n
  induction n with
  | zero => intro σ v1 h; exact h.elim
  | succ n ih =>
    intro σ v1 h
    rw [wm_close_0] at h
    have hN := hm.2.2.2.2.2.2.1
    refine r_aload_n hE 0 dX13_close_g0.1 rfl rfl ?_
    refine mg_waits hE hm dX13_close_g0.2.1 ?_
    refine r_aload_n hE 0 dX13_close_g0.2.2.1 rfl rfl ?_
    refine mg_waiting hE hm dX13_close_g0.2.2.2.1 ?_
    refine r_iconst (v := (1 : Int32)) hE dX13_close_g0.2.2.2.2.1 (by decide) ?_
    refine r_isub hE dX13_close_g0.2.2.2.2.2.1 ?_
    obtain ⟨hi, h⟩ := h
    refine ml_waits hE hm dX13_close_g0.2.2.2.2.2.2.1 hi ?_
    refine r_iconst (v := (1 : Int32)) hE dX13_close_g0.2.2.2.2.2.2.2.1 (by decide) ?_
    refine r_icmp_ne hE 82 dX13_close_g0.2.2.2.2.2.2.2.2.1 (by decide) h (fun h => ?_) (fun h => ?_)
    · exact m_vret hE hm hF dX13_close_g2.2.2.2.2.2.2.2.2.2.2.2.2.2.2 h
    · refine r_aload_n hE 0 dX13_close_g0.2.2.2.2.2.2.2.2.2.1 rfl rfl ?_
      refine mg_one hE hm dX13_close_g0.2.2.2.2.2.2.2.2.2.2.1 ?_
      refine r_aload_n hE 0 dX13_close_g0.2.2.2.2.2.2.2.2.2.2.2.1 rfl rfl ?_
      refine mg_waitNode hE hm dX13_close_g0.2.2.2.2.2.2.2.2.2.2.2.2.1 ?_
      refine r_aload_n hE 0 dX13_close_g0.2.2.2.2.2.2.2.2.2.2.2.2.2.1 rfl rfl ?_
      refine mg_waiting hE hm dX13_close_g0.2.2.2.2.2.2.2.2.2.2.2.2.2.2.1 ?_
      refine r_iconst (v := (1 : Int32)) hE dX13_close_g0.2.2.2.2.2.2.2.2.2.2.2.2.2.2.2 (by decide) ?_
      refine r_isub hE dX13_close_g1.1 ?_
      obtain ⟨hi, h⟩ := h
      refine ml_waitNode hE hm dX13_close_g1.2.1 hi ?_
      obtain ⟨hi, h⟩ := h
      refine ml_one hE hm dX13_close_g1.2.2.1 hi ?_
      refine m_callSi hE hm [.int (m_one σ (m_waitNode σ ((m_waiting σ) - (1 : Int32)).toNatClampNeg).toNatClampNeg)] [] mc_rankOf (km_rankOf hm.2.2.2.2.2.2.2.2 h) (by decide) rfl rfl (Nat.le_of_ble_eq_true rfl) dX13_close_g1.2.2.2.1 (fun s1 r2 h => ?_)
      refine r_iload_n hE 1 dX13_close_g1.2.2.2.2.1 rfl rfl ?_
      refine r_icmp_lt hE 82 dX13_close_g1.2.2.2.2.2.1 (by decide) h (fun h => ?_) (fun h => ?_)
      · exact m_vret hE hm hF dX13_close_g2.2.2.2.2.2.2.2.2.2.2.2.2.2.2 h
      · refine r_aload_n hE 0 dX13_close_g1.2.2.2.2.2.2.1 rfl rfl ?_
        refine r_dup hE dX13_close_g1.2.2.2.2.2.2.2.1 rfl ?_
        refine mg_waiting hE hm dX13_close_g1.2.2.2.2.2.2.2.2.1 ?_
        refine r_iconst (v := (1 : Int32)) hE dX13_close_g1.2.2.2.2.2.2.2.2.2.1 (by decide) ?_
        refine r_isub hE dX13_close_g1.2.2.2.2.2.2.2.2.2.2.1 ?_
        refine mp_waiting hE hm dX13_close_g1.2.2.2.2.2.2.2.2.2.2.2.1 h (fun s3 h => ?_)
        refine r_aload_n hE 0 dX13_close_g1.2.2.2.2.2.2.2.2.2.2.2.2.1 rfl rfl ?_
        refine mg_three hE hm dX13_close_g1.2.2.2.2.2.2.2.2.2.2.2.2.2.1 ?_
        refine r_aload_n hE 0 dX13_close_g1.2.2.2.2.2.2.2.2.2.2.2.2.2.2.1 rfl rfl ?_
        refine mg_waitNode hE hm dX13_close_g1.2.2.2.2.2.2.2.2.2.2.2.2.2.2.2 ?_
        refine r_aload_n hE 0 dX13_close_g2.1 rfl rfl ?_
        refine mg_waiting hE hm dX13_close_g2.2.1 ?_
        obtain ⟨hi, h⟩ := h
        refine ml_waitNode hE hm dX13_close_g2.2.2.1 hi ?_
        refine r_aload_n hE 0 dX13_close_g2.2.2.2.1 rfl rfl ?_
        refine mg_operand hE hm dX13_close_g2.2.2.2.2.1 ?_
        obtain ⟨hi, h⟩ := h
        refine ms_three hE hm dX13_close_g2.2.2.2.2.2.1 hi h (fun s4 h => ?_)
        refine r_aload_n hE 0 dX13_close_g2.2.2.2.2.2.2.1 rfl rfl ?_
        refine r_aload_n hE 0 dX13_close_g2.2.2.2.2.2.2.2.1 rfl rfl ?_
        refine mg_waitNode hE hm dX13_close_g2.2.2.2.2.2.2.2.2.1 ?_
        refine r_aload_n hE 0 dX13_close_g2.2.2.2.2.2.2.2.2.2.1 rfl rfl ?_
        refine mg_waiting hE hm dX13_close_g2.2.2.2.2.2.2.2.2.2.2.1 ?_
        obtain ⟨hi, h⟩ := h
        refine ml_waitNode hE hm dX13_close_g2.2.2.2.2.2.2.2.2.2.2.2.1 hi ?_
        refine mp_operand hE hm dX13_close_g2.2.2.2.2.2.2.2.2.2.2.2.2.1 h (fun s5 h => ?_)
        refine r_goto hE 0 dX13_close_g2.2.2.2.2.2.2.2.2.2.2.2.2.2.1 (by decide) ?_
        exact ih _ _ h
def wm_close (post : MS → Prop) (σ : MS) (a1 : Int32) : Prop := ∃ k : Nat, wm_close_0 post k σ a1
set_option maxRecDepth 20000 in
theorem km_close {l : Launch} {D : va_G} {cl : List vw_C} {G : gAd} {post : MS → Prop} (hcl : mC cl) {σ : MS} {a1 : Int32} (h : wm_close post σ a1) : mMet l D cl G yX13_close cX13_close 2 none 2 [.ref (G.1 0), .int a1] σ (qV post) := by
  unfold wm_close at h
  refine m_enter hcl (by decide +kernel) rfl [(0, .ref (G.1 0)), (1, .int a1)] rfl (Nat.le_of_ble_eq_true rfl) ?_
  intro E hE hm hF
  have hN := hm.2.2.2.2.2.2.1
  obtain ⟨k, h⟩ := h
  exact km_close_0 hE hm hF k _ _ h
/-! stand -/
def wm_stand_5 (post : MS → Prop) : Nat → MS → Prop
  | 0, _ => False
  | n + 1, σ => vp_in ((m_waiting σ) - (1 : Int32)) 600 ∧ (((¬ ((m_waits σ ((m_waiting σ) - (1 : Int32)).toNatClampNeg) = (2 : Int32))) → (∀ s1 : MS, s1 = m_wants_s σ (0 : Int32) → post s1)) ∧ (((m_waits σ ((m_waiting σ) - (1 : Int32)).toNatClampNeg) = (2 : Int32)) → (∀ s2 : MS, s2 = m_waiting_s σ ((m_waiting σ) - (1 : Int32)) → vp_in (m_waiting s2) 600 ∧ (vp_in (m_waitNode s2 (m_waiting s2).toNatClampNeg) 600 ∧ (∀ s3 : MS, s3 = m_one_s s2 (m_waitNode s2 (m_waiting s2).toNatClampNeg).toNatClampNeg (m_operand s2) → vp_in (m_waiting s3) 600 ∧ (∀ s4 : MS, s4 = m_operand_s s3 (m_waitNode s3 (m_waiting s3).toNatClampNeg) → wm_stand_5 post n s4))))))
set_option maxRecDepth 20000 in
theorem km_stand_5 {E : gEnv} {l : Launch} {D : va_G} {cl : List vw_C} {G : gAd} {post : MS → Prop} (hE : gOK E cX13_stand RX13 none 1) (hm : mOK E l D cl G (qV post) 2) (hF : gFin E) : ∀ (n : Nat) (σ : MS), wm_stand_5 post n σ → GW E (mW G σ) 5 [(0, .ref (G.1 0))] [] := by
  intro n
  induction n with
  | zero => intro σ h; exact h.elim
  | succ n ih =>
    intro σ h
    rw [wm_stand_5] at h
    have hN := hm.2.2.2.2.2.2.1
    refine r_aload_n hE 0 dX13_stand_g0.2.2.2.1 rfl rfl ?_
    refine mg_waits hE hm dX13_stand_g0.2.2.2.2.1 ?_
    refine r_aload_n hE 0 dX13_stand_g0.2.2.2.2.2.1 rfl rfl ?_
    refine mg_waiting hE hm dX13_stand_g0.2.2.2.2.2.2.1 ?_
    refine r_iconst (v := (1 : Int32)) hE dX13_stand_g0.2.2.2.2.2.2.2.1 (by decide) ?_
    refine r_isub hE dX13_stand_g0.2.2.2.2.2.2.2.2.1 ?_
    obtain ⟨hi, h⟩ := h
    refine ml_waits hE hm dX13_stand_g0.2.2.2.2.2.2.2.2.2.1 hi ?_
    refine r_iconst (v := (2 : Int32)) hE dX13_stand_g0.2.2.2.2.2.2.2.2.2.2.1 (by decide) ?_
    refine r_icmp_ne hE 64 dX13_stand_g0.2.2.2.2.2.2.2.2.2.2.2.1 (by decide) h (fun h => ?_) (fun h => ?_)
    · refine r_aload_n hE 0 dX13_stand_g2.2.2.2.2.1 rfl rfl ?_
      refine r_iconst (v := (0 : Int32)) hE dX13_stand_g2.2.2.2.2.2.1 (by decide) ?_
      refine mp_wants hE hm dX13_stand_g2.2.2.2.2.2.2.1 (Or.inl rfl) h (fun s1 h => ?_)
      exact m_vret hE hm hF dX13_stand_g2.2.2.2.2.2.2.2 h
    · refine r_aload_n hE 0 dX13_stand_g0.2.2.2.2.2.2.2.2.2.2.2.2.1 rfl rfl ?_
      refine r_dup hE dX13_stand_g0.2.2.2.2.2.2.2.2.2.2.2.2.2.1 rfl ?_
      refine mg_waiting hE hm dX13_stand_g0.2.2.2.2.2.2.2.2.2.2.2.2.2.2.1 ?_
      refine r_iconst (v := (1 : Int32)) hE dX13_stand_g0.2.2.2.2.2.2.2.2.2.2.2.2.2.2.2 (by decide) ?_
      refine r_isub hE dX13_stand_g1.1 ?_
      refine mp_waiting hE hm dX13_stand_g1.2.1 h (fun s2 h => ?_)
      refine r_aload_n hE 0 dX13_stand_g1.2.2.1 rfl rfl ?_
      refine mg_one hE hm dX13_stand_g1.2.2.2.1 ?_
      refine r_aload_n hE 0 dX13_stand_g1.2.2.2.2.1 rfl rfl ?_
      refine mg_waitNode hE hm dX13_stand_g1.2.2.2.2.2.1 ?_
      refine r_aload_n hE 0 dX13_stand_g1.2.2.2.2.2.2.1 rfl rfl ?_
      refine mg_waiting hE hm dX13_stand_g1.2.2.2.2.2.2.2.1 ?_
      obtain ⟨hi, h⟩ := h
      refine ml_waitNode hE hm dX13_stand_g1.2.2.2.2.2.2.2.2.1 hi ?_
      refine r_aload_n hE 0 dX13_stand_g1.2.2.2.2.2.2.2.2.2.1 rfl rfl ?_
      refine mg_operand hE hm dX13_stand_g1.2.2.2.2.2.2.2.2.2.2.1 ?_
      obtain ⟨hi, h⟩ := h
      refine ms_one hE hm dX13_stand_g1.2.2.2.2.2.2.2.2.2.2.2.1 hi h (fun s3 h => ?_)
      refine r_aload_n hE 0 dX13_stand_g1.2.2.2.2.2.2.2.2.2.2.2.2.1 rfl rfl ?_
      refine r_aload_n hE 0 dX13_stand_g1.2.2.2.2.2.2.2.2.2.2.2.2.2.1 rfl rfl ?_
      refine mg_waitNode hE hm dX13_stand_g1.2.2.2.2.2.2.2.2.2.2.2.2.2.2.1 ?_
      refine r_aload_n hE 0 dX13_stand_g1.2.2.2.2.2.2.2.2.2.2.2.2.2.2.2 rfl rfl ?_
      refine mg_waiting hE hm dX13_stand_g2.1 ?_
      obtain ⟨hi, h⟩ := h
      refine ml_waitNode hE hm dX13_stand_g2.2.1 hi ?_
      refine mp_operand hE hm dX13_stand_g2.2.2.1 h (fun s4 h => ?_)
      refine r_goto hE 5 dX13_stand_g2.2.2.2.1 (by decide) ?_
      exact ih _ h
def wm_stand (post : MS → Prop) (σ : MS) (a1 : Int32) : Prop := ∀ s5 : MS, s5 = m_operand_s σ a1 → ∃ k : Nat, wm_stand_5 post k s5
set_option maxRecDepth 20000 in
theorem km_stand {l : Launch} {D : va_G} {cl : List vw_C} {G : gAd} {post : MS → Prop} (hcl : mC cl) {σ : MS} {a1 : Int32} (h : wm_stand post σ a1) : mMet l D cl G yX13_stand cX13_stand 2 none 1 [.ref (G.1 0), .int a1] σ (qV post) := by
  unfold wm_stand at h
  refine m_enter hcl (by decide +kernel) rfl [(0, .ref (G.1 0)), (1, .int a1)] rfl (Nat.le_of_ble_eq_true rfl) ?_
  intro E hE hm hF
  have hN := hm.2.2.2.2.2.2.1
  refine r_aload_n hE 0 dX13_stand_g0.1 rfl rfl ?_
  refine r_iload_n hE 1 dX13_stand_g0.2.1 rfl rfl ?_
  refine mp_operand hE hm dX13_stand_g0.2.2.1 h (fun s5 h => ?_)
  refine r_pick [0] rfl ?_
  obtain ⟨k, h⟩ := h
  exact km_stand_5 hE hm hF k _ h
/-! wantedBy -/
def wm_wantedBy (post : MS → Int32 → Prop) (σ : MS) (a0 : Int32) : Prop := (((13 : Int32) ≤ a0) → ((((35 : Int32) ≤ a0) → (post σ (3 : Int32))) ∧ ((¬ ((35 : Int32) ≤ a0)) → (post σ (2 : Int32))))) ∧ ((¬ ((13 : Int32) ≤ a0)) → (post σ (1 : Int32)))
set_option maxRecDepth 20000 in
theorem km_wantedBy {l : Launch} {D : va_G} {cl : List vw_C} {G : gAd} {post : MS → Int32 → Prop} (hcl : mC cl) {σ : MS} {a0 : Int32} (h : wm_wantedBy post σ a0) : mMet l D cl G yX13_wantedBy cX13_wantedBy 1 (some .int) 1 [.int a0] σ (qI post) := by
  unfold wm_wantedBy at h
  refine m_enter hcl (by decide +kernel) rfl [(0, .int a0)] rfl (Nat.le_of_ble_eq_true rfl) ?_
  intro E hE hm hF
  have hN := hm.2.2.2.2.2.2.1
  refine r_iload_n hE 0 dX13_wantedBy_g0.1 rfl rfl ?_
  refine r_bipush (v := (13 : Int32)) hE dX13_wantedBy_g0.2.1 (by decide) ?_
  refine r_icmp_ge hE 10 dX13_wantedBy_g0.2.2.1 (by decide) h (fun h => ?_) (fun h => ?_)
  · refine r_iload_n hE 0 dX13_wantedBy_g0.2.2.2.2.2.1 rfl rfl ?_
    refine r_bipush (v := (35 : Int32)) hE dX13_wantedBy_g0.2.2.2.2.2.2.1 (by decide) ?_
    refine r_icmp_ge hE 20 dX13_wantedBy_g0.2.2.2.2.2.2.2.1 (by decide) h (fun h => ?_) (fun h => ?_)
    · refine r_iconst (v := (3 : Int32)) hE dX13_wantedBy_g0.2.2.2.2.2.2.2.2.2.2.1 (by decide) ?_
      exact m_iret hE hm hF dX13_wantedBy_g0.2.2.2.2.2.2.2.2.2.2.2 h
    · refine r_iconst (v := (2 : Int32)) hE dX13_wantedBy_g0.2.2.2.2.2.2.2.2.1 (by decide) ?_
      refine r_goto hE 21 dX13_wantedBy_g0.2.2.2.2.2.2.2.2.2.1 (by decide) ?_
      exact m_iret hE hm hF dX13_wantedBy_g0.2.2.2.2.2.2.2.2.2.2.2 h
  · refine r_iconst (v := (1 : Int32)) hE dX13_wantedBy_g0.2.2.2.1 (by decide) ?_
    refine r_goto hE 21 dX13_wantedBy_g0.2.2.2.2.1 (by decide) ?_
    exact m_iret hE hm hF dX13_wantedBy_g0.2.2.2.2.2.2.2.2.2.2.2 h
/-! endCall -/
def wm_endCall_99 (post : MS → Prop) (σ : MS) (v1 : Int32) : Prop := wm_stand (fun (s1 : MS) => post s1) σ v1
set_option maxRecDepth 20000 in
theorem km_endCall_99 {E : gEnv} {l : Launch} {D : va_G} {cl : List vw_C} {G : gAd} {post : MS → Prop} (hE : gOK E cX13_endCall RX13 none 7) (hm : mOK E l D cl G (qV post) 3) (hF : gFin E) (σ : MS) (v1 : Int32) (h : wm_endCall_99 post σ v1) : GW E (mW G σ) 99 [(0, .ref (G.1 0)), (1, .int v1)] [] := by
  unfold wm_endCall_99 at h
  have hN := hm.2.2.2.2.2.2.1
  refine r_aload_n hE 0 dX13_endCall_g3.2.2.2.2.2.2.2.2.1 rfl rfl ?_
  refine r_iload_n hE 1 dX13_endCall_g3.2.2.2.2.2.2.2.2.2.1 rfl rfl ?_
  refine m_callVv hE hm [.int v1] [] mc_stand (km_stand hm.2.2.2.2.2.2.2.2 h) (by decide) rfl rfl (Nat.le_of_ble_eq_true rfl) dX13_endCall_g3.2.2.2.2.2.2.2.2.2.2.1 (fun s1 h => ?_)
  exact m_vret hE hm hF dX13_endCall_g3.2.2.2.2.2.2.2.2.2.2.2 h
def wm_endCall_84 (post : MS → Prop) (σ : MS) (v1 : Int32) (t0 : Int32) (t1 : Int32) : Prop := ((t0 = t1) → (wm_endCall_99 post σ v1)) ∧ ((¬ (t0 = t1)) → (vp_in v1 600 ∧ (wm_wrong (fun (s2 : MS) => wm_endCall_99 post s2 v1) σ (6 : Int32) (m_byteOf σ v1.toNatClampNeg))))
set_option maxRecDepth 20000 in
theorem km_endCall_84 {E : gEnv} {l : Launch} {D : va_G} {cl : List vw_C} {G : gAd} {post : MS → Prop} (hE : gOK E cX13_endCall RX13 none 7) (hm : mOK E l D cl G (qV post) 3) (hF : gFin E) (σ : MS) (v1 : Int32) (t0 : Int32) (t1 : Int32) (h : wm_endCall_84 post σ v1 t0 t1) : GW E (mW G σ) 84 [(0, .ref (G.1 0)), (1, .int v1)] [.int t1, .int t0] := by
  unfold wm_endCall_84 at h
  have hN := hm.2.2.2.2.2.2.1
  refine r_icmp_eq hE 99 dX13_endCall_g3.1 (by decide) h (fun h => ?_) (fun h => ?_)
  · exact km_endCall_99 hE hm hF _ _ h
  · refine r_aload_n hE 0 dX13_endCall_g3.2.1 rfl rfl ?_
    refine r_bipush (v := (6 : Int32)) hE dX13_endCall_g3.2.2.1 (by decide) ?_
    refine r_aload_n hE 0 dX13_endCall_g3.2.2.2.1 rfl rfl ?_
    refine mg_byteOf hE hm dX13_endCall_g3.2.2.2.2.1 ?_
    refine r_iload_n hE 1 dX13_endCall_g3.2.2.2.2.2.1 rfl rfl ?_
    obtain ⟨hi, h⟩ := h
    refine ml_byteOf hE hm dX13_endCall_g3.2.2.2.2.2.2.1 hi ?_
    refine m_callVv hE hm [.int (6 : Int32), .int (m_byteOf σ v1.toNatClampNeg)] [] mc_wrong (km_wrong hm.2.2.2.2.2.2.2.2 h) (by decide) rfl rfl (Nat.le_of_ble_eq_true rfl) dX13_endCall_g3.2.2.2.2.2.2.2.1 (fun s2 h => ?_)
    exact km_endCall_99 hE hm hF _ _ h
def wm_endCall (post : MS → Prop) (σ : MS) : Prop := ∀ s3 : MS, s3 = m_waiting_s σ ((m_waiting σ) - (1 : Int32)) → vp_in (m_waiting s3) 600 ∧ (∀ x4 : Int32, x4 = m_waitNode s3 (m_waiting s3).toNatClampNeg → vp_in (m_waiting s3) 600 ∧ (∀ x5 : Int32, x5 = m_waitMany s3 (m_waiting s3).toNatClampNeg → wm_shut (fun (s6 : MS) => wm_fine (fun (s7 : MS) (r8 : Int32) => ((r8 = (0 : Int32)) → (wm_endCall_99 post s7 x4)) ∧ ((¬ (r8 = (0 : Int32))) → (vp_in x4 600 ∧ ((((100 : Int32) ≤ (m_one s7 x4.toNatClampNeg)) → (vp_in x4 600 ∧ (vp_in (((13 : Int32) + (m_one s7 x4.toNatClampNeg)) - (100 : Int32)) 26 ∧ (wm_endCall_84 post s7 x4 x5 (m_paramMany s7 (((13 : Int32) + (m_one s7 x4.toNatClampNeg)) - (100 : Int32)).toNatClampNeg))))) ∧ ((¬ ((100 : Int32) ≤ (m_one s7 x4.toNatClampNeg))) → (vp_in x4 600 ∧ (wm_wantedBy (fun (s9 : MS) (r10 : Int32) => wm_endCall_84 post s9 x4 x5 r10) s7 (m_one s7 x4.toNatClampNeg)))))))) s6) s3 (41 : Int32)))
set_option maxRecDepth 20000 in
theorem km_endCall {l : Launch} {D : va_G} {cl : List vw_C} {G : gAd} {post : MS → Prop} (hcl : mC cl) {σ : MS} (h : wm_endCall post σ) : mMet l D cl G yX13_endCall cX13_endCall 3 none 7 [.ref (G.1 0)] σ (qV post) := by
  unfold wm_endCall at h
  refine m_enter hcl (by decide +kernel) rfl [(0, .ref (G.1 0))] rfl (Nat.le_of_ble_eq_true rfl) ?_
  intro E hE hm hF
  have hN := hm.2.2.2.2.2.2.1
  refine r_aload_n hE 0 dX13_endCall_g0.1 rfl rfl ?_
  refine r_dup hE dX13_endCall_g0.2.1 rfl ?_
  refine mg_waiting hE hm dX13_endCall_g0.2.2.1 ?_
  refine r_iconst (v := (1 : Int32)) hE dX13_endCall_g0.2.2.2.1 (by decide) ?_
  refine r_isub hE dX13_endCall_g0.2.2.2.2.1 ?_
  refine mp_waiting hE hm dX13_endCall_g0.2.2.2.2.2.1 h (fun s3 h => ?_)
  refine r_aload_n hE 0 dX13_endCall_g0.2.2.2.2.2.2.1 rfl rfl ?_
  refine mg_waitNode hE hm dX13_endCall_g0.2.2.2.2.2.2.2.1 ?_
  refine r_aload_n hE 0 dX13_endCall_g0.2.2.2.2.2.2.2.2.1 rfl rfl ?_
  refine mg_waiting hE hm dX13_endCall_g0.2.2.2.2.2.2.2.2.2.1 ?_
  obtain ⟨hi, h⟩ := h
  refine ml_waitNode hE hm dX13_endCall_g0.2.2.2.2.2.2.2.2.2.2.1 hi ?_
  refine r_topi h (fun x4 ex4 h => ?_)
  refine r_istore_n hE [(1, .int x4), (0, .ref (G.1 0))] dX13_endCall_g0.2.2.2.2.2.2.2.2.2.2.2.1 rfl hN (by decide) rfl ?_
  refine r_aload_n hE 1 dX13_endCall_g0.2.2.2.2.2.2.2.2.2.2.2.2.1 rfl rfl ?_
  refine mg_waitMany hE hm dX13_endCall_g0.2.2.2.2.2.2.2.2.2.2.2.2.2.1 ?_
  refine r_aload_n hE 1 dX13_endCall_g0.2.2.2.2.2.2.2.2.2.2.2.2.2.2.1 rfl rfl ?_
  refine mg_waiting hE hm dX13_endCall_g0.2.2.2.2.2.2.2.2.2.2.2.2.2.2.2 ?_
  obtain ⟨hi, h⟩ := h
  refine ml_waitMany hE hm dX13_endCall_g1.1 hi ?_
  refine r_topi h (fun x5 ex5 h => ?_)
  refine r_istore_n hE [(2, .int x5), (1, .int x4), (0, .ref (G.1 0))] dX13_endCall_g1.2.1 rfl hN (by decide) rfl ?_
  refine r_aload_n hE 2 dX13_endCall_g1.2.2.1 rfl rfl ?_
  refine r_bipush (v := (41 : Int32)) hE dX13_endCall_g1.2.2.2.1 (by decide) ?_
  refine m_callVv hE hm [.int (41 : Int32)] [] mc_shut (km_shut hm.2.2.2.2.2.2.2.2 h) (by decide) rfl rfl (Nat.le_of_ble_eq_true rfl) dX13_endCall_g1.2.2.2.2.1 (fun s6 h => ?_)
  refine r_aload_n hE 2 dX13_endCall_g1.2.2.2.2.2.1 rfl rfl ?_
  refine m_callVi hE hm [] [] mc_fine (km_fine hm.2.2.2.2.2.2.2.2 h) (by decide) rfl rfl (Nat.le_of_ble_eq_true rfl) dX13_endCall_g1.2.2.2.2.2.2.1 (fun s7 r8 h => ?_)
  refine r_if_eq hE 99 dX13_endCall_g1.2.2.2.2.2.2.2.1 (by decide) h (fun h => ?_) (fun h => ?_)
  · refine r_pick [2, 1] rfl ?_
    exact km_endCall_99 hE hm hF _ _ h
  · refine r_iload_n hE 0 dX13_endCall_g1.2.2.2.2.2.2.2.2.1 rfl rfl ?_
    refine r_aload_n hE 2 dX13_endCall_g1.2.2.2.2.2.2.2.2.2.1 rfl rfl ?_
    refine mg_one hE hm dX13_endCall_g1.2.2.2.2.2.2.2.2.2.2.1 ?_
    refine r_iload_n hE 1 dX13_endCall_g1.2.2.2.2.2.2.2.2.2.2.2.1 rfl rfl ?_
    obtain ⟨hi, h⟩ := h
    refine ml_one hE hm dX13_endCall_g1.2.2.2.2.2.2.2.2.2.2.2.2.1 hi ?_
    refine r_bipush (v := (100 : Int32)) hE dX13_endCall_g1.2.2.2.2.2.2.2.2.2.2.2.2.2.1 (by decide) ?_
    refine r_icmp_ge hE 67 dX13_endCall_g1.2.2.2.2.2.2.2.2.2.2.2.2.2.2.1 (by decide) h (fun h => ?_) (fun h => ?_)
    · refine r_aload_n hE 2 dX13_endCall_g2.2.2.2.2.2.1 rfl rfl ?_
      refine mg_paramMany hE hm dX13_endCall_g2.2.2.2.2.2.2.1 ?_
      refine r_bipush (v := (13 : Int32)) hE dX13_endCall_g2.2.2.2.2.2.2.2.1 (by decide) ?_
      refine r_aload_n hE 2 dX13_endCall_g2.2.2.2.2.2.2.2.2.1 rfl rfl ?_
      refine mg_one hE hm dX13_endCall_g2.2.2.2.2.2.2.2.2.2.1 ?_
      refine r_iload_n hE 1 dX13_endCall_g2.2.2.2.2.2.2.2.2.2.2.1 rfl rfl ?_
      obtain ⟨hi, h⟩ := h
      refine ml_one hE hm dX13_endCall_g2.2.2.2.2.2.2.2.2.2.2.2.1 hi ?_
      refine r_iadd hE dX13_endCall_g2.2.2.2.2.2.2.2.2.2.2.2.2.1 ?_
      refine r_bipush (v := (100 : Int32)) hE dX13_endCall_g2.2.2.2.2.2.2.2.2.2.2.2.2.2.1 (by decide) ?_
      refine r_isub hE dX13_endCall_g2.2.2.2.2.2.2.2.2.2.2.2.2.2.2.1 ?_
      obtain ⟨hi, h⟩ := h
      refine ml_paramMany hE hm dX13_endCall_g2.2.2.2.2.2.2.2.2.2.2.2.2.2.2.2 hi ?_
      refine r_pick [2, 1] rfl ?_
      exact km_endCall_84 hE hm hF _ _ _ _ h
    · refine r_aload_n hE 2 dX13_endCall_g1.2.2.2.2.2.2.2.2.2.2.2.2.2.2.2 rfl rfl ?_
      refine mg_one hE hm dX13_endCall_g2.1 ?_
      refine r_iload_n hE 1 dX13_endCall_g2.2.1 rfl rfl ?_
      obtain ⟨hi, h⟩ := h
      refine ml_one hE hm dX13_endCall_g2.2.2.1 hi ?_
      refine m_callSi hE hm [.int (m_one s7 x4.toNatClampNeg)] [.int x5] mc_wantedBy (km_wantedBy hm.2.2.2.2.2.2.2.2 h) (by decide) rfl rfl (Nat.le_of_ble_eq_true rfl) dX13_endCall_g2.2.2.2.1 (fun s9 r10 h => ?_)
      refine r_goto hE 84 dX13_endCall_g2.2.2.2.2.1 (by decide) ?_
      refine r_pick [2, 1] rfl ?_
      exact km_endCall_84 hE hm hF _ _ _ _ h
/-! wait -/
def wm_wait (post : MS → Prop) (σ : MS) (a1 : Int32) (a2 : Int32) : Prop := vp_in (m_waiting σ) 600 ∧ (∀ s1 : MS, s1 = m_waits_s σ (m_waiting σ).toNatClampNeg a1 → vp_in (m_waiting s1) 600 ∧ (∀ s2 : MS, s2 = m_waitNode_s s1 (m_waiting s1).toNatClampNeg a2 → vp_in (m_waiting s2) 600 ∧ (∀ s3 : MS, s3 = m_waitMany_s s2 (m_waiting s2).toNatClampNeg (0 : Int32) → vp_in (m_waiting s3) 600 ∧ (∀ s4 : MS, s4 = m_waitLast_s s3 (m_waiting s3).toNatClampNeg (-1 : Int32) → ∀ s5 : MS, s5 = m_waiting_s s4 ((m_waiting s4) + (1 : Int32)) → post s5))))
set_option maxRecDepth 20000 in
theorem km_wait {l : Launch} {D : va_G} {cl : List vw_C} {G : gAd} {post : MS → Prop} (hcl : mC cl) {σ : MS} {a1 : Int32} {a2 : Int32} (h : wm_wait post σ a1 a2) : mMet l D cl G yX13_wait cX13_wait 3 none 1 [.ref (G.1 0), .int a1, .int a2] σ (qV post) := by
  unfold wm_wait at h
  refine m_enter hcl (by decide +kernel) rfl [(0, .ref (G.1 0)), (1, .int a1), (2, .int a2)] rfl (Nat.le_of_ble_eq_true rfl) ?_
  intro E hE hm hF
  have hN := hm.2.2.2.2.2.2.1
  refine r_aload_n hE 0 dX13_wait_g0.1 rfl rfl ?_
  refine mg_waits hE hm dX13_wait_g0.2.1 ?_
  refine r_aload_n hE 0 dX13_wait_g0.2.2.1 rfl rfl ?_
  refine mg_waiting hE hm dX13_wait_g0.2.2.2.1 ?_
  refine r_iload_n hE 1 dX13_wait_g0.2.2.2.2.1 rfl rfl ?_
  obtain ⟨hi, h⟩ := h
  refine ms_waits hE hm dX13_wait_g0.2.2.2.2.2.1 hi h (fun s1 h => ?_)
  refine r_aload_n hE 0 dX13_wait_g0.2.2.2.2.2.2.1 rfl rfl ?_
  refine mg_waitNode hE hm dX13_wait_g0.2.2.2.2.2.2.2.1 ?_
  refine r_aload_n hE 0 dX13_wait_g0.2.2.2.2.2.2.2.2.1 rfl rfl ?_
  refine mg_waiting hE hm dX13_wait_g0.2.2.2.2.2.2.2.2.2.1 ?_
  refine r_iload_n hE 2 dX13_wait_g0.2.2.2.2.2.2.2.2.2.2.1 rfl rfl ?_
  obtain ⟨hi, h⟩ := h
  refine ms_waitNode hE hm dX13_wait_g0.2.2.2.2.2.2.2.2.2.2.2.1 hi h (fun s2 h => ?_)
  refine r_aload_n hE 0 dX13_wait_g0.2.2.2.2.2.2.2.2.2.2.2.2.1 rfl rfl ?_
  refine mg_waitMany hE hm dX13_wait_g0.2.2.2.2.2.2.2.2.2.2.2.2.2.1 ?_
  refine r_aload_n hE 0 dX13_wait_g0.2.2.2.2.2.2.2.2.2.2.2.2.2.2.1 rfl rfl ?_
  refine mg_waiting hE hm dX13_wait_g0.2.2.2.2.2.2.2.2.2.2.2.2.2.2.2 ?_
  refine r_iconst (v := (0 : Int32)) hE dX13_wait_g1.1 (by decide) ?_
  obtain ⟨hi, h⟩ := h
  refine ms_waitMany hE hm dX13_wait_g1.2.1 hi h (fun s3 h => ?_)
  refine r_aload_n hE 0 dX13_wait_g1.2.2.1 rfl rfl ?_
  refine mg_waitLast hE hm dX13_wait_g1.2.2.2.1 ?_
  refine r_aload_n hE 0 dX13_wait_g1.2.2.2.2.1 rfl rfl ?_
  refine mg_waiting hE hm dX13_wait_g1.2.2.2.2.2.1 ?_
  refine r_iconst (v := (-1 : Int32)) hE dX13_wait_g1.2.2.2.2.2.2.1 (by decide) ?_
  obtain ⟨hi, h⟩ := h
  refine ms_waitLast hE hm dX13_wait_g1.2.2.2.2.2.2.2.1 hi h (fun s4 h => ?_)
  refine r_aload_n hE 0 dX13_wait_g1.2.2.2.2.2.2.2.2.1 rfl rfl ?_
  refine r_dup hE dX13_wait_g1.2.2.2.2.2.2.2.2.2.1 rfl ?_
  refine mg_waiting hE hm dX13_wait_g1.2.2.2.2.2.2.2.2.2.2.1 ?_
  refine r_iconst (v := (1 : Int32)) hE dX13_wait_g1.2.2.2.2.2.2.2.2.2.2.2.1 (by decide) ?_
  refine r_iadd hE dX13_wait_g1.2.2.2.2.2.2.2.2.2.2.2.2.1 ?_
  refine mp_waiting hE hm dX13_wait_g1.2.2.2.2.2.2.2.2.2.2.2.2.2.1 h (fun s5 h => ?_)
  exact m_vret hE hm hF dX13_wait_g1.2.2.2.2.2.2.2.2.2.2.2.2.2.2 h
/-! readBehind -/
def wm_readBehind_302 (post : MS → Int32 → Prop) (σ : MS) : Prop := wm_misplaced (fun (s1 : MS) => post s1 (1 : Int32)) σ
set_option maxRecDepth 20000 in
theorem km_readBehind_302 {E : gEnv} {l : Launch} {D : va_G} {cl : List vw_C} {G : gAd} {post : MS → Int32 → Prop} (hE : gOK E cX13_readBehind RX13 (some .boolean) 8) (hm : mOK E l D cl G (qI post) 3) (hF : gFin E) (σ : MS) (h : wm_readBehind_302 post σ) : GW E (mW G σ) 302 [(0, .ref (G.1 0))] [] := by
  unfold wm_readBehind_302 at h
  have hN := hm.2.2.2.2.2.2.1
  refine r_aload_n hE 0 dX13_readBehind_g10.2.2.2.2.2.1 rfl rfl ?_
  refine m_callVv hE hm [] [] mc_misplaced (km_misplaced hm.2.2.2.2.2.2.2.2 h) (by decide) rfl rfl (Nat.le_of_ble_eq_true rfl) dX13_readBehind_g10.2.2.2.2.2.2.1 (fun s1 h => ?_)
  refine r_iconst (v := (1 : Int32)) hE dX13_readBehind_g10.2.2.2.2.2.2.2.1 (by decide) ?_
  exact m_zret hE hm hF dX13_readBehind_g10.2.2.2.2.2.2.2.2 (Or.inr rfl) h
def wm_readBehind_238 (post : MS → Int32 → Prop) (σ : MS) (v2 : Int32) : Prop := ((¬ (v2 = (5 : Int32))) → (wm_readBehind_302 post σ)) ∧ ((v2 = (5 : Int32)) → (wm_isSignHere (fun (s2 : MS) (r3 : Int32) => ((r3 = (0 : Int32)) → (wm_readBehind_302 post s2)) ∧ ((¬ (r3 = (0 : Int32))) → (∀ s4 : MS, s4 = m_waiting_s s2 ((m_waiting s2) - (1 : Int32)) → vp_in (m_waiting s4) 600 ∧ (vp_in (m_waitNode s4 (m_waiting s4).toNatClampNeg) 600 ∧ (∀ s5 : MS, s5 = m_two_s s4 (m_waitNode s4 (m_waiting s4).toNatClampNeg).toNatClampNeg (m_operand s4) → wm_shut (fun (s6 : MS) => vp_in (m_waiting s6) 600 ∧ (wm_stand (fun (s7 : MS) => post s7 (1 : Int32)) s6 (m_waitNode s6 (m_waiting s6).toNatClampNeg))) s5 (93 : Int32)))))) σ (93 : Int32)))
set_option maxRecDepth 20000 in
theorem km_readBehind_238 {E : gEnv} {l : Launch} {D : va_G} {cl : List vw_C} {G : gAd} {post : MS → Int32 → Prop} (hE : gOK E cX13_readBehind RX13 (some .boolean) 8) (hm : mOK E l D cl G (qI post) 3) (hF : gFin E) (σ : MS) (v2 : Int32) (h : wm_readBehind_238 post σ v2) : GW E (mW G σ) 238 [(0, .ref (G.1 0)), (2, .int v2)] [] := by
  unfold wm_readBehind_238 at h
  have hN := hm.2.2.2.2.2.2.1
  refine r_iload_n hE 1 dX13_readBehind_g8.2.2.2.1 rfl rfl ?_
  refine r_iconst (v := (5 : Int32)) hE dX13_readBehind_g8.2.2.2.2.1 (by decide) ?_
  refine r_icmp_ne hE 302 dX13_readBehind_g8.2.2.2.2.2.1 (by decide) h (fun h => ?_) (fun h => ?_)
  · refine r_pick [0] rfl ?_
    exact km_readBehind_302 hE hm hF _ h
  · refine r_aload_n hE 0 dX13_readBehind_g8.2.2.2.2.2.2.1 rfl rfl ?_
    refine r_bipush (v := (93 : Int32)) hE dX13_readBehind_g8.2.2.2.2.2.2.2.1 (by decide) ?_
    refine m_callVi hE hm [.int (93 : Int32)] [] mc_isSignHere (km_isSignHere hm.2.2.2.2.2.2.2.2 h) (by decide) rfl rfl (Nat.le_of_ble_eq_true rfl) dX13_readBehind_g8.2.2.2.2.2.2.2.2.1 (fun s2 r3 h => ?_)
    refine r_if_eq hE 302 dX13_readBehind_g8.2.2.2.2.2.2.2.2.2.1 (by decide) h (fun h => ?_) (fun h => ?_)
    · refine r_pick [0] rfl ?_
      exact km_readBehind_302 hE hm hF _ h
    · refine r_aload_n hE 0 dX13_readBehind_g8.2.2.2.2.2.2.2.2.2.2.1 rfl rfl ?_
      refine r_dup hE dX13_readBehind_g8.2.2.2.2.2.2.2.2.2.2.2.1 rfl ?_
      refine mg_waiting hE hm dX13_readBehind_g8.2.2.2.2.2.2.2.2.2.2.2.2.1 ?_
      refine r_iconst (v := (1 : Int32)) hE dX13_readBehind_g8.2.2.2.2.2.2.2.2.2.2.2.2.2.1 (by decide) ?_
      refine r_isub hE dX13_readBehind_g8.2.2.2.2.2.2.2.2.2.2.2.2.2.2.1 ?_
      refine mp_waiting hE hm dX13_readBehind_g8.2.2.2.2.2.2.2.2.2.2.2.2.2.2.2 h (fun s4 h => ?_)
      refine r_aload_n hE 0 dX13_readBehind_g9.1 rfl rfl ?_
      refine mg_two hE hm dX13_readBehind_g9.2.1 ?_
      refine r_aload_n hE 0 dX13_readBehind_g9.2.2.1 rfl rfl ?_
      refine mg_waitNode hE hm dX13_readBehind_g9.2.2.2.1 ?_
      refine r_aload_n hE 0 dX13_readBehind_g9.2.2.2.2.1 rfl rfl ?_
      refine mg_waiting hE hm dX13_readBehind_g9.2.2.2.2.2.1 ?_
      obtain ⟨hi, h⟩ := h
      refine ml_waitNode hE hm dX13_readBehind_g9.2.2.2.2.2.2.1 hi ?_
      refine r_aload_n hE 0 dX13_readBehind_g9.2.2.2.2.2.2.2.1 rfl rfl ?_
      refine mg_operand hE hm dX13_readBehind_g9.2.2.2.2.2.2.2.2.1 ?_
      obtain ⟨hi, h⟩ := h
      refine ms_two hE hm dX13_readBehind_g9.2.2.2.2.2.2.2.2.2.1 hi h (fun s5 h => ?_)
      refine r_aload_n hE 0 dX13_readBehind_g9.2.2.2.2.2.2.2.2.2.2.1 rfl rfl ?_
      refine r_bipush (v := (93 : Int32)) hE dX13_readBehind_g9.2.2.2.2.2.2.2.2.2.2.2.1 (by decide) ?_
      refine m_callVv hE hm [.int (93 : Int32)] [] mc_shut (km_shut hm.2.2.2.2.2.2.2.2 h) (by decide) rfl rfl (Nat.le_of_ble_eq_true rfl) dX13_readBehind_g9.2.2.2.2.2.2.2.2.2.2.2.2.1 (fun s6 h => ?_)
      refine r_aload_n hE 0 dX13_readBehind_g9.2.2.2.2.2.2.2.2.2.2.2.2.2.1 rfl rfl ?_
      refine r_aload_n hE 0 dX13_readBehind_g9.2.2.2.2.2.2.2.2.2.2.2.2.2.2.1 rfl rfl ?_
      refine mg_waitNode hE hm dX13_readBehind_g9.2.2.2.2.2.2.2.2.2.2.2.2.2.2.2 ?_
      refine r_aload_n hE 0 dX13_readBehind_g10.1 rfl rfl ?_
      refine mg_waiting hE hm dX13_readBehind_g10.2.1 ?_
      obtain ⟨hi, h⟩ := h
      refine ml_waitNode hE hm dX13_readBehind_g10.2.2.1 hi ?_
      refine m_callVv hE hm [.int (m_waitNode s6 (m_waiting s6).toNatClampNeg)] [] mc_stand (km_stand hm.2.2.2.2.2.2.2.2 h) (by decide) rfl rfl (Nat.le_of_ble_eq_true rfl) dX13_readBehind_g10.2.2.2.1 (fun s7 h => ?_)
      refine r_goto hE 306 dX13_readBehind_g10.2.2.2.2.1 (by decide) ?_
      refine r_iconst (v := (1 : Int32)) hE dX13_readBehind_g10.2.2.2.2.2.2.2.1 (by decide) ?_
      exact m_zret hE hm hF dX13_readBehind_g10.2.2.2.2.2.2.2.2 (Or.inr rfl) h
def wm_readBehind_213 (post : MS → Int32 → Prop) (σ : MS) (v2 : Int32) : Prop := ((¬ (v2 = (4 : Int32))) → (wm_readBehind_238 post σ v2)) ∧ ((v2 = (4 : Int32)) → (wm_isSignHere (fun (s8 : MS) (r9 : Int32) => ((r9 = (0 : Int32)) → (wm_readBehind_238 post s8 v2)) ∧ ((¬ (r9 = (0 : Int32))) → (wm_argue (fun (s10 : MS) => wm_endCall (fun (s11 : MS) => post s11 (1 : Int32)) s10) s8))) σ (41 : Int32)))
set_option maxRecDepth 20000 in
theorem km_readBehind_213 {E : gEnv} {l : Launch} {D : va_G} {cl : List vw_C} {G : gAd} {post : MS → Int32 → Prop} (hE : gOK E cX13_readBehind RX13 (some .boolean) 8) (hm : mOK E l D cl G (qI post) 3) (hF : gFin E) (σ : MS) (v2 : Int32) (h : wm_readBehind_213 post σ v2) : GW E (mW G σ) 213 [(0, .ref (G.1 0)), (2, .int v2)] [] := by
  unfold wm_readBehind_213 at h
  have hN := hm.2.2.2.2.2.2.1
  refine r_iload_n hE 1 dX13_readBehind_g7.2.2.2.2.2.2.2.1 rfl rfl ?_
  refine r_iconst (v := (4 : Int32)) hE dX13_readBehind_g7.2.2.2.2.2.2.2.2.1 (by decide) ?_
  refine r_icmp_ne hE 238 dX13_readBehind_g7.2.2.2.2.2.2.2.2.2.1 (by decide) h (fun h => ?_) (fun h => ?_)
  · exact km_readBehind_238 hE hm hF _ _ h
  · refine r_aload_n hE 0 dX13_readBehind_g7.2.2.2.2.2.2.2.2.2.2.1 rfl rfl ?_
    refine r_bipush (v := (41 : Int32)) hE dX13_readBehind_g7.2.2.2.2.2.2.2.2.2.2.2.1 (by decide) ?_
    refine m_callVi hE hm [.int (41 : Int32)] [] mc_isSignHere (km_isSignHere hm.2.2.2.2.2.2.2.2 h) (by decide) rfl rfl (Nat.le_of_ble_eq_true rfl) dX13_readBehind_g7.2.2.2.2.2.2.2.2.2.2.2.2.1 (fun s8 r9 h => ?_)
    refine r_if_eq hE 238 dX13_readBehind_g7.2.2.2.2.2.2.2.2.2.2.2.2.2.1 (by decide) h (fun h => ?_) (fun h => ?_)
    · exact km_readBehind_238 hE hm hF _ _ h
    · refine r_aload_n hE 0 dX13_readBehind_g7.2.2.2.2.2.2.2.2.2.2.2.2.2.2.1 rfl rfl ?_
      refine m_callVv hE hm [] [] mc_argue (km_argue hm.2.2.2.2.2.2.2.2 h) (by decide) rfl rfl (Nat.le_of_ble_eq_true rfl) dX13_readBehind_g7.2.2.2.2.2.2.2.2.2.2.2.2.2.2.2 (fun s10 h => ?_)
      refine r_aload_n hE 0 dX13_readBehind_g8.1 rfl rfl ?_
      refine m_callVv hE hm [] [] mc_endCall (km_endCall hm.2.2.2.2.2.2.2.2 h) (by decide) rfl rfl (Nat.le_of_ble_eq_true rfl) dX13_readBehind_g8.2.1 (fun s11 h => ?_)
      refine r_goto hE 306 dX13_readBehind_g8.2.2.1 (by decide) ?_
      refine r_iconst (v := (1 : Int32)) hE dX13_readBehind_g10.2.2.2.2.2.2.2.1 (by decide) ?_
      exact m_zret hE hm hF dX13_readBehind_g10.2.2.2.2.2.2.2.2 (Or.inr rfl) h
def wm_readBehind_183 (post : MS → Int32 → Prop) (σ : MS) (v2 : Int32) : Prop := ((¬ (v2 = (4 : Int32))) → (wm_readBehind_213 post σ v2)) ∧ ((v2 = (4 : Int32)) → (wm_isSignHere (fun (s12 : MS) (r13 : Int32) => ((r13 = (0 : Int32)) → (wm_readBehind_213 post s12 v2)) ∧ ((¬ (r13 = (0 : Int32))) → (wm_argue (fun (s14 : MS) => wm_next (fun (s15 : MS) => ∀ s16 : MS, s16 = m_wants_s s15 (1 : Int32) → post s16 (1 : Int32)) s14) s12))) σ (44 : Int32)))
set_option maxRecDepth 20000 in
theorem km_readBehind_183 {E : gEnv} {l : Launch} {D : va_G} {cl : List vw_C} {G : gAd} {post : MS → Int32 → Prop} (hE : gOK E cX13_readBehind RX13 (some .boolean) 8) (hm : mOK E l D cl G (qI post) 3) (hF : gFin E) (σ : MS) (v2 : Int32) (h : wm_readBehind_183 post σ v2) : GW E (mW G σ) 183 [(0, .ref (G.1 0)), (2, .int v2)] [] := by
  unfold wm_readBehind_183 at h
  have hN := hm.2.2.2.2.2.2.1
  refine r_iload_n hE 1 dX13_readBehind_g6.2.2.2.2.2.2.2.2.1 rfl rfl ?_
  refine r_iconst (v := (4 : Int32)) hE dX13_readBehind_g6.2.2.2.2.2.2.2.2.2.1 (by decide) ?_
  refine r_icmp_ne hE 213 dX13_readBehind_g6.2.2.2.2.2.2.2.2.2.2.1 (by decide) h (fun h => ?_) (fun h => ?_)
  · exact km_readBehind_213 hE hm hF _ _ h
  · refine r_aload_n hE 0 dX13_readBehind_g6.2.2.2.2.2.2.2.2.2.2.2.1 rfl rfl ?_
    refine r_bipush (v := (44 : Int32)) hE dX13_readBehind_g6.2.2.2.2.2.2.2.2.2.2.2.2.1 (by decide) ?_
    refine m_callVi hE hm [.int (44 : Int32)] [] mc_isSignHere (km_isSignHere hm.2.2.2.2.2.2.2.2 h) (by decide) rfl rfl (Nat.le_of_ble_eq_true rfl) dX13_readBehind_g6.2.2.2.2.2.2.2.2.2.2.2.2.2.1 (fun s12 r13 h => ?_)
    refine r_if_eq hE 213 dX13_readBehind_g6.2.2.2.2.2.2.2.2.2.2.2.2.2.2.1 (by decide) h (fun h => ?_) (fun h => ?_)
    · exact km_readBehind_213 hE hm hF _ _ h
    · refine r_aload_n hE 0 dX13_readBehind_g6.2.2.2.2.2.2.2.2.2.2.2.2.2.2.2 rfl rfl ?_
      refine m_callVv hE hm [] [] mc_argue (km_argue hm.2.2.2.2.2.2.2.2 h) (by decide) rfl rfl (Nat.le_of_ble_eq_true rfl) dX13_readBehind_g7.1 (fun s14 h => ?_)
      refine r_aload_n hE 0 dX13_readBehind_g7.2.1 rfl rfl ?_
      refine m_callVv hE hm [] [] mc_next (km_next hm.2.2.2.2.2.2.2.2 h) (by decide) rfl rfl (Nat.le_of_ble_eq_true rfl) dX13_readBehind_g7.2.2.1 (fun s15 h => ?_)
      refine r_aload_n hE 0 dX13_readBehind_g7.2.2.2.1 rfl rfl ?_
      refine r_iconst (v := (1 : Int32)) hE dX13_readBehind_g7.2.2.2.2.1 (by decide) ?_
      refine mp_wants hE hm dX13_readBehind_g7.2.2.2.2.2.1 (Or.inr rfl) h (fun s16 h => ?_)
      refine r_goto hE 306 dX13_readBehind_g7.2.2.2.2.2.2.1 (by decide) ?_
      refine r_iconst (v := (1 : Int32)) hE dX13_readBehind_g10.2.2.2.2.2.2.2.1 (by decide) ?_
      exact m_zret hE hm hF dX13_readBehind_g10.2.2.2.2.2.2.2.2 (Or.inr rfl) h
def wm_readBehind_64 (post : MS → Int32 → Prop) (σ : MS) : Prop := wm_newNode (fun (s17 : MS) (r18 : Int32) => wm_fine (fun (s19 : MS) (r20 : Int32) => ((r20 = (0 : Int32)) → (post s19 (1 : Int32))) ∧ ((¬ (r20 = (0 : Int32))) → (vp_in r18 600 ∧ (∀ s21 : MS, s21 = m_one_s s19 r18.toNatClampNeg (m_sign s19) → vp_in r18 600 ∧ (∀ s22 : MS, s22 = m_two_s s21 r18.toNatClampNeg (m_operand s21) → wm_next (fun (s23 : MS) => wm_wait (fun (s24 : MS) => ∀ s25 : MS, s25 = m_wants_s s24 (1 : Int32) → post s25 (1 : Int32)) s23 (1 : Int32) r18) s22))))) s17) σ (12 : Int32) (m_tokenAt σ)
set_option maxRecDepth 20000 in
theorem km_readBehind_64 {E : gEnv} {l : Launch} {D : va_G} {cl : List vw_C} {G : gAd} {post : MS → Int32 → Prop} (hE : gOK E cX13_readBehind RX13 (some .boolean) 8) (hm : mOK E l D cl G (qI post) 3) (hF : gFin E) (σ : MS) (h : wm_readBehind_64 post σ) : GW E (mW G σ) 64 [(0, .ref (G.1 0))] [] := by
  unfold wm_readBehind_64 at h
  have hN := hm.2.2.2.2.2.2.1
  refine r_aload_n hE 0 dX13_readBehind_g2.2.2.2.2.1 rfl rfl ?_
  refine r_bipush (v := (12 : Int32)) hE dX13_readBehind_g2.2.2.2.2.2.1 (by decide) ?_
  refine r_aload_n hE 0 dX13_readBehind_g2.2.2.2.2.2.2.1 rfl rfl ?_
  refine mg_tokenAt hE hm dX13_readBehind_g2.2.2.2.2.2.2.2.1 ?_
  refine m_callVi hE hm [.int (12 : Int32), .int (m_tokenAt σ)] [] mc_newNode (km_newNode hm.2.2.2.2.2.2.2.2 h) (by decide) rfl rfl (Nat.le_of_ble_eq_true rfl) dX13_readBehind_g2.2.2.2.2.2.2.2.2.1 (fun s17 r18 h => ?_)
  refine r_istore_n hE [(2, .int r18), (0, .ref (G.1 0))] dX13_readBehind_g2.2.2.2.2.2.2.2.2.2.1 rfl hN (by decide) rfl ?_
  refine r_aload_n hE 1 dX13_readBehind_g2.2.2.2.2.2.2.2.2.2.2.1 rfl rfl ?_
  refine m_callVi hE hm [] [] mc_fine (km_fine hm.2.2.2.2.2.2.2.2 h) (by decide) rfl rfl (Nat.le_of_ble_eq_true rfl) dX13_readBehind_g2.2.2.2.2.2.2.2.2.2.2.2.1 (fun s19 r20 h => ?_)
  refine r_if_eq hE 117 dX13_readBehind_g2.2.2.2.2.2.2.2.2.2.2.2.2.1 (by decide) h (fun h => ?_) (fun h => ?_)
  · refine r_iconst (v := (1 : Int32)) hE dX13_readBehind_g4.2.2.1 (by decide) ?_
    exact m_zret hE hm hF dX13_readBehind_g4.2.2.2.1 (Or.inr rfl) h
  · refine r_aload_n hE 1 dX13_readBehind_g2.2.2.2.2.2.2.2.2.2.2.2.2.2.1 rfl rfl ?_
    refine mg_one hE hm dX13_readBehind_g2.2.2.2.2.2.2.2.2.2.2.2.2.2.2.1 ?_
    refine r_iload_n hE 0 dX13_readBehind_g2.2.2.2.2.2.2.2.2.2.2.2.2.2.2.2 rfl rfl ?_
    refine r_aload_n hE 1 dX13_readBehind_g3.1 rfl rfl ?_
    refine mg_sign hE hm dX13_readBehind_g3.2.1 ?_
    obtain ⟨hi, h⟩ := h
    refine ms_one hE hm dX13_readBehind_g3.2.2.1 hi h (fun s21 h => ?_)
    refine r_aload_n hE 1 dX13_readBehind_g3.2.2.2.1 rfl rfl ?_
    refine mg_two hE hm dX13_readBehind_g3.2.2.2.2.1 ?_
    refine r_iload_n hE 0 dX13_readBehind_g3.2.2.2.2.2.1 rfl rfl ?_
    refine r_aload_n hE 1 dX13_readBehind_g3.2.2.2.2.2.2.1 rfl rfl ?_
    refine mg_operand hE hm dX13_readBehind_g3.2.2.2.2.2.2.2.1 ?_
    obtain ⟨hi, h⟩ := h
    refine ms_two hE hm dX13_readBehind_g3.2.2.2.2.2.2.2.2.1 hi h (fun s22 h => ?_)
    refine r_aload_n hE 1 dX13_readBehind_g3.2.2.2.2.2.2.2.2.2.1 rfl rfl ?_
    refine m_callVv hE hm [] [] mc_next (km_next hm.2.2.2.2.2.2.2.2 h) (by decide) rfl rfl (Nat.le_of_ble_eq_true rfl) dX13_readBehind_g3.2.2.2.2.2.2.2.2.2.2.1 (fun s23 h => ?_)
    refine r_aload_n hE 1 dX13_readBehind_g3.2.2.2.2.2.2.2.2.2.2.2.1 rfl rfl ?_
    refine r_iconst (v := (1 : Int32)) hE dX13_readBehind_g3.2.2.2.2.2.2.2.2.2.2.2.2.1 (by decide) ?_
    refine r_iload_n hE 0 dX13_readBehind_g3.2.2.2.2.2.2.2.2.2.2.2.2.2.1 rfl rfl ?_
    refine m_callVv hE hm [.int (1 : Int32), .int r18] [] mc_wait (km_wait hm.2.2.2.2.2.2.2.2 h) (by decide) rfl rfl (Nat.le_of_ble_eq_true rfl) dX13_readBehind_g3.2.2.2.2.2.2.2.2.2.2.2.2.2.2.1 (fun s24 h => ?_)
    refine r_aload_n hE 1 dX13_readBehind_g3.2.2.2.2.2.2.2.2.2.2.2.2.2.2.2 rfl rfl ?_
    refine r_iconst (v := (1 : Int32)) hE dX13_readBehind_g4.1 (by decide) ?_
    refine mp_wants hE hm dX13_readBehind_g4.2.1 (Or.inr rfl) h (fun s25 h => ?_)
    refine r_iconst (v := (1 : Int32)) hE dX13_readBehind_g4.2.2.1 (by decide) ?_
    exact m_zret hE hm hF dX13_readBehind_g4.2.2.2.1 (Or.inr rfl) h
def wm_readBehind_35 (post : MS → Int32 → Prop) (σ : MS) (v1 : Int32) (t1 : Int32) : Prop := wm_close (fun (s26 : MS) => ((¬ (v1 = (1 : Int32))) → (wm_readBehind_64 post s26)) ∧ ((v1 = (1 : Int32)) → (vp_in ((m_waiting s26) - (1 : Int32)) 600 ∧ (((¬ ((m_waits s26 ((m_waiting s26) - (1 : Int32)).toNatClampNeg) = (1 : Int32))) → (wm_readBehind_64 post s26)) ∧ (((m_waits s26 ((m_waiting s26) - (1 : Int32)).toNatClampNeg) = (1 : Int32)) → (wm_misplaced (fun (s27 : MS) => post s27 (0 : Int32)) s26)))))) σ t1
set_option maxRecDepth 20000 in
theorem km_readBehind_35 {E : gEnv} {l : Launch} {D : va_G} {cl : List vw_C} {G : gAd} {post : MS → Int32 → Prop} (hE : gOK E cX13_readBehind RX13 (some .boolean) 8) (hm : mOK E l D cl G (qI post) 3) (hF : gFin E) (σ : MS) (v1 : Int32) (t1 : Int32) (h : wm_readBehind_35 post σ v1 t1) : GW E (mW G σ) 35 [(0, .ref (G.1 0)), (1, .int v1)] [.int t1, .ref (G.1 0)] := by
  unfold wm_readBehind_35 at h
  have hN := hm.2.2.2.2.2.2.1
  refine m_callVv hE hm [.int t1] [] mc_close (km_close hm.2.2.2.2.2.2.2.2 h) (by decide) rfl rfl (Nat.le_of_ble_eq_true rfl) dX13_readBehind_g1.2.2.2.1 (fun s26 h => ?_)
  refine r_iload_n hE 1 dX13_readBehind_g1.2.2.2.2.1 rfl rfl ?_
  refine r_iconst (v := (1 : Int32)) hE dX13_readBehind_g1.2.2.2.2.2.1 (by decide) ?_
  refine r_icmp_ne hE 64 dX13_readBehind_g1.2.2.2.2.2.2.1 (by decide) h (fun h => ?_) (fun h => ?_)
  · refine r_pick [0] rfl ?_
    exact km_readBehind_64 hE hm hF _ h
  · refine r_aload_n hE 0 dX13_readBehind_g1.2.2.2.2.2.2.2.1 rfl rfl ?_
    refine mg_waits hE hm dX13_readBehind_g1.2.2.2.2.2.2.2.2.1 ?_
    refine r_aload_n hE 0 dX13_readBehind_g1.2.2.2.2.2.2.2.2.2.1 rfl rfl ?_
    refine mg_waiting hE hm dX13_readBehind_g1.2.2.2.2.2.2.2.2.2.2.1 ?_
    refine r_iconst (v := (1 : Int32)) hE dX13_readBehind_g1.2.2.2.2.2.2.2.2.2.2.2.1 (by decide) ?_
    refine r_isub hE dX13_readBehind_g1.2.2.2.2.2.2.2.2.2.2.2.2.1 ?_
    obtain ⟨hi, h⟩ := h
    refine ml_waits hE hm dX13_readBehind_g1.2.2.2.2.2.2.2.2.2.2.2.2.2.1 hi ?_
    refine r_iconst (v := (1 : Int32)) hE dX13_readBehind_g1.2.2.2.2.2.2.2.2.2.2.2.2.2.2.1 (by decide) ?_
    refine r_icmp_ne hE 64 dX13_readBehind_g1.2.2.2.2.2.2.2.2.2.2.2.2.2.2.2 (by decide) h (fun h => ?_) (fun h => ?_)
    · refine r_pick [0] rfl ?_
      exact km_readBehind_64 hE hm hF _ h
    · refine r_aload_n hE 0 dX13_readBehind_g2.1 rfl rfl ?_
      refine m_callVv hE hm [] [] mc_misplaced (km_misplaced hm.2.2.2.2.2.2.2.2 h) (by decide) rfl rfl (Nat.le_of_ble_eq_true rfl) dX13_readBehind_g2.2.1 (fun s27 h => ?_)
      refine r_iconst (v := (0 : Int32)) hE dX13_readBehind_g2.2.2.1 (by decide) ?_
      exact m_zret hE hm hF dX13_readBehind_g2.2.2.2.1 (Or.inl rfl) h
def wm_readBehind_19 (post : MS → Int32 → Prop) (σ : MS) (t0 : Int32) : Prop := ((t0 ≤ (0 : Int32)) → (wm_close (fun (s28 : MS) => vp_in ((m_waiting s28) - (1 : Int32)) 600 ∧ (∀ x29 : Int32, x29 = m_waits s28 ((m_waiting s28) - (1 : Int32)).toNatClampNeg → ((¬ (x29 = (0 : Int32))) → (((¬ (x29 = (3 : Int32))) → (wm_readBehind_183 post s28 x29)) ∧ ((x29 = (3 : Int32)) → (wm_isSignHere (fun (s30 : MS) (r31 : Int32) => ((r31 = (0 : Int32)) → (wm_readBehind_183 post s30 x29)) ∧ ((¬ (r31 = (0 : Int32))) → (∀ s32 : MS, s32 = m_waiting_s s30 ((m_waiting s30) - (1 : Int32)) → wm_shut (fun (s33 : MS) => wm_stand (fun (s34 : MS) => post s34 (1 : Int32)) s33 (m_operand s33)) s32 (41 : Int32)))) s28 (41 : Int32))))) ∧ ((x29 = (0 : Int32)) → (post s28 (0 : Int32))))) σ (1 : Int32))) ∧ ((¬ (t0 ≤ (0 : Int32))) → (((¬ (t0 = (1 : Int32))) → (wm_readBehind_35 post σ t0 t0)) ∧ ((t0 = (1 : Int32)) → (wm_readBehind_35 post σ t0 (2 : Int32)))))
set_option maxRecDepth 20000 in
theorem km_readBehind_19 {E : gEnv} {l : Launch} {D : va_G} {cl : List vw_C} {G : gAd} {post : MS → Int32 → Prop} (hE : gOK E cX13_readBehind RX13 (some .boolean) 8) (hm : mOK E l D cl G (qI post) 3) (hF : gFin E) (σ : MS) (t0 : Int32) (h : wm_readBehind_19 post σ t0) : GW E (mW G σ) 19 [(0, .ref (G.1 0))] [.int t0] := by
  unfold wm_readBehind_19 at h
  have hN := hm.2.2.2.2.2.2.1
  refine r_istore_n hE [(1, .int t0), (0, .ref (G.1 0))] dX13_readBehind_g0.2.2.2.2.2.2.2.2.2.1 rfl hN (by decide) rfl ?_
  refine r_iload_n hE 0 dX13_readBehind_g0.2.2.2.2.2.2.2.2.2.2.1 rfl rfl ?_
  refine r_if_le hE 119 dX13_readBehind_g0.2.2.2.2.2.2.2.2.2.2.2.1 (by decide) h (fun h => ?_) (fun h => ?_)
  · refine r_aload_n hE 1 dX13_readBehind_g4.2.2.2.2.1 rfl rfl ?_
    refine r_iconst (v := (1 : Int32)) hE dX13_readBehind_g4.2.2.2.2.2.1 (by decide) ?_
    refine m_callVv hE hm [.int (1 : Int32)] [] mc_close (km_close hm.2.2.2.2.2.2.2.2 h) (by decide) rfl rfl (Nat.le_of_ble_eq_true rfl) dX13_readBehind_g4.2.2.2.2.2.2.1 (fun s28 h => ?_)
    refine r_aload_n hE 1 dX13_readBehind_g4.2.2.2.2.2.2.2.1 rfl rfl ?_
    refine mg_waits hE hm dX13_readBehind_g4.2.2.2.2.2.2.2.2.1 ?_
    refine r_aload_n hE 1 dX13_readBehind_g4.2.2.2.2.2.2.2.2.2.1 rfl rfl ?_
    refine mg_waiting hE hm dX13_readBehind_g4.2.2.2.2.2.2.2.2.2.2.1 ?_
    refine r_iconst (v := (1 : Int32)) hE dX13_readBehind_g4.2.2.2.2.2.2.2.2.2.2.2.1 (by decide) ?_
    refine r_isub hE dX13_readBehind_g4.2.2.2.2.2.2.2.2.2.2.2.2.1 ?_
    obtain ⟨hi, h⟩ := h
    refine ml_waits hE hm dX13_readBehind_g4.2.2.2.2.2.2.2.2.2.2.2.2.2.1 hi ?_
    refine r_topi h (fun x29 ex29 h => ?_)
    refine r_istore_n hE [(2, .int x29), (1, .int t0), (0, .ref (G.1 0))] dX13_readBehind_g4.2.2.2.2.2.2.2.2.2.2.2.2.2.2.1 rfl hN (by decide) rfl ?_
    refine r_iload_n hE 0 dX13_readBehind_g4.2.2.2.2.2.2.2.2.2.2.2.2.2.2.2 rfl rfl ?_
    refine r_if_ne hE 142 dX13_readBehind_g5.1 (by decide) h (fun h => ?_) (fun h => ?_)
    · refine r_iload_n hE 0 dX13_readBehind_g5.2.2.2.1 rfl rfl ?_
      refine r_iconst (v := (3 : Int32)) hE dX13_readBehind_g5.2.2.2.2.1 (by decide) ?_
      refine r_icmp_ne hE 183 dX13_readBehind_g5.2.2.2.2.2.1 (by decide) h (fun h => ?_) (fun h => ?_)
      · refine r_pick [2, 0] rfl ?_
        exact km_readBehind_183 hE hm hF _ _ h
      · refine r_aload_n hE 2 dX13_readBehind_g5.2.2.2.2.2.2.1 rfl rfl ?_
        refine r_bipush (v := (41 : Int32)) hE dX13_readBehind_g5.2.2.2.2.2.2.2.1 (by decide) ?_
        refine m_callVi hE hm [.int (41 : Int32)] [] mc_isSignHere (km_isSignHere hm.2.2.2.2.2.2.2.2 h) (by decide) rfl rfl (Nat.le_of_ble_eq_true rfl) dX13_readBehind_g5.2.2.2.2.2.2.2.2.1 (fun s30 r31 h => ?_)
        refine r_if_eq hE 183 dX13_readBehind_g5.2.2.2.2.2.2.2.2.2.1 (by decide) h (fun h => ?_) (fun h => ?_)
        · refine r_pick [2, 0] rfl ?_
          exact km_readBehind_183 hE hm hF _ _ h
        · refine r_aload_n hE 2 dX13_readBehind_g5.2.2.2.2.2.2.2.2.2.2.1 rfl rfl ?_
          refine r_dup hE dX13_readBehind_g5.2.2.2.2.2.2.2.2.2.2.2.1 rfl ?_
          refine mg_waiting hE hm dX13_readBehind_g5.2.2.2.2.2.2.2.2.2.2.2.2.1 ?_
          refine r_iconst (v := (1 : Int32)) hE dX13_readBehind_g5.2.2.2.2.2.2.2.2.2.2.2.2.2.1 (by decide) ?_
          refine r_isub hE dX13_readBehind_g5.2.2.2.2.2.2.2.2.2.2.2.2.2.2.1 ?_
          refine mp_waiting hE hm dX13_readBehind_g5.2.2.2.2.2.2.2.2.2.2.2.2.2.2.2 h (fun s32 h => ?_)
          refine r_aload_n hE 2 dX13_readBehind_g6.1 rfl rfl ?_
          refine r_bipush (v := (41 : Int32)) hE dX13_readBehind_g6.2.1 (by decide) ?_
          refine m_callVv hE hm [.int (41 : Int32)] [] mc_shut (km_shut hm.2.2.2.2.2.2.2.2 h) (by decide) rfl rfl (Nat.le_of_ble_eq_true rfl) dX13_readBehind_g6.2.2.1 (fun s33 h => ?_)
          refine r_aload_n hE 2 dX13_readBehind_g6.2.2.2.1 rfl rfl ?_
          refine r_aload_n hE 2 dX13_readBehind_g6.2.2.2.2.1 rfl rfl ?_
          refine mg_operand hE hm dX13_readBehind_g6.2.2.2.2.2.1 ?_
          refine m_callVv hE hm [.int (m_operand s33)] [] mc_stand (km_stand hm.2.2.2.2.2.2.2.2 h) (by decide) rfl rfl (Nat.le_of_ble_eq_true rfl) dX13_readBehind_g6.2.2.2.2.2.2.1 (fun s34 h => ?_)
          refine r_goto hE 306 dX13_readBehind_g6.2.2.2.2.2.2.2.1 (by decide) ?_
          refine r_iconst (v := (1 : Int32)) hE dX13_readBehind_g10.2.2.2.2.2.2.2.1 (by decide) ?_
          exact m_zret hE hm hF dX13_readBehind_g10.2.2.2.2.2.2.2.2 (Or.inr rfl) h
    · refine r_iconst (v := (0 : Int32)) hE dX13_readBehind_g5.2.1 (by decide) ?_
      exact m_zret hE hm hF dX13_readBehind_g5.2.2.1 (Or.inl rfl) h
  · refine r_aload_n hE 1 dX13_readBehind_g0.2.2.2.2.2.2.2.2.2.2.2.2.1 rfl rfl ?_
    refine r_iload_n hE 0 dX13_readBehind_g0.2.2.2.2.2.2.2.2.2.2.2.2.2.1 rfl rfl ?_
    refine r_iconst (v := (1 : Int32)) hE dX13_readBehind_g0.2.2.2.2.2.2.2.2.2.2.2.2.2.2.1 (by decide) ?_
    refine r_icmp_ne hE 34 dX13_readBehind_g0.2.2.2.2.2.2.2.2.2.2.2.2.2.2.2 (by decide) h (fun h => ?_) (fun h => ?_)
    · refine r_iload_n hE 0 dX13_readBehind_g1.2.2.1 rfl rfl ?_
      refine r_pick [1, 0] rfl ?_
      exact km_readBehind_35 hE hm hF _ _ _ h
    · refine r_iconst (v := (2 : Int32)) hE dX13_readBehind_g1.1 (by decide) ?_
      refine r_goto hE 35 dX13_readBehind_g1.2.1 (by decide) ?_
      refine r_pick [1, 0] rfl ?_
      exact km_readBehind_35 hE hm hF _ _ _ h
def wm_readBehind (post : MS → Int32 → Prop) (σ : MS) : Prop := ((¬ ((m_token σ) = (3 : Int32))) → (wm_readBehind_19 post σ (0 : Int32))) ∧ (((m_token σ) = (3 : Int32)) → (wm_rankOf (fun (s35 : MS) (r36 : Int32) => wm_readBehind_19 post s35 r36) σ (m_sign σ)))
set_option maxRecDepth 20000 in
theorem km_readBehind {l : Launch} {D : va_G} {cl : List vw_C} {G : gAd} {post : MS → Int32 → Prop} (hcl : mC cl) {σ : MS} (h : wm_readBehind post σ) : mMet l D cl G yX13_readBehind cX13_readBehind 3 (some .boolean) 8 [.ref (G.1 0)] σ (qI post) := by
  unfold wm_readBehind at h
  refine m_enter hcl (by decide +kernel) rfl [(0, .ref (G.1 0))] rfl (Nat.le_of_ble_eq_true rfl) ?_
  intro E hE hm hF
  have hN := hm.2.2.2.2.2.2.1
  refine r_aload_n hE 0 dX13_readBehind_g0.1 rfl rfl ?_
  refine mg_token hE hm dX13_readBehind_g0.2.1 ?_
  refine r_iconst (v := (3 : Int32)) hE dX13_readBehind_g0.2.2.1 (by decide) ?_
  refine r_icmp_ne hE 18 dX13_readBehind_g0.2.2.2.1 (by decide) h (fun h => ?_) (fun h => ?_)
  · refine r_iconst (v := (0 : Int32)) hE dX13_readBehind_g0.2.2.2.2.2.2.2.2.1 (by decide) ?_
    exact km_readBehind_19 hE hm hF _ _ h
  · refine r_aload_n hE 0 dX13_readBehind_g0.2.2.2.2.1 rfl rfl ?_
    refine mg_sign hE hm dX13_readBehind_g0.2.2.2.2.2.1 ?_
    refine m_callSi hE hm [.int (m_sign σ)] [] mc_rankOf (km_rankOf hm.2.2.2.2.2.2.2.2 h) (by decide) rfl rfl (Nat.le_of_ble_eq_true rfl) dX13_readBehind_g0.2.2.2.2.2.2.1 (fun s35 r36 h => ?_)
    refine r_goto hE 19 dX13_readBehind_g0.2.2.2.2.2.2.2.1 (by decide) ?_
    exact km_readBehind_19 hE hm hF _ _ h
/-! wordOf11 -/
def wm_wordOf_toolList_118 (post : MS → Int32 → Prop) (lp7 : MS → Int32 → Int32 → Int32 → Prop) (σ : MS) (v2 : Int32) (v3 : Int32) (v4 : Int32) : Prop := ∀ x1 : Int32, x1 = v4 + (1 : Int32) → lp7 σ v2 v3 x1
set_option maxRecDepth 20000 in
theorem km_wordOf_toolList_118 {E : gEnv} {l : Launch} {D : va_G} {cl : List vw_C} {G : gAd} {post : MS → Int32 → Prop} (hE : gOK E cX13_wordOf RX13 (some .int) 1) (hm : mOK E l D cl G (qI post) 7) (hF : gFin E) {lp7 : MS → Int32 → Int32 → Int32 → Prop} (hl7 : ∀ (σ : MS) (v2 : Int32) (v3 : Int32) (v4 : Int32), lp7 σ v2 v3 v4 → GW E (mW G σ) 7 [(0, .ref (G.1 0)), (1, .ref (G.1 11)), (2, .int v2), (3, .int v3), (4, .int v4)] []) (σ : MS) (v2 : Int32) (v3 : Int32) (v4 : Int32) (h : wm_wordOf_toolList_118 post lp7 σ v2 v3 v4) : GW E (mW G σ) 118 [(0, .ref (G.1 0)), (1, .ref (G.1 11)), (2, .int v2), (3, .int v3), (4, .int v4)] [] := by
  unfold wm_wordOf_toolList_118 at h
  have hN := hm.2.2.2.2.2.2.1
  obtain ⟨x1, ex1⟩ : ∃ z : Int32, z = v4 + (1 : Int32) := ⟨_, rfl⟩
  have h := h x1 ex1
  refine r_iinc (v := x1) hE [(4, .int x1), (0, .ref (G.1 0)), (1, .ref (G.1 11)), (2, .int v2), (3, .int v3)] 4 dX13_wordOf_g4.2.2.1 rfl (by rw [ex1]; rfl) hN (by decide) rfl ?_
  refine r_goto hE 7 dX13_wordOf_g4.2.2.2.1 (by decide) ?_
  refine r_pick [1, 2, 3, 4, 0] rfl ?_
  exact hl7 _ _ _ _ h
def wm_wordOf_toolList_103 (post : MS → Int32 → Prop) (lp7 : MS → Int32 → Int32 → Int32 → Prop) (σ : MS) (v2 : Int32) (v4 : Int32) (v5 : Int32) : Prop := ((v5 = (0 : Int32)) → (∀ x2 : Int32, x2 = v2 + (1 : Int32) → ∀ x3 : Int32, x3 = v4 + (1 : Int32) → wm_wordOf_toolList_118 post lp7 σ x2 x3 v4)) ∧ ((¬ (v5 = (0 : Int32))) → (post σ v2))
set_option maxRecDepth 20000 in
theorem km_wordOf_toolList_103 {E : gEnv} {l : Launch} {D : va_G} {cl : List vw_C} {G : gAd} {post : MS → Int32 → Prop} (hE : gOK E cX13_wordOf RX13 (some .int) 1) (hm : mOK E l D cl G (qI post) 7) (hF : gFin E) {lp7 : MS → Int32 → Int32 → Int32 → Prop} (hl7 : ∀ (σ : MS) (v2 : Int32) (v3 : Int32) (v4 : Int32), lp7 σ v2 v3 v4 → GW E (mW G σ) 7 [(0, .ref (G.1 0)), (1, .ref (G.1 11)), (2, .int v2), (3, .int v3), (4, .int v4)] []) (σ : MS) (v2 : Int32) (v4 : Int32) (v5 : Int32) (h : wm_wordOf_toolList_103 post lp7 σ v2 v4 v5) : GW E (mW G σ) 103 [(0, .ref (G.1 0)), (1, .ref (G.1 11)), (2, .int v2), (4, .int v4), (5, .int v5)] [] := by
  unfold wm_wordOf_toolList_103 at h
  have hN := hm.2.2.2.2.2.2.1
  refine r_iload hE 4 dX13_wordOf_g3.2.2.2.2.2.2.2.2.2.1 rfl ?_
  refine r_if_eq hE 110 dX13_wordOf_g3.2.2.2.2.2.2.2.2.2.2.1 (by decide) h (fun h => ?_) (fun h => ?_)
  · obtain ⟨x2, ex2⟩ : ∃ z : Int32, z = v2 + (1 : Int32) := ⟨_, rfl⟩
    have h := h x2 ex2
    refine r_iinc (v := x2) hE [(2, .int x2), (0, .ref (G.1 0)), (1, .ref (G.1 11)), (4, .int v4), (5, .int v5)] 2 dX13_wordOf_g3.2.2.2.2.2.2.2.2.2.2.2.2.2.1 rfl (by rw [ex2]; rfl) hN (by decide) rfl ?_
    refine r_iload hE 3 dX13_wordOf_g3.2.2.2.2.2.2.2.2.2.2.2.2.2.2.1 rfl ?_
    refine r_iconst (v := (1 : Int32)) hE dX13_wordOf_g3.2.2.2.2.2.2.2.2.2.2.2.2.2.2.2 (by decide) ?_
    refine r_iadd hE dX13_wordOf_g4.1 ?_
    refine r_topi h (fun x3 ex3 h => ?_)
    refine r_istore_n hE [(3, .int x3), (2, .int x2), (0, .ref (G.1 0)), (1, .ref (G.1 11)), (4, .int v4), (5, .int v5)] dX13_wordOf_g4.2.1 rfl hN (by decide) rfl ?_
    refine r_pick [2, 3, 1, 0, 4] rfl ?_
    exact km_wordOf_toolList_118 hE hm hF hl7 _ _ _ _ h
  · refine r_iload_n hE 2 dX13_wordOf_g3.2.2.2.2.2.2.2.2.2.2.2.1 rfl rfl ?_
    exact m_iret hE hm hF dX13_wordOf_g3.2.2.2.2.2.2.2.2.2.2.2.2.1 h
def wm_wordOf_toolList_95 (post : MS → Int32 → Prop) (lp7 : MS → Int32 → Int32 → Int32 → Prop) (lp55 : MS → Int32 → Int32 → Int32 → Int32 → Int32 → Prop) (σ : MS) (v2 : Int32) (v3 : Int32) (v4 : Int32) (v6 : Int32) (t0 : Int32) : Prop := ∀ x4 : Int32, x4 = v6 + (1 : Int32) → lp55 σ v2 v3 v4 t0 x4
set_option maxRecDepth 20000 in
theorem km_wordOf_toolList_95 {E : gEnv} {l : Launch} {D : va_G} {cl : List vw_C} {G : gAd} {post : MS → Int32 → Prop} (hE : gOK E cX13_wordOf RX13 (some .int) 1) (hm : mOK E l D cl G (qI post) 7) (hF : gFin E) {lp7 : MS → Int32 → Int32 → Int32 → Prop} {lp55 : MS → Int32 → Int32 → Int32 → Int32 → Int32 → Prop} (hl7 : ∀ (σ : MS) (v2 : Int32) (v3 : Int32) (v4 : Int32), lp7 σ v2 v3 v4 → GW E (mW G σ) 7 [(0, .ref (G.1 0)), (1, .ref (G.1 11)), (2, .int v2), (3, .int v3), (4, .int v4)] []) (hl55 : ∀ (σ : MS) (v2 : Int32) (v3 : Int32) (v4 : Int32) (v5 : Int32) (v6 : Int32), lp55 σ v2 v3 v4 v5 v6 → GW E (mW G σ) 55 [(0, .ref (G.1 0)), (1, .ref (G.1 11)), (2, .int v2), (3, .int v3), (4, .int v4), (5, .int v5), (6, .int v6)] []) (σ : MS) (v2 : Int32) (v3 : Int32) (v4 : Int32) (v6 : Int32) (t0 : Int32) (h : wm_wordOf_toolList_95 post lp7 lp55 σ v2 v3 v4 v6 t0) : GW E (mW G σ) 95 [(0, .ref (G.1 0)), (1, .ref (G.1 11)), (2, .int v2), (3, .int v3), (4, .int v4), (6, .int v6)] [.int t0] := by
  unfold wm_wordOf_toolList_95 at h
  have hN := hm.2.2.2.2.2.2.1
  refine r_istore hE [(5, .int t0), (0, .ref (G.1 0)), (1, .ref (G.1 11)), (2, .int v2), (3, .int v3), (4, .int v4), (6, .int v6)] dX13_wordOf_g3.2.2.2.2.2.2.1 hN (by decide) rfl ?_
  obtain ⟨x4, ex4⟩ : ∃ z : Int32, z = v6 + (1 : Int32) := ⟨_, rfl⟩
  have h := h x4 ex4
  refine r_iinc (v := x4) hE [(6, .int x4), (5, .int t0), (0, .ref (G.1 0)), (1, .ref (G.1 11)), (2, .int v2), (3, .int v3), (4, .int v4)] 6 dX13_wordOf_g3.2.2.2.2.2.2.2.1 rfl (by rw [ex4]; rfl) hN (by decide) rfl ?_
  refine r_goto hE 55 dX13_wordOf_g3.2.2.2.2.2.2.2.2.1 (by decide) ?_
  refine r_pick [2, 3, 4, 5, 6, 1, 0] rfl ?_
  exact hl55 _ _ _ _ _ _ h
def wm_wordOf_toolList_55 (post : MS → Int32 → Prop) (lp7 : MS → Int32 → Int32 → Int32 → Prop) : Nat → MS → Int32 → Int32 → Int32 → Int32 → Int32 → Prop
  | 0, _, _, _, _, _, _ => False
  | n + 1, σ, v2, v3, v4, v5, v6 => (((m_tokenSize σ) ≤ v6) → (wm_wordOf_toolList_103 post lp7 σ v2 v4 v5)) ∧ ((¬ ((m_tokenSize σ) ≤ v6)) → (((v5 = (0 : Int32)) → (wm_wordOf_toolList_103 post lp7 σ v2 v4 v5)) ∧ ((¬ (v5 = (0 : Int32))) → (vp_in ((m_tokenAt σ) + v6) 3000 ∧ (vp_in (v3 + v6) 202 ∧ (((¬ ((m_tape σ ((m_tokenAt σ) + v6).toNatClampNeg) = (m_toolList σ (v3 + v6).toNatClampNeg))) → (wm_wordOf_toolList_95 post lp7 (fun (ys : MS) (y0 : Int32) (y1 : Int32) (y2 : Int32) (y3 : Int32) (y4 : Int32) => wm_wordOf_toolList_55 post lp7 n ys y0 y1 y2 y3 y4) σ v2 v3 v4 v6 (0 : Int32))) ∧ (((m_tape σ ((m_tokenAt σ) + v6).toNatClampNeg) = (m_toolList σ (v3 + v6).toNatClampNeg)) → (wm_wordOf_toolList_95 post lp7 (fun (ys : MS) (y0 : Int32) (y1 : Int32) (y2 : Int32) (y3 : Int32) (y4 : Int32) => wm_wordOf_toolList_55 post lp7 n ys y0 y1 y2 y3 y4) σ v2 v3 v4 v6 (1 : Int32)))))))))
set_option maxRecDepth 20000 in
theorem km_wordOf_toolList_55 {E : gEnv} {l : Launch} {D : va_G} {cl : List vw_C} {G : gAd} {post : MS → Int32 → Prop} (hE : gOK E cX13_wordOf RX13 (some .int) 1) (hm : mOK E l D cl G (qI post) 7) (hF : gFin E) {lp7 : MS → Int32 → Int32 → Int32 → Prop} (hl7 : ∀ (σ : MS) (v2 : Int32) (v3 : Int32) (v4 : Int32), lp7 σ v2 v3 v4 → GW E (mW G σ) 7 [(0, .ref (G.1 0)), (1, .ref (G.1 11)), (2, .int v2), (3, .int v3), (4, .int v4)] []) : ∀ (n : Nat) (σ : MS) (v2 : Int32) (v3 : Int32) (v4 : Int32) (v5 : Int32) (v6 : Int32), wm_wordOf_toolList_55 post lp7 n σ v2 v3 v4 v5 v6 → GW E (mW G σ) 55 [(0, .ref (G.1 0)), (1, .ref (G.1 11)), (2, .int v2), (3, .int v3), (4, .int v4), (5, .int v5), (6, .int v6)] [] := by
  intro n
  induction n with
  | zero => intro σ v2 v3 v4 v5 v6 h; exact h.elim
  | succ n ih =>
    intro σ v2 v3 v4 v5 v6 h
    rw [wm_wordOf_toolList_55] at h
    have hN := hm.2.2.2.2.2.2.1
    refine r_iload hE 6 dX13_wordOf_g2.1 rfl ?_
    refine r_aload_n hE 0 dX13_wordOf_g2.2.1 rfl rfl ?_
    refine mg_tokenSize hE hm dX13_wordOf_g2.2.2.1 ?_
    refine r_icmp_ge hE 103 dX13_wordOf_g2.2.2.2.1 (by decide) h (fun h => ?_) (fun h => ?_)
    · refine r_pick [0, 1, 2, 4, 5] rfl ?_
      exact km_wordOf_toolList_103 hE hm hF hl7 _ _ _ _ h
    · refine r_iload hE 5 dX13_wordOf_g2.2.2.2.2.1 rfl ?_
      refine r_if_eq hE 103 dX13_wordOf_g2.2.2.2.2.2.1 (by decide) h (fun h => ?_) (fun h => ?_)
      · refine r_pick [0, 1, 2, 4, 5] rfl ?_
        exact km_wordOf_toolList_103 hE hm hF hl7 _ _ _ _ h
      · refine r_aload_n hE 0 dX13_wordOf_g2.2.2.2.2.2.2.1 rfl rfl ?_
        refine mg_tape hE hm dX13_wordOf_g2.2.2.2.2.2.2.2.1 ?_
        refine r_aload_n hE 0 dX13_wordOf_g2.2.2.2.2.2.2.2.2.1 rfl rfl ?_
        refine mg_tokenAt hE hm dX13_wordOf_g2.2.2.2.2.2.2.2.2.2.1 ?_
        refine r_iload hE 6 dX13_wordOf_g2.2.2.2.2.2.2.2.2.2.2.1 rfl ?_
        refine r_iadd hE dX13_wordOf_g2.2.2.2.2.2.2.2.2.2.2.2.1 ?_
        obtain ⟨hi, h⟩ := h
        refine ml_tape hE hm dX13_wordOf_g2.2.2.2.2.2.2.2.2.2.2.2.2.1 hi ?_
        refine r_aload_n hE 1 dX13_wordOf_g2.2.2.2.2.2.2.2.2.2.2.2.2.2.1 rfl rfl ?_
        refine r_iload_n hE 3 dX13_wordOf_g2.2.2.2.2.2.2.2.2.2.2.2.2.2.2.1 rfl rfl ?_
        refine r_iload hE 6 dX13_wordOf_g2.2.2.2.2.2.2.2.2.2.2.2.2.2.2.2 rfl ?_
        refine r_iadd hE dX13_wordOf_g3.1 ?_
        obtain ⟨hi, h⟩ := h
        refine ml_toolList hE hm dX13_wordOf_g3.2.1 hi ?_
        refine r_icmp_ne hE 94 dX13_wordOf_g3.2.2.1 (by decide) h (fun h => ?_) (fun h => ?_)
        · refine r_iconst (v := (0 : Int32)) hE dX13_wordOf_g3.2.2.2.2.2.1 (by decide) ?_
          refine r_pick [0, 1, 2, 3, 4, 6] rfl ?_
          exact km_wordOf_toolList_95 hE hm hF hl7 ih _ _ _ _ _ _ h
        · refine r_iconst (v := (1 : Int32)) hE dX13_wordOf_g3.2.2.2.1 (by decide) ?_
          refine r_goto hE 95 dX13_wordOf_g3.2.2.2.2.1 (by decide) ?_
          refine r_pick [0, 1, 2, 3, 4, 6] rfl ?_
          exact km_wordOf_toolList_95 hE hm hF hl7 ih _ _ _ _ _ _ h
def wm_wordOf_toolList_50 (post : MS → Int32 → Prop) (lp7 : MS → Int32 → Int32 → Int32 → Prop) (σ : MS) (v2 : Int32) (v3 : Int32) (v4 : Int32) (t0 : Int32) : Prop := ∃ k : Nat, wm_wordOf_toolList_55 post lp7 k σ v2 v3 v4 t0 (0 : Int32)
set_option maxRecDepth 20000 in
theorem km_wordOf_toolList_50 {E : gEnv} {l : Launch} {D : va_G} {cl : List vw_C} {G : gAd} {post : MS → Int32 → Prop} (hE : gOK E cX13_wordOf RX13 (some .int) 1) (hm : mOK E l D cl G (qI post) 7) (hF : gFin E) {lp7 : MS → Int32 → Int32 → Int32 → Prop} (hl7 : ∀ (σ : MS) (v2 : Int32) (v3 : Int32) (v4 : Int32), lp7 σ v2 v3 v4 → GW E (mW G σ) 7 [(0, .ref (G.1 0)), (1, .ref (G.1 11)), (2, .int v2), (3, .int v3), (4, .int v4)] []) (σ : MS) (v2 : Int32) (v3 : Int32) (v4 : Int32) (t0 : Int32) (h : wm_wordOf_toolList_50 post lp7 σ v2 v3 v4 t0) : GW E (mW G σ) 50 [(0, .ref (G.1 0)), (1, .ref (G.1 11)), (2, .int v2), (3, .int v3), (4, .int v4)] [.int t0] := by
  unfold wm_wordOf_toolList_50 at h
  have hN := hm.2.2.2.2.2.2.1
  refine r_istore hE [(5, .int t0), (0, .ref (G.1 0)), (1, .ref (G.1 11)), (2, .int v2), (3, .int v3), (4, .int v4)] dX13_wordOf_g1.2.2.2.2.2.2.2.2.2.2.2.2.2.1 hN (by decide) rfl ?_
  refine r_iconst (v := (0 : Int32)) hE dX13_wordOf_g1.2.2.2.2.2.2.2.2.2.2.2.2.2.2.1 (by decide) ?_
  refine r_istore hE [(6, .int (0 : Int32)), (5, .int t0), (0, .ref (G.1 0)), (1, .ref (G.1 11)), (2, .int v2), (3, .int v3), (4, .int v4)] dX13_wordOf_g1.2.2.2.2.2.2.2.2.2.2.2.2.2.2.2 hN (by decide) rfl ?_
  refine r_pick [2, 3, 4, 5, 6, 1, 0] rfl ?_
  obtain ⟨k, h⟩ := h
  exact km_wordOf_toolList_55 hE hm hF hl7 k _ _ _ _ _ _ h
def wm_wordOf_toolList_49 (post : MS → Int32 → Prop) (lp7 : MS → Int32 → Int32 → Int32 → Prop) (σ : MS) (v2 : Int32) (v3 : Int32) (v4 : Int32) : Prop := wm_wordOf_toolList_50 post lp7 σ v2 v3 v4 (0 : Int32)
set_option maxRecDepth 20000 in
theorem km_wordOf_toolList_49 {E : gEnv} {l : Launch} {D : va_G} {cl : List vw_C} {G : gAd} {post : MS → Int32 → Prop} (hE : gOK E cX13_wordOf RX13 (some .int) 1) (hm : mOK E l D cl G (qI post) 7) (hF : gFin E) {lp7 : MS → Int32 → Int32 → Int32 → Prop} (hl7 : ∀ (σ : MS) (v2 : Int32) (v3 : Int32) (v4 : Int32), lp7 σ v2 v3 v4 → GW E (mW G σ) 7 [(0, .ref (G.1 0)), (1, .ref (G.1 11)), (2, .int v2), (3, .int v3), (4, .int v4)] []) (σ : MS) (v2 : Int32) (v3 : Int32) (v4 : Int32) (h : wm_wordOf_toolList_49 post lp7 σ v2 v3 v4) : GW E (mW G σ) 49 [(0, .ref (G.1 0)), (1, .ref (G.1 11)), (2, .int v2), (3, .int v3), (4, .int v4)] [] := by
  unfold wm_wordOf_toolList_49 at h
  have hN := hm.2.2.2.2.2.2.1
  refine r_iconst (v := (0 : Int32)) hE dX13_wordOf_g1.2.2.2.2.2.2.2.2.2.2.2.2.1 (by decide) ?_
  exact km_wordOf_toolList_50 hE hm hF hl7 _ _ _ _ _ h
def wm_wordOf_toolList_7 (post : MS → Int32 → Prop) : Nat → MS → Int32 → Int32 → Int32 → Prop
  | 0, _, _, _, _ => False
  | n + 1, σ, v2, v3, v4 => (((202 : Int32) ≤ v4) → (post σ (-1 : Int32))) ∧ ((¬ ((202 : Int32) ≤ v4)) → (vp_in v4 202 ∧ ((((m_toolList σ v4.toNatClampNeg) = (32 : Int32)) → (((¬ ((m_token σ) = (1 : Int32))) → (wm_wordOf_toolList_49 post (fun (ys : MS) (y0 : Int32) (y1 : Int32) (y2 : Int32) => wm_wordOf_toolList_7 post n ys y0 y1 y2) σ v2 v3 v4)) ∧ (((m_token σ) = (1 : Int32)) → (((¬ ((v4 - v3) = (m_tokenSize σ))) → (wm_wordOf_toolList_49 post (fun (ys : MS) (y0 : Int32) (y1 : Int32) (y2 : Int32) => wm_wordOf_toolList_7 post n ys y0 y1 y2) σ v2 v3 v4)) ∧ (((v4 - v3) = (m_tokenSize σ)) → (wm_wordOf_toolList_50 post (fun (ys : MS) (y0 : Int32) (y1 : Int32) (y2 : Int32) => wm_wordOf_toolList_7 post n ys y0 y1 y2) σ v2 v3 v4 (1 : Int32))))))) ∧ ((¬ ((m_toolList σ v4.toNatClampNeg) = (32 : Int32))) → (wm_wordOf_toolList_118 post (fun (ys : MS) (y0 : Int32) (y1 : Int32) (y2 : Int32) => wm_wordOf_toolList_7 post n ys y0 y1 y2) σ v2 v3 v4)))))
set_option maxRecDepth 20000 in
theorem km_wordOf_toolList_7 {E : gEnv} {l : Launch} {D : va_G} {cl : List vw_C} {G : gAd} {post : MS → Int32 → Prop} (hE : gOK E cX13_wordOf RX13 (some .int) 1) (hm : mOK E l D cl G (qI post) 7) (hF : gFin E) : ∀ (n : Nat) (σ : MS) (v2 : Int32) (v3 : Int32) (v4 : Int32), wm_wordOf_toolList_7 post n σ v2 v3 v4 → GW E (mW G σ) 7 [(0, .ref (G.1 0)), (1, .ref (G.1 11)), (2, .int v2), (3, .int v3), (4, .int v4)] [] := by
  intro n
  induction n with
  | zero => intro σ v2 v3 v4 h; exact h.elim
  | succ n ih =>
    intro σ v2 v3 v4 h
    rw [wm_wordOf_toolList_7] at h
    have hN := hm.2.2.2.2.2.2.1
    refine r_iload hE 4 dX13_wordOf_g0.2.2.2.2.2.2.1 rfl ?_
    refine r_aload_n hE 1 dX13_wordOf_g0.2.2.2.2.2.2.2.1 rfl rfl ?_
    refine mn_toolList hE hm dX13_wordOf_g0.2.2.2.2.2.2.2.2.1 ?_
    refine r_icmp_ge hE 124 dX13_wordOf_g0.2.2.2.2.2.2.2.2.2.1 (by decide) h (fun h => ?_) (fun h => ?_)
    · refine r_iconst (v := (-1 : Int32)) hE dX13_wordOf_g4.2.2.2.2.1 (by decide) ?_
      exact m_iret hE hm hF dX13_wordOf_g4.2.2.2.2.2 h
    · refine r_aload_n hE 1 dX13_wordOf_g0.2.2.2.2.2.2.2.2.2.2.1 rfl rfl ?_
      refine r_iload hE 4 dX13_wordOf_g0.2.2.2.2.2.2.2.2.2.2.2.1 rfl ?_
      obtain ⟨hi, h⟩ := h
      refine ml_toolList hE hm dX13_wordOf_g0.2.2.2.2.2.2.2.2.2.2.2.2.1 hi ?_
      refine r_bipush (v := (32 : Int32)) hE dX13_wordOf_g0.2.2.2.2.2.2.2.2.2.2.2.2.2.1 (by decide) ?_
      refine r_icmp_eq hE 26 dX13_wordOf_g0.2.2.2.2.2.2.2.2.2.2.2.2.2.2.1 (by decide) h (fun h => ?_) (fun h => ?_)
      · refine r_aload_n hE 0 dX13_wordOf_g1.1 rfl rfl ?_
        refine mg_token hE hm dX13_wordOf_g1.2.1 ?_
        refine r_iconst (v := (1 : Int32)) hE dX13_wordOf_g1.2.2.1 (by decide) ?_
        refine r_icmp_ne hE 49 dX13_wordOf_g1.2.2.2.1 (by decide) h (fun h => ?_) (fun h => ?_)
        · exact km_wordOf_toolList_49 hE hm hF ih _ _ _ _ h
        · refine r_iload hE 4 dX13_wordOf_g1.2.2.2.2.1 rfl ?_
          refine r_iload_n hE 3 dX13_wordOf_g1.2.2.2.2.2.1 rfl rfl ?_
          refine r_isub hE dX13_wordOf_g1.2.2.2.2.2.2.1 ?_
          refine r_aload_n hE 0 dX13_wordOf_g1.2.2.2.2.2.2.2.1 rfl rfl ?_
          refine mg_tokenSize hE hm dX13_wordOf_g1.2.2.2.2.2.2.2.2.1 ?_
          refine r_icmp_ne hE 49 dX13_wordOf_g1.2.2.2.2.2.2.2.2.2.1 (by decide) h (fun h => ?_) (fun h => ?_)
          · exact km_wordOf_toolList_49 hE hm hF ih _ _ _ _ h
          · refine r_iconst (v := (1 : Int32)) hE dX13_wordOf_g1.2.2.2.2.2.2.2.2.2.2.1 (by decide) ?_
            refine r_goto hE 50 dX13_wordOf_g1.2.2.2.2.2.2.2.2.2.2.2.1 (by decide) ?_
            exact km_wordOf_toolList_50 hE hm hF ih _ _ _ _ _ h
      · refine r_goto hE 118 dX13_wordOf_g0.2.2.2.2.2.2.2.2.2.2.2.2.2.2.2 (by decide) ?_
        exact km_wordOf_toolList_118 hE hm hF ih _ _ _ _ h
def wm_wordOf_toolList (post : MS → Int32 → Prop) (σ : MS) : Prop := ∃ k : Nat, wm_wordOf_toolList_7 post k σ (0 : Int32) (0 : Int32) (0 : Int32)
set_option maxRecDepth 20000 in
theorem km_wordOf_toolList {l : Launch} {D : va_G} {cl : List vw_C} {G : gAd} {post : MS → Int32 → Prop} (hcl : mC cl) {σ : MS} (h : wm_wordOf_toolList post σ) : mMet l D cl G yX13_wordOf cX13_wordOf 7 (some .int) 1 [.ref (G.1 0), .ref (G.1 11)] σ (qI post) := by
  unfold wm_wordOf_toolList at h
  refine m_enter hcl (by decide +kernel) rfl [(0, .ref (G.1 0)), (1, .ref (G.1 11))] rfl (Nat.le_of_ble_eq_true rfl) ?_
  intro E hE hm hF
  have hN := hm.2.2.2.2.2.2.1
  refine r_iconst (v := (0 : Int32)) hE dX13_wordOf_g0.1 (by decide) ?_
  refine r_istore_n hE [(2, .int (0 : Int32)), (0, .ref (G.1 0)), (1, .ref (G.1 11))] dX13_wordOf_g0.2.1 rfl hN (by decide) rfl ?_
  refine r_iconst (v := (0 : Int32)) hE dX13_wordOf_g0.2.2.1 (by decide) ?_
  refine r_istore_n hE [(3, .int (0 : Int32)), (2, .int (0 : Int32)), (0, .ref (G.1 0)), (1, .ref (G.1 11))] dX13_wordOf_g0.2.2.2.1 rfl hN (by decide) rfl ?_
  refine r_iconst (v := (0 : Int32)) hE dX13_wordOf_g0.2.2.2.2.1 (by decide) ?_
  refine r_istore hE [(4, .int (0 : Int32)), (3, .int (0 : Int32)), (2, .int (0 : Int32)), (0, .ref (G.1 0)), (1, .ref (G.1 11))] dX13_wordOf_g0.2.2.2.2.2.1 hN (by decide) rfl ?_
  refine r_pick [3, 4, 2, 1, 0] rfl ?_
  obtain ⟨k, h⟩ := h
  exact km_wordOf_toolList_7 hE hm hF k _ _ _ _ h
/-! readCall -/
def wm_readCall_65 (post : MS → Prop) (σ : MS) (v1 : Int32) (t1 : Int32) (t2 : Int32) : Prop := vp_in t1 600 ∧ (∀ s1 : MS, s1 = m_one_s σ t1.toNatClampNeg t2 → wm_next (fun (s2 : MS) => wm_open (fun (s3 : MS) => wm_wait (fun (s4 : MS) => wm_fine (fun (s5 : MS) (r6 : Int32) => ((r6 = (0 : Int32)) → (post s5)) ∧ ((¬ (r6 = (0 : Int32))) → (wm_isSignHere (fun (s7 : MS) (r8 : Int32) => ((r8 = (0 : Int32)) → (post s7)) ∧ ((¬ (r8 = (0 : Int32))) → (wm_endCall (fun (s9 : MS) => post s9) s7))) s5 (41 : Int32)))) s4) s3 (4 : Int32) v1) s2 (40 : Int32)) s1)
set_option maxRecDepth 20000 in
theorem km_readCall_65 {E : gEnv} {l : Launch} {D : va_G} {cl : List vw_C} {G : gAd} {post : MS → Prop} (hE : gOK E cX13_readCall RX13 none 8) (hm : mOK E l D cl G (qV post) 4) (hF : gFin E) (σ : MS) (v1 : Int32) (t1 : Int32) (t2 : Int32) (h : wm_readCall_65 post σ v1 t1 t2) : GW E (mW G σ) 65 [(0, .ref (G.1 0)), (1, .int v1)] [.int t2, .int t1, .ref (G.1 14)] := by
  unfold wm_readCall_65 at h
  have hN := hm.2.2.2.2.2.2.1
  obtain ⟨hi, h⟩ := h
  refine ms_one hE hm dX13_readCall_g2.2.2.2.2.2.1 hi h (fun s1 h => ?_)
  refine r_aload_n hE 0 dX13_readCall_g2.2.2.2.2.2.2.1 rfl rfl ?_
  refine m_callVv hE hm [] [] mc_next (km_next hm.2.2.2.2.2.2.2.2 h) (by decide) rfl rfl (Nat.le_of_ble_eq_true rfl) dX13_readCall_g2.2.2.2.2.2.2.2.1 (fun s2 h => ?_)
  refine r_aload_n hE 0 dX13_readCall_g2.2.2.2.2.2.2.2.2.1 rfl rfl ?_
  refine r_bipush (v := (40 : Int32)) hE dX13_readCall_g2.2.2.2.2.2.2.2.2.2.1 (by decide) ?_
  refine m_callVv hE hm [.int (40 : Int32)] [] mc_open (km_open hm.2.2.2.2.2.2.2.2 h) (by decide) rfl rfl (Nat.le_of_ble_eq_true rfl) dX13_readCall_g2.2.2.2.2.2.2.2.2.2.2.1 (fun s3 h => ?_)
  refine r_aload_n hE 0 dX13_readCall_g2.2.2.2.2.2.2.2.2.2.2.2.1 rfl rfl ?_
  refine r_iconst (v := (4 : Int32)) hE dX13_readCall_g2.2.2.2.2.2.2.2.2.2.2.2.2.1 (by decide) ?_
  refine r_iload_n hE 1 dX13_readCall_g2.2.2.2.2.2.2.2.2.2.2.2.2.2.1 rfl rfl ?_
  refine m_callVv hE hm [.int (4 : Int32), .int v1] [] mc_wait (km_wait hm.2.2.2.2.2.2.2.2 h) (by decide) rfl rfl (Nat.le_of_ble_eq_true rfl) dX13_readCall_g2.2.2.2.2.2.2.2.2.2.2.2.2.2.2.1 (fun s4 h => ?_)
  refine r_aload_n hE 0 dX13_readCall_g2.2.2.2.2.2.2.2.2.2.2.2.2.2.2.2 rfl rfl ?_
  refine m_callVi hE hm [] [] mc_fine (km_fine hm.2.2.2.2.2.2.2.2 h) (by decide) rfl rfl (Nat.le_of_ble_eq_true rfl) dX13_readCall_g3.1 (fun s5 r6 h => ?_)
  refine r_if_eq hE 102 dX13_readCall_g3.2.1 (by decide) h (fun h => ?_) (fun h => ?_)
  · exact m_vret hE hm hF dX13_readCall_g3.2.2.2.2.2.2.2.2 h
  · refine r_aload_n hE 0 dX13_readCall_g3.2.2.1 rfl rfl ?_
    refine r_bipush (v := (41 : Int32)) hE dX13_readCall_g3.2.2.2.1 (by decide) ?_
    refine m_callVi hE hm [.int (41 : Int32)] [] mc_isSignHere (km_isSignHere hm.2.2.2.2.2.2.2.2 h) (by decide) rfl rfl (Nat.le_of_ble_eq_true rfl) dX13_readCall_g3.2.2.2.2.1 (fun s7 r8 h => ?_)
    refine r_if_eq hE 102 dX13_readCall_g3.2.2.2.2.2.1 (by decide) h (fun h => ?_) (fun h => ?_)
    · exact m_vret hE hm hF dX13_readCall_g3.2.2.2.2.2.2.2.2 h
    · refine r_aload_n hE 0 dX13_readCall_g3.2.2.2.2.2.2.1 rfl rfl ?_
      refine m_callVv hE hm [] [] mc_endCall (km_endCall hm.2.2.2.2.2.2.2.2 h) (by decide) rfl rfl (Nat.le_of_ble_eq_true rfl) dX13_readCall_g3.2.2.2.2.2.2.2.1 (fun s9 h => ?_)
      exact m_vret hE hm hF dX13_readCall_g3.2.2.2.2.2.2.2.2 h
def wm_readCall_40 (post : MS → Prop) (σ : MS) (v1 : Int32) (v2 : Int32) (v3 : Int32) : Prop := vp_in v1 600 ∧ (∀ s10 : MS, s10 = m_kind_s σ v1.toNatClampNeg (10 : Int32) → ((v2 < (0 : Int32)) → (wm_readCall_65 post s10 v1 v1 ((100 : Int32) + v3))) ∧ ((¬ (v2 < (0 : Int32))) → (wm_readCall_65 post s10 v1 v1 v2)))
set_option maxRecDepth 20000 in
theorem km_readCall_40 {E : gEnv} {l : Launch} {D : va_G} {cl : List vw_C} {G : gAd} {post : MS → Prop} (hE : gOK E cX13_readCall RX13 none 8) (hm : mOK E l D cl G (qV post) 4) (hF : gFin E) (σ : MS) (v1 : Int32) (v2 : Int32) (v3 : Int32) (h : wm_readCall_40 post σ v1 v2 v3) : GW E (mW G σ) 40 [(0, .ref (G.1 0)), (1, .int v1), (2, .int v2), (3, .int v3)] [] := by
  unfold wm_readCall_40 at h
  have hN := hm.2.2.2.2.2.2.1
  refine r_aload_n hE 0 dX13_readCall_g1.2.2.2.2.2.2.1 rfl rfl ?_
  refine mg_kind hE hm dX13_readCall_g1.2.2.2.2.2.2.2.1 ?_
  refine r_iload_n hE 1 dX13_readCall_g1.2.2.2.2.2.2.2.2.1 rfl rfl ?_
  refine r_bipush (v := (10 : Int32)) hE dX13_readCall_g1.2.2.2.2.2.2.2.2.2.1 (by decide) ?_
  obtain ⟨hi, h⟩ := h
  refine ms_kind hE hm dX13_readCall_g1.2.2.2.2.2.2.2.2.2.2.1 hi h (fun s10 h => ?_)
  refine r_aload_n hE 0 dX13_readCall_g1.2.2.2.2.2.2.2.2.2.2.2.1 rfl rfl ?_
  refine mg_one hE hm dX13_readCall_g1.2.2.2.2.2.2.2.2.2.2.2.2.1 ?_
  refine r_iload_n hE 1 dX13_readCall_g1.2.2.2.2.2.2.2.2.2.2.2.2.2.1 rfl rfl ?_
  refine r_iload_n hE 2 dX13_readCall_g1.2.2.2.2.2.2.2.2.2.2.2.2.2.2.1 rfl rfl ?_
  refine r_if_lt hE 61 dX13_readCall_g1.2.2.2.2.2.2.2.2.2.2.2.2.2.2.2 (by decide) h (fun h => ?_) (fun h => ?_)
  · refine r_bipush (v := (100 : Int32)) hE dX13_readCall_g2.2.2.1 (by decide) ?_
    refine r_iload_n hE 3 dX13_readCall_g2.2.2.2.1 rfl rfl ?_
    refine r_iadd hE dX13_readCall_g2.2.2.2.2.1 ?_
    refine r_pick [0, 1] rfl ?_
    exact km_readCall_65 hE hm hF _ _ _ _ h
  · refine r_iload_n hE 2 dX13_readCall_g2.1 rfl rfl ?_
    refine r_goto hE 65 dX13_readCall_g2.2.1 (by decide) ?_
    refine r_pick [0, 1] rfl ?_
    exact km_readCall_65 hE hm hF _ _ _ _ h
def wm_readCall_21 (post : MS → Prop) (σ : MS) (v1 : Int32) (v2 : Int32) (t0 : Int32) : Prop := (((0 : Int32) ≤ v2) → (wm_readCall_40 post σ v1 v2 t0)) ∧ ((¬ ((0 : Int32) ≤ v2)) → ((((0 : Int32) ≤ t0) → (wm_readCall_40 post σ v1 v2 t0)) ∧ ((¬ ((0 : Int32) ≤ t0)) → (wm_wrong (fun (s11 : MS) => post s11) σ (5 : Int32) (m_tokenAt σ)))))
set_option maxRecDepth 20000 in
theorem km_readCall_21 {E : gEnv} {l : Launch} {D : va_G} {cl : List vw_C} {G : gAd} {post : MS → Prop} (hE : gOK E cX13_readCall RX13 none 8) (hm : mOK E l D cl G (qV post) 4) (hF : gFin E) (σ : MS) (v1 : Int32) (v2 : Int32) (t0 : Int32) (h : wm_readCall_21 post σ v1 v2 t0) : GW E (mW G σ) 21 [(0, .ref (G.1 0)), (1, .int v1), (2, .int v2)] [.int t0] := by
  unfold wm_readCall_21 at h
  have hN := hm.2.2.2.2.2.2.1
  refine r_istore_n hE [(3, .int t0), (0, .ref (G.1 0)), (1, .int v1), (2, .int v2)] dX13_readCall_g0.2.2.2.2.2.2.2.2.2.2.2.1 rfl hN (by decide) rfl ?_
  refine r_iload_n hE 3 dX13_readCall_g0.2.2.2.2.2.2.2.2.2.2.2.2.1 rfl rfl ?_
  refine r_if_ge hE 40 dX13_readCall_g0.2.2.2.2.2.2.2.2.2.2.2.2.2.1 (by decide) h (fun h => ?_) (fun h => ?_)
  · refine r_pick [1, 2, 3, 0] rfl ?_
    exact km_readCall_40 hE hm hF _ _ _ _ h
  · refine r_iload_n hE 0 dX13_readCall_g0.2.2.2.2.2.2.2.2.2.2.2.2.2.2.1 rfl rfl ?_
    refine r_if_ge hE 40 dX13_readCall_g0.2.2.2.2.2.2.2.2.2.2.2.2.2.2.2 (by decide) h (fun h => ?_) (fun h => ?_)
    · refine r_pick [1, 2, 3, 0] rfl ?_
      exact km_readCall_40 hE hm hF _ _ _ _ h
    · refine r_aload_n hE 1 dX13_readCall_g1.1 rfl rfl ?_
      refine r_iconst (v := (5 : Int32)) hE dX13_readCall_g1.2.1 (by decide) ?_
      refine r_aload_n hE 1 dX13_readCall_g1.2.2.1 rfl rfl ?_
      refine mg_tokenAt hE hm dX13_readCall_g1.2.2.2.1 ?_
      refine m_callVv hE hm [.int (5 : Int32), .int (m_tokenAt σ)] [] mc_wrong (km_wrong hm.2.2.2.2.2.2.2.2 h) (by decide) rfl rfl (Nat.le_of_ble_eq_true rfl) dX13_readCall_g1.2.2.2.2.1 (fun s11 h => ?_)
      exact m_vret hE hm hF dX13_readCall_g1.2.2.2.2.2.1 h
def wm_readCall (post : MS → Prop) (σ : MS) (a1 : Int32) : Prop := wm_wordOf_toolList (fun (s12 : MS) (r13 : Int32) => (((0 : Int32) ≤ r13) → (wm_readCall_21 post s12 a1 r13 (-1 : Int32))) ∧ ((¬ ((0 : Int32) ≤ r13)) → (wm_macroHere (fun (s14 : MS) (r15 : Int32) => wm_readCall_21 post s14 a1 r13 r15) s12))) σ
set_option maxRecDepth 20000 in
theorem km_readCall {l : Launch} {D : va_G} {cl : List vw_C} {G : gAd} {post : MS → Prop} (hcl : mC cl) {σ : MS} {a1 : Int32} (h : wm_readCall post σ a1) : mMet l D cl G yX13_readCall cX13_readCall 4 none 8 [.ref (G.1 0), .int a1] σ (qV post) := by
  unfold wm_readCall at h
  refine m_enter hcl (by decide +kernel) rfl [(0, .ref (G.1 0)), (1, .int a1)] rfl (Nat.le_of_ble_eq_true rfl) ?_
  intro E hE hm hF
  have hN := hm.2.2.2.2.2.2.1
  refine r_aload_n hE 0 dX13_readCall_g0.1 rfl rfl ?_
  refine r_aload_n hE 0 dX13_readCall_g0.2.1 rfl rfl ?_
  refine mg_toolList hE hm dX13_readCall_g0.2.2.1 ?_
  refine m_callVi hE hm [.ref (G.1 11)] [] mc_wordOf (km_wordOf_toolList hm.2.2.2.2.2.2.2.2 h) (by decide) rfl rfl (Nat.le_of_ble_eq_true rfl) dX13_readCall_g0.2.2.2.1 (fun s12 r13 h => ?_)
  refine r_istore_n hE [(2, .int r13), (0, .ref (G.1 0)), (1, .int a1)] dX13_readCall_g0.2.2.2.2.1 rfl hN (by decide) rfl ?_
  refine r_iload_n hE 0 dX13_readCall_g0.2.2.2.2.2.1 rfl rfl ?_
  refine r_if_ge hE 20 dX13_readCall_g0.2.2.2.2.2.2.1 (by decide) h (fun h => ?_) (fun h => ?_)
  · refine r_iconst (v := (-1 : Int32)) hE dX13_readCall_g0.2.2.2.2.2.2.2.2.2.2.1 (by decide) ?_
    refine r_pick [1, 2, 0] rfl ?_
    exact km_readCall_21 hE hm hF _ _ _ _ h
  · refine r_aload_n hE 1 dX13_readCall_g0.2.2.2.2.2.2.2.1 rfl rfl ?_
    refine m_callVi hE hm [] [] mc_macroHere (km_macroHere hm.2.2.2.2.2.2.2.2 h) (by decide) rfl rfl (Nat.le_of_ble_eq_true rfl) dX13_readCall_g0.2.2.2.2.2.2.2.2.1 (fun s14 r15 h => ?_)
    refine r_goto hE 21 dX13_readCall_g0.2.2.2.2.2.2.2.2.2.1 (by decide) ?_
    refine r_pick [1, 2, 0] rfl ?_
    exact km_readCall_21 hE hm hF _ _ _ _ h
/-! readNamed -/
def wm_readNamed (post : MS → Prop) (σ : MS) (a1 : Int32) : Prop := wm_behind (fun (s1 : MS) (r2 : Int32) => ((¬ (r2 = (40 : Int32))) → (wm_nameHere (fun (s3 : MS) (r4 : Int32) => vp_in a1 600 ∧ (∀ s5 : MS, s5 = m_one_s s3 a1.toNatClampNeg r4 → vp_in a1 600 ∧ ((((0 : Int32) ≤ (m_one s5 a1.toNatClampNeg)) → (wm_next (fun (s6 : MS) => ((¬ (r2 = (91 : Int32))) → (wm_stand (fun (s7 : MS) => post s7) s6 a1)) ∧ ((r2 = (91 : Int32)) → (vp_in a1 600 ∧ (∀ s8 : MS, s8 = m_kind_s s6 a1.toNatClampNeg (9 : Int32) → wm_open (fun (s9 : MS) => wm_wait (fun (s10 : MS) => post s10) s9 (5 : Int32) a1) s8 (91 : Int32))))) s5)) ∧ ((¬ ((0 : Int32) ≤ (m_one s5 a1.toNatClampNeg))) → (wm_wrong (fun (s11 : MS) => post s11) s5 (5 : Int32) (m_tokenAt s5)))))) s1)) ∧ ((r2 = (40 : Int32)) → (wm_readCall (fun (s12 : MS) => post s12) s1 a1))) σ
set_option maxRecDepth 20000 in
theorem km_readNamed {l : Launch} {D : va_G} {cl : List vw_C} {G : gAd} {post : MS → Prop} (hcl : mC cl) {σ : MS} {a1 : Int32} (h : wm_readNamed post σ a1) : mMet l D cl G yX13_readNamed cX13_readNamed 3 none 9 [.ref (G.1 0), .int a1] σ (qV post) := by
  unfold wm_readNamed at h
  refine m_enter hcl (by decide +kernel) rfl [(0, .ref (G.1 0)), (1, .int a1)] rfl (Nat.le_of_ble_eq_true rfl) ?_
  intro E hE hm hF
  have hN := hm.2.2.2.2.2.2.1
  refine r_aload_n hE 0 dX13_readNamed_g0.1 rfl rfl ?_
  refine m_callVi hE hm [] [] mc_behind (km_behind hm.2.2.2.2.2.2.2.2 h) (by decide) rfl rfl (Nat.le_of_ble_eq_true rfl) dX13_readNamed_g0.2.1 (fun s1 r2 h => ?_)
  refine r_istore_n hE [(2, .int r2), (0, .ref (G.1 0)), (1, .int a1)] dX13_readNamed_g0.2.2.1 rfl hN (by decide) rfl ?_
  refine r_iload_n hE 0 dX13_readNamed_g0.2.2.2.1 rfl rfl ?_
  refine r_bipush (v := (40 : Int32)) hE dX13_readNamed_g0.2.2.2.2.1 (by decide) ?_
  refine r_icmp_ne hE 17 dX13_readNamed_g0.2.2.2.2.2.1 (by decide) h (fun h => ?_) (fun h => ?_)
  · refine r_aload_n hE 1 dX13_readNamed_g0.2.2.2.2.2.2.2.2.2.2.1 rfl rfl ?_
    refine mg_one hE hm dX13_readNamed_g0.2.2.2.2.2.2.2.2.2.2.2.1 ?_
    refine r_iload_n hE 2 dX13_readNamed_g0.2.2.2.2.2.2.2.2.2.2.2.2.1 rfl rfl ?_
    refine r_aload_n hE 1 dX13_readNamed_g0.2.2.2.2.2.2.2.2.2.2.2.2.2.1 rfl rfl ?_
    refine m_callVi hE hm [] [.int a1, .ref (G.1 14)] mc_nameHere (km_nameHere hm.2.2.2.2.2.2.2.2 h) (by decide) rfl rfl (Nat.le_of_ble_eq_true rfl) dX13_readNamed_g0.2.2.2.2.2.2.2.2.2.2.2.2.2.2.1 (fun s3 r4 h => ?_)
    obtain ⟨hi, h⟩ := h
    refine ms_one hE hm dX13_readNamed_g0.2.2.2.2.2.2.2.2.2.2.2.2.2.2.2 hi h (fun s5 h => ?_)
    refine r_aload_n hE 1 dX13_readNamed_g1.1 rfl rfl ?_
    refine mg_one hE hm dX13_readNamed_g1.2.1 ?_
    refine r_iload_n hE 2 dX13_readNamed_g1.2.2.1 rfl rfl ?_
    obtain ⟨hi, h⟩ := h
    refine ml_one hE hm dX13_readNamed_g1.2.2.2.1 hi ?_
    refine r_if_ge hE 46 dX13_readNamed_g1.2.2.2.2.1 (by decide) h (fun h => ?_) (fun h => ?_)
    · refine r_aload_n hE 1 dX13_readNamed_g1.2.2.2.2.2.2.2.2.2.2.2.1 rfl rfl ?_
      refine m_callVv hE hm [] [] mc_next (km_next hm.2.2.2.2.2.2.2.2 h) (by decide) rfl rfl (Nat.le_of_ble_eq_true rfl) dX13_readNamed_g1.2.2.2.2.2.2.2.2.2.2.2.2.1 (fun s6 h => ?_)
      refine r_iload_n hE 0 dX13_readNamed_g1.2.2.2.2.2.2.2.2.2.2.2.2.2.1 rfl rfl ?_
      refine r_bipush (v := (91 : Int32)) hE dX13_readNamed_g1.2.2.2.2.2.2.2.2.2.2.2.2.2.2.1 (by decide) ?_
      refine r_icmp_ne hE 79 dX13_readNamed_g1.2.2.2.2.2.2.2.2.2.2.2.2.2.2.2 (by decide) h (fun h => ?_) (fun h => ?_)
      · refine r_aload_n hE 1 dX13_readNamed_g2.2.2.2.2.2.2.2.2.2.2.2.2.2.1 rfl rfl ?_
        refine r_iload_n hE 2 dX13_readNamed_g2.2.2.2.2.2.2.2.2.2.2.2.2.2.2.1 rfl rfl ?_
        refine m_callVv hE hm [.int a1] [] mc_stand (km_stand hm.2.2.2.2.2.2.2.2 h) (by decide) rfl rfl (Nat.le_of_ble_eq_true rfl) dX13_readNamed_g2.2.2.2.2.2.2.2.2.2.2.2.2.2.2.2 (fun s7 h => ?_)
        exact m_vret hE hm hF dX13_readNamed_g3 h
      · refine r_aload_n hE 1 dX13_readNamed_g2.1 rfl rfl ?_
        refine mg_kind hE hm dX13_readNamed_g2.2.1 ?_
        refine r_iload_n hE 2 dX13_readNamed_g2.2.2.1 rfl rfl ?_
        refine r_bipush (v := (9 : Int32)) hE dX13_readNamed_g2.2.2.2.1 (by decide) ?_
        obtain ⟨hi, h⟩ := h
        refine ms_kind hE hm dX13_readNamed_g2.2.2.2.2.1 hi h (fun s8 h => ?_)
        refine r_aload_n hE 1 dX13_readNamed_g2.2.2.2.2.2.1 rfl rfl ?_
        refine r_bipush (v := (91 : Int32)) hE dX13_readNamed_g2.2.2.2.2.2.2.1 (by decide) ?_
        refine m_callVv hE hm [.int (91 : Int32)] [] mc_open (km_open hm.2.2.2.2.2.2.2.2 h) (by decide) rfl rfl (Nat.le_of_ble_eq_true rfl) dX13_readNamed_g2.2.2.2.2.2.2.2.1 (fun s9 h => ?_)
        refine r_aload_n hE 1 dX13_readNamed_g2.2.2.2.2.2.2.2.2.1 rfl rfl ?_
        refine r_iconst (v := (5 : Int32)) hE dX13_readNamed_g2.2.2.2.2.2.2.2.2.2.1 (by decide) ?_
        refine r_iload_n hE 2 dX13_readNamed_g2.2.2.2.2.2.2.2.2.2.2.1 rfl rfl ?_
        refine m_callVv hE hm [.int (5 : Int32), .int a1] [] mc_wait (km_wait hm.2.2.2.2.2.2.2.2 h) (by decide) rfl rfl (Nat.le_of_ble_eq_true rfl) dX13_readNamed_g2.2.2.2.2.2.2.2.2.2.2.2.1 (fun s10 h => ?_)
        refine r_goto hE 84 dX13_readNamed_g2.2.2.2.2.2.2.2.2.2.2.2.2.1 (by decide) ?_
        exact m_vret hE hm hF dX13_readNamed_g3 h
    · refine r_aload_n hE 1 dX13_readNamed_g1.2.2.2.2.2.1 rfl rfl ?_
      refine r_iconst (v := (5 : Int32)) hE dX13_readNamed_g1.2.2.2.2.2.2.1 (by decide) ?_
      refine r_aload_n hE 1 dX13_readNamed_g1.2.2.2.2.2.2.2.1 rfl rfl ?_
      refine mg_tokenAt hE hm dX13_readNamed_g1.2.2.2.2.2.2.2.2.1 ?_
      refine m_callVv hE hm [.int (5 : Int32), .int (m_tokenAt s5)] [] mc_wrong (km_wrong hm.2.2.2.2.2.2.2.2 h) (by decide) rfl rfl (Nat.le_of_ble_eq_true rfl) dX13_readNamed_g1.2.2.2.2.2.2.2.2.2.1 (fun s11 h => ?_)
      exact m_vret hE hm hF dX13_readNamed_g1.2.2.2.2.2.2.2.2.2.2.1 h
  · refine r_aload_n hE 1 dX13_readNamed_g0.2.2.2.2.2.2.1 rfl rfl ?_
    refine r_iload_n hE 2 dX13_readNamed_g0.2.2.2.2.2.2.2.1 rfl rfl ?_
    refine m_callVv hE hm [.int a1] [] mc_readCall (km_readCall hm.2.2.2.2.2.2.2.2 h) (by decide) rfl rfl (Nat.le_of_ble_eq_true rfl) dX13_readNamed_g0.2.2.2.2.2.2.2.2.1 (fun s12 h => ?_)
    exact m_vret hE hm hF dX13_readNamed_g0.2.2.2.2.2.2.2.2.2.1 h
/-! readOne -/
def wm_readOne_78 (post : MS → Prop) (σ : MS) (v1 : Int32) (t1 : Int32) : Prop := wm_newNode (fun (s1 : MS) (r2 : Int32) => wm_fine (fun (s3 : MS) (r4 : Int32) => ((¬ (r4 = (0 : Int32))) → (((v1 = (0 : Int32)) → (((¬ ((m_token s3) = (2 : Int32))) → (wm_readNamed (fun (s5 : MS) => post s5) s3 r2)) ∧ (((m_token s3) = (2 : Int32)) → (vp_in r2 600 ∧ (∀ s6 : MS, s6 = m_value_s s3 r2.toNatClampNeg (m_digits s3) → wm_next (fun (s7 : MS) => wm_stand (fun (s8 : MS) => post s8) s7 r2) s6))))) ∧ ((¬ (v1 = (0 : Int32))) → (wm_next (fun (s9 : MS) => wm_wait (fun (s10 : MS) => post s10) s9 (2 : Int32) r2) s3)))) ∧ ((r4 = (0 : Int32)) → (post s3))) s1) σ t1 (m_tokenAt σ)
set_option maxRecDepth 20000 in
theorem km_readOne_78 {E : gEnv} {l : Launch} {D : va_G} {cl : List vw_C} {G : gAd} {post : MS → Prop} (hE : gOK E cX13_readOne RX13 none 10) (hm : mOK E l D cl G (qV post) 3) (hF : gFin E) (σ : MS) (v1 : Int32) (t1 : Int32) (h : wm_readOne_78 post σ v1 t1) : GW E (mW G σ) 78 [(0, .ref (G.1 0)), (1, .int v1)] [.int t1, .ref (G.1 0)] := by
  unfold wm_readOne_78 at h
  have hN := hm.2.2.2.2.2.2.1
  refine r_aload_n hE 0 dX13_readOne_g2.2.2.2.2.2.2.2.2.1 rfl rfl ?_
  refine mg_tokenAt hE hm dX13_readOne_g2.2.2.2.2.2.2.2.2.2.1 ?_
  refine m_callVi hE hm [.int t1, .int (m_tokenAt σ)] [] mc_newNode (km_newNode hm.2.2.2.2.2.2.2.2 h) (by decide) rfl rfl (Nat.le_of_ble_eq_true rfl) dX13_readOne_g2.2.2.2.2.2.2.2.2.2.2.1 (fun s1 r2 h => ?_)
  refine r_istore_n hE [(2, .int r2), (0, .ref (G.1 0)), (1, .int v1)] dX13_readOne_g2.2.2.2.2.2.2.2.2.2.2.2.1 rfl hN (by decide) rfl ?_
  refine r_aload_n hE 1 dX13_readOne_g2.2.2.2.2.2.2.2.2.2.2.2.2.1 rfl rfl ?_
  refine m_callVi hE hm [] [] mc_fine (km_fine hm.2.2.2.2.2.2.2.2 h) (by decide) rfl rfl (Nat.le_of_ble_eq_true rfl) dX13_readOne_g2.2.2.2.2.2.2.2.2.2.2.2.2.2.1 (fun s3 r4 h => ?_)
  refine r_if_ne hE 94 dX13_readOne_g2.2.2.2.2.2.2.2.2.2.2.2.2.2.2.1 (by decide) h (fun h => ?_) (fun h => ?_)
  · refine r_iload_n hE 2 dX13_readOne_g3.1 rfl rfl ?_
    refine r_if_eq hE 111 dX13_readOne_g3.2.1 (by decide) h (fun h => ?_) (fun h => ?_)
    · refine r_aload_n hE 1 dX13_readOne_g3.2.2.2.2.2.2.2.2.2.1 rfl rfl ?_
      refine mg_token hE hm dX13_readOne_g3.2.2.2.2.2.2.2.2.2.2.1 ?_
      refine r_iconst (v := (2 : Int32)) hE dX13_readOne_g3.2.2.2.2.2.2.2.2.2.2.2.1 (by decide) ?_
      refine r_icmp_ne hE 141 dX13_readOne_g3.2.2.2.2.2.2.2.2.2.2.2.2.1 (by decide) h (fun h => ?_) (fun h => ?_)
      · refine r_aload_n hE 1 dX13_readOne_g4.2.2.2.2.2.2.2.2.2.1 rfl rfl ?_
        refine r_iload_n hE 0 dX13_readOne_g4.2.2.2.2.2.2.2.2.2.2.1 rfl rfl ?_
        refine m_callVv hE hm [.int r2] [] mc_readNamed (km_readNamed hm.2.2.2.2.2.2.2.2 h) (by decide) rfl rfl (Nat.le_of_ble_eq_true rfl) dX13_readOne_g4.2.2.2.2.2.2.2.2.2.2.2.1 (fun s5 h => ?_)
        exact m_vret hE hm hF dX13_readOne_g4.2.2.2.2.2.2.2.2.2.2.2.2 h
      · refine r_aload_n hE 1 dX13_readOne_g3.2.2.2.2.2.2.2.2.2.2.2.2.2.1 rfl rfl ?_
        refine mg_value hE hm dX13_readOne_g3.2.2.2.2.2.2.2.2.2.2.2.2.2.2.1 ?_
        refine r_iload_n hE 0 dX13_readOne_g3.2.2.2.2.2.2.2.2.2.2.2.2.2.2.2 rfl rfl ?_
        refine r_aload_n hE 1 dX13_readOne_g4.1 rfl rfl ?_
        refine mg_digits hE hm dX13_readOne_g4.2.1 ?_
        obtain ⟨hi, h⟩ := h
        refine ms_value hE hm dX13_readOne_g4.2.2.1 hi h (fun s6 h => ?_)
        refine r_aload_n hE 1 dX13_readOne_g4.2.2.2.1 rfl rfl ?_
        refine m_callVv hE hm [] [] mc_next (km_next hm.2.2.2.2.2.2.2.2 h) (by decide) rfl rfl (Nat.le_of_ble_eq_true rfl) dX13_readOne_g4.2.2.2.2.1 (fun s7 h => ?_)
        refine r_aload_n hE 1 dX13_readOne_g4.2.2.2.2.2.1 rfl rfl ?_
        refine r_iload_n hE 0 dX13_readOne_g4.2.2.2.2.2.2.1 rfl rfl ?_
        refine m_callVv hE hm [.int r2] [] mc_stand (km_stand hm.2.2.2.2.2.2.2.2 h) (by decide) rfl rfl (Nat.le_of_ble_eq_true rfl) dX13_readOne_g4.2.2.2.2.2.2.2.1 (fun s8 h => ?_)
        refine r_goto hE 146 dX13_readOne_g4.2.2.2.2.2.2.2.2.1 (by decide) ?_
        exact m_vret hE hm hF dX13_readOne_g4.2.2.2.2.2.2.2.2.2.2.2.2 h
    · refine r_aload_n hE 1 dX13_readOne_g3.2.2.1 rfl rfl ?_
      refine m_callVv hE hm [] [] mc_next (km_next hm.2.2.2.2.2.2.2.2 h) (by decide) rfl rfl (Nat.le_of_ble_eq_true rfl) dX13_readOne_g3.2.2.2.1 (fun s9 h => ?_)
      refine r_aload_n hE 1 dX13_readOne_g3.2.2.2.2.1 rfl rfl ?_
      refine r_iconst (v := (2 : Int32)) hE dX13_readOne_g3.2.2.2.2.2.1 (by decide) ?_
      refine r_iload_n hE 0 dX13_readOne_g3.2.2.2.2.2.2.1 rfl rfl ?_
      refine m_callVv hE hm [.int (2 : Int32), .int r2] [] mc_wait (km_wait hm.2.2.2.2.2.2.2.2 h) (by decide) rfl rfl (Nat.le_of_ble_eq_true rfl) dX13_readOne_g3.2.2.2.2.2.2.2.1 (fun s10 h => ?_)
      refine r_goto hE 146 dX13_readOne_g3.2.2.2.2.2.2.2.2.1 (by decide) ?_
      exact m_vret hE hm hF dX13_readOne_g4.2.2.2.2.2.2.2.2.2.2.2.2 h
  · exact m_vret hE hm hF dX13_readOne_g2.2.2.2.2.2.2.2.2.2.2.2.2.2.2.2 h
def wm_readOne_53 (post : MS → Prop) (σ : MS) (v1 : Int32) : Prop := ((v1 = (0 : Int32)) → (((¬ ((m_token σ) = (2 : Int32))) → (wm_readOne_78 post σ v1 (8 : Int32))) ∧ (((m_token σ) = (2 : Int32)) → (wm_readOne_78 post σ v1 (7 : Int32))))) ∧ ((¬ (v1 = (0 : Int32))) → (wm_readOne_78 post σ v1 (11 : Int32)))
set_option maxRecDepth 20000 in
theorem km_readOne_53 {E : gEnv} {l : Launch} {D : va_G} {cl : List vw_C} {G : gAd} {post : MS → Prop} (hE : gOK E cX13_readOne RX13 none 10) (hm : mOK E l D cl G (qV post) 3) (hF : gFin E) (σ : MS) (v1 : Int32) (h : wm_readOne_53 post σ v1) : GW E (mW G σ) 53 [(0, .ref (G.1 0)), (1, .int v1)] [] := by
  unfold wm_readOne_53 at h
  have hN := hm.2.2.2.2.2.2.1
  refine r_aload_n hE 0 dX13_readOne_g1.2.2.2.2.2.2.2.2.2.2.2.2.1 rfl rfl ?_
  refine r_iload_n hE 1 dX13_readOne_g1.2.2.2.2.2.2.2.2.2.2.2.2.2.1 rfl rfl ?_
  refine r_if_eq hE 63 dX13_readOne_g1.2.2.2.2.2.2.2.2.2.2.2.2.2.2.1 (by decide) h (fun h => ?_) (fun h => ?_)
  · refine r_aload_n hE 0 dX13_readOne_g2.2.1 rfl rfl ?_
    refine mg_token hE hm dX13_readOne_g2.2.2.1 ?_
    refine r_iconst (v := (2 : Int32)) hE dX13_readOne_g2.2.2.2.1 (by decide) ?_
    refine r_icmp_ne hE 76 dX13_readOne_g2.2.2.2.2.1 (by decide) h (fun h => ?_) (fun h => ?_)
    · refine r_bipush (v := (8 : Int32)) hE dX13_readOne_g2.2.2.2.2.2.2.2.1 (by decide) ?_
      exact km_readOne_78 hE hm hF _ _ _ h
    · refine r_bipush (v := (7 : Int32)) hE dX13_readOne_g2.2.2.2.2.2.1 (by decide) ?_
      refine r_goto hE 78 dX13_readOne_g2.2.2.2.2.2.2.1 (by decide) ?_
      exact km_readOne_78 hE hm hF _ _ _ h
  · refine r_bipush (v := (11 : Int32)) hE dX13_readOne_g1.2.2.2.2.2.2.2.2.2.2.2.2.2.2.2 (by decide) ?_
    refine r_goto hE 78 dX13_readOne_g2.1 (by decide) ?_
    exact km_readOne_78 hE hm hF _ _ _ h
def wm_readOne (post : MS → Prop) (σ : MS) : Prop := wm_isSignHere (fun (s11 : MS) (r12 : Int32) => ((r12 = (0 : Int32)) → (wm_isSignHere (fun (s13 : MS) (r14 : Int32) => ((¬ (r14 = (0 : Int32))) → (wm_readOne_53 post s13 r14)) ∧ ((r14 = (0 : Int32)) → ((((m_token s13) = (2 : Int32)) → (wm_readOne_53 post s13 r14)) ∧ ((¬ ((m_token s13) = (2 : Int32))) → (wm_isName (fun (s15 : MS) (r16 : Int32) => ((¬ (r16 = (0 : Int32))) → (wm_readOne_53 post s15 r14)) ∧ ((r16 = (0 : Int32)) → (wm_misplaced (fun (s17 : MS) => post s17) s15))) s13))))) s11 (45 : Int32))) ∧ ((¬ (r12 = (0 : Int32))) → (wm_open (fun (s18 : MS) => wm_wait (fun (s19 : MS) => post s19) s18 (3 : Int32) (-1 : Int32)) s11 (40 : Int32)))) σ (40 : Int32)
set_option maxRecDepth 20000 in
theorem km_readOne {l : Launch} {D : va_G} {cl : List vw_C} {G : gAd} {post : MS → Prop} (hcl : mC cl) {σ : MS} (h : wm_readOne post σ) : mMet l D cl G yX13_readOne cX13_readOne 3 none 10 [.ref (G.1 0)] σ (qV post) := by
  unfold wm_readOne at h
  refine m_enter hcl (by decide +kernel) rfl [(0, .ref (G.1 0))] rfl (Nat.le_of_ble_eq_true rfl) ?_
  intro E hE hm hF
  have hN := hm.2.2.2.2.2.2.1
  refine r_aload_n hE 0 dX13_readOne_g0.1 rfl rfl ?_
  refine r_bipush (v := (40 : Int32)) hE dX13_readOne_g0.2.1 (by decide) ?_
  refine m_callVi hE hm [.int (40 : Int32)] [] mc_isSignHere (km_isSignHere hm.2.2.2.2.2.2.2.2 h) (by decide) rfl rfl (Nat.le_of_ble_eq_true rfl) dX13_readOne_g0.2.2.1 (fun s11 r12 h => ?_)
  refine r_if_eq hE 22 dX13_readOne_g0.2.2.2.1 (by decide) h (fun h => ?_) (fun h => ?_)
  · refine r_aload_n hE 0 dX13_readOne_g0.2.2.2.2.2.2.2.2.2.2.2.2.1 rfl rfl ?_
    refine r_bipush (v := (45 : Int32)) hE dX13_readOne_g0.2.2.2.2.2.2.2.2.2.2.2.2.2.1 (by decide) ?_
    refine m_callVi hE hm [.int (45 : Int32)] [] mc_isSignHere (km_isSignHere hm.2.2.2.2.2.2.2.2 h) (by decide) rfl rfl (Nat.le_of_ble_eq_true rfl) dX13_readOne_g0.2.2.2.2.2.2.2.2.2.2.2.2.2.2.1 (fun s13 r14 h => ?_)
    refine r_istore_n hE [(1, .int r14), (0, .ref (G.1 0))] dX13_readOne_g0.2.2.2.2.2.2.2.2.2.2.2.2.2.2.2 rfl hN (by decide) rfl ?_
    refine r_iload_n hE 0 dX13_readOne_g1.1 rfl rfl ?_
    refine r_if_ne hE 53 dX13_readOne_g1.2.1 (by decide) h (fun h => ?_) (fun h => ?_)
    · refine r_pick [1, 0] rfl ?_
      exact km_readOne_53 hE hm hF _ _ h
    · refine r_aload_n hE 1 dX13_readOne_g1.2.2.1 rfl rfl ?_
      refine mg_token hE hm dX13_readOne_g1.2.2.2.1 ?_
      refine r_iconst (v := (2 : Int32)) hE dX13_readOne_g1.2.2.2.2.1 (by decide) ?_
      refine r_icmp_eq hE 53 dX13_readOne_g1.2.2.2.2.2.1 (by decide) h (fun h => ?_) (fun h => ?_)
      · refine r_pick [1, 0] rfl ?_
        exact km_readOne_53 hE hm hF _ _ h
      · refine r_aload_n hE 1 dX13_readOne_g1.2.2.2.2.2.2.1 rfl rfl ?_
        refine m_callVi hE hm [] [] mc_isName (km_isName hm.2.2.2.2.2.2.2.2 h) (by decide) rfl rfl (Nat.le_of_ble_eq_true rfl) dX13_readOne_g1.2.2.2.2.2.2.2.1 (fun s15 r16 h => ?_)
        refine r_if_ne hE 53 dX13_readOne_g1.2.2.2.2.2.2.2.2.1 (by decide) h (fun h => ?_) (fun h => ?_)
        · refine r_pick [1, 0] rfl ?_
          exact km_readOne_53 hE hm hF _ _ h
        · refine r_aload_n hE 1 dX13_readOne_g1.2.2.2.2.2.2.2.2.2.1 rfl rfl ?_
          refine m_callVv hE hm [] [] mc_misplaced (km_misplaced hm.2.2.2.2.2.2.2.2 h) (by decide) rfl rfl (Nat.le_of_ble_eq_true rfl) dX13_readOne_g1.2.2.2.2.2.2.2.2.2.2.1 (fun s17 h => ?_)
          exact m_vret hE hm hF dX13_readOne_g1.2.2.2.2.2.2.2.2.2.2.2.1 h
  · refine r_aload_n hE 0 dX13_readOne_g0.2.2.2.2.1 rfl rfl ?_
    refine r_bipush (v := (40 : Int32)) hE dX13_readOne_g0.2.2.2.2.2.1 (by decide) ?_
    refine m_callVv hE hm [.int (40 : Int32)] [] mc_open (km_open hm.2.2.2.2.2.2.2.2 h) (by decide) rfl rfl (Nat.le_of_ble_eq_true rfl) dX13_readOne_g0.2.2.2.2.2.2.1 (fun s18 h => ?_)
    refine r_aload_n hE 0 dX13_readOne_g0.2.2.2.2.2.2.2.1 rfl rfl ?_
    refine r_iconst (v := (3 : Int32)) hE dX13_readOne_g0.2.2.2.2.2.2.2.2.1 (by decide) ?_
    refine r_iconst (v := (-1 : Int32)) hE dX13_readOne_g0.2.2.2.2.2.2.2.2.2.1 (by decide) ?_
    refine m_callVv hE hm [.int (3 : Int32), .int (-1 : Int32)] [] mc_wait (km_wait hm.2.2.2.2.2.2.2.2 h) (by decide) rfl rfl (Nat.le_of_ble_eq_true rfl) dX13_readOne_g0.2.2.2.2.2.2.2.2.2.2.1 (fun s19 h => ?_)
    exact m_vret hE hm hF dX13_readOne_g0.2.2.2.2.2.2.2.2.2.2.2.1 h
/-! readExp -/
def wm_readExp_23 (post : MS → Int32 → Prop) : Nat → MS → Int32 → Prop
  | 0, _, _ => False
  | n + 1, σ, v1 => ((v1 = (0 : Int32)) → (post σ (m_operand σ))) ∧ ((¬ (v1 = (0 : Int32))) → (wm_fine (fun (s1 : MS) (r2 : Int32) => ((r2 = (0 : Int32)) → (post s1 (m_operand s1))) ∧ ((¬ (r2 = (0 : Int32))) → ((((m_wants s1) = (0 : Int32)) → (wm_readBehind (fun (s3 : MS) (r4 : Int32) => wm_readExp_23 post n s3 r4) s1)) ∧ ((¬ ((m_wants s1) = (0 : Int32))) → (wm_readOne (fun (s5 : MS) => wm_readExp_23 post n s5 v1) s1))))) σ))
set_option maxRecDepth 20000 in
theorem km_readExp_23 {E : gEnv} {l : Launch} {D : va_G} {cl : List vw_C} {G : gAd} {post : MS → Int32 → Prop} (hE : gOK E cX13_readExp RX13 (some .int) 11) (hm : mOK E l D cl G (qI post) 2) (hF : gFin E) : ∀ (n : Nat) (σ : MS) (v1 : Int32), wm_readExp_23 post n σ v1 → GW E (mW G σ) 23 [(0, .ref (G.1 0)), (1, .int v1)] [] := by
  intro n
  induction n with
  | zero => intro σ v1 h; exact h.elim
  | succ n ih =>
    intro σ v1 h
    rw [wm_readExp_23] at h
    have hN := hm.2.2.2.2.2.2.1
    refine r_iload_n hE 1 dX13_readExp_g0.2.2.2.2.2.2.2.2.2.2.2.2.2.2.2 rfl rfl ?_
    refine r_if_eq hE 56 dX13_readExp_g1.1 (by decide) h (fun h => ?_) (fun h => ?_)
    · refine r_aload_n hE 0 dX13_readExp_g1.2.2.2.2.2.2.2.2.2.2.2.2.2.2.1 rfl rfl ?_
      refine mg_operand hE hm dX13_readExp_g1.2.2.2.2.2.2.2.2.2.2.2.2.2.2.2 ?_
      exact m_iret hE hm hF dX13_readExp_g2 h
    · refine r_aload_n hE 0 dX13_readExp_g1.2.1 rfl rfl ?_
      refine m_callVi hE hm [] [] mc_fine (km_fine hm.2.2.2.2.2.2.2.2 h) (by decide) rfl rfl (Nat.le_of_ble_eq_true rfl) dX13_readExp_g1.2.2.1 (fun s1 r2 h => ?_)
      refine r_if_eq hE 56 dX13_readExp_g1.2.2.2.1 (by decide) h (fun h => ?_) (fun h => ?_)
      · refine r_aload_n hE 0 dX13_readExp_g1.2.2.2.2.2.2.2.2.2.2.2.2.2.2.1 rfl rfl ?_
        refine mg_operand hE hm dX13_readExp_g1.2.2.2.2.2.2.2.2.2.2.2.2.2.2.2 ?_
        exact m_iret hE hm hF dX13_readExp_g2 h
      · refine r_aload_n hE 0 dX13_readExp_g1.2.2.2.2.1 rfl rfl ?_
        refine mg_wants hE hm dX13_readExp_g1.2.2.2.2.2.1 ?_
        refine r_if_eq hE 48 dX13_readExp_g1.2.2.2.2.2.2.1 (by decide) h (fun h => ?_) (fun h => ?_)
        · refine r_aload_n hE 0 dX13_readExp_g1.2.2.2.2.2.2.2.2.2.2.1 rfl rfl ?_
          refine m_callVi hE hm [] [] mc_readBehind (km_readBehind hm.2.2.2.2.2.2.2.2 h) (by decide) rfl rfl (Nat.le_of_ble_eq_true rfl) dX13_readExp_g1.2.2.2.2.2.2.2.2.2.2.2.1 (fun s3 r4 h => ?_)
          refine r_istore_n hE [(1, .int r4), (0, .ref (G.1 0))] dX13_readExp_g1.2.2.2.2.2.2.2.2.2.2.2.2.1 rfl hN (by decide) rfl ?_
          refine r_goto hE 23 dX13_readExp_g1.2.2.2.2.2.2.2.2.2.2.2.2.2.1 (by decide) ?_
          refine r_pick [1, 0] rfl ?_
          exact ih _ _ h
        · refine r_aload_n hE 0 dX13_readExp_g1.2.2.2.2.2.2.2.1 rfl rfl ?_
          refine m_callVv hE hm [] [] mc_readOne (km_readOne hm.2.2.2.2.2.2.2.2 h) (by decide) rfl rfl (Nat.le_of_ble_eq_true rfl) dX13_readExp_g1.2.2.2.2.2.2.2.2.1 (fun s5 h => ?_)
          refine r_goto hE 23 dX13_readExp_g1.2.2.2.2.2.2.2.2.2.1 (by decide) ?_
          exact ih _ _ h
def wm_readExp (post : MS → Int32 → Prop) (σ : MS) : Prop := ∀ s6 : MS, s6 = m_waiting_s σ (0 : Int32) → wm_wait (fun (s7 : MS) => ∀ s8 : MS, s8 = m_wants_s s7 (1 : Int32) → ∀ s9 : MS, s9 = m_operand_s s8 (-1 : Int32) → ∃ k : Nat, wm_readExp_23 post k s9 (1 : Int32)) s6 (0 : Int32) (-1 : Int32)
set_option maxRecDepth 20000 in
theorem km_readExp {l : Launch} {D : va_G} {cl : List vw_C} {G : gAd} {post : MS → Int32 → Prop} (hcl : mC cl) {σ : MS} (h : wm_readExp post σ) : mMet l D cl G yX13_readExp cX13_readExp 2 (some .int) 11 [.ref (G.1 0)] σ (qI post) := by
  unfold wm_readExp at h
  refine m_enter hcl (by decide +kernel) rfl [(0, .ref (G.1 0))] rfl (Nat.le_of_ble_eq_true rfl) ?_
  intro E hE hm hF
  have hN := hm.2.2.2.2.2.2.1
  refine r_aload_n hE 0 dX13_readExp_g0.1 rfl rfl ?_
  refine r_iconst (v := (0 : Int32)) hE dX13_readExp_g0.2.1 (by decide) ?_
  refine mp_waiting hE hm dX13_readExp_g0.2.2.1 h (fun s6 h => ?_)
  refine r_aload_n hE 0 dX13_readExp_g0.2.2.2.1 rfl rfl ?_
  refine r_iconst (v := (0 : Int32)) hE dX13_readExp_g0.2.2.2.2.1 (by decide) ?_
  refine r_iconst (v := (-1 : Int32)) hE dX13_readExp_g0.2.2.2.2.2.1 (by decide) ?_
  refine m_callVv hE hm [.int (0 : Int32), .int (-1 : Int32)] [] mc_wait (km_wait hm.2.2.2.2.2.2.2.2 h) (by decide) rfl rfl (Nat.le_of_ble_eq_true rfl) dX13_readExp_g0.2.2.2.2.2.2.1 (fun s7 h => ?_)
  refine r_aload_n hE 0 dX13_readExp_g0.2.2.2.2.2.2.2.1 rfl rfl ?_
  refine r_iconst (v := (1 : Int32)) hE dX13_readExp_g0.2.2.2.2.2.2.2.2.1 (by decide) ?_
  refine mp_wants hE hm dX13_readExp_g0.2.2.2.2.2.2.2.2.2.1 (Or.inr rfl) h (fun s8 h => ?_)
  refine r_aload_n hE 0 dX13_readExp_g0.2.2.2.2.2.2.2.2.2.2.1 rfl rfl ?_
  refine r_iconst (v := (-1 : Int32)) hE dX13_readExp_g0.2.2.2.2.2.2.2.2.2.2.2.1 (by decide) ?_
  refine mp_operand hE hm dX13_readExp_g0.2.2.2.2.2.2.2.2.2.2.2.2.1 h (fun s9 h => ?_)
  refine r_iconst (v := (1 : Int32)) hE dX13_readExp_g0.2.2.2.2.2.2.2.2.2.2.2.2.2.1 (by decide) ?_
  refine r_istore_n hE [(1, .int (1 : Int32)), (0, .ref (G.1 0))] dX13_readExp_g0.2.2.2.2.2.2.2.2.2.2.2.2.2.2.1 rfl hN (by decide) rfl ?_
  refine r_pick [1, 0] rfl ?_
  obtain ⟨k, h⟩ := h
  exact km_readExp_23 hE hm hF k _ _ h
/-! readSet -/
def wm_readSet_182 (post : MS → Prop) (σ : MS) (v1 : Int32) (v4 : Int32) : Prop := vp_in v1 600 ∧ (∀ s1 : MS, s1 = m_one_s σ v1.toNatClampNeg v4 → post s1)
set_option maxRecDepth 20000 in
theorem km_readSet_182 {E : gEnv} {l : Launch} {D : va_G} {cl : List vw_C} {G : gAd} {post : MS → Prop} (hE : gOK E cX13_readSet RX13 none 12) (hm : mOK E l D cl G (qV post) 7) (hF : gFin E) (σ : MS) (v1 : Int32) (v4 : Int32) (h : wm_readSet_182 post σ v1 v4) : GW E (mW G σ) 182 [(0, .ref (G.1 0)), (1, .int v1), (4, .int v4)] [] := by
  unfold wm_readSet_182 at h
  have hN := hm.2.2.2.2.2.2.1
  refine r_aload_n hE 0 dX13_readSet_g6.1 rfl rfl ?_
  refine mg_one hE hm dX13_readSet_g6.2.1 ?_
  refine r_iload_n hE 1 dX13_readSet_g6.2.2.1 rfl rfl ?_
  refine r_iload hE 2 dX13_readSet_g6.2.2.2.1 rfl ?_
  obtain ⟨hi, h⟩ := h
  refine ms_one hE hm dX13_readSet_g6.2.2.2.2.1 hi h (fun s1 h => ?_)
  exact m_vret hE hm hF dX13_readSet_g6.2.2.2.2.2 h
def wm_readSet_132 (post : MS → Prop) (σ : MS) (v1 : Int32) (v2 : Int32) (v4 : Int32) (v5 : Int32) (v6 : Int32) : Prop := wm_take (fun (s2 : MS) => wm_readExp (fun (s3 : MS) (r4 : Int32) => vp_in v1 600 ∧ (∀ s5 : MS, s5 = m_three_s s3 v1.toNatClampNeg r4 → wm_take (fun (s6 : MS) => wm_fine (fun (s7 : MS) (r8 : Int32) => ((r8 = (0 : Int32)) → (wm_readSet_182 post s7 v1 v4)) ∧ ((¬ (r8 = (0 : Int32))) → ((((0 : Int32) ≤ v4) → (wm_readSet_182 post s7 v1 v4)) ∧ ((¬ ((0 : Int32) ≤ v4)) → (vp_in v2 26 ∧ (∀ x9 : Int32, x9 = m_nameMany s7 v2.toNatClampNeg → wm_newName (fun (s10 : MS) => wm_readSet_182 post s10 v1 x9) s7 v5 v6)))))) s6) s5 (59 : Int32))) s2) σ (61 : Int32)
set_option maxRecDepth 20000 in
theorem km_readSet_132 {E : gEnv} {l : Launch} {D : va_G} {cl : List vw_C} {G : gAd} {post : MS → Prop} (hE : gOK E cX13_readSet RX13 none 12) (hm : mOK E l D cl G (qV post) 7) (hF : gFin E) (σ : MS) (v1 : Int32) (v2 : Int32) (v4 : Int32) (v5 : Int32) (v6 : Int32) (h : wm_readSet_132 post σ v1 v2 v4 v5 v6) : GW E (mW G σ) 132 [(0, .ref (G.1 0)), (1, .int v1), (2, .int v2), (4, .int v4), (5, .int v5), (6, .int v6)] [] := by
  unfold wm_readSet_132 at h
  have hN := hm.2.2.2.2.2.2.1
  refine r_aload_n hE 0 dX13_readSet_g4.2.2.2.2.2.2.1 rfl rfl ?_
  refine r_bipush (v := (61 : Int32)) hE dX13_readSet_g4.2.2.2.2.2.2.2.1 (by decide) ?_
  refine m_callVv hE hm [.int (61 : Int32)] [] mc_take (km_take hm.2.2.2.2.2.2.2.2 h) (by decide) rfl rfl (Nat.le_of_ble_eq_true rfl) dX13_readSet_g4.2.2.2.2.2.2.2.2.1 (fun s2 h => ?_)
  refine r_aload_n hE 0 dX13_readSet_g4.2.2.2.2.2.2.2.2.2.1 rfl rfl ?_
  refine mg_three hE hm dX13_readSet_g4.2.2.2.2.2.2.2.2.2.2.1 ?_
  refine r_iload_n hE 1 dX13_readSet_g4.2.2.2.2.2.2.2.2.2.2.2.1 rfl rfl ?_
  refine r_aload_n hE 0 dX13_readSet_g4.2.2.2.2.2.2.2.2.2.2.2.2.1 rfl rfl ?_
  refine m_callVi hE hm [] [.int v1, .ref (G.1 16)] mc_readExp (km_readExp hm.2.2.2.2.2.2.2.2 h) (by decide) rfl rfl (Nat.le_of_ble_eq_true rfl) dX13_readSet_g4.2.2.2.2.2.2.2.2.2.2.2.2.2.1 (fun s3 r4 h => ?_)
  obtain ⟨hi, h⟩ := h
  refine ms_three hE hm dX13_readSet_g4.2.2.2.2.2.2.2.2.2.2.2.2.2.2.1 hi h (fun s5 h => ?_)
  refine r_aload_n hE 0 dX13_readSet_g4.2.2.2.2.2.2.2.2.2.2.2.2.2.2.2 rfl rfl ?_
  refine r_bipush (v := (59 : Int32)) hE dX13_readSet_g5.1 (by decide) ?_
  refine m_callVv hE hm [.int (59 : Int32)] [] mc_take (km_take hm.2.2.2.2.2.2.2.2 h) (by decide) rfl rfl (Nat.le_of_ble_eq_true rfl) dX13_readSet_g5.2.1 (fun s6 h => ?_)
  refine r_aload_n hE 0 dX13_readSet_g5.2.2.1 rfl rfl ?_
  refine m_callVi hE hm [] [] mc_fine (km_fine hm.2.2.2.2.2.2.2.2 h) (by decide) rfl rfl (Nat.le_of_ble_eq_true rfl) dX13_readSet_g5.2.2.2.1 (fun s7 r8 h => ?_)
  refine r_if_eq hE 182 dX13_readSet_g5.2.2.2.2.1 (by decide) h (fun h => ?_) (fun h => ?_)
  · refine r_pick [0, 1, 3] rfl ?_
    exact km_readSet_182 hE hm hF _ _ _ h
  · refine r_iload hE 3 dX13_readSet_g5.2.2.2.2.2.1 rfl ?_
    refine r_if_ge hE 182 dX13_readSet_g5.2.2.2.2.2.2.1 (by decide) h (fun h => ?_) (fun h => ?_)
    · refine r_pick [0, 1, 3] rfl ?_
      exact km_readSet_182 hE hm hF _ _ _ h
    · refine r_aload_n hE 0 dX13_readSet_g5.2.2.2.2.2.2.2.1 rfl rfl ?_
      refine mg_nameMany hE hm dX13_readSet_g5.2.2.2.2.2.2.2.2.1 ?_
      refine r_iload_n hE 2 dX13_readSet_g5.2.2.2.2.2.2.2.2.2.1 rfl rfl ?_
      obtain ⟨hi, h⟩ := h
      refine ml_nameMany hE hm dX13_readSet_g5.2.2.2.2.2.2.2.2.2.2.1 hi ?_
      refine r_topi h (fun x9 ex9 h => ?_)
      refine r_istore hE [(4, .int x9), (0, .ref (G.1 0)), (1, .int v1), (2, .int v2), (5, .int v5), (6, .int v6)] dX13_readSet_g5.2.2.2.2.2.2.2.2.2.2.2.1 hN (by decide) rfl ?_
      refine r_aload_n hE 1 dX13_readSet_g5.2.2.2.2.2.2.2.2.2.2.2.2.1 rfl rfl ?_
      refine r_iload hE 4 dX13_readSet_g5.2.2.2.2.2.2.2.2.2.2.2.2.2.1 rfl ?_
      refine r_iload hE 5 dX13_readSet_g5.2.2.2.2.2.2.2.2.2.2.2.2.2.2.1 rfl ?_
      refine m_callVv hE hm [.int v5, .int v6] [] mc_newName (km_newName hm.2.2.2.2.2.2.2.2 h) (by decide) rfl rfl (Nat.le_of_ble_eq_true rfl) dX13_readSet_g5.2.2.2.2.2.2.2.2.2.2.2.2.2.2.2 (fun s10 h => ?_)
      refine r_pick [1, 2, 0] rfl ?_
      exact km_readSet_182 hE hm hF _ _ _ h
def wm_readSet_85 (post : MS → Prop) (σ : MS) (v1 : Int32) (v2 : Int32) (v3 : Int32) (v4 : Int32) (v5 : Int32) (v6 : Int32) : Prop := wm_fine (fun (s11 : MS) (r12 : Int32) => ((¬ (r12 = (0 : Int32))) → (wm_next (fun (s13 : MS) => ((¬ (v3 = (91 : Int32))) → (wm_readSet_132 post s13 v1 v2 v4 v5 v6)) ∧ ((v3 = (91 : Int32)) → (vp_in v1 600 ∧ (∀ s14 : MS, s14 = m_kind_s s13 v1.toNatClampNeg (1 : Int32) → wm_open (fun (s15 : MS) => wm_readExp (fun (s16 : MS) (r17 : Int32) => vp_in v1 600 ∧ (∀ s18 : MS, s18 = m_two_s s16 v1.toNatClampNeg r17 → wm_shut (fun (s19 : MS) => wm_readSet_132 post s19 v1 v2 v4 v5 v6) s18 (93 : Int32))) s15) s14 (91 : Int32))))) s11)) ∧ ((r12 = (0 : Int32)) → (post s11))) σ
set_option maxRecDepth 20000 in
theorem km_readSet_85 {E : gEnv} {l : Launch} {D : va_G} {cl : List vw_C} {G : gAd} {post : MS → Prop} (hE : gOK E cX13_readSet RX13 none 12) (hm : mOK E l D cl G (qV post) 7) (hF : gFin E) (σ : MS) (v1 : Int32) (v2 : Int32) (v3 : Int32) (v4 : Int32) (v5 : Int32) (v6 : Int32) (h : wm_readSet_85 post σ v1 v2 v3 v4 v5 v6) : GW E (mW G σ) 85 [(0, .ref (G.1 0)), (1, .int v1), (2, .int v2), (3, .int v3), (4, .int v4), (5, .int v5), (6, .int v6)] [] := by
  unfold wm_readSet_85 at h
  have hN := hm.2.2.2.2.2.2.1
  refine r_aload_n hE 0 dX13_readSet_g2.2.2.2.2.2.2.2.2.2.2.2.2.1 rfl rfl ?_
  refine m_callVi hE hm [] [] mc_fine (km_fine hm.2.2.2.2.2.2.2.2 h) (by decide) rfl rfl (Nat.le_of_ble_eq_true rfl) dX13_readSet_g2.2.2.2.2.2.2.2.2.2.2.2.2.2.1 (fun s11 r12 h => ?_)
  refine r_if_ne hE 93 dX13_readSet_g2.2.2.2.2.2.2.2.2.2.2.2.2.2.2.1 (by decide) h (fun h => ?_) (fun h => ?_)
  · refine r_aload_n hE 0 dX13_readSet_g3.1 rfl rfl ?_
    refine m_callVv hE hm [] [] mc_next (km_next hm.2.2.2.2.2.2.2.2 h) (by decide) rfl rfl (Nat.le_of_ble_eq_true rfl) dX13_readSet_g3.2.1 (fun s13 h => ?_)
    refine r_iload_n hE 3 dX13_readSet_g3.2.2.1 rfl rfl ?_
    refine r_bipush (v := (91 : Int32)) hE dX13_readSet_g3.2.2.2.1 (by decide) ?_
    refine r_icmp_ne hE 132 dX13_readSet_g3.2.2.2.2.1 (by decide) h (fun h => ?_) (fun h => ?_)
    · refine r_pick [0, 1, 2, 4, 5, 6] rfl ?_
      exact km_readSet_132 hE hm hF _ _ _ _ _ _ h
    · refine r_aload_n hE 0 dX13_readSet_g3.2.2.2.2.2.1 rfl rfl ?_
      refine mg_kind hE hm dX13_readSet_g3.2.2.2.2.2.2.1 ?_
      refine r_iload_n hE 1 dX13_readSet_g3.2.2.2.2.2.2.2.1 rfl rfl ?_
      refine r_iconst (v := (1 : Int32)) hE dX13_readSet_g3.2.2.2.2.2.2.2.2.1 (by decide) ?_
      obtain ⟨hi, h⟩ := h
      refine ms_kind hE hm dX13_readSet_g3.2.2.2.2.2.2.2.2.2.1 hi h (fun s14 h => ?_)
      refine r_aload_n hE 0 dX13_readSet_g3.2.2.2.2.2.2.2.2.2.2.1 rfl rfl ?_
      refine r_bipush (v := (91 : Int32)) hE dX13_readSet_g3.2.2.2.2.2.2.2.2.2.2.2.1 (by decide) ?_
      refine m_callVv hE hm [.int (91 : Int32)] [] mc_open (km_open hm.2.2.2.2.2.2.2.2 h) (by decide) rfl rfl (Nat.le_of_ble_eq_true rfl) dX13_readSet_g3.2.2.2.2.2.2.2.2.2.2.2.2.1 (fun s15 h => ?_)
      refine r_aload_n hE 0 dX13_readSet_g3.2.2.2.2.2.2.2.2.2.2.2.2.2.1 rfl rfl ?_
      refine mg_two hE hm dX13_readSet_g3.2.2.2.2.2.2.2.2.2.2.2.2.2.2.1 ?_
      refine r_iload_n hE 1 dX13_readSet_g3.2.2.2.2.2.2.2.2.2.2.2.2.2.2.2 rfl rfl ?_
      refine r_aload_n hE 0 dX13_readSet_g4.1 rfl rfl ?_
      refine m_callVi hE hm [] [.int v1, .ref (G.1 15)] mc_readExp (km_readExp hm.2.2.2.2.2.2.2.2 h) (by decide) rfl rfl (Nat.le_of_ble_eq_true rfl) dX13_readSet_g4.2.1 (fun s16 r17 h => ?_)
      obtain ⟨hi, h⟩ := h
      refine ms_two hE hm dX13_readSet_g4.2.2.1 hi h (fun s18 h => ?_)
      refine r_aload_n hE 0 dX13_readSet_g4.2.2.2.1 rfl rfl ?_
      refine r_bipush (v := (93 : Int32)) hE dX13_readSet_g4.2.2.2.2.1 (by decide) ?_
      refine m_callVv hE hm [.int (93 : Int32)] [] mc_shut (km_shut hm.2.2.2.2.2.2.2.2 h) (by decide) rfl rfl (Nat.le_of_ble_eq_true rfl) dX13_readSet_g4.2.2.2.2.2.1 (fun s19 h => ?_)
      refine r_pick [0, 1, 2, 4, 5, 6] rfl ?_
      exact km_readSet_132 hE hm hF _ _ _ _ _ _ h
  · exact m_vret hE hm hF dX13_readSet_g2.2.2.2.2.2.2.2.2.2.2.2.2.2.2.2 h
def wm_readSet_54 (post : MS → Prop) (σ : MS) (v1 : Int32) (v2 : Int32) (v3 : Int32) (v4 : Int32) (v5 : Int32) (v6 : Int32) : Prop := ((¬ (v3 = (61 : Int32))) → (wm_readSet_85 post σ v1 v2 v3 v4 v5 v6)) ∧ ((v3 = (61 : Int32)) → ((((0 : Int32) ≤ v4) → (wm_readSet_85 post σ v1 v2 v3 v4 v5 v6)) ∧ ((¬ ((0 : Int32) ≤ v4)) → (vp_in v2 26 ∧ (((¬ ((m_nameMany σ v2.toNatClampNeg) = (20 : Int32))) → (wm_readSet_85 post σ v1 v2 v3 v4 v5 v6)) ∧ (((m_nameMany σ v2.toNatClampNeg) = (20 : Int32)) → (wm_wrong (fun (s20 : MS) => wm_readSet_85 post s20 v1 v2 v3 v4 v5 v6) σ (3 : Int32) (m_tokenAt σ))))))))
set_option maxRecDepth 20000 in
theorem km_readSet_54 {E : gEnv} {l : Launch} {D : va_G} {cl : List vw_C} {G : gAd} {post : MS → Prop} (hE : gOK E cX13_readSet RX13 none 12) (hm : mOK E l D cl G (qV post) 7) (hF : gFin E) (σ : MS) (v1 : Int32) (v2 : Int32) (v3 : Int32) (v4 : Int32) (v5 : Int32) (v6 : Int32) (h : wm_readSet_54 post σ v1 v2 v3 v4 v5 v6) : GW E (mW G σ) 54 [(0, .ref (G.1 0)), (1, .int v1), (2, .int v2), (3, .int v3), (4, .int v4), (5, .int v5), (6, .int v6)] [] := by
  unfold wm_readSet_54 at h
  have hN := hm.2.2.2.2.2.2.1
  refine r_iload_n hE 3 dX13_readSet_g1.2.2.2.2.2.2.2.2.2.2.2.2.1 rfl rfl ?_
  refine r_bipush (v := (61 : Int32)) hE dX13_readSet_g1.2.2.2.2.2.2.2.2.2.2.2.2.2.1 (by decide) ?_
  refine r_icmp_ne hE 85 dX13_readSet_g1.2.2.2.2.2.2.2.2.2.2.2.2.2.2.1 (by decide) h (fun h => ?_) (fun h => ?_)
  · exact km_readSet_85 hE hm hF _ _ _ _ _ _ _ h
  · refine r_iload hE 4 dX13_readSet_g1.2.2.2.2.2.2.2.2.2.2.2.2.2.2.2 rfl ?_
    refine r_if_ge hE 85 dX13_readSet_g2.1 (by decide) h (fun h => ?_) (fun h => ?_)
    · exact km_readSet_85 hE hm hF _ _ _ _ _ _ _ h
    · refine r_aload_n hE 0 dX13_readSet_g2.2.1 rfl rfl ?_
      refine mg_nameMany hE hm dX13_readSet_g2.2.2.1 ?_
      refine r_iload_n hE 2 dX13_readSet_g2.2.2.2.1 rfl rfl ?_
      obtain ⟨hi, h⟩ := h
      refine ml_nameMany hE hm dX13_readSet_g2.2.2.2.2.1 hi ?_
      refine r_bipush (v := (20 : Int32)) hE dX13_readSet_g2.2.2.2.2.2.1 (by decide) ?_
      refine r_icmp_ne hE 85 dX13_readSet_g2.2.2.2.2.2.2.1 (by decide) h (fun h => ?_) (fun h => ?_)
      · exact km_readSet_85 hE hm hF _ _ _ _ _ _ _ h
      · refine r_aload_n hE 0 dX13_readSet_g2.2.2.2.2.2.2.2.1 rfl rfl ?_
        refine r_iconst (v := (3 : Int32)) hE dX13_readSet_g2.2.2.2.2.2.2.2.2.1 (by decide) ?_
        refine r_aload_n hE 0 dX13_readSet_g2.2.2.2.2.2.2.2.2.2.1 rfl rfl ?_
        refine mg_tokenAt hE hm dX13_readSet_g2.2.2.2.2.2.2.2.2.2.2.1 ?_
        refine m_callVv hE hm [.int (3 : Int32), .int (m_tokenAt σ)] [] mc_wrong (km_wrong hm.2.2.2.2.2.2.2.2 h) (by decide) rfl rfl (Nat.le_of_ble_eq_true rfl) dX13_readSet_g2.2.2.2.2.2.2.2.2.2.2.2.1 (fun s20 h => ?_)
        exact km_readSet_85 hE hm hF _ _ _ _ _ _ _ h
def wm_readSet (post : MS → Prop) (σ : MS) (a1 : Int32) : Prop := ∀ x21 : Int32, x21 = (13 : Int32) + (m_scope σ) → wm_behind (fun (s22 : MS) (r23 : Int32) => wm_nameHere (fun (s24 : MS) (r25 : Int32) => ∀ x26 : Int32, x26 = m_tokenAt s24 → ∀ x27 : Int32, x27 = m_tokenSize s24 → ((¬ (r23 = (91 : Int32))) → (wm_readSet_54 post s24 a1 x21 r23 r25 x26 x27)) ∧ ((r23 = (91 : Int32)) → ((((0 : Int32) ≤ r25) → (wm_readSet_54 post s24 a1 x21 r23 r25 x26 x27)) ∧ ((¬ ((0 : Int32) ≤ r25)) → (wm_wrong (fun (s28 : MS) => wm_readSet_85 post s28 a1 x21 r23 r25 x26 x27) s24 (5 : Int32) (m_tokenAt s24)))))) s22) σ
set_option maxRecDepth 20000 in
theorem km_readSet {l : Launch} {D : va_G} {cl : List vw_C} {G : gAd} {post : MS → Prop} (hcl : mC cl) {σ : MS} {a1 : Int32} (h : wm_readSet post σ a1) : mMet l D cl G yX13_readSet cX13_readSet 7 none 12 [.ref (G.1 0), .int a1] σ (qV post) := by
  unfold wm_readSet at h
  refine m_enter hcl (by decide +kernel) rfl [(0, .ref (G.1 0)), (1, .int a1)] rfl (Nat.le_of_ble_eq_true rfl) ?_
  intro E hE hm hF
  have hN := hm.2.2.2.2.2.2.1
  refine r_bipush (v := (13 : Int32)) hE dX13_readSet_g0.1 (by decide) ?_
  refine r_aload_n hE 0 dX13_readSet_g0.2.1 rfl rfl ?_
  refine mg_scope hE hm dX13_readSet_g0.2.2.1 ?_
  refine r_iadd hE dX13_readSet_g0.2.2.2.1 ?_
  refine r_topi h (fun x21 ex21 h => ?_)
  refine r_istore_n hE [(2, .int x21), (0, .ref (G.1 0)), (1, .int a1)] dX13_readSet_g0.2.2.2.2.1 rfl hN (by decide) rfl ?_
  refine r_aload_n hE 1 dX13_readSet_g0.2.2.2.2.2.1 rfl rfl ?_
  refine m_callVi hE hm [] [] mc_behind (km_behind hm.2.2.2.2.2.2.2.2 h) (by decide) rfl rfl (Nat.le_of_ble_eq_true rfl) dX13_readSet_g0.2.2.2.2.2.2.1 (fun s22 r23 h => ?_)
  refine r_istore_n hE [(3, .int r23), (2, .int x21), (0, .ref (G.1 0)), (1, .int a1)] dX13_readSet_g0.2.2.2.2.2.2.2.1 rfl hN (by decide) rfl ?_
  refine r_aload_n hE 2 dX13_readSet_g0.2.2.2.2.2.2.2.2.1 rfl rfl ?_
  refine m_callVi hE hm [] [] mc_nameHere (km_nameHere hm.2.2.2.2.2.2.2.2 h) (by decide) rfl rfl (Nat.le_of_ble_eq_true rfl) dX13_readSet_g0.2.2.2.2.2.2.2.2.2.1 (fun s24 r25 h => ?_)
  refine r_istore hE [(4, .int r25), (3, .int r23), (2, .int x21), (0, .ref (G.1 0)), (1, .int a1)] dX13_readSet_g0.2.2.2.2.2.2.2.2.2.2.1 hN (by decide) rfl ?_
  refine r_aload_n hE 3 dX13_readSet_g0.2.2.2.2.2.2.2.2.2.2.2.1 rfl rfl ?_
  refine mg_tokenAt hE hm dX13_readSet_g0.2.2.2.2.2.2.2.2.2.2.2.2.1 ?_
  refine r_topi h (fun x26 ex26 h => ?_)
  refine r_istore hE [(5, .int x26), (4, .int r25), (3, .int r23), (2, .int x21), (0, .ref (G.1 0)), (1, .int a1)] dX13_readSet_g0.2.2.2.2.2.2.2.2.2.2.2.2.2.1 hN (by decide) rfl ?_
  refine r_aload_n hE 4 dX13_readSet_g0.2.2.2.2.2.2.2.2.2.2.2.2.2.2.1 rfl rfl ?_
  refine mg_tokenSize hE hm dX13_readSet_g0.2.2.2.2.2.2.2.2.2.2.2.2.2.2.2 ?_
  refine r_topi h (fun x27 ex27 h => ?_)
  refine r_istore hE [(6, .int x27), (5, .int x26), (4, .int r25), (3, .int r23), (2, .int x21), (0, .ref (G.1 0)), (1, .int a1)] dX13_readSet_g1.1 hN (by decide) rfl ?_
  refine r_iload_n hE 3 dX13_readSet_g1.2.1 rfl rfl ?_
  refine r_bipush (v := (91 : Int32)) hE dX13_readSet_g1.2.2.1 (by decide) ?_
  refine r_icmp_ne hE 54 dX13_readSet_g1.2.2.2.1 (by decide) h (fun h => ?_) (fun h => ?_)
  · refine r_pick [5, 6, 4, 3, 2, 1, 0] rfl ?_
    exact km_readSet_54 hE hm hF _ _ _ _ _ _ _ h
  · refine r_iload hE 2 dX13_readSet_g1.2.2.2.2.1 rfl ?_
    refine r_if_ge hE 54 dX13_readSet_g1.2.2.2.2.2.1 (by decide) h (fun h => ?_) (fun h => ?_)
    · refine r_pick [5, 6, 4, 3, 2, 1, 0] rfl ?_
      exact km_readSet_54 hE hm hF _ _ _ _ _ _ _ h
    · refine r_aload_n hE 5 dX13_readSet_g1.2.2.2.2.2.2.1 rfl rfl ?_
      refine r_iconst (v := (5 : Int32)) hE dX13_readSet_g1.2.2.2.2.2.2.2.1 (by decide) ?_
      refine r_aload_n hE 5 dX13_readSet_g1.2.2.2.2.2.2.2.2.1 rfl rfl ?_
      refine mg_tokenAt hE hm dX13_readSet_g1.2.2.2.2.2.2.2.2.2.1 ?_
      refine m_callVv hE hm [.int (5 : Int32), .int (m_tokenAt s24)] [] mc_wrong (km_wrong hm.2.2.2.2.2.2.2.2 h) (by decide) rfl rfl (Nat.le_of_ble_eq_true rfl) dX13_readSet_g1.2.2.2.2.2.2.2.2.2.2.1 (fun s28 h => ?_)
      refine r_goto hE 85 dX13_readSet_g1.2.2.2.2.2.2.2.2.2.2.2.1 (by decide) ?_
      refine r_pick [5, 6, 4, 3, 2, 1, 0] rfl ?_
      exact km_readSet_85 hE hm hF _ _ _ _ _ _ _ h
/-! readDeed -/
def wm_readDeed_45 (post : MS → Int32 → Prop) (σ : MS) : Prop := wm_misplaced (fun (s1 : MS) => post s1 (-1 : Int32)) σ
set_option maxRecDepth 20000 in
theorem km_readDeed_45 {E : gEnv} {l : Launch} {D : va_G} {cl : List vw_C} {G : gAd} {post : MS → Int32 → Prop} (hE : gOK E cX13_readDeed RX13 (some .int) 13) (hm : mOK E l D cl G (qI post) 3) (hF : gFin E) (σ : MS) (h : wm_readDeed_45 post σ) : GW E (mW G σ) 45 [(0, .ref (G.1 0))] [] := by
  unfold wm_readDeed_45 at h
  have hN := hm.2.2.2.2.2.2.1
  refine r_aload_n hE 0 dX13_readDeed_g1.2.2.2.2.2.2.2.1 rfl rfl ?_
  refine m_callVv hE hm [] [] mc_misplaced (km_misplaced hm.2.2.2.2.2.2.2.2 h) (by decide) rfl rfl (Nat.le_of_ble_eq_true rfl) dX13_readDeed_g1.2.2.2.2.2.2.2.2.1 (fun s1 h => ?_)
  refine r_iconst (v := (-1 : Int32)) hE dX13_readDeed_g1.2.2.2.2.2.2.2.2.2.1 (by decide) ?_
  exact m_iret hE hm hF dX13_readDeed_g1.2.2.2.2.2.2.2.2.2.2.1 h
def wm_readDeed_100 (post : MS → Int32 → Prop) (σ : MS) (v1 : Int32) (t1 : Int32) : Prop := wm_newNode (fun (s2 : MS) (r3 : Int32) => wm_fine (fun (s4 : MS) (r5 : Int32) => ((¬ (r5 = (0 : Int32))) → (∀ s6 : MS, s6 = m_readDeeds_s s4 ((m_readDeeds s4) + (1 : Int32)) → vp_in r3 600 ∧ (∀ s7 : MS, s7 = m_value_s s6 r3.toNatClampNeg (0 : Int64) → ∀ s8 : MS, s8 = m_opened_s s7 (m_blocks s7) → wm_hang (fun (s9 : MS) => (((0 : Int32) ≤ v1) → (wm_next (fun (s10 : MS) => wm_readExp (fun (s11 : MS) (r12 : Int32) => vp_in r3 600 ∧ (∀ s13 : MS, s13 = m_one_s s11 r3.toNatClampNeg r12 → ((v1 ≤ (3 : Int32)) → (wm_open (fun (s14 : MS) => wm_begin (fun (s15 : MS) => post s15 r3) s14 r3 (0 : Int32)) s13 (123 : Int32))) ∧ ((¬ (v1 ≤ (3 : Int32))) → (wm_take (fun (s16 : MS) => post s16 r3) s13 (59 : Int32))))) s10) s9)) ∧ ((¬ ((0 : Int32) ≤ v1)) → (wm_readSet (fun (s17 : MS) => post s17 r3) s9 r3))) s8 r3))) ∧ ((r5 = (0 : Int32)) → (post s4 (-1 : Int32)))) s2) σ t1 (m_tokenAt σ)
set_option maxRecDepth 20000 in
theorem km_readDeed_100 {E : gEnv} {l : Launch} {D : va_G} {cl : List vw_C} {G : gAd} {post : MS → Int32 → Prop} (hE : gOK E cX13_readDeed RX13 (some .int) 13) (hm : mOK E l D cl G (qI post) 3) (hF : gFin E) (σ : MS) (v1 : Int32) (t1 : Int32) (h : wm_readDeed_100 post σ v1 t1) : GW E (mW G σ) 100 [(0, .ref (G.1 0)), (1, .int v1)] [.int t1, .ref (G.1 0)] := by
  unfold wm_readDeed_100 at h
  have hN := hm.2.2.2.2.2.2.1
  refine r_aload_n hE 0 dX13_readDeed_g3.2.2.2.2.2.2.1 rfl rfl ?_
  refine mg_tokenAt hE hm dX13_readDeed_g3.2.2.2.2.2.2.2.1 ?_
  refine m_callVi hE hm [.int t1, .int (m_tokenAt σ)] [] mc_newNode (km_newNode hm.2.2.2.2.2.2.2.2 h) (by decide) rfl rfl (Nat.le_of_ble_eq_true rfl) dX13_readDeed_g3.2.2.2.2.2.2.2.2.1 (fun s2 r3 h => ?_)
  refine r_istore_n hE [(2, .int r3), (0, .ref (G.1 0)), (1, .int v1)] dX13_readDeed_g3.2.2.2.2.2.2.2.2.2.1 rfl hN (by decide) rfl ?_
  refine r_aload_n hE 1 dX13_readDeed_g3.2.2.2.2.2.2.2.2.2.2.1 rfl rfl ?_
  refine m_callVi hE hm [] [] mc_fine (km_fine hm.2.2.2.2.2.2.2.2 h) (by decide) rfl rfl (Nat.le_of_ble_eq_true rfl) dX13_readDeed_g3.2.2.2.2.2.2.2.2.2.2.2.1 (fun s4 r5 h => ?_)
  refine r_if_ne hE 117 dX13_readDeed_g3.2.2.2.2.2.2.2.2.2.2.2.2.1 (by decide) h (fun h => ?_) (fun h => ?_)
  · refine r_aload_n hE 1 dX13_readDeed_g3.2.2.2.2.2.2.2.2.2.2.2.2.2.2.2 rfl rfl ?_
    refine r_dup hE dX13_readDeed_g4.1 rfl ?_
    refine mg_readDeeds hE hm dX13_readDeed_g4.2.1 ?_
    refine r_iconst (v := (1 : Int32)) hE dX13_readDeed_g4.2.2.1 (by decide) ?_
    refine r_iadd hE dX13_readDeed_g4.2.2.2.1 ?_
    refine mp_readDeeds hE hm dX13_readDeed_g4.2.2.2.2.1 h (fun s6 h => ?_)
    refine r_aload_n hE 1 dX13_readDeed_g4.2.2.2.2.2.1 rfl rfl ?_
    refine mg_value hE hm dX13_readDeed_g4.2.2.2.2.2.2.1 ?_
    refine r_iload_n hE 0 dX13_readDeed_g4.2.2.2.2.2.2.2.1 rfl rfl ?_
    refine r_lconst (v := (0 : Int64)) hE dX13_readDeed_g4.2.2.2.2.2.2.2.2.1 (by decide) ?_
    obtain ⟨hi, h⟩ := h
    refine ms_value hE hm dX13_readDeed_g4.2.2.2.2.2.2.2.2.2.1 hi h (fun s7 h => ?_)
    refine r_aload_n hE 1 dX13_readDeed_g4.2.2.2.2.2.2.2.2.2.2.1 rfl rfl ?_
    refine r_aload_n hE 1 dX13_readDeed_g4.2.2.2.2.2.2.2.2.2.2.2.1 rfl rfl ?_
    refine mg_blocks hE hm dX13_readDeed_g4.2.2.2.2.2.2.2.2.2.2.2.2.1 ?_
    refine mp_opened hE hm dX13_readDeed_g4.2.2.2.2.2.2.2.2.2.2.2.2.2.1 h (fun s8 h => ?_)
    refine r_aload_n hE 1 dX13_readDeed_g4.2.2.2.2.2.2.2.2.2.2.2.2.2.2.1 rfl rfl ?_
    refine r_iload_n hE 0 dX13_readDeed_g4.2.2.2.2.2.2.2.2.2.2.2.2.2.2.2 rfl rfl ?_
    refine m_callVv hE hm [.int r3] [] mc_hang (km_hang hm.2.2.2.2.2.2.2.2 h) (by decide) rfl rfl (Nat.le_of_ble_eq_true rfl) dX13_readDeed_g5.1 (fun s9 h => ?_)
    refine r_iload_n hE 2 dX13_readDeed_g5.2.1 rfl rfl ?_
    refine r_if_ge hE 158 dX13_readDeed_g5.2.2.1 (by decide) h (fun h => ?_) (fun h => ?_)
    · refine r_aload_n hE 1 dX13_readDeed_g5.2.2.2.2.2.2.2.2.1 rfl rfl ?_
      refine m_callVv hE hm [] [] mc_next (km_next hm.2.2.2.2.2.2.2.2 h) (by decide) rfl rfl (Nat.le_of_ble_eq_true rfl) dX13_readDeed_g5.2.2.2.2.2.2.2.2.2.1 (fun s10 h => ?_)
      refine r_aload_n hE 1 dX13_readDeed_g5.2.2.2.2.2.2.2.2.2.2.1 rfl rfl ?_
      refine mg_one hE hm dX13_readDeed_g5.2.2.2.2.2.2.2.2.2.2.2.1 ?_
      refine r_iload_n hE 0 dX13_readDeed_g5.2.2.2.2.2.2.2.2.2.2.2.2.1 rfl rfl ?_
      refine r_aload_n hE 1 dX13_readDeed_g5.2.2.2.2.2.2.2.2.2.2.2.2.2.1 rfl rfl ?_
      refine m_callVi hE hm [] [.int r3, .ref (G.1 14)] mc_readExp (km_readExp hm.2.2.2.2.2.2.2.2 h) (by decide) rfl rfl (Nat.le_of_ble_eq_true rfl) dX13_readDeed_g5.2.2.2.2.2.2.2.2.2.2.2.2.2.2.1 (fun s11 r12 h => ?_)
      obtain ⟨hi, h⟩ := h
      refine ms_one hE hm dX13_readDeed_g5.2.2.2.2.2.2.2.2.2.2.2.2.2.2.2 hi h (fun s13 h => ?_)
      refine r_iload_n hE 2 dX13_readDeed_g6.1 rfl rfl ?_
      refine r_iconst (v := (3 : Int32)) hE dX13_readDeed_g6.2.1 (by decide) ?_
      refine r_icmp_le hE 186 dX13_readDeed_g6.2.2.1 (by decide) h (fun h => ?_) (fun h => ?_)
      · refine r_aload_n hE 1 dX13_readDeed_g6.2.2.2.2.2.2.2.1 rfl rfl ?_
        refine r_bipush (v := (123 : Int32)) hE dX13_readDeed_g6.2.2.2.2.2.2.2.2.1 (by decide) ?_
        refine m_callVv hE hm [.int (123 : Int32)] [] mc_open (km_open hm.2.2.2.2.2.2.2.2 h) (by decide) rfl rfl (Nat.le_of_ble_eq_true rfl) dX13_readDeed_g6.2.2.2.2.2.2.2.2.2.1 (fun s14 h => ?_)
        refine r_aload_n hE 1 dX13_readDeed_g6.2.2.2.2.2.2.2.2.2.2.1 rfl rfl ?_
        refine r_iload_n hE 0 dX13_readDeed_g6.2.2.2.2.2.2.2.2.2.2.2.1 rfl rfl ?_
        refine r_iconst (v := (0 : Int32)) hE dX13_readDeed_g6.2.2.2.2.2.2.2.2.2.2.2.2.1 (by decide) ?_
        refine m_callVv hE hm [.int r3, .int (0 : Int32)] [] mc_begin (km_begin hm.2.2.2.2.2.2.2.2 h) (by decide) rfl rfl (Nat.le_of_ble_eq_true rfl) dX13_readDeed_g6.2.2.2.2.2.2.2.2.2.2.2.2.2.1 (fun s15 h => ?_)
        refine r_iload_n hE 0 dX13_readDeed_g6.2.2.2.2.2.2.2.2.2.2.2.2.2.2.1 rfl rfl ?_
        exact m_iret hE hm hF dX13_readDeed_g6.2.2.2.2.2.2.2.2.2.2.2.2.2.2.2 h
      · refine r_aload_n hE 1 dX13_readDeed_g6.2.2.2.1 rfl rfl ?_
        refine r_bipush (v := (59 : Int32)) hE dX13_readDeed_g6.2.2.2.2.1 (by decide) ?_
        refine m_callVv hE hm [.int (59 : Int32)] [] mc_take (km_take hm.2.2.2.2.2.2.2.2 h) (by decide) rfl rfl (Nat.le_of_ble_eq_true rfl) dX13_readDeed_g6.2.2.2.2.2.1 (fun s16 h => ?_)
        refine r_goto hE 198 dX13_readDeed_g6.2.2.2.2.2.2.1 (by decide) ?_
        refine r_iload_n hE 0 dX13_readDeed_g6.2.2.2.2.2.2.2.2.2.2.2.2.2.2.1 rfl rfl ?_
        exact m_iret hE hm hF dX13_readDeed_g6.2.2.2.2.2.2.2.2.2.2.2.2.2.2.2 h
    · refine r_aload_n hE 1 dX13_readDeed_g5.2.2.2.1 rfl rfl ?_
      refine r_iload_n hE 0 dX13_readDeed_g5.2.2.2.2.1 rfl rfl ?_
      refine m_callVv hE hm [.int r3] [] mc_readSet (km_readSet hm.2.2.2.2.2.2.2.2 h) (by decide) rfl rfl (Nat.le_of_ble_eq_true rfl) dX13_readDeed_g5.2.2.2.2.2.1 (fun s17 h => ?_)
      refine r_iload_n hE 0 dX13_readDeed_g5.2.2.2.2.2.2.1 rfl rfl ?_
      exact m_iret hE hm hF dX13_readDeed_g5.2.2.2.2.2.2.2.1 h
  · refine r_iconst (v := (-1 : Int32)) hE dX13_readDeed_g3.2.2.2.2.2.2.2.2.2.2.2.2.2.1 (by decide) ?_
    exact m_iret hE hm hF dX13_readDeed_g3.2.2.2.2.2.2.2.2.2.2.2.2.2.2.1 h
def wm_readDeed_51 (post : MS → Int32 → Prop) (σ : MS) (v1 : Int32) : Prop := ((¬ (v1 = (1 : Int32))) → (((¬ (v1 = (3 : Int32))) → (((¬ (v1 = (4 : Int32))) → (((¬ (v1 = (5 : Int32))) → (((¬ (v1 = (6 : Int32))) → (wm_readDeed_100 post σ v1 (0 : Int32))) ∧ ((v1 = (6 : Int32)) → (wm_readDeed_100 post σ v1 (6 : Int32))))) ∧ ((v1 = (5 : Int32)) → (wm_readDeed_100 post σ v1 (5 : Int32))))) ∧ ((v1 = (4 : Int32)) → (wm_readDeed_100 post σ v1 (4 : Int32))))) ∧ ((v1 = (3 : Int32)) → (wm_readDeed_100 post σ v1 (3 : Int32))))) ∧ ((v1 = (1 : Int32)) → (wm_readDeed_100 post σ v1 (2 : Int32)))
set_option maxRecDepth 20000 in
theorem km_readDeed_51 {E : gEnv} {l : Launch} {D : va_G} {cl : List vw_C} {G : gAd} {post : MS → Int32 → Prop} (hE : gOK E cX13_readDeed RX13 (some .int) 13) (hm : mOK E l D cl G (qI post) 3) (hF : gFin E) (σ : MS) (v1 : Int32) (h : wm_readDeed_51 post σ v1) : GW E (mW G σ) 51 [(0, .ref (G.1 0)), (1, .int v1)] [] := by
  unfold wm_readDeed_51 at h
  have hN := hm.2.2.2.2.2.2.1
  refine r_aload_n hE 0 dX13_readDeed_g1.2.2.2.2.2.2.2.2.2.2.2.1 rfl rfl ?_
  refine r_iload_n hE 1 dX13_readDeed_g1.2.2.2.2.2.2.2.2.2.2.2.2.1 rfl rfl ?_
  refine r_iconst (v := (1 : Int32)) hE dX13_readDeed_g1.2.2.2.2.2.2.2.2.2.2.2.2.2.1 (by decide) ?_
  refine r_icmp_ne hE 61 dX13_readDeed_g1.2.2.2.2.2.2.2.2.2.2.2.2.2.2.1 (by decide) h (fun h => ?_) (fun h => ?_)
  · refine r_iload_n hE 1 dX13_readDeed_g2.2.1 rfl rfl ?_
    refine r_iconst (v := (3 : Int32)) hE dX13_readDeed_g2.2.2.1 (by decide) ?_
    refine r_icmp_ne hE 70 dX13_readDeed_g2.2.2.2.1 (by decide) h (fun h => ?_) (fun h => ?_)
    · refine r_iload_n hE 1 dX13_readDeed_g2.2.2.2.2.2.2.1 rfl rfl ?_
      refine r_iconst (v := (4 : Int32)) hE dX13_readDeed_g2.2.2.2.2.2.2.2.1 (by decide) ?_
      refine r_icmp_ne hE 79 dX13_readDeed_g2.2.2.2.2.2.2.2.2.1 (by decide) h (fun h => ?_) (fun h => ?_)
      · refine r_iload_n hE 1 dX13_readDeed_g2.2.2.2.2.2.2.2.2.2.2.2.1 rfl rfl ?_
        refine r_iconst (v := (5 : Int32)) hE dX13_readDeed_g2.2.2.2.2.2.2.2.2.2.2.2.2.1 (by decide) ?_
        refine r_icmp_ne hE 88 dX13_readDeed_g2.2.2.2.2.2.2.2.2.2.2.2.2.2.1 (by decide) h (fun h => ?_) (fun h => ?_)
        · refine r_iload_n hE 1 dX13_readDeed_g3.1 rfl rfl ?_
          refine r_bipush (v := (6 : Int32)) hE dX13_readDeed_g3.2.1 (by decide) ?_
          refine r_icmp_ne hE 99 dX13_readDeed_g3.2.2.1 (by decide) h (fun h => ?_) (fun h => ?_)
          · refine r_iconst (v := (0 : Int32)) hE dX13_readDeed_g3.2.2.2.2.2.1 (by decide) ?_
            exact km_readDeed_100 hE hm hF _ _ _ h
          · refine r_bipush (v := (6 : Int32)) hE dX13_readDeed_g3.2.2.2.1 (by decide) ?_
            refine r_goto hE 100 dX13_readDeed_g3.2.2.2.2.1 (by decide) ?_
            exact km_readDeed_100 hE hm hF _ _ _ h
        · refine r_iconst (v := (5 : Int32)) hE dX13_readDeed_g2.2.2.2.2.2.2.2.2.2.2.2.2.2.2.1 (by decide) ?_
          refine r_goto hE 100 dX13_readDeed_g2.2.2.2.2.2.2.2.2.2.2.2.2.2.2.2 (by decide) ?_
          exact km_readDeed_100 hE hm hF _ _ _ h
      · refine r_iconst (v := (4 : Int32)) hE dX13_readDeed_g2.2.2.2.2.2.2.2.2.2.1 (by decide) ?_
        refine r_goto hE 100 dX13_readDeed_g2.2.2.2.2.2.2.2.2.2.2.1 (by decide) ?_
        exact km_readDeed_100 hE hm hF _ _ _ h
    · refine r_iconst (v := (3 : Int32)) hE dX13_readDeed_g2.2.2.2.2.1 (by decide) ?_
      refine r_goto hE 100 dX13_readDeed_g2.2.2.2.2.2.1 (by decide) ?_
      exact km_readDeed_100 hE hm hF _ _ _ h
  · refine r_iconst (v := (2 : Int32)) hE dX13_readDeed_g1.2.2.2.2.2.2.2.2.2.2.2.2.2.2.2 (by decide) ?_
    refine r_goto hE 100 dX13_readDeed_g2.1 (by decide) ?_
    exact km_readDeed_100 hE hm hF _ _ _ h
def wm_readDeed_20 (post : MS → Int32 → Prop) (σ : MS) (t0 : Int32) : Prop := ((t0 = (0 : Int32)) → (wm_readDeed_45 post σ)) ∧ ((¬ (t0 = (0 : Int32))) → (((t0 = (2 : Int32)) → (wm_readDeed_45 post σ)) ∧ ((¬ (t0 = (2 : Int32))) → (((¬ (t0 = (6 : Int32))) → (wm_readDeed_51 post σ t0)) ∧ ((t0 = (6 : Int32)) → (((¬ ((m_scope σ) = (12 : Int32))) → (wm_readDeed_51 post σ t0)) ∧ (((m_scope σ) = (12 : Int32)) → (wm_readDeed_45 post σ))))))))
set_option maxRecDepth 20000 in
theorem km_readDeed_20 {E : gEnv} {l : Launch} {D : va_G} {cl : List vw_C} {G : gAd} {post : MS → Int32 → Prop} (hE : gOK E cX13_readDeed RX13 (some .int) 13) (hm : mOK E l D cl G (qI post) 3) (hF : gFin E) (σ : MS) (t0 : Int32) (h : wm_readDeed_20 post σ t0) : GW E (mW G σ) 20 [(0, .ref (G.1 0))] [.int t0] := by
  unfold wm_readDeed_20 at h
  have hN := hm.2.2.2.2.2.2.1
  refine r_istore_n hE [(1, .int t0), (0, .ref (G.1 0))] dX13_readDeed_g0.2.2.2.2.2.2.2.2.2.2.1 rfl hN (by decide) rfl ?_
  refine r_iload_n hE 0 dX13_readDeed_g0.2.2.2.2.2.2.2.2.2.2.2.1 rfl rfl ?_
  refine r_if_eq hE 45 dX13_readDeed_g0.2.2.2.2.2.2.2.2.2.2.2.2.1 (by decide) h (fun h => ?_) (fun h => ?_)
  · refine r_pick [1] rfl ?_
    exact km_readDeed_45 hE hm hF _ h
  · refine r_iload_n hE 0 dX13_readDeed_g0.2.2.2.2.2.2.2.2.2.2.2.2.2.1 rfl rfl ?_
    refine r_iconst (v := (2 : Int32)) hE dX13_readDeed_g0.2.2.2.2.2.2.2.2.2.2.2.2.2.2.1 (by decide) ?_
    refine r_icmp_eq hE 45 dX13_readDeed_g0.2.2.2.2.2.2.2.2.2.2.2.2.2.2.2 (by decide) h (fun h => ?_) (fun h => ?_)
    · refine r_pick [1] rfl ?_
      exact km_readDeed_45 hE hm hF _ h
    · refine r_iload_n hE 0 dX13_readDeed_g1.1 rfl rfl ?_
      refine r_bipush (v := (6 : Int32)) hE dX13_readDeed_g1.2.1 (by decide) ?_
      refine r_icmp_ne hE 51 dX13_readDeed_g1.2.2.1 (by decide) h (fun h => ?_) (fun h => ?_)
      · refine r_pick [1, 0] rfl ?_
        exact km_readDeed_51 hE hm hF _ _ h
      · refine r_aload_n hE 1 dX13_readDeed_g1.2.2.2.1 rfl rfl ?_
        refine mg_scope hE hm dX13_readDeed_g1.2.2.2.2.1 ?_
        refine r_bipush (v := (12 : Int32)) hE dX13_readDeed_g1.2.2.2.2.2.1 (by decide) ?_
        refine r_icmp_ne hE 51 dX13_readDeed_g1.2.2.2.2.2.2.1 (by decide) h (fun h => ?_) (fun h => ?_)
        · refine r_pick [1, 0] rfl ?_
          exact km_readDeed_51 hE hm hF _ _ h
        · refine r_pick [1] rfl ?_
          exact km_readDeed_45 hE hm hF _ h
def wm_readDeed (post : MS → Int32 → Prop) (σ : MS) : Prop := ((¬ ((m_token σ) = (1 : Int32))) → (wm_readDeed_20 post σ (0 : Int32))) ∧ (((m_token σ) = (1 : Int32)) → (wm_wordOf_wordList (fun (s18 : MS) (r19 : Int32) => wm_readDeed_20 post s18 r19) σ))
set_option maxRecDepth 20000 in
theorem km_readDeed {l : Launch} {D : va_G} {cl : List vw_C} {G : gAd} {post : MS → Int32 → Prop} (hcl : mC cl) {σ : MS} (h : wm_readDeed post σ) : mMet l D cl G yX13_readDeed cX13_readDeed 3 (some .int) 13 [.ref (G.1 0)] σ (qI post) := by
  unfold wm_readDeed at h
  refine m_enter hcl (by decide +kernel) rfl [(0, .ref (G.1 0))] rfl (Nat.le_of_ble_eq_true rfl) ?_
  intro E hE hm hF
  have hN := hm.2.2.2.2.2.2.1
  refine r_aload_n hE 0 dX13_readDeed_g0.1 rfl rfl ?_
  refine mg_token hE hm dX13_readDeed_g0.2.1 ?_
  refine r_iconst (v := (1 : Int32)) hE dX13_readDeed_g0.2.2.1 (by decide) ?_
  refine r_icmp_ne hE 19 dX13_readDeed_g0.2.2.2.1 (by decide) h (fun h => ?_) (fun h => ?_)
  · refine r_iconst (v := (0 : Int32)) hE dX13_readDeed_g0.2.2.2.2.2.2.2.2.2.1 (by decide) ?_
    exact km_readDeed_20 hE hm hF _ _ h
  · refine r_aload_n hE 0 dX13_readDeed_g0.2.2.2.2.1 rfl rfl ?_
    refine r_aload_n hE 0 dX13_readDeed_g0.2.2.2.2.2.1 rfl rfl ?_
    refine mg_wordList hE hm dX13_readDeed_g0.2.2.2.2.2.2.1 ?_
    refine m_callVi hE hm [.ref (G.1 10)] [] mc_wordOf (km_wordOf_wordList hm.2.2.2.2.2.2.2.2 h) (by decide) rfl rfl (Nat.le_of_ble_eq_true rfl) dX13_readDeed_g0.2.2.2.2.2.2.2.1 (fun s18 r19 h => ?_)
    refine r_goto hE 20 dX13_readDeed_g0.2.2.2.2.2.2.2.2.1 (by decide) ?_
    exact km_readDeed_20 hE hm hF _ _ h
