/-! noDrawn -/
def wm_noDrawn_22 (post : MS → Int32 → Prop) (σ : MS) (t1 : Int32) : Prop := ∀ s1 : MS, s1 = m_code_s σ t1 → (((m_code s1) ≤ (0 : Int32)) → (post s1 (0 : Int32))) ∧ ((¬ ((m_code s1) ≤ (0 : Int32))) → (post s1 (1 : Int32)))
set_option maxRecDepth 20000 in
theorem km_noDrawn_22 {E : gEnv} {l : Launch} {D : va_G} {cl : List vw_C} {G : gAd} {post : MS → Int32 → Prop} (hE : gOK E cX13_noDrawn RX13 (some .boolean) 2) (hm : mOK E l D cl G (qI post) 2) (σ : MS) (t1 : Int32) (h : wm_noDrawn_22 post σ t1) : GW E (mW G σ) 22 [(0, .ref (G.1 0))] [.int t1, .ref (G.1 0)] := by
  unfold wm_noDrawn_22 at h
  have hN := hm.2.2.2.2.2.2.1
  refine mp_code hE hm dX13_noDrawn_22 h (fun s1 h => ?_)
  refine r_aload_n hE 0 dX13_noDrawn_25 rfl rfl ?_
  refine mg_code hE hm dX13_noDrawn_26 ?_
  refine r_if_le hE 36 dX13_noDrawn_29 (by decide) h (fun h => ?_) (fun h => ?_)
  · refine r_iconst (v := (0 : Int32)) hE dX13_noDrawn_36 (by decide) ?_
    exact m_zret hE hm dX13_noDrawn_37 (Or.inl rfl) h
  · refine r_iconst (v := (1 : Int32)) hE dX13_noDrawn_32 (by decide) ?_
    refine r_goto hE 37 dX13_noDrawn_33 (by decide) ?_
    exact m_zret hE hm dX13_noDrawn_37 (Or.inr rfl) h
def wm_noDrawn (post : MS → Int32 → Prop) (σ : MS) (a1 : Int32) : Prop := wm_in (fun (s2 : MS) (r3 : Int32) => ((r3 = (0 : Int32)) → (wm_noDrawn_22 post s2 (1 : Int32))) ∧ ((¬ (r3 = (0 : Int32))) → (wm_noDrawn_22 post s2 (0 : Int32)))) σ (a1.toInt64) (0 : Int64) (((m_drawnMany σ) - (1 : Int32)).toInt64)
set_option maxRecDepth 20000 in
theorem km_noDrawn {l : Launch} {D : va_G} {cl : List vw_C} {G : gAd} {post : MS → Int32 → Prop} (hcl : mC cl) {σ : MS} {a1 : Int32} (h : wm_noDrawn post σ a1) : mMet l D cl G yX13_noDrawn cX13_noDrawn 2 (some .boolean) 2 [.ref (G.1 0), .int a1] σ (qI post) := by
  unfold wm_noDrawn at h
  refine m_enter hcl (by decide +kernel) rfl [(0, .ref (G.1 0)), (1, .int a1)] rfl (Nat.le_of_ble_eq_true rfl) ?_
  intro E hE hm
  have hN := hm.2.2.2.2.2.2.1
  refine r_aload_n hE 0 dX13_noDrawn_0 rfl rfl ?_
  refine r_iload_n hE 1 dX13_noDrawn_1 rfl rfl ?_
  refine r_i2l hE dX13_noDrawn_2 ?_
  refine r_lconst (v := (0 : Int64)) hE dX13_noDrawn_3 (by decide) ?_
  refine r_aload_n hE 0 dX13_noDrawn_4 rfl rfl ?_
  refine mg_drawnMany hE hm dX13_noDrawn_5 ?_
  refine r_iconst (v := (1 : Int32)) hE dX13_noDrawn_8 (by decide) ?_
  refine r_isub hE dX13_noDrawn_9 ?_
  refine r_i2l hE dX13_noDrawn_10 ?_
  refine m_callSi hE hm [.long (a1.toInt64), .long (0 : Int64), .long (((m_drawnMany σ) - (1 : Int32)).toInt64)] [.ref (G.1 0)] mc_in (km_in hm.2.2.2.2.2.2.2.2 h) (by decide) rfl rfl (Nat.le_of_ble_eq_true rfl) dX13_noDrawn_11 (fun s2 r3 h => ?_)
  refine r_if_eq hE 21 dX13_noDrawn_14 (by decide) h (fun h => ?_) (fun h => ?_)
  · refine r_iconst (v := (1 : Int32)) hE dX13_noDrawn_21 (by decide) ?_
    refine r_pick [0] rfl ?_
    exact km_noDrawn_22 hE hm _ _ h
  · refine r_iconst (v := (0 : Int32)) hE dX13_noDrawn_17 (by decide) ?_
    refine r_goto hE 22 dX13_noDrawn_18 (by decide) ?_
    refine r_pick [0] rfl ?_
    exact km_noDrawn_22 hE hm _ _ h
/-! kind -/
def wm_kind (post : MS → Int32 → Prop) (σ : MS) (a1 : Int32) : Prop := wm_noDrawn (fun (s1 : MS) (r2 : Int32) => ((r2 = (0 : Int32)) → (vp_in a1 40 ∧ (vp_in (m_drawn s1 a1.toNatClampNeg) 480 ∧ (post s1 (m_sort s1 (m_drawn s1 a1.toNatClampNeg).toNatClampNeg))))) ∧ ((¬ (r2 = (0 : Int32))) → (post s1 (0 : Int32)))) σ a1
set_option maxRecDepth 20000 in
theorem km_kind {l : Launch} {D : va_G} {cl : List vw_C} {G : gAd} {post : MS → Int32 → Prop} (hcl : mC cl) {σ : MS} {a1 : Int32} (h : wm_kind post σ a1) : mMet l D cl G yX13_kind cX13_kind 2 (some .int) 3 [.ref (G.1 0), .int a1] σ (qI post) := by
  unfold wm_kind at h
  refine m_enter hcl (by decide +kernel) rfl [(0, .ref (G.1 0)), (1, .int a1)] rfl (Nat.le_of_ble_eq_true rfl) ?_
  intro E hE hm
  have hN := hm.2.2.2.2.2.2.1
  refine r_aload_n hE 0 dX13_kind_0 rfl rfl ?_
  refine r_iload_n hE 1 dX13_kind_1 rfl rfl ?_
  refine m_callVi hE hm [.int a1] [] mc_noDrawn (km_noDrawn hm.2.2.2.2.2.2.2.2 h) (by decide) rfl rfl (Nat.le_of_ble_eq_true rfl) dX13_kind_2 (fun s1 r2 h => ?_)
  refine r_if_eq hE 12 dX13_kind_5 (by decide) h (fun h => ?_) (fun h => ?_)
  · refine r_aload_n hE 0 dX13_kind_12 rfl rfl ?_
    refine mg_sort hE hm dX13_kind_13 ?_
    refine r_aload_n hE 0 dX13_kind_16 rfl rfl ?_
    refine mg_drawn hE hm dX13_kind_17 ?_
    refine r_iload_n hE 1 dX13_kind_20 rfl rfl ?_
    obtain ⟨hi, h⟩ := h
    refine ml_drawn hE hm dX13_kind_21 hi ?_
    obtain ⟨hi, h⟩ := h
    refine ml_sort hE hm dX13_kind_22 hi ?_
    exact m_iret hE hm dX13_kind_23 h
  · refine r_iconst (v := (0 : Int32)) hE dX13_kind_8 (by decide) ?_
    refine r_goto hE 23 dX13_kind_9 (by decide) ?_
    exact m_iret hE hm dX13_kind_23 h
/-! number_ -/
def wm_number__110 (post : MS → Int64 → Prop) (σ : MS) (v2 : Int32) (v3 : Int32) (v4 : Int32) (t1 : Int32) : Prop := ∀ s1 : MS, s1 = m_code_s σ t1 → (((m_code s1) ≤ (0 : Int32)) → (vp_in v4 480 ∧ (((¬ ((m_sort s1 v4.toNatClampNeg) = (6 : Int32))) → (((¬ (v3 = (0 : Int32))) → (vp_in (((7 : Int32) * v4) + v2) 3360 ∧ (post s1 (m_low s1 (((7 : Int32) * v4) + v2).toNatClampNeg)))) ∧ ((v3 = (0 : Int32)) → (vp_in (((7 : Int32) * v4) + v2) 3360 ∧ (post s1 (m_up s1 (((7 : Int32) * v4) + v2).toNatClampNeg)))))) ∧ (((m_sort s1 v4.toNatClampNeg) = (6 : Int32)) → (((¬ (v3 = (1 : Int32))) → (((¬ (v2 = (0 : Int32))) → (vp_in v4 480 ∧ (vp_in (m_rowOf s1 v4.toNatClampNeg) 480 ∧ (post s1 ((m_rowSize s1 (m_rowOf s1 v4.toNatClampNeg).toNatClampNeg).toInt64))))) ∧ ((v2 = (0 : Int32)) → (vp_in v4 480 ∧ (vp_in (m_rowOf s1 v4.toNatClampNeg) 480 ∧ (post s1 ((m_rowSort s1 (m_rowOf s1 v4.toNatClampNeg).toNatClampNeg).toInt64))))))) ∧ ((v3 = (1 : Int32)) → (post s1 (1 : Int64)))))))) ∧ ((¬ ((m_code s1) ≤ (0 : Int32))) → (post s1 (0 : Int64)))
set_option maxRecDepth 20000 in
theorem km_number__110 {E : gEnv} {l : Launch} {D : va_G} {cl : List vw_C} {G : gAd} {post : MS → Int64 → Prop} (hE : gOK E cX13_number_ RX13 (some .long) 3) (hm : mOK E l D cl G (qL post) 6) (σ : MS) (v2 : Int32) (v3 : Int32) (v4 : Int32) (t1 : Int32) (h : wm_number__110 post σ v2 v3 v4 t1) : GW E (mW G σ) 110 [(0, .ref (G.1 0)), (2, .int v2), (3, .int v3), (4, .int v4)] [.int t1, .ref (G.1 0)] := by
  unfold wm_number__110 at h
  have hN := hm.2.2.2.2.2.2.1
  refine mp_code hE hm dX13_number__110 h (fun s1 h => ?_)
  refine r_aload_n hE 0 dX13_number__113 rfl rfl ?_
  refine mg_code hE hm dX13_number__114 ?_
  refine r_if_le hE 122 dX13_number__117 (by decide) h (fun h => ?_) (fun h => ?_)
  · refine r_aload_n hE 0 dX13_number__122 rfl rfl ?_
    refine mg_sort hE hm dX13_number__123 ?_
    refine r_iload hE 3 dX13_number__126 rfl ?_
    obtain ⟨hi, h⟩ := h
    refine ml_sort hE hm dX13_number__128 hi ?_
    refine r_bipush (v := (6 : Int32)) hE dX13_number__129 (by decide) ?_
    refine r_icmp_ne hE 177 dX13_number__131 (by decide) h (fun h => ?_) (fun h => ?_)
    · refine r_iload_n hE 2 dX13_number__177 rfl rfl ?_
      refine r_if_ne hE 196 dX13_number__178 (by decide) h (fun h => ?_) (fun h => ?_)
      · refine r_aload_n hE 0 dX13_number__196 rfl rfl ?_
        refine mg_low hE hm dX13_number__197 ?_
        refine r_bipush (v := (7 : Int32)) hE dX13_number__200 (by decide) ?_
        refine r_iload hE 3 dX13_number__202 rfl ?_
        refine r_imul hE dX13_number__204 ?_
        refine r_iload_n hE 1 dX13_number__205 rfl rfl ?_
        refine r_iadd hE dX13_number__206 ?_
        obtain ⟨hi, h⟩ := h
        refine ml_low hE hm dX13_number__207 hi ?_
        exact m_lret hE hm dX13_number__208 h
      · refine r_aload_n hE 0 dX13_number__181 rfl rfl ?_
        refine mg_up hE hm dX13_number__182 ?_
        refine r_bipush (v := (7 : Int32)) hE dX13_number__185 (by decide) ?_
        refine r_iload hE 3 dX13_number__187 rfl ?_
        refine r_imul hE dX13_number__189 ?_
        refine r_iload_n hE 1 dX13_number__190 rfl rfl ?_
        refine r_iadd hE dX13_number__191 ?_
        obtain ⟨hi, h⟩ := h
        refine ml_up hE hm dX13_number__192 hi ?_
        refine r_goto hE 208 dX13_number__193 (by decide) ?_
        exact m_lret hE hm dX13_number__208 h
    · refine r_iload_n hE 2 dX13_number__134 rfl rfl ?_
      refine r_iconst (v := (1 : Int32)) hE dX13_number__135 (by decide) ?_
      refine r_icmp_ne hE 143 dX13_number__136 (by decide) h (fun h => ?_) (fun h => ?_)
      · refine r_iload_n hE 1 dX13_number__143 rfl rfl ?_
        refine r_if_ne hE 163 dX13_number__144 (by decide) h (fun h => ?_) (fun h => ?_)
        · refine r_aload_n hE 0 dX13_number__163 rfl rfl ?_
          refine mg_rowSize hE hm dX13_number__164 ?_
          refine r_aload_n hE 0 dX13_number__167 rfl rfl ?_
          refine mg_rowOf hE hm dX13_number__168 ?_
          refine r_iload hE 3 dX13_number__171 rfl ?_
          obtain ⟨hi, h⟩ := h
          refine ml_rowOf hE hm dX13_number__173 hi ?_
          obtain ⟨hi, h⟩ := h
          refine ml_rowSize hE hm dX13_number__174 hi ?_
          refine r_i2l hE dX13_number__175 ?_
          exact m_lret hE hm dX13_number__176 h
        · refine r_aload_n hE 0 dX13_number__147 rfl rfl ?_
          refine mg_rowSort hE hm dX13_number__148 ?_
          refine r_aload_n hE 0 dX13_number__151 rfl rfl ?_
          refine mg_rowOf hE hm dX13_number__152 ?_
          refine r_iload hE 3 dX13_number__155 rfl ?_
          obtain ⟨hi, h⟩ := h
          refine ml_rowOf hE hm dX13_number__157 hi ?_
          obtain ⟨hi, h⟩ := h
          refine ml_rowSort hE hm dX13_number__158 hi ?_
          refine r_i2l hE dX13_number__159 ?_
          refine r_goto hE 176 dX13_number__160 (by decide) ?_
          exact m_lret hE hm dX13_number__176 h
      · refine r_lconst (v := (1 : Int64)) hE dX13_number__139 (by decide) ?_
        refine r_goto hE 176 dX13_number__140 (by decide) ?_
        exact m_lret hE hm dX13_number__176 h
  · refine r_lconst (v := (0 : Int64)) hE dX13_number__120 (by decide) ?_
    exact m_lret hE hm dX13_number__121 h
def wm_number__109 (post : MS → Int64 → Prop) (σ : MS) (v2 : Int32) (v3 : Int32) (v4 : Int32) : Prop := wm_number__110 post σ v2 v3 v4 (1 : Int32)
set_option maxRecDepth 20000 in
theorem km_number__109 {E : gEnv} {l : Launch} {D : va_G} {cl : List vw_C} {G : gAd} {post : MS → Int64 → Prop} (hE : gOK E cX13_number_ RX13 (some .long) 3) (hm : mOK E l D cl G (qL post) 6) (σ : MS) (v2 : Int32) (v3 : Int32) (v4 : Int32) (h : wm_number__109 post σ v2 v3 v4) : GW E (mW G σ) 109 [(0, .ref (G.1 0)), (2, .int v2), (3, .int v3), (4, .int v4)] [.ref (G.1 0)] := by
  unfold wm_number__109 at h
  have hN := hm.2.2.2.2.2.2.1
  refine r_iconst (v := (1 : Int32)) hE dX13_number__109 (by decide) ?_
  exact km_number__110 hE hm _ _ _ _ _ h
def wm_number__78 (post : MS → Int64 → Prop) (σ : MS) (v2 : Int32) (v3 : Int32) (v4 : Int32) (t0 : Int32) : Prop := wm_in (fun (s2 : MS) (r3 : Int32) => ((r3 = (0 : Int32)) → (wm_number__109 post s2 v2 v3 v4)) ∧ ((¬ (r3 = (0 : Int32))) → (wm_in (fun (s4 : MS) (r5 : Int32) => ((r5 = (0 : Int32)) → (wm_number__109 post s4 v2 v3 v4)) ∧ ((¬ (r5 = (0 : Int32))) → (wm_number__110 post s4 v2 v3 v4 (0 : Int32)))) s2 (v2.toInt64) (0 : Int64) ((t0 - (1 : Int32)).toInt64)))) σ (v3.toInt64) (0 : Int64) (1 : Int64)
set_option maxRecDepth 20000 in
theorem km_number__78 {E : gEnv} {l : Launch} {D : va_G} {cl : List vw_C} {G : gAd} {post : MS → Int64 → Prop} (hE : gOK E cX13_number_ RX13 (some .long) 3) (hm : mOK E l D cl G (qL post) 6) (σ : MS) (v2 : Int32) (v3 : Int32) (v4 : Int32) (t0 : Int32) (h : wm_number__78 post σ v2 v3 v4 t0) : GW E (mW G σ) 78 [(0, .ref (G.1 0)), (2, .int v2), (3, .int v3), (4, .int v4)] [.int t0] := by
  unfold wm_number__78 at h
  have hN := hm.2.2.2.2.2.2.1
  refine r_istore hE [(5, .int t0), (0, .ref (G.1 0)), (2, .int v2), (3, .int v3), (4, .int v4)] dX13_number__78 hN (by decide) rfl ?_
  refine r_aload_n hE 1 dX13_number__80 rfl rfl ?_
  refine r_iload_n hE 3 dX13_number__81 rfl rfl ?_
  refine r_i2l hE dX13_number__82 ?_
  refine r_lconst (v := (0 : Int64)) hE dX13_number__83 (by decide) ?_
  refine r_lconst (v := (1 : Int64)) hE dX13_number__84 (by decide) ?_
  refine m_callSi hE hm [.long (v3.toInt64), .long (0 : Int64), .long (1 : Int64)] [.ref (G.1 0)] mc_in (km_in hm.2.2.2.2.2.2.2.2 h) (by decide) rfl rfl (Nat.le_of_ble_eq_true rfl) dX13_number__85 (fun s2 r3 h => ?_)
  refine r_if_eq hE 109 dX13_number__88 (by decide) h (fun h => ?_) (fun h => ?_)
  · refine r_pick [1, 2, 3, 4] rfl ?_
    exact km_number__109 hE hm _ _ _ _ h
  · refine r_iload_n hE 2 dX13_number__91 rfl rfl ?_
    refine r_i2l hE dX13_number__92 ?_
    refine r_lconst (v := (0 : Int64)) hE dX13_number__93 (by decide) ?_
    refine r_iload hE 0 dX13_number__94 rfl ?_
    refine r_iconst (v := (1 : Int32)) hE dX13_number__96 (by decide) ?_
    refine r_isub hE dX13_number__97 ?_
    refine r_i2l hE dX13_number__98 ?_
    refine m_callSi hE hm [.long (v2.toInt64), .long (0 : Int64), .long ((t0 - (1 : Int32)).toInt64)] [.ref (G.1 0)] mc_in (km_in hm.2.2.2.2.2.2.2.2 h) (by decide) rfl rfl (Nat.le_of_ble_eq_true rfl) dX13_number__99 (fun s4 r5 h => ?_)
    refine r_if_eq hE 109 dX13_number__102 (by decide) h (fun h => ?_) (fun h => ?_)
    · refine r_pick [1, 2, 3, 4] rfl ?_
      exact km_number__109 hE hm _ _ _ _ h
    · refine r_iconst (v := (0 : Int32)) hE dX13_number__105 (by decide) ?_
      refine r_goto hE 110 dX13_number__106 (by decide) ?_
      refine r_pick [1, 2, 3, 4] rfl ?_
      exact km_number__110 hE hm _ _ _ _ _ h
def wm_number__57 (post : MS → Int64 → Prop) (σ : MS) (v2 : Int32) (v3 : Int32) (v4 : Int32) : Prop := wm_number__78 post σ v2 v3 v4 (2 : Int32)
set_option maxRecDepth 20000 in
theorem km_number__57 {E : gEnv} {l : Launch} {D : va_G} {cl : List vw_C} {G : gAd} {post : MS → Int64 → Prop} (hE : gOK E cX13_number_ RX13 (some .long) 3) (hm : mOK E l D cl G (qL post) 6) (σ : MS) (v2 : Int32) (v3 : Int32) (v4 : Int32) (h : wm_number__57 post σ v2 v3 v4) : GW E (mW G σ) 57 [(0, .ref (G.1 0)), (2, .int v2), (3, .int v3), (4, .int v4)] [] := by
  unfold wm_number__57 at h
  have hN := hm.2.2.2.2.2.2.1
  refine r_iconst (v := (2 : Int32)) hE dX13_number__57 (by decide) ?_
  refine r_goto hE 78 dX13_number__58 (by decide) ?_
  exact km_number__78 hE hm _ _ _ _ _ h
def wm_number_ (post : MS → Int64 → Prop) (σ : MS) (a1 : Int32) (a2 : Int32) (a3 : Int32) : Prop := wm_noDrawn (fun (s6 : MS) (r7 : Int32) => ((r7 = (0 : Int32)) → (vp_in a1 40 ∧ (∀ x8 : Int32, x8 = m_drawn s6 a1.toNatClampNeg → vp_in x8 480 ∧ (((¬ ((m_sort s6 x8.toNatClampNeg) = (0 : Int32))) → (vp_in x8 480 ∧ (wm_isPoint (fun (s9 : MS) (r10 : Int32) => ((¬ (r10 = (0 : Int32))) → (wm_number__57 post s9 a2 a3 x8)) ∧ ((r10 = (0 : Int32)) → (vp_in x8 480 ∧ (((¬ ((m_sort s9 x8.toNatClampNeg) = (6 : Int32))) → (vp_in x8 480 ∧ (((¬ ((m_sort s9 x8.toNatClampNeg) = (4 : Int32))) → (wm_number__78 post s9 a2 a3 x8 (3 : Int32))) ∧ (((m_sort s9 x8.toNatClampNeg) = (4 : Int32)) → (wm_number__78 post s9 a2 a3 x8 (7 : Int32)))))) ∧ (((m_sort s9 x8.toNatClampNeg) = (6 : Int32)) → (wm_number__57 post s9 a2 a3 x8)))))) s6 (m_sort s6 x8.toNatClampNeg)))) ∧ (((m_sort s6 x8.toNatClampNeg) = (0 : Int32)) → (wm_number__78 post s6 a2 a3 x8 (1 : Int32))))))) ∧ ((¬ (r7 = (0 : Int32))) → (post s6 (0 : Int64)))) σ a1
set_option maxRecDepth 20000 in
theorem km_number_ {l : Launch} {D : va_G} {cl : List vw_C} {G : gAd} {post : MS → Int64 → Prop} (hcl : mC cl) {σ : MS} {a1 : Int32} {a2 : Int32} {a3 : Int32} (h : wm_number_ post σ a1 a2 a3) : mMet l D cl G yX13_number_ cX13_number_ 6 (some .long) 3 [.ref (G.1 0), .int a1, .int a2, .int a3] σ (qL post) := by
  unfold wm_number_ at h
  refine m_enter hcl (by decide +kernel) rfl [(0, .ref (G.1 0)), (1, .int a1), (2, .int a2), (3, .int a3)] rfl (Nat.le_of_ble_eq_true rfl) ?_
  intro E hE hm
  have hN := hm.2.2.2.2.2.2.1
  refine r_aload_n hE 0 dX13_number__0 rfl rfl ?_
  refine r_iload_n hE 1 dX13_number__1 rfl rfl ?_
  refine m_callVi hE hm [.int a1] [] mc_noDrawn (km_noDrawn hm.2.2.2.2.2.2.2.2 h) (by decide) rfl rfl (Nat.le_of_ble_eq_true rfl) dX13_number__2 (fun s6 r7 h => ?_)
  refine r_if_eq hE 10 dX13_number__5 (by decide) h (fun h => ?_) (fun h => ?_)
  · refine r_aload_n hE 0 dX13_number__10 rfl rfl ?_
    refine mg_drawn hE hm dX13_number__11 ?_
    refine r_iload_n hE 1 dX13_number__14 rfl rfl ?_
    obtain ⟨hi, h⟩ := h
    refine ml_drawn hE hm dX13_number__15 hi ?_
    refine r_topi h (fun x8 ex8 h => ?_)
    refine r_istore hE [(4, .int x8), (0, .ref (G.1 0)), (1, .int a1), (2, .int a2), (3, .int a3)] dX13_number__16 hN (by decide) rfl ?_
    refine r_aload_n hE 1 dX13_number__18 rfl rfl ?_
    refine mg_sort hE hm dX13_number__19 ?_
    refine r_iload hE 0 dX13_number__22 rfl ?_
    obtain ⟨hi, h⟩ := h
    refine ml_sort hE hm dX13_number__24 hi ?_
    refine r_if_ne hE 32 dX13_number__25 (by decide) h (fun h => ?_) (fun h => ?_)
    · refine r_aload_n hE 1 dX13_number__32 rfl rfl ?_
      refine mg_sort hE hm dX13_number__33 ?_
      refine r_iload hE 0 dX13_number__36 rfl ?_
      obtain ⟨hi, h⟩ := h
      refine ml_sort hE hm dX13_number__38 hi ?_
      refine m_callSi hE hm [.int (m_sort s6 x8.toNatClampNeg)] [] mc_isPoint (km_isPoint hm.2.2.2.2.2.2.2.2 h) (by decide) rfl rfl (Nat.le_of_ble_eq_true rfl) dX13_number__39 (fun s9 r10 h => ?_)
      refine r_if_ne hE 57 dX13_number__42 (by decide) h (fun h => ?_) (fun h => ?_)
      · refine r_pick [1, 3, 4, 0] rfl ?_
        exact km_number__57 hE hm _ _ _ _ h
      · refine r_aload_n hE 1 dX13_number__45 rfl rfl ?_
        refine mg_sort hE hm dX13_number__46 ?_
        refine r_iload hE 0 dX13_number__49 rfl ?_
        obtain ⟨hi, h⟩ := h
        refine ml_sort hE hm dX13_number__51 hi ?_
        refine r_bipush (v := (6 : Int32)) hE dX13_number__52 (by decide) ?_
        refine r_icmp_ne hE 61 dX13_number__54 (by decide) h (fun h => ?_) (fun h => ?_)
        · refine r_aload_n hE 1 dX13_number__61 rfl rfl ?_
          refine mg_sort hE hm dX13_number__62 ?_
          refine r_iload hE 0 dX13_number__65 rfl ?_
          obtain ⟨hi, h⟩ := h
          refine ml_sort hE hm dX13_number__67 hi ?_
          refine r_iconst (v := (4 : Int32)) hE dX13_number__68 (by decide) ?_
          refine r_icmp_ne hE 77 dX13_number__69 (by decide) h (fun h => ?_) (fun h => ?_)
          · refine r_iconst (v := (3 : Int32)) hE dX13_number__77 (by decide) ?_
            refine r_pick [1, 3, 4, 0] rfl ?_
            exact km_number__78 hE hm _ _ _ _ _ h
          · refine r_bipush (v := (7 : Int32)) hE dX13_number__72 (by decide) ?_
            refine r_goto hE 78 dX13_number__74 (by decide) ?_
            refine r_pick [1, 3, 4, 0] rfl ?_
            exact km_number__78 hE hm _ _ _ _ _ h
        · refine r_pick [1, 3, 4, 0] rfl ?_
          exact km_number__57 hE hm _ _ _ _ h
    · refine r_iconst (v := (1 : Int32)) hE dX13_number__28 (by decide) ?_
      refine r_goto hE 78 dX13_number__29 (by decide) ?_
      refine r_pick [1, 3, 4, 0] rfl ?_
      exact km_number__78 hE hm _ _ _ _ _ h
  · refine r_lconst (v := (0 : Int64)) hE dX13_number__8 (by decide) ?_
    exact m_lret hE hm dX13_number__9 h
/-! leans -/
def wm_leans (post : MS → Int32 → Prop) (σ : MS) (a1 : Int32) : Prop := wm_noDrawn (fun (s1 : MS) (r2 : Int32) => ((r2 = (0 : Int32)) → (vp_in a1 40 ∧ (vp_in (m_drawn s1 a1.toNatClampNeg) 480 ∧ (post s1 (m_lean s1 (m_drawn s1 a1.toNatClampNeg).toNatClampNeg))))) ∧ ((¬ (r2 = (0 : Int32))) → (post s1 (0 : Int32)))) σ a1
set_option maxRecDepth 20000 in
theorem km_leans {l : Launch} {D : va_G} {cl : List vw_C} {G : gAd} {post : MS → Int32 → Prop} (hcl : mC cl) {σ : MS} {a1 : Int32} (h : wm_leans post σ a1) : mMet l D cl G yX13_leans cX13_leans 2 (some .int) 3 [.ref (G.1 0), .int a1] σ (qI post) := by
  unfold wm_leans at h
  refine m_enter hcl (by decide +kernel) rfl [(0, .ref (G.1 0)), (1, .int a1)] rfl (Nat.le_of_ble_eq_true rfl) ?_
  intro E hE hm
  have hN := hm.2.2.2.2.2.2.1
  refine r_aload_n hE 0 dX13_leans_0 rfl rfl ?_
  refine r_iload_n hE 1 dX13_leans_1 rfl rfl ?_
  refine m_callVi hE hm [.int a1] [] mc_noDrawn (km_noDrawn hm.2.2.2.2.2.2.2.2 h) (by decide) rfl rfl (Nat.le_of_ble_eq_true rfl) dX13_leans_2 (fun s1 r2 h => ?_)
  refine r_if_eq hE 12 dX13_leans_5 (by decide) h (fun h => ?_) (fun h => ?_)
  · refine r_aload_n hE 0 dX13_leans_12 rfl rfl ?_
    refine mg_lean hE hm dX13_leans_13 ?_
    refine r_aload_n hE 0 dX13_leans_16 rfl rfl ?_
    refine mg_drawn hE hm dX13_leans_17 ?_
    refine r_iload_n hE 1 dX13_leans_20 rfl rfl ?_
    obtain ⟨hi, h⟩ := h
    refine ml_drawn hE hm dX13_leans_21 hi ?_
    obtain ⟨hi, h⟩ := h
    refine ml_lean hE hm dX13_leans_22 hi ?_
    exact m_iret hE hm dX13_leans_23 h
  · refine r_iconst (v := (0 : Int32)) hE dX13_leans_8 (by decide) ?_
    refine r_goto hE 23 dX13_leans_9 (by decide) ?_
    exact m_iret hE hm dX13_leans_23 h
/-! stated -/
def wm_stated_22 (post : MS → Int32 → Prop) (σ : MS) (v1 : Int32) (t1 : Int32) : Prop := ∀ s1 : MS, s1 = m_code_s σ t1 → (((m_code s1) ≤ (0 : Int32)) → (vp_in v1 40 ∧ (post s1 (m_stated s1 v1.toNatClampNeg)))) ∧ ((¬ ((m_code s1) ≤ (0 : Int32))) → (post s1 (0 : Int32)))
set_option maxRecDepth 20000 in
theorem km_stated_22 {E : gEnv} {l : Launch} {D : va_G} {cl : List vw_C} {G : gAd} {post : MS → Int32 → Prop} (hE : gOK E cX13_stated RX13 (some .int) 2) (hm : mOK E l D cl G (qI post) 2) (σ : MS) (v1 : Int32) (t1 : Int32) (h : wm_stated_22 post σ v1 t1) : GW E (mW G σ) 22 [(0, .ref (G.1 0)), (1, .int v1)] [.int t1, .ref (G.1 0)] := by
  unfold wm_stated_22 at h
  have hN := hm.2.2.2.2.2.2.1
  refine mp_code hE hm dX13_stated_22 h (fun s1 h => ?_)
  refine r_aload_n hE 0 dX13_stated_25 rfl rfl ?_
  refine mg_code hE hm dX13_stated_26 ?_
  refine r_if_le hE 36 dX13_stated_29 (by decide) h (fun h => ?_) (fun h => ?_)
  · refine r_aload_n hE 0 dX13_stated_36 rfl rfl ?_
    refine mg_stated hE hm dX13_stated_37 ?_
    refine r_iload_n hE 1 dX13_stated_40 rfl rfl ?_
    obtain ⟨hi, h⟩ := h
    refine ml_stated hE hm dX13_stated_41 hi ?_
    exact m_iret hE hm dX13_stated_42 h
  · refine r_iconst (v := (0 : Int32)) hE dX13_stated_32 (by decide) ?_
    refine r_goto hE 42 dX13_stated_33 (by decide) ?_
    exact m_iret hE hm dX13_stated_42 h
def wm_stated (post : MS → Int32 → Prop) (σ : MS) (a1 : Int32) : Prop := wm_in (fun (s2 : MS) (r3 : Int32) => ((r3 = (0 : Int32)) → (wm_stated_22 post s2 a1 (1 : Int32))) ∧ ((¬ (r3 = (0 : Int32))) → (wm_stated_22 post s2 a1 (0 : Int32)))) σ (a1.toInt64) (0 : Int64) (((m_statedMany σ) - (1 : Int32)).toInt64)
set_option maxRecDepth 20000 in
theorem km_stated {l : Launch} {D : va_G} {cl : List vw_C} {G : gAd} {post : MS → Int32 → Prop} (hcl : mC cl) {σ : MS} {a1 : Int32} (h : wm_stated post σ a1) : mMet l D cl G yX13_stated cX13_stated 2 (some .int) 2 [.ref (G.1 0), .int a1] σ (qI post) := by
  unfold wm_stated at h
  refine m_enter hcl (by decide +kernel) rfl [(0, .ref (G.1 0)), (1, .int a1)] rfl (Nat.le_of_ble_eq_true rfl) ?_
  intro E hE hm
  have hN := hm.2.2.2.2.2.2.1
  refine r_aload_n hE 0 dX13_stated_0 rfl rfl ?_
  refine r_iload_n hE 1 dX13_stated_1 rfl rfl ?_
  refine r_i2l hE dX13_stated_2 ?_
  refine r_lconst (v := (0 : Int64)) hE dX13_stated_3 (by decide) ?_
  refine r_aload_n hE 0 dX13_stated_4 rfl rfl ?_
  refine mg_statedMany hE hm dX13_stated_5 ?_
  refine r_iconst (v := (1 : Int32)) hE dX13_stated_8 (by decide) ?_
  refine r_isub hE dX13_stated_9 ?_
  refine r_i2l hE dX13_stated_10 ?_
  refine m_callSi hE hm [.long (a1.toInt64), .long (0 : Int64), .long (((m_statedMany σ) - (1 : Int32)).toInt64)] [.ref (G.1 0)] mc_in (km_in hm.2.2.2.2.2.2.2.2 h) (by decide) rfl rfl (Nat.le_of_ble_eq_true rfl) dX13_stated_11 (fun s2 r3 h => ?_)
  refine r_if_eq hE 21 dX13_stated_14 (by decide) h (fun h => ?_) (fun h => ?_)
  · refine r_iconst (v := (1 : Int32)) hE dX13_stated_21 (by decide) ?_
    exact km_stated_22 hE hm _ _ _ h
  · refine r_iconst (v := (0 : Int32)) hE dX13_stated_17 (by decide) ?_
    refine r_goto hE 22 dX13_stated_18 (by decide) ?_
    exact km_stated_22 hE hm _ _ _ h
/-! fall -/
def wm_fall (post : MS → Int32 → Prop) (σ : MS) (a1 : Int32) (a2 : Int32) : Prop := ∀ s1 : MS, s1 = m_code_s σ (0 : Int32) → wm_in (fun (s2 : MS) (r3 : Int32) => ((¬ (r3 = (0 : Int32))) → (wm_in (fun (s4 : MS) (r5 : Int32) => ((¬ (r5 = (0 : Int32))) → (((¬ (a2 = (0 : Int32))) → (vp_in a1 12 ∧ (post s4 (m_fallAt s4 a1.toNatClampNeg)))) ∧ ((a2 = (0 : Int32)) → (vp_in a1 12 ∧ (post s4 (m_fallWhat s4 a1.toNatClampNeg)))))) ∧ ((r5 = (0 : Int32)) → (post s4 (-1 : Int32)))) s2 (a1.toInt64) (0 : Int64) (((m_falls s2) - (1 : Int32)).toInt64))) ∧ ((r3 = (0 : Int32)) → (post s2 (-2000000002 : Int32)))) s1 (a2.toInt64) (0 : Int64) (1 : Int64)
set_option maxRecDepth 20000 in
theorem km_fall {l : Launch} {D : va_G} {cl : List vw_C} {G : gAd} {post : MS → Int32 → Prop} (hcl : mC cl) {σ : MS} {a1 : Int32} {a2 : Int32} (h : wm_fall post σ a1 a2) : mMet l D cl G yX13_fall cX13_fall 3 (some .int) 2 [.ref (G.1 0), .int a1, .int a2] σ (qI post) := by
  unfold wm_fall at h
  refine m_enter hcl (by decide +kernel) rfl [(0, .ref (G.1 0)), (1, .int a1), (2, .int a2)] rfl (Nat.le_of_ble_eq_true rfl) ?_
  intro E hE hm
  have hN := hm.2.2.2.2.2.2.1
  refine r_aload_n hE 0 dX13_fall_0 rfl rfl ?_
  refine r_iconst (v := (0 : Int32)) hE dX13_fall_1 (by decide) ?_
  refine mp_code hE hm dX13_fall_2 h (fun s1 h => ?_)
  refine r_iload_n hE 2 dX13_fall_5 rfl rfl ?_
  refine r_i2l hE dX13_fall_6 ?_
  refine r_lconst (v := (0 : Int64)) hE dX13_fall_7 (by decide) ?_
  refine r_lconst (v := (1 : Int64)) hE dX13_fall_8 (by decide) ?_
  refine m_callSi hE hm [.long (a2.toInt64), .long (0 : Int64), .long (1 : Int64)] [] mc_in (km_in hm.2.2.2.2.2.2.2.2 h) (by decide) rfl rfl (Nat.le_of_ble_eq_true rfl) dX13_fall_9 (fun s2 r3 h => ?_)
  refine r_if_ne hE 18 dX13_fall_12 (by decide) h (fun h => ?_) (fun h => ?_)
  · refine r_iload_n hE 1 dX13_fall_18 rfl rfl ?_
    refine r_i2l hE dX13_fall_19 ?_
    refine r_lconst (v := (0 : Int64)) hE dX13_fall_20 (by decide) ?_
    refine r_aload_n hE 0 dX13_fall_21 rfl rfl ?_
    refine mg_falls hE hm dX13_fall_22 ?_
    refine r_iconst (v := (1 : Int32)) hE dX13_fall_25 (by decide) ?_
    refine r_isub hE dX13_fall_26 ?_
    refine r_i2l hE dX13_fall_27 ?_
    refine m_callSi hE hm [.long (a1.toInt64), .long (0 : Int64), .long (((m_falls s2) - (1 : Int32)).toInt64)] [] mc_in (km_in hm.2.2.2.2.2.2.2.2 h) (by decide) rfl rfl (Nat.le_of_ble_eq_true rfl) dX13_fall_28 (fun s4 r5 h => ?_)
    refine r_if_ne hE 38 dX13_fall_31 (by decide) h (fun h => ?_) (fun h => ?_)
    · refine r_iload_n hE 2 dX13_fall_38 rfl rfl ?_
      refine r_if_ne hE 51 dX13_fall_39 (by decide) h (fun h => ?_) (fun h => ?_)
      · refine r_aload_n hE 0 dX13_fall_51 rfl rfl ?_
        refine mg_fallAt hE hm dX13_fall_52 ?_
        refine r_iload_n hE 1 dX13_fall_55 rfl rfl ?_
        obtain ⟨hi, h⟩ := h
        refine ml_fallAt hE hm dX13_fall_56 hi ?_
        exact m_iret hE hm dX13_fall_57 h
      · refine r_aload_n hE 0 dX13_fall_42 rfl rfl ?_
        refine mg_fallWhat hE hm dX13_fall_43 ?_
        refine r_iload_n hE 1 dX13_fall_46 rfl rfl ?_
        obtain ⟨hi, h⟩ := h
        refine ml_fallWhat hE hm dX13_fall_47 hi ?_
        refine r_goto hE 57 dX13_fall_48 (by decide) ?_
        exact m_iret hE hm dX13_fall_57 h
    · refine r_iconst (v := (-1 : Int32)) hE dX13_fall_34 (by decide) ?_
      refine r_goto hE 57 dX13_fall_35 (by decide) ?_
      exact m_iret hE hm dX13_fall_57 h
  · refine r_ldc (v := (-2000000002 : Int32)) hE dX13_fall_15 (gTb_9 (List.mem_of_getElem? (i := 31) rfl) rfl) ?_
    exact m_iret hE hm dX13_fall_17 h
/-! same -/
def wm_same (post : MS → Int32 → Prop) (σ : MS) (a1 : Int32) (a2 : Int32) : Prop := wm_noDrawn (fun (s1 : MS) (r2 : Int32) => ((¬ (r2 = (0 : Int32))) → (post s1 (0 : Int32))) ∧ ((r2 = (0 : Int32)) → (wm_noDrawn (fun (s3 : MS) (r4 : Int32) => ((¬ (r4 = (0 : Int32))) → (post s3 (0 : Int32))) ∧ ((r4 = (0 : Int32)) → (vp_in a1 40 ∧ (vp_in a2 40 ∧ (wm_areLike (fun (s5 : MS) (r6 : Int32) => ((r6 = (0 : Int32)) → (post s5 (0 : Int32))) ∧ ((¬ (r6 = (0 : Int32))) → (post s5 (1 : Int32)))) s3 (m_drawn s3 a1.toNatClampNeg) (m_drawn s3 a2.toNatClampNeg)))))) s1 a2))) σ a1
set_option maxRecDepth 20000 in
theorem km_same {l : Launch} {D : va_G} {cl : List vw_C} {G : gAd} {post : MS → Int32 → Prop} (hcl : mC cl) {σ : MS} {a1 : Int32} {a2 : Int32} (h : wm_same post σ a1 a2) : mMet l D cl G yX13_same cX13_same 3 (some .boolean) 3 [.ref (G.1 0), .int a1, .int a2] σ (qI post) := by
  unfold wm_same at h
  refine m_enter hcl (by decide +kernel) rfl [(0, .ref (G.1 0)), (1, .int a1), (2, .int a2)] rfl (Nat.le_of_ble_eq_true rfl) ?_
  intro E hE hm
  have hN := hm.2.2.2.2.2.2.1
  refine r_aload_n hE 0 dX13_same_0 rfl rfl ?_
  refine r_iload_n hE 1 dX13_same_1 rfl rfl ?_
  refine m_callVi hE hm [.int a1] [] mc_noDrawn (km_noDrawn hm.2.2.2.2.2.2.2.2 h) (by decide) rfl rfl (Nat.le_of_ble_eq_true rfl) dX13_same_2 (fun s1 r2 h => ?_)
  refine r_if_ne hE 39 dX13_same_5 (by decide) h (fun h => ?_) (fun h => ?_)
  · refine r_iconst (v := (0 : Int32)) hE dX13_same_39 (by decide) ?_
    exact m_zret hE hm dX13_same_40 (Or.inl rfl) h
  · refine r_aload_n hE 0 dX13_same_8 rfl rfl ?_
    refine r_iload_n hE 2 dX13_same_9 rfl rfl ?_
    refine m_callVi hE hm [.int a2] [] mc_noDrawn (km_noDrawn hm.2.2.2.2.2.2.2.2 h) (by decide) rfl rfl (Nat.le_of_ble_eq_true rfl) dX13_same_10 (fun s3 r4 h => ?_)
    refine r_if_ne hE 39 dX13_same_13 (by decide) h (fun h => ?_) (fun h => ?_)
    · refine r_iconst (v := (0 : Int32)) hE dX13_same_39 (by decide) ?_
      exact m_zret hE hm dX13_same_40 (Or.inl rfl) h
    · refine r_aload_n hE 0 dX13_same_16 rfl rfl ?_
      refine r_aload_n hE 0 dX13_same_17 rfl rfl ?_
      refine mg_drawn hE hm dX13_same_18 ?_
      refine r_iload_n hE 1 dX13_same_21 rfl rfl ?_
      obtain ⟨hi, h⟩ := h
      refine ml_drawn hE hm dX13_same_22 hi ?_
      refine r_aload_n hE 0 dX13_same_23 rfl rfl ?_
      refine mg_drawn hE hm dX13_same_24 ?_
      refine r_iload_n hE 2 dX13_same_27 rfl rfl ?_
      obtain ⟨hi, h⟩ := h
      refine ml_drawn hE hm dX13_same_28 hi ?_
      refine m_callVi hE hm [.int (m_drawn s3 a1.toNatClampNeg), .int (m_drawn s3 a2.toNatClampNeg)] [] mc_areLike (km_areLike hm.2.2.2.2.2.2.2.2 h) (by decide) rfl rfl (Nat.le_of_ble_eq_true rfl) dX13_same_29 (fun s5 r6 h => ?_)
      refine r_if_eq hE 39 dX13_same_32 (by decide) h (fun h => ?_) (fun h => ?_)
      · refine r_iconst (v := (0 : Int32)) hE dX13_same_39 (by decide) ?_
        exact m_zret hE hm dX13_same_40 (Or.inl rfl) h
      · refine r_iconst (v := (1 : Int32)) hE dX13_same_35 (by decide) ?_
        refine r_goto hE 40 dX13_same_36 (by decide) ?_
        exact m_zret hE hm dX13_same_40 (Or.inr rfl) h
/-! put -/
def wm_put (post : MS → Prop) (σ : MS) (a1 : Int32) : Prop := vp_in (m_outMany σ) 40000 ∧ (∀ s1 : MS, s1 = m_out_s σ (m_outMany σ).toNatClampNeg ((a1.toInt8.toInt32).toInt8.toInt32) → ∀ s2 : MS, s2 = m_outMany_s s1 ((m_outMany s1) + (1 : Int32)) → post s2)
set_option maxRecDepth 20000 in
theorem km_put {l : Launch} {D : va_G} {cl : List vw_C} {G : gAd} {post : MS → Prop} (hcl : mC cl) {σ : MS} {a1 : Int32} (h : wm_put post σ a1) : mMet l D cl G yX13_put cX13_put 2 none 1 [.ref (G.1 0), .int a1] σ (qV post) := by
  unfold wm_put at h
  refine m_enter hcl (by decide +kernel) rfl [(0, .ref (G.1 0)), (1, .int a1)] rfl (Nat.le_of_ble_eq_true rfl) ?_
  intro E hE hm
  have hN := hm.2.2.2.2.2.2.1
  refine r_aload_n hE 0 dX13_put_0 rfl rfl ?_
  refine mg_out hE hm dX13_put_1 ?_
  refine r_aload_n hE 0 dX13_put_4 rfl rfl ?_
  refine mg_outMany hE hm dX13_put_5 ?_
  refine r_iload_n hE 1 dX13_put_8 rfl rfl ?_
  refine r_i2b hE dX13_put_9 ?_
  obtain ⟨hi, h⟩ := h
  refine ms_out hE hm dX13_put_10 hi h (fun s1 h => ?_)
  refine r_aload_n hE 0 dX13_put_11 rfl rfl ?_
  refine r_dup hE dX13_put_12 rfl ?_
  refine mg_outMany hE hm dX13_put_13 ?_
  refine r_iconst (v := (1 : Int32)) hE dX13_put_16 (by decide) ?_
  refine r_iadd hE dX13_put_17 ?_
  refine mp_outMany hE hm dX13_put_18 h (fun s2 h => ?_)
  exact m_vret hE hm dX13_put_21 h
/-! figures -/
def wm_figures_21 (post : MS → Prop) : Nat → MS → Int64 → Int64 → Prop
  | 0, _, _, _ => False
  | n + 1, σ, v1, v3 => (((lg_cmp v3 (0 : Int64)) ≤ (0 : Int32)) → (post σ)) ∧ ((¬ ((lg_cmp v3 (0 : Int64)) ≤ (0 : Int32))) → (¬ v3 = 0 ∧ (wm_put (fun (s1 : MS) => ∀ x2 : Int64, x2 = v3 / (10 : Int64) → wm_figures_21 post n s1 v1 x2) σ (((48 : Int64) + ((v1 / v3) - (v1 / v3) / (10 : Int64) * (10 : Int64))).toInt32))))
set_option maxRecDepth 20000 in
theorem km_figures_21 {E : gEnv} {l : Launch} {D : va_G} {cl : List vw_C} {G : gAd} {post : MS → Prop} (hE : gOK E cX13_figures RX13 none 2) (hm : mOK E l D cl G (qV post) 5) : ∀ (n : Nat) (σ : MS) (v1 : Int64) (v3 : Int64), wm_figures_21 post n σ v1 v3 → GW E (mW G σ) 21 [(0, .ref (G.1 0)), (1, .long v1), (3, .long v3)] [] := by
  intro n
  induction n with
  | zero => intro σ v1 v3 h; exact h.elim
  | succ n ih =>
    intro σ v1 v3 h
    rw [wm_figures_21] at h
    have hN := hm.2.2.2.2.2.2.1
    refine r_lload_n hE 2 dX13_figures_21 rfl rfl ?_
    refine r_lconst (v := (0 : Int64)) hE dX13_figures_22 (by decide) ?_
    refine r_lcmp hE dX13_figures_23 ?_
    refine r_if_le hE 52 dX13_figures_24 (by decide) h (fun h => ?_) (fun h => ?_)
    · exact m_vret hE hm dX13_figures_52 h
    · refine r_aload_n hE 0 dX13_figures_27 rfl rfl ?_
      refine r_ldc2 (v := (48 : Int64)) hE dX13_figures_28 (gTb_9 (List.mem_of_getElem? (i := 48) rfl) rfl) ?_
      refine r_lload_n hE 1 dX13_figures_31 rfl rfl ?_
      refine r_lload_n hE 2 dX13_figures_32 rfl rfl ?_
      obtain ⟨hz, h⟩ := h
      refine r_ldiv hE dX13_figures_33 hz ?_
      refine r_ldc2 (v := (10 : Int64)) hE dX13_figures_34 (gTb_9 (List.mem_of_getElem? (i := 50) rfl) rfl) ?_
      refine r_lrem hE dX13_figures_37 (by decide) ?_
      refine r_ladd hE dX13_figures_38 ?_
      refine r_l2i hE dX13_figures_39 ?_
      refine m_callVv hE hm [.int (((48 : Int64) + ((v1 / v3) - (v1 / v3) / (10 : Int64) * (10 : Int64))).toInt32)] [] mc_put (km_put hm.2.2.2.2.2.2.2.2 h) (by decide) rfl rfl (Nat.le_of_ble_eq_true rfl) dX13_figures_40 (fun s1 h => ?_)
      refine r_lload_n hE 2 dX13_figures_43 rfl rfl ?_
      refine r_ldc2 (v := (10 : Int64)) hE dX13_figures_44 (gTb_9 (List.mem_of_getElem? (i := 50) rfl) rfl) ?_
      refine r_ldiv hE dX13_figures_47 (by decide) ?_
      refine r_topl h (fun x2 ex2 h => ?_)
      refine r_lstore_n hE [(3, .long x2), (0, .ref (G.1 0)), (1, .long v1)] dX13_figures_48 rfl hN (by decide) rfl ?_
      refine r_goto hE 21 dX13_figures_49 (by decide) ?_
      refine r_pick [1, 2, 0] rfl ?_
      exact ih _ _ _ h
def wm_figures_2 (post : MS → Prop) : Nat → MS → Int64 → Int64 → Prop
  | 0, _, _, _ => False
  | n + 1, σ, v1, v3 => ¬ v3 = 0 ∧ ((((lg_cmp (v1 / v3) (9 : Int64)) ≤ (0 : Int32)) → (∃ k : Nat, wm_figures_21 post k σ v1 v3)) ∧ ((¬ ((lg_cmp (v1 / v3) (9 : Int64)) ≤ (0 : Int32))) → (∀ x3 : Int64, x3 = v3 * (10 : Int64) → wm_figures_2 post n σ v1 x3)))
set_option maxRecDepth 20000 in
theorem km_figures_2 {E : gEnv} {l : Launch} {D : va_G} {cl : List vw_C} {G : gAd} {post : MS → Prop} (hE : gOK E cX13_figures RX13 none 2) (hm : mOK E l D cl G (qV post) 5) : ∀ (n : Nat) (σ : MS) (v1 : Int64) (v3 : Int64), wm_figures_2 post n σ v1 v3 → GW E (mW G σ) 2 [(0, .ref (G.1 0)), (1, .long v1), (3, .long v3)] [] := by
  intro n
  induction n with
  | zero => intro σ v1 v3 h; exact h.elim
  | succ n ih =>
    intro σ v1 v3 h
    rw [wm_figures_2] at h
    have hN := hm.2.2.2.2.2.2.1
    refine r_lload_n hE 1 dX13_figures_2 rfl rfl ?_
    refine r_lload_n hE 2 dX13_figures_3 rfl rfl ?_
    obtain ⟨hz, h⟩ := h
    refine r_ldiv hE dX13_figures_4 hz ?_
    refine r_ldc2 (v := (9 : Int64)) hE dX13_figures_5 (gTb_11 (List.mem_of_getElem? (i := 149) rfl) rfl) ?_
    refine r_lcmp hE dX13_figures_8 ?_
    refine r_if_le hE 21 dX13_figures_9 (by decide) h (fun h => ?_) (fun h => ?_)
    · obtain ⟨k, h⟩ := h
      exact km_figures_21 hE hm k _ _ _ h
    · refine r_lload_n hE 2 dX13_figures_12 rfl rfl ?_
      refine r_ldc2 (v := (10 : Int64)) hE dX13_figures_13 (gTb_9 (List.mem_of_getElem? (i := 50) rfl) rfl) ?_
      refine r_lmul hE dX13_figures_16 ?_
      refine r_topl h (fun x3 ex3 h => ?_)
      refine r_lstore_n hE [(3, .long x3), (0, .ref (G.1 0)), (1, .long v1)] dX13_figures_17 rfl hN (by decide) rfl ?_
      refine r_goto hE 2 dX13_figures_18 (by decide) ?_
      refine r_pick [1, 2, 0] rfl ?_
      exact ih _ _ _ h
def wm_figures (post : MS → Prop) (σ : MS) (a1 : Int64) : Prop := ∃ k : Nat, wm_figures_2 post k σ a1 (1 : Int64)
set_option maxRecDepth 20000 in
theorem km_figures {l : Launch} {D : va_G} {cl : List vw_C} {G : gAd} {post : MS → Prop} (hcl : mC cl) {σ : MS} {a1 : Int64} (h : wm_figures post σ a1) : mMet l D cl G yX13_figures cX13_figures 5 none 2 [.ref (G.1 0), .long a1] σ (qV post) := by
  unfold wm_figures at h
  refine m_enter hcl (by decide +kernel) rfl [(0, .ref (G.1 0)), (1, .long a1)] rfl (Nat.le_of_ble_eq_true rfl) ?_
  intro E hE hm
  have hN := hm.2.2.2.2.2.2.1
  refine r_lconst (v := (1 : Int64)) hE dX13_figures_0 (by decide) ?_
  refine r_lstore_n hE [(3, .long (1 : Int64)), (0, .ref (G.1 0)), (1, .long a1)] dX13_figures_1 rfl hN (by decide) rfl ?_
  refine r_pick [1, 2, 0] rfl ?_
  obtain ⟨k, h⟩ := h
  exact km_figures_2 hE hm k _ _ _ h
/-! printName -/
def wm_printName_10 (post : MS → Prop) : Nat → MS → Int32 → Int32 → Prop
  | 0, _, _, _ => False
  | n + 1, σ, v3, v4 => vp_in v3 520 ∧ ((((m_letterMany σ v3.toNatClampNeg) ≤ v4) → (post σ)) ∧ ((¬ ((m_letterMany σ v3.toNatClampNeg) ≤ v4)) → (vp_in (((10 : Int32) * v3) + v4) 5200 ∧ (wm_put (fun (s1 : MS) => ∀ x2 : Int32, x2 = v4 + (1 : Int32) → wm_printName_10 post n s1 v3 x2) σ (m_letters σ (((10 : Int32) * v3) + v4).toNatClampNeg)))))
set_option maxRecDepth 20000 in
theorem km_printName_10 {E : gEnv} {l : Launch} {D : va_G} {cl : List vw_C} {G : gAd} {post : MS → Prop} (hE : gOK E cX13_printName RX13 none 2) (hm : mOK E l D cl G (qV post) 5) : ∀ (n : Nat) (σ : MS) (v3 : Int32) (v4 : Int32), wm_printName_10 post n σ v3 v4 → GW E (mW G σ) 10 [(0, .ref (G.1 0)), (3, .int v3), (4, .int v4)] [] := by
  intro n
  induction n with
  | zero => intro σ v3 v4 h; exact h.elim
  | succ n ih =>
    intro σ v3 v4 h
    rw [wm_printName_10] at h
    have hN := hm.2.2.2.2.2.2.1
    refine r_iload hE 2 dX13_printName_10 rfl ?_
    refine r_aload_n hE 0 dX13_printName_12 rfl rfl ?_
    refine mg_letterMany hE hm dX13_printName_13 ?_
    refine r_iload_n hE 1 dX13_printName_16 rfl rfl ?_
    obtain ⟨hi, h⟩ := h
    refine ml_letterMany hE hm dX13_printName_17 hi ?_
    refine r_icmp_ge hE 43 dX13_printName_18 (by decide) h (fun h => ?_) (fun h => ?_)
    · exact m_vret hE hm dX13_printName_43 h
    · refine r_aload_n hE 0 dX13_printName_21 rfl rfl ?_
      refine r_aload_n hE 0 dX13_printName_22 rfl rfl ?_
      refine mg_letters hE hm dX13_printName_23 ?_
      refine r_bipush (v := (10 : Int32)) hE dX13_printName_26 (by decide) ?_
      refine r_iload_n hE 1 dX13_printName_28 rfl rfl ?_
      refine r_imul hE dX13_printName_29 ?_
      refine r_iload hE 2 dX13_printName_30 rfl ?_
      refine r_iadd hE dX13_printName_32 ?_
      obtain ⟨hi, h⟩ := h
      refine ml_letters hE hm dX13_printName_33 hi ?_
      refine m_callVv hE hm [.int (m_letters σ (((10 : Int32) * v3) + v4).toNatClampNeg)] [] mc_put (km_put hm.2.2.2.2.2.2.2.2 h) (by decide) rfl rfl (Nat.le_of_ble_eq_true rfl) dX13_printName_34 (fun s1 h => ?_)
      obtain ⟨x2, ex2⟩ : ∃ z : Int32, z = v4 + (1 : Int32) := ⟨_, rfl⟩
      have h := h x2 ex2
      refine r_iinc (v := x2) hE [(4, .int x2), (0, .ref (G.1 0)), (3, .int v3)] 2 dX13_printName_37 rfl (by rw [ex2]; rfl) hN (by decide) rfl ?_
      refine r_goto hE 10 dX13_printName_40 (by decide) ?_
      refine r_pick [1, 2, 0] rfl ?_
      exact ih _ _ _ h
def wm_printName (post : MS → Prop) (σ : MS) (a1 : Int32) (a2 : Int32) : Prop := ∀ x3 : Int32, x3 = ((20 : Int32) * a1) + a2 → ∃ k : Nat, wm_printName_10 post k σ x3 (0 : Int32)
set_option maxRecDepth 20000 in
theorem km_printName {l : Launch} {D : va_G} {cl : List vw_C} {G : gAd} {post : MS → Prop} (hcl : mC cl) {σ : MS} {a1 : Int32} {a2 : Int32} (h : wm_printName post σ a1 a2) : mMet l D cl G yX13_printName cX13_printName 5 none 2 [.ref (G.1 0), .int a1, .int a2] σ (qV post) := by
  unfold wm_printName at h
  refine m_enter hcl (by decide +kernel) rfl [(0, .ref (G.1 0)), (1, .int a1), (2, .int a2)] rfl (Nat.le_of_ble_eq_true rfl) ?_
  intro E hE hm
  have hN := hm.2.2.2.2.2.2.1
  refine r_bipush (v := (20 : Int32)) hE dX13_printName_0 (by decide) ?_
  refine r_iload_n hE 1 dX13_printName_2 rfl rfl ?_
  refine r_imul hE dX13_printName_3 ?_
  refine r_iload_n hE 2 dX13_printName_4 rfl rfl ?_
  refine r_iadd hE dX13_printName_5 ?_
  refine r_topi h (fun x3 ex3 h => ?_)
  refine r_istore_n hE [(3, .int x3), (0, .ref (G.1 0)), (1, .int a1), (2, .int a2)] dX13_printName_6 rfl hN (by decide) rfl ?_
  refine r_iconst (v := (0 : Int32)) hE dX13_printName_7 (by decide) ?_
  refine r_istore hE [(4, .int (0 : Int32)), (3, .int x3), (0, .ref (G.1 0)), (1, .int a1), (2, .int a2)] dX13_printName_8 hN (by decide) rfl ?_
  refine r_pick [2, 1, 0] rfl ?_
  obtain ⟨k, h⟩ := h
  exact km_printName_10 hE hm k _ _ _ h
/-! printMacro -/
def wm_printMacro_2 (post : MS → Prop) : Nat → MS → Int32 → Int32 → Prop
  | 0, _, _, _ => False
  | n + 1, σ, v1, v2 => vp_in v1 26 ∧ ((((m_macroSize σ v1.toNatClampNeg) ≤ v2) → (post σ)) ∧ ((¬ ((m_macroSize σ v1.toNatClampNeg) ≤ v2)) → (vp_in (((10 : Int32) * v1) + v2) 260 ∧ (wm_put (fun (s1 : MS) => ∀ x2 : Int32, x2 = v2 + (1 : Int32) → wm_printMacro_2 post n s1 v1 x2) σ (m_macroLetters σ (((10 : Int32) * v1) + v2).toNatClampNeg)))))
set_option maxRecDepth 20000 in
theorem km_printMacro_2 {E : gEnv} {l : Launch} {D : va_G} {cl : List vw_C} {G : gAd} {post : MS → Prop} (hE : gOK E cX13_printMacro RX13 none 2) (hm : mOK E l D cl G (qV post) 3) : ∀ (n : Nat) (σ : MS) (v1 : Int32) (v2 : Int32), wm_printMacro_2 post n σ v1 v2 → GW E (mW G σ) 2 [(0, .ref (G.1 0)), (1, .int v1), (2, .int v2)] [] := by
  intro n
  induction n with
  | zero => intro σ v1 v2 h; exact h.elim
  | succ n ih =>
    intro σ v1 v2 h
    rw [wm_printMacro_2] at h
    have hN := hm.2.2.2.2.2.2.1
    refine r_iload_n hE 2 dX13_printMacro_2 rfl rfl ?_
    refine r_aload_n hE 0 dX13_printMacro_3 rfl rfl ?_
    refine mg_macroSize hE hm dX13_printMacro_4 ?_
    refine r_iload_n hE 1 dX13_printMacro_7 rfl rfl ?_
    obtain ⟨hi, h⟩ := h
    refine ml_macroSize hE hm dX13_printMacro_8 hi ?_
    refine r_icmp_ge hE 33 dX13_printMacro_9 (by decide) h (fun h => ?_) (fun h => ?_)
    · exact m_vret hE hm dX13_printMacro_33 h
    · refine r_aload_n hE 0 dX13_printMacro_12 rfl rfl ?_
      refine r_aload_n hE 0 dX13_printMacro_13 rfl rfl ?_
      refine mg_macroLetters hE hm dX13_printMacro_14 ?_
      refine r_bipush (v := (10 : Int32)) hE dX13_printMacro_17 (by decide) ?_
      refine r_iload_n hE 1 dX13_printMacro_19 rfl rfl ?_
      refine r_imul hE dX13_printMacro_20 ?_
      refine r_iload_n hE 2 dX13_printMacro_21 rfl rfl ?_
      refine r_iadd hE dX13_printMacro_22 ?_
      obtain ⟨hi, h⟩ := h
      refine ml_macroLetters hE hm dX13_printMacro_23 hi ?_
      refine m_callVv hE hm [.int (m_macroLetters σ (((10 : Int32) * v1) + v2).toNatClampNeg)] [] mc_put (km_put hm.2.2.2.2.2.2.2.2 h) (by decide) rfl rfl (Nat.le_of_ble_eq_true rfl) dX13_printMacro_24 (fun s1 h => ?_)
      obtain ⟨x2, ex2⟩ : ∃ z : Int32, z = v2 + (1 : Int32) := ⟨_, rfl⟩
      have h := h x2 ex2
      refine r_iinc (v := x2) hE [(2, .int x2), (0, .ref (G.1 0)), (1, .int v1)] 2 dX13_printMacro_27 rfl (by rw [ex2]; rfl) hN (by decide) rfl ?_
      refine r_goto hE 2 dX13_printMacro_30 (by decide) ?_
      refine r_pick [1, 2, 0] rfl ?_
      exact ih _ _ _ h
def wm_printMacro (post : MS → Prop) (σ : MS) (a1 : Int32) : Prop := ∃ k : Nat, wm_printMacro_2 post k σ a1 (0 : Int32)
set_option maxRecDepth 20000 in
theorem km_printMacro {l : Launch} {D : va_G} {cl : List vw_C} {G : gAd} {post : MS → Prop} (hcl : mC cl) {σ : MS} {a1 : Int32} (h : wm_printMacro post σ a1) : mMet l D cl G yX13_printMacro cX13_printMacro 3 none 2 [.ref (G.1 0), .int a1] σ (qV post) := by
  unfold wm_printMacro at h
  refine m_enter hcl (by decide +kernel) rfl [(0, .ref (G.1 0)), (1, .int a1)] rfl (Nat.le_of_ble_eq_true rfl) ?_
  intro E hE hm
  have hN := hm.2.2.2.2.2.2.1
  refine r_iconst (v := (0 : Int32)) hE dX13_printMacro_0 (by decide) ?_
  refine r_istore_n hE [(2, .int (0 : Int32)), (0, .ref (G.1 0)), (1, .int a1)] dX13_printMacro_1 rfl hN (by decide) rfl ?_
  refine r_pick [1, 2, 0] rfl ?_
  obtain ⟨k, h⟩ := h
  exact km_printMacro_2 hE hm k _ _ _ h
/-! rank -/
def wm_rank_50 (post : MS → Int32 → Prop) (σ : MS) : Prop := post σ (1 : Int32)
set_option maxRecDepth 20000 in
theorem km_rank_50 {E : gEnv} {l : Launch} {D : va_G} {cl : List vw_C} {G : gAd} {post : MS → Int32 → Prop} (hE : gOK E cX13_rank RX13 (some .int) 1) (hm : mOK E l D cl G (qI post) 2) (σ : MS) (h : wm_rank_50 post σ) : GW E (mW G σ) 50 [] [] := by
  unfold wm_rank_50 at h
  have hN := hm.2.2.2.2.2.2.1
  refine r_iconst (v := (1 : Int32)) hE dX13_rank_50 (by decide) ?_
  refine r_goto hE 81 dX13_rank_51 (by decide) ?_
  exact m_iret hE hm dX13_rank_81 h
def wm_rank_76 (post : MS → Int32 → Prop) (σ : MS) : Prop := post σ (2 : Int32)
set_option maxRecDepth 20000 in
theorem km_rank_76 {E : gEnv} {l : Launch} {D : va_G} {cl : List vw_C} {G : gAd} {post : MS → Int32 → Prop} (hE : gOK E cX13_rank RX13 (some .int) 1) (hm : mOK E l D cl G (qI post) 2) (σ : MS) (h : wm_rank_76 post σ) : GW E (mW G σ) 76 [] [] := by
  unfold wm_rank_76 at h
  have hN := hm.2.2.2.2.2.2.1
  refine r_iconst (v := (2 : Int32)) hE dX13_rank_76 (by decide) ?_
  refine r_goto hE 81 dX13_rank_77 (by decide) ?_
  exact m_iret hE hm dX13_rank_81 h
def wm_rank (post : MS → Int32 → Prop) (σ : MS) (a1 : Int32) : Prop := vp_in a1 600 ∧ ((((m_kind σ a1.toNatClampNeg) = (12 : Int32)) → (vp_in a1 600 ∧ ((((m_one σ a1.toNatClampNeg) = (61 : Int32)) → (wm_rank_50 post σ)) ∧ ((¬ ((m_one σ a1.toNatClampNeg) = (61 : Int32))) → (vp_in a1 600 ∧ (((¬ ((m_one σ a1.toNatClampNeg) = (60 : Int32))) → (vp_in a1 600 ∧ ((((m_one σ a1.toNatClampNeg) = (43 : Int32)) → (wm_rank_76 post σ)) ∧ ((¬ ((m_one σ a1.toNatClampNeg) = (43 : Int32))) → (vp_in a1 600 ∧ (((¬ ((m_one σ a1.toNatClampNeg) = (45 : Int32))) → (post σ (3 : Int32))) ∧ (((m_one σ a1.toNatClampNeg) = (45 : Int32)) → (wm_rank_76 post σ)))))))) ∧ (((m_one σ a1.toNatClampNeg) = (60 : Int32)) → (wm_rank_50 post σ)))))))) ∧ ((¬ ((m_kind σ a1.toNatClampNeg) = (12 : Int32))) → (vp_in a1 600 ∧ (((¬ ((m_kind σ a1.toNatClampNeg) = (11 : Int32))) → (post σ (5 : Int32))) ∧ (((m_kind σ a1.toNatClampNeg) = (11 : Int32)) → (post σ (4 : Int32)))))))
set_option maxRecDepth 20000 in
theorem km_rank {l : Launch} {D : va_G} {cl : List vw_C} {G : gAd} {post : MS → Int32 → Prop} (hcl : mC cl) {σ : MS} {a1 : Int32} (h : wm_rank post σ a1) : mMet l D cl G yX13_rank cX13_rank 2 (some .int) 1 [.ref (G.1 0), .int a1] σ (qI post) := by
  unfold wm_rank at h
  refine m_enter hcl (by decide +kernel) rfl [(0, .ref (G.1 0)), (1, .int a1)] rfl (Nat.le_of_ble_eq_true rfl) ?_
  intro E hE hm
  have hN := hm.2.2.2.2.2.2.1
  refine r_aload_n hE 0 dX13_rank_0 rfl rfl ?_
  refine mg_kind hE hm dX13_rank_1 ?_
  refine r_iload_n hE 1 dX13_rank_4 rfl rfl ?_
  obtain ⟨hi, h⟩ := h
  refine ml_kind hE hm dX13_rank_5 hi ?_
  refine r_bipush (v := (12 : Int32)) hE dX13_rank_6 (by decide) ?_
  refine r_icmp_eq hE 28 dX13_rank_8 (by decide) h (fun h => ?_) (fun h => ?_)
  · refine r_aload_n hE 0 dX13_rank_28 rfl rfl ?_
    refine mg_one hE hm dX13_rank_29 ?_
    refine r_iload_n hE 1 dX13_rank_32 rfl rfl ?_
    obtain ⟨hi, h⟩ := h
    refine ml_one hE hm dX13_rank_33 hi ?_
    refine r_bipush (v := (61 : Int32)) hE dX13_rank_34 (by decide) ?_
    refine r_icmp_eq hE 50 dX13_rank_36 (by decide) h (fun h => ?_) (fun h => ?_)
    · refine r_pick [] rfl ?_
      exact km_rank_50 hE hm _ h
    · refine r_aload_n hE 0 dX13_rank_39 rfl rfl ?_
      refine mg_one hE hm dX13_rank_40 ?_
      refine r_iload_n hE 1 dX13_rank_43 rfl rfl ?_
      obtain ⟨hi, h⟩ := h
      refine ml_one hE hm dX13_rank_44 hi ?_
      refine r_bipush (v := (60 : Int32)) hE dX13_rank_45 (by decide) ?_
      refine r_icmp_ne hE 54 dX13_rank_47 (by decide) h (fun h => ?_) (fun h => ?_)
      · refine r_aload_n hE 0 dX13_rank_54 rfl rfl ?_
        refine mg_one hE hm dX13_rank_55 ?_
        refine r_iload_n hE 1 dX13_rank_58 rfl rfl ?_
        obtain ⟨hi, h⟩ := h
        refine ml_one hE hm dX13_rank_59 hi ?_
        refine r_bipush (v := (43 : Int32)) hE dX13_rank_60 (by decide) ?_
        refine r_icmp_eq hE 76 dX13_rank_62 (by decide) h (fun h => ?_) (fun h => ?_)
        · refine r_pick [] rfl ?_
          exact km_rank_76 hE hm _ h
        · refine r_aload_n hE 0 dX13_rank_65 rfl rfl ?_
          refine mg_one hE hm dX13_rank_66 ?_
          refine r_iload_n hE 1 dX13_rank_69 rfl rfl ?_
          obtain ⟨hi, h⟩ := h
          refine ml_one hE hm dX13_rank_70 hi ?_
          refine r_bipush (v := (45 : Int32)) hE dX13_rank_71 (by decide) ?_
          refine r_icmp_ne hE 80 dX13_rank_73 (by decide) h (fun h => ?_) (fun h => ?_)
          · refine r_iconst (v := (3 : Int32)) hE dX13_rank_80 (by decide) ?_
            exact m_iret hE hm dX13_rank_81 h
          · refine r_pick [] rfl ?_
            exact km_rank_76 hE hm _ h
      · refine r_pick [] rfl ?_
        exact km_rank_50 hE hm _ h
  · refine r_aload_n hE 0 dX13_rank_11 rfl rfl ?_
    refine mg_kind hE hm dX13_rank_12 ?_
    refine r_iload_n hE 1 dX13_rank_15 rfl rfl ?_
    obtain ⟨hi, h⟩ := h
    refine ml_kind hE hm dX13_rank_16 hi ?_
    refine r_bipush (v := (11 : Int32)) hE dX13_rank_17 (by decide) ?_
    refine r_icmp_ne hE 26 dX13_rank_19 (by decide) h (fun h => ?_) (fun h => ?_)
    · refine r_iconst (v := (5 : Int32)) hE dX13_rank_26 (by decide) ?_
      exact m_iret hE hm dX13_rank_27 h
    · refine r_iconst (v := (4 : Int32)) hE dX13_rank_22 (by decide) ?_
      refine r_goto hE 27 dX13_rank_23 (by decide) ?_
      exact m_iret hE hm dX13_rank_27 h
/-! behind_ -/
def wm_behind_ (post : MS → Prop) (σ : MS) (a1 : Int32) (a2 : Int32) (a3 : Int32) : Prop := vp_in (m_prints σ) 3000 ∧ (∀ s1 : MS, s1 = m_print_s σ (m_prints σ).toNatClampNeg a1 → vp_in (m_prints s1) 3000 ∧ (∀ s2 : MS, s2 = m_printOf_s s1 (m_prints s1).toNatClampNeg a2 → vp_in (m_prints s2) 3000 ∧ (∀ s3 : MS, s3 = m_printWith_s s2 (m_prints s2).toNatClampNeg a3 → ∀ s4 : MS, s4 = m_prints_s s3 ((m_prints s3) + (1 : Int32)) → post s4)))
set_option maxRecDepth 20000 in
theorem km_behind_ {l : Launch} {D : va_G} {cl : List vw_C} {G : gAd} {post : MS → Prop} (hcl : mC cl) {σ : MS} {a1 : Int32} {a2 : Int32} {a3 : Int32} (h : wm_behind_ post σ a1 a2 a3) : mMet l D cl G yX13_behind_ cX13_behind_ 4 none 1 [.ref (G.1 0), .int a1, .int a2, .int a3] σ (qV post) := by
  unfold wm_behind_ at h
  refine m_enter hcl (by decide +kernel) rfl [(0, .ref (G.1 0)), (1, .int a1), (2, .int a2), (3, .int a3)] rfl (Nat.le_of_ble_eq_true rfl) ?_
  intro E hE hm
  have hN := hm.2.2.2.2.2.2.1
  refine r_aload_n hE 0 dX13_behind__0 rfl rfl ?_
  refine mg_print hE hm dX13_behind__1 ?_
  refine r_aload_n hE 0 dX13_behind__4 rfl rfl ?_
  refine mg_prints hE hm dX13_behind__5 ?_
  refine r_iload_n hE 1 dX13_behind__8 rfl rfl ?_
  obtain ⟨hi, h⟩ := h
  refine ms_print hE hm dX13_behind__9 hi h (fun s1 h => ?_)
  refine r_aload_n hE 0 dX13_behind__10 rfl rfl ?_
  refine mg_printOf hE hm dX13_behind__11 ?_
  refine r_aload_n hE 0 dX13_behind__14 rfl rfl ?_
  refine mg_prints hE hm dX13_behind__15 ?_
  refine r_iload_n hE 2 dX13_behind__18 rfl rfl ?_
  obtain ⟨hi, h⟩ := h
  refine ms_printOf hE hm dX13_behind__19 hi h (fun s2 h => ?_)
  refine r_aload_n hE 0 dX13_behind__20 rfl rfl ?_
  refine mg_printWith hE hm dX13_behind__21 ?_
  refine r_aload_n hE 0 dX13_behind__24 rfl rfl ?_
  refine mg_prints hE hm dX13_behind__25 ?_
  refine r_iload_n hE 3 dX13_behind__28 rfl rfl ?_
  obtain ⟨hi, h⟩ := h
  refine ms_printWith hE hm dX13_behind__29 hi h (fun s3 h => ?_)
  refine r_aload_n hE 0 dX13_behind__30 rfl rfl ?_
  refine r_dup hE dX13_behind__31 rfl ?_
  refine mg_prints hE hm dX13_behind__32 ?_
  refine r_iconst (v := (1 : Int32)) hE dX13_behind__35 (by decide) ?_
  refine r_iadd hE dX13_behind__36 ?_
  refine mp_prints hE hm dX13_behind__37 h (fun s4 h => ?_)
  exact m_vret hE hm dX13_behind__40 h
/-! placeOf11 -/
def wm_placeOf_toolList_22 (post : MS → Int32 → Prop) (lp4 : MS → Int32 → Int32 → Prop) (σ : MS) (v2 : Int32) (t0 : Int32) (t1 : Int32) : Prop := ∀ x1 : Int32, x1 = t0 - t1 → ∀ x2 : Int32, x2 = v2 + (1 : Int32) → lp4 σ x2 x1
set_option maxRecDepth 20000 in
theorem km_placeOf_toolList_22 {E : gEnv} {l : Launch} {D : va_G} {cl : List vw_C} {G : gAd} {post : MS → Int32 → Prop} (hE : gOK E cX13_placeOf RX13 (some .int) 1) (hm : mOK E l D cl G (qI post) 4) {lp4 : MS → Int32 → Int32 → Prop} (hl4 : ∀ (σ : MS) (v2 : Int32) (v3 : Int32), lp4 σ v2 v3 → GW E (mW G σ) 4 [(0, .ref (G.1 11)), (2, .int v2), (3, .int v3)] []) (σ : MS) (v2 : Int32) (t0 : Int32) (t1 : Int32) (h : wm_placeOf_toolList_22 post lp4 σ v2 t0 t1) : GW E (mW G σ) 22 [(0, .ref (G.1 11)), (2, .int v2)] [.int t1, .int t0] := by
  unfold wm_placeOf_toolList_22 at h
  have hN := hm.2.2.2.2.2.2.1
  refine r_isub hE dX13_placeOf_22 ?_
  refine r_topi h (fun x1 ex1 h => ?_)
  refine r_istore_n hE [(3, .int x1), (0, .ref (G.1 11)), (2, .int v2)] dX13_placeOf_23 rfl hN (by decide) rfl ?_
  obtain ⟨x2, ex2⟩ : ∃ z : Int32, z = v2 + (1 : Int32) := ⟨_, rfl⟩
  have h := h x2 ex2
  refine r_iinc (v := x2) hE [(2, .int x2), (3, .int x1), (0, .ref (G.1 11))] 2 dX13_placeOf_24 rfl (by rw [ex2]; rfl) hN (by decide) rfl ?_
  refine r_goto hE 4 dX13_placeOf_27 (by decide) ?_
  refine r_pick [2, 0, 1] rfl ?_
  exact hl4 _ _ _ h
def wm_placeOf_toolList_4 (post : MS → Int32 → Prop) : Nat → MS → Int32 → Int32 → Prop
  | 0, _, _, _ => False
  | n + 1, σ, v2, v3 => ((v3 ≤ (0 : Int32)) → (post σ v2)) ∧ ((¬ (v3 ≤ (0 : Int32))) → (vp_in v2 202 ∧ (((¬ ((m_toolList σ v2.toNatClampNeg) = (32 : Int32))) → (wm_placeOf_toolList_22 post (fun (ys : MS) (y0 : Int32) (y1 : Int32) => wm_placeOf_toolList_4 post n ys y0 y1) σ v2 v3 (0 : Int32))) ∧ (((m_toolList σ v2.toNatClampNeg) = (32 : Int32)) → (wm_placeOf_toolList_22 post (fun (ys : MS) (y0 : Int32) (y1 : Int32) => wm_placeOf_toolList_4 post n ys y0 y1) σ v2 v3 (1 : Int32))))))
set_option maxRecDepth 20000 in
theorem km_placeOf_toolList_4 {E : gEnv} {l : Launch} {D : va_G} {cl : List vw_C} {G : gAd} {post : MS → Int32 → Prop} (hE : gOK E cX13_placeOf RX13 (some .int) 1) (hm : mOK E l D cl G (qI post) 4) : ∀ (n : Nat) (σ : MS) (v2 : Int32) (v3 : Int32), wm_placeOf_toolList_4 post n σ v2 v3 → GW E (mW G σ) 4 [(0, .ref (G.1 11)), (2, .int v2), (3, .int v3)] [] := by
  intro n
  induction n with
  | zero => intro σ v2 v3 h; exact h.elim
  | succ n ih =>
    intro σ v2 v3 h
    rw [wm_placeOf_toolList_4] at h
    have hN := hm.2.2.2.2.2.2.1
    refine r_iload_n hE 2 dX13_placeOf_4 rfl rfl ?_
    refine r_if_le hE 30 dX13_placeOf_5 (by decide) h (fun h => ?_) (fun h => ?_)
    · refine r_iload_n hE 1 dX13_placeOf_30 rfl rfl ?_
      exact m_iret hE hm dX13_placeOf_31 h
    · refine r_iload_n hE 2 dX13_placeOf_8 rfl rfl ?_
      refine r_aload_n hE 0 dX13_placeOf_9 rfl rfl ?_
      refine r_iload_n hE 1 dX13_placeOf_10 rfl rfl ?_
      obtain ⟨hi, h⟩ := h
      refine ml_toolList hE hm dX13_placeOf_11 hi ?_
      refine r_bipush (v := (32 : Int32)) hE dX13_placeOf_12 (by decide) ?_
      refine r_icmp_ne hE 21 dX13_placeOf_14 (by decide) h (fun h => ?_) (fun h => ?_)
      · refine r_iconst (v := (0 : Int32)) hE dX13_placeOf_21 (by decide) ?_
        refine r_pick [0, 1] rfl ?_
        exact km_placeOf_toolList_22 hE hm ih _ _ _ _ h
      · refine r_iconst (v := (1 : Int32)) hE dX13_placeOf_17 (by decide) ?_
        refine r_goto hE 22 dX13_placeOf_18 (by decide) ?_
        refine r_pick [0, 1] rfl ?_
        exact km_placeOf_toolList_22 hE hm ih _ _ _ _ h
def wm_placeOf_toolList (post : MS → Int32 → Prop) (σ : MS) (a1 : Int32) : Prop := ∃ k : Nat, wm_placeOf_toolList_4 post k σ (0 : Int32) a1
set_option maxRecDepth 20000 in
theorem km_placeOf_toolList {l : Launch} {D : va_G} {cl : List vw_C} {G : gAd} {post : MS → Int32 → Prop} (hcl : mC cl) {σ : MS} {a1 : Int32} (h : wm_placeOf_toolList post σ a1) : mMet l D cl G yX13_placeOf cX13_placeOf 4 (some .int) 1 [.ref (G.1 11), .int a1] σ (qI post) := by
  unfold wm_placeOf_toolList at h
  refine m_enter hcl (by decide +kernel) rfl [(0, .ref (G.1 11)), (1, .int a1)] rfl (Nat.le_of_ble_eq_true rfl) ?_
  intro E hE hm
  have hN := hm.2.2.2.2.2.2.1
  refine r_iconst (v := (0 : Int32)) hE dX13_placeOf_0 (by decide) ?_
  refine r_istore_n hE [(2, .int (0 : Int32)), (0, .ref (G.1 11)), (1, .int a1)] dX13_placeOf_1 rfl hN (by decide) rfl ?_
  refine r_iload_n hE 2 dX13_placeOf_2 rfl rfl ?_
  refine r_istore_n hE [(3, .int a1), (2, .int (0 : Int32)), (0, .ref (G.1 11)), (1, .int a1)] dX13_placeOf_3 rfl hN (by decide) rfl ?_
  refine r_pick [2, 1, 0] rfl ?_
  obtain ⟨k, h⟩ := h
  exact km_placeOf_toolList_4 hE hm k _ _ _ h
/-! sizeOf11 -/
def wm_sizeOf_toolList_2 (post : MS → Int32 → Prop) : Nat → MS → Int32 → Int32 → Prop
  | 0, _, _, _ => False
  | n + 1, σ, v1, v2 => vp_in (v1 + v2) 202 ∧ ((((m_toolList σ (v1 + v2).toNatClampNeg) = (32 : Int32)) → (post σ v2)) ∧ ((¬ ((m_toolList σ (v1 + v2).toNatClampNeg) = (32 : Int32))) → (∀ x1 : Int32, x1 = v2 + (1 : Int32) → wm_sizeOf_toolList_2 post n σ v1 x1)))
set_option maxRecDepth 20000 in
theorem km_sizeOf_toolList_2 {E : gEnv} {l : Launch} {D : va_G} {cl : List vw_C} {G : gAd} {post : MS → Int32 → Prop} (hE : gOK E cX13_sizeOf RX13 (some .int) 1) (hm : mOK E l D cl G (qI post) 3) : ∀ (n : Nat) (σ : MS) (v1 : Int32) (v2 : Int32), wm_sizeOf_toolList_2 post n σ v1 v2 → GW E (mW G σ) 2 [(0, .ref (G.1 11)), (1, .int v1), (2, .int v2)] [] := by
  intro n
  induction n with
  | zero => intro σ v1 v2 h; exact h.elim
  | succ n ih =>
    intro σ v1 v2 h
    rw [wm_sizeOf_toolList_2] at h
    have hN := hm.2.2.2.2.2.2.1
    refine r_aload_n hE 0 dX13_sizeOf_2 rfl rfl ?_
    refine r_iload_n hE 1 dX13_sizeOf_3 rfl rfl ?_
    refine r_iload_n hE 2 dX13_sizeOf_4 rfl rfl ?_
    refine r_iadd hE dX13_sizeOf_5 ?_
    obtain ⟨hi, h⟩ := h
    refine ml_toolList hE hm dX13_sizeOf_6 hi ?_
    refine r_bipush (v := (32 : Int32)) hE dX13_sizeOf_7 (by decide) ?_
    refine r_icmp_eq hE 18 dX13_sizeOf_9 (by decide) h (fun h => ?_) (fun h => ?_)
    · refine r_iload_n hE 2 dX13_sizeOf_18 rfl rfl ?_
      exact m_iret hE hm dX13_sizeOf_19 h
    · obtain ⟨x1, ex1⟩ : ∃ z : Int32, z = v2 + (1 : Int32) := ⟨_, rfl⟩
      have h := h x1 ex1
      refine r_iinc (v := x1) hE [(2, .int x1), (0, .ref (G.1 11)), (1, .int v1)] 2 dX13_sizeOf_12 rfl (by rw [ex1]; rfl) hN (by decide) rfl ?_
      refine r_goto hE 2 dX13_sizeOf_15 (by decide) ?_
      refine r_pick [1, 2, 0] rfl ?_
      exact ih _ _ _ h
def wm_sizeOf_toolList (post : MS → Int32 → Prop) (σ : MS) (a1 : Int32) : Prop := ∃ k : Nat, wm_sizeOf_toolList_2 post k σ a1 (0 : Int32)
set_option maxRecDepth 20000 in
theorem km_sizeOf_toolList {l : Launch} {D : va_G} {cl : List vw_C} {G : gAd} {post : MS → Int32 → Prop} (hcl : mC cl) {σ : MS} {a1 : Int32} (h : wm_sizeOf_toolList post σ a1) : mMet l D cl G yX13_sizeOf cX13_sizeOf 3 (some .int) 1 [.ref (G.1 11), .int a1] σ (qI post) := by
  unfold wm_sizeOf_toolList at h
  refine m_enter hcl (by decide +kernel) rfl [(0, .ref (G.1 11)), (1, .int a1)] rfl (Nat.le_of_ble_eq_true rfl) ?_
  intro E hE hm
  have hN := hm.2.2.2.2.2.2.1
  refine r_iconst (v := (0 : Int32)) hE dX13_sizeOf_0 (by decide) ?_
  refine r_istore_n hE [(2, .int (0 : Int32)), (0, .ref (G.1 11)), (1, .int a1)] dX13_sizeOf_1 rfl hN (by decide) rfl ?_
  refine r_pick [1, 2, 0] rfl ?_
  obtain ⟨k, h⟩ := h
  exact km_sizeOf_toolList_2 hE hm k _ _ _ h
/-! word11 -/
def wm_word_toolList_9 (post : MS → Prop) : Nat → MS → Int32 → Int32 → Prop
  | 0, _, _, _ => False
  | n + 1, σ, v3, v4 => wm_sizeOf_toolList (fun (s1 : MS) (r2 : Int32) => ((r2 ≤ v4) → (post s1)) ∧ ((¬ (r2 ≤ v4)) → (vp_in (v3 + v4) 202 ∧ (wm_put (fun (s3 : MS) => ∀ x4 : Int32, x4 = v4 + (1 : Int32) → wm_word_toolList_9 post n s3 v3 x4) s1 (m_toolList s1 (v3 + v4).toNatClampNeg))))) σ v3
set_option maxRecDepth 20000 in
theorem km_word_toolList_9 {E : gEnv} {l : Launch} {D : va_G} {cl : List vw_C} {G : gAd} {post : MS → Prop} (hE : gOK E cX13_word RX13 none 2) (hm : mOK E l D cl G (qV post) 5) : ∀ (n : Nat) (σ : MS) (v3 : Int32) (v4 : Int32), wm_word_toolList_9 post n σ v3 v4 → GW E (mW G σ) 9 [(0, .ref (G.1 0)), (1, .ref (G.1 11)), (3, .int v3), (4, .int v4)] [] := by
  intro n
  induction n with
  | zero => intro σ v3 v4 h; exact h.elim
  | succ n ih =>
    intro σ v3 v4 h
    rw [wm_word_toolList_9] at h
    have hN := hm.2.2.2.2.2.2.1
    refine r_iload hE 3 dX13_word_9 rfl ?_
    refine r_aload_n hE 1 dX13_word_11 rfl rfl ?_
    refine r_iload_n hE 2 dX13_word_12 rfl rfl ?_
    refine m_callSi hE hm [.ref (G.1 11), .int v3] [.int v4] mc_sizeOf (km_sizeOf_toolList hm.2.2.2.2.2.2.2.2 h) (by decide) rfl rfl (Nat.le_of_ble_eq_true rfl) dX13_word_13 (fun s1 r2 h => ?_)
    refine r_icmp_ge hE 35 dX13_word_16 (by decide) h (fun h => ?_) (fun h => ?_)
    · exact m_vret hE hm dX13_word_35 h
    · refine r_aload_n hE 0 dX13_word_19 rfl rfl ?_
      refine r_aload_n hE 1 dX13_word_20 rfl rfl ?_
      refine r_iload_n hE 2 dX13_word_21 rfl rfl ?_
      refine r_iload hE 3 dX13_word_22 rfl ?_
      refine r_iadd hE dX13_word_24 ?_
      obtain ⟨hi, h⟩ := h
      refine ml_toolList hE hm dX13_word_25 hi ?_
      refine m_callVv hE hm [.int (m_toolList s1 (v3 + v4).toNatClampNeg)] [] mc_put (km_put hm.2.2.2.2.2.2.2.2 h) (by decide) rfl rfl (Nat.le_of_ble_eq_true rfl) dX13_word_26 (fun s3 h => ?_)
      obtain ⟨x4, ex4⟩ : ∃ z : Int32, z = v4 + (1 : Int32) := ⟨_, rfl⟩
      have h := h x4 ex4
      refine r_iinc (v := x4) hE [(4, .int x4), (0, .ref (G.1 0)), (1, .ref (G.1 11)), (3, .int v3)] 3 dX13_word_29 rfl (by rw [ex4]; rfl) hN (by decide) rfl ?_
      refine r_goto hE 9 dX13_word_32 (by decide) ?_
      refine r_pick [1, 2, 3, 0] rfl ?_
      exact ih _ _ _ h
def wm_word_toolList (post : MS → Prop) (σ : MS) (a2 : Int32) : Prop := wm_placeOf_toolList (fun (s5 : MS) (r6 : Int32) => ∃ k : Nat, wm_word_toolList_9 post k s5 r6 (0 : Int32)) σ a2
set_option maxRecDepth 20000 in
theorem km_word_toolList {l : Launch} {D : va_G} {cl : List vw_C} {G : gAd} {post : MS → Prop} (hcl : mC cl) {σ : MS} {a2 : Int32} (h : wm_word_toolList post σ a2) : mMet l D cl G yX13_word cX13_word 5 none 2 [.ref (G.1 0), .ref (G.1 11), .int a2] σ (qV post) := by
  unfold wm_word_toolList at h
  refine m_enter hcl (by decide +kernel) rfl [(0, .ref (G.1 0)), (1, .ref (G.1 11)), (2, .int a2)] rfl (Nat.le_of_ble_eq_true rfl) ?_
  intro E hE hm
  have hN := hm.2.2.2.2.2.2.1
  refine r_aload_n hE 1 dX13_word_0 rfl rfl ?_
  refine r_iload_n hE 2 dX13_word_1 rfl rfl ?_
  refine m_callSi hE hm [.ref (G.1 11), .int a2] [] mc_placeOf (km_placeOf_toolList hm.2.2.2.2.2.2.2.2 h) (by decide) rfl rfl (Nat.le_of_ble_eq_true rfl) dX13_word_2 (fun s5 r6 h => ?_)
  refine r_istore_n hE [(3, .int r6), (0, .ref (G.1 0)), (1, .ref (G.1 11)), (2, .int a2)] dX13_word_5 rfl hN (by decide) rfl ?_
  refine r_iconst (v := (0 : Int32)) hE dX13_word_6 (by decide) ?_
  refine r_istore hE [(4, .int (0 : Int32)), (3, .int r6), (0, .ref (G.1 0)), (1, .ref (G.1 11)), (2, .int a2)] dX13_word_7 hN (by decide) rfl ?_
  refine r_pick [2, 3, 1, 0] rfl ?_
  obtain ⟨k, h⟩ := h
  exact km_word_toolList_9 hE hm k _ _ _ h
/-! printCall -/
def wm_printCall_94 (post : MS → Prop) (lp57 : MS → Int32 → Int32 → Prop) (σ : MS) (v1 : Int32) (v2 : Int32) : Prop := ∀ x1 : Int32, x1 = v2 + (-1 : Int32) → lp57 σ v1 x1
set_option maxRecDepth 20000 in
theorem km_printCall_94 {E : gEnv} {l : Launch} {D : va_G} {cl : List vw_C} {G : gAd} {post : MS → Prop} (hE : gOK E cX13_printCall RX13 none 3) (hm : mOK E l D cl G (qV post) 3) {lp57 : MS → Int32 → Int32 → Prop} (hl57 : ∀ (σ : MS) (v1 : Int32) (v2 : Int32), lp57 σ v1 v2 → GW E (mW G σ) 57 [(0, .ref (G.1 0)), (1, .int v1), (2, .int v2)] []) (σ : MS) (v1 : Int32) (v2 : Int32) (h : wm_printCall_94 post lp57 σ v1 v2) : GW E (mW G σ) 94 [(0, .ref (G.1 0)), (1, .int v1), (2, .int v2)] [] := by
  unfold wm_printCall_94 at h
  have hN := hm.2.2.2.2.2.2.1
  obtain ⟨x1, ex1⟩ : ∃ z : Int32, z = v2 + (-1 : Int32) := ⟨_, rfl⟩
  have h := h x1 ex1
  refine r_iinc (v := x1) hE [(2, .int x1), (0, .ref (G.1 0)), (1, .int v1)] 2 dX13_printCall_94 rfl (by rw [ex1]; rfl) hN (by decide) rfl ?_
  refine r_goto hE 57 dX13_printCall_97 (by decide) ?_
  refine r_pick [1, 2, 0] rfl ?_
  exact hl57 _ _ _ h
def wm_printCall_57 (post : MS → Prop) : Nat → MS → Int32 → Int32 → Prop
  | 0, _, _, _ => False
  | n + 1, σ, v1, v2 => ((v2 < (0 : Int32)) → (post σ)) ∧ ((¬ (v2 < (0 : Int32))) → (wm_argumentOf (fun (s2 : MS) (r3 : Int32) => ((r3 < (0 : Int32)) → (wm_printCall_94 post (fun (ys : MS) (y0 : Int32) (y1 : Int32) => wm_printCall_57 post n ys y0 y1) s2 v1 v2)) ∧ ((¬ (r3 < (0 : Int32))) → (wm_argumentOf (fun (s4 : MS) (r5 : Int32) => wm_behind_ (fun (s6 : MS) => ((v2 ≤ (0 : Int32)) → (wm_printCall_94 post (fun (ys : MS) (y0 : Int32) (y1 : Int32) => wm_printCall_57 post n ys y0 y1) s6 v1 v2)) ∧ ((¬ (v2 ≤ (0 : Int32))) → (wm_behind_ (fun (s7 : MS) => wm_printCall_94 post (fun (ys : MS) (y0 : Int32) (y1 : Int32) => wm_printCall_57 post n ys y0 y1) s7 v1 v2) s6 (6 : Int32) (0 : Int32) (0 : Int32)))) s4 (0 : Int32) r5 (1 : Int32)) s2 v1 v2))) σ v1 v2))
set_option maxRecDepth 20000 in
theorem km_printCall_57 {E : gEnv} {l : Launch} {D : va_G} {cl : List vw_C} {G : gAd} {post : MS → Prop} (hE : gOK E cX13_printCall RX13 none 3) (hm : mOK E l D cl G (qV post) 3) : ∀ (n : Nat) (σ : MS) (v1 : Int32) (v2 : Int32), wm_printCall_57 post n σ v1 v2 → GW E (mW G σ) 57 [(0, .ref (G.1 0)), (1, .int v1), (2, .int v2)] [] := by
  intro n
  induction n with
  | zero => intro σ v1 v2 h; exact h.elim
  | succ n ih =>
    intro σ v1 v2 h
    rw [wm_printCall_57] at h
    have hN := hm.2.2.2.2.2.2.1
    refine r_iload_n hE 2 dX13_printCall_57 rfl rfl ?_
    refine r_if_lt hE 100 dX13_printCall_58 (by decide) h (fun h => ?_) (fun h => ?_)
    · exact m_vret hE hm dX13_printCall_100 h
    · refine r_aload_n hE 0 dX13_printCall_61 rfl rfl ?_
      refine r_iload_n hE 1 dX13_printCall_62 rfl rfl ?_
      refine r_iload_n hE 2 dX13_printCall_63 rfl rfl ?_
      refine m_callVi hE hm [.int v1, .int v2] [] mc_argumentOf (km_argumentOf hm.2.2.2.2.2.2.2.2 h) (by decide) rfl rfl (Nat.le_of_ble_eq_true rfl) dX13_printCall_64 (fun s2 r3 h => ?_)
      refine r_if_lt hE 94 dX13_printCall_67 (by decide) h (fun h => ?_) (fun h => ?_)
      · exact km_printCall_94 hE hm ih _ _ _ h
      · refine r_aload_n hE 0 dX13_printCall_70 rfl rfl ?_
        refine r_iconst (v := (0 : Int32)) hE dX13_printCall_71 (by decide) ?_
        refine r_aload_n hE 0 dX13_printCall_72 rfl rfl ?_
        refine r_iload_n hE 1 dX13_printCall_73 rfl rfl ?_
        refine r_iload_n hE 2 dX13_printCall_74 rfl rfl ?_
        refine m_callVi hE hm [.int v1, .int v2] [.int (0 : Int32), .ref (G.1 0)] mc_argumentOf (km_argumentOf hm.2.2.2.2.2.2.2.2 h) (by decide) rfl rfl (Nat.le_of_ble_eq_true rfl) dX13_printCall_75 (fun s4 r5 h => ?_)
        refine r_iconst (v := (1 : Int32)) hE dX13_printCall_78 (by decide) ?_
        refine m_callVv hE hm [.int (0 : Int32), .int r5, .int (1 : Int32)] [] mc_behind_ (km_behind_ hm.2.2.2.2.2.2.2.2 h) (by decide) rfl rfl (Nat.le_of_ble_eq_true rfl) dX13_printCall_79 (fun s6 h => ?_)
        refine r_iload_n hE 2 dX13_printCall_82 rfl rfl ?_
        refine r_if_le hE 94 dX13_printCall_83 (by decide) h (fun h => ?_) (fun h => ?_)
        · exact km_printCall_94 hE hm ih _ _ _ h
        · refine r_aload_n hE 0 dX13_printCall_86 rfl rfl ?_
          refine r_bipush (v := (6 : Int32)) hE dX13_printCall_87 (by decide) ?_
          refine r_iconst (v := (0 : Int32)) hE dX13_printCall_89 (by decide) ?_
          refine r_iconst (v := (0 : Int32)) hE dX13_printCall_90 (by decide) ?_
          refine m_callVv hE hm [.int (6 : Int32), .int (0 : Int32), .int (0 : Int32)] [] mc_behind_ (km_behind_ hm.2.2.2.2.2.2.2.2 h) (by decide) rfl rfl (Nat.le_of_ble_eq_true rfl) dX13_printCall_91 (fun s7 h => ?_)
          exact km_printCall_94 hE hm ih _ _ _ h
def wm_printCall_41 (post : MS → Prop) (σ : MS) (v1 : Int32) : Prop := wm_put (fun (s8 : MS) => wm_behind_ (fun (s9 : MS) => ∃ k : Nat, wm_printCall_57 post k s9 v1 (3 : Int32)) s8 (4 : Int32) (41 : Int32) (0 : Int32)) σ (40 : Int32)
set_option maxRecDepth 20000 in
theorem km_printCall_41 {E : gEnv} {l : Launch} {D : va_G} {cl : List vw_C} {G : gAd} {post : MS → Prop} (hE : gOK E cX13_printCall RX13 none 3) (hm : mOK E l D cl G (qV post) 3) (σ : MS) (v1 : Int32) (h : wm_printCall_41 post σ v1) : GW E (mW G σ) 41 [(0, .ref (G.1 0)), (1, .int v1)] [] := by
  unfold wm_printCall_41 at h
  have hN := hm.2.2.2.2.2.2.1
  refine r_aload_n hE 0 dX13_printCall_41 rfl rfl ?_
  refine r_bipush (v := (40 : Int32)) hE dX13_printCall_42 (by decide) ?_
  refine m_callVv hE hm [.int (40 : Int32)] [] mc_put (km_put hm.2.2.2.2.2.2.2.2 h) (by decide) rfl rfl (Nat.le_of_ble_eq_true rfl) dX13_printCall_44 (fun s8 h => ?_)
  refine r_aload_n hE 0 dX13_printCall_47 rfl rfl ?_
  refine r_iconst (v := (4 : Int32)) hE dX13_printCall_48 (by decide) ?_
  refine r_bipush (v := (41 : Int32)) hE dX13_printCall_49 (by decide) ?_
  refine r_iconst (v := (0 : Int32)) hE dX13_printCall_51 (by decide) ?_
  refine m_callVv hE hm [.int (4 : Int32), .int (41 : Int32), .int (0 : Int32)] [] mc_behind_ (km_behind_ hm.2.2.2.2.2.2.2.2 h) (by decide) rfl rfl (Nat.le_of_ble_eq_true rfl) dX13_printCall_52 (fun s9 h => ?_)
  refine r_iconst (v := (3 : Int32)) hE dX13_printCall_55 (by decide) ?_
  refine r_istore_n hE [(2, .int (3 : Int32)), (0, .ref (G.1 0)), (1, .int v1)] dX13_printCall_56 rfl hN (by decide) rfl ?_
  refine r_pick [1, 2, 0] rfl ?_
  obtain ⟨k, h⟩ := h
  exact km_printCall_57 hE hm k _ _ _ h
def wm_printCall (post : MS → Prop) (σ : MS) (a1 : Int32) : Prop := vp_in a1 600 ∧ ((((m_one σ a1.toNatClampNeg) < (100 : Int32)) → (vp_in a1 600 ∧ (wm_word_toolList (fun (s10 : MS) => wm_printCall_41 post s10 a1) σ (m_one σ a1.toNatClampNeg)))) ∧ ((¬ ((m_one σ a1.toNatClampNeg) < (100 : Int32))) → (vp_in a1 600 ∧ (wm_printMacro (fun (s11 : MS) => wm_printCall_41 post s11 a1) σ ((m_one σ a1.toNatClampNeg) - (100 : Int32))))))
set_option maxRecDepth 20000 in
theorem km_printCall {l : Launch} {D : va_G} {cl : List vw_C} {G : gAd} {post : MS → Prop} (hcl : mC cl) {σ : MS} {a1 : Int32} (h : wm_printCall post σ a1) : mMet l D cl G yX13_printCall cX13_printCall 3 none 3 [.ref (G.1 0), .int a1] σ (qV post) := by
  unfold wm_printCall at h
  refine m_enter hcl (by decide +kernel) rfl [(0, .ref (G.1 0)), (1, .int a1)] rfl (Nat.le_of_ble_eq_true rfl) ?_
  intro E hE hm
  have hN := hm.2.2.2.2.2.2.1
  refine r_aload_n hE 0 dX13_printCall_0 rfl rfl ?_
  refine mg_one hE hm dX13_printCall_1 ?_
  refine r_iload_n hE 1 dX13_printCall_4 rfl rfl ?_
  obtain ⟨hi, h⟩ := h
  refine ml_one hE hm dX13_printCall_5 hi ?_
  refine r_bipush (v := (100 : Int32)) hE dX13_printCall_6 (by decide) ?_
  refine r_icmp_lt hE 27 dX13_printCall_8 (by decide) h (fun h => ?_) (fun h => ?_)
  · refine r_aload_n hE 0 dX13_printCall_27 rfl rfl ?_
    refine r_aload_n hE 0 dX13_printCall_28 rfl rfl ?_
    refine mg_toolList hE hm dX13_printCall_29 ?_
    refine r_aload_n hE 0 dX13_printCall_32 rfl rfl ?_
    refine mg_one hE hm dX13_printCall_33 ?_
    refine r_iload_n hE 1 dX13_printCall_36 rfl rfl ?_
    obtain ⟨hi, h⟩ := h
    refine ml_one hE hm dX13_printCall_37 hi ?_
    refine m_callVv hE hm [.ref (G.1 11), .int (m_one σ a1.toNatClampNeg)] [] mc_word (km_word_toolList hm.2.2.2.2.2.2.2.2 h) (by decide) rfl rfl (Nat.le_of_ble_eq_true rfl) dX13_printCall_38 (fun s10 h => ?_)
    exact km_printCall_41 hE hm _ _ h
  · refine r_aload_n hE 0 dX13_printCall_11 rfl rfl ?_
    refine r_aload_n hE 0 dX13_printCall_12 rfl rfl ?_
    refine mg_one hE hm dX13_printCall_13 ?_
    refine r_iload_n hE 1 dX13_printCall_16 rfl rfl ?_
    obtain ⟨hi, h⟩ := h
    refine ml_one hE hm dX13_printCall_17 hi ?_
    refine r_bipush (v := (100 : Int32)) hE dX13_printCall_18 (by decide) ?_
    refine r_isub hE dX13_printCall_20 ?_
    refine m_callVv hE hm [.int ((m_one σ a1.toNatClampNeg) - (100 : Int32))] [] mc_printMacro (km_printMacro hm.2.2.2.2.2.2.2.2 h) (by decide) rfl rfl (Nat.le_of_ble_eq_true rfl) dX13_printCall_21 (fun s11 h => ?_)
    refine r_goto hE 41 dX13_printCall_24 (by decide) ?_
    exact km_printCall_41 hE hm _ _ h
/-! printExp -/
def wm_printExp_213 (post : MS → Prop) (σ : MS) (t1 : Int32) (t2 : Int32) (t3 : Int32) : Prop := wm_behind_ (fun (s1 : MS) => post s1) σ t1 t2 t3
set_option maxRecDepth 20000 in
theorem km_printExp_213 {E : gEnv} {l : Launch} {D : va_G} {cl : List vw_C} {G : gAd} {post : MS → Prop} (hE : gOK E cX13_printExp RX13 none 4) (hm : mOK E l D cl G (qV post) 4) (σ : MS) (t1 : Int32) (t2 : Int32) (t3 : Int32) (h : wm_printExp_213 post σ t1 t2 t3) : GW E (mW G σ) 213 [] [.int t3, .int t2, .int t1, .ref (G.1 0)] := by
  unfold wm_printExp_213 at h
  have hN := hm.2.2.2.2.2.2.1
  refine m_callVv hE hm [.int t1, .int t2, .int t3] [] mc_behind_ (km_behind_ hm.2.2.2.2.2.2.2.2 h) (by decide) rfl rfl (Nat.le_of_ble_eq_true rfl) dX13_printExp_213 (fun s1 h => ?_)
  refine r_goto hE 224 dX13_printExp_216 (by decide) ?_
  exact m_vret hE hm dX13_printExp_224 h
def wm_printExp_25 (post : MS → Prop) (σ : MS) (v1 : Int32) (v3 : Int32) : Prop := vp_in v1 600 ∧ (((¬ ((m_kind σ v1.toNatClampNeg) = (7 : Int32))) → (vp_in v1 600 ∧ (((¬ ((m_kind σ v1.toNatClampNeg) = (8 : Int32))) → (vp_in v1 600 ∧ (((¬ ((m_kind σ v1.toNatClampNeg) = (9 : Int32))) → (vp_in v1 600 ∧ (((¬ ((m_kind σ v1.toNatClampNeg) = (11 : Int32))) → (vp_in v1 600 ∧ (((¬ ((m_kind σ v1.toNatClampNeg) = (12 : Int32))) → (wm_printCall (fun (s2 : MS) => post s2) σ v1)) ∧ (((m_kind σ v1.toNatClampNeg) = (12 : Int32)) → (vp_in v1 600 ∧ (wm_behind_ (fun (s3 : MS) => wm_behind_ (fun (s4 : MS) => vp_in v1 600 ∧ (((¬ (v3 = (1 : Int32))) → (wm_printExp_213 post s4 (0 : Int32) (m_two s4 v1.toNatClampNeg) v3)) ∧ ((v3 = (1 : Int32)) → (wm_printExp_213 post s4 (0 : Int32) (m_two s4 v1.toNatClampNeg) (2 : Int32))))) s3 (5 : Int32) v1 (0 : Int32)) σ (0 : Int32) (m_three σ v1.toNatClampNeg) (v3 + (1 : Int32)))))))) ∧ (((m_kind σ v1.toNatClampNeg) = (11 : Int32)) → (wm_put (fun (s5 : MS) => vp_in v1 600 ∧ (wm_behind_ (fun (s6 : MS) => post s6) s5 (0 : Int32) (m_one s5 v1.toNatClampNeg) (4 : Int32))) σ (45 : Int32)))))) ∧ (((m_kind σ v1.toNatClampNeg) = (9 : Int32)) → (vp_in v1 600 ∧ (wm_printName (fun (s7 : MS) => wm_put (fun (s8 : MS) => wm_behind_ (fun (s9 : MS) => vp_in v1 600 ∧ (wm_behind_ (fun (s10 : MS) => post s10) s9 (0 : Int32) (m_two s9 v1.toNatClampNeg) (1 : Int32))) s8 (4 : Int32) (93 : Int32) (0 : Int32)) s7 (91 : Int32)) σ (m_printScope σ) (m_one σ v1.toNatClampNeg))))))) ∧ (((m_kind σ v1.toNatClampNeg) = (8 : Int32)) → (vp_in v1 600 ∧ (wm_printName (fun (s11 : MS) => post s11) σ (m_printScope σ) (m_one σ v1.toNatClampNeg))))))) ∧ (((m_kind σ v1.toNatClampNeg) = (7 : Int32)) → (vp_in v1 600 ∧ (wm_figures (fun (s12 : MS) => post s12) σ (m_value σ v1.toNatClampNeg)))))
set_option maxRecDepth 20000 in
theorem km_printExp_25 {E : gEnv} {l : Launch} {D : va_G} {cl : List vw_C} {G : gAd} {post : MS → Prop} (hE : gOK E cX13_printExp RX13 none 4) (hm : mOK E l D cl G (qV post) 4) (σ : MS) (v1 : Int32) (v3 : Int32) (h : wm_printExp_25 post σ v1 v3) : GW E (mW G σ) 25 [(0, .ref (G.1 0)), (1, .int v1), (3, .int v3)] [] := by
  unfold wm_printExp_25 at h
  have hN := hm.2.2.2.2.2.2.1
  refine r_aload_n hE 0 dX13_printExp_25 rfl rfl ?_
  refine mg_kind hE hm dX13_printExp_26 ?_
  refine r_iload_n hE 1 dX13_printExp_29 rfl rfl ?_
  obtain ⟨hi, h⟩ := h
  refine ml_kind hE hm dX13_printExp_30 hi ?_
  refine r_bipush (v := (7 : Int32)) hE dX13_printExp_31 (by decide) ?_
  refine r_icmp_ne hE 49 dX13_printExp_33 (by decide) h (fun h => ?_) (fun h => ?_)
  · refine r_aload_n hE 0 dX13_printExp_49 rfl rfl ?_
    refine mg_kind hE hm dX13_printExp_50 ?_
    refine r_iload_n hE 1 dX13_printExp_53 rfl rfl ?_
    obtain ⟨hi, h⟩ := h
    refine ml_kind hE hm dX13_printExp_54 hi ?_
    refine r_bipush (v := (8 : Int32)) hE dX13_printExp_55 (by decide) ?_
    refine r_icmp_ne hE 77 dX13_printExp_57 (by decide) h (fun h => ?_) (fun h => ?_)
    · refine r_aload_n hE 0 dX13_printExp_77 rfl rfl ?_
      refine mg_kind hE hm dX13_printExp_78 ?_
      refine r_iload_n hE 1 dX13_printExp_81 rfl rfl ?_
      obtain ⟨hi, h⟩ := h
      refine ml_kind hE hm dX13_printExp_82 hi ?_
      refine r_bipush (v := (9 : Int32)) hE dX13_printExp_83 (by decide) ?_
      refine r_icmp_ne hE 131 dX13_printExp_85 (by decide) h (fun h => ?_) (fun h => ?_)
      · refine r_aload_n hE 0 dX13_printExp_131 rfl rfl ?_
        refine mg_kind hE hm dX13_printExp_132 ?_
        refine r_iload_n hE 1 dX13_printExp_135 rfl rfl ?_
        obtain ⟨hi, h⟩ := h
        refine ml_kind hE hm dX13_printExp_136 hi ?_
        refine r_bipush (v := (11 : Int32)) hE dX13_printExp_137 (by decide) ?_
        refine r_icmp_ne hE 163 dX13_printExp_139 (by decide) h (fun h => ?_) (fun h => ?_)
        · refine r_aload_n hE 0 dX13_printExp_163 rfl rfl ?_
          refine mg_kind hE hm dX13_printExp_164 ?_
          refine r_iload_n hE 1 dX13_printExp_167 rfl rfl ?_
          obtain ⟨hi, h⟩ := h
          refine ml_kind hE hm dX13_printExp_168 hi ?_
          refine r_bipush (v := (12 : Int32)) hE dX13_printExp_169 (by decide) ?_
          refine r_icmp_ne hE 219 dX13_printExp_171 (by decide) h (fun h => ?_) (fun h => ?_)
          · refine r_aload_n hE 0 dX13_printExp_219 rfl rfl ?_
            refine r_iload_n hE 1 dX13_printExp_220 rfl rfl ?_
            refine m_callVv hE hm [.int v1] [] mc_printCall (km_printCall hm.2.2.2.2.2.2.2.2 h) (by decide) rfl rfl (Nat.le_of_ble_eq_true rfl) dX13_printExp_221 (fun s2 h => ?_)
            exact m_vret hE hm dX13_printExp_224 h
          · refine r_aload_n hE 0 dX13_printExp_174 rfl rfl ?_
            refine r_iconst (v := (0 : Int32)) hE dX13_printExp_175 (by decide) ?_
            refine r_aload_n hE 0 dX13_printExp_176 rfl rfl ?_
            refine mg_three hE hm dX13_printExp_177 ?_
            refine r_iload_n hE 1 dX13_printExp_180 rfl rfl ?_
            obtain ⟨hi, h⟩ := h
            refine ml_three hE hm dX13_printExp_181 hi ?_
            refine r_iload_n hE 2 dX13_printExp_182 rfl rfl ?_
            refine r_iconst (v := (1 : Int32)) hE dX13_printExp_183 (by decide) ?_
            refine r_iadd hE dX13_printExp_184 ?_
            refine m_callVv hE hm [.int (0 : Int32), .int (m_three σ v1.toNatClampNeg), .int (v3 + (1 : Int32))] [] mc_behind_ (km_behind_ hm.2.2.2.2.2.2.2.2 h) (by decide) rfl rfl (Nat.le_of_ble_eq_true rfl) dX13_printExp_185 (fun s3 h => ?_)
            refine r_aload_n hE 0 dX13_printExp_188 rfl rfl ?_
            refine r_iconst (v := (5 : Int32)) hE dX13_printExp_189 (by decide) ?_
            refine r_iload_n hE 1 dX13_printExp_190 rfl rfl ?_
            refine r_iconst (v := (0 : Int32)) hE dX13_printExp_191 (by decide) ?_
            refine m_callVv hE hm [.int (5 : Int32), .int v1, .int (0 : Int32)] [] mc_behind_ (km_behind_ hm.2.2.2.2.2.2.2.2 h) (by decide) rfl rfl (Nat.le_of_ble_eq_true rfl) dX13_printExp_192 (fun s4 h => ?_)
            refine r_aload_n hE 0 dX13_printExp_195 rfl rfl ?_
            refine r_iconst (v := (0 : Int32)) hE dX13_printExp_196 (by decide) ?_
            refine r_aload_n hE 0 dX13_printExp_197 rfl rfl ?_
            refine mg_two hE hm dX13_printExp_198 ?_
            refine r_iload_n hE 1 dX13_printExp_201 rfl rfl ?_
            obtain ⟨hi, h⟩ := h
            refine ml_two hE hm dX13_printExp_202 hi ?_
            refine r_iload_n hE 2 dX13_printExp_203 rfl rfl ?_
            refine r_iconst (v := (1 : Int32)) hE dX13_printExp_204 (by decide) ?_
            refine r_icmp_ne hE 212 dX13_printExp_205 (by decide) h (fun h => ?_) (fun h => ?_)
            · refine r_iload_n hE 2 dX13_printExp_212 rfl rfl ?_
              refine r_pick [] rfl ?_
              exact km_printExp_213 hE hm _ _ _ _ h
            · refine r_iconst (v := (2 : Int32)) hE dX13_printExp_208 (by decide) ?_
              refine r_goto hE 213 dX13_printExp_209 (by decide) ?_
              refine r_pick [] rfl ?_
              exact km_printExp_213 hE hm _ _ _ _ h
        · refine r_aload_n hE 0 dX13_printExp_142 rfl rfl ?_
          refine r_bipush (v := (45 : Int32)) hE dX13_printExp_143 (by decide) ?_
          refine m_callVv hE hm [.int (45 : Int32)] [] mc_put (km_put hm.2.2.2.2.2.2.2.2 h) (by decide) rfl rfl (Nat.le_of_ble_eq_true rfl) dX13_printExp_145 (fun s5 h => ?_)
          refine r_aload_n hE 0 dX13_printExp_148 rfl rfl ?_
          refine r_iconst (v := (0 : Int32)) hE dX13_printExp_149 (by decide) ?_
          refine r_aload_n hE 0 dX13_printExp_150 rfl rfl ?_
          refine mg_one hE hm dX13_printExp_151 ?_
          refine r_iload_n hE 1 dX13_printExp_154 rfl rfl ?_
          obtain ⟨hi, h⟩ := h
          refine ml_one hE hm dX13_printExp_155 hi ?_
          refine r_iconst (v := (4 : Int32)) hE dX13_printExp_156 (by decide) ?_
          refine m_callVv hE hm [.int (0 : Int32), .int (m_one s5 v1.toNatClampNeg), .int (4 : Int32)] [] mc_behind_ (km_behind_ hm.2.2.2.2.2.2.2.2 h) (by decide) rfl rfl (Nat.le_of_ble_eq_true rfl) dX13_printExp_157 (fun s6 h => ?_)
          refine r_goto hE 224 dX13_printExp_160 (by decide) ?_
          exact m_vret hE hm dX13_printExp_224 h
      · refine r_aload_n hE 0 dX13_printExp_88 rfl rfl ?_
        refine r_aload_n hE 0 dX13_printExp_89 rfl rfl ?_
        refine mg_printScope hE hm dX13_printExp_90 ?_
        refine r_aload_n hE 0 dX13_printExp_93 rfl rfl ?_
        refine mg_one hE hm dX13_printExp_94 ?_
        refine r_iload_n hE 1 dX13_printExp_97 rfl rfl ?_
        obtain ⟨hi, h⟩ := h
        refine ml_one hE hm dX13_printExp_98 hi ?_
        refine m_callVv hE hm [.int (m_printScope σ), .int (m_one σ v1.toNatClampNeg)] [] mc_printName (km_printName hm.2.2.2.2.2.2.2.2 h) (by decide) rfl rfl (Nat.le_of_ble_eq_true rfl) dX13_printExp_99 (fun s7 h => ?_)
        refine r_aload_n hE 0 dX13_printExp_102 rfl rfl ?_
        refine r_bipush (v := (91 : Int32)) hE dX13_printExp_103 (by decide) ?_
        refine m_callVv hE hm [.int (91 : Int32)] [] mc_put (km_put hm.2.2.2.2.2.2.2.2 h) (by decide) rfl rfl (Nat.le_of_ble_eq_true rfl) dX13_printExp_105 (fun s8 h => ?_)
        refine r_aload_n hE 0 dX13_printExp_108 rfl rfl ?_
        refine r_iconst (v := (4 : Int32)) hE dX13_printExp_109 (by decide) ?_
        refine r_bipush (v := (93 : Int32)) hE dX13_printExp_110 (by decide) ?_
        refine r_iconst (v := (0 : Int32)) hE dX13_printExp_112 (by decide) ?_
        refine m_callVv hE hm [.int (4 : Int32), .int (93 : Int32), .int (0 : Int32)] [] mc_behind_ (km_behind_ hm.2.2.2.2.2.2.2.2 h) (by decide) rfl rfl (Nat.le_of_ble_eq_true rfl) dX13_printExp_113 (fun s9 h => ?_)
        refine r_aload_n hE 0 dX13_printExp_116 rfl rfl ?_
        refine r_iconst (v := (0 : Int32)) hE dX13_printExp_117 (by decide) ?_
        refine r_aload_n hE 0 dX13_printExp_118 rfl rfl ?_
        refine mg_two hE hm dX13_printExp_119 ?_
        refine r_iload_n hE 1 dX13_printExp_122 rfl rfl ?_
        obtain ⟨hi, h⟩ := h
        refine ml_two hE hm dX13_printExp_123 hi ?_
        refine r_iconst (v := (1 : Int32)) hE dX13_printExp_124 (by decide) ?_
        refine m_callVv hE hm [.int (0 : Int32), .int (m_two s9 v1.toNatClampNeg), .int (1 : Int32)] [] mc_behind_ (km_behind_ hm.2.2.2.2.2.2.2.2 h) (by decide) rfl rfl (Nat.le_of_ble_eq_true rfl) dX13_printExp_125 (fun s10 h => ?_)
        refine r_goto hE 224 dX13_printExp_128 (by decide) ?_
        exact m_vret hE hm dX13_printExp_224 h
    · refine r_aload_n hE 0 dX13_printExp_60 rfl rfl ?_
      refine r_aload_n hE 0 dX13_printExp_61 rfl rfl ?_
      refine mg_printScope hE hm dX13_printExp_62 ?_
      refine r_aload_n hE 0 dX13_printExp_65 rfl rfl ?_
      refine mg_one hE hm dX13_printExp_66 ?_
      refine r_iload_n hE 1 dX13_printExp_69 rfl rfl ?_
      obtain ⟨hi, h⟩ := h
      refine ml_one hE hm dX13_printExp_70 hi ?_
      refine m_callVv hE hm [.int (m_printScope σ), .int (m_one σ v1.toNatClampNeg)] [] mc_printName (km_printName hm.2.2.2.2.2.2.2.2 h) (by decide) rfl rfl (Nat.le_of_ble_eq_true rfl) dX13_printExp_71 (fun s11 h => ?_)
      refine r_goto hE 224 dX13_printExp_74 (by decide) ?_
      exact m_vret hE hm dX13_printExp_224 h
  · refine r_aload_n hE 0 dX13_printExp_36 rfl rfl ?_
    refine r_aload_n hE 0 dX13_printExp_37 rfl rfl ?_
    refine mg_value hE hm dX13_printExp_38 ?_
    refine r_iload_n hE 1 dX13_printExp_41 rfl rfl ?_
    obtain ⟨hi, h⟩ := h
    refine ml_value hE hm dX13_printExp_42 hi ?_
    refine m_callVv hE hm [.long (m_value σ v1.toNatClampNeg)] [] mc_figures (km_figures hm.2.2.2.2.2.2.2.2 h) (by decide) rfl rfl (Nat.le_of_ble_eq_true rfl) dX13_printExp_43 (fun s12 h => ?_)
    refine r_goto hE 224 dX13_printExp_46 (by decide) ?_
    exact m_vret hE hm dX13_printExp_224 h
def wm_printExp (post : MS → Prop) (σ : MS) (a1 : Int32) (a2 : Int32) : Prop := wm_rank (fun (s13 : MS) (r14 : Int32) => ((a2 ≤ r14) → (wm_printExp_25 post s13 a1 r14)) ∧ ((¬ (a2 ≤ r14)) → (wm_put (fun (s15 : MS) => wm_behind_ (fun (s16 : MS) => wm_printExp_25 post s16 a1 r14) s15 (4 : Int32) (41 : Int32) (0 : Int32)) s13 (40 : Int32)))) σ a1
set_option maxRecDepth 20000 in
theorem km_printExp {l : Launch} {D : va_G} {cl : List vw_C} {G : gAd} {post : MS → Prop} (hcl : mC cl) {σ : MS} {a1 : Int32} {a2 : Int32} (h : wm_printExp post σ a1 a2) : mMet l D cl G yX13_printExp cX13_printExp 4 none 4 [.ref (G.1 0), .int a1, .int a2] σ (qV post) := by
  unfold wm_printExp at h
  refine m_enter hcl (by decide +kernel) rfl [(0, .ref (G.1 0)), (1, .int a1), (2, .int a2)] rfl (Nat.le_of_ble_eq_true rfl) ?_
  intro E hE hm
  have hN := hm.2.2.2.2.2.2.1
  refine r_aload_n hE 0 dX13_printExp_0 rfl rfl ?_
  refine r_iload_n hE 1 dX13_printExp_1 rfl rfl ?_
  refine m_callVi hE hm [.int a1] [] mc_rank (km_rank hm.2.2.2.2.2.2.2.2 h) (by decide) rfl rfl (Nat.le_of_ble_eq_true rfl) dX13_printExp_2 (fun s13 r14 h => ?_)
  refine r_istore_n hE [(3, .int r14), (0, .ref (G.1 0)), (1, .int a1), (2, .int a2)] dX13_printExp_5 rfl hN (by decide) rfl ?_
  refine r_iload_n hE 0 dX13_printExp_6 rfl rfl ?_
  refine r_iload_n hE 3 dX13_printExp_7 rfl rfl ?_
  refine r_icmp_ge hE 25 dX13_printExp_8 (by decide) h (fun h => ?_) (fun h => ?_)
  · refine r_pick [1, 2, 0] rfl ?_
    exact km_printExp_25 hE hm _ _ _ h
  · refine r_aload_n hE 1 dX13_printExp_11 rfl rfl ?_
    refine r_bipush (v := (40 : Int32)) hE dX13_printExp_12 (by decide) ?_
    refine m_callVv hE hm [.int (40 : Int32)] [] mc_put (km_put hm.2.2.2.2.2.2.2.2 h) (by decide) rfl rfl (Nat.le_of_ble_eq_true rfl) dX13_printExp_14 (fun s15 h => ?_)
    refine r_aload_n hE 1 dX13_printExp_17 rfl rfl ?_
    refine r_iconst (v := (4 : Int32)) hE dX13_printExp_18 (by decide) ?_
    refine r_bipush (v := (41 : Int32)) hE dX13_printExp_19 (by decide) ?_
    refine r_iconst (v := (0 : Int32)) hE dX13_printExp_21 (by decide) ?_
    refine m_callVv hE hm [.int (4 : Int32), .int (41 : Int32), .int (0 : Int32)] [] mc_behind_ (km_behind_ hm.2.2.2.2.2.2.2.2 h) (by decide) rfl rfl (Nat.le_of_ble_eq_true rfl) dX13_printExp_22 (fun s16 h => ?_)
    refine r_pick [1, 2, 0] rfl ?_
    exact km_printExp_25 hE hm _ _ _ h
/-! indent -/
def wm_indent_2 (post : MS → Prop) : Nat → MS → Int32 → Int32 → Prop
  | 0, _, _, _ => False
  | n + 1, σ, v1, v2 => ((((2 : Int32) * v1) ≤ v2) → (post σ)) ∧ ((¬ (((2 : Int32) * v1) ≤ v2)) → (wm_put (fun (s1 : MS) => ∀ x2 : Int32, x2 = v2 + (1 : Int32) → wm_indent_2 post n s1 v1 x2) σ (32 : Int32)))
set_option maxRecDepth 20000 in
theorem km_indent_2 {E : gEnv} {l : Launch} {D : va_G} {cl : List vw_C} {G : gAd} {post : MS → Prop} (hE : gOK E cX13_indent RX13 none 2) (hm : mOK E l D cl G (qV post) 3) : ∀ (n : Nat) (σ : MS) (v1 : Int32) (v2 : Int32), wm_indent_2 post n σ v1 v2 → GW E (mW G σ) 2 [(0, .ref (G.1 0)), (1, .int v1), (2, .int v2)] [] := by
  intro n
  induction n with
  | zero => intro σ v1 v2 h; exact h.elim
  | succ n ih =>
    intro σ v1 v2 h
    rw [wm_indent_2] at h
    have hN := hm.2.2.2.2.2.2.1
    refine r_iload_n hE 2 dX13_indent_2 rfl rfl ?_
    refine r_iconst (v := (2 : Int32)) hE dX13_indent_3 (by decide) ?_
    refine r_iload_n hE 1 dX13_indent_4 rfl rfl ?_
    refine r_imul hE dX13_indent_5 ?_
    refine r_icmp_ge hE 21 dX13_indent_6 (by decide) h (fun h => ?_) (fun h => ?_)
    · exact m_vret hE hm dX13_indent_21 h
    · refine r_aload_n hE 0 dX13_indent_9 rfl rfl ?_
      refine r_bipush (v := (32 : Int32)) hE dX13_indent_10 (by decide) ?_
      refine m_callVv hE hm [.int (32 : Int32)] [] mc_put (km_put hm.2.2.2.2.2.2.2.2 h) (by decide) rfl rfl (Nat.le_of_ble_eq_true rfl) dX13_indent_12 (fun s1 h => ?_)
      obtain ⟨x2, ex2⟩ : ∃ z : Int32, z = v2 + (1 : Int32) := ⟨_, rfl⟩
      have h := h x2 ex2
      refine r_iinc (v := x2) hE [(2, .int x2), (0, .ref (G.1 0)), (1, .int v1)] 2 dX13_indent_15 rfl (by rw [ex2]; rfl) hN (by decide) rfl ?_
      refine r_goto hE 2 dX13_indent_18 (by decide) ?_
      refine r_pick [1, 2, 0] rfl ?_
      exact ih _ _ _ h
def wm_indent (post : MS → Prop) (σ : MS) (a1 : Int32) : Prop := ∃ k : Nat, wm_indent_2 post k σ a1 (0 : Int32)
set_option maxRecDepth 20000 in
theorem km_indent {l : Launch} {D : va_G} {cl : List vw_C} {G : gAd} {post : MS → Prop} (hcl : mC cl) {σ : MS} {a1 : Int32} (h : wm_indent post σ a1) : mMet l D cl G yX13_indent cX13_indent 3 none 2 [.ref (G.1 0), .int a1] σ (qV post) := by
  unfold wm_indent at h
  refine m_enter hcl (by decide +kernel) rfl [(0, .ref (G.1 0)), (1, .int a1)] rfl (Nat.le_of_ble_eq_true rfl) ?_
  intro E hE hm
  have hN := hm.2.2.2.2.2.2.1
  refine r_iconst (v := (0 : Int32)) hE dX13_indent_0 (by decide) ?_
  refine r_istore_n hE [(2, .int (0 : Int32)), (0, .ref (G.1 0)), (1, .int a1)] dX13_indent_1 rfl hN (by decide) rfl ?_
  refine r_pick [1, 2, 0] rfl ?_
  obtain ⟨k, h⟩ := h
  exact km_indent_2 hE hm k _ _ _ h
/-! placeOf10 -/
def wm_placeOf_wordList_22 (post : MS → Int32 → Prop) (lp4 : MS → Int32 → Int32 → Prop) (σ : MS) (v2 : Int32) (t0 : Int32) (t1 : Int32) : Prop := ∀ x1 : Int32, x1 = t0 - t1 → ∀ x2 : Int32, x2 = v2 + (1 : Int32) → lp4 σ x2 x1
set_option maxRecDepth 20000 in
theorem km_placeOf_wordList_22 {E : gEnv} {l : Launch} {D : va_G} {cl : List vw_C} {G : gAd} {post : MS → Int32 → Prop} (hE : gOK E cX13_placeOf RX13 (some .int) 1) (hm : mOK E l D cl G (qI post) 4) {lp4 : MS → Int32 → Int32 → Prop} (hl4 : ∀ (σ : MS) (v2 : Int32) (v3 : Int32), lp4 σ v2 v3 → GW E (mW G σ) 4 [(0, .ref (G.1 10)), (2, .int v2), (3, .int v3)] []) (σ : MS) (v2 : Int32) (t0 : Int32) (t1 : Int32) (h : wm_placeOf_wordList_22 post lp4 σ v2 t0 t1) : GW E (mW G σ) 22 [(0, .ref (G.1 10)), (2, .int v2)] [.int t1, .int t0] := by
  unfold wm_placeOf_wordList_22 at h
  have hN := hm.2.2.2.2.2.2.1
  refine r_isub hE dX13_placeOf_22 ?_
  refine r_topi h (fun x1 ex1 h => ?_)
  refine r_istore_n hE [(3, .int x1), (0, .ref (G.1 10)), (2, .int v2)] dX13_placeOf_23 rfl hN (by decide) rfl ?_
  obtain ⟨x2, ex2⟩ : ∃ z : Int32, z = v2 + (1 : Int32) := ⟨_, rfl⟩
  have h := h x2 ex2
  refine r_iinc (v := x2) hE [(2, .int x2), (3, .int x1), (0, .ref (G.1 10))] 2 dX13_placeOf_24 rfl (by rw [ex2]; rfl) hN (by decide) rfl ?_
  refine r_goto hE 4 dX13_placeOf_27 (by decide) ?_
  refine r_pick [2, 0, 1] rfl ?_
  exact hl4 _ _ _ h
def wm_placeOf_wordList_4 (post : MS → Int32 → Prop) : Nat → MS → Int32 → Int32 → Prop
  | 0, _, _, _ => False
  | n + 1, σ, v2, v3 => ((v3 ≤ (0 : Int32)) → (post σ v2)) ∧ ((¬ (v3 ≤ (0 : Int32))) → (vp_in v2 36 ∧ (((¬ ((m_wordList σ v2.toNatClampNeg) = (32 : Int32))) → (wm_placeOf_wordList_22 post (fun (ys : MS) (y0 : Int32) (y1 : Int32) => wm_placeOf_wordList_4 post n ys y0 y1) σ v2 v3 (0 : Int32))) ∧ (((m_wordList σ v2.toNatClampNeg) = (32 : Int32)) → (wm_placeOf_wordList_22 post (fun (ys : MS) (y0 : Int32) (y1 : Int32) => wm_placeOf_wordList_4 post n ys y0 y1) σ v2 v3 (1 : Int32))))))
set_option maxRecDepth 20000 in
theorem km_placeOf_wordList_4 {E : gEnv} {l : Launch} {D : va_G} {cl : List vw_C} {G : gAd} {post : MS → Int32 → Prop} (hE : gOK E cX13_placeOf RX13 (some .int) 1) (hm : mOK E l D cl G (qI post) 4) : ∀ (n : Nat) (σ : MS) (v2 : Int32) (v3 : Int32), wm_placeOf_wordList_4 post n σ v2 v3 → GW E (mW G σ) 4 [(0, .ref (G.1 10)), (2, .int v2), (3, .int v3)] [] := by
  intro n
  induction n with
  | zero => intro σ v2 v3 h; exact h.elim
  | succ n ih =>
    intro σ v2 v3 h
    rw [wm_placeOf_wordList_4] at h
    have hN := hm.2.2.2.2.2.2.1
    refine r_iload_n hE 2 dX13_placeOf_4 rfl rfl ?_
    refine r_if_le hE 30 dX13_placeOf_5 (by decide) h (fun h => ?_) (fun h => ?_)
    · refine r_iload_n hE 1 dX13_placeOf_30 rfl rfl ?_
      exact m_iret hE hm dX13_placeOf_31 h
    · refine r_iload_n hE 2 dX13_placeOf_8 rfl rfl ?_
      refine r_aload_n hE 0 dX13_placeOf_9 rfl rfl ?_
      refine r_iload_n hE 1 dX13_placeOf_10 rfl rfl ?_
      obtain ⟨hi, h⟩ := h
      refine ml_wordList hE hm dX13_placeOf_11 hi ?_
      refine r_bipush (v := (32 : Int32)) hE dX13_placeOf_12 (by decide) ?_
      refine r_icmp_ne hE 21 dX13_placeOf_14 (by decide) h (fun h => ?_) (fun h => ?_)
      · refine r_iconst (v := (0 : Int32)) hE dX13_placeOf_21 (by decide) ?_
        refine r_pick [0, 1] rfl ?_
        exact km_placeOf_wordList_22 hE hm ih _ _ _ _ h
      · refine r_iconst (v := (1 : Int32)) hE dX13_placeOf_17 (by decide) ?_
        refine r_goto hE 22 dX13_placeOf_18 (by decide) ?_
        refine r_pick [0, 1] rfl ?_
        exact km_placeOf_wordList_22 hE hm ih _ _ _ _ h
def wm_placeOf_wordList (post : MS → Int32 → Prop) (σ : MS) (a1 : Int32) : Prop := ∃ k : Nat, wm_placeOf_wordList_4 post k σ (0 : Int32) a1
set_option maxRecDepth 20000 in
theorem km_placeOf_wordList {l : Launch} {D : va_G} {cl : List vw_C} {G : gAd} {post : MS → Int32 → Prop} (hcl : mC cl) {σ : MS} {a1 : Int32} (h : wm_placeOf_wordList post σ a1) : mMet l D cl G yX13_placeOf cX13_placeOf 4 (some .int) 1 [.ref (G.1 10), .int a1] σ (qI post) := by
  unfold wm_placeOf_wordList at h
  refine m_enter hcl (by decide +kernel) rfl [(0, .ref (G.1 10)), (1, .int a1)] rfl (Nat.le_of_ble_eq_true rfl) ?_
  intro E hE hm
  have hN := hm.2.2.2.2.2.2.1
  refine r_iconst (v := (0 : Int32)) hE dX13_placeOf_0 (by decide) ?_
  refine r_istore_n hE [(2, .int (0 : Int32)), (0, .ref (G.1 10)), (1, .int a1)] dX13_placeOf_1 rfl hN (by decide) rfl ?_
  refine r_iload_n hE 2 dX13_placeOf_2 rfl rfl ?_
  refine r_istore_n hE [(3, .int a1), (2, .int (0 : Int32)), (0, .ref (G.1 10)), (1, .int a1)] dX13_placeOf_3 rfl hN (by decide) rfl ?_
  refine r_pick [2, 1, 0] rfl ?_
  obtain ⟨k, h⟩ := h
  exact km_placeOf_wordList_4 hE hm k _ _ _ h
/-! sizeOf10 -/
def wm_sizeOf_wordList_2 (post : MS → Int32 → Prop) : Nat → MS → Int32 → Int32 → Prop
  | 0, _, _, _ => False
  | n + 1, σ, v1, v2 => vp_in (v1 + v2) 36 ∧ ((((m_wordList σ (v1 + v2).toNatClampNeg) = (32 : Int32)) → (post σ v2)) ∧ ((¬ ((m_wordList σ (v1 + v2).toNatClampNeg) = (32 : Int32))) → (∀ x1 : Int32, x1 = v2 + (1 : Int32) → wm_sizeOf_wordList_2 post n σ v1 x1)))
set_option maxRecDepth 20000 in
theorem km_sizeOf_wordList_2 {E : gEnv} {l : Launch} {D : va_G} {cl : List vw_C} {G : gAd} {post : MS → Int32 → Prop} (hE : gOK E cX13_sizeOf RX13 (some .int) 1) (hm : mOK E l D cl G (qI post) 3) : ∀ (n : Nat) (σ : MS) (v1 : Int32) (v2 : Int32), wm_sizeOf_wordList_2 post n σ v1 v2 → GW E (mW G σ) 2 [(0, .ref (G.1 10)), (1, .int v1), (2, .int v2)] [] := by
  intro n
  induction n with
  | zero => intro σ v1 v2 h; exact h.elim
  | succ n ih =>
    intro σ v1 v2 h
    rw [wm_sizeOf_wordList_2] at h
    have hN := hm.2.2.2.2.2.2.1
    refine r_aload_n hE 0 dX13_sizeOf_2 rfl rfl ?_
    refine r_iload_n hE 1 dX13_sizeOf_3 rfl rfl ?_
    refine r_iload_n hE 2 dX13_sizeOf_4 rfl rfl ?_
    refine r_iadd hE dX13_sizeOf_5 ?_
    obtain ⟨hi, h⟩ := h
    refine ml_wordList hE hm dX13_sizeOf_6 hi ?_
    refine r_bipush (v := (32 : Int32)) hE dX13_sizeOf_7 (by decide) ?_
    refine r_icmp_eq hE 18 dX13_sizeOf_9 (by decide) h (fun h => ?_) (fun h => ?_)
    · refine r_iload_n hE 2 dX13_sizeOf_18 rfl rfl ?_
      exact m_iret hE hm dX13_sizeOf_19 h
    · obtain ⟨x1, ex1⟩ : ∃ z : Int32, z = v2 + (1 : Int32) := ⟨_, rfl⟩
      have h := h x1 ex1
      refine r_iinc (v := x1) hE [(2, .int x1), (0, .ref (G.1 10)), (1, .int v1)] 2 dX13_sizeOf_12 rfl (by rw [ex1]; rfl) hN (by decide) rfl ?_
      refine r_goto hE 2 dX13_sizeOf_15 (by decide) ?_
      refine r_pick [1, 2, 0] rfl ?_
      exact ih _ _ _ h
def wm_sizeOf_wordList (post : MS → Int32 → Prop) (σ : MS) (a1 : Int32) : Prop := ∃ k : Nat, wm_sizeOf_wordList_2 post k σ a1 (0 : Int32)
set_option maxRecDepth 20000 in
theorem km_sizeOf_wordList {l : Launch} {D : va_G} {cl : List vw_C} {G : gAd} {post : MS → Int32 → Prop} (hcl : mC cl) {σ : MS} {a1 : Int32} (h : wm_sizeOf_wordList post σ a1) : mMet l D cl G yX13_sizeOf cX13_sizeOf 3 (some .int) 1 [.ref (G.1 10), .int a1] σ (qI post) := by
  unfold wm_sizeOf_wordList at h
  refine m_enter hcl (by decide +kernel) rfl [(0, .ref (G.1 10)), (1, .int a1)] rfl (Nat.le_of_ble_eq_true rfl) ?_
  intro E hE hm
  have hN := hm.2.2.2.2.2.2.1
  refine r_iconst (v := (0 : Int32)) hE dX13_sizeOf_0 (by decide) ?_
  refine r_istore_n hE [(2, .int (0 : Int32)), (0, .ref (G.1 10)), (1, .int a1)] dX13_sizeOf_1 rfl hN (by decide) rfl ?_
  refine r_pick [1, 2, 0] rfl ?_
  obtain ⟨k, h⟩ := h
  exact km_sizeOf_wordList_2 hE hm k _ _ _ h
/-! word10 -/
def wm_word_wordList_9 (post : MS → Prop) : Nat → MS → Int32 → Int32 → Prop
  | 0, _, _, _ => False
  | n + 1, σ, v3, v4 => wm_sizeOf_wordList (fun (s1 : MS) (r2 : Int32) => ((r2 ≤ v4) → (post s1)) ∧ ((¬ (r2 ≤ v4)) → (vp_in (v3 + v4) 36 ∧ (wm_put (fun (s3 : MS) => ∀ x4 : Int32, x4 = v4 + (1 : Int32) → wm_word_wordList_9 post n s3 v3 x4) s1 (m_wordList s1 (v3 + v4).toNatClampNeg))))) σ v3
set_option maxRecDepth 20000 in
theorem km_word_wordList_9 {E : gEnv} {l : Launch} {D : va_G} {cl : List vw_C} {G : gAd} {post : MS → Prop} (hE : gOK E cX13_word RX13 none 2) (hm : mOK E l D cl G (qV post) 5) : ∀ (n : Nat) (σ : MS) (v3 : Int32) (v4 : Int32), wm_word_wordList_9 post n σ v3 v4 → GW E (mW G σ) 9 [(0, .ref (G.1 0)), (1, .ref (G.1 10)), (3, .int v3), (4, .int v4)] [] := by
  intro n
  induction n with
  | zero => intro σ v3 v4 h; exact h.elim
  | succ n ih =>
    intro σ v3 v4 h
    rw [wm_word_wordList_9] at h
    have hN := hm.2.2.2.2.2.2.1
    refine r_iload hE 3 dX13_word_9 rfl ?_
    refine r_aload_n hE 1 dX13_word_11 rfl rfl ?_
    refine r_iload_n hE 2 dX13_word_12 rfl rfl ?_
    refine m_callSi hE hm [.ref (G.1 10), .int v3] [.int v4] mc_sizeOf (km_sizeOf_wordList hm.2.2.2.2.2.2.2.2 h) (by decide) rfl rfl (Nat.le_of_ble_eq_true rfl) dX13_word_13 (fun s1 r2 h => ?_)
    refine r_icmp_ge hE 35 dX13_word_16 (by decide) h (fun h => ?_) (fun h => ?_)
    · exact m_vret hE hm dX13_word_35 h
    · refine r_aload_n hE 0 dX13_word_19 rfl rfl ?_
      refine r_aload_n hE 1 dX13_word_20 rfl rfl ?_
      refine r_iload_n hE 2 dX13_word_21 rfl rfl ?_
      refine r_iload hE 3 dX13_word_22 rfl ?_
      refine r_iadd hE dX13_word_24 ?_
      obtain ⟨hi, h⟩ := h
      refine ml_wordList hE hm dX13_word_25 hi ?_
      refine m_callVv hE hm [.int (m_wordList s1 (v3 + v4).toNatClampNeg)] [] mc_put (km_put hm.2.2.2.2.2.2.2.2 h) (by decide) rfl rfl (Nat.le_of_ble_eq_true rfl) dX13_word_26 (fun s3 h => ?_)
      obtain ⟨x4, ex4⟩ : ∃ z : Int32, z = v4 + (1 : Int32) := ⟨_, rfl⟩
      have h := h x4 ex4
      refine r_iinc (v := x4) hE [(4, .int x4), (0, .ref (G.1 0)), (1, .ref (G.1 10)), (3, .int v3)] 3 dX13_word_29 rfl (by rw [ex4]; rfl) hN (by decide) rfl ?_
      refine r_goto hE 9 dX13_word_32 (by decide) ?_
      refine r_pick [1, 2, 3, 0] rfl ?_
      exact ih _ _ _ h
def wm_word_wordList (post : MS → Prop) (σ : MS) (a2 : Int32) : Prop := wm_placeOf_wordList (fun (s5 : MS) (r6 : Int32) => ∃ k : Nat, wm_word_wordList_9 post k s5 r6 (0 : Int32)) σ a2
set_option maxRecDepth 20000 in
theorem km_word_wordList {l : Launch} {D : va_G} {cl : List vw_C} {G : gAd} {post : MS → Prop} (hcl : mC cl) {σ : MS} {a2 : Int32} (h : wm_word_wordList post σ a2) : mMet l D cl G yX13_word cX13_word 5 none 2 [.ref (G.1 0), .ref (G.1 10), .int a2] σ (qV post) := by
  unfold wm_word_wordList at h
  refine m_enter hcl (by decide +kernel) rfl [(0, .ref (G.1 0)), (1, .ref (G.1 10)), (2, .int a2)] rfl (Nat.le_of_ble_eq_true rfl) ?_
  intro E hE hm
  have hN := hm.2.2.2.2.2.2.1
  refine r_aload_n hE 1 dX13_word_0 rfl rfl ?_
  refine r_iload_n hE 2 dX13_word_1 rfl rfl ?_
  refine m_callSi hE hm [.ref (G.1 10), .int a2] [] mc_placeOf (km_placeOf_wordList hm.2.2.2.2.2.2.2.2 h) (by decide) rfl rfl (Nat.le_of_ble_eq_true rfl) dX13_word_2 (fun s5 r6 h => ?_)
  refine r_istore_n hE [(3, .int r6), (0, .ref (G.1 0)), (1, .ref (G.1 10)), (2, .int a2)] dX13_word_5 rfl hN (by decide) rfl ?_
  refine r_iconst (v := (0 : Int32)) hE dX13_word_6 (by decide) ?_
  refine r_istore hE [(4, .int (0 : Int32)), (3, .int r6), (0, .ref (G.1 0)), (1, .ref (G.1 10)), (2, .int a2)] dX13_word_7 hN (by decide) rfl ?_
  refine r_pick [2, 3, 1, 0] rfl ?_
  obtain ⟨k, h⟩ := h
  exact km_word_wordList_9 hE hm k _ _ _ h
/-! printDeeds -/
def wm_printDeeds_41 (post : MS → Prop) (σ : MS) (v1 : Int32) : Prop := vp_in v1 600 ∧ (wm_printName (fun (s1 : MS) => wm_behind_ (fun (s2 : MS) => vp_in v1 600 ∧ (wm_behind_ (fun (s3 : MS) => wm_behind_ (fun (s4 : MS) => vp_in v1 600 ∧ (((¬ ((m_kind s4 v1.toNatClampNeg) = (1 : Int32))) → (post s4)) ∧ (((m_kind s4 v1.toNatClampNeg) = (1 : Int32)) → (wm_put (fun (s5 : MS) => wm_behind_ (fun (s6 : MS) => vp_in v1 600 ∧ (wm_behind_ (fun (s7 : MS) => post s7) s6 (0 : Int32) (m_two s6 v1.toNatClampNeg) (1 : Int32))) s5 (4 : Int32) (93 : Int32) (0 : Int32)) s4 (91 : Int32))))) s3 (9 : Int32) (0 : Int32) (0 : Int32)) s2 (0 : Int32) (m_three s2 v1.toNatClampNeg) (1 : Int32))) s1 (8 : Int32) (0 : Int32) (0 : Int32)) σ (m_printScope σ) (m_one σ v1.toNatClampNeg))
set_option maxRecDepth 20000 in
theorem km_printDeeds_41 {E : gEnv} {l : Launch} {D : va_G} {cl : List vw_C} {G : gAd} {post : MS → Prop} (hE : gOK E cX13_printDeeds RX13 none 3) (hm : mOK E l D cl G (qV post) 3) (σ : MS) (v1 : Int32) (h : wm_printDeeds_41 post σ v1) : GW E (mW G σ) 41 [(0, .ref (G.1 0)), (1, .int v1)] [] := by
  unfold wm_printDeeds_41 at h
  have hN := hm.2.2.2.2.2.2.1
  refine r_aload_n hE 0 dX13_printDeeds_41 rfl rfl ?_
  refine r_aload_n hE 0 dX13_printDeeds_42 rfl rfl ?_
  refine mg_printScope hE hm dX13_printDeeds_43 ?_
  refine r_aload_n hE 0 dX13_printDeeds_46 rfl rfl ?_
  refine mg_one hE hm dX13_printDeeds_47 ?_
  refine r_iload_n hE 1 dX13_printDeeds_50 rfl rfl ?_
  obtain ⟨hi, h⟩ := h
  refine ml_one hE hm dX13_printDeeds_51 hi ?_
  refine m_callVv hE hm [.int (m_printScope σ), .int (m_one σ v1.toNatClampNeg)] [] mc_printName (km_printName hm.2.2.2.2.2.2.2.2 h) (by decide) rfl rfl (Nat.le_of_ble_eq_true rfl) dX13_printDeeds_52 (fun s1 h => ?_)
  refine r_aload_n hE 0 dX13_printDeeds_55 rfl rfl ?_
  refine r_bipush (v := (8 : Int32)) hE dX13_printDeeds_56 (by decide) ?_
  refine r_iconst (v := (0 : Int32)) hE dX13_printDeeds_58 (by decide) ?_
  refine r_iconst (v := (0 : Int32)) hE dX13_printDeeds_59 (by decide) ?_
  refine m_callVv hE hm [.int (8 : Int32), .int (0 : Int32), .int (0 : Int32)] [] mc_behind_ (km_behind_ hm.2.2.2.2.2.2.2.2 h) (by decide) rfl rfl (Nat.le_of_ble_eq_true rfl) dX13_printDeeds_60 (fun s2 h => ?_)
  refine r_aload_n hE 0 dX13_printDeeds_63 rfl rfl ?_
  refine r_iconst (v := (0 : Int32)) hE dX13_printDeeds_64 (by decide) ?_
  refine r_aload_n hE 0 dX13_printDeeds_65 rfl rfl ?_
  refine mg_three hE hm dX13_printDeeds_66 ?_
  refine r_iload_n hE 1 dX13_printDeeds_69 rfl rfl ?_
  obtain ⟨hi, h⟩ := h
  refine ml_three hE hm dX13_printDeeds_70 hi ?_
  refine r_iconst (v := (1 : Int32)) hE dX13_printDeeds_71 (by decide) ?_
  refine m_callVv hE hm [.int (0 : Int32), .int (m_three s2 v1.toNatClampNeg), .int (1 : Int32)] [] mc_behind_ (km_behind_ hm.2.2.2.2.2.2.2.2 h) (by decide) rfl rfl (Nat.le_of_ble_eq_true rfl) dX13_printDeeds_72 (fun s3 h => ?_)
  refine r_aload_n hE 0 dX13_printDeeds_75 rfl rfl ?_
  refine r_bipush (v := (9 : Int32)) hE dX13_printDeeds_76 (by decide) ?_
  refine r_iconst (v := (0 : Int32)) hE dX13_printDeeds_78 (by decide) ?_
  refine r_iconst (v := (0 : Int32)) hE dX13_printDeeds_79 (by decide) ?_
  refine m_callVv hE hm [.int (9 : Int32), .int (0 : Int32), .int (0 : Int32)] [] mc_behind_ (km_behind_ hm.2.2.2.2.2.2.2.2 h) (by decide) rfl rfl (Nat.le_of_ble_eq_true rfl) dX13_printDeeds_80 (fun s4 h => ?_)
  refine r_aload_n hE 0 dX13_printDeeds_83 rfl rfl ?_
  refine mg_kind hE hm dX13_printDeeds_84 ?_
  refine r_iload_n hE 1 dX13_printDeeds_87 rfl rfl ?_
  obtain ⟨hi, h⟩ := h
  refine ml_kind hE hm dX13_printDeeds_88 hi ?_
  refine r_iconst (v := (1 : Int32)) hE dX13_printDeeds_89 (by decide) ?_
  refine r_icmp_ne hE 119 dX13_printDeeds_90 (by decide) h (fun h => ?_) (fun h => ?_)
  · exact m_vret hE hm dX13_printDeeds_119 h
  · refine r_aload_n hE 0 dX13_printDeeds_93 rfl rfl ?_
    refine r_bipush (v := (91 : Int32)) hE dX13_printDeeds_94 (by decide) ?_
    refine m_callVv hE hm [.int (91 : Int32)] [] mc_put (km_put hm.2.2.2.2.2.2.2.2 h) (by decide) rfl rfl (Nat.le_of_ble_eq_true rfl) dX13_printDeeds_96 (fun s5 h => ?_)
    refine r_aload_n hE 0 dX13_printDeeds_99 rfl rfl ?_
    refine r_iconst (v := (4 : Int32)) hE dX13_printDeeds_100 (by decide) ?_
    refine r_bipush (v := (93 : Int32)) hE dX13_printDeeds_101 (by decide) ?_
    refine r_iconst (v := (0 : Int32)) hE dX13_printDeeds_103 (by decide) ?_
    refine m_callVv hE hm [.int (4 : Int32), .int (93 : Int32), .int (0 : Int32)] [] mc_behind_ (km_behind_ hm.2.2.2.2.2.2.2.2 h) (by decide) rfl rfl (Nat.le_of_ble_eq_true rfl) dX13_printDeeds_104 (fun s6 h => ?_)
    refine r_aload_n hE 0 dX13_printDeeds_107 rfl rfl ?_
    refine r_iconst (v := (0 : Int32)) hE dX13_printDeeds_108 (by decide) ?_
    refine r_aload_n hE 0 dX13_printDeeds_109 rfl rfl ?_
    refine mg_two hE hm dX13_printDeeds_110 ?_
    refine r_iload_n hE 1 dX13_printDeeds_113 rfl rfl ?_
    obtain ⟨hi, h⟩ := h
    refine ml_two hE hm dX13_printDeeds_114 hi ?_
    refine r_iconst (v := (1 : Int32)) hE dX13_printDeeds_115 (by decide) ?_
    refine m_callVv hE hm [.int (0 : Int32), .int (m_two s6 v1.toNatClampNeg), .int (1 : Int32)] [] mc_behind_ (km_behind_ hm.2.2.2.2.2.2.2.2 h) (by decide) rfl rfl (Nat.le_of_ble_eq_true rfl) dX13_printDeeds_116 (fun s7 h => ?_)
    exact m_vret hE hm dX13_printDeeds_119 h
def wm_printDeeds_214 (post : MS → Prop) (σ : MS) (v1 : Int32) : Prop := vp_in v1 600 ∧ (wm_behind_ (fun (s8 : MS) => post s8) σ (0 : Int32) (m_one σ v1.toNatClampNeg) (1 : Int32))
set_option maxRecDepth 20000 in
theorem km_printDeeds_214 {E : gEnv} {l : Launch} {D : va_G} {cl : List vw_C} {G : gAd} {post : MS → Prop} (hE : gOK E cX13_printDeeds RX13 none 3) (hm : mOK E l D cl G (qV post) 3) (σ : MS) (v1 : Int32) (h : wm_printDeeds_214 post σ v1) : GW E (mW G σ) 214 [(0, .ref (G.1 0)), (1, .int v1)] [] := by
  unfold wm_printDeeds_214 at h
  have hN := hm.2.2.2.2.2.2.1
  refine r_aload_n hE 0 dX13_printDeeds_214 rfl rfl ?_
  refine r_iconst (v := (0 : Int32)) hE dX13_printDeeds_215 (by decide) ?_
  refine r_aload_n hE 0 dX13_printDeeds_216 rfl rfl ?_
  refine mg_one hE hm dX13_printDeeds_217 ?_
  refine r_iload_n hE 1 dX13_printDeeds_220 rfl rfl ?_
  obtain ⟨hi, h⟩ := h
  refine ml_one hE hm dX13_printDeeds_221 hi ?_
  refine r_iconst (v := (1 : Int32)) hE dX13_printDeeds_222 (by decide) ?_
  refine m_callVv hE hm [.int (0 : Int32), .int (m_one σ v1.toNatClampNeg), .int (1 : Int32)] [] mc_behind_ (km_behind_ hm.2.2.2.2.2.2.2.2 h) (by decide) rfl rfl (Nat.le_of_ble_eq_true rfl) dX13_printDeeds_223 (fun s8 h => ?_)
  exact m_vret hE hm dX13_printDeeds_226 h
def wm_printDeeds_174 (post : MS → Prop) (σ : MS) (v1 : Int32) (v2 : Int32) : Prop := wm_behind_ (fun (s9 : MS) => vp_in v1 600 ∧ (wm_behind_ (fun (s10 : MS) => wm_behind_ (fun (s11 : MS) => wm_printDeeds_214 post s11 v1) s10 (7 : Int32) (0 : Int32) (0 : Int32)) s9 (1 : Int32) (m_two s9 v1.toNatClampNeg) (v2 + (1 : Int32)))) σ (2 : Int32) v1 v2
set_option maxRecDepth 20000 in
theorem km_printDeeds_174 {E : gEnv} {l : Launch} {D : va_G} {cl : List vw_C} {G : gAd} {post : MS → Prop} (hE : gOK E cX13_printDeeds RX13 none 3) (hm : mOK E l D cl G (qV post) 3) (σ : MS) (v1 : Int32) (v2 : Int32) (h : wm_printDeeds_174 post σ v1 v2) : GW E (mW G σ) 174 [(0, .ref (G.1 0)), (1, .int v1), (2, .int v2)] [] := by
  unfold wm_printDeeds_174 at h
  have hN := hm.2.2.2.2.2.2.1
  refine r_aload_n hE 0 dX13_printDeeds_174 rfl rfl ?_
  refine r_iconst (v := (2 : Int32)) hE dX13_printDeeds_175 (by decide) ?_
  refine r_iload_n hE 1 dX13_printDeeds_176 rfl rfl ?_
  refine r_iload_n hE 2 dX13_printDeeds_177 rfl rfl ?_
  refine m_callVv hE hm [.int (2 : Int32), .int v1, .int v2] [] mc_behind_ (km_behind_ hm.2.2.2.2.2.2.2.2 h) (by decide) rfl rfl (Nat.le_of_ble_eq_true rfl) dX13_printDeeds_178 (fun s9 h => ?_)
  refine r_aload_n hE 0 dX13_printDeeds_181 rfl rfl ?_
  refine r_iconst (v := (1 : Int32)) hE dX13_printDeeds_182 (by decide) ?_
  refine r_aload_n hE 0 dX13_printDeeds_183 rfl rfl ?_
  refine mg_two hE hm dX13_printDeeds_184 ?_
  refine r_iload_n hE 1 dX13_printDeeds_187 rfl rfl ?_
  obtain ⟨hi, h⟩ := h
  refine ml_two hE hm dX13_printDeeds_188 hi ?_
  refine r_iload_n hE 2 dX13_printDeeds_189 rfl rfl ?_
  refine r_iconst (v := (1 : Int32)) hE dX13_printDeeds_190 (by decide) ?_
  refine r_iadd hE dX13_printDeeds_191 ?_
  refine m_callVv hE hm [.int (1 : Int32), .int (m_two s9 v1.toNatClampNeg), .int (v2 + (1 : Int32))] [] mc_behind_ (km_behind_ hm.2.2.2.2.2.2.2.2 h) (by decide) rfl rfl (Nat.le_of_ble_eq_true rfl) dX13_printDeeds_192 (fun s10 h => ?_)
  refine r_aload_n hE 0 dX13_printDeeds_195 rfl rfl ?_
  refine r_bipush (v := (7 : Int32)) hE dX13_printDeeds_196 (by decide) ?_
  refine r_iconst (v := (0 : Int32)) hE dX13_printDeeds_198 (by decide) ?_
  refine r_iconst (v := (0 : Int32)) hE dX13_printDeeds_199 (by decide) ?_
  refine m_callVv hE hm [.int (7 : Int32), .int (0 : Int32), .int (0 : Int32)] [] mc_behind_ (km_behind_ hm.2.2.2.2.2.2.2.2 h) (by decide) rfl rfl (Nat.le_of_ble_eq_true rfl) dX13_printDeeds_200 (fun s11 h => ?_)
  refine r_goto hE 214 dX13_printDeeds_203 (by decide) ?_
  refine r_pick [0, 1] rfl ?_
  exact km_printDeeds_214 hE hm _ _ h
def wm_printDeeds_145 (post : MS → Prop) (σ : MS) (v1 : Int32) (v2 : Int32) (t2 : Int32) : Prop := wm_word_wordList (fun (s12 : MS) => wm_put (fun (s13 : MS) => vp_in v1 600 ∧ ((((m_kind s13 v1.toNatClampNeg) = (2 : Int32)) → (wm_printDeeds_174 post s13 v1 v2)) ∧ ((¬ ((m_kind s13 v1.toNatClampNeg) = (2 : Int32))) → (vp_in v1 600 ∧ (((¬ ((m_kind s13 v1.toNatClampNeg) = (3 : Int32))) → (wm_behind_ (fun (s14 : MS) => wm_printDeeds_214 post s14 v1) s13 (8 : Int32) (0 : Int32) (0 : Int32))) ∧ (((m_kind s13 v1.toNatClampNeg) = (3 : Int32)) → (wm_printDeeds_174 post s13 v1 v2))))))) s12 (32 : Int32)) σ t2
set_option maxRecDepth 20000 in
theorem km_printDeeds_145 {E : gEnv} {l : Launch} {D : va_G} {cl : List vw_C} {G : gAd} {post : MS → Prop} (hE : gOK E cX13_printDeeds RX13 none 3) (hm : mOK E l D cl G (qV post) 3) (σ : MS) (v1 : Int32) (v2 : Int32) (t2 : Int32) (h : wm_printDeeds_145 post σ v1 v2 t2) : GW E (mW G σ) 145 [(0, .ref (G.1 0)), (1, .int v1), (2, .int v2)] [.int t2, .ref (G.1 10), .ref (G.1 0)] := by
  unfold wm_printDeeds_145 at h
  have hN := hm.2.2.2.2.2.2.1
  refine m_callVv hE hm [.ref (G.1 10), .int t2] [] mc_word (km_word_wordList hm.2.2.2.2.2.2.2.2 h) (by decide) rfl rfl (Nat.le_of_ble_eq_true rfl) dX13_printDeeds_145 (fun s12 h => ?_)
  refine r_aload_n hE 0 dX13_printDeeds_148 rfl rfl ?_
  refine r_bipush (v := (32 : Int32)) hE dX13_printDeeds_149 (by decide) ?_
  refine m_callVv hE hm [.int (32 : Int32)] [] mc_put (km_put hm.2.2.2.2.2.2.2.2 h) (by decide) rfl rfl (Nat.le_of_ble_eq_true rfl) dX13_printDeeds_151 (fun s13 h => ?_)
  refine r_aload_n hE 0 dX13_printDeeds_154 rfl rfl ?_
  refine mg_kind hE hm dX13_printDeeds_155 ?_
  refine r_iload_n hE 1 dX13_printDeeds_158 rfl rfl ?_
  obtain ⟨hi, h⟩ := h
  refine ml_kind hE hm dX13_printDeeds_159 hi ?_
  refine r_iconst (v := (2 : Int32)) hE dX13_printDeeds_160 (by decide) ?_
  refine r_icmp_eq hE 174 dX13_printDeeds_161 (by decide) h (fun h => ?_) (fun h => ?_)
  · exact km_printDeeds_174 hE hm _ _ _ h
  · refine r_aload_n hE 0 dX13_printDeeds_164 rfl rfl ?_
    refine mg_kind hE hm dX13_printDeeds_165 ?_
    refine r_iload_n hE 1 dX13_printDeeds_168 rfl rfl ?_
    obtain ⟨hi, h⟩ := h
    refine ml_kind hE hm dX13_printDeeds_169 hi ?_
    refine r_iconst (v := (3 : Int32)) hE dX13_printDeeds_170 (by decide) ?_
    refine r_icmp_ne hE 206 dX13_printDeeds_171 (by decide) h (fun h => ?_) (fun h => ?_)
    · refine r_aload_n hE 0 dX13_printDeeds_206 rfl rfl ?_
      refine r_bipush (v := (8 : Int32)) hE dX13_printDeeds_207 (by decide) ?_
      refine r_iconst (v := (0 : Int32)) hE dX13_printDeeds_209 (by decide) ?_
      refine r_iconst (v := (0 : Int32)) hE dX13_printDeeds_210 (by decide) ?_
      refine m_callVv hE hm [.int (8 : Int32), .int (0 : Int32), .int (0 : Int32)] [] mc_behind_ (km_behind_ hm.2.2.2.2.2.2.2.2 h) (by decide) rfl rfl (Nat.le_of_ble_eq_true rfl) dX13_printDeeds_211 (fun s14 h => ?_)
      refine r_pick [0, 1] rfl ?_
      exact km_printDeeds_214 hE hm _ _ h
    · exact km_printDeeds_174 hE hm _ _ _ h
def wm_printDeeds (post : MS → Prop) (σ : MS) (a1 : Int32) (a2 : Int32) : Prop := (((0 : Int32) ≤ a1) → (vp_in a1 600 ∧ (wm_behind_ (fun (s15 : MS) => wm_indent (fun (s16 : MS) => vp_in a1 600 ∧ ((((m_kind s16 a1.toNatClampNeg) = (0 : Int32)) → (wm_printDeeds_41 post s16 a1)) ∧ ((¬ ((m_kind s16 a1.toNatClampNeg) = (0 : Int32))) → (vp_in a1 600 ∧ (((¬ ((m_kind s16 a1.toNatClampNeg) = (1 : Int32))) → (vp_in a1 600 ∧ (((¬ ((m_kind s16 a1.toNatClampNeg) = (2 : Int32))) → (vp_in a1 600 ∧ (wm_printDeeds_145 post s16 a1 a2 (m_kind s16 a1.toNatClampNeg)))) ∧ (((m_kind s16 a1.toNatClampNeg) = (2 : Int32)) → (wm_printDeeds_145 post s16 a1 a2 (1 : Int32)))))) ∧ (((m_kind s16 a1.toNatClampNeg) = (1 : Int32)) → (wm_printDeeds_41 post s16 a1))))))) s15 a2) σ (1 : Int32) (m_sister σ a1.toNatClampNeg) a2))) ∧ ((¬ ((0 : Int32) ≤ a1)) → (post σ))
set_option maxRecDepth 20000 in
theorem km_printDeeds {l : Launch} {D : va_G} {cl : List vw_C} {G : gAd} {post : MS → Prop} (hcl : mC cl) {σ : MS} {a1 : Int32} {a2 : Int32} (h : wm_printDeeds post σ a1 a2) : mMet l D cl G yX13_printDeeds cX13_printDeeds 3 none 3 [.ref (G.1 0), .int a1, .int a2] σ (qV post) := by
  unfold wm_printDeeds at h
  refine m_enter hcl (by decide +kernel) rfl [(0, .ref (G.1 0)), (1, .int a1), (2, .int a2)] rfl (Nat.le_of_ble_eq_true rfl) ?_
  intro E hE hm
  have hN := hm.2.2.2.2.2.2.1
  refine r_iload_n hE 1 dX13_printDeeds_0 rfl rfl ?_
  refine r_if_ge hE 5 dX13_printDeeds_1 (by decide) h (fun h => ?_) (fun h => ?_)
  · refine r_aload_n hE 0 dX13_printDeeds_5 rfl rfl ?_
    refine r_iconst (v := (1 : Int32)) hE dX13_printDeeds_6 (by decide) ?_
    refine r_aload_n hE 0 dX13_printDeeds_7 rfl rfl ?_
    refine mg_sister hE hm dX13_printDeeds_8 ?_
    refine r_iload_n hE 1 dX13_printDeeds_11 rfl rfl ?_
    obtain ⟨hi, h⟩ := h
    refine ml_sister hE hm dX13_printDeeds_12 hi ?_
    refine r_iload_n hE 2 dX13_printDeeds_13 rfl rfl ?_
    refine m_callVv hE hm [.int (1 : Int32), .int (m_sister σ a1.toNatClampNeg), .int a2] [] mc_behind_ (km_behind_ hm.2.2.2.2.2.2.2.2 h) (by decide) rfl rfl (Nat.le_of_ble_eq_true rfl) dX13_printDeeds_14 (fun s15 h => ?_)
    refine r_aload_n hE 0 dX13_printDeeds_17 rfl rfl ?_
    refine r_iload_n hE 2 dX13_printDeeds_18 rfl rfl ?_
    refine m_callVv hE hm [.int a2] [] mc_indent (km_indent hm.2.2.2.2.2.2.2.2 h) (by decide) rfl rfl (Nat.le_of_ble_eq_true rfl) dX13_printDeeds_19 (fun s16 h => ?_)
    refine r_aload_n hE 0 dX13_printDeeds_22 rfl rfl ?_
    refine mg_kind hE hm dX13_printDeeds_23 ?_
    refine r_iload_n hE 1 dX13_printDeeds_26 rfl rfl ?_
    obtain ⟨hi, h⟩ := h
    refine ml_kind hE hm dX13_printDeeds_27 hi ?_
    refine r_if_eq hE 41 dX13_printDeeds_28 (by decide) h (fun h => ?_) (fun h => ?_)
    · refine r_pick [0, 1] rfl ?_
      exact km_printDeeds_41 hE hm _ _ h
    · refine r_aload_n hE 0 dX13_printDeeds_31 rfl rfl ?_
      refine mg_kind hE hm dX13_printDeeds_32 ?_
      refine r_iload_n hE 1 dX13_printDeeds_35 rfl rfl ?_
      obtain ⟨hi, h⟩ := h
      refine ml_kind hE hm dX13_printDeeds_36 hi ?_
      refine r_iconst (v := (1 : Int32)) hE dX13_printDeeds_37 (by decide) ?_
      refine r_icmp_ne hE 120 dX13_printDeeds_38 (by decide) h (fun h => ?_) (fun h => ?_)
      · refine r_aload_n hE 0 dX13_printDeeds_120 rfl rfl ?_
        refine r_aload_n hE 0 dX13_printDeeds_121 rfl rfl ?_
        refine mg_wordList hE hm dX13_printDeeds_122 ?_
        refine r_aload_n hE 0 dX13_printDeeds_125 rfl rfl ?_
        refine mg_kind hE hm dX13_printDeeds_126 ?_
        refine r_iload_n hE 1 dX13_printDeeds_129 rfl rfl ?_
        obtain ⟨hi, h⟩ := h
        refine ml_kind hE hm dX13_printDeeds_130 hi ?_
        refine r_iconst (v := (2 : Int32)) hE dX13_printDeeds_131 (by decide) ?_
        refine r_icmp_ne hE 139 dX13_printDeeds_132 (by decide) h (fun h => ?_) (fun h => ?_)
        · refine r_aload_n hE 0 dX13_printDeeds_139 rfl rfl ?_
          refine mg_kind hE hm dX13_printDeeds_140 ?_
          refine r_iload_n hE 1 dX13_printDeeds_143 rfl rfl ?_
          obtain ⟨hi, h⟩ := h
          refine ml_kind hE hm dX13_printDeeds_144 hi ?_
          exact km_printDeeds_145 hE hm _ _ _ _ h
        · refine r_iconst (v := (1 : Int32)) hE dX13_printDeeds_135 (by decide) ?_
          refine r_goto hE 145 dX13_printDeeds_136 (by decide) ?_
          exact km_printDeeds_145 hE hm _ _ _ _ h
      · refine r_pick [0, 1] rfl ?_
        exact km_printDeeds_41 hE hm _ _ h
  · exact m_vret hE hm dX13_printDeeds_4 h
/-! printBehind -/
def wm_printBehind_79 (post : MS → Prop) (σ : MS) : Prop := wm_put (fun (s1 : MS) => post s1) σ (10 : Int32)
set_option maxRecDepth 20000 in
theorem km_printBehind_79 {E : gEnv} {l : Launch} {D : va_G} {cl : List vw_C} {G : gAd} {post : MS → Prop} (hE : gOK E cX13_printBehind RX13 none 3) (hm : mOK E l D cl G (qV post) 3) (σ : MS) (h : wm_printBehind_79 post σ) : GW E (mW G σ) 79 [(0, .ref (G.1 0))] [] := by
  unfold wm_printBehind_79 at h
  have hN := hm.2.2.2.2.2.2.1
  refine r_aload_n hE 0 dX13_printBehind_79 rfl rfl ?_
  refine r_bipush (v := (10 : Int32)) hE dX13_printBehind_80 (by decide) ?_
  refine m_callVv hE hm [.int (10 : Int32)] [] mc_put (km_put hm.2.2.2.2.2.2.2.2 h) (by decide) rfl rfl (Nat.le_of_ble_eq_true rfl) dX13_printBehind_82 (fun s1 h => ?_)
  exact m_vret hE hm dX13_printBehind_85 h
def wm_printBehind (post : MS → Prop) (σ : MS) (a1 : Int32) (a2 : Int32) : Prop := wm_indent (fun (s2 : MS) => wm_put (fun (s3 : MS) => vp_in a1 600 ∧ (((¬ ((m_kind s3 a1.toNatClampNeg) = (2 : Int32))) → (wm_printBehind_79 post s3)) ∧ (((m_kind s3 a1.toNatClampNeg) = (2 : Int32)) → (vp_in a1 600 ∧ (((¬ ((lg_cmp (m_value s3 a1.toNatClampNeg) (1 : Int64)) = (0 : Int32))) → (wm_printBehind_79 post s3)) ∧ (((lg_cmp (m_value s3 a1.toNatClampNeg) (1 : Int64)) = (0 : Int32)) → (wm_put (fun (s4 : MS) => wm_word_wordList (fun (s5 : MS) => wm_behind_ (fun (s6 : MS) => vp_in a1 600 ∧ (wm_behind_ (fun (s7 : MS) => wm_behind_ (fun (s8 : MS) => post s8) s7 (7 : Int32) (1 : Int32) (0 : Int32)) s6 (1 : Int32) (m_three s6 a1.toNatClampNeg) (a2 + (1 : Int32)))) s5 (3 : Int32) a1 a2) s4 (2 : Int32)) s3 (32 : Int32)))))))) s2 (125 : Int32)) σ a2
set_option maxRecDepth 20000 in
theorem km_printBehind {l : Launch} {D : va_G} {cl : List vw_C} {G : gAd} {post : MS → Prop} (hcl : mC cl) {σ : MS} {a1 : Int32} {a2 : Int32} (h : wm_printBehind post σ a1 a2) : mMet l D cl G yX13_printBehind cX13_printBehind 3 none 3 [.ref (G.1 0), .int a1, .int a2] σ (qV post) := by
  unfold wm_printBehind at h
  refine m_enter hcl (by decide +kernel) rfl [(0, .ref (G.1 0)), (1, .int a1), (2, .int a2)] rfl (Nat.le_of_ble_eq_true rfl) ?_
  intro E hE hm
  have hN := hm.2.2.2.2.2.2.1
  refine r_aload_n hE 0 dX13_printBehind_0 rfl rfl ?_
  refine r_iload_n hE 2 dX13_printBehind_1 rfl rfl ?_
  refine m_callVv hE hm [.int a2] [] mc_indent (km_indent hm.2.2.2.2.2.2.2.2 h) (by decide) rfl rfl (Nat.le_of_ble_eq_true rfl) dX13_printBehind_2 (fun s2 h => ?_)
  refine r_aload_n hE 0 dX13_printBehind_5 rfl rfl ?_
  refine r_bipush (v := (125 : Int32)) hE dX13_printBehind_6 (by decide) ?_
  refine m_callVv hE hm [.int (125 : Int32)] [] mc_put (km_put hm.2.2.2.2.2.2.2.2 h) (by decide) rfl rfl (Nat.le_of_ble_eq_true rfl) dX13_printBehind_8 (fun s3 h => ?_)
  refine r_aload_n hE 0 dX13_printBehind_11 rfl rfl ?_
  refine mg_kind hE hm dX13_printBehind_12 ?_
  refine r_iload_n hE 1 dX13_printBehind_15 rfl rfl ?_
  obtain ⟨hi, h⟩ := h
  refine ml_kind hE hm dX13_printBehind_16 hi ?_
  refine r_iconst (v := (2 : Int32)) hE dX13_printBehind_17 (by decide) ?_
  refine r_icmp_ne hE 79 dX13_printBehind_18 (by decide) h (fun h => ?_) (fun h => ?_)
  · refine r_pick [0] rfl ?_
    exact km_printBehind_79 hE hm _ h
  · refine r_aload_n hE 0 dX13_printBehind_21 rfl rfl ?_
    refine mg_value hE hm dX13_printBehind_22 ?_
    refine r_iload_n hE 1 dX13_printBehind_25 rfl rfl ?_
    obtain ⟨hi, h⟩ := h
    refine ml_value hE hm dX13_printBehind_26 hi ?_
    refine r_lconst (v := (1 : Int64)) hE dX13_printBehind_27 (by decide) ?_
    refine r_lcmp hE dX13_printBehind_28 ?_
    refine r_if_ne hE 79 dX13_printBehind_29 (by decide) h (fun h => ?_) (fun h => ?_)
    · refine r_pick [0] rfl ?_
      exact km_printBehind_79 hE hm _ h
    · refine r_aload_n hE 0 dX13_printBehind_32 rfl rfl ?_
      refine r_bipush (v := (32 : Int32)) hE dX13_printBehind_33 (by decide) ?_
      refine m_callVv hE hm [.int (32 : Int32)] [] mc_put (km_put hm.2.2.2.2.2.2.2.2 h) (by decide) rfl rfl (Nat.le_of_ble_eq_true rfl) dX13_printBehind_35 (fun s4 h => ?_)
      refine r_aload_n hE 0 dX13_printBehind_38 rfl rfl ?_
      refine r_aload_n hE 0 dX13_printBehind_39 rfl rfl ?_
      refine mg_wordList hE hm dX13_printBehind_40 ?_
      refine r_iconst (v := (2 : Int32)) hE dX13_printBehind_43 (by decide) ?_
      refine m_callVv hE hm [.ref (G.1 10), .int (2 : Int32)] [] mc_word (km_word_wordList hm.2.2.2.2.2.2.2.2 h) (by decide) rfl rfl (Nat.le_of_ble_eq_true rfl) dX13_printBehind_44 (fun s5 h => ?_)
      refine r_aload_n hE 0 dX13_printBehind_47 rfl rfl ?_
      refine r_iconst (v := (3 : Int32)) hE dX13_printBehind_48 (by decide) ?_
      refine r_iload_n hE 1 dX13_printBehind_49 rfl rfl ?_
      refine r_iload_n hE 2 dX13_printBehind_50 rfl rfl ?_
      refine m_callVv hE hm [.int (3 : Int32), .int a1, .int a2] [] mc_behind_ (km_behind_ hm.2.2.2.2.2.2.2.2 h) (by decide) rfl rfl (Nat.le_of_ble_eq_true rfl) dX13_printBehind_51 (fun s6 h => ?_)
      refine r_aload_n hE 0 dX13_printBehind_54 rfl rfl ?_
      refine r_iconst (v := (1 : Int32)) hE dX13_printBehind_55 (by decide) ?_
      refine r_aload_n hE 0 dX13_printBehind_56 rfl rfl ?_
      refine mg_three hE hm dX13_printBehind_57 ?_
      refine r_iload_n hE 1 dX13_printBehind_60 rfl rfl ?_
      obtain ⟨hi, h⟩ := h
      refine ml_three hE hm dX13_printBehind_61 hi ?_
      refine r_iload_n hE 2 dX13_printBehind_62 rfl rfl ?_
      refine r_iconst (v := (1 : Int32)) hE dX13_printBehind_63 (by decide) ?_
      refine r_iadd hE dX13_printBehind_64 ?_
      refine m_callVv hE hm [.int (1 : Int32), .int (m_three s6 a1.toNatClampNeg), .int (a2 + (1 : Int32))] [] mc_behind_ (km_behind_ hm.2.2.2.2.2.2.2.2 h) (by decide) rfl rfl (Nat.le_of_ble_eq_true rfl) dX13_printBehind_65 (fun s7 h => ?_)
      refine r_aload_n hE 0 dX13_printBehind_68 rfl rfl ?_
      refine r_bipush (v := (7 : Int32)) hE dX13_printBehind_69 (by decide) ?_
      refine r_iconst (v := (1 : Int32)) hE dX13_printBehind_71 (by decide) ?_
      refine r_iconst (v := (0 : Int32)) hE dX13_printBehind_72 (by decide) ?_
      refine m_callVv hE hm [.int (7 : Int32), .int (1 : Int32), .int (0 : Int32)] [] mc_behind_ (km_behind_ hm.2.2.2.2.2.2.2.2 h) (by decide) rfl rfl (Nat.le_of_ble_eq_true rfl) dX13_printBehind_73 (fun s8 h => ?_)
      refine r_goto hE 85 dX13_printBehind_76 (by decide) ?_
      exact m_vret hE hm dX13_printBehind_85 h
/-! printAll -/
def wm_printAll_274 (post : MS → Prop) (lp17 : MS → Prop) (σ : MS) : Prop := lp17 σ
set_option maxRecDepth 20000 in
theorem km_printAll_274 {E : gEnv} {l : Launch} {D : va_G} {cl : List vw_C} {G : gAd} {post : MS → Prop} (hE : gOK E cX13_printAll RX13 none 5) (hm : mOK E l D cl G (qV post) 6) {lp17 : MS → Prop} (hl17 : ∀ (σ : MS), lp17 σ → GW E (mW G σ) 17 [(0, .ref (G.1 0))] []) (σ : MS) (h : wm_printAll_274 post lp17 σ) : GW E (mW G σ) 274 [(0, .ref (G.1 0))] [] := by
  unfold wm_printAll_274 at h
  have hN := hm.2.2.2.2.2.2.1
  refine r_goto hE 17 dX13_printAll_274 (by decide) ?_
  exact hl17 _ h
def wm_printAll_17 (post : MS → Prop) : Nat → MS → Prop
  | 0, _ => False
  | n + 1, σ => (((m_prints σ) ≤ (0 : Int32)) → (post σ)) ∧ ((¬ ((m_prints σ) ≤ (0 : Int32))) → (∀ s1 : MS, s1 = m_prints_s σ ((m_prints σ) - (1 : Int32)) → vp_in (m_prints s1) 3000 ∧ (∀ x2 : Int32, x2 = m_printOf s1 (m_prints s1).toNatClampNeg → vp_in (m_prints s1) 3000 ∧ (∀ x3 : Int32, x3 = m_printWith s1 (m_prints s1).toNatClampNeg → vp_in (m_prints s1) 3000 ∧ (((m_print s1 (m_prints s1).toNatClampNeg) = (0 : Int32) → (wm_printExp (fun (s4 : MS) => wm_printAll_274 post (fun (ys : MS) => wm_printAll_17 post n ys) s4) s1 x2 x3)) ∧ (¬ (m_print s1 (m_prints s1).toNatClampNeg) = (0 : Int32) → (((m_print s1 (m_prints s1).toNatClampNeg) = (1 : Int32) → (wm_printDeeds (fun (s5 : MS) => wm_printAll_274 post (fun (ys : MS) => wm_printAll_17 post n ys) s5) s1 x2 x3)) ∧ (¬ (m_print s1 (m_prints s1).toNatClampNeg) = (1 : Int32) → (((m_print s1 (m_prints s1).toNatClampNeg) = (2 : Int32) → (wm_printBehind (fun (s6 : MS) => wm_printAll_274 post (fun (ys : MS) => wm_printAll_17 post n ys) s6) s1 x2 x3)) ∧ (¬ (m_print s1 (m_prints s1).toNatClampNeg) = (2 : Int32) → (((m_print s1 (m_prints s1).toNatClampNeg) = (3 : Int32) → (wm_indent (fun (s7 : MS) => wm_put (fun (s8 : MS) => wm_put (fun (s9 : MS) => wm_printAll_274 post (fun (ys : MS) => wm_printAll_17 post n ys) s9) s8 (10 : Int32)) s7 (125 : Int32)) s1 x3)) ∧ (¬ (m_print s1 (m_prints s1).toNatClampNeg) = (3 : Int32) → (((m_print s1 (m_prints s1).toNatClampNeg) = (4 : Int32) → (wm_put (fun (s10 : MS) => wm_printAll_274 post (fun (ys : MS) => wm_printAll_17 post n ys) s10) s1 x2)) ∧ (¬ (m_print s1 (m_prints s1).toNatClampNeg) = (4 : Int32) → (((m_print s1 (m_prints s1).toNatClampNeg) = (5 : Int32) → (wm_put (fun (s11 : MS) => vp_in x2 600 ∧ (wm_put (fun (s12 : MS) => wm_put (fun (s13 : MS) => wm_printAll_274 post (fun (ys : MS) => wm_printAll_17 post n ys) s13) s12 (32 : Int32)) s11 (m_one s11 x2.toNatClampNeg))) s1 (32 : Int32))) ∧ (¬ (m_print s1 (m_prints s1).toNatClampNeg) = (5 : Int32) → (((m_print s1 (m_prints s1).toNatClampNeg) = (6 : Int32) → (wm_put (fun (s14 : MS) => wm_put (fun (s15 : MS) => wm_printAll_274 post (fun (ys : MS) => wm_printAll_17 post n ys) s15) s14 (32 : Int32)) s1 (44 : Int32))) ∧ (¬ (m_print s1 (m_prints s1).toNatClampNeg) = (6 : Int32) → (((m_print s1 (m_prints s1).toNatClampNeg) = (7 : Int32) → (wm_put (fun (s16 : MS) => wm_put (fun (s17 : MS) => wm_put (fun (s18 : MS) => wm_printAll_274 post (fun (ys : MS) => wm_printAll_17 post n ys) s18) s17 (10 : Int32)) s16 (123 : Int32)) s1 (32 : Int32))) ∧ (¬ (m_print s1 (m_prints s1).toNatClampNeg) = (7 : Int32) → (((m_print s1 (m_prints s1).toNatClampNeg) = (8 : Int32) → (wm_put (fun (s19 : MS) => wm_put (fun (s20 : MS) => wm_printAll_274 post (fun (ys : MS) => wm_printAll_17 post n ys) s20) s19 (10 : Int32)) s1 (59 : Int32))) ∧ (¬ (m_print s1 (m_prints s1).toNatClampNeg) = (8 : Int32) → (wm_put (fun (s21 : MS) => wm_put (fun (s22 : MS) => wm_put (fun (s23 : MS) => wm_printAll_274 post (fun (ys : MS) => wm_printAll_17 post n ys) s23) s22 (32 : Int32)) s21 (61 : Int32)) s1 (32 : Int32))))))))))))))))))))))))
set_option maxRecDepth 20000 in
theorem km_printAll_17 {E : gEnv} {l : Launch} {D : va_G} {cl : List vw_C} {G : gAd} {post : MS → Prop} (hE : gOK E cX13_printAll RX13 none 5) (hm : mOK E l D cl G (qV post) 6) : ∀ (n : Nat) (σ : MS), wm_printAll_17 post n σ → GW E (mW G σ) 17 [(0, .ref (G.1 0))] [] := by
  intro n
  induction n with
  | zero => intro σ h; exact h.elim
  | succ n ih =>
    intro σ h
    rw [wm_printAll_17] at h
    have hN := hm.2.2.2.2.2.2.1
    refine r_aload_n hE 0 dX13_printAll_17 rfl rfl ?_
    refine mg_prints hE hm dX13_printAll_18 ?_
    refine r_if_le hE 277 dX13_printAll_21 (by decide) h (fun h => ?_) (fun h => ?_)
    · exact m_vret hE hm dX13_printAll_277 h
    · refine r_aload_n hE 0 dX13_printAll_24 rfl rfl ?_
      refine r_dup hE dX13_printAll_25 rfl ?_
      refine mg_prints hE hm dX13_printAll_26 ?_
      refine r_iconst (v := (1 : Int32)) hE dX13_printAll_29 (by decide) ?_
      refine r_isub hE dX13_printAll_30 ?_
      refine mp_prints hE hm dX13_printAll_31 h (fun s1 h => ?_)
      refine r_aload_n hE 0 dX13_printAll_34 rfl rfl ?_
      refine mg_printOf hE hm dX13_printAll_35 ?_
      refine r_aload_n hE 0 dX13_printAll_38 rfl rfl ?_
      refine mg_prints hE hm dX13_printAll_39 ?_
      obtain ⟨hi, h⟩ := h
      refine ml_printOf hE hm dX13_printAll_42 hi ?_
      refine r_topi h (fun x2 ex2 h => ?_)
      refine r_istore hE [(4, .int x2), (0, .ref (G.1 0))] dX13_printAll_43 hN (by decide) rfl ?_
      refine r_aload_n hE 1 dX13_printAll_45 rfl rfl ?_
      refine mg_printWith hE hm dX13_printAll_46 ?_
      refine r_aload_n hE 1 dX13_printAll_49 rfl rfl ?_
      refine mg_prints hE hm dX13_printAll_50 ?_
      obtain ⟨hi, h⟩ := h
      refine ml_printWith hE hm dX13_printAll_53 hi ?_
      refine r_topi h (fun x3 ex3 h => ?_)
      refine r_istore hE [(5, .int x3), (4, .int x2), (0, .ref (G.1 0))] dX13_printAll_54 hN (by decide) rfl ?_
      refine r_aload_n hE 2 dX13_printAll_56 rfl rfl ?_
      refine mg_print hE hm dX13_printAll_57 ?_
      refine r_aload_n hE 2 dX13_printAll_60 rfl rfl ?_
      refine mg_prints hE hm dX13_printAll_61 ?_
      obtain ⟨hi, h⟩ := h
      refine ml_print hE hm dX13_printAll_64 hi ?_
      refine r_case (0 : Int32) h (fun q0 h => ?_) (fun q0 h => ?_)
      · refine r_tableAt (off := 51) hE (0 : Int32) 116 dX13_printAll_65 q0 (by decide) (by decide) (by decide) (by decide) ?_
        refine r_aload_n hE 2 dX13_printAll_116 rfl rfl ?_
        refine r_iload hE 1 dX13_printAll_117 rfl ?_
        refine r_iload hE 0 dX13_printAll_119 rfl ?_
        refine m_callVv hE hm [.int x2, .int x3] [] mc_printExp (km_printExp hm.2.2.2.2.2.2.2.2 h) (by decide) rfl rfl (Nat.le_of_ble_eq_true rfl) dX13_printAll_121 (fun s4 h => ?_)
        refine r_goto hE 274 dX13_printAll_124 (by decide) ?_
        refine r_pick [2] rfl ?_
        exact km_printAll_274 hE hm ih _ h
      · refine r_case (1 : Int32) h (fun q1 h => ?_) (fun q1 h => ?_)
        · refine r_tableAt (off := 62) hE (1 : Int32) 127 dX13_printAll_65 q1 (by decide) (by decide) (by decide) (by decide) ?_
          refine r_aload_n hE 2 dX13_printAll_127 rfl rfl ?_
          refine r_iload hE 1 dX13_printAll_128 rfl ?_
          refine r_iload hE 0 dX13_printAll_130 rfl ?_
          refine m_callVv hE hm [.int x2, .int x3] [] mc_printDeeds (km_printDeeds hm.2.2.2.2.2.2.2.2 h) (by decide) rfl rfl (Nat.le_of_ble_eq_true rfl) dX13_printAll_132 (fun s5 h => ?_)
          refine r_goto hE 274 dX13_printAll_135 (by decide) ?_
          refine r_pick [2] rfl ?_
          exact km_printAll_274 hE hm ih _ h
        · refine r_case (2 : Int32) h (fun q2 h => ?_) (fun q2 h => ?_)
          · refine r_tableAt (off := 73) hE (2 : Int32) 138 dX13_printAll_65 q2 (by decide) (by decide) (by decide) (by decide) ?_
            refine r_aload_n hE 2 dX13_printAll_138 rfl rfl ?_
            refine r_iload hE 1 dX13_printAll_139 rfl ?_
            refine r_iload hE 0 dX13_printAll_141 rfl ?_
            refine m_callVv hE hm [.int x2, .int x3] [] mc_printBehind (km_printBehind hm.2.2.2.2.2.2.2.2 h) (by decide) rfl rfl (Nat.le_of_ble_eq_true rfl) dX13_printAll_143 (fun s6 h => ?_)
            refine r_goto hE 274 dX13_printAll_146 (by decide) ?_
            refine r_pick [2] rfl ?_
            exact km_printAll_274 hE hm ih _ h
          · refine r_case (3 : Int32) h (fun q3 h => ?_) (fun q3 h => ?_)
            · refine r_tableAt (off := 84) hE (3 : Int32) 149 dX13_printAll_65 q3 (by decide) (by decide) (by decide) (by decide) ?_
              refine r_aload_n hE 2 dX13_printAll_149 rfl rfl ?_
              refine r_iload hE 0 dX13_printAll_150 rfl ?_
              refine m_callVv hE hm [.int x3] [] mc_indent (km_indent hm.2.2.2.2.2.2.2.2 h) (by decide) rfl rfl (Nat.le_of_ble_eq_true rfl) dX13_printAll_152 (fun s7 h => ?_)
              refine r_aload_n hE 2 dX13_printAll_155 rfl rfl ?_
              refine r_bipush (v := (125 : Int32)) hE dX13_printAll_156 (by decide) ?_
              refine m_callVv hE hm [.int (125 : Int32)] [] mc_put (km_put hm.2.2.2.2.2.2.2.2 h) (by decide) rfl rfl (Nat.le_of_ble_eq_true rfl) dX13_printAll_158 (fun s8 h => ?_)
              refine r_aload_n hE 2 dX13_printAll_161 rfl rfl ?_
              refine r_bipush (v := (10 : Int32)) hE dX13_printAll_162 (by decide) ?_
              refine m_callVv hE hm [.int (10 : Int32)] [] mc_put (km_put hm.2.2.2.2.2.2.2.2 h) (by decide) rfl rfl (Nat.le_of_ble_eq_true rfl) dX13_printAll_164 (fun s9 h => ?_)
              refine r_goto hE 274 dX13_printAll_167 (by decide) ?_
              refine r_pick [2] rfl ?_
              exact km_printAll_274 hE hm ih _ h
            · refine r_case (4 : Int32) h (fun q4 h => ?_) (fun q4 h => ?_)
              · refine r_tableAt (off := 105) hE (4 : Int32) 170 dX13_printAll_65 q4 (by decide) (by decide) (by decide) (by decide) ?_
                refine r_aload_n hE 2 dX13_printAll_170 rfl rfl ?_
                refine r_iload hE 1 dX13_printAll_171 rfl ?_
                refine m_callVv hE hm [.int x2] [] mc_put (km_put hm.2.2.2.2.2.2.2.2 h) (by decide) rfl rfl (Nat.le_of_ble_eq_true rfl) dX13_printAll_173 (fun s10 h => ?_)
                refine r_goto hE 274 dX13_printAll_176 (by decide) ?_
                refine r_pick [2] rfl ?_
                exact km_printAll_274 hE hm ih _ h
              · refine r_case (5 : Int32) h (fun q5 h => ?_) (fun q5 h => ?_)
                · refine r_tableAt (off := 114) hE (5 : Int32) 179 dX13_printAll_65 q5 (by decide) (by decide) (by decide) (by decide) ?_
                  refine r_aload_n hE 2 dX13_printAll_179 rfl rfl ?_
                  refine r_bipush (v := (32 : Int32)) hE dX13_printAll_180 (by decide) ?_
                  refine m_callVv hE hm [.int (32 : Int32)] [] mc_put (km_put hm.2.2.2.2.2.2.2.2 h) (by decide) rfl rfl (Nat.le_of_ble_eq_true rfl) dX13_printAll_182 (fun s11 h => ?_)
                  refine r_aload_n hE 2 dX13_printAll_185 rfl rfl ?_
                  refine r_aload_n hE 2 dX13_printAll_186 rfl rfl ?_
                  refine mg_one hE hm dX13_printAll_187 ?_
                  refine r_iload hE 1 dX13_printAll_190 rfl ?_
                  obtain ⟨hi, h⟩ := h
                  refine ml_one hE hm dX13_printAll_192 hi ?_
                  refine m_callVv hE hm [.int (m_one s11 x2.toNatClampNeg)] [] mc_put (km_put hm.2.2.2.2.2.2.2.2 h) (by decide) rfl rfl (Nat.le_of_ble_eq_true rfl) dX13_printAll_193 (fun s12 h => ?_)
                  refine r_aload_n hE 2 dX13_printAll_196 rfl rfl ?_
                  refine r_bipush (v := (32 : Int32)) hE dX13_printAll_197 (by decide) ?_
                  refine m_callVv hE hm [.int (32 : Int32)] [] mc_put (km_put hm.2.2.2.2.2.2.2.2 h) (by decide) rfl rfl (Nat.le_of_ble_eq_true rfl) dX13_printAll_199 (fun s13 h => ?_)
                  refine r_goto hE 274 dX13_printAll_202 (by decide) ?_
                  refine r_pick [2] rfl ?_
                  exact km_printAll_274 hE hm ih _ h
                · refine r_case (6 : Int32) h (fun q6 h => ?_) (fun q6 h => ?_)
                  · refine r_tableAt (off := 140) hE (6 : Int32) 205 dX13_printAll_65 q6 (by decide) (by decide) (by decide) (by decide) ?_
                    refine r_aload_n hE 2 dX13_printAll_205 rfl rfl ?_
                    refine r_bipush (v := (44 : Int32)) hE dX13_printAll_206 (by decide) ?_
                    refine m_callVv hE hm [.int (44 : Int32)] [] mc_put (km_put hm.2.2.2.2.2.2.2.2 h) (by decide) rfl rfl (Nat.le_of_ble_eq_true rfl) dX13_printAll_208 (fun s14 h => ?_)
                    refine r_aload_n hE 2 dX13_printAll_211 rfl rfl ?_
                    refine r_bipush (v := (32 : Int32)) hE dX13_printAll_212 (by decide) ?_
                    refine m_callVv hE hm [.int (32 : Int32)] [] mc_put (km_put hm.2.2.2.2.2.2.2.2 h) (by decide) rfl rfl (Nat.le_of_ble_eq_true rfl) dX13_printAll_214 (fun s15 h => ?_)
                    refine r_goto hE 274 dX13_printAll_217 (by decide) ?_
                    refine r_pick [2] rfl ?_
                    exact km_printAll_274 hE hm ih _ h
                  · refine r_case (7 : Int32) h (fun q7 h => ?_) (fun q7 h => ?_)
                    · refine r_tableAt (off := 155) hE (7 : Int32) 220 dX13_printAll_65 q7 (by decide) (by decide) (by decide) (by decide) ?_
                      refine r_aload_n hE 2 dX13_printAll_220 rfl rfl ?_
                      refine r_bipush (v := (32 : Int32)) hE dX13_printAll_221 (by decide) ?_
                      refine m_callVv hE hm [.int (32 : Int32)] [] mc_put (km_put hm.2.2.2.2.2.2.2.2 h) (by decide) rfl rfl (Nat.le_of_ble_eq_true rfl) dX13_printAll_223 (fun s16 h => ?_)
                      refine r_aload_n hE 2 dX13_printAll_226 rfl rfl ?_
                      refine r_bipush (v := (123 : Int32)) hE dX13_printAll_227 (by decide) ?_
                      refine m_callVv hE hm [.int (123 : Int32)] [] mc_put (km_put hm.2.2.2.2.2.2.2.2 h) (by decide) rfl rfl (Nat.le_of_ble_eq_true rfl) dX13_printAll_229 (fun s17 h => ?_)
                      refine r_aload_n hE 2 dX13_printAll_232 rfl rfl ?_
                      refine r_bipush (v := (10 : Int32)) hE dX13_printAll_233 (by decide) ?_
                      refine m_callVv hE hm [.int (10 : Int32)] [] mc_put (km_put hm.2.2.2.2.2.2.2.2 h) (by decide) rfl rfl (Nat.le_of_ble_eq_true rfl) dX13_printAll_235 (fun s18 h => ?_)
                      refine r_goto hE 274 dX13_printAll_238 (by decide) ?_
                      refine r_pick [2] rfl ?_
                      exact km_printAll_274 hE hm ih _ h
                    · refine r_case (8 : Int32) h (fun q8 h => ?_) (fun q8 h => ?_)
                      · refine r_tableAt (off := 176) hE (8 : Int32) 241 dX13_printAll_65 q8 (by decide) (by decide) (by decide) (by decide) ?_
                        refine r_aload_n hE 2 dX13_printAll_241 rfl rfl ?_
                        refine r_bipush (v := (59 : Int32)) hE dX13_printAll_242 (by decide) ?_
                        refine m_callVv hE hm [.int (59 : Int32)] [] mc_put (km_put hm.2.2.2.2.2.2.2.2 h) (by decide) rfl rfl (Nat.le_of_ble_eq_true rfl) dX13_printAll_244 (fun s19 h => ?_)
                        refine r_aload_n hE 2 dX13_printAll_247 rfl rfl ?_
                        refine r_bipush (v := (10 : Int32)) hE dX13_printAll_248 (by decide) ?_
                        refine m_callVv hE hm [.int (10 : Int32)] [] mc_put (km_put hm.2.2.2.2.2.2.2.2 h) (by decide) rfl rfl (Nat.le_of_ble_eq_true rfl) dX13_printAll_250 (fun s20 h => ?_)
                        refine r_goto hE 274 dX13_printAll_253 (by decide) ?_
                        refine r_pick [2] rfl ?_
                        exact km_printAll_274 hE hm ih _ h
                      · have n0 := lv_neT q0 (show (0 : Int32).toInt = 0 by decide)
                        have n1 := lv_neT q1 (show (1 : Int32).toInt = 1 by decide)
                        have n2 := lv_neT q2 (show (2 : Int32).toInt = 2 by decide)
                        have n3 := lv_neT q3 (show (3 : Int32).toInt = 3 by decide)
                        have n4 := lv_neT q4 (show (4 : Int32).toInt = 4 by decide)
                        have n5 := lv_neT q5 (show (5 : Int32).toInt = 5 by decide)
                        have n6 := lv_neT q6 (show (6 : Int32).toInt = 6 by decide)
                        have n7 := lv_neT q7 (show (7 : Int32).toInt = 7 by decide)
                        have n8 := lv_neT q8 (show (8 : Int32).toInt = 8 by decide)
                        refine r_tableOut hE 256 dX13_printAll_65 (by omega) (by decide) ?_
                        refine r_aload_n hE 2 dX13_printAll_256 rfl rfl ?_
                        refine r_bipush (v := (32 : Int32)) hE dX13_printAll_257 (by decide) ?_
                        refine m_callVv hE hm [.int (32 : Int32)] [] mc_put (km_put hm.2.2.2.2.2.2.2.2 h) (by decide) rfl rfl (Nat.le_of_ble_eq_true rfl) dX13_printAll_259 (fun s21 h => ?_)
                        refine r_aload_n hE 2 dX13_printAll_262 rfl rfl ?_
                        refine r_bipush (v := (61 : Int32)) hE dX13_printAll_263 (by decide) ?_
                        refine m_callVv hE hm [.int (61 : Int32)] [] mc_put (km_put hm.2.2.2.2.2.2.2.2 h) (by decide) rfl rfl (Nat.le_of_ble_eq_true rfl) dX13_printAll_265 (fun s22 h => ?_)
                        refine r_aload_n hE 2 dX13_printAll_268 rfl rfl ?_
                        refine r_bipush (v := (32 : Int32)) hE dX13_printAll_269 (by decide) ?_
                        refine m_callVv hE hm [.int (32 : Int32)] [] mc_put (km_put hm.2.2.2.2.2.2.2.2 h) (by decide) rfl rfl (Nat.le_of_ble_eq_true rfl) dX13_printAll_271 (fun s23 h => ?_)
                        refine r_pick [2] rfl ?_
                        exact km_printAll_274 hE hm ih _ h
def wm_printAll (post : MS → Prop) (σ : MS) (a1 : Int32) (a2 : Int32) (a3 : Int32) : Prop := ∀ s24 : MS, s24 = m_printScope_s σ a2 → ∀ s25 : MS, s25 = m_prints_s s24 (0 : Int32) → wm_behind_ (fun (s26 : MS) => ∃ k : Nat, wm_printAll_17 post k s26) s25 (1 : Int32) a1 a3
set_option maxRecDepth 20000 in
theorem km_printAll {l : Launch} {D : va_G} {cl : List vw_C} {G : gAd} {post : MS → Prop} (hcl : mC cl) {σ : MS} {a1 : Int32} {a2 : Int32} {a3 : Int32} (h : wm_printAll post σ a1 a2 a3) : mMet l D cl G yX13_printAll cX13_printAll 6 none 5 [.ref (G.1 0), .int a1, .int a2, .int a3] σ (qV post) := by
  unfold wm_printAll at h
  refine m_enter hcl (by decide +kernel) rfl [(0, .ref (G.1 0)), (1, .int a1), (2, .int a2), (3, .int a3)] rfl (Nat.le_of_ble_eq_true rfl) ?_
  intro E hE hm
  have hN := hm.2.2.2.2.2.2.1
  refine r_aload_n hE 0 dX13_printAll_0 rfl rfl ?_
  refine r_iload_n hE 2 dX13_printAll_1 rfl rfl ?_
  refine mp_printScope hE hm dX13_printAll_2 h (fun s24 h => ?_)
  refine r_aload_n hE 0 dX13_printAll_5 rfl rfl ?_
  refine r_iconst (v := (0 : Int32)) hE dX13_printAll_6 (by decide) ?_
  refine mp_prints hE hm dX13_printAll_7 h (fun s25 h => ?_)
  refine r_aload_n hE 0 dX13_printAll_10 rfl rfl ?_
  refine r_iconst (v := (1 : Int32)) hE dX13_printAll_11 (by decide) ?_
  refine r_iload_n hE 1 dX13_printAll_12 rfl rfl ?_
  refine r_iload_n hE 3 dX13_printAll_13 rfl rfl ?_
  refine m_callVv hE hm [.int (1 : Int32), .int a1, .int a3] [] mc_behind_ (km_behind_ hm.2.2.2.2.2.2.2.2 h) (by decide) rfl rfl (Nat.le_of_ble_eq_true rfl) dX13_printAll_14 (fun s26 h => ?_)
  refine r_pick [0] rfl ?_
  obtain ⟨k, h⟩ := h
  exact km_printAll_17 hE hm k _ h
/-! print -/
def wm_print_84 (post : MS → Int32 → Prop) (lp22 : MS → Int32 → Prop) (lp58 : MS → Int32 → Int32 → Prop) (σ : MS) (v1 : Int32) (v2 : Int32) : Prop := wm_printName (fun (s1 : MS) => ∀ x2 : Int32, x2 = v2 + (1 : Int32) → lp58 s1 v1 x2) σ v1 v2
set_option maxRecDepth 20000 in
theorem km_print_84 {E : gEnv} {l : Launch} {D : va_G} {cl : List vw_C} {G : gAd} {post : MS → Int32 → Prop} (hE : gOK E cX13_print RX13 (some .int) 6) (hm : mOK E l D cl G (qI post) 3) {lp22 : MS → Int32 → Prop} {lp58 : MS → Int32 → Int32 → Prop} (hl22 : ∀ (σ : MS) (v1 : Int32), lp22 σ v1 → GW E (mW G σ) 22 [(0, .ref (G.1 0)), (1, .int v1)] []) (hl58 : ∀ (σ : MS) (v1 : Int32) (v2 : Int32), lp58 σ v1 v2 → GW E (mW G σ) 58 [(0, .ref (G.1 0)), (1, .int v1), (2, .int v2)] []) (σ : MS) (v1 : Int32) (v2 : Int32) (h : wm_print_84 post lp22 lp58 σ v1 v2) : GW E (mW G σ) 84 [(0, .ref (G.1 0)), (1, .int v1), (2, .int v2)] [] := by
  unfold wm_print_84 at h
  have hN := hm.2.2.2.2.2.2.1
  refine r_aload_n hE 0 dX13_print_84 rfl rfl ?_
  refine r_iload_n hE 1 dX13_print_85 rfl rfl ?_
  refine r_iload_n hE 2 dX13_print_86 rfl rfl ?_
  refine m_callVv hE hm [.int v1, .int v2] [] mc_printName (km_printName hm.2.2.2.2.2.2.2.2 h) (by decide) rfl rfl (Nat.le_of_ble_eq_true rfl) dX13_print_87 (fun s1 h => ?_)
  obtain ⟨x2, ex2⟩ : ∃ z : Int32, z = v2 + (1 : Int32) := ⟨_, rfl⟩
  have h := h x2 ex2
  refine r_iinc (v := x2) hE [(2, .int x2), (0, .ref (G.1 0)), (1, .int v1)] 2 dX13_print_90 rfl (by rw [ex2]; rfl) hN (by decide) rfl ?_
  refine r_goto hE 58 dX13_print_93 (by decide) ?_
  refine r_pick [1, 2, 0] rfl ?_
  exact hl58 _ _ _ h
def wm_print_58 (post : MS → Int32 → Prop) (lp22 : MS → Int32 → Prop) : Nat → MS → Int32 → Int32 → Prop
  | 0, _, _, _ => False
  | n + 1, σ, v1, v2 => vp_in v1 26 ∧ ((((m_paramMany σ v1.toNatClampNeg) ≤ v2) → (wm_put (fun (s3 : MS) => wm_put (fun (s4 : MS) => wm_put (fun (s5 : MS) => wm_put (fun (s6 : MS) => vp_in v1 26 ∧ (wm_printAll (fun (s7 : MS) => wm_put (fun (s8 : MS) => wm_put (fun (s9 : MS) => ∀ x10 : Int32, x10 = v1 + (1 : Int32) → lp22 s9 x10) s8 (10 : Int32)) s7 (125 : Int32)) s6 (m_bodyOf s6 v1.toNatClampNeg) v1 (1 : Int32))) s5 (10 : Int32)) s4 (123 : Int32)) s3 (32 : Int32)) σ (41 : Int32))) ∧ ((¬ ((m_paramMany σ v1.toNatClampNeg) ≤ v2)) → (((v2 ≤ (0 : Int32)) → (wm_print_84 post lp22 (fun (ys : MS) (y0 : Int32) (y1 : Int32) => wm_print_58 post lp22 n ys y0 y1) σ v1 v2)) ∧ ((¬ (v2 ≤ (0 : Int32))) → (wm_put (fun (s11 : MS) => wm_put (fun (s12 : MS) => wm_print_84 post lp22 (fun (ys : MS) (y0 : Int32) (y1 : Int32) => wm_print_58 post lp22 n ys y0 y1) s12 v1 v2) s11 (32 : Int32)) σ (44 : Int32))))))
set_option maxRecDepth 20000 in
theorem km_print_58 {E : gEnv} {l : Launch} {D : va_G} {cl : List vw_C} {G : gAd} {post : MS → Int32 → Prop} (hE : gOK E cX13_print RX13 (some .int) 6) (hm : mOK E l D cl G (qI post) 3) {lp22 : MS → Int32 → Prop} (hl22 : ∀ (σ : MS) (v1 : Int32), lp22 σ v1 → GW E (mW G σ) 22 [(0, .ref (G.1 0)), (1, .int v1)] []) : ∀ (n : Nat) (σ : MS) (v1 : Int32) (v2 : Int32), wm_print_58 post lp22 n σ v1 v2 → GW E (mW G σ) 58 [(0, .ref (G.1 0)), (1, .int v1), (2, .int v2)] [] := by
  intro n
  induction n with
  | zero => intro σ v1 v2 h; exact h.elim
  | succ n ih =>
    intro σ v1 v2 h
    rw [wm_print_58] at h
    have hN := hm.2.2.2.2.2.2.1
    refine r_iload_n hE 2 dX13_print_58 rfl rfl ?_
    refine r_aload_n hE 0 dX13_print_59 rfl rfl ?_
    refine mg_paramMany hE hm dX13_print_60 ?_
    refine r_iload_n hE 1 dX13_print_63 rfl rfl ?_
    obtain ⟨hi, h⟩ := h
    refine ml_paramMany hE hm dX13_print_64 hi ?_
    refine r_icmp_ge hE 96 dX13_print_65 (by decide) h (fun h => ?_) (fun h => ?_)
    · refine r_aload_n hE 0 dX13_print_96 rfl rfl ?_
      refine r_bipush (v := (41 : Int32)) hE dX13_print_97 (by decide) ?_
      refine m_callVv hE hm [.int (41 : Int32)] [] mc_put (km_put hm.2.2.2.2.2.2.2.2 h) (by decide) rfl rfl (Nat.le_of_ble_eq_true rfl) dX13_print_99 (fun s3 h => ?_)
      refine r_aload_n hE 0 dX13_print_102 rfl rfl ?_
      refine r_bipush (v := (32 : Int32)) hE dX13_print_103 (by decide) ?_
      refine m_callVv hE hm [.int (32 : Int32)] [] mc_put (km_put hm.2.2.2.2.2.2.2.2 h) (by decide) rfl rfl (Nat.le_of_ble_eq_true rfl) dX13_print_105 (fun s4 h => ?_)
      refine r_aload_n hE 0 dX13_print_108 rfl rfl ?_
      refine r_bipush (v := (123 : Int32)) hE dX13_print_109 (by decide) ?_
      refine m_callVv hE hm [.int (123 : Int32)] [] mc_put (km_put hm.2.2.2.2.2.2.2.2 h) (by decide) rfl rfl (Nat.le_of_ble_eq_true rfl) dX13_print_111 (fun s5 h => ?_)
      refine r_aload_n hE 0 dX13_print_114 rfl rfl ?_
      refine r_bipush (v := (10 : Int32)) hE dX13_print_115 (by decide) ?_
      refine m_callVv hE hm [.int (10 : Int32)] [] mc_put (km_put hm.2.2.2.2.2.2.2.2 h) (by decide) rfl rfl (Nat.le_of_ble_eq_true rfl) dX13_print_117 (fun s6 h => ?_)
      refine r_aload_n hE 0 dX13_print_120 rfl rfl ?_
      refine r_aload_n hE 0 dX13_print_121 rfl rfl ?_
      refine mg_bodyOf hE hm dX13_print_122 ?_
      refine r_iload_n hE 1 dX13_print_125 rfl rfl ?_
      obtain ⟨hi, h⟩ := h
      refine ml_bodyOf hE hm dX13_print_126 hi ?_
      refine r_iload_n hE 1 dX13_print_127 rfl rfl ?_
      refine r_iconst (v := (1 : Int32)) hE dX13_print_128 (by decide) ?_
      refine m_callVv hE hm [.int (m_bodyOf s6 v1.toNatClampNeg), .int v1, .int (1 : Int32)] [] mc_printAll (km_printAll hm.2.2.2.2.2.2.2.2 h) (by decide) rfl rfl (Nat.le_of_ble_eq_true rfl) dX13_print_129 (fun s7 h => ?_)
      refine r_aload_n hE 0 dX13_print_132 rfl rfl ?_
      refine r_bipush (v := (125 : Int32)) hE dX13_print_133 (by decide) ?_
      refine m_callVv hE hm [.int (125 : Int32)] [] mc_put (km_put hm.2.2.2.2.2.2.2.2 h) (by decide) rfl rfl (Nat.le_of_ble_eq_true rfl) dX13_print_135 (fun s8 h => ?_)
      refine r_aload_n hE 0 dX13_print_138 rfl rfl ?_
      refine r_bipush (v := (10 : Int32)) hE dX13_print_139 (by decide) ?_
      refine m_callVv hE hm [.int (10 : Int32)] [] mc_put (km_put hm.2.2.2.2.2.2.2.2 h) (by decide) rfl rfl (Nat.le_of_ble_eq_true rfl) dX13_print_141 (fun s9 h => ?_)
      obtain ⟨x10, ex10⟩ : ∃ z : Int32, z = v1 + (1 : Int32) := ⟨_, rfl⟩
      have h := h x10 ex10
      refine r_iinc (v := x10) hE [(1, .int x10), (0, .ref (G.1 0)), (2, .int v2)] 1 dX13_print_144 rfl (by rw [ex10]; rfl) hN (by decide) rfl ?_
      refine r_goto hE 22 dX13_print_147 (by decide) ?_
      refine r_pick [1, 0] rfl ?_
      exact hl22 _ _ h
    · refine r_iload_n hE 2 dX13_print_68 rfl rfl ?_
      refine r_if_le hE 84 dX13_print_69 (by decide) h (fun h => ?_) (fun h => ?_)
      · exact km_print_84 hE hm hl22 ih _ _ _ h
      · refine r_aload_n hE 0 dX13_print_72 rfl rfl ?_
        refine r_bipush (v := (44 : Int32)) hE dX13_print_73 (by decide) ?_
        refine m_callVv hE hm [.int (44 : Int32)] [] mc_put (km_put hm.2.2.2.2.2.2.2.2 h) (by decide) rfl rfl (Nat.le_of_ble_eq_true rfl) dX13_print_75 (fun s11 h => ?_)
        refine r_aload_n hE 0 dX13_print_78 rfl rfl ?_
        refine r_bipush (v := (32 : Int32)) hE dX13_print_79 (by decide) ?_
        refine m_callVv hE hm [.int (32 : Int32)] [] mc_put (km_put hm.2.2.2.2.2.2.2.2 h) (by decide) rfl rfl (Nat.le_of_ble_eq_true rfl) dX13_print_81 (fun s12 h => ?_)
        exact km_print_84 hE hm hl22 ih _ _ _ h
def wm_print_22 (post : MS → Int32 → Prop) : Nat → MS → Int32 → Prop
  | 0, _, _ => False
  | n + 1, σ, v1 => (((m_macros σ) ≤ v1) → (wm_printAll (fun (s13 : MS) => post s13 (m_outMany s13)) σ (m_firstDeed σ) (12 : Int32) (0 : Int32))) ∧ ((¬ ((m_macros σ) ≤ v1)) → (wm_word_wordList (fun (s14 : MS) => wm_put (fun (s15 : MS) => wm_printMacro (fun (s16 : MS) => wm_put (fun (s17 : MS) => ∃ k : Nat, wm_print_58 post (fun (ys : MS) (y0 : Int32) => wm_print_22 post n ys y0) k s17 v1 (0 : Int32)) s16 (40 : Int32)) s15 v1) s14 (32 : Int32)) σ (0 : Int32)))
set_option maxRecDepth 20000 in
theorem km_print_22 {E : gEnv} {l : Launch} {D : va_G} {cl : List vw_C} {G : gAd} {post : MS → Int32 → Prop} (hE : gOK E cX13_print RX13 (some .int) 6) (hm : mOK E l D cl G (qI post) 3) : ∀ (n : Nat) (σ : MS) (v1 : Int32), wm_print_22 post n σ v1 → GW E (mW G σ) 22 [(0, .ref (G.1 0)), (1, .int v1)] [] := by
  intro n
  induction n with
  | zero => intro σ v1 h; exact h.elim
  | succ n ih =>
    intro σ v1 h
    rw [wm_print_22] at h
    have hN := hm.2.2.2.2.2.2.1
    refine r_iload_n hE 1 dX13_print_22 rfl rfl ?_
    refine r_aload_n hE 0 dX13_print_23 rfl rfl ?_
    refine mg_macros hE hm dX13_print_24 ?_
    refine r_icmp_ge hE 150 dX13_print_27 (by decide) h (fun h => ?_) (fun h => ?_)
    · refine r_aload_n hE 0 dX13_print_150 rfl rfl ?_
      refine r_aload_n hE 0 dX13_print_151 rfl rfl ?_
      refine mg_firstDeed hE hm dX13_print_152 ?_
      refine r_bipush (v := (12 : Int32)) hE dX13_print_155 (by decide) ?_
      refine r_iconst (v := (0 : Int32)) hE dX13_print_157 (by decide) ?_
      refine m_callVv hE hm [.int (m_firstDeed σ), .int (12 : Int32), .int (0 : Int32)] [] mc_printAll (km_printAll hm.2.2.2.2.2.2.2.2 h) (by decide) rfl rfl (Nat.le_of_ble_eq_true rfl) dX13_print_158 (fun s13 h => ?_)
      refine r_aload_n hE 0 dX13_print_161 rfl rfl ?_
      refine mg_outMany hE hm dX13_print_162 ?_
      exact m_iret hE hm dX13_print_165 h
    · refine r_aload_n hE 0 dX13_print_30 rfl rfl ?_
      refine r_aload_n hE 0 dX13_print_31 rfl rfl ?_
      refine mg_wordList hE hm dX13_print_32 ?_
      refine r_iconst (v := (0 : Int32)) hE dX13_print_35 (by decide) ?_
      refine m_callVv hE hm [.ref (G.1 10), .int (0 : Int32)] [] mc_word (km_word_wordList hm.2.2.2.2.2.2.2.2 h) (by decide) rfl rfl (Nat.le_of_ble_eq_true rfl) dX13_print_36 (fun s14 h => ?_)
      refine r_aload_n hE 0 dX13_print_39 rfl rfl ?_
      refine r_bipush (v := (32 : Int32)) hE dX13_print_40 (by decide) ?_
      refine m_callVv hE hm [.int (32 : Int32)] [] mc_put (km_put hm.2.2.2.2.2.2.2.2 h) (by decide) rfl rfl (Nat.le_of_ble_eq_true rfl) dX13_print_42 (fun s15 h => ?_)
      refine r_aload_n hE 0 dX13_print_45 rfl rfl ?_
      refine r_iload_n hE 1 dX13_print_46 rfl rfl ?_
      refine m_callVv hE hm [.int v1] [] mc_printMacro (km_printMacro hm.2.2.2.2.2.2.2.2 h) (by decide) rfl rfl (Nat.le_of_ble_eq_true rfl) dX13_print_47 (fun s16 h => ?_)
      refine r_aload_n hE 0 dX13_print_50 rfl rfl ?_
      refine r_bipush (v := (40 : Int32)) hE dX13_print_51 (by decide) ?_
      refine m_callVv hE hm [.int (40 : Int32)] [] mc_put (km_put hm.2.2.2.2.2.2.2.2 h) (by decide) rfl rfl (Nat.le_of_ble_eq_true rfl) dX13_print_53 (fun s17 h => ?_)
      refine r_iconst (v := (0 : Int32)) hE dX13_print_56 (by decide) ?_
      refine r_istore_n hE [(2, .int (0 : Int32)), (0, .ref (G.1 0)), (1, .int v1)] dX13_print_57 rfl hN (by decide) rfl ?_
      refine r_pick [1, 2, 0] rfl ?_
      obtain ⟨k, h⟩ := h
      exact km_print_58 hE hm ih k _ _ _ h
def wm_print (post : MS → Int32 → Prop) (σ : MS) : Prop := ∀ s18 : MS, s18 = m_code_s σ (0 : Int32) → ((¬ ((m_hasFigure s18) = (0 : Int32))) → (∀ s19 : MS, s19 = m_outMany_s s18 (0 : Int32) → ∃ k : Nat, wm_print_22 post k s19 (0 : Int32))) ∧ (((m_hasFigure s18) = (0 : Int32)) → (post s18 (-2000000003 : Int32)))
set_option maxRecDepth 20000 in
theorem km_print {l : Launch} {D : va_G} {cl : List vw_C} {G : gAd} {post : MS → Int32 → Prop} (hcl : mC cl) {σ : MS} (h : wm_print post σ) : mMet l D cl G yX13_print cX13_print 3 (some .int) 6 [.ref (G.1 0)] σ (qI post) := by
  unfold wm_print at h
  refine m_enter hcl (by decide +kernel) rfl [(0, .ref (G.1 0))] rfl (Nat.le_of_ble_eq_true rfl) ?_
  intro E hE hm
  have hN := hm.2.2.2.2.2.2.1
  refine r_aload_n hE 0 dX13_print_0 rfl rfl ?_
  refine r_iconst (v := (0 : Int32)) hE dX13_print_1 (by decide) ?_
  refine mp_code hE hm dX13_print_2 h (fun s18 h => ?_)
  refine r_aload_n hE 0 dX13_print_5 rfl rfl ?_
  refine mg_hasFigure hE hm dX13_print_6 ?_
  refine r_if_ne hE 15 dX13_print_9 (by decide) h (fun h => ?_) (fun h => ?_)
  · refine r_aload_n hE 0 dX13_print_15 rfl rfl ?_
    refine r_iconst (v := (0 : Int32)) hE dX13_print_16 (by decide) ?_
    refine mp_outMany hE hm dX13_print_17 h (fun s19 h => ?_)
    refine r_iconst (v := (0 : Int32)) hE dX13_print_20 (by decide) ?_
    refine r_istore_n hE [(1, .int (0 : Int32)), (0, .ref (G.1 0))] dX13_print_21 rfl hN (by decide) rfl ?_
    refine r_pick [1, 0] rfl ?_
    obtain ⟨k, h⟩ := h
    exact km_print_22 hE hm k _ _ h
  · refine r_ldc (v := (-2000000003 : Int32)) hE dX13_print_12 (gTb_9 (List.mem_of_getElem? (i := 19) rfl) rfl) ?_
    exact m_iret hE hm dX13_print_14 h
