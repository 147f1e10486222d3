/-! applyTwo -/
def wm_applyTwo_177 (post : MS → Prop) (σ : MS) (v5 : Int32) (t2 : Int64) : Prop := wm_number (fun (s1 : MS) (r2 : Int32) => wm_comes (fun (s3 : MS) => post s3) s1 r2) σ t2 (1 : Int64) v5
set_option maxRecDepth 20000 in
theorem km_applyTwo_177 {E : gEnv} {l : Launch} {D : va_G} {cl : List vw_C} {G : gAd} {post : MS → Prop} (hE : gOK E cX13_applyTwo RX13 none 4) (hm : mOK E l D cl G (qV post) 7) (σ : MS) (v5 : Int32) (t2 : Int64) (h : wm_applyTwo_177 post σ v5 t2) : GW E (mW G σ) 177 [(5, .int v5)] [.long t2, .ref (G.1 0), .ref (G.1 0)] := by
  unfold wm_applyTwo_177 at h
  have hN := hm.2.2.2.2.2.2.1
  refine r_lconst (v := (1 : Int64)) hE dX13_applyTwo_177 (by decide) ?_
  refine r_iload hE 0 dX13_applyTwo_178 rfl ?_
  refine m_callVi hE hm [.long t2, .long (1 : Int64), .int v5] [.ref (G.1 0)] mc_number (km_number hm.2.2.2.2.2.2.2.2 h) (by decide) rfl rfl (Nat.le_of_ble_eq_true rfl) dX13_applyTwo_180 (fun s1 r2 h => ?_)
  refine m_callVv hE hm [.int r2] [] mc_comes (km_comes hm.2.2.2.2.2.2.2.2 h) (by decide) rfl rfl (Nat.le_of_ble_eq_true rfl) dX13_applyTwo_183 (fun s3 h => ?_)
  exact m_vret hE hm dX13_applyTwo_186 h
def wm_applyTwo_176 (post : MS → Prop) (σ : MS) (v5 : Int32) : Prop := wm_applyTwo_177 post σ v5 (0 : Int64)
set_option maxRecDepth 20000 in
theorem km_applyTwo_176 {E : gEnv} {l : Launch} {D : va_G} {cl : List vw_C} {G : gAd} {post : MS → Prop} (hE : gOK E cX13_applyTwo RX13 none 4) (hm : mOK E l D cl G (qV post) 7) (σ : MS) (v5 : Int32) (h : wm_applyTwo_176 post σ v5) : GW E (mW G σ) 176 [(5, .int v5)] [.ref (G.1 0), .ref (G.1 0)] := by
  unfold wm_applyTwo_176 at h
  have hN := hm.2.2.2.2.2.2.1
  refine r_lconst (v := (0 : Int64)) hE dX13_applyTwo_176 (by decide) ?_
  exact km_applyTwo_177 hE hm _ _ _ h
def wm_applyTwo_172 (post : MS → Prop) (σ : MS) (v5 : Int32) : Prop := wm_applyTwo_177 post σ v5 (1 : Int64)
set_option maxRecDepth 20000 in
theorem km_applyTwo_172 {E : gEnv} {l : Launch} {D : va_G} {cl : List vw_C} {G : gAd} {post : MS → Prop} (hE : gOK E cX13_applyTwo RX13 none 4) (hm : mOK E l D cl G (qV post) 7) (σ : MS) (v5 : Int32) (h : wm_applyTwo_172 post σ v5) : GW E (mW G σ) 172 [(5, .int v5)] [.ref (G.1 0), .ref (G.1 0)] := by
  unfold wm_applyTwo_172 at h
  have hN := hm.2.2.2.2.2.2.1
  refine r_lconst (v := (1 : Int64)) hE dX13_applyTwo_172 (by decide) ?_
  refine r_goto hE 177 dX13_applyTwo_173 (by decide) ?_
  exact km_applyTwo_177 hE hm _ _ _ h
def wm_applyTwo_105 (post : MS → Prop) (σ : MS) (v1 : Int32) (v2 : Int32) (v3 : Int32) (v5 : Int32) : Prop := vp_in ((7 : Int32) * v3) 3360 ∧ (vp_in ((7 : Int32) * v3) 3360 ∧ (vp_in ((7 : Int32) * v2) 3360 ∧ (vp_in ((7 : Int32) * v2) 3360 ∧ (wm_compare (fun (s4 : MS) (r5 : Int32) => vp_in v1 600 ∧ (((¬ ((m_one s4 v1.toNatClampNeg) = (61 : Int32))) → ((((0 : Int32) ≤ r5) → (wm_applyTwo_176 post s4 v5)) ∧ ((¬ ((0 : Int32) ≤ r5)) → (wm_applyTwo_172 post s4 v5)))) ∧ (((m_one s4 v1.toNatClampNeg) = (61 : Int32)) → (((¬ (r5 = (0 : Int32))) → (wm_applyTwo_176 post s4 v5)) ∧ ((r5 = (0 : Int32)) → (wm_applyTwo_172 post s4 v5)))))) σ (m_up σ ((7 : Int32) * v3).toNatClampNeg) (m_low σ ((7 : Int32) * v3).toNatClampNeg) (m_up σ ((7 : Int32) * v2).toNatClampNeg) (m_low σ ((7 : Int32) * v2).toNatClampNeg)))))
set_option maxRecDepth 20000 in
theorem km_applyTwo_105 {E : gEnv} {l : Launch} {D : va_G} {cl : List vw_C} {G : gAd} {post : MS → Prop} (hE : gOK E cX13_applyTwo RX13 none 4) (hm : mOK E l D cl G (qV post) 7) (σ : MS) (v1 : Int32) (v2 : Int32) (v3 : Int32) (v5 : Int32) (h : wm_applyTwo_105 post σ v1 v2 v3 v5) : GW E (mW G σ) 105 [(0, .ref (G.1 0)), (1, .int v1), (2, .int v2), (3, .int v3), (5, .int v5)] [] := by
  unfold wm_applyTwo_105 at h
  have hN := hm.2.2.2.2.2.2.1
  refine r_aload_n hE 0 dX13_applyTwo_105 rfl rfl ?_
  refine mg_up hE hm dX13_applyTwo_106 ?_
  refine r_bipush (v := (7 : Int32)) hE dX13_applyTwo_109 (by decide) ?_
  refine r_iload_n hE 3 dX13_applyTwo_111 rfl rfl ?_
  refine r_imul hE dX13_applyTwo_112 ?_
  obtain ⟨hi, h⟩ := h
  refine ml_up hE hm dX13_applyTwo_113 hi ?_
  refine r_aload_n hE 0 dX13_applyTwo_114 rfl rfl ?_
  refine mg_low hE hm dX13_applyTwo_115 ?_
  refine r_bipush (v := (7 : Int32)) hE dX13_applyTwo_118 (by decide) ?_
  refine r_iload_n hE 3 dX13_applyTwo_120 rfl rfl ?_
  refine r_imul hE dX13_applyTwo_121 ?_
  obtain ⟨hi, h⟩ := h
  refine ml_low hE hm dX13_applyTwo_122 hi ?_
  refine r_aload_n hE 0 dX13_applyTwo_123 rfl rfl ?_
  refine mg_up hE hm dX13_applyTwo_124 ?_
  refine r_bipush (v := (7 : Int32)) hE dX13_applyTwo_127 (by decide) ?_
  refine r_iload_n hE 2 dX13_applyTwo_129 rfl rfl ?_
  refine r_imul hE dX13_applyTwo_130 ?_
  obtain ⟨hi, h⟩ := h
  refine ml_up hE hm dX13_applyTwo_131 hi ?_
  refine r_aload_n hE 0 dX13_applyTwo_132 rfl rfl ?_
  refine mg_low hE hm dX13_applyTwo_133 ?_
  refine r_bipush (v := (7 : Int32)) hE dX13_applyTwo_136 (by decide) ?_
  refine r_iload_n hE 2 dX13_applyTwo_138 rfl rfl ?_
  refine r_imul hE dX13_applyTwo_139 ?_
  obtain ⟨hi, h⟩ := h
  refine ml_low hE hm dX13_applyTwo_140 hi ?_
  refine m_callSi hE hm [.long (m_up σ ((7 : Int32) * v3).toNatClampNeg), .long (m_low σ ((7 : Int32) * v3).toNatClampNeg), .long (m_up σ ((7 : Int32) * v2).toNatClampNeg), .long (m_low σ ((7 : Int32) * v2).toNatClampNeg)] [] mc_compare (km_compare hm.2.2.2.2.2.2.2.2 h) (by decide) rfl rfl (Nat.le_of_ble_eq_true rfl) dX13_applyTwo_141 (fun s4 r5 h => ?_)
  refine r_istore hE [(6, .int r5), (0, .ref (G.1 0)), (1, .int v1), (2, .int v2), (3, .int v3), (5, .int v5)] dX13_applyTwo_144 hN (by decide) rfl ?_
  refine r_aload_n hE 1 dX13_applyTwo_146 rfl rfl ?_
  refine r_aload_n hE 1 dX13_applyTwo_147 rfl rfl ?_
  refine r_aload_n hE 1 dX13_applyTwo_148 rfl rfl ?_
  refine mg_one hE hm dX13_applyTwo_149 ?_
  refine r_iload_n hE 2 dX13_applyTwo_152 rfl rfl ?_
  obtain ⟨hi, h⟩ := h
  refine ml_one hE hm dX13_applyTwo_153 hi ?_
  refine r_bipush (v := (61 : Int32)) hE dX13_applyTwo_154 (by decide) ?_
  refine r_icmp_ne hE 167 dX13_applyTwo_156 (by decide) h (fun h => ?_) (fun h => ?_)
  · refine r_iload hE 0 dX13_applyTwo_167 rfl ?_
    refine r_if_ge hE 176 dX13_applyTwo_169 (by decide) h (fun h => ?_) (fun h => ?_)
    · refine r_pick [5] rfl ?_
      exact km_applyTwo_176 hE hm _ _ h
    · refine r_pick [5] rfl ?_
      exact km_applyTwo_172 hE hm _ _ h
  · refine r_iload hE 0 dX13_applyTwo_159 rfl ?_
    refine r_if_ne hE 176 dX13_applyTwo_161 (by decide) h (fun h => ?_) (fun h => ?_)
    · refine r_pick [5] rfl ?_
      exact km_applyTwo_176 hE hm _ _ h
    · refine r_goto hE 172 dX13_applyTwo_164 (by decide) ?_
      refine r_pick [5] rfl ?_
      exact km_applyTwo_172 hE hm _ _ h
def wm_applyTwo_257 (post : MS → Prop) (σ : MS) (v1 : Int32) (v5 : Int32) : Prop := ∀ s6 : MS, s6 = m_piled_s σ ((m_piled σ) - (1 : Int32)) → (((m_failure s6) ≤ (0 : Int32)) → (vp_in (m_piled s6) 40 ∧ (vp_in (m_piled s6) 40 ∧ (wm_number (fun (s7 : MS) (r8 : Int32) => wm_comes (fun (s9 : MS) => post s9) s7 r8) s6 (m_top s6 (m_piled s6).toNatClampNeg) (m_bottom s6 (m_piled s6).toNatClampNeg) v5)))) ∧ ((¬ ((m_failure s6) ≤ (0 : Int32))) → (wm_fails (fun (s10 : MS) => post s10) s6 (m_failure s6) v1))
set_option maxRecDepth 20000 in
theorem km_applyTwo_257 {E : gEnv} {l : Launch} {D : va_G} {cl : List vw_C} {G : gAd} {post : MS → Prop} (hE : gOK E cX13_applyTwo RX13 none 4) (hm : mOK E l D cl G (qV post) 7) (σ : MS) (v1 : Int32) (v5 : Int32) (h : wm_applyTwo_257 post σ v1 v5) : GW E (mW G σ) 257 [(0, .ref (G.1 0)), (1, .int v1), (5, .int v5)] [] := by
  unfold wm_applyTwo_257 at h
  have hN := hm.2.2.2.2.2.2.1
  refine r_aload_n hE 0 dX13_applyTwo_257 rfl rfl ?_
  refine r_dup hE dX13_applyTwo_258 rfl ?_
  refine mg_piled hE hm dX13_applyTwo_259 ?_
  refine r_iconst (v := (1 : Int32)) hE dX13_applyTwo_262 (by decide) ?_
  refine r_isub hE dX13_applyTwo_263 ?_
  refine mp_piled hE hm dX13_applyTwo_264 h (fun s6 h => ?_)
  refine r_aload_n hE 0 dX13_applyTwo_267 rfl rfl ?_
  refine mg_failure hE hm dX13_applyTwo_268 ?_
  refine r_if_le hE 286 dX13_applyTwo_271 (by decide) h (fun h => ?_) (fun h => ?_)
  · refine r_aload_n hE 0 dX13_applyTwo_286 rfl rfl ?_
    refine r_aload_n hE 0 dX13_applyTwo_287 rfl rfl ?_
    refine r_aload_n hE 0 dX13_applyTwo_288 rfl rfl ?_
    refine mg_top hE hm dX13_applyTwo_289 ?_
    refine r_aload_n hE 0 dX13_applyTwo_292 rfl rfl ?_
    refine mg_piled hE hm dX13_applyTwo_293 ?_
    obtain ⟨hi, h⟩ := h
    refine ml_top hE hm dX13_applyTwo_296 hi ?_
    refine r_aload_n hE 0 dX13_applyTwo_297 rfl rfl ?_
    refine mg_bottom hE hm dX13_applyTwo_298 ?_
    refine r_aload_n hE 0 dX13_applyTwo_301 rfl rfl ?_
    refine mg_piled hE hm dX13_applyTwo_302 ?_
    obtain ⟨hi, h⟩ := h
    refine ml_bottom hE hm dX13_applyTwo_305 hi ?_
    refine r_iload hE 2 dX13_applyTwo_306 rfl ?_
    refine m_callVi hE hm [.long (m_top s6 (m_piled s6).toNatClampNeg), .long (m_bottom s6 (m_piled s6).toNatClampNeg), .int v5] [.ref (G.1 0)] mc_number (km_number hm.2.2.2.2.2.2.2.2 h) (by decide) rfl rfl (Nat.le_of_ble_eq_true rfl) dX13_applyTwo_308 (fun s7 r8 h => ?_)
    refine m_callVv hE hm [.int r8] [] mc_comes (km_comes hm.2.2.2.2.2.2.2.2 h) (by decide) rfl rfl (Nat.le_of_ble_eq_true rfl) dX13_applyTwo_311 (fun s9 h => ?_)
    exact m_vret hE hm dX13_applyTwo_314 h
  · refine r_aload_n hE 0 dX13_applyTwo_274 rfl rfl ?_
    refine r_aload_n hE 0 dX13_applyTwo_275 rfl rfl ?_
    refine mg_failure hE hm dX13_applyTwo_276 ?_
    refine r_iload_n hE 1 dX13_applyTwo_279 rfl rfl ?_
    refine m_callVv hE hm [.int (m_failure s6), .int v1] [] mc_fails (km_fails hm.2.2.2.2.2.2.2.2 h) (by decide) rfl rfl (Nat.le_of_ble_eq_true rfl) dX13_applyTwo_280 (fun s10 h => ?_)
    refine r_goto hE 314 dX13_applyTwo_283 (by decide) ?_
    exact m_vret hE hm dX13_applyTwo_314 h
def wm_applyTwo_53 (post : MS → Prop) (σ : MS) (v1 : Int32) (v2 : Int32) (v3 : Int32) (t0 : Int32) : Prop := ((t0 ≤ (0 : Int32)) → (vp_in v3 480 ∧ (vp_in v2 480 ∧ (∀ x11 : Int32, x11 = (m_lean σ v3.toNatClampNeg) ||| (m_lean σ v2.toNatClampNeg) → vp_in v1 600 ∧ ((((m_one σ v1.toNatClampNeg) = (61 : Int32)) → (wm_applyTwo_105 post σ v1 v2 v3 x11)) ∧ ((¬ ((m_one σ v1.toNatClampNeg) = (61 : Int32))) → (vp_in v1 600 ∧ (((¬ ((m_one σ v1.toNatClampNeg) = (60 : Int32))) → (wm_part (fun (s12 : MS) => wm_part (fun (s13 : MS) => vp_in v1 600 ∧ (((¬ ((m_one s13 v1.toNatClampNeg) = (43 : Int32))) → (vp_in v1 600 ∧ (((¬ ((m_one s13 v1.toNatClampNeg) = (45 : Int32))) → (vp_in v1 600 ∧ (((¬ ((m_one s13 v1.toNatClampNeg) = (42 : Int32))) → (wm_by (fun (s14 : MS) => wm_applyTwo_257 post s14 v1 x11) s13)) ∧ (((m_one s13 v1.toNatClampNeg) = (42 : Int32)) → (wm_times (fun (s15 : MS) => wm_applyTwo_257 post s15 v1 x11) s13))))) ∧ (((m_one s13 v1.toNatClampNeg) = (45 : Int32)) → (wm_less (fun (s16 : MS) => wm_applyTwo_257 post s16 v1 x11) s13))))) ∧ (((m_one s13 v1.toNatClampNeg) = (43 : Int32)) → (wm_plus (fun (s17 : MS) => wm_applyTwo_257 post s17 v1 x11) s13)))) s12 v2 (0 : Int32)) σ v3 (0 : Int32))) ∧ (((m_one σ v1.toNatClampNeg) = (60 : Int32)) → (wm_applyTwo_105 post σ v1 v2 v3 x11)))))))))) ∧ ((¬ (t0 ≤ (0 : Int32))) → (wm_fails (fun (s18 : MS) => post s18) σ t0 v1))
set_option maxRecDepth 20000 in
theorem km_applyTwo_53 {E : gEnv} {l : Launch} {D : va_G} {cl : List vw_C} {G : gAd} {post : MS → Prop} (hE : gOK E cX13_applyTwo RX13 none 4) (hm : mOK E l D cl G (qV post) 7) (σ : MS) (v1 : Int32) (v2 : Int32) (v3 : Int32) (t0 : Int32) (h : wm_applyTwo_53 post σ v1 v2 v3 t0) : GW E (mW G σ) 53 [(0, .ref (G.1 0)), (1, .int v1), (2, .int v2), (3, .int v3)] [.int t0] := by
  unfold wm_applyTwo_53 at h
  have hN := hm.2.2.2.2.2.2.1
  refine r_istore hE [(4, .int t0), (0, .ref (G.1 0)), (1, .int v1), (2, .int v2), (3, .int v3)] dX13_applyTwo_53 hN (by decide) rfl ?_
  refine r_iload hE 0 dX13_applyTwo_55 rfl ?_
  refine r_if_le hE 68 dX13_applyTwo_57 (by decide) h (fun h => ?_) (fun h => ?_)
  · refine r_aload_n hE 1 dX13_applyTwo_68 rfl rfl ?_
    refine mg_lean hE hm dX13_applyTwo_69 ?_
    refine r_iload_n hE 4 dX13_applyTwo_72 rfl rfl ?_
    obtain ⟨hi, h⟩ := h
    refine ml_lean hE hm dX13_applyTwo_73 hi ?_
    refine r_aload_n hE 1 dX13_applyTwo_74 rfl rfl ?_
    refine mg_lean hE hm dX13_applyTwo_75 ?_
    refine r_iload_n hE 3 dX13_applyTwo_78 rfl rfl ?_
    obtain ⟨hi, h⟩ := h
    refine ml_lean hE hm dX13_applyTwo_79 hi ?_
    refine r_ior hE dX13_applyTwo_80 ?_
    refine r_topi h (fun x11 ex11 h => ?_)
    refine r_istore hE [(5, .int x11), (4, .int t0), (0, .ref (G.1 0)), (1, .int v1), (2, .int v2), (3, .int v3)] dX13_applyTwo_81 hN (by decide) rfl ?_
    refine r_aload_n hE 2 dX13_applyTwo_83 rfl rfl ?_
    refine mg_one hE hm dX13_applyTwo_84 ?_
    refine r_iload_n hE 3 dX13_applyTwo_87 rfl rfl ?_
    obtain ⟨hi, h⟩ := h
    refine ml_one hE hm dX13_applyTwo_88 hi ?_
    refine r_bipush (v := (61 : Int32)) hE dX13_applyTwo_89 (by decide) ?_
    refine r_icmp_eq hE 105 dX13_applyTwo_91 (by decide) h (fun h => ?_) (fun h => ?_)
    · refine r_pick [2, 3, 4, 5, 0] rfl ?_
      exact km_applyTwo_105 hE hm _ _ _ _ _ h
    · refine r_aload_n hE 2 dX13_applyTwo_94 rfl rfl ?_
      refine mg_one hE hm dX13_applyTwo_95 ?_
      refine r_iload_n hE 3 dX13_applyTwo_98 rfl rfl ?_
      obtain ⟨hi, h⟩ := h
      refine ml_one hE hm dX13_applyTwo_99 hi ?_
      refine r_bipush (v := (60 : Int32)) hE dX13_applyTwo_100 (by decide) ?_
      refine r_icmp_ne hE 187 dX13_applyTwo_102 (by decide) h (fun h => ?_) (fun h => ?_)
      · refine r_aload_n hE 2 dX13_applyTwo_187 rfl rfl ?_
        refine r_iload_n hE 5 dX13_applyTwo_188 rfl rfl ?_
        refine r_iconst (v := (0 : Int32)) hE dX13_applyTwo_189 (by decide) ?_
        refine m_callVv hE hm [.int v3, .int (0 : Int32)] [] mc_part (km_part hm.2.2.2.2.2.2.2.2 h) (by decide) rfl rfl (Nat.le_of_ble_eq_true rfl) dX13_applyTwo_190 (fun s12 h => ?_)
        refine r_aload_n hE 2 dX13_applyTwo_193 rfl rfl ?_
        refine r_iload_n hE 4 dX13_applyTwo_194 rfl rfl ?_
        refine r_iconst (v := (0 : Int32)) hE dX13_applyTwo_195 (by decide) ?_
        refine m_callVv hE hm [.int v2, .int (0 : Int32)] [] mc_part (km_part hm.2.2.2.2.2.2.2.2 h) (by decide) rfl rfl (Nat.le_of_ble_eq_true rfl) dX13_applyTwo_196 (fun s13 h => ?_)
        refine r_aload_n hE 2 dX13_applyTwo_199 rfl rfl ?_
        refine mg_one hE hm dX13_applyTwo_200 ?_
        refine r_iload_n hE 3 dX13_applyTwo_203 rfl rfl ?_
        obtain ⟨hi, h⟩ := h
        refine ml_one hE hm dX13_applyTwo_204 hi ?_
        refine r_bipush (v := (43 : Int32)) hE dX13_applyTwo_205 (by decide) ?_
        refine r_icmp_ne hE 217 dX13_applyTwo_207 (by decide) h (fun h => ?_) (fun h => ?_)
        · refine r_aload_n hE 2 dX13_applyTwo_217 rfl rfl ?_
          refine mg_one hE hm dX13_applyTwo_218 ?_
          refine r_iload_n hE 3 dX13_applyTwo_221 rfl rfl ?_
          obtain ⟨hi, h⟩ := h
          refine ml_one hE hm dX13_applyTwo_222 hi ?_
          refine r_bipush (v := (45 : Int32)) hE dX13_applyTwo_223 (by decide) ?_
          refine r_icmp_ne hE 235 dX13_applyTwo_225 (by decide) h (fun h => ?_) (fun h => ?_)
          · refine r_aload_n hE 2 dX13_applyTwo_235 rfl rfl ?_
            refine mg_one hE hm dX13_applyTwo_236 ?_
            refine r_iload_n hE 3 dX13_applyTwo_239 rfl rfl ?_
            obtain ⟨hi, h⟩ := h
            refine ml_one hE hm dX13_applyTwo_240 hi ?_
            refine r_bipush (v := (42 : Int32)) hE dX13_applyTwo_241 (by decide) ?_
            refine r_icmp_ne hE 253 dX13_applyTwo_243 (by decide) h (fun h => ?_) (fun h => ?_)
            · refine r_aload_n hE 2 dX13_applyTwo_253 rfl rfl ?_
              refine m_callVv hE hm [] [] mc_by (km_by hm.2.2.2.2.2.2.2.2 h) (by decide) rfl rfl (Nat.le_of_ble_eq_true rfl) dX13_applyTwo_254 (fun s14 h => ?_)
              refine r_pick [2, 3, 0] rfl ?_
              exact km_applyTwo_257 hE hm _ _ _ h
            · refine r_aload_n hE 2 dX13_applyTwo_246 rfl rfl ?_
              refine m_callVv hE hm [] [] mc_times (km_times hm.2.2.2.2.2.2.2.2 h) (by decide) rfl rfl (Nat.le_of_ble_eq_true rfl) dX13_applyTwo_247 (fun s15 h => ?_)
              refine r_goto hE 257 dX13_applyTwo_250 (by decide) ?_
              refine r_pick [2, 3, 0] rfl ?_
              exact km_applyTwo_257 hE hm _ _ _ h
          · refine r_aload_n hE 2 dX13_applyTwo_228 rfl rfl ?_
            refine m_callVv hE hm [] [] mc_less (km_less hm.2.2.2.2.2.2.2.2 h) (by decide) rfl rfl (Nat.le_of_ble_eq_true rfl) dX13_applyTwo_229 (fun s16 h => ?_)
            refine r_goto hE 257 dX13_applyTwo_232 (by decide) ?_
            refine r_pick [2, 3, 0] rfl ?_
            exact km_applyTwo_257 hE hm _ _ _ h
        · refine r_aload_n hE 2 dX13_applyTwo_210 rfl rfl ?_
          refine m_callVv hE hm [] [] mc_plus (km_plus hm.2.2.2.2.2.2.2.2 h) (by decide) rfl rfl (Nat.le_of_ble_eq_true rfl) dX13_applyTwo_211 (fun s17 h => ?_)
          refine r_goto hE 257 dX13_applyTwo_214 (by decide) ?_
          refine r_pick [2, 3, 0] rfl ?_
          exact km_applyTwo_257 hE hm _ _ _ h
      · refine r_pick [2, 3, 4, 5, 0] rfl ?_
        exact km_applyTwo_105 hE hm _ _ _ _ _ h
  · refine r_aload_n hE 1 dX13_applyTwo_60 rfl rfl ?_
    refine r_iload hE 0 dX13_applyTwo_61 rfl ?_
    refine r_iload_n hE 2 dX13_applyTwo_63 rfl rfl ?_
    refine m_callVv hE hm [.int t0, .int v1] [] mc_fails (km_fails hm.2.2.2.2.2.2.2.2 h) (by decide) rfl rfl (Nat.le_of_ble_eq_true rfl) dX13_applyTwo_64 (fun s18 h => ?_)
    exact m_vret hE hm dX13_applyTwo_67 h
def wm_applyTwo (post : MS → Prop) (σ : MS) (a1 : Int32) : Prop := wm_taken (fun (s19 : MS) (r20 : Int32) => wm_taken (fun (s21 : MS) (r22 : Int32) => (((0 : Int32) ≤ r22) → (vp_in r22 480 ∧ ((((m_sort s21 r22.toNatClampNeg) = (0 : Int32)) → ((((0 : Int32) ≤ r20) → (vp_in r20 480 ∧ ((((m_sort s21 r20.toNatClampNeg) = (0 : Int32)) → (wm_applyTwo_53 post s21 a1 r20 r22 (0 : Int32))) ∧ ((¬ ((m_sort s21 r20.toNatClampNeg) = (0 : Int32))) → (wm_applyTwo_53 post s21 a1 r20 r22 (2 : Int32)))))) ∧ ((¬ ((0 : Int32) ≤ r20)) → (wm_applyTwo_53 post s21 a1 r20 r22 (1 : Int32))))) ∧ ((¬ ((m_sort s21 r22.toNatClampNeg) = (0 : Int32))) → (wm_applyTwo_53 post s21 a1 r20 r22 (2 : Int32)))))) ∧ ((¬ ((0 : Int32) ≤ r22)) → (wm_applyTwo_53 post s21 a1 r20 r22 (1 : Int32)))) s19) σ
set_option maxRecDepth 20000 in
theorem km_applyTwo {l : Launch} {D : va_G} {cl : List vw_C} {G : gAd} {post : MS → Prop} (hcl : mC cl) {σ : MS} {a1 : Int32} (h : wm_applyTwo post σ a1) : mMet l D cl G yX13_applyTwo cX13_applyTwo 7 none 4 [.ref (G.1 0), .int a1] σ (qV post) := by
  unfold wm_applyTwo at h
  refine m_enter hcl (by decide +kernel) rfl [(0, .ref (G.1 0)), (1, .int a1)] rfl (Nat.le_of_ble_eq_true rfl) ?_
  intro E hE hm
  have hN := hm.2.2.2.2.2.2.1
  refine r_aload_n hE 0 dX13_applyTwo_0 rfl rfl ?_
  refine m_callVi hE hm [] [] mc_taken (km_taken hm.2.2.2.2.2.2.2.2 h) (by decide) rfl rfl (Nat.le_of_ble_eq_true rfl) dX13_applyTwo_1 (fun s19 r20 h => ?_)
  refine r_istore_n hE [(2, .int r20), (0, .ref (G.1 0)), (1, .int a1)] dX13_applyTwo_4 rfl hN (by decide) rfl ?_
  refine r_aload_n hE 1 dX13_applyTwo_5 rfl rfl ?_
  refine m_callVi hE hm [] [] mc_taken (km_taken hm.2.2.2.2.2.2.2.2 h) (by decide) rfl rfl (Nat.le_of_ble_eq_true rfl) dX13_applyTwo_6 (fun s21 r22 h => ?_)
  refine r_istore_n hE [(3, .int r22), (2, .int r20), (0, .ref (G.1 0)), (1, .int a1)] dX13_applyTwo_9 rfl hN (by decide) rfl ?_
  refine r_iload_n hE 0 dX13_applyTwo_10 rfl rfl ?_
  refine r_if_ge hE 18 dX13_applyTwo_11 (by decide) h (fun h => ?_) (fun h => ?_)
  · refine r_aload_n hE 2 dX13_applyTwo_18 rfl rfl ?_
    refine mg_sort hE hm dX13_applyTwo_19 ?_
    refine r_iload_n hE 0 dX13_applyTwo_22 rfl rfl ?_
    obtain ⟨hi, h⟩ := h
    refine ml_sort hE hm dX13_applyTwo_23 hi ?_
    refine r_if_eq hE 31 dX13_applyTwo_24 (by decide) h (fun h => ?_) (fun h => ?_)
    · refine r_iload_n hE 1 dX13_applyTwo_31 rfl rfl ?_
      refine r_if_ge hE 39 dX13_applyTwo_32 (by decide) h (fun h => ?_) (fun h => ?_)
      · refine r_aload_n hE 2 dX13_applyTwo_39 rfl rfl ?_
        refine mg_sort hE hm dX13_applyTwo_40 ?_
        refine r_iload_n hE 1 dX13_applyTwo_43 rfl rfl ?_
        obtain ⟨hi, h⟩ := h
        refine ml_sort hE hm dX13_applyTwo_44 hi ?_
        refine r_if_eq hE 52 dX13_applyTwo_45 (by decide) h (fun h => ?_) (fun h => ?_)
        · refine r_iconst (v := (0 : Int32)) hE dX13_applyTwo_52 (by decide) ?_
          refine r_pick [2, 3, 1, 0] rfl ?_
          exact km_applyTwo_53 hE hm _ _ _ _ _ h
        · refine r_iconst (v := (2 : Int32)) hE dX13_applyTwo_48 (by decide) ?_
          refine r_goto hE 53 dX13_applyTwo_49 (by decide) ?_
          refine r_pick [2, 3, 1, 0] rfl ?_
          exact km_applyTwo_53 hE hm _ _ _ _ _ h
      · refine r_iconst (v := (1 : Int32)) hE dX13_applyTwo_35 (by decide) ?_
        refine r_goto hE 53 dX13_applyTwo_36 (by decide) ?_
        refine r_pick [2, 3, 1, 0] rfl ?_
        exact km_applyTwo_53 hE hm _ _ _ _ _ h
    · refine r_iconst (v := (2 : Int32)) hE dX13_applyTwo_27 (by decide) ?_
      refine r_goto hE 53 dX13_applyTwo_28 (by decide) ?_
      refine r_pick [2, 3, 1, 0] rfl ?_
      exact km_applyTwo_53 hE hm _ _ _ _ _ h
  · refine r_iconst (v := (1 : Int32)) hE dX13_applyTwo_14 (by decide) ?_
    refine r_goto hE 53 dX13_applyTwo_15 (by decide) ?_
    refine r_pick [2, 3, 1, 0] rfl ?_
    exact km_applyTwo_53 hE hm _ _ _ _ _ h
/-! apply -/
def wm_apply_104 (post : MS → Prop) (σ : MS) : Prop := post σ
set_option maxRecDepth 20000 in
theorem km_apply_104 {E : gEnv} {l : Launch} {D : va_G} {cl : List vw_C} {G : gAd} {post : MS → Prop} (hE : gOK E cX13_apply RX13 none 10) (hm : mOK E l D cl G (qV post) 4) (σ : MS) (h : wm_apply_104 post σ) : GW E (mW G σ) 104 [] [] := by
  unfold wm_apply_104 at h
  have hN := hm.2.2.2.2.2.2.1
  refine r_goto hE 150 dX13_apply_104 (by decide) ?_
  exact m_vret hE hm dX13_apply_150 h
def wm_apply_57 (post : MS → Prop) (σ : MS) (v1 : Int32) (v2 : Int32) (t0 : Int32) : Prop := ((t0 ≤ (0 : Int32)) → (vp_in ((7 : Int32) * v2) 3360 ∧ (vp_in ((7 : Int32) * v2) 3360 ∧ (vp_in v2 480 ∧ (wm_number (fun (s1 : MS) (r2 : Int32) => wm_comes (fun (s3 : MS) => wm_apply_104 post s3) s1 r2) σ (-(m_up σ ((7 : Int32) * v2).toNatClampNeg)) (m_low σ ((7 : Int32) * v2).toNatClampNeg) (m_lean σ v2.toNatClampNeg)))))) ∧ ((¬ (t0 ≤ (0 : Int32))) → (wm_fails (fun (s4 : MS) => wm_apply_104 post s4) σ t0 v1))
set_option maxRecDepth 20000 in
theorem km_apply_57 {E : gEnv} {l : Launch} {D : va_G} {cl : List vw_C} {G : gAd} {post : MS → Prop} (hE : gOK E cX13_apply RX13 none 10) (hm : mOK E l D cl G (qV post) 4) (σ : MS) (v1 : Int32) (v2 : Int32) (t0 : Int32) (h : wm_apply_57 post σ v1 v2 t0) : GW E (mW G σ) 57 [(0, .ref (G.1 0)), (1, .int v1), (2, .int v2)] [.int t0] := by
  unfold wm_apply_57 at h
  have hN := hm.2.2.2.2.2.2.1
  refine r_istore_n hE [(3, .int t0), (0, .ref (G.1 0)), (1, .int v1), (2, .int v2)] dX13_apply_57 rfl hN (by decide) rfl ?_
  refine r_iload_n hE 0 dX13_apply_58 rfl rfl ?_
  refine r_if_le hE 71 dX13_apply_59 (by decide) h (fun h => ?_) (fun h => ?_)
  · refine r_aload_n hE 1 dX13_apply_71 rfl rfl ?_
    refine r_aload_n hE 1 dX13_apply_72 rfl rfl ?_
    refine r_aload_n hE 1 dX13_apply_73 rfl rfl ?_
    refine mg_up hE hm dX13_apply_74 ?_
    refine r_bipush (v := (7 : Int32)) hE dX13_apply_77 (by decide) ?_
    refine r_iload_n hE 3 dX13_apply_79 rfl rfl ?_
    refine r_imul hE dX13_apply_80 ?_
    obtain ⟨hi, h⟩ := h
    refine ml_up hE hm dX13_apply_81 hi ?_
    refine r_lneg hE dX13_apply_82 ?_
    refine r_aload_n hE 1 dX13_apply_83 rfl rfl ?_
    refine mg_low hE hm dX13_apply_84 ?_
    refine r_bipush (v := (7 : Int32)) hE dX13_apply_87 (by decide) ?_
    refine r_iload_n hE 3 dX13_apply_89 rfl rfl ?_
    refine r_imul hE dX13_apply_90 ?_
    obtain ⟨hi, h⟩ := h
    refine ml_low hE hm dX13_apply_91 hi ?_
    refine r_aload_n hE 1 dX13_apply_92 rfl rfl ?_
    refine mg_lean hE hm dX13_apply_93 ?_
    refine r_iload_n hE 3 dX13_apply_96 rfl rfl ?_
    obtain ⟨hi, h⟩ := h
    refine ml_lean hE hm dX13_apply_97 hi ?_
    refine m_callVi hE hm [.long (-(m_up σ ((7 : Int32) * v2).toNatClampNeg)), .long (m_low σ ((7 : Int32) * v2).toNatClampNeg), .int (m_lean σ v2.toNatClampNeg)] [.ref (G.1 0)] mc_number (km_number hm.2.2.2.2.2.2.2.2 h) (by decide) rfl rfl (Nat.le_of_ble_eq_true rfl) dX13_apply_98 (fun s1 r2 h => ?_)
    refine m_callVv hE hm [.int r2] [] mc_comes (km_comes hm.2.2.2.2.2.2.2.2 h) (by decide) rfl rfl (Nat.le_of_ble_eq_true rfl) dX13_apply_101 (fun s3 h => ?_)
    refine r_pick [] rfl ?_
    exact km_apply_104 hE hm _ h
  · refine r_aload_n hE 1 dX13_apply_62 rfl rfl ?_
    refine r_iload_n hE 0 dX13_apply_63 rfl rfl ?_
    refine r_iload_n hE 2 dX13_apply_64 rfl rfl ?_
    refine m_callVv hE hm [.int t0, .int v1] [] mc_fails (km_fails hm.2.2.2.2.2.2.2.2 h) (by decide) rfl rfl (Nat.le_of_ble_eq_true rfl) dX13_apply_65 (fun s4 h => ?_)
    refine r_goto hE 104 dX13_apply_68 (by decide) ?_
    refine r_pick [] rfl ?_
    exact km_apply_104 hE hm _ h
def wm_apply (post : MS → Prop) (σ : MS) (a1 : Int32) : Prop := vp_in a1 600 ∧ (((¬ ((m_kind σ a1.toNatClampNeg) = (9 : Int32))) → (vp_in a1 600 ∧ (((¬ ((m_kind σ a1.toNatClampNeg) = (11 : Int32))) → (vp_in a1 600 ∧ (((¬ ((m_kind σ a1.toNatClampNeg) = (12 : Int32))) → (vp_in a1 600 ∧ ((((m_one σ a1.toNatClampNeg) < (100 : Int32)) → (wm_applyTool (fun (s5 : MS) => post s5) σ a1)) ∧ ((¬ ((m_one σ a1.toNatClampNeg) < (100 : Int32))) → (wm_applyMacro (fun (s6 : MS) => post s6) σ a1))))) ∧ (((m_kind σ a1.toNatClampNeg) = (12 : Int32)) → (wm_applyTwo (fun (s7 : MS) => post s7) σ a1))))) ∧ (((m_kind σ a1.toNatClampNeg) = (11 : Int32)) → (wm_taken (fun (s8 : MS) (r9 : Int32) => (((0 : Int32) ≤ r9) → (vp_in r9 480 ∧ ((((m_sort s8 r9.toNatClampNeg) = (0 : Int32)) → (wm_apply_57 post s8 a1 r9 (0 : Int32))) ∧ ((¬ ((m_sort s8 r9.toNatClampNeg) = (0 : Int32))) → (wm_apply_57 post s8 a1 r9 (2 : Int32)))))) ∧ ((¬ ((0 : Int32) ≤ r9)) → (wm_apply_57 post s8 a1 r9 (1 : Int32)))) σ))))) ∧ (((m_kind σ a1.toNatClampNeg) = (9 : Int32)) → (wm_applyAt (fun (s10 : MS) => post s10) σ a1)))
set_option maxRecDepth 20000 in
theorem km_apply {l : Launch} {D : va_G} {cl : List vw_C} {G : gAd} {post : MS → Prop} (hcl : mC cl) {σ : MS} {a1 : Int32} (h : wm_apply post σ a1) : mMet l D cl G yX13_apply cX13_apply 4 none 10 [.ref (G.1 0), .int a1] σ (qV post) := by
  unfold wm_apply at h
  refine m_enter hcl (by decide +kernel) rfl [(0, .ref (G.1 0)), (1, .int a1)] rfl (Nat.le_of_ble_eq_true rfl) ?_
  intro E hE hm
  have hN := hm.2.2.2.2.2.2.1
  refine r_aload_n hE 0 dX13_apply_0 rfl rfl ?_
  refine mg_kind hE hm dX13_apply_1 ?_
  refine r_iload_n hE 1 dX13_apply_4 rfl rfl ?_
  obtain ⟨hi, h⟩ := h
  refine ml_kind hE hm dX13_apply_5 hi ?_
  refine r_bipush (v := (9 : Int32)) hE dX13_apply_6 (by decide) ?_
  refine r_icmp_ne hE 19 dX13_apply_8 (by decide) h (fun h => ?_) (fun h => ?_)
  · refine r_aload_n hE 0 dX13_apply_19 rfl rfl ?_
    refine mg_kind hE hm dX13_apply_20 ?_
    refine r_iload_n hE 1 dX13_apply_23 rfl rfl ?_
    obtain ⟨hi, h⟩ := h
    refine ml_kind hE hm dX13_apply_24 hi ?_
    refine r_bipush (v := (11 : Int32)) hE dX13_apply_25 (by decide) ?_
    refine r_icmp_ne hE 107 dX13_apply_27 (by decide) h (fun h => ?_) (fun h => ?_)
    · refine r_aload_n hE 0 dX13_apply_107 rfl rfl ?_
      refine mg_kind hE hm dX13_apply_108 ?_
      refine r_iload_n hE 1 dX13_apply_111 rfl rfl ?_
      obtain ⟨hi, h⟩ := h
      refine ml_kind hE hm dX13_apply_112 hi ?_
      refine r_bipush (v := (12 : Int32)) hE dX13_apply_113 (by decide) ?_
      refine r_icmp_ne hE 126 dX13_apply_115 (by decide) h (fun h => ?_) (fun h => ?_)
      · refine r_aload_n hE 0 dX13_apply_126 rfl rfl ?_
        refine mg_one hE hm dX13_apply_127 ?_
        refine r_iload_n hE 1 dX13_apply_130 rfl rfl ?_
        obtain ⟨hi, h⟩ := h
        refine ml_one hE hm dX13_apply_131 hi ?_
        refine r_bipush (v := (100 : Int32)) hE dX13_apply_132 (by decide) ?_
        refine r_icmp_lt hE 145 dX13_apply_134 (by decide) h (fun h => ?_) (fun h => ?_)
        · refine r_aload_n hE 0 dX13_apply_145 rfl rfl ?_
          refine r_iload_n hE 1 dX13_apply_146 rfl rfl ?_
          refine m_callVv hE hm [.int a1] [] mc_applyTool (km_applyTool hm.2.2.2.2.2.2.2.2 h) (by decide) rfl rfl (Nat.le_of_ble_eq_true rfl) dX13_apply_147 (fun s5 h => ?_)
          exact m_vret hE hm dX13_apply_150 h
        · refine r_aload_n hE 0 dX13_apply_137 rfl rfl ?_
          refine r_iload_n hE 1 dX13_apply_138 rfl rfl ?_
          refine m_callVv hE hm [.int a1] [] mc_applyMacro (km_applyMacro hm.2.2.2.2.2.2.2.2 h) (by decide) rfl rfl (Nat.le_of_ble_eq_true rfl) dX13_apply_139 (fun s6 h => ?_)
          refine r_goto hE 150 dX13_apply_142 (by decide) ?_
          exact m_vret hE hm dX13_apply_150 h
      · refine r_aload_n hE 0 dX13_apply_118 rfl rfl ?_
        refine r_iload_n hE 1 dX13_apply_119 rfl rfl ?_
        refine m_callVv hE hm [.int a1] [] mc_applyTwo (km_applyTwo hm.2.2.2.2.2.2.2.2 h) (by decide) rfl rfl (Nat.le_of_ble_eq_true rfl) dX13_apply_120 (fun s7 h => ?_)
        refine r_goto hE 150 dX13_apply_123 (by decide) ?_
        exact m_vret hE hm dX13_apply_150 h
    · refine r_aload_n hE 0 dX13_apply_30 rfl rfl ?_
      refine m_callVi hE hm [] [] mc_taken (km_taken hm.2.2.2.2.2.2.2.2 h) (by decide) rfl rfl (Nat.le_of_ble_eq_true rfl) dX13_apply_31 (fun s8 r9 h => ?_)
      refine r_istore_n hE [(2, .int r9), (0, .ref (G.1 0)), (1, .int a1)] dX13_apply_34 rfl hN (by decide) rfl ?_
      refine r_iload_n hE 0 dX13_apply_35 rfl rfl ?_
      refine r_if_ge hE 43 dX13_apply_36 (by decide) h (fun h => ?_) (fun h => ?_)
      · refine r_aload_n hE 1 dX13_apply_43 rfl rfl ?_
        refine mg_sort hE hm dX13_apply_44 ?_
        refine r_iload_n hE 0 dX13_apply_47 rfl rfl ?_
        obtain ⟨hi, h⟩ := h
        refine ml_sort hE hm dX13_apply_48 hi ?_
        refine r_if_eq hE 56 dX13_apply_49 (by decide) h (fun h => ?_) (fun h => ?_)
        · refine r_iconst (v := (0 : Int32)) hE dX13_apply_56 (by decide) ?_
          refine r_pick [1, 2, 0] rfl ?_
          exact km_apply_57 hE hm _ _ _ _ h
        · refine r_iconst (v := (2 : Int32)) hE dX13_apply_52 (by decide) ?_
          refine r_goto hE 57 dX13_apply_53 (by decide) ?_
          refine r_pick [1, 2, 0] rfl ?_
          exact km_apply_57 hE hm _ _ _ _ h
      · refine r_iconst (v := (1 : Int32)) hE dX13_apply_39 (by decide) ?_
        refine r_goto hE 57 dX13_apply_40 (by decide) ?_
        refine r_pick [1, 2, 0] rfl ?_
        exact km_apply_57 hE hm _ _ _ _ h
  · refine r_aload_n hE 0 dX13_apply_11 rfl rfl ?_
    refine r_iload_n hE 1 dX13_apply_12 rfl rfl ?_
    refine m_callVv hE hm [.int a1] [] mc_applyAt (km_applyAt hm.2.2.2.2.2.2.2.2 h) (by decide) rfl rfl (Nat.le_of_ble_eq_true rfl) dX13_apply_13 (fun s10 h => ?_)
    refine r_goto hE 150 dX13_apply_16 (by decide) ?_
    exact m_vret hE hm dX13_apply_150 h
/-! beginDeed -/
def wm_beginDeed_81 (post : MS → Prop) (σ : MS) (v1 : Int32) : Prop := vp_in v1 600 ∧ (wm_later (fun (s1 : MS) => vp_in v1 600 ∧ (((¬ ((m_kind s1 v1.toNatClampNeg) = (1 : Int32))) → (post s1)) ∧ (((m_kind s1 v1.toNatClampNeg) = (1 : Int32)) → (vp_in v1 600 ∧ (wm_later (fun (s2 : MS) => post s2) s1 (1 : Int32) (m_two s1 v1.toNatClampNeg) (0 : Int64)))))) σ (1 : Int32) (m_three σ v1.toNatClampNeg) (0 : Int64))
set_option maxRecDepth 20000 in
theorem km_beginDeed_81 {E : gEnv} {l : Launch} {D : va_G} {cl : List vw_C} {G : gAd} {post : MS → Prop} (hE : gOK E cX13_beginDeed RX13 none 2) (hm : mOK E l D cl G (qV post) 2) (σ : MS) (v1 : Int32) (h : wm_beginDeed_81 post σ v1) : GW E (mW G σ) 81 [(0, .ref (G.1 0)), (1, .int v1)] [] := by
  unfold wm_beginDeed_81 at h
  have hN := hm.2.2.2.2.2.2.1
  refine r_aload_n hE 0 dX13_beginDeed_81 rfl rfl ?_
  refine r_iconst (v := (1 : Int32)) hE dX13_beginDeed_82 (by decide) ?_
  refine r_aload_n hE 0 dX13_beginDeed_83 rfl rfl ?_
  refine mg_three hE hm dX13_beginDeed_84 ?_
  refine r_iload_n hE 1 dX13_beginDeed_87 rfl rfl ?_
  obtain ⟨hi, h⟩ := h
  refine ml_three hE hm dX13_beginDeed_88 hi ?_
  refine r_lconst (v := (0 : Int64)) hE dX13_beginDeed_89 (by decide) ?_
  refine m_callVv hE hm [.int (1 : Int32), .int (m_three σ v1.toNatClampNeg), .long (0 : Int64)] [] mc_later (km_later hm.2.2.2.2.2.2.2.2 h) (by decide) rfl rfl (Nat.le_of_ble_eq_true rfl) dX13_beginDeed_90 (fun s1 h => ?_)
  refine r_aload_n hE 0 dX13_beginDeed_93 rfl rfl ?_
  refine mg_kind hE hm dX13_beginDeed_94 ?_
  refine r_iload_n hE 1 dX13_beginDeed_97 rfl rfl ?_
  obtain ⟨hi, h⟩ := h
  refine ml_kind hE hm dX13_beginDeed_98 hi ?_
  refine r_iconst (v := (1 : Int32)) hE dX13_beginDeed_99 (by decide) ?_
  refine r_icmp_ne hE 130 dX13_beginDeed_100 (by decide) h (fun h => ?_) (fun h => ?_)
  · exact m_vret hE hm dX13_beginDeed_130 h
  · refine r_aload_n hE 0 dX13_beginDeed_103 rfl rfl ?_
    refine r_iconst (v := (1 : Int32)) hE dX13_beginDeed_104 (by decide) ?_
    refine r_aload_n hE 0 dX13_beginDeed_105 rfl rfl ?_
    refine mg_two hE hm dX13_beginDeed_106 ?_
    refine r_iload_n hE 1 dX13_beginDeed_109 rfl rfl ?_
    obtain ⟨hi, h⟩ := h
    refine ml_two hE hm dX13_beginDeed_110 hi ?_
    refine r_lconst (v := (0 : Int64)) hE dX13_beginDeed_111 (by decide) ?_
    refine m_callVv hE hm [.int (1 : Int32), .int (m_two s1 v1.toNatClampNeg), .long (0 : Int64)] [] mc_later (km_later hm.2.2.2.2.2.2.2.2 h) (by decide) rfl rfl (Nat.le_of_ble_eq_true rfl) dX13_beginDeed_112 (fun s2 h => ?_)
    refine r_goto hE 130 dX13_beginDeed_115 (by decide) ?_
    exact m_vret hE hm dX13_beginDeed_130 h
def wm_beginDeed_51 (post : MS → Prop) (σ : MS) (v1 : Int32) : Prop := wm_later (fun (s3 : MS) => vp_in v1 600 ∧ ((((m_kind s3 v1.toNatClampNeg) = (0 : Int32)) → (wm_beginDeed_81 post s3 v1)) ∧ ((¬ ((m_kind s3 v1.toNatClampNeg) = (0 : Int32))) → (vp_in v1 600 ∧ (((¬ ((m_kind s3 v1.toNatClampNeg) = (1 : Int32))) → (vp_in v1 600 ∧ (wm_later (fun (s4 : MS) => post s4) s3 (1 : Int32) (m_one s3 v1.toNatClampNeg) (0 : Int64)))) ∧ (((m_kind s3 v1.toNatClampNeg) = (1 : Int32)) → (wm_beginDeed_81 post s3 v1))))))) σ (3 : Int32) v1 ((m_comes σ).toInt64)
set_option maxRecDepth 20000 in
theorem km_beginDeed_51 {E : gEnv} {l : Launch} {D : va_G} {cl : List vw_C} {G : gAd} {post : MS → Prop} (hE : gOK E cX13_beginDeed RX13 none 2) (hm : mOK E l D cl G (qV post) 2) (σ : MS) (v1 : Int32) (h : wm_beginDeed_51 post σ v1) : GW E (mW G σ) 51 [(0, .ref (G.1 0)), (1, .int v1)] [] := by
  unfold wm_beginDeed_51 at h
  have hN := hm.2.2.2.2.2.2.1
  refine r_aload_n hE 0 dX13_beginDeed_51 rfl rfl ?_
  refine r_iconst (v := (3 : Int32)) hE dX13_beginDeed_52 (by decide) ?_
  refine r_iload_n hE 1 dX13_beginDeed_53 rfl rfl ?_
  refine r_aload_n hE 0 dX13_beginDeed_54 rfl rfl ?_
  refine mg_comes hE hm dX13_beginDeed_55 ?_
  refine r_i2l hE dX13_beginDeed_58 ?_
  refine m_callVv hE hm [.int (3 : Int32), .int v1, .long ((m_comes σ).toInt64)] [] mc_later (km_later hm.2.2.2.2.2.2.2.2 h) (by decide) rfl rfl (Nat.le_of_ble_eq_true rfl) dX13_beginDeed_59 (fun s3 h => ?_)
  refine r_aload_n hE 0 dX13_beginDeed_62 rfl rfl ?_
  refine mg_kind hE hm dX13_beginDeed_63 ?_
  refine r_iload_n hE 1 dX13_beginDeed_66 rfl rfl ?_
  obtain ⟨hi, h⟩ := h
  refine ml_kind hE hm dX13_beginDeed_67 hi ?_
  refine r_if_eq hE 81 dX13_beginDeed_68 (by decide) h (fun h => ?_) (fun h => ?_)
  · exact km_beginDeed_81 hE hm _ _ h
  · refine r_aload_n hE 0 dX13_beginDeed_71 rfl rfl ?_
    refine mg_kind hE hm dX13_beginDeed_72 ?_
    refine r_iload_n hE 1 dX13_beginDeed_75 rfl rfl ?_
    obtain ⟨hi, h⟩ := h
    refine ml_kind hE hm dX13_beginDeed_76 hi ?_
    refine r_iconst (v := (1 : Int32)) hE dX13_beginDeed_77 (by decide) ?_
    refine r_icmp_ne hE 118 dX13_beginDeed_78 (by decide) h (fun h => ?_) (fun h => ?_)
    · refine r_aload_n hE 0 dX13_beginDeed_118 rfl rfl ?_
      refine r_iconst (v := (1 : Int32)) hE dX13_beginDeed_119 (by decide) ?_
      refine r_aload_n hE 0 dX13_beginDeed_120 rfl rfl ?_
      refine mg_one hE hm dX13_beginDeed_121 ?_
      refine r_iload_n hE 1 dX13_beginDeed_124 rfl rfl ?_
      obtain ⟨hi, h⟩ := h
      refine ml_one hE hm dX13_beginDeed_125 hi ?_
      refine r_lconst (v := (0 : Int64)) hE dX13_beginDeed_126 (by decide) ?_
      refine m_callVv hE hm [.int (1 : Int32), .int (m_one s3 v1.toNatClampNeg), .long (0 : Int64)] [] mc_later (km_later hm.2.2.2.2.2.2.2.2 h) (by decide) rfl rfl (Nat.le_of_ble_eq_true rfl) dX13_beginDeed_127 (fun s4 h => ?_)
      exact m_vret hE hm dX13_beginDeed_130 h
    · exact km_beginDeed_81 hE hm _ _ h
def wm_beginDeed_38 (post : MS → Prop) (σ : MS) (v1 : Int32) : Prop := vp_in v1 600 ∧ (wm_note (fun (s5 : MS) => post s5) σ (9 : Int32) (m_byteOf σ v1.toNatClampNeg))
set_option maxRecDepth 20000 in
theorem km_beginDeed_38 {E : gEnv} {l : Launch} {D : va_G} {cl : List vw_C} {G : gAd} {post : MS → Prop} (hE : gOK E cX13_beginDeed RX13 none 2) (hm : mOK E l D cl G (qV post) 2) (σ : MS) (v1 : Int32) (h : wm_beginDeed_38 post σ v1) : GW E (mW G σ) 38 [(0, .ref (G.1 0)), (1, .int v1)] [] := by
  unfold wm_beginDeed_38 at h
  have hN := hm.2.2.2.2.2.2.1
  refine r_aload_n hE 0 dX13_beginDeed_38 rfl rfl ?_
  refine r_bipush (v := (9 : Int32)) hE dX13_beginDeed_39 (by decide) ?_
  refine r_aload_n hE 0 dX13_beginDeed_41 rfl rfl ?_
  refine mg_byteOf hE hm dX13_beginDeed_42 ?_
  refine r_iload_n hE 1 dX13_beginDeed_45 rfl rfl ?_
  obtain ⟨hi, h⟩ := h
  refine ml_byteOf hE hm dX13_beginDeed_46 hi ?_
  refine m_callVv hE hm [.int (9 : Int32), .int (m_byteOf σ v1.toNatClampNeg)] [] mc_note (km_note hm.2.2.2.2.2.2.2.2 h) (by decide) rfl rfl (Nat.le_of_ble_eq_true rfl) dX13_beginDeed_47 (fun s5 h => ?_)
  exact m_vret hE hm dX13_beginDeed_50 h
def wm_beginDeed_19 (post : MS → Prop) (σ : MS) (v1 : Int32) : Prop := vp_in v1 600 ∧ (((¬ ((m_kind σ v1.toNatClampNeg) = (5 : Int32))) → (wm_beginDeed_51 post σ v1)) ∧ (((m_kind σ v1.toNatClampNeg) = (5 : Int32)) → (((¬ ((m_drawnMany σ) = (40 : Int32))) → (wm_beginDeed_51 post σ v1)) ∧ (((m_drawnMany σ) = (40 : Int32)) → (wm_beginDeed_38 post σ v1)))))
set_option maxRecDepth 20000 in
theorem km_beginDeed_19 {E : gEnv} {l : Launch} {D : va_G} {cl : List vw_C} {G : gAd} {post : MS → Prop} (hE : gOK E cX13_beginDeed RX13 none 2) (hm : mOK E l D cl G (qV post) 2) (σ : MS) (v1 : Int32) (h : wm_beginDeed_19 post σ v1) : GW E (mW G σ) 19 [(0, .ref (G.1 0)), (1, .int v1)] [] := by
  unfold wm_beginDeed_19 at h
  have hN := hm.2.2.2.2.2.2.1
  refine r_aload_n hE 0 dX13_beginDeed_19 rfl rfl ?_
  refine mg_kind hE hm dX13_beginDeed_20 ?_
  refine r_iload_n hE 1 dX13_beginDeed_23 rfl rfl ?_
  obtain ⟨hi, h⟩ := h
  refine ml_kind hE hm dX13_beginDeed_24 hi ?_
  refine r_iconst (v := (5 : Int32)) hE dX13_beginDeed_25 (by decide) ?_
  refine r_icmp_ne hE 51 dX13_beginDeed_26 (by decide) h (fun h => ?_) (fun h => ?_)
  · exact km_beginDeed_51 hE hm _ _ h
  · refine r_aload_n hE 0 dX13_beginDeed_29 rfl rfl ?_
    refine mg_drawnMany hE hm dX13_beginDeed_30 ?_
    refine r_bipush (v := (40 : Int32)) hE dX13_beginDeed_33 (by decide) ?_
    refine r_icmp_ne hE 51 dX13_beginDeed_35 (by decide) h (fun h => ?_) (fun h => ?_)
    · exact km_beginDeed_51 hE hm _ _ h
    · exact km_beginDeed_38 hE hm _ _ h
def wm_beginDeed (post : MS → Prop) (σ : MS) (a1 : Int32) : Prop := vp_in a1 600 ∧ (((¬ ((m_kind σ a1.toNatClampNeg) = (4 : Int32))) → (wm_beginDeed_19 post σ a1)) ∧ (((m_kind σ a1.toNatClampNeg) = (4 : Int32)) → ((((m_statedMany σ) = (40 : Int32)) → (wm_beginDeed_38 post σ a1)) ∧ ((¬ ((m_statedMany σ) = (40 : Int32))) → (wm_beginDeed_19 post σ a1)))))
set_option maxRecDepth 20000 in
theorem km_beginDeed {l : Launch} {D : va_G} {cl : List vw_C} {G : gAd} {post : MS → Prop} (hcl : mC cl) {σ : MS} {a1 : Int32} (h : wm_beginDeed post σ a1) : mMet l D cl G yX13_beginDeed cX13_beginDeed 2 none 2 [.ref (G.1 0), .int a1] σ (qV post) := by
  unfold wm_beginDeed at h
  refine m_enter hcl (by decide +kernel) rfl [(0, .ref (G.1 0)), (1, .int a1)] rfl (Nat.le_of_ble_eq_true rfl) ?_
  intro E hE hm
  have hN := hm.2.2.2.2.2.2.1
  refine r_aload_n hE 0 dX13_beginDeed_0 rfl rfl ?_
  refine mg_kind hE hm dX13_beginDeed_1 ?_
  refine r_iload_n hE 1 dX13_beginDeed_4 rfl rfl ?_
  obtain ⟨hi, h⟩ := h
  refine ml_kind hE hm dX13_beginDeed_5 hi ?_
  refine r_iconst (v := (4 : Int32)) hE dX13_beginDeed_6 (by decide) ?_
  refine r_icmp_ne hE 19 dX13_beginDeed_7 (by decide) h (fun h => ?_) (fun h => ?_)
  · exact km_beginDeed_19 hE hm _ _ h
  · refine r_aload_n hE 0 dX13_beginDeed_10 rfl rfl ?_
    refine mg_statedMany hE hm dX13_beginDeed_11 ?_
    refine r_bipush (v := (40 : Int32)) hE dX13_beginDeed_14 (by decide) ?_
    refine r_icmp_eq hE 38 dX13_beginDeed_16 (by decide) h (fun h => ?_) (fun h => ?_)
    · exact km_beginDeed_38 hE hm _ _ h
    · exact km_beginDeed_19 hE hm _ _ h
/-! falls -/
def wm_falls (post : MS → Prop) (σ : MS) (a1 : Int32) (a2 : Int32) : Prop := vp_in a2 600 ∧ (wm_note (fun (s1 : MS) => ((¬ ((m_spent s1) = (0 : Int32))) → (post s1)) ∧ (((m_spent s1) = (0 : Int32)) → (wm_behindFall (fun (s2 : MS) => post s2) s1 a2))) σ a1 (m_byteOf σ a2.toNatClampNeg))
set_option maxRecDepth 20000 in
theorem km_falls {l : Launch} {D : va_G} {cl : List vw_C} {G : gAd} {post : MS → Prop} (hcl : mC cl) {σ : MS} {a1 : Int32} {a2 : Int32} (h : wm_falls post σ a1 a2) : mMet l D cl G yX13_falls cX13_falls 3 none 3 [.ref (G.1 0), .int a1, .int a2] σ (qV post) := by
  unfold wm_falls at h
  refine m_enter hcl (by decide +kernel) rfl [(0, .ref (G.1 0)), (1, .int a1), (2, .int a2)] rfl (Nat.le_of_ble_eq_true rfl) ?_
  intro E hE hm
  have hN := hm.2.2.2.2.2.2.1
  refine r_aload_n hE 0 dX13_falls_0 rfl rfl ?_
  refine r_iload_n hE 1 dX13_falls_1 rfl rfl ?_
  refine r_aload_n hE 0 dX13_falls_2 rfl rfl ?_
  refine mg_byteOf hE hm dX13_falls_3 ?_
  refine r_iload_n hE 2 dX13_falls_6 rfl rfl ?_
  obtain ⟨hi, h⟩ := h
  refine ml_byteOf hE hm dX13_falls_7 hi ?_
  refine m_callVv hE hm [.int a1, .int (m_byteOf σ a2.toNatClampNeg)] [] mc_note (km_note hm.2.2.2.2.2.2.2.2 h) (by decide) rfl rfl (Nat.le_of_ble_eq_true rfl) dX13_falls_8 (fun s1 h => ?_)
  refine r_aload_n hE 0 dX13_falls_11 rfl rfl ?_
  refine mg_spent hE hm dX13_falls_12 ?_
  refine r_if_ne hE 23 dX13_falls_15 (by decide) h (fun h => ?_) (fun h => ?_)
  · exact m_vret hE hm dX13_falls_23 h
  · refine r_aload_n hE 0 dX13_falls_18 rfl rfl ?_
    refine r_iload_n hE 2 dX13_falls_19 rfl rfl ?_
    refine m_callVv hE hm [.int a2] [] mc_behindFall (km_behindFall hm.2.2.2.2.2.2.2.2 h) (by decide) rfl rfl (Nat.le_of_ble_eq_true rfl) dX13_falls_20 (fun s2 h => ?_)
    exact m_vret hE hm dX13_falls_23 h
/-! endNumber -/
def wm_endNumber_165 (post : MS → Prop) (σ : MS) (t1 : Int32) (t2 : Int32) : Prop := wm_later (fun (s1 : MS) => post s1) σ t1 t2 (0 : Int64)
set_option maxRecDepth 20000 in
theorem km_endNumber_165 {E : gEnv} {l : Launch} {D : va_G} {cl : List vw_C} {G : gAd} {post : MS → Prop} (hE : gOK E cX13_endNumber RX13 none 4) (hm : mOK E l D cl G (qV post) 4) (σ : MS) (t1 : Int32) (t2 : Int32) (h : wm_endNumber_165 post σ t1 t2) : GW E (mW G σ) 165 [] [.int t2, .int t1, .ref (G.1 0)] := by
  unfold wm_endNumber_165 at h
  have hN := hm.2.2.2.2.2.2.1
  refine r_lconst (v := (0 : Int64)) hE dX13_endNumber_165 (by decide) ?_
  refine m_callVv hE hm [.int t1, .int t2, .long (0 : Int64)] [] mc_later (km_later hm.2.2.2.2.2.2.2.2 h) (by decide) rfl rfl (Nat.le_of_ble_eq_true rfl) dX13_endNumber_166 (fun s1 h => ?_)
  refine r_goto hE 187 dX13_endNumber_169 (by decide) ?_
  exact m_vret hE hm dX13_endNumber_187 h
def wm_endNumber_118 (post : MS → Prop) (σ : MS) (t1 : Int32) : Prop := wm_show (fun (s2 : MS) => post s2) σ t1
set_option maxRecDepth 20000 in
theorem km_endNumber_118 {E : gEnv} {l : Launch} {D : va_G} {cl : List vw_C} {G : gAd} {post : MS → Prop} (hE : gOK E cX13_endNumber RX13 none 4) (hm : mOK E l D cl G (qV post) 4) (σ : MS) (t1 : Int32) (h : wm_endNumber_118 post σ t1) : GW E (mW G σ) 118 [] [.int t1, .ref (G.1 0)] := by
  unfold wm_endNumber_118 at h
  have hN := hm.2.2.2.2.2.2.1
  refine m_callVv hE hm [.int t1] [] mc_show (km_show hm.2.2.2.2.2.2.2.2 h) (by decide) rfl rfl (Nat.le_of_ble_eq_true rfl) dX13_endNumber_118 (fun s2 h => ?_)
  refine r_goto hE 187 dX13_endNumber_121 (by decide) ?_
  exact m_vret hE hm dX13_endNumber_187 h
def wm_endNumber_75 (post : MS → Prop) (σ : MS) (v1 : Int32) (v2 : Int32) (v3 : Int32) : Prop := ((v3 ≤ (0 : Int32)) → (vp_in v1 600 ∧ (((¬ ((m_kind σ v1.toNatClampNeg) = (4 : Int32))) → (vp_in v1 600 ∧ (((¬ ((m_kind σ v1.toNatClampNeg) = (2 : Int32))) → (vp_in ((7 : Int32) * v2) 3360 ∧ (wm_later (fun (s3 : MS) => post s3) σ (4 : Int32) v1 (m_up σ ((7 : Int32) * v2).toNatClampNeg)))) ∧ (((m_kind σ v1.toNatClampNeg) = (2 : Int32)) → (vp_in ((7 : Int32) * v2) 3360 ∧ ((((lg_cmp (m_up σ ((7 : Int32) * v2).toNatClampNeg) (0 : Int64)) = (0 : Int32)) → (vp_in v1 600 ∧ (wm_endNumber_165 post σ (0 : Int32) (m_three σ v1.toNatClampNeg)))) ∧ ((¬ ((lg_cmp (m_up σ ((7 : Int32) * v2).toNatClampNeg) (0 : Int64)) = (0 : Int32))) → (vp_in v1 600 ∧ (wm_endNumber_165 post σ (0 : Int32) (m_two σ v1.toNatClampNeg)))))))))) ∧ (((m_kind σ v1.toNatClampNeg) = (4 : Int32)) → (vp_in ((7 : Int32) * v2) 3360 ∧ ((((lg_cmp (m_up σ ((7 : Int32) * v2).toNatClampNeg) (0 : Int64)) = (0 : Int32)) → (wm_endNumber_118 post σ (0 : Int32))) ∧ ((¬ ((lg_cmp (m_up σ ((7 : Int32) * v2).toNatClampNeg) (0 : Int64)) = (0 : Int32))) → (wm_endNumber_118 post σ (1 : Int32))))))))) ∧ ((¬ (v3 ≤ (0 : Int32))) → (wm_falls (fun (s4 : MS) => post s4) σ v3 v1))
set_option maxRecDepth 20000 in
theorem km_endNumber_75 {E : gEnv} {l : Launch} {D : va_G} {cl : List vw_C} {G : gAd} {post : MS → Prop} (hE : gOK E cX13_endNumber RX13 none 4) (hm : mOK E l D cl G (qV post) 4) (σ : MS) (v1 : Int32) (v2 : Int32) (v3 : Int32) (h : wm_endNumber_75 post σ v1 v2 v3) : GW E (mW G σ) 75 [(0, .ref (G.1 0)), (1, .int v1), (2, .int v2), (3, .int v3)] [] := by
  unfold wm_endNumber_75 at h
  have hN := hm.2.2.2.2.2.2.1
  refine r_iload_n hE 3 dX13_endNumber_75 rfl rfl ?_
  refine r_if_le hE 88 dX13_endNumber_76 (by decide) h (fun h => ?_) (fun h => ?_)
  · refine r_aload_n hE 0 dX13_endNumber_88 rfl rfl ?_
    refine mg_kind hE hm dX13_endNumber_89 ?_
    refine r_iload_n hE 1 dX13_endNumber_92 rfl rfl ?_
    obtain ⟨hi, h⟩ := h
    refine ml_kind hE hm dX13_endNumber_93 hi ?_
    refine r_iconst (v := (4 : Int32)) hE dX13_endNumber_94 (by decide) ?_
    refine r_icmp_ne hE 124 dX13_endNumber_95 (by decide) h (fun h => ?_) (fun h => ?_)
    · refine r_aload_n hE 0 dX13_endNumber_124 rfl rfl ?_
      refine mg_kind hE hm dX13_endNumber_125 ?_
      refine r_iload_n hE 1 dX13_endNumber_128 rfl rfl ?_
      obtain ⟨hi, h⟩ := h
      refine ml_kind hE hm dX13_endNumber_129 hi ?_
      refine r_iconst (v := (2 : Int32)) hE dX13_endNumber_130 (by decide) ?_
      refine r_icmp_ne hE 172 dX13_endNumber_131 (by decide) h (fun h => ?_) (fun h => ?_)
      · refine r_aload_n hE 0 dX13_endNumber_172 rfl rfl ?_
        refine r_iconst (v := (4 : Int32)) hE dX13_endNumber_173 (by decide) ?_
        refine r_iload_n hE 1 dX13_endNumber_174 rfl rfl ?_
        refine r_aload_n hE 0 dX13_endNumber_175 rfl rfl ?_
        refine mg_up hE hm dX13_endNumber_176 ?_
        refine r_bipush (v := (7 : Int32)) hE dX13_endNumber_179 (by decide) ?_
        refine r_iload_n hE 2 dX13_endNumber_181 rfl rfl ?_
        refine r_imul hE dX13_endNumber_182 ?_
        obtain ⟨hi, h⟩ := h
        refine ml_up hE hm dX13_endNumber_183 hi ?_
        refine m_callVv hE hm [.int (4 : Int32), .int v1, .long (m_up σ ((7 : Int32) * v2).toNatClampNeg)] [] mc_later (km_later hm.2.2.2.2.2.2.2.2 h) (by decide) rfl rfl (Nat.le_of_ble_eq_true rfl) dX13_endNumber_184 (fun s3 h => ?_)
        exact m_vret hE hm dX13_endNumber_187 h
      · refine r_aload_n hE 0 dX13_endNumber_134 rfl rfl ?_
        refine r_iconst (v := (0 : Int32)) hE dX13_endNumber_135 (by decide) ?_
        refine r_aload_n hE 0 dX13_endNumber_136 rfl rfl ?_
        refine mg_up hE hm dX13_endNumber_137 ?_
        refine r_bipush (v := (7 : Int32)) hE dX13_endNumber_140 (by decide) ?_
        refine r_iload_n hE 2 dX13_endNumber_142 rfl rfl ?_
        refine r_imul hE dX13_endNumber_143 ?_
        obtain ⟨hi, h⟩ := h
        refine ml_up hE hm dX13_endNumber_144 hi ?_
        refine r_lconst (v := (0 : Int64)) hE dX13_endNumber_145 (by decide) ?_
        refine r_lcmp hE dX13_endNumber_146 ?_
        refine r_if_eq hE 159 dX13_endNumber_147 (by decide) h (fun h => ?_) (fun h => ?_)
        · refine r_aload_n hE 0 dX13_endNumber_159 rfl rfl ?_
          refine mg_three hE hm dX13_endNumber_160 ?_
          refine r_iload_n hE 1 dX13_endNumber_163 rfl rfl ?_
          obtain ⟨hi, h⟩ := h
          refine ml_three hE hm dX13_endNumber_164 hi ?_
          refine r_pick [] rfl ?_
          exact km_endNumber_165 hE hm _ _ _ h
        · refine r_aload_n hE 0 dX13_endNumber_150 rfl rfl ?_
          refine mg_two hE hm dX13_endNumber_151 ?_
          refine r_iload_n hE 1 dX13_endNumber_154 rfl rfl ?_
          obtain ⟨hi, h⟩ := h
          refine ml_two hE hm dX13_endNumber_155 hi ?_
          refine r_goto hE 165 dX13_endNumber_156 (by decide) ?_
          refine r_pick [] rfl ?_
          exact km_endNumber_165 hE hm _ _ _ h
    · refine r_aload_n hE 0 dX13_endNumber_98 rfl rfl ?_
      refine r_aload_n hE 0 dX13_endNumber_99 rfl rfl ?_
      refine mg_up hE hm dX13_endNumber_100 ?_
      refine r_bipush (v := (7 : Int32)) hE dX13_endNumber_103 (by decide) ?_
      refine r_iload_n hE 2 dX13_endNumber_105 rfl rfl ?_
      refine r_imul hE dX13_endNumber_106 ?_
      obtain ⟨hi, h⟩ := h
      refine ml_up hE hm dX13_endNumber_107 hi ?_
      refine r_lconst (v := (0 : Int64)) hE dX13_endNumber_108 (by decide) ?_
      refine r_lcmp hE dX13_endNumber_109 ?_
      refine r_if_eq hE 117 dX13_endNumber_110 (by decide) h (fun h => ?_) (fun h => ?_)
      · refine r_iconst (v := (0 : Int32)) hE dX13_endNumber_117 (by decide) ?_
        refine r_pick [] rfl ?_
        exact km_endNumber_118 hE hm _ _ h
      · refine r_iconst (v := (1 : Int32)) hE dX13_endNumber_113 (by decide) ?_
        refine r_goto hE 118 dX13_endNumber_114 (by decide) ?_
        refine r_pick [] rfl ?_
        exact km_endNumber_118 hE hm _ _ h
  · refine r_aload_n hE 0 dX13_endNumber_79 rfl rfl ?_
    refine r_iload_n hE 3 dX13_endNumber_80 rfl rfl ?_
    refine r_iload_n hE 1 dX13_endNumber_81 rfl rfl ?_
    refine m_callVv hE hm [.int v3, .int v1] [] mc_falls (km_falls hm.2.2.2.2.2.2.2.2 h) (by decide) rfl rfl (Nat.le_of_ble_eq_true rfl) dX13_endNumber_82 (fun s4 h => ?_)
    refine r_goto hE 187 dX13_endNumber_85 (by decide) ?_
    exact m_vret hE hm dX13_endNumber_187 h
def wm_endNumber_74 (post : MS → Prop) (σ : MS) (v1 : Int32) (v2 : Int32) (t0 : Int32) : Prop := wm_endNumber_75 post σ v1 v2 t0
set_option maxRecDepth 20000 in
theorem km_endNumber_74 {E : gEnv} {l : Launch} {D : va_G} {cl : List vw_C} {G : gAd} {post : MS → Prop} (hE : gOK E cX13_endNumber RX13 none 4) (hm : mOK E l D cl G (qV post) 4) (σ : MS) (v1 : Int32) (v2 : Int32) (t0 : Int32) (h : wm_endNumber_74 post σ v1 v2 t0) : GW E (mW G σ) 74 [(0, .ref (G.1 0)), (1, .int v1), (2, .int v2)] [.int t0] := by
  unfold wm_endNumber_74 at h
  have hN := hm.2.2.2.2.2.2.1
  refine r_istore_n hE [(3, .int t0), (0, .ref (G.1 0)), (1, .int v1), (2, .int v2)] dX13_endNumber_74 rfl hN (by decide) rfl ?_
  refine r_pick [1, 2, 3, 0] rfl ?_
  exact km_endNumber_75 hE hm _ _ _ _ h
def wm_endNumber_22 (post : MS → Prop) (σ : MS) (v1 : Int32) (v2 : Int32) (t0 : Int32) : Prop := ((¬ (t0 = (0 : Int32))) → (wm_endNumber_75 post σ v1 v2 t0)) ∧ ((t0 = (0 : Int32)) → (vp_in v1 600 ∧ (((¬ ((m_kind σ v1.toNatClampNeg) = (3 : Int32))) → (wm_endNumber_75 post σ v1 v2 t0)) ∧ (((m_kind σ v1.toNatClampNeg) = (3 : Int32)) → (vp_in ((7 : Int32) * v2) 3360 ∧ ((((lg_cmp (m_low σ ((7 : Int32) * v2).toNatClampNeg) (1 : Int64)) = (0 : Int32)) → (vp_in ((7 : Int32) * v2) 3360 ∧ ((((0 : Int32) ≤ (lg_cmp (m_up σ ((7 : Int32) * v2).toNatClampNeg) (0 : Int64))) → (wm_endNumber_74 post σ v1 v2 (0 : Int32))) ∧ ((¬ ((0 : Int32) ≤ (lg_cmp (m_up σ ((7 : Int32) * v2).toNatClampNeg) (0 : Int64)))) → (wm_endNumber_74 post σ v1 v2 (4 : Int32)))))) ∧ ((¬ ((lg_cmp (m_low σ ((7 : Int32) * v2).toNatClampNeg) (1 : Int64)) = (0 : Int32))) → (wm_endNumber_74 post σ v1 v2 (2 : Int32)))))))))
set_option maxRecDepth 20000 in
theorem km_endNumber_22 {E : gEnv} {l : Launch} {D : va_G} {cl : List vw_C} {G : gAd} {post : MS → Prop} (hE : gOK E cX13_endNumber RX13 none 4) (hm : mOK E l D cl G (qV post) 4) (σ : MS) (v1 : Int32) (v2 : Int32) (t0 : Int32) (h : wm_endNumber_22 post σ v1 v2 t0) : GW E (mW G σ) 22 [(0, .ref (G.1 0)), (1, .int v1), (2, .int v2)] [.int t0] := by
  unfold wm_endNumber_22 at h
  have hN := hm.2.2.2.2.2.2.1
  refine r_istore_n hE [(3, .int t0), (0, .ref (G.1 0)), (1, .int v1), (2, .int v2)] dX13_endNumber_22 rfl hN (by decide) rfl ?_
  refine r_iload_n hE 0 dX13_endNumber_23 rfl rfl ?_
  refine r_if_ne hE 75 dX13_endNumber_24 (by decide) h (fun h => ?_) (fun h => ?_)
  · refine r_pick [1, 2, 3, 0] rfl ?_
    exact km_endNumber_75 hE hm _ _ _ _ h
  · refine r_aload_n hE 1 dX13_endNumber_27 rfl rfl ?_
    refine mg_kind hE hm dX13_endNumber_28 ?_
    refine r_iload_n hE 2 dX13_endNumber_31 rfl rfl ?_
    obtain ⟨hi, h⟩ := h
    refine ml_kind hE hm dX13_endNumber_32 hi ?_
    refine r_iconst (v := (3 : Int32)) hE dX13_endNumber_33 (by decide) ?_
    refine r_icmp_ne hE 75 dX13_endNumber_34 (by decide) h (fun h => ?_) (fun h => ?_)
    · refine r_pick [1, 2, 3, 0] rfl ?_
      exact km_endNumber_75 hE hm _ _ _ _ h
    · refine r_aload_n hE 1 dX13_endNumber_37 rfl rfl ?_
      refine mg_low hE hm dX13_endNumber_38 ?_
      refine r_bipush (v := (7 : Int32)) hE dX13_endNumber_41 (by decide) ?_
      refine r_iload_n hE 3 dX13_endNumber_43 rfl rfl ?_
      refine r_imul hE dX13_endNumber_44 ?_
      obtain ⟨hi, h⟩ := h
      refine ml_low hE hm dX13_endNumber_45 hi ?_
      refine r_lconst (v := (1 : Int64)) hE dX13_endNumber_46 (by decide) ?_
      refine r_lcmp hE dX13_endNumber_47 ?_
      refine r_if_eq hE 55 dX13_endNumber_48 (by decide) h (fun h => ?_) (fun h => ?_)
      · refine r_aload_n hE 1 dX13_endNumber_55 rfl rfl ?_
        refine mg_up hE hm dX13_endNumber_56 ?_
        refine r_bipush (v := (7 : Int32)) hE dX13_endNumber_59 (by decide) ?_
        refine r_iload_n hE 3 dX13_endNumber_61 rfl rfl ?_
        refine r_imul hE dX13_endNumber_62 ?_
        obtain ⟨hi, h⟩ := h
        refine ml_up hE hm dX13_endNumber_63 hi ?_
        refine r_lconst (v := (0 : Int64)) hE dX13_endNumber_64 (by decide) ?_
        refine r_lcmp hE dX13_endNumber_65 ?_
        refine r_if_ge hE 73 dX13_endNumber_66 (by decide) h (fun h => ?_) (fun h => ?_)
        · refine r_iconst (v := (0 : Int32)) hE dX13_endNumber_73 (by decide) ?_
          refine r_pick [1, 2, 3] rfl ?_
          exact km_endNumber_74 hE hm _ _ _ _ h
        · refine r_iconst (v := (4 : Int32)) hE dX13_endNumber_69 (by decide) ?_
          refine r_goto hE 74 dX13_endNumber_70 (by decide) ?_
          refine r_pick [1, 2, 3] rfl ?_
          exact km_endNumber_74 hE hm _ _ _ _ h
      · refine r_iconst (v := (2 : Int32)) hE dX13_endNumber_51 (by decide) ?_
        refine r_goto hE 74 dX13_endNumber_52 (by decide) ?_
        refine r_pick [1, 2, 3] rfl ?_
        exact km_endNumber_74 hE hm _ _ _ _ h
def wm_endNumber (post : MS → Prop) (σ : MS) (a1 : Int32) (a2 : Int32) : Prop := (((0 : Int32) ≤ a2) → (vp_in a2 480 ∧ ((((m_sort σ a2.toNatClampNeg) = (0 : Int32)) → (wm_endNumber_22 post σ a1 a2 (0 : Int32))) ∧ ((¬ ((m_sort σ a2.toNatClampNeg) = (0 : Int32))) → (wm_endNumber_22 post σ a1 a2 (2 : Int32)))))) ∧ ((¬ ((0 : Int32) ≤ a2)) → (wm_endNumber_22 post σ a1 a2 (1 : Int32)))
set_option maxRecDepth 20000 in
theorem km_endNumber {l : Launch} {D : va_G} {cl : List vw_C} {G : gAd} {post : MS → Prop} (hcl : mC cl) {σ : MS} {a1 : Int32} {a2 : Int32} (h : wm_endNumber post σ a1 a2) : mMet l D cl G yX13_endNumber cX13_endNumber 4 none 4 [.ref (G.1 0), .int a1, .int a2] σ (qV post) := by
  unfold wm_endNumber at h
  refine m_enter hcl (by decide +kernel) rfl [(0, .ref (G.1 0)), (1, .int a1), (2, .int a2)] rfl (Nat.le_of_ble_eq_true rfl) ?_
  intro E hE hm
  have hN := hm.2.2.2.2.2.2.1
  refine r_iload_n hE 2 dX13_endNumber_0 rfl rfl ?_
  refine r_if_ge hE 8 dX13_endNumber_1 (by decide) h (fun h => ?_) (fun h => ?_)
  · refine r_aload_n hE 0 dX13_endNumber_8 rfl rfl ?_
    refine mg_sort hE hm dX13_endNumber_9 ?_
    refine r_iload_n hE 2 dX13_endNumber_12 rfl rfl ?_
    obtain ⟨hi, h⟩ := h
    refine ml_sort hE hm dX13_endNumber_13 hi ?_
    refine r_if_eq hE 21 dX13_endNumber_14 (by decide) h (fun h => ?_) (fun h => ?_)
    · refine r_iconst (v := (0 : Int32)) hE dX13_endNumber_21 (by decide) ?_
      exact km_endNumber_22 hE hm _ _ _ _ h
    · refine r_iconst (v := (2 : Int32)) hE dX13_endNumber_17 (by decide) ?_
      refine r_goto hE 22 dX13_endNumber_18 (by decide) ?_
      exact km_endNumber_22 hE hm _ _ _ _ h
  · refine r_iconst (v := (1 : Int32)) hE dX13_endNumber_4 (by decide) ?_
    refine r_goto hE 22 dX13_endNumber_5 (by decide) ?_
    exact km_endNumber_22 hE hm _ _ _ _ h
/-! endPut -/
def wm_endPut_200 (post : MS → Prop) (σ : MS) (v1 : Int32) (v2 : Int32) (v3 : Int32) (v4 : Int32) (v5 : Int32) : Prop := ((v5 ≤ (0 : Int32)) → (vp_in v4 480 ∧ (vp_in ((7 : Int32) * v2) 3360 ∧ (vp_in (((20 : Int32) * (m_rowOf σ v4.toNatClampNeg)) + ((m_up σ ((7 : Int32) * v2).toNatClampNeg).toInt32)) 9600 ∧ (∀ s1 : MS, s1 = m_rowItem_s σ (((20 : Int32) * (m_rowOf σ v4.toNatClampNeg)) + ((m_up σ ((7 : Int32) * v2).toNatClampNeg).toInt32)).toNatClampNeg v3 → post s1))))) ∧ ((¬ (v5 ≤ (0 : Int32))) → (wm_falls (fun (s2 : MS) => post s2) σ v5 v1))
set_option maxRecDepth 20000 in
theorem km_endPut_200 {E : gEnv} {l : Launch} {D : va_G} {cl : List vw_C} {G : gAd} {post : MS → Prop} (hE : gOK E cX13_endPut RX13 none 4) (hm : mOK E l D cl G (qV post) 8) (σ : MS) (v1 : Int32) (v2 : Int32) (v3 : Int32) (v4 : Int32) (v5 : Int32) (h : wm_endPut_200 post σ v1 v2 v3 v4 v5) : GW E (mW G σ) 200 [(0, .ref (G.1 0)), (1, .int v1), (2, .int v2), (3, .int v3), (4, .int v4), (5, .int v5)] [] := by
  unfold wm_endPut_200 at h
  have hN := hm.2.2.2.2.2.2.1
  refine r_iload hE 5 dX13_endPut_200 rfl ?_
  refine r_if_le hE 215 dX13_endPut_202 (by decide) h (fun h => ?_) (fun h => ?_)
  · refine r_aload_n hE 0 dX13_endPut_215 rfl rfl ?_
    refine mg_rowItem hE hm dX13_endPut_216 ?_
    refine r_bipush (v := (20 : Int32)) hE dX13_endPut_219 (by decide) ?_
    refine r_aload_n hE 0 dX13_endPut_221 rfl rfl ?_
    refine mg_rowOf hE hm dX13_endPut_222 ?_
    refine r_iload hE 4 dX13_endPut_225 rfl ?_
    obtain ⟨hi, h⟩ := h
    refine ml_rowOf hE hm dX13_endPut_227 hi ?_
    refine r_imul hE dX13_endPut_228 ?_
    refine r_aload_n hE 0 dX13_endPut_229 rfl rfl ?_
    refine mg_up hE hm dX13_endPut_230 ?_
    refine r_bipush (v := (7 : Int32)) hE dX13_endPut_233 (by decide) ?_
    refine r_iload_n hE 2 dX13_endPut_235 rfl rfl ?_
    refine r_imul hE dX13_endPut_236 ?_
    obtain ⟨hi, h⟩ := h
    refine ml_up hE hm dX13_endPut_237 hi ?_
    refine r_l2i hE dX13_endPut_238 ?_
    refine r_iadd hE dX13_endPut_239 ?_
    refine r_iload_n hE 3 dX13_endPut_240 rfl rfl ?_
    obtain ⟨hi, h⟩ := h
    refine ms_rowItem hE hm dX13_endPut_241 hi h (fun s1 h => ?_)
    exact m_vret hE hm dX13_endPut_242 h
  · refine r_aload_n hE 0 dX13_endPut_205 rfl rfl ?_
    refine r_iload hE 5 dX13_endPut_206 rfl ?_
    refine r_iload_n hE 1 dX13_endPut_208 rfl rfl ?_
    refine m_callVv hE hm [.int v5, .int v1] [] mc_falls (km_falls hm.2.2.2.2.2.2.2.2 h) (by decide) rfl rfl (Nat.le_of_ble_eq_true rfl) dX13_endPut_209 (fun s2 h => ?_)
    refine r_goto hE 242 dX13_endPut_212 (by decide) ?_
    exact m_vret hE hm dX13_endPut_242 h
def wm_endPut_198 (post : MS → Prop) (σ : MS) (v1 : Int32) (v2 : Int32) (v3 : Int32) (v4 : Int32) (t0 : Int32) : Prop := wm_endPut_200 post σ v1 v2 v3 v4 t0
set_option maxRecDepth 20000 in
theorem km_endPut_198 {E : gEnv} {l : Launch} {D : va_G} {cl : List vw_C} {G : gAd} {post : MS → Prop} (hE : gOK E cX13_endPut RX13 none 4) (hm : mOK E l D cl G (qV post) 8) (σ : MS) (v1 : Int32) (v2 : Int32) (v3 : Int32) (v4 : Int32) (t0 : Int32) (h : wm_endPut_198 post σ v1 v2 v3 v4 t0) : GW E (mW G σ) 198 [(0, .ref (G.1 0)), (1, .int v1), (2, .int v2), (3, .int v3), (4, .int v4)] [.int t0] := by
  unfold wm_endPut_198 at h
  have hN := hm.2.2.2.2.2.2.1
  refine r_istore hE [(5, .int t0), (0, .ref (G.1 0)), (1, .int v1), (2, .int v2), (3, .int v3), (4, .int v4)] dX13_endPut_198 hN (by decide) rfl ?_
  refine r_pick [1, 2, 3, 4, 5, 0] rfl ?_
  exact km_endPut_200 hE hm _ _ _ _ _ _ h
def wm_endPut_186 (post : MS → Prop) (σ : MS) (v1 : Int32) (v2 : Int32) (v3 : Int32) (v4 : Int32) (t0 : Int32) : Prop := ((t0 = (0 : Int32)) → (wm_endPut_198 post σ v1 v2 v3 v4 (5 : Int32))) ∧ ((¬ (t0 = (0 : Int32))) → (wm_endPut_198 post σ v1 v2 v3 v4 (0 : Int32)))
set_option maxRecDepth 20000 in
theorem km_endPut_186 {E : gEnv} {l : Launch} {D : va_G} {cl : List vw_C} {G : gAd} {post : MS → Prop} (hE : gOK E cX13_endPut RX13 none 4) (hm : mOK E l D cl G (qV post) 8) (σ : MS) (v1 : Int32) (v2 : Int32) (v3 : Int32) (v4 : Int32) (t0 : Int32) (h : wm_endPut_186 post σ v1 v2 v3 v4 t0) : GW E (mW G σ) 186 [(0, .ref (G.1 0)), (1, .int v1), (2, .int v2), (3, .int v3), (4, .int v4)] [.int t0] := by
  unfold wm_endPut_186 at h
  have hN := hm.2.2.2.2.2.2.1
  refine r_istore hE [(7, .int t0), (0, .ref (G.1 0)), (1, .int v1), (2, .int v2), (3, .int v3), (4, .int v4)] dX13_endPut_186 hN (by decide) rfl ?_
  refine r_iload hE 0 dX13_endPut_188 rfl ?_
  refine r_if_eq hE 197 dX13_endPut_190 (by decide) h (fun h => ?_) (fun h => ?_)
  · refine r_iconst (v := (5 : Int32)) hE dX13_endPut_197 (by decide) ?_
    refine r_pick [1, 2, 3, 4, 5] rfl ?_
    exact km_endPut_198 hE hm _ _ _ _ _ _ h
  · refine r_iconst (v := (0 : Int32)) hE dX13_endPut_193 (by decide) ?_
    refine r_goto hE 198 dX13_endPut_194 (by decide) ?_
    refine r_pick [1, 2, 3, 4, 5] rfl ?_
    exact km_endPut_198 hE hm _ _ _ _ _ _ h
def wm_endPut_125 (post : MS → Prop) (σ : MS) (v1 : Int32) (v2 : Int32) (v3 : Int32) (v4 : Int32) (v5 : Int32) (t0 : Int32) : Prop := ((v3 < (0 : Int32)) → (wm_endPut_200 post σ v1 v2 v3 v4 v5)) ∧ ((¬ (v3 < (0 : Int32))) → (((t0 ≤ (0 : Int32)) → (wm_endPut_200 post σ v1 v2 v3 v4 v5)) ∧ ((¬ (t0 ≤ (0 : Int32))) → (((¬ (t0 = (1 : Int32))) → (((¬ (t0 = (2 : Int32))) → (vp_in v3 480 ∧ (((¬ ((m_sort σ v3.toNatClampNeg) = (0 : Int32))) → (wm_endPut_186 post σ v1 v2 v3 v4 (0 : Int32))) ∧ (((m_sort σ v3.toNatClampNeg) = (0 : Int32)) → (wm_endPut_186 post σ v1 v2 v3 v4 (1 : Int32)))))) ∧ ((t0 = (2 : Int32)) → (vp_in v3 480 ∧ (wm_isLine (fun (s3 : MS) (r4 : Int32) => wm_endPut_186 post s3 v1 v2 v3 v4 r4) σ (m_sort σ v3.toNatClampNeg)))))) ∧ ((t0 = (1 : Int32)) → (vp_in v3 480 ∧ (wm_isPoint (fun (s5 : MS) (r6 : Int32) => wm_endPut_186 post s5 v1 v2 v3 v4 r6) σ (m_sort σ v3.toNatClampNeg))))))))
set_option maxRecDepth 20000 in
theorem km_endPut_125 {E : gEnv} {l : Launch} {D : va_G} {cl : List vw_C} {G : gAd} {post : MS → Prop} (hE : gOK E cX13_endPut RX13 none 4) (hm : mOK E l D cl G (qV post) 8) (σ : MS) (v1 : Int32) (v2 : Int32) (v3 : Int32) (v4 : Int32) (v5 : Int32) (t0 : Int32) (h : wm_endPut_125 post σ v1 v2 v3 v4 v5 t0) : GW E (mW G σ) 125 [(0, .ref (G.1 0)), (1, .int v1), (2, .int v2), (3, .int v3), (4, .int v4), (5, .int v5)] [.int t0] := by
  unfold wm_endPut_125 at h
  have hN := hm.2.2.2.2.2.2.1
  refine r_istore hE [(6, .int t0), (0, .ref (G.1 0)), (1, .int v1), (2, .int v2), (3, .int v3), (4, .int v4), (5, .int v5)] dX13_endPut_125 hN (by decide) rfl ?_
  refine r_iload_n hE 4 dX13_endPut_127 rfl rfl ?_
  refine r_if_lt hE 200 dX13_endPut_128 (by decide) h (fun h => ?_) (fun h => ?_)
  · refine r_pick [1, 2, 3, 4, 5, 6] rfl ?_
    exact km_endPut_200 hE hm _ _ _ _ _ _ h
  · refine r_iload hE 0 dX13_endPut_131 rfl ?_
    refine r_if_le hE 200 dX13_endPut_133 (by decide) h (fun h => ?_) (fun h => ?_)
    · refine r_pick [1, 2, 3, 4, 5, 6] rfl ?_
      exact km_endPut_200 hE hm _ _ _ _ _ _ h
    · refine r_iload hE 0 dX13_endPut_136 rfl ?_
      refine r_iconst (v := (1 : Int32)) hE dX13_endPut_138 (by decide) ?_
      refine r_icmp_ne hE 154 dX13_endPut_139 (by decide) h (fun h => ?_) (fun h => ?_)
      · refine r_iload hE 0 dX13_endPut_154 rfl ?_
        refine r_iconst (v := (2 : Int32)) hE dX13_endPut_156 (by decide) ?_
        refine r_icmp_ne hE 172 dX13_endPut_157 (by decide) h (fun h => ?_) (fun h => ?_)
        · refine r_aload_n hE 1 dX13_endPut_172 rfl rfl ?_
          refine mg_sort hE hm dX13_endPut_173 ?_
          refine r_iload_n hE 4 dX13_endPut_176 rfl rfl ?_
          obtain ⟨hi, h⟩ := h
          refine ml_sort hE hm dX13_endPut_177 hi ?_
          refine r_if_ne hE 185 dX13_endPut_178 (by decide) h (fun h => ?_) (fun h => ?_)
          · refine r_iconst (v := (0 : Int32)) hE dX13_endPut_185 (by decide) ?_
            refine r_pick [1, 2, 3, 4, 5] rfl ?_
            exact km_endPut_186 hE hm _ _ _ _ _ _ h
          · refine r_iconst (v := (1 : Int32)) hE dX13_endPut_181 (by decide) ?_
            refine r_goto hE 186 dX13_endPut_182 (by decide) ?_
            refine r_pick [1, 2, 3, 4, 5] rfl ?_
            exact km_endPut_186 hE hm _ _ _ _ _ _ h
        · refine r_aload_n hE 1 dX13_endPut_160 rfl rfl ?_
          refine mg_sort hE hm dX13_endPut_161 ?_
          refine r_iload_n hE 4 dX13_endPut_164 rfl rfl ?_
          obtain ⟨hi, h⟩ := h
          refine ml_sort hE hm dX13_endPut_165 hi ?_
          refine m_callSi hE hm [.int (m_sort σ v3.toNatClampNeg)] [] mc_isLine (km_isLine hm.2.2.2.2.2.2.2.2 h) (by decide) rfl rfl (Nat.le_of_ble_eq_true rfl) dX13_endPut_166 (fun s3 r4 h => ?_)
          refine r_goto hE 186 dX13_endPut_169 (by decide) ?_
          refine r_pick [1, 2, 3, 4, 5] rfl ?_
          exact km_endPut_186 hE hm _ _ _ _ _ _ h
      · refine r_aload_n hE 1 dX13_endPut_142 rfl rfl ?_
        refine mg_sort hE hm dX13_endPut_143 ?_
        refine r_iload_n hE 4 dX13_endPut_146 rfl rfl ?_
        obtain ⟨hi, h⟩ := h
        refine ml_sort hE hm dX13_endPut_147 hi ?_
        refine m_callSi hE hm [.int (m_sort σ v3.toNatClampNeg)] [] mc_isPoint (km_isPoint hm.2.2.2.2.2.2.2.2 h) (by decide) rfl rfl (Nat.le_of_ble_eq_true rfl) dX13_endPut_148 (fun s5 r6 h => ?_)
        refine r_goto hE 186 dX13_endPut_151 (by decide) ?_
        refine r_pick [1, 2, 3, 4, 5] rfl ?_
        exact km_endPut_186 hE hm _ _ _ _ _ _ h
def wm_endPut_102 (post : MS → Prop) (σ : MS) (v1 : Int32) (v2 : Int32) (v3 : Int32) (v4 : Int32) (t0 : Int32) : Prop := ((t0 ≤ (0 : Int32)) → (vp_in v4 480 ∧ (vp_in (m_rowOf σ v4.toNatClampNeg) 480 ∧ (wm_endPut_125 post σ v1 v2 v3 v4 t0 (m_rowSort σ (m_rowOf σ v4.toNatClampNeg).toNatClampNeg))))) ∧ ((¬ (t0 ≤ (0 : Int32))) → (wm_endPut_125 post σ v1 v2 v3 v4 t0 (0 : Int32)))
set_option maxRecDepth 20000 in
theorem km_endPut_102 {E : gEnv} {l : Launch} {D : va_G} {cl : List vw_C} {G : gAd} {post : MS → Prop} (hE : gOK E cX13_endPut RX13 none 4) (hm : mOK E l D cl G (qV post) 8) (σ : MS) (v1 : Int32) (v2 : Int32) (v3 : Int32) (v4 : Int32) (t0 : Int32) (h : wm_endPut_102 post σ v1 v2 v3 v4 t0) : GW E (mW G σ) 102 [(0, .ref (G.1 0)), (1, .int v1), (2, .int v2), (3, .int v3), (4, .int v4)] [.int t0] := by
  unfold wm_endPut_102 at h
  have hN := hm.2.2.2.2.2.2.1
  refine r_istore hE [(5, .int t0), (0, .ref (G.1 0)), (1, .int v1), (2, .int v2), (3, .int v3), (4, .int v4)] dX13_endPut_102 hN (by decide) rfl ?_
  refine r_iload hE 0 dX13_endPut_104 rfl ?_
  refine r_if_le hE 113 dX13_endPut_106 (by decide) h (fun h => ?_) (fun h => ?_)
  · refine r_aload_n hE 1 dX13_endPut_113 rfl rfl ?_
    refine mg_rowSort hE hm dX13_endPut_114 ?_
    refine r_aload_n hE 1 dX13_endPut_117 rfl rfl ?_
    refine mg_rowOf hE hm dX13_endPut_118 ?_
    refine r_iload hE 5 dX13_endPut_121 rfl ?_
    obtain ⟨hi, h⟩ := h
    refine ml_rowOf hE hm dX13_endPut_123 hi ?_
    obtain ⟨hi, h⟩ := h
    refine ml_rowSort hE hm dX13_endPut_124 hi ?_
    refine r_pick [1, 2, 3, 4, 5, 0] rfl ?_
    exact km_endPut_125 hE hm _ _ _ _ _ _ _ h
  · refine r_iconst (v := (0 : Int32)) hE dX13_endPut_109 (by decide) ?_
    refine r_goto hE 125 dX13_endPut_110 (by decide) ?_
    refine r_pick [1, 2, 3, 4, 5, 0] rfl ?_
    exact km_endPut_125 hE hm _ _ _ _ _ _ _ h
def wm_endPut (post : MS → Prop) (σ : MS) (a1 : Int32) (a2 : Int32) (a3 : Int32) : Prop := vp_in a1 600 ∧ (vp_in (((20 : Int32) * (m_depth σ)) + (m_one σ a1.toNatClampNeg)) 180 ∧ (∀ x7 : Int32, x7 = m_held σ (((20 : Int32) * (m_depth σ)) + (m_one σ a1.toNatClampNeg)).toNatClampNeg → (((0 : Int32) ≤ x7) → (vp_in x7 480 ∧ ((((m_sort σ x7.toNatClampNeg) = (6 : Int32)) → ((((0 : Int32) ≤ a2) → (wm_isWhole (fun (s8 : MS) (r9 : Int32) => ((¬ (r9 = (0 : Int32))) → (vp_in ((7 : Int32) * a2) 3360 ∧ (vp_in x7 480 ∧ (vp_in (m_rowOf s8 x7.toNatClampNeg) 480 ∧ (wm_in (fun (s10 : MS) (r11 : Int32) => ((¬ (r11 = (0 : Int32))) → (wm_endPut_102 post s10 a1 a2 a3 x7 (0 : Int32))) ∧ ((r11 = (0 : Int32)) → (wm_endPut_102 post s10 a1 a2 a3 x7 (3 : Int32)))) s8 (m_up s8 ((7 : Int32) * a2).toNatClampNeg) (0 : Int64) (((m_rowSize s8 (m_rowOf s8 x7.toNatClampNeg).toNatClampNeg) - (1 : Int32)).toInt64)))))) ∧ ((r9 = (0 : Int32)) → (wm_endPut_102 post s8 a1 a2 a3 x7 (2 : Int32)))) σ a2)) ∧ ((¬ ((0 : Int32) ≤ a2)) → (wm_endPut_102 post σ a1 a2 a3 x7 (1 : Int32))))) ∧ ((¬ ((m_sort σ x7.toNatClampNeg) = (6 : Int32))) → (wm_endPut_102 post σ a1 a2 a3 x7 (2 : Int32)))))) ∧ ((¬ ((0 : Int32) ≤ x7)) → (wm_endPut_102 post σ a1 a2 a3 x7 (1 : Int32)))))
set_option maxRecDepth 20000 in
theorem km_endPut {l : Launch} {D : va_G} {cl : List vw_C} {G : gAd} {post : MS → Prop} (hcl : mC cl) {σ : MS} {a1 : Int32} {a2 : Int32} {a3 : Int32} (h : wm_endPut post σ a1 a2 a3) : mMet l D cl G yX13_endPut cX13_endPut 8 none 4 [.ref (G.1 0), .int a1, .int a2, .int a3] σ (qV post) := by
  unfold wm_endPut at h
  refine m_enter hcl (by decide +kernel) rfl [(0, .ref (G.1 0)), (1, .int a1), (2, .int a2), (3, .int a3)] rfl (Nat.le_of_ble_eq_true rfl) ?_
  intro E hE hm
  have hN := hm.2.2.2.2.2.2.1
  refine r_aload_n hE 0 dX13_endPut_0 rfl rfl ?_
  refine mg_held hE hm dX13_endPut_1 ?_
  refine r_bipush (v := (20 : Int32)) hE dX13_endPut_4 (by decide) ?_
  refine r_aload_n hE 0 dX13_endPut_6 rfl rfl ?_
  refine mg_depth hE hm dX13_endPut_7 ?_
  refine r_imul hE dX13_endPut_10 ?_
  refine r_aload_n hE 0 dX13_endPut_11 rfl rfl ?_
  refine mg_one hE hm dX13_endPut_12 ?_
  refine r_iload_n hE 1 dX13_endPut_15 rfl rfl ?_
  obtain ⟨hi, h⟩ := h
  refine ml_one hE hm dX13_endPut_16 hi ?_
  refine r_iadd hE dX13_endPut_17 ?_
  obtain ⟨hi, h⟩ := h
  refine ml_held hE hm dX13_endPut_18 hi ?_
  refine r_topi h (fun x7 ex7 h => ?_)
  refine r_istore hE [(4, .int x7), (0, .ref (G.1 0)), (1, .int a1), (2, .int a2), (3, .int a3)] dX13_endPut_19 hN (by decide) rfl ?_
  refine r_iload hE 0 dX13_endPut_21 rfl ?_
  refine r_if_ge hE 30 dX13_endPut_23 (by decide) h (fun h => ?_) (fun h => ?_)
  · refine r_aload_n hE 1 dX13_endPut_30 rfl rfl ?_
    refine mg_sort hE hm dX13_endPut_31 ?_
    refine r_iload hE 0 dX13_endPut_34 rfl ?_
    obtain ⟨hi, h⟩ := h
    refine ml_sort hE hm dX13_endPut_36 hi ?_
    refine r_bipush (v := (6 : Int32)) hE dX13_endPut_37 (by decide) ?_
    refine r_icmp_eq hE 46 dX13_endPut_39 (by decide) h (fun h => ?_) (fun h => ?_)
    · refine r_iload_n hE 3 dX13_endPut_46 rfl rfl ?_
      refine r_if_ge hE 54 dX13_endPut_47 (by decide) h (fun h => ?_) (fun h => ?_)
      · refine r_aload_n hE 1 dX13_endPut_54 rfl rfl ?_
        refine r_iload_n hE 3 dX13_endPut_55 rfl rfl ?_
        refine m_callVi hE hm [.int a2] [] mc_isWhole (km_isWhole hm.2.2.2.2.2.2.2.2 h) (by decide) rfl rfl (Nat.le_of_ble_eq_true rfl) dX13_endPut_56 (fun s8 r9 h => ?_)
        refine r_if_ne hE 66 dX13_endPut_59 (by decide) h (fun h => ?_) (fun h => ?_)
        · refine r_aload_n hE 1 dX13_endPut_66 rfl rfl ?_
          refine mg_up hE hm dX13_endPut_67 ?_
          refine r_bipush (v := (7 : Int32)) hE dX13_endPut_70 (by decide) ?_
          refine r_iload_n hE 3 dX13_endPut_72 rfl rfl ?_
          refine r_imul hE dX13_endPut_73 ?_
          obtain ⟨hi, h⟩ := h
          refine ml_up hE hm dX13_endPut_74 hi ?_
          refine r_lconst (v := (0 : Int64)) hE dX13_endPut_75 (by decide) ?_
          refine r_aload_n hE 1 dX13_endPut_76 rfl rfl ?_
          refine mg_rowSize hE hm dX13_endPut_77 ?_
          refine r_aload_n hE 1 dX13_endPut_80 rfl rfl ?_
          refine mg_rowOf hE hm dX13_endPut_81 ?_
          refine r_iload hE 0 dX13_endPut_84 rfl ?_
          obtain ⟨hi, h⟩ := h
          refine ml_rowOf hE hm dX13_endPut_86 hi ?_
          obtain ⟨hi, h⟩ := h
          refine ml_rowSize hE hm dX13_endPut_87 hi ?_
          refine r_iconst (v := (1 : Int32)) hE dX13_endPut_88 (by decide) ?_
          refine r_isub hE dX13_endPut_89 ?_
          refine r_i2l hE dX13_endPut_90 ?_
          refine m_callSi hE hm [.long (m_up s8 ((7 : Int32) * a2).toNatClampNeg), .long (0 : Int64), .long (((m_rowSize s8 (m_rowOf s8 x7.toNatClampNeg).toNatClampNeg) - (1 : Int32)).toInt64)] [] mc_in (km_in hm.2.2.2.2.2.2.2.2 h) (by decide) rfl rfl (Nat.le_of_ble_eq_true rfl) dX13_endPut_91 (fun s10 r11 h => ?_)
          refine r_if_ne hE 101 dX13_endPut_94 (by decide) h (fun h => ?_) (fun h => ?_)
          · refine r_iconst (v := (0 : Int32)) hE dX13_endPut_101 (by decide) ?_
            refine r_pick [1, 2, 3, 4, 0] rfl ?_
            exact km_endPut_102 hE hm _ _ _ _ _ _ h
          · refine r_iconst (v := (3 : Int32)) hE dX13_endPut_97 (by decide) ?_
            refine r_goto hE 102 dX13_endPut_98 (by decide) ?_
            refine r_pick [1, 2, 3, 4, 0] rfl ?_
            exact km_endPut_102 hE hm _ _ _ _ _ _ h
        · refine r_iconst (v := (2 : Int32)) hE dX13_endPut_62 (by decide) ?_
          refine r_goto hE 102 dX13_endPut_63 (by decide) ?_
          refine r_pick [1, 2, 3, 4, 0] rfl ?_
          exact km_endPut_102 hE hm _ _ _ _ _ _ h
      · refine r_iconst (v := (1 : Int32)) hE dX13_endPut_50 (by decide) ?_
        refine r_goto hE 102 dX13_endPut_51 (by decide) ?_
        refine r_pick [1, 2, 3, 4, 0] rfl ?_
        exact km_endPut_102 hE hm _ _ _ _ _ _ h
    · refine r_iconst (v := (2 : Int32)) hE dX13_endPut_42 (by decide) ?_
      refine r_goto hE 102 dX13_endPut_43 (by decide) ?_
      refine r_pick [1, 2, 3, 4, 0] rfl ?_
      exact km_endPut_102 hE hm _ _ _ _ _ _ h
  · refine r_iconst (v := (1 : Int32)) hE dX13_endPut_26 (by decide) ?_
    refine r_goto hE 102 dX13_endPut_27 (by decide) ?_
    refine r_pick [1, 2, 3, 4, 0] rfl ?_
    exact km_endPut_102 hE hm _ _ _ _ _ _ h
/-! endDeed -/
def wm_endDeed_147 (post : MS → Prop) (σ : MS) (v1 : Int32) (v2 : Int32) : Prop := wm_endNumber (fun (s1 : MS) => post s1) σ v1 v2
set_option maxRecDepth 20000 in
theorem km_endDeed_147 {E : gEnv} {l : Launch} {D : va_G} {cl : List vw_C} {G : gAd} {post : MS → Prop} (hE : gOK E cX13_endDeed RX13 none 5) (hm : mOK E l D cl G (qV post) 3) (σ : MS) (v1 : Int32) (v2 : Int32) (h : wm_endDeed_147 post σ v1 v2) : GW E (mW G σ) 147 [(0, .ref (G.1 0)), (1, .int v1), (2, .int v2)] [] := by
  unfold wm_endDeed_147 at h
  have hN := hm.2.2.2.2.2.2.1
  refine r_aload_n hE 0 dX13_endDeed_147 rfl rfl ?_
  refine r_iload_n hE 1 dX13_endDeed_148 rfl rfl ?_
  refine r_iload_n hE 2 dX13_endDeed_149 rfl rfl ?_
  refine m_callVv hE hm [.int v1, .int v2] [] mc_endNumber (km_endNumber hm.2.2.2.2.2.2.2.2 h) (by decide) rfl rfl (Nat.le_of_ble_eq_true rfl) dX13_endDeed_150 (fun s1 h => ?_)
  exact m_vret hE hm dX13_endDeed_153 h
def wm_endDeed (post : MS → Prop) (σ : MS) (a1 : Int32) : Prop := vp_in (m_comes σ) 1200 ∧ (∀ x2 : Int32, x2 = m_come σ (m_comes σ).toNatClampNeg → vp_in a1 600 ∧ (((m_kind σ a1.toNatClampNeg) = (0 : Int32) → (vp_in a1 600 ∧ (vp_in (((20 : Int32) * (m_depth σ)) + (m_one σ a1.toNatClampNeg)) 180 ∧ (∀ s3 : MS, s3 = m_held_s σ (((20 : Int32) * (m_depth σ)) + (m_one σ a1.toNatClampNeg)).toNatClampNeg x2 → post s3)))) ∧ (¬ (m_kind σ a1.toNatClampNeg) = (0 : Int32) → (((m_kind σ a1.toNatClampNeg) = (1 : Int32) → (vp_in ((m_comes σ) + (1 : Int32)) 1200 ∧ (wm_endPut (fun (s4 : MS) => post s4) σ a1 x2 (m_come σ ((m_comes σ) + (1 : Int32)).toNatClampNeg)))) ∧ (¬ (m_kind σ a1.toNatClampNeg) = (1 : Int32) → (((m_kind σ a1.toNatClampNeg) = (2 : Int32) → (wm_endDeed_147 post σ a1 x2)) ∧ (¬ (m_kind σ a1.toNatClampNeg) = (2 : Int32) → (((m_kind σ a1.toNatClampNeg) = (3 : Int32) → (wm_endDeed_147 post σ a1 x2)) ∧ (¬ (m_kind σ a1.toNatClampNeg) = (3 : Int32) → (((m_kind σ a1.toNatClampNeg) = (4 : Int32) → (wm_endDeed_147 post σ a1 x2)) ∧ (¬ (m_kind σ a1.toNatClampNeg) = (4 : Int32) → (((m_kind σ a1.toNatClampNeg) = (5 : Int32) → ((((0 : Int32) ≤ x2) → (vp_in (m_drawnMany σ) 40 ∧ (∀ s5 : MS, s5 = m_drawn_s σ (m_drawnMany σ).toNatClampNeg x2 → ∀ s6 : MS, s6 = m_drawnMany_s s5 ((m_drawnMany s5) + (1 : Int32)) → post s6))) ∧ ((¬ ((0 : Int32) ≤ x2)) → (wm_falls (fun (s7 : MS) => post s7) σ (1 : Int32) a1)))) ∧ (¬ (m_kind σ a1.toNatClampNeg) = (5 : Int32) → (((m_kind σ a1.toNatClampNeg) = (6 : Int32) → (wm_give (fun (s8 : MS) => post s8) σ x2)) ∧ (¬ (m_kind σ a1.toNatClampNeg) = (6 : Int32) → (wm_endDeed_147 post σ a1 x2))))))))))))))))
set_option maxRecDepth 20000 in
theorem km_endDeed {l : Launch} {D : va_G} {cl : List vw_C} {G : gAd} {post : MS → Prop} (hcl : mC cl) {σ : MS} {a1 : Int32} (h : wm_endDeed post σ a1) : mMet l D cl G yX13_endDeed cX13_endDeed 3 none 5 [.ref (G.1 0), .int a1] σ (qV post) := by
  unfold wm_endDeed at h
  refine m_enter hcl (by decide +kernel) rfl [(0, .ref (G.1 0)), (1, .int a1)] rfl (Nat.le_of_ble_eq_true rfl) ?_
  intro E hE hm
  have hN := hm.2.2.2.2.2.2.1
  refine r_aload_n hE 0 dX13_endDeed_0 rfl rfl ?_
  refine mg_come hE hm dX13_endDeed_1 ?_
  refine r_aload_n hE 0 dX13_endDeed_4 rfl rfl ?_
  refine mg_comes hE hm dX13_endDeed_5 ?_
  obtain ⟨hi, h⟩ := h
  refine ml_come hE hm dX13_endDeed_8 hi ?_
  refine r_topi h (fun x2 ex2 h => ?_)
  refine r_istore_n hE [(2, .int x2), (0, .ref (G.1 0)), (1, .int a1)] dX13_endDeed_9 rfl hN (by decide) rfl ?_
  refine r_aload_n hE 1 dX13_endDeed_10 rfl rfl ?_
  refine mg_kind hE hm dX13_endDeed_11 ?_
  refine r_iload_n hE 2 dX13_endDeed_14 rfl rfl ?_
  obtain ⟨hi, h⟩ := h
  refine ml_kind hE hm dX13_endDeed_15 hi ?_
  refine r_case (0 : Int32) h (fun q0 h => ?_) (fun q0 h => ?_)
  · refine r_tableAt (off := 44) hE (0 : Int32) 60 dX13_endDeed_16 q0 (by decide) (by decide) (by decide) (by decide) ?_
    refine r_aload_n hE 1 dX13_endDeed_60 rfl rfl ?_
    refine mg_held hE hm dX13_endDeed_61 ?_
    refine r_bipush (v := (20 : Int32)) hE dX13_endDeed_64 (by decide) ?_
    refine r_aload_n hE 1 dX13_endDeed_66 rfl rfl ?_
    refine mg_depth hE hm dX13_endDeed_67 ?_
    refine r_imul hE dX13_endDeed_70 ?_
    refine r_aload_n hE 1 dX13_endDeed_71 rfl rfl ?_
    refine mg_one hE hm dX13_endDeed_72 ?_
    refine r_iload_n hE 2 dX13_endDeed_75 rfl rfl ?_
    obtain ⟨hi, h⟩ := h
    refine ml_one hE hm dX13_endDeed_76 hi ?_
    refine r_iadd hE dX13_endDeed_77 ?_
    refine r_iload_n hE 0 dX13_endDeed_78 rfl rfl ?_
    obtain ⟨hi, h⟩ := h
    refine ms_held hE hm dX13_endDeed_79 hi h (fun s3 h => ?_)
    refine r_goto hE 153 dX13_endDeed_80 (by decide) ?_
    exact m_vret hE hm dX13_endDeed_153 h
  · refine r_case (1 : Int32) h (fun q1 h => ?_) (fun q1 h => ?_)
    · refine r_tableAt (off := 67) hE (1 : Int32) 83 dX13_endDeed_16 q1 (by decide) (by decide) (by decide) (by decide) ?_
      refine r_aload_n hE 1 dX13_endDeed_83 rfl rfl ?_
      refine r_iload_n hE 2 dX13_endDeed_84 rfl rfl ?_
      refine r_iload_n hE 0 dX13_endDeed_85 rfl rfl ?_
      refine r_aload_n hE 1 dX13_endDeed_86 rfl rfl ?_
      refine mg_come hE hm dX13_endDeed_87 ?_
      refine r_aload_n hE 1 dX13_endDeed_90 rfl rfl ?_
      refine mg_comes hE hm dX13_endDeed_91 ?_
      refine r_iconst (v := (1 : Int32)) hE dX13_endDeed_94 (by decide) ?_
      refine r_iadd hE dX13_endDeed_95 ?_
      obtain ⟨hi, h⟩ := h
      refine ml_come hE hm dX13_endDeed_96 hi ?_
      refine m_callVv hE hm [.int a1, .int x2, .int (m_come σ ((m_comes σ) + (1 : Int32)).toNatClampNeg)] [] mc_endPut (km_endPut hm.2.2.2.2.2.2.2.2 h) (by decide) rfl rfl (Nat.le_of_ble_eq_true rfl) dX13_endDeed_97 (fun s4 h => ?_)
      refine r_goto hE 153 dX13_endDeed_100 (by decide) ?_
      exact m_vret hE hm dX13_endDeed_153 h
    · refine r_case (2 : Int32) h (fun q2 h => ?_) (fun q2 h => ?_)
      · refine r_tableAt (off := 131) hE (2 : Int32) 147 dX13_endDeed_16 q2 (by decide) (by decide) (by decide) (by decide) ?_
        refine r_pick [1, 2, 0] rfl ?_
        exact km_endDeed_147 hE hm _ _ _ h
      · refine r_case (3 : Int32) h (fun q3 h => ?_) (fun q3 h => ?_)
        · refine r_tableAt (off := 131) hE (3 : Int32) 147 dX13_endDeed_16 q3 (by decide) (by decide) (by decide) (by decide) ?_
          refine r_pick [1, 2, 0] rfl ?_
          exact km_endDeed_147 hE hm _ _ _ h
        · refine r_case (4 : Int32) h (fun q4 h => ?_) (fun q4 h => ?_)
          · refine r_tableAt (off := 131) hE (4 : Int32) 147 dX13_endDeed_16 q4 (by decide) (by decide) (by decide) (by decide) ?_
            refine r_pick [1, 2, 0] rfl ?_
            exact km_endDeed_147 hE hm _ _ _ h
          · refine r_case (5 : Int32) h (fun q5 h => ?_) (fun q5 h => ?_)
            · refine r_tableAt (off := 87) hE (5 : Int32) 103 dX13_endDeed_16 q5 (by decide) (by decide) (by decide) (by decide) ?_
              refine r_iload_n hE 0 dX13_endDeed_103 rfl rfl ?_
              refine r_if_ge hE 116 dX13_endDeed_104 (by decide) h (fun h => ?_) (fun h => ?_)
              · refine r_aload_n hE 1 dX13_endDeed_116 rfl rfl ?_
                refine mg_drawn hE hm dX13_endDeed_117 ?_
                refine r_aload_n hE 1 dX13_endDeed_120 rfl rfl ?_
                refine mg_drawnMany hE hm dX13_endDeed_121 ?_
                refine r_iload_n hE 0 dX13_endDeed_124 rfl rfl ?_
                obtain ⟨hi, h⟩ := h
                refine ms_drawn hE hm dX13_endDeed_125 hi h (fun s5 h => ?_)
                refine r_aload_n hE 1 dX13_endDeed_126 rfl rfl ?_
                refine r_dup hE dX13_endDeed_127 rfl ?_
                refine mg_drawnMany hE hm dX13_endDeed_128 ?_
                refine r_iconst (v := (1 : Int32)) hE dX13_endDeed_131 (by decide) ?_
                refine r_iadd hE dX13_endDeed_132 ?_
                refine mp_drawnMany hE hm dX13_endDeed_133 h (fun s6 h => ?_)
                refine r_goto hE 153 dX13_endDeed_136 (by decide) ?_
                exact m_vret hE hm dX13_endDeed_153 h
              · refine r_aload_n hE 1 dX13_endDeed_107 rfl rfl ?_
                refine r_iconst (v := (1 : Int32)) hE dX13_endDeed_108 (by decide) ?_
                refine r_iload_n hE 2 dX13_endDeed_109 rfl rfl ?_
                refine m_callVv hE hm [.int (1 : Int32), .int a1] [] mc_falls (km_falls hm.2.2.2.2.2.2.2.2 h) (by decide) rfl rfl (Nat.le_of_ble_eq_true rfl) dX13_endDeed_110 (fun s7 h => ?_)
                refine r_goto hE 153 dX13_endDeed_113 (by decide) ?_
                exact m_vret hE hm dX13_endDeed_153 h
            · refine r_case (6 : Int32) h (fun q6 h => ?_) (fun q6 h => ?_)
              · refine r_tableAt (off := 123) hE (6 : Int32) 139 dX13_endDeed_16 q6 (by decide) (by decide) (by decide) (by decide) ?_
                refine r_aload_n hE 1 dX13_endDeed_139 rfl rfl ?_
                refine r_iload_n hE 0 dX13_endDeed_140 rfl rfl ?_
                refine m_callVv hE hm [.int x2] [] mc_give (km_give hm.2.2.2.2.2.2.2.2 h) (by decide) rfl rfl (Nat.le_of_ble_eq_true rfl) dX13_endDeed_141 (fun s8 h => ?_)
                refine r_goto hE 153 dX13_endDeed_144 (by decide) ?_
                exact m_vret hE hm dX13_endDeed_153 h
              · have n0 := lv_neT q0 (show (0 : Int32).toInt = 0 by decide)
                have n1 := lv_neT q1 (show (1 : Int32).toInt = 1 by decide)
                have n2 := lv_neT q2 (show (2 : Int32).toInt = 2 by decide)
                have n3 := lv_neT q3 (show (3 : Int32).toInt = 3 by decide)
                have n4 := lv_neT q4 (show (4 : Int32).toInt = 4 by decide)
                have n5 := lv_neT q5 (show (5 : Int32).toInt = 5 by decide)
                have n6 := lv_neT q6 (show (6 : Int32).toInt = 6 by decide)
                refine r_tableOut hE 147 dX13_endDeed_16 (by omega) (by decide) ?_
                refine r_pick [1, 2, 0] rfl ?_
                exact km_endDeed_147 hE hm _ _ _ h
/-! step -/
def wm_step_35 (post : MS → Int32 → Prop) (σ : MS) : Prop := ((¬ ((m_spent σ) = (0 : Int32))) → (post σ (0 : Int32))) ∧ (((m_spent σ) = (0 : Int32)) → (post σ (1 : Int32)))
set_option maxRecDepth 20000 in
theorem km_step_35 {E : gEnv} {l : Launch} {D : va_G} {cl : List vw_C} {G : gAd} {post : MS → Int32 → Prop} (hE : gOK E cX13_step RX13 (some .boolean) 1) (hm : mOK E l D cl G (qI post) 1) (σ : MS) (h : wm_step_35 post σ) : GW E (mW G σ) 35 [(0, .ref (G.1 0))] [] := by
  unfold wm_step_35 at h
  have hN := hm.2.2.2.2.2.2.1
  refine r_aload_n hE 0 dX13_step_35 rfl rfl ?_
  refine mg_spent hE hm dX13_step_36 ?_
  refine r_if_ne hE 46 dX13_step_39 (by decide) h (fun h => ?_) (fun h => ?_)
  · refine r_iconst (v := (0 : Int32)) hE dX13_step_46 (by decide) ?_
    exact m_zret hE hm dX13_step_47 (Or.inl rfl) h
  · refine r_iconst (v := (1 : Int32)) hE dX13_step_42 (by decide) ?_
    refine r_goto hE 47 dX13_step_43 (by decide) ?_
    exact m_zret hE hm dX13_step_47 (Or.inr rfl) h
def wm_step (post : MS → Int32 → Prop) (σ : MS) : Prop := ((¬ ((m_steps σ) = (400 : Int32))) → (((¬ ((m_spent σ) = (0 : Int32))) → (wm_step_35 post σ)) ∧ (((m_spent σ) = (0 : Int32)) → (∀ s1 : MS, s1 = m_steps_s σ ((m_steps σ) + (1 : Int32)) → wm_step_35 post s1)))) ∧ (((m_steps σ) = (400 : Int32)) → (∀ s2 : MS, s2 = m_spent_s σ (1 : Int32) → wm_step_35 post s2))
set_option maxRecDepth 20000 in
theorem km_step {l : Launch} {D : va_G} {cl : List vw_C} {G : gAd} {post : MS → Int32 → Prop} (hcl : mC cl) {σ : MS} (h : wm_step post σ) : mMet l D cl G yX13_step cX13_step 1 (some .boolean) 1 [.ref (G.1 0)] σ (qI post) := by
  unfold wm_step at h
  refine m_enter hcl (by decide +kernel) rfl [(0, .ref (G.1 0))] rfl (Nat.le_of_ble_eq_true rfl) ?_
  intro E hE hm
  have hN := hm.2.2.2.2.2.2.1
  refine r_aload_n hE 0 dX13_step_0 rfl rfl ?_
  refine mg_steps hE hm dX13_step_1 ?_
  refine r_sipush (v := (400 : Int32)) hE dX13_step_4 (by decide) ?_
  refine r_icmp_ne hE 18 dX13_step_7 (by decide) h (fun h => ?_) (fun h => ?_)
  · refine r_aload_n hE 0 dX13_step_18 rfl rfl ?_
    refine mg_spent hE hm dX13_step_19 ?_
    refine r_if_ne hE 35 dX13_step_22 (by decide) h (fun h => ?_) (fun h => ?_)
    · exact km_step_35 hE hm _ h
    · refine r_aload_n hE 0 dX13_step_25 rfl rfl ?_
      refine r_dup hE dX13_step_26 rfl ?_
      refine mg_steps hE hm dX13_step_27 ?_
      refine r_iconst (v := (1 : Int32)) hE dX13_step_30 (by decide) ?_
      refine r_iadd hE dX13_step_31 ?_
      refine mp_steps hE hm dX13_step_32 h (fun s1 h => ?_)
      exact km_step_35 hE hm _ h
  · refine r_aload_n hE 0 dX13_step_10 rfl rfl ?_
    refine r_iconst (v := (1 : Int32)) hE dX13_step_11 (by decide) ?_
    refine mp_spent hE hm dX13_step_12 (Or.inr rfl) h (fun s2 h => ?_)
    refine r_goto hE 35 dX13_step_15 (by decide) ?_
    exact km_step_35 hE hm _ h
/-! turnAgain -/
def wm_turnAgain (post : MS → Prop) (σ : MS) (a1 : Int32) (a2 : Int64) : Prop := (((lg_cmp a2 (0 : Int64)) ≤ (0 : Int32)) → (post σ)) ∧ ((¬ ((lg_cmp a2 (0 : Int64)) ≤ (0 : Int32))) → (wm_step (fun (s1 : MS) (r2 : Int32) => ((r2 = (0 : Int32)) → (post s1)) ∧ ((¬ (r2 = (0 : Int32))) → (wm_later (fun (s3 : MS) => vp_in a1 600 ∧ (wm_later (fun (s4 : MS) => post s4) s3 (0 : Int32) (m_two s3 a1.toNatClampNeg) (0 : Int64))) s1 (4 : Int32) a1 (a2 - (1 : Int64))))) σ))
set_option maxRecDepth 20000 in
theorem km_turnAgain {l : Launch} {D : va_G} {cl : List vw_C} {G : gAd} {post : MS → Prop} (hcl : mC cl) {σ : MS} {a1 : Int32} {a2 : Int64} (h : wm_turnAgain post σ a1 a2) : mMet l D cl G yX13_turnAgain cX13_turnAgain 4 none 2 [.ref (G.1 0), .int a1, .long a2] σ (qV post) := by
  unfold wm_turnAgain at h
  refine m_enter hcl (by decide +kernel) rfl [(0, .ref (G.1 0)), (1, .int a1), (2, .long a2)] rfl (Nat.le_of_ble_eq_true rfl) ?_
  intro E hE hm
  have hN := hm.2.2.2.2.2.2.1
  refine r_lload_n hE 2 dX13_turnAgain_0 rfl rfl ?_
  refine r_lconst (v := (0 : Int64)) hE dX13_turnAgain_1 (by decide) ?_
  refine r_lcmp hE dX13_turnAgain_2 ?_
  refine r_if_le hE 34 dX13_turnAgain_3 (by decide) h (fun h => ?_) (fun h => ?_)
  · exact m_vret hE hm dX13_turnAgain_34 h
  · refine r_aload_n hE 0 dX13_turnAgain_6 rfl rfl ?_
    refine m_callVi hE hm [] [] mc_step (km_step hm.2.2.2.2.2.2.2.2 h) (by decide) rfl rfl (Nat.le_of_ble_eq_true rfl) dX13_turnAgain_7 (fun s1 r2 h => ?_)
    refine r_if_eq hE 34 dX13_turnAgain_10 (by decide) h (fun h => ?_) (fun h => ?_)
    · exact m_vret hE hm dX13_turnAgain_34 h
    · refine r_aload_n hE 0 dX13_turnAgain_13 rfl rfl ?_
      refine r_iconst (v := (4 : Int32)) hE dX13_turnAgain_14 (by decide) ?_
      refine r_iload_n hE 1 dX13_turnAgain_15 rfl rfl ?_
      refine r_lload_n hE 2 dX13_turnAgain_16 rfl rfl ?_
      refine r_lconst (v := (1 : Int64)) hE dX13_turnAgain_17 (by decide) ?_
      refine r_lsub hE dX13_turnAgain_18 ?_
      refine m_callVv hE hm [.int (4 : Int32), .int a1, .long (a2 - (1 : Int64))] [] mc_later (km_later hm.2.2.2.2.2.2.2.2 h) (by decide) rfl rfl (Nat.le_of_ble_eq_true rfl) dX13_turnAgain_19 (fun s3 h => ?_)
      refine r_aload_n hE 0 dX13_turnAgain_22 rfl rfl ?_
      refine r_iconst (v := (0 : Int32)) hE dX13_turnAgain_23 (by decide) ?_
      refine r_aload_n hE 0 dX13_turnAgain_24 rfl rfl ?_
      refine mg_two hE hm dX13_turnAgain_25 ?_
      refine r_iload_n hE 1 dX13_turnAgain_28 rfl rfl ?_
      obtain ⟨hi, h⟩ := h
      refine ml_two hE hm dX13_turnAgain_29 hi ?_
      refine r_lconst (v := (0 : Int64)) hE dX13_turnAgain_30 (by decide) ?_
      refine m_callVv hE hm [.int (0 : Int32), .int (m_two s3 a1.toNatClampNeg), .long (0 : Int64)] [] mc_later (km_later hm.2.2.2.2.2.2.2.2 h) (by decide) rfl rfl (Nat.le_of_ble_eq_true rfl) dX13_turnAgain_31 (fun s4 h => ?_)
      exact m_vret hE hm dX13_turnAgain_34 h
/-! argumentOf -/
def wm_argumentOf_10 (post : MS → Int32 → Prop) : Nat → MS → Int32 → Int32 → Int32 → Prop
  | 0, _, _, _, _ => False
  | n + 1, σ, v2, v3, v4 => ((v2 ≤ v4) → (post σ v3)) ∧ ((¬ (v2 ≤ v4)) → (((v3 < (0 : Int32)) → (post σ v3)) ∧ ((¬ (v3 < (0 : Int32))) → (vp_in v3 600 ∧ (∀ x1 : Int32, x1 = m_sister σ v3.toNatClampNeg → ∀ x2 : Int32, x2 = v4 + (1 : Int32) → wm_argumentOf_10 post n σ v2 x1 x2)))))
set_option maxRecDepth 20000 in
theorem km_argumentOf_10 {E : gEnv} {l : Launch} {D : va_G} {cl : List vw_C} {G : gAd} {post : MS → Int32 → Prop} (hE : gOK E cX13_argumentOf RX13 (some .int) 1) (hm : mOK E l D cl G (qI post) 5) : ∀ (n : Nat) (σ : MS) (v2 : Int32) (v3 : Int32) (v4 : Int32), wm_argumentOf_10 post n σ v2 v3 v4 → GW E (mW G σ) 10 [(0, .ref (G.1 0)), (2, .int v2), (3, .int v3), (4, .int v4)] [] := by
  intro n
  induction n with
  | zero => intro σ v2 v3 v4 h; exact h.elim
  | succ n ih =>
    intro σ v2 v3 v4 h
    rw [wm_argumentOf_10] at h
    have hN := hm.2.2.2.2.2.2.1
    refine r_iload hE 3 dX13_argumentOf_10 rfl ?_
    refine r_iload_n hE 1 dX13_argumentOf_12 rfl rfl ?_
    refine r_icmp_ge hE 33 dX13_argumentOf_13 (by decide) h (fun h => ?_) (fun h => ?_)
    · refine r_iload_n hE 2 dX13_argumentOf_33 rfl rfl ?_
      exact m_iret hE hm dX13_argumentOf_34 h
    · refine r_iload_n hE 2 dX13_argumentOf_16 rfl rfl ?_
      refine r_if_lt hE 33 dX13_argumentOf_17 (by decide) h (fun h => ?_) (fun h => ?_)
      · refine r_iload_n hE 2 dX13_argumentOf_33 rfl rfl ?_
        exact m_iret hE hm dX13_argumentOf_34 h
      · refine r_aload_n hE 0 dX13_argumentOf_20 rfl rfl ?_
        refine mg_sister hE hm dX13_argumentOf_21 ?_
        refine r_iload_n hE 2 dX13_argumentOf_24 rfl rfl ?_
        obtain ⟨hi, h⟩ := h
        refine ml_sister hE hm dX13_argumentOf_25 hi ?_
        refine r_topi h (fun x1 ex1 h => ?_)
        refine r_istore_n hE [(3, .int x1), (0, .ref (G.1 0)), (2, .int v2), (4, .int v4)] dX13_argumentOf_26 rfl hN (by decide) rfl ?_
        obtain ⟨x2, ex2⟩ : ∃ z : Int32, z = v4 + (1 : Int32) := ⟨_, rfl⟩
        have h := h x2 ex2
        refine r_iinc (v := x2) hE [(4, .int x2), (3, .int x1), (0, .ref (G.1 0)), (2, .int v2)] 3 dX13_argumentOf_27 rfl (by rw [ex2]; rfl) hN (by decide) rfl ?_
        refine r_goto hE 10 dX13_argumentOf_30 (by decide) ?_
        refine r_pick [2, 3, 1, 0] rfl ?_
        exact ih _ _ _ _ h
def wm_argumentOf (post : MS → Int32 → Prop) (σ : MS) (a1 : Int32) (a2 : Int32) : Prop := vp_in a1 600 ∧ (∀ x3 : Int32, x3 = m_two σ a1.toNatClampNeg → ∃ k : Nat, wm_argumentOf_10 post k σ a2 x3 (0 : Int32))
set_option maxRecDepth 20000 in
theorem km_argumentOf {l : Launch} {D : va_G} {cl : List vw_C} {G : gAd} {post : MS → Int32 → Prop} (hcl : mC cl) {σ : MS} {a1 : Int32} {a2 : Int32} (h : wm_argumentOf post σ a1 a2) : mMet l D cl G yX13_argumentOf cX13_argumentOf 5 (some .int) 1 [.ref (G.1 0), .int a1, .int a2] σ (qI post) := by
  unfold wm_argumentOf at h
  refine m_enter hcl (by decide +kernel) rfl [(0, .ref (G.1 0)), (1, .int a1), (2, .int a2)] rfl (Nat.le_of_ble_eq_true rfl) ?_
  intro E hE hm
  have hN := hm.2.2.2.2.2.2.1
  refine r_aload_n hE 0 dX13_argumentOf_0 rfl rfl ?_
  refine mg_two hE hm dX13_argumentOf_1 ?_
  refine r_iload_n hE 1 dX13_argumentOf_4 rfl rfl ?_
  obtain ⟨hi, h⟩ := h
  refine ml_two hE hm dX13_argumentOf_5 hi ?_
  refine r_topi h (fun x3 ex3 h => ?_)
  refine r_istore_n hE [(3, .int x3), (0, .ref (G.1 0)), (1, .int a1), (2, .int a2)] dX13_argumentOf_6 rfl hN (by decide) rfl ?_
  refine r_iconst (v := (0 : Int32)) hE dX13_argumentOf_7 (by decide) ?_
  refine r_istore hE [(4, .int (0 : Int32)), (3, .int x3), (0, .ref (G.1 0)), (1, .int a1), (2, .int a2)] dX13_argumentOf_8 hN (by decide) rfl ?_
  refine r_pick [2, 4, 1, 0] rfl ?_
  obtain ⟨k, h⟩ := h
  exact km_argumentOf_10 hE hm k _ _ _ _ h
/-! work -/
def wm_work_183 (post : MS → Prop) (σ : MS) (t1 : Int32) (t2 : Int32) : Prop := wm_later (fun (s1 : MS) => post s1) σ t1 t2 (0 : Int64)
set_option maxRecDepth 20000 in
theorem km_work_183 {E : gEnv} {l : Launch} {D : va_G} {cl : List vw_C} {G : gAd} {post : MS → Prop} (hE : gOK E cX13_work RX13 none 3) (hm : mOK E l D cl G (qV post) 3) (σ : MS) (t1 : Int32) (t2 : Int32) (h : wm_work_183 post σ t1 t2) : GW E (mW G σ) 183 [] [.int t2, .int t1, .ref (G.1 0)] := by
  unfold wm_work_183 at h
  have hN := hm.2.2.2.2.2.2.1
  refine r_lconst (v := (0 : Int64)) hE dX13_work_183 (by decide) ?_
  refine m_callVv hE hm [.int t1, .int t2, .long (0 : Int64)] [] mc_later (km_later hm.2.2.2.2.2.2.2.2 h) (by decide) rfl rfl (Nat.le_of_ble_eq_true rfl) dX13_work_184 (fun s1 h => ?_)
  exact m_vret hE hm dX13_work_187 h
def wm_work_146 (post : MS → Prop) (lp121 : MS → Int32 → Int32 → Prop) (σ : MS) (v1 : Int32) (v2 : Int32) : Prop := ∀ x2 : Int32, x2 = v2 + (-1 : Int32) → lp121 σ v1 x2
set_option maxRecDepth 20000 in
theorem km_work_146 {E : gEnv} {l : Launch} {D : va_G} {cl : List vw_C} {G : gAd} {post : MS → Prop} (hE : gOK E cX13_work RX13 none 3) (hm : mOK E l D cl G (qV post) 3) {lp121 : MS → Int32 → Int32 → Prop} (hl121 : ∀ (σ : MS) (v1 : Int32) (v2 : Int32), lp121 σ v1 v2 → GW E (mW G σ) 121 [(0, .ref (G.1 0)), (1, .int v1), (2, .int v2)] []) (σ : MS) (v1 : Int32) (v2 : Int32) (h : wm_work_146 post lp121 σ v1 v2) : GW E (mW G σ) 146 [(0, .ref (G.1 0)), (1, .int v1), (2, .int v2)] [] := by
  unfold wm_work_146 at h
  have hN := hm.2.2.2.2.2.2.1
  obtain ⟨x2, ex2⟩ : ∃ z : Int32, z = v2 + (-1 : Int32) := ⟨_, rfl⟩
  have h := h x2 ex2
  refine r_iinc (v := x2) hE [(2, .int x2), (0, .ref (G.1 0)), (1, .int v1)] 2 dX13_work_146 rfl (by rw [ex2]; rfl) hN (by decide) rfl ?_
  refine r_goto hE 121 dX13_work_149 (by decide) ?_
  refine r_pick [1, 2, 0] rfl ?_
  exact hl121 _ _ _ h
def wm_work_121 (post : MS → Prop) : Nat → MS → Int32 → Int32 → Prop
  | 0, _, _, _ => False
  | n + 1, σ, v1, v2 => ((v2 < (0 : Int32)) → (post σ)) ∧ ((¬ (v2 < (0 : Int32))) → (wm_argumentOf (fun (s3 : MS) (r4 : Int32) => ((r4 < (0 : Int32)) → (wm_work_146 post (fun (ys : MS) (y0 : Int32) (y1 : Int32) => wm_work_121 post n ys y0 y1) s3 v1 v2)) ∧ ((¬ (r4 < (0 : Int32))) → (wm_argumentOf (fun (s5 : MS) (r6 : Int32) => wm_later (fun (s7 : MS) => wm_work_146 post (fun (ys : MS) (y0 : Int32) (y1 : Int32) => wm_work_121 post n ys y0 y1) s7 v1 v2) s5 (1 : Int32) r6 (0 : Int64)) s3 v1 v2))) σ v1 v2))
set_option maxRecDepth 20000 in
theorem km_work_121 {E : gEnv} {l : Launch} {D : va_G} {cl : List vw_C} {G : gAd} {post : MS → Prop} (hE : gOK E cX13_work RX13 none 3) (hm : mOK E l D cl G (qV post) 3) : ∀ (n : Nat) (σ : MS) (v1 : Int32) (v2 : Int32), wm_work_121 post n σ v1 v2 → GW E (mW G σ) 121 [(0, .ref (G.1 0)), (1, .int v1), (2, .int v2)] [] := by
  intro n
  induction n with
  | zero => intro σ v1 v2 h; exact h.elim
  | succ n ih =>
    intro σ v1 v2 h
    rw [wm_work_121] at h
    have hN := hm.2.2.2.2.2.2.1
    refine r_iload_n hE 2 dX13_work_121 rfl rfl ?_
    refine r_if_lt hE 152 dX13_work_122 (by decide) h (fun h => ?_) (fun h => ?_)
    · refine r_goto hE 187 dX13_work_152 (by decide) ?_
      exact m_vret hE hm dX13_work_187 h
    · refine r_aload_n hE 0 dX13_work_125 rfl rfl ?_
      refine r_iload_n hE 1 dX13_work_126 rfl rfl ?_
      refine r_iload_n hE 2 dX13_work_127 rfl rfl ?_
      refine m_callVi hE hm [.int v1, .int v2] [] mc_argumentOf (km_argumentOf hm.2.2.2.2.2.2.2.2 h) (by decide) rfl rfl (Nat.le_of_ble_eq_true rfl) dX13_work_128 (fun s3 r4 h => ?_)
      refine r_if_lt hE 146 dX13_work_131 (by decide) h (fun h => ?_) (fun h => ?_)
      · exact km_work_146 hE hm ih _ _ _ h
      · refine r_aload_n hE 0 dX13_work_134 rfl rfl ?_
        refine r_iconst (v := (1 : Int32)) hE dX13_work_135 (by decide) ?_
        refine r_aload_n hE 0 dX13_work_136 rfl rfl ?_
        refine r_iload_n hE 1 dX13_work_137 rfl rfl ?_
        refine r_iload_n hE 2 dX13_work_138 rfl rfl ?_
        refine m_callVi hE hm [.int v1, .int v2] [.int (1 : Int32), .ref (G.1 0)] mc_argumentOf (km_argumentOf hm.2.2.2.2.2.2.2.2 h) (by decide) rfl rfl (Nat.le_of_ble_eq_true rfl) dX13_work_139 (fun s5 r6 h => ?_)
        refine r_lconst (v := (0 : Int64)) hE dX13_work_142 (by decide) ?_
        refine m_callVv hE hm [.int (1 : Int32), .int r6, .long (0 : Int64)] [] mc_later (km_later hm.2.2.2.2.2.2.2.2 h) (by decide) rfl rfl (Nat.le_of_ble_eq_true rfl) dX13_work_143 (fun s7 h => ?_)
        exact km_work_146 hE hm ih _ _ _ h
def wm_work (post : MS → Prop) (σ : MS) (a1 : Int32) : Prop := vp_in a1 600 ∧ (((¬ ((m_kind σ a1.toNatClampNeg) = (7 : Int32))) → (vp_in a1 600 ∧ (((¬ ((m_kind σ a1.toNatClampNeg) = (8 : Int32))) → (wm_later (fun (s8 : MS) => vp_in a1 600 ∧ (((¬ ((m_kind s8 a1.toNatClampNeg) = (12 : Int32))) → (vp_in a1 600 ∧ (((¬ ((m_kind s8 a1.toNatClampNeg) = (10 : Int32))) → (vp_in a1 600 ∧ (((¬ ((m_kind s8 a1.toNatClampNeg) = (9 : Int32))) → (vp_in a1 600 ∧ (wm_work_183 post s8 (1 : Int32) (m_one s8 a1.toNatClampNeg)))) ∧ (((m_kind s8 a1.toNatClampNeg) = (9 : Int32)) → (vp_in a1 600 ∧ (wm_work_183 post s8 (1 : Int32) (m_two s8 a1.toNatClampNeg))))))) ∧ (((m_kind s8 a1.toNatClampNeg) = (10 : Int32)) → (∃ k : Nat, wm_work_121 post k s8 a1 (3 : Int32)))))) ∧ (((m_kind s8 a1.toNatClampNeg) = (12 : Int32)) → (vp_in a1 600 ∧ (wm_later (fun (s9 : MS) => vp_in a1 600 ∧ (wm_later (fun (s10 : MS) => post s10) s9 (1 : Int32) (m_two s9 a1.toNatClampNeg) (0 : Int64))) s8 (1 : Int32) (m_three s8 a1.toNatClampNeg) (0 : Int64)))))) σ (2 : Int32) a1 (0 : Int64))) ∧ (((m_kind σ a1.toNatClampNeg) = (8 : Int32)) → (vp_in a1 600 ∧ (vp_in (((20 : Int32) * (m_depth σ)) + (m_one σ a1.toNatClampNeg)) 180 ∧ (wm_comes (fun (s11 : MS) => post s11) σ (m_held σ (((20 : Int32) * (m_depth σ)) + (m_one σ a1.toNatClampNeg)).toNatClampNeg)))))))) ∧ (((m_kind σ a1.toNatClampNeg) = (7 : Int32)) → (vp_in a1 600 ∧ (wm_number (fun (s12 : MS) (r13 : Int32) => wm_comes (fun (s14 : MS) => post s14) s12 r13) σ (m_value σ a1.toNatClampNeg) (1 : Int64) (0 : Int32)))))
set_option maxRecDepth 20000 in
theorem km_work {l : Launch} {D : va_G} {cl : List vw_C} {G : gAd} {post : MS → Prop} (hcl : mC cl) {σ : MS} {a1 : Int32} (h : wm_work post σ a1) : mMet l D cl G yX13_work cX13_work 3 none 3 [.ref (G.1 0), .int a1] σ (qV post) := by
  unfold wm_work at h
  refine m_enter hcl (by decide +kernel) rfl [(0, .ref (G.1 0)), (1, .int a1)] rfl (Nat.le_of_ble_eq_true rfl) ?_
  intro E hE hm
  have hN := hm.2.2.2.2.2.2.1
  refine r_aload_n hE 0 dX13_work_0 rfl rfl ?_
  refine mg_kind hE hm dX13_work_1 ?_
  refine r_iload_n hE 1 dX13_work_4 rfl rfl ?_
  obtain ⟨hi, h⟩ := h
  refine ml_kind hE hm dX13_work_5 hi ?_
  refine r_bipush (v := (7 : Int32)) hE dX13_work_6 (by decide) ?_
  refine r_icmp_ne hE 28 dX13_work_8 (by decide) h (fun h => ?_) (fun h => ?_)
  · refine r_aload_n hE 0 dX13_work_28 rfl rfl ?_
    refine mg_kind hE hm dX13_work_29 ?_
    refine r_iload_n hE 1 dX13_work_32 rfl rfl ?_
    obtain ⟨hi, h⟩ := h
    refine ml_kind hE hm dX13_work_33 hi ?_
    refine r_bipush (v := (8 : Int32)) hE dX13_work_34 (by decide) ?_
    refine r_icmp_ne hE 63 dX13_work_36 (by decide) h (fun h => ?_) (fun h => ?_)
    · refine r_aload_n hE 0 dX13_work_63 rfl rfl ?_
      refine r_iconst (v := (2 : Int32)) hE dX13_work_64 (by decide) ?_
      refine r_iload_n hE 1 dX13_work_65 rfl rfl ?_
      refine r_lconst (v := (0 : Int64)) hE dX13_work_66 (by decide) ?_
      refine m_callVv hE hm [.int (2 : Int32), .int a1, .long (0 : Int64)] [] mc_later (km_later hm.2.2.2.2.2.2.2.2 h) (by decide) rfl rfl (Nat.le_of_ble_eq_true rfl) dX13_work_67 (fun s8 h => ?_)
      refine r_aload_n hE 0 dX13_work_70 rfl rfl ?_
      refine mg_kind hE hm dX13_work_71 ?_
      refine r_iload_n hE 1 dX13_work_74 rfl rfl ?_
      obtain ⟨hi, h⟩ := h
      refine ml_kind hE hm dX13_work_75 hi ?_
      refine r_bipush (v := (12 : Int32)) hE dX13_work_76 (by decide) ?_
      refine r_icmp_ne hE 108 dX13_work_78 (by decide) h (fun h => ?_) (fun h => ?_)
      · refine r_aload_n hE 0 dX13_work_108 rfl rfl ?_
        refine mg_kind hE hm dX13_work_109 ?_
        refine r_iload_n hE 1 dX13_work_112 rfl rfl ?_
        obtain ⟨hi, h⟩ := h
        refine ml_kind hE hm dX13_work_113 hi ?_
        refine r_bipush (v := (10 : Int32)) hE dX13_work_114 (by decide) ?_
        refine r_icmp_ne hE 155 dX13_work_116 (by decide) h (fun h => ?_) (fun h => ?_)
        · refine r_aload_n hE 0 dX13_work_155 rfl rfl ?_
          refine r_iconst (v := (1 : Int32)) hE dX13_work_156 (by decide) ?_
          refine r_aload_n hE 0 dX13_work_157 rfl rfl ?_
          refine mg_kind hE hm dX13_work_158 ?_
          refine r_iload_n hE 1 dX13_work_161 rfl rfl ?_
          obtain ⟨hi, h⟩ := h
          refine ml_kind hE hm dX13_work_162 hi ?_
          refine r_bipush (v := (9 : Int32)) hE dX13_work_163 (by decide) ?_
          refine r_icmp_ne hE 177 dX13_work_165 (by decide) h (fun h => ?_) (fun h => ?_)
          · refine r_aload_n hE 0 dX13_work_177 rfl rfl ?_
            refine mg_one hE hm dX13_work_178 ?_
            refine r_iload_n hE 1 dX13_work_181 rfl rfl ?_
            obtain ⟨hi, h⟩ := h
            refine ml_one hE hm dX13_work_182 hi ?_
            refine r_pick [] rfl ?_
            exact km_work_183 hE hm _ _ _ h
          · refine r_aload_n hE 0 dX13_work_168 rfl rfl ?_
            refine mg_two hE hm dX13_work_169 ?_
            refine r_iload_n hE 1 dX13_work_172 rfl rfl ?_
            obtain ⟨hi, h⟩ := h
            refine ml_two hE hm dX13_work_173 hi ?_
            refine r_goto hE 183 dX13_work_174 (by decide) ?_
            refine r_pick [] rfl ?_
            exact km_work_183 hE hm _ _ _ h
        · refine r_iconst (v := (3 : Int32)) hE dX13_work_119 (by decide) ?_
          refine r_istore_n hE [(2, .int (3 : Int32)), (0, .ref (G.1 0)), (1, .int a1)] dX13_work_120 rfl hN (by decide) rfl ?_
          refine r_pick [1, 2, 0] rfl ?_
          obtain ⟨k, h⟩ := h
          exact km_work_121 hE hm k _ _ _ h
      · refine r_aload_n hE 0 dX13_work_81 rfl rfl ?_
        refine r_iconst (v := (1 : Int32)) hE dX13_work_82 (by decide) ?_
        refine r_aload_n hE 0 dX13_work_83 rfl rfl ?_
        refine mg_three hE hm dX13_work_84 ?_
        refine r_iload_n hE 1 dX13_work_87 rfl rfl ?_
        obtain ⟨hi, h⟩ := h
        refine ml_three hE hm dX13_work_88 hi ?_
        refine r_lconst (v := (0 : Int64)) hE dX13_work_89 (by decide) ?_
        refine m_callVv hE hm [.int (1 : Int32), .int (m_three s8 a1.toNatClampNeg), .long (0 : Int64)] [] mc_later (km_later hm.2.2.2.2.2.2.2.2 h) (by decide) rfl rfl (Nat.le_of_ble_eq_true rfl) dX13_work_90 (fun s9 h => ?_)
        refine r_aload_n hE 0 dX13_work_93 rfl rfl ?_
        refine r_iconst (v := (1 : Int32)) hE dX13_work_94 (by decide) ?_
        refine r_aload_n hE 0 dX13_work_95 rfl rfl ?_
        refine mg_two hE hm dX13_work_96 ?_
        refine r_iload_n hE 1 dX13_work_99 rfl rfl ?_
        obtain ⟨hi, h⟩ := h
        refine ml_two hE hm dX13_work_100 hi ?_
        refine r_lconst (v := (0 : Int64)) hE dX13_work_101 (by decide) ?_
        refine m_callVv hE hm [.int (1 : Int32), .int (m_two s9 a1.toNatClampNeg), .long (0 : Int64)] [] mc_later (km_later hm.2.2.2.2.2.2.2.2 h) (by decide) rfl rfl (Nat.le_of_ble_eq_true rfl) dX13_work_102 (fun s10 h => ?_)
        refine r_goto hE 187 dX13_work_105 (by decide) ?_
        exact m_vret hE hm dX13_work_187 h
    · refine r_aload_n hE 0 dX13_work_39 rfl rfl ?_
      refine r_aload_n hE 0 dX13_work_40 rfl rfl ?_
      refine mg_held hE hm dX13_work_41 ?_
      refine r_bipush (v := (20 : Int32)) hE dX13_work_44 (by decide) ?_
      refine r_aload_n hE 0 dX13_work_46 rfl rfl ?_
      refine mg_depth hE hm dX13_work_47 ?_
      refine r_imul hE dX13_work_50 ?_
      refine r_aload_n hE 0 dX13_work_51 rfl rfl ?_
      refine mg_one hE hm dX13_work_52 ?_
      refine r_iload_n hE 1 dX13_work_55 rfl rfl ?_
      obtain ⟨hi, h⟩ := h
      refine ml_one hE hm dX13_work_56 hi ?_
      refine r_iadd hE dX13_work_57 ?_
      obtain ⟨hi, h⟩ := h
      refine ml_held hE hm dX13_work_58 hi ?_
      refine m_callVv hE hm [.int (m_held σ (((20 : Int32) * (m_depth σ)) + (m_one σ a1.toNatClampNeg)).toNatClampNeg)] [] mc_comes (km_comes hm.2.2.2.2.2.2.2.2 h) (by decide) rfl rfl (Nat.le_of_ble_eq_true rfl) dX13_work_59 (fun s11 h => ?_)
      exact m_vret hE hm dX13_work_62 h
  · refine r_aload_n hE 0 dX13_work_11 rfl rfl ?_
    refine r_aload_n hE 0 dX13_work_12 rfl rfl ?_
    refine r_aload_n hE 0 dX13_work_13 rfl rfl ?_
    refine mg_value hE hm dX13_work_14 ?_
    refine r_iload_n hE 1 dX13_work_17 rfl rfl ?_
    obtain ⟨hi, h⟩ := h
    refine ml_value hE hm dX13_work_18 hi ?_
    refine r_lconst (v := (1 : Int64)) hE dX13_work_19 (by decide) ?_
    refine r_iconst (v := (0 : Int32)) hE dX13_work_20 (by decide) ?_
    refine m_callVi hE hm [.long (m_value σ a1.toNatClampNeg), .long (1 : Int64), .int (0 : Int32)] [.ref (G.1 0)] mc_number (km_number hm.2.2.2.2.2.2.2.2 h) (by decide) rfl rfl (Nat.le_of_ble_eq_true rfl) dX13_work_21 (fun s12 r13 h => ?_)
    refine m_callVv hE hm [.int r13] [] mc_comes (km_comes hm.2.2.2.2.2.2.2.2 h) (by decide) rfl rfl (Nat.le_of_ble_eq_true rfl) dX13_work_24 (fun s14 h => ?_)
    exact m_vret hE hm dX13_work_27 h
/-! runAll -/
def wm_runAll_220 (post : MS → Prop) (lp25 : MS → Prop) (σ : MS) : Prop := lp25 σ
set_option maxRecDepth 20000 in
theorem km_runAll_220 {E : gEnv} {l : Launch} {D : va_G} {cl : List vw_C} {G : gAd} {post : MS → Prop} (hE : gOK E cX13_runAll RX13 none 11) (hm : mOK E l D cl G (qV post) 2) {lp25 : MS → Prop} (hl25 : ∀ (σ : MS), lp25 σ → GW E (mW G σ) 25 [(0, .ref (G.1 0))] []) (σ : MS) (h : wm_runAll_220 post lp25 σ) : GW E (mW G σ) 220 [(0, .ref (G.1 0))] [] := by
  unfold wm_runAll_220 at h
  have hN := hm.2.2.2.2.2.2.1
  refine r_goto hE 25 dX13_runAll_220 (by decide) ?_
  exact hl25 _ h
def wm_runAll_25 (post : MS → Prop) : Nat → MS → Prop
  | 0, _ => False
  | n + 1, σ => (((m_jobs σ) ≤ (0 : Int32)) → (post σ)) ∧ ((¬ ((m_jobs σ) ≤ (0 : Int32))) → (((¬ ((m_spent σ) = (0 : Int32))) → (post σ)) ∧ (((m_spent σ) = (0 : Int32)) → (∀ s1 : MS, s1 = m_jobs_s σ ((m_jobs σ) - (1 : Int32)) → vp_in (m_jobs s1) 2000 ∧ (∀ x2 : Int32, x2 = m_jobOf s1 (m_jobs s1).toNatClampNeg → vp_in (m_jobs s1) 2000 ∧ (((m_job s1 (m_jobs s1).toNatClampNeg) = (0 : Int32) → (((x2 < (0 : Int32)) → (wm_runAll_220 post (fun (ys : MS) => wm_runAll_25 post n ys) s1)) ∧ ((¬ (x2 < (0 : Int32))) → (vp_in x2 600 ∧ (wm_later (fun (s3 : MS) => wm_step (fun (s4 : MS) (r5 : Int32) => ((r5 = (0 : Int32)) → (wm_runAll_220 post (fun (ys : MS) => wm_runAll_25 post n ys) s4)) ∧ ((¬ (r5 = (0 : Int32))) → (wm_beginDeed (fun (s6 : MS) => wm_runAll_220 post (fun (ys : MS) => wm_runAll_25 post n ys) s6) s4 x2))) s3) s1 (0 : Int32) (m_sister s1 x2.toNatClampNeg) (0 : Int64)))))) ∧ (¬ (m_job s1 (m_jobs s1).toNatClampNeg) = (0 : Int32) → (((m_job s1 (m_jobs s1).toNatClampNeg) = (1 : Int32) → (wm_step (fun (s7 : MS) (r8 : Int32) => ((r8 = (0 : Int32)) → (wm_runAll_220 post (fun (ys : MS) => wm_runAll_25 post n ys) s7)) ∧ ((¬ (r8 = (0 : Int32))) → (wm_work (fun (s9 : MS) => wm_runAll_220 post (fun (ys : MS) => wm_runAll_25 post n ys) s9) s7 x2))) s1)) ∧ (¬ (m_job s1 (m_jobs s1).toNatClampNeg) = (1 : Int32) → (((m_job s1 (m_jobs s1).toNatClampNeg) = (2 : Int32) → (wm_apply (fun (s10 : MS) => wm_runAll_220 post (fun (ys : MS) => wm_runAll_25 post n ys) s10) s1 x2)) ∧ (¬ (m_job s1 (m_jobs s1).toNatClampNeg) = (2 : Int32) → (((m_job s1 (m_jobs s1).toNatClampNeg) = (3 : Int32) → (vp_in (m_jobs s1) 2000 ∧ (∀ s11 : MS, s11 = m_comes_s s1 ((m_jobWith s1 (m_jobs s1).toNatClampNeg).toInt32) → wm_endDeed (fun (s12 : MS) => wm_runAll_220 post (fun (ys : MS) => wm_runAll_25 post n ys) s12) s11 x2))) ∧ (¬ (m_job s1 (m_jobs s1).toNatClampNeg) = (3 : Int32) → (((m_job s1 (m_jobs s1).toNatClampNeg) = (4 : Int32) → (vp_in (m_jobs s1) 2000 ∧ (wm_turnAgain (fun (s13 : MS) => wm_runAll_220 post (fun (ys : MS) => wm_runAll_25 post n ys) s13) s1 x2 (m_jobWith s1 (m_jobs s1).toNatClampNeg)))) ∧ (¬ (m_job s1 (m_jobs s1).toNatClampNeg) = (4 : Int32) → (∀ s14 : MS, s14 = m_depth_s s1 ((m_depth s1) - (1 : Int32)) → wm_comes (fun (s15 : MS) => ∀ s16 : MS, s16 = m_gift_s s15 (-1 : Int32) → wm_runAll_220 post (fun (ys : MS) => wm_runAll_25 post n ys) s16) s14 (m_gift s14)))))))))))))))))
set_option maxRecDepth 20000 in
theorem km_runAll_25 {E : gEnv} {l : Launch} {D : va_G} {cl : List vw_C} {G : gAd} {post : MS → Prop} (hE : gOK E cX13_runAll RX13 none 11) (hm : mOK E l D cl G (qV post) 2) : ∀ (n : Nat) (σ : MS), wm_runAll_25 post n σ → GW E (mW G σ) 25 [(0, .ref (G.1 0))] [] := by
  intro n
  induction n with
  | zero => intro σ h; exact h.elim
  | succ n ih =>
    intro σ h
    rw [wm_runAll_25] at h
    have hN := hm.2.2.2.2.2.2.1
    refine r_aload_n hE 0 dX13_runAll_25 rfl rfl ?_
    refine mg_jobs hE hm dX13_runAll_26 ?_
    refine r_if_le hE 223 dX13_runAll_29 (by decide) h (fun h => ?_) (fun h => ?_)
    · exact m_vret hE hm dX13_runAll_223 h
    · refine r_aload_n hE 0 dX13_runAll_32 rfl rfl ?_
      refine mg_spent hE hm dX13_runAll_33 ?_
      refine r_if_ne hE 223 dX13_runAll_36 (by decide) h (fun h => ?_) (fun h => ?_)
      · exact m_vret hE hm dX13_runAll_223 h
      · refine r_aload_n hE 0 dX13_runAll_39 rfl rfl ?_
        refine r_dup hE dX13_runAll_40 rfl ?_
        refine mg_jobs hE hm dX13_runAll_41 ?_
        refine r_iconst (v := (1 : Int32)) hE dX13_runAll_44 (by decide) ?_
        refine r_isub hE dX13_runAll_45 ?_
        refine mp_jobs hE hm dX13_runAll_46 h (fun s1 h => ?_)
        refine r_aload_n hE 0 dX13_runAll_49 rfl rfl ?_
        refine mg_jobOf hE hm dX13_runAll_50 ?_
        refine r_aload_n hE 0 dX13_runAll_53 rfl rfl ?_
        refine mg_jobs hE hm dX13_runAll_54 ?_
        obtain ⟨hi, h⟩ := h
        refine ml_jobOf hE hm dX13_runAll_57 hi ?_
        refine r_topi h (fun x2 ex2 h => ?_)
        refine r_istore_n hE [(1, .int x2), (0, .ref (G.1 0))] dX13_runAll_58 rfl hN (by decide) rfl ?_
        refine r_aload_n hE 1 dX13_runAll_59 rfl rfl ?_
        refine mg_job hE hm dX13_runAll_60 ?_
        refine r_aload_n hE 1 dX13_runAll_63 rfl rfl ?_
        refine mg_jobs hE hm dX13_runAll_64 ?_
        obtain ⟨hi, h⟩ := h
        refine ml_job hE hm dX13_runAll_67 hi ?_
        refine r_case (0 : Int32) h (fun q0 h => ?_) (fun q0 h => ?_)
        · refine r_tableAt (off := 36) hE (0 : Int32) 104 dX13_runAll_68 q0 (by decide) (by decide) (by decide) (by decide) ?_
          refine r_iload_n hE 0 dX13_runAll_104 rfl rfl ?_
          refine r_if_lt hE 220 dX13_runAll_105 (by decide) h (fun h => ?_) (fun h => ?_)
          · refine r_pick [1] rfl ?_
            exact km_runAll_220 hE hm ih _ h
          · refine r_aload_n hE 1 dX13_runAll_108 rfl rfl ?_
            refine r_iconst (v := (0 : Int32)) hE dX13_runAll_109 (by decide) ?_
            refine r_aload_n hE 1 dX13_runAll_110 rfl rfl ?_
            refine mg_sister hE hm dX13_runAll_111 ?_
            refine r_iload_n hE 0 dX13_runAll_114 rfl rfl ?_
            obtain ⟨hi, h⟩ := h
            refine ml_sister hE hm dX13_runAll_115 hi ?_
            refine r_lconst (v := (0 : Int64)) hE dX13_runAll_116 (by decide) ?_
            refine m_callVv hE hm [.int (0 : Int32), .int (m_sister s1 x2.toNatClampNeg), .long (0 : Int64)] [] mc_later (km_later hm.2.2.2.2.2.2.2.2 h) (by decide) rfl rfl (Nat.le_of_ble_eq_true rfl) dX13_runAll_117 (fun s3 h => ?_)
            refine r_aload_n hE 1 dX13_runAll_120 rfl rfl ?_
            refine m_callVi hE hm [] [] mc_step (km_step hm.2.2.2.2.2.2.2.2 h) (by decide) rfl rfl (Nat.le_of_ble_eq_true rfl) dX13_runAll_121 (fun s4 r5 h => ?_)
            refine r_if_eq hE 220 dX13_runAll_124 (by decide) h (fun h => ?_) (fun h => ?_)
            · refine r_pick [1] rfl ?_
              exact km_runAll_220 hE hm ih _ h
            · refine r_aload_n hE 1 dX13_runAll_127 rfl rfl ?_
              refine r_iload_n hE 0 dX13_runAll_128 rfl rfl ?_
              refine m_callVv hE hm [.int x2] [] mc_beginDeed (km_beginDeed hm.2.2.2.2.2.2.2.2 h) (by decide) rfl rfl (Nat.le_of_ble_eq_true rfl) dX13_runAll_129 (fun s6 h => ?_)
              refine r_goto hE 220 dX13_runAll_132 (by decide) ?_
              refine r_pick [1] rfl ?_
              exact km_runAll_220 hE hm ih _ h
        · refine r_case (1 : Int32) h (fun q1 h => ?_) (fun q1 h => ?_)
          · refine r_tableAt (off := 67) hE (1 : Int32) 135 dX13_runAll_68 q1 (by decide) (by decide) (by decide) (by decide) ?_
            refine r_aload_n hE 1 dX13_runAll_135 rfl rfl ?_
            refine m_callVi hE hm [] [] mc_step (km_step hm.2.2.2.2.2.2.2.2 h) (by decide) rfl rfl (Nat.le_of_ble_eq_true rfl) dX13_runAll_136 (fun s7 r8 h => ?_)
            refine r_if_eq hE 220 dX13_runAll_139 (by decide) h (fun h => ?_) (fun h => ?_)
            · refine r_pick [1] rfl ?_
              exact km_runAll_220 hE hm ih _ h
            · refine r_aload_n hE 1 dX13_runAll_142 rfl rfl ?_
              refine r_iload_n hE 0 dX13_runAll_143 rfl rfl ?_
              refine m_callVv hE hm [.int x2] [] mc_work (km_work hm.2.2.2.2.2.2.2.2 h) (by decide) rfl rfl (Nat.le_of_ble_eq_true rfl) dX13_runAll_144 (fun s9 h => ?_)
              refine r_goto hE 220 dX13_runAll_147 (by decide) ?_
              refine r_pick [1] rfl ?_
              exact km_runAll_220 hE hm ih _ h
          · refine r_case (2 : Int32) h (fun q2 h => ?_) (fun q2 h => ?_)
            · refine r_tableAt (off := 82) hE (2 : Int32) 150 dX13_runAll_68 q2 (by decide) (by decide) (by decide) (by decide) ?_
              refine r_aload_n hE 1 dX13_runAll_150 rfl rfl ?_
              refine r_iload_n hE 0 dX13_runAll_151 rfl rfl ?_
              refine m_callVv hE hm [.int x2] [] mc_apply (km_apply hm.2.2.2.2.2.2.2.2 h) (by decide) rfl rfl (Nat.le_of_ble_eq_true rfl) dX13_runAll_152 (fun s10 h => ?_)
              refine r_goto hE 220 dX13_runAll_155 (by decide) ?_
              refine r_pick [1] rfl ?_
              exact km_runAll_220 hE hm ih _ h
            · refine r_case (3 : Int32) h (fun q3 h => ?_) (fun q3 h => ?_)
              · refine r_tableAt (off := 90) hE (3 : Int32) 158 dX13_runAll_68 q3 (by decide) (by decide) (by decide) (by decide) ?_
                refine r_aload_n hE 1 dX13_runAll_158 rfl rfl ?_
                refine r_aload_n hE 1 dX13_runAll_159 rfl rfl ?_
                refine mg_jobWith hE hm dX13_runAll_160 ?_
                refine r_aload_n hE 1 dX13_runAll_163 rfl rfl ?_
                refine mg_jobs hE hm dX13_runAll_164 ?_
                obtain ⟨hi, h⟩ := h
                refine ml_jobWith hE hm dX13_runAll_167 hi ?_
                refine r_l2i hE dX13_runAll_168 ?_
                refine mp_comes hE hm dX13_runAll_169 h (fun s11 h => ?_)
                refine r_aload_n hE 1 dX13_runAll_172 rfl rfl ?_
                refine r_iload_n hE 0 dX13_runAll_173 rfl rfl ?_
                refine m_callVv hE hm [.int x2] [] mc_endDeed (km_endDeed hm.2.2.2.2.2.2.2.2 h) (by decide) rfl rfl (Nat.le_of_ble_eq_true rfl) dX13_runAll_174 (fun s12 h => ?_)
                refine r_goto hE 220 dX13_runAll_177 (by decide) ?_
                refine r_pick [1] rfl ?_
                exact km_runAll_220 hE hm ih _ h
              · refine r_case (4 : Int32) h (fun q4 h => ?_) (fun q4 h => ?_)
                · refine r_tableAt (off := 112) hE (4 : Int32) 180 dX13_runAll_68 q4 (by decide) (by decide) (by decide) (by decide) ?_
                  refine r_aload_n hE 1 dX13_runAll_180 rfl rfl ?_
                  refine r_iload_n hE 0 dX13_runAll_181 rfl rfl ?_
                  refine r_aload_n hE 1 dX13_runAll_182 rfl rfl ?_
                  refine mg_jobWith hE hm dX13_runAll_183 ?_
                  refine r_aload_n hE 1 dX13_runAll_186 rfl rfl ?_
                  refine mg_jobs hE hm dX13_runAll_187 ?_
                  obtain ⟨hi, h⟩ := h
                  refine ml_jobWith hE hm dX13_runAll_190 hi ?_
                  refine m_callVv hE hm [.int x2, .long (m_jobWith s1 (m_jobs s1).toNatClampNeg)] [] mc_turnAgain (km_turnAgain hm.2.2.2.2.2.2.2.2 h) (by decide) rfl rfl (Nat.le_of_ble_eq_true rfl) dX13_runAll_191 (fun s13 h => ?_)
                  refine r_goto hE 220 dX13_runAll_194 (by decide) ?_
                  refine r_pick [1] rfl ?_
                  exact km_runAll_220 hE hm ih _ h
                · have n0 := lv_neT q0 (show (0 : Int32).toInt = 0 by decide)
                  have n1 := lv_neT q1 (show (1 : Int32).toInt = 1 by decide)
                  have n2 := lv_neT q2 (show (2 : Int32).toInt = 2 by decide)
                  have n3 := lv_neT q3 (show (3 : Int32).toInt = 3 by decide)
                  have n4 := lv_neT q4 (show (4 : Int32).toInt = 4 by decide)
                  refine r_tableOut hE 197 dX13_runAll_68 (by omega) (by decide) ?_
                  refine r_aload_n hE 1 dX13_runAll_197 rfl rfl ?_
                  refine r_dup hE dX13_runAll_198 rfl ?_
                  refine mg_depth hE hm dX13_runAll_199 ?_
                  refine r_iconst (v := (1 : Int32)) hE dX13_runAll_202 (by decide) ?_
                  refine r_isub hE dX13_runAll_203 ?_
                  refine mp_depth hE hm dX13_runAll_204 h (fun s14 h => ?_)
                  refine r_aload_n hE 1 dX13_runAll_207 rfl rfl ?_
                  refine r_aload_n hE 1 dX13_runAll_208 rfl rfl ?_
                  refine mg_gift hE hm dX13_runAll_209 ?_
                  refine m_callVv hE hm [.int (m_gift s14)] [] mc_comes (km_comes hm.2.2.2.2.2.2.2.2 h) (by decide) rfl rfl (Nat.le_of_ble_eq_true rfl) dX13_runAll_212 (fun s15 h => ?_)
                  refine r_aload_n hE 1 dX13_runAll_215 rfl rfl ?_
                  refine r_iconst (v := (-1 : Int32)) hE dX13_runAll_216 (by decide) ?_
                  refine mp_gift hE hm dX13_runAll_217 h (fun s16 h => ?_)
                  refine r_pick [1] rfl ?_
                  exact km_runAll_220 hE hm ih _ h
def wm_runAll (post : MS → Prop) (σ : MS) : Prop := ∀ s17 : MS, s17 = m_jobs_s σ (0 : Int32) → ∀ s18 : MS, s18 = m_comes_s s17 (0 : Int32) → ∀ s19 : MS, s19 = m_gift_s s18 (-1 : Int32) → wm_later (fun (s20 : MS) => ∃ k : Nat, wm_runAll_25 post k s20) s19 (0 : Int32) (m_firstDeed s19) (0 : Int64)
set_option maxRecDepth 20000 in
theorem km_runAll {l : Launch} {D : va_G} {cl : List vw_C} {G : gAd} {post : MS → Prop} (hcl : mC cl) {σ : MS} (h : wm_runAll post σ) : mMet l D cl G yX13_runAll cX13_runAll 2 none 11 [.ref (G.1 0)] σ (qV post) := by
  unfold wm_runAll at h
  refine m_enter hcl (by decide +kernel) rfl [(0, .ref (G.1 0))] rfl (Nat.le_of_ble_eq_true rfl) ?_
  intro E hE hm
  have hN := hm.2.2.2.2.2.2.1
  refine r_aload_n hE 0 dX13_runAll_0 rfl rfl ?_
  refine r_iconst (v := (0 : Int32)) hE dX13_runAll_1 (by decide) ?_
  refine mp_jobs hE hm dX13_runAll_2 h (fun s17 h => ?_)
  refine r_aload_n hE 0 dX13_runAll_5 rfl rfl ?_
  refine r_iconst (v := (0 : Int32)) hE dX13_runAll_6 (by decide) ?_
  refine mp_comes hE hm dX13_runAll_7 h (fun s18 h => ?_)
  refine r_aload_n hE 0 dX13_runAll_10 rfl rfl ?_
  refine r_iconst (v := (-1 : Int32)) hE dX13_runAll_11 (by decide) ?_
  refine mp_gift hE hm dX13_runAll_12 h (fun s19 h => ?_)
  refine r_aload_n hE 0 dX13_runAll_15 rfl rfl ?_
  refine r_iconst (v := (0 : Int32)) hE dX13_runAll_16 (by decide) ?_
  refine r_aload_n hE 0 dX13_runAll_17 rfl rfl ?_
  refine mg_firstDeed hE hm dX13_runAll_18 ?_
  refine r_lconst (v := (0 : Int64)) hE dX13_runAll_21 (by decide) ?_
  refine m_callVv hE hm [.int (0 : Int32), .int (m_firstDeed s19), .long (0 : Int64)] [] mc_later (km_later hm.2.2.2.2.2.2.2.2 h) (by decide) rfl rfl (Nat.le_of_ble_eq_true rfl) dX13_runAll_22 (fun s20 h => ?_)
  obtain ⟨k, h⟩ := h
  exact km_runAll_25 hE hm k _ h
/-! runOnce -/
def wm_runOnce (post : MS → Prop) (σ : MS) : Prop := wm_clearRun (fun (s1 : MS) => ∀ s2 : MS, s2 = m_runs_s s1 ((m_runs s1) + (1 : Int32)) → ∀ s3 : MS, s3 = m_hasRun_s s2 (1 : Int32) → wm_runAll (fun (s4 : MS) => post s4) s3) σ
set_option maxRecDepth 20000 in
theorem km_runOnce {l : Launch} {D : va_G} {cl : List vw_C} {G : gAd} {post : MS → Prop} (hcl : mC cl) {σ : MS} (h : wm_runOnce post σ) : mMet l D cl G yX13_runOnce cX13_runOnce 1 none 12 [.ref (G.1 0)] σ (qV post) := by
  unfold wm_runOnce at h
  refine m_enter hcl (by decide +kernel) rfl [(0, .ref (G.1 0))] rfl (Nat.le_of_ble_eq_true rfl) ?_
  intro E hE hm
  have hN := hm.2.2.2.2.2.2.1
  refine r_aload_n hE 0 dX13_runOnce_0 rfl rfl ?_
  refine m_callVv hE hm [] [] mc_clearRun (km_clearRun hm.2.2.2.2.2.2.2.2 h) (by decide) rfl rfl (Nat.le_of_ble_eq_true rfl) dX13_runOnce_1 (fun s1 h => ?_)
  refine r_aload_n hE 0 dX13_runOnce_4 rfl rfl ?_
  refine r_dup hE dX13_runOnce_5 rfl ?_
  refine mg_runs hE hm dX13_runOnce_6 ?_
  refine r_iconst (v := (1 : Int32)) hE dX13_runOnce_9 (by decide) ?_
  refine r_iadd hE dX13_runOnce_10 ?_
  refine mp_runs hE hm dX13_runOnce_11 h (fun s2 h => ?_)
  refine r_aload_n hE 0 dX13_runOnce_14 rfl rfl ?_
  refine r_iconst (v := (1 : Int32)) hE dX13_runOnce_15 (by decide) ?_
  refine mp_hasRun hE hm dX13_runOnce_16 (Or.inr rfl) h (fun s3 h => ?_)
  refine r_aload_n hE 0 dX13_runOnce_19 rfl rfl ?_
  refine m_callVv hE hm [] [] mc_runAll (km_runAll hm.2.2.2.2.2.2.2.2 h) (by decide) rfl rfl (Nat.le_of_ble_eq_true rfl) dX13_runOnce_20 (fun s4 h => ?_)
  exact m_vret hE hm dX13_runOnce_23 h
/-! about -/
def wm_about (post : MS → Int32 → Prop) (σ : MS) (a1 : Int32) : Prop := ∀ s1 : MS, s1 = m_code_s σ (0 : Int32) → wm_in (fun (s2 : MS) (r3 : Int32) => ((¬ (r3 = (0 : Int32))) → (((¬ ((m_hasFigure s2) = (0 : Int32))) → (((¬ (a1 = (0 : Int32))) → (((¬ (a1 = (1 : Int32))) → (((¬ (a1 = (2 : Int32))) → (vp_in (12 : Int32) 26 ∧ (post s2 (m_nameMany s2 (12 : Int32).toNatClampNeg)))) ∧ ((a1 = (2 : Int32)) → (post s2 (m_deeds s2))))) ∧ ((a1 = (1 : Int32)) → (post s2 (m_nodes s2))))) ∧ ((a1 = (0 : Int32)) → (post s2 (m_macros s2))))) ∧ (((m_hasFigure s2) = (0 : Int32)) → (post s2 (-2000000003 : Int32))))) ∧ ((r3 = (0 : Int32)) → (post s2 (-2000000002 : Int32)))) s1 (a1.toInt64) (0 : Int64) (3 : Int64)
set_option maxRecDepth 20000 in
theorem km_about {l : Launch} {D : va_G} {cl : List vw_C} {G : gAd} {post : MS → Int32 → Prop} (hcl : mC cl) {σ : MS} {a1 : Int32} (h : wm_about post σ a1) : mMet l D cl G yX13_about cX13_about 2 (some .int) 2 [.ref (G.1 0), .int a1] σ (qI post) := by
  unfold wm_about at h
  refine m_enter hcl (by decide +kernel) rfl [(0, .ref (G.1 0)), (1, .int a1)] rfl (Nat.le_of_ble_eq_true rfl) ?_
  intro E hE hm
  have hN := hm.2.2.2.2.2.2.1
  refine r_aload_n hE 0 dX13_about_0 rfl rfl ?_
  refine r_iconst (v := (0 : Int32)) hE dX13_about_1 (by decide) ?_
  refine mp_code hE hm dX13_about_2 h (fun s1 h => ?_)
  refine r_iload_n hE 1 dX13_about_5 rfl rfl ?_
  refine r_i2l hE dX13_about_6 ?_
  refine r_lconst (v := (0 : Int64)) hE dX13_about_7 (by decide) ?_
  refine r_ldc2 (v := (3 : Int64)) hE dX13_about_8 (gTb_9 (List.mem_of_getElem? (i := 215) rfl) rfl) ?_
  refine m_callSi hE hm [.long (a1.toInt64), .long (0 : Int64), .long (3 : Int64)] [] mc_in (km_in hm.2.2.2.2.2.2.2.2 h) (by decide) rfl rfl (Nat.le_of_ble_eq_true rfl) dX13_about_11 (fun s2 r3 h => ?_)
  refine r_if_ne hE 20 dX13_about_14 (by decide) h (fun h => ?_) (fun h => ?_)
  · refine r_aload_n hE 0 dX13_about_20 rfl rfl ?_
    refine mg_hasFigure hE hm dX13_about_21 ?_
    refine r_if_ne hE 30 dX13_about_24 (by decide) h (fun h => ?_) (fun h => ?_)
    · refine r_iload_n hE 1 dX13_about_30 rfl rfl ?_
      refine r_if_ne hE 41 dX13_about_31 (by decide) h (fun h => ?_) (fun h => ?_)
      · refine r_iload_n hE 1 dX13_about_41 rfl rfl ?_
        refine r_iconst (v := (1 : Int32)) hE dX13_about_42 (by decide) ?_
        refine r_icmp_ne hE 53 dX13_about_43 (by decide) h (fun h => ?_) (fun h => ?_)
        · refine r_iload_n hE 1 dX13_about_53 rfl rfl ?_
          refine r_iconst (v := (2 : Int32)) hE dX13_about_54 (by decide) ?_
          refine r_icmp_ne hE 65 dX13_about_55 (by decide) h (fun h => ?_) (fun h => ?_)
          · refine r_aload_n hE 0 dX13_about_65 rfl rfl ?_
            refine mg_nameMany hE hm dX13_about_66 ?_
            refine r_bipush (v := (12 : Int32)) hE dX13_about_69 (by decide) ?_
            obtain ⟨hi, h⟩ := h
            refine ml_nameMany hE hm dX13_about_71 hi ?_
            exact m_iret hE hm dX13_about_72 h
          · refine r_aload_n hE 0 dX13_about_58 rfl rfl ?_
            refine mg_deeds hE hm dX13_about_59 ?_
            refine r_goto hE 72 dX13_about_62 (by decide) ?_
            exact m_iret hE hm dX13_about_72 h
        · refine r_aload_n hE 0 dX13_about_46 rfl rfl ?_
          refine mg_nodes hE hm dX13_about_47 ?_
          refine r_goto hE 72 dX13_about_50 (by decide) ?_
          exact m_iret hE hm dX13_about_72 h
      · refine r_aload_n hE 0 dX13_about_34 rfl rfl ?_
        refine mg_macros hE hm dX13_about_35 ?_
        refine r_goto hE 72 dX13_about_38 (by decide) ?_
        exact m_iret hE hm dX13_about_72 h
    · refine r_ldc (v := (-2000000003 : Int32)) hE dX13_about_27 (gTb_9 (List.mem_of_getElem? (i := 19) rfl) rfl) ?_
      exact m_iret hE hm dX13_about_29 h
  · refine r_ldc (v := (-2000000002 : Int32)) hE dX13_about_17 (gTb_9 (List.mem_of_getElem? (i := 31) rfl) rfl) ?_
    exact m_iret hE hm dX13_about_19 h
/-! place_ -/
def wm_place_ (post : MS → Prop) (σ : MS) (a1 : Int32) (a2 : Int64) (a4 : Int64) (a6 : Int64) (a8 : Int64) : Prop := vp_in a1 12 ∧ (∀ s1 : MS, s1 = m_isMoved_s σ a1.toNatClampNeg (1 : Int32) → vp_in ((2 : Int32) * a1) 24 ∧ (∀ s2 : MS, s2 = m_movedTop_s s1 ((2 : Int32) * a1).toNatClampNeg a2 → vp_in ((2 : Int32) * a1) 24 ∧ (∀ s3 : MS, s3 = m_movedBottom_s s2 ((2 : Int32) * a1).toNatClampNeg a4 → vp_in (((2 : Int32) * a1) + (1 : Int32)) 24 ∧ (∀ s4 : MS, s4 = m_movedTop_s s3 (((2 : Int32) * a1) + (1 : Int32)).toNatClampNeg a6 → vp_in (((2 : Int32) * a1) + (1 : Int32)) 24 ∧ (∀ s5 : MS, s5 = m_movedBottom_s s4 (((2 : Int32) * a1) + (1 : Int32)).toNatClampNeg a8 → post s5)))))
set_option maxRecDepth 20000 in
theorem km_place_ {l : Launch} {D : va_G} {cl : List vw_C} {G : gAd} {post : MS → Prop} (hcl : mC cl) {σ : MS} {a1 : Int32} {a2 : Int64} {a4 : Int64} {a6 : Int64} {a8 : Int64} (h : wm_place_ post σ a1 a2 a4 a6 a8) : mMet l D cl G yX13_place_ cX13_place_ 10 none 1 [.ref (G.1 0), .int a1, .long a2, .long a4, .long a6, .long a8] σ (qV post) := by
  unfold wm_place_ at h
  refine m_enter hcl (by decide +kernel) rfl [(0, .ref (G.1 0)), (1, .int a1), (2, .long a2), (4, .long a4), (6, .long a6), (8, .long a8)] rfl (Nat.le_of_ble_eq_true rfl) ?_
  intro E hE hm
  have hN := hm.2.2.2.2.2.2.1
  refine r_aload_n hE 0 dX13_place__0 rfl rfl ?_
  refine mg_isMoved hE hm dX13_place__1 ?_
  refine r_iload_n hE 1 dX13_place__4 rfl rfl ?_
  refine r_iconst (v := (1 : Int32)) hE dX13_place__5 (by decide) ?_
  obtain ⟨hi, h⟩ := h
  refine ms_isMoved hE hm dX13_place__6 hi (Or.inr rfl) h (fun s1 h => ?_)
  refine r_aload_n hE 0 dX13_place__7 rfl rfl ?_
  refine mg_movedTop hE hm dX13_place__8 ?_
  refine r_iconst (v := (2 : Int32)) hE dX13_place__11 (by decide) ?_
  refine r_iload_n hE 1 dX13_place__12 rfl rfl ?_
  refine r_imul hE dX13_place__13 ?_
  refine r_lload_n hE 2 dX13_place__14 rfl rfl ?_
  obtain ⟨hi, h⟩ := h
  refine ms_movedTop hE hm dX13_place__15 hi h (fun s2 h => ?_)
  refine r_aload_n hE 0 dX13_place__16 rfl rfl ?_
  refine mg_movedBottom hE hm dX13_place__17 ?_
  refine r_iconst (v := (2 : Int32)) hE dX13_place__20 (by decide) ?_
  refine r_iload_n hE 1 dX13_place__21 rfl rfl ?_
  refine r_imul hE dX13_place__22 ?_
  refine r_lload hE 3 dX13_place__23 rfl ?_
  obtain ⟨hi, h⟩ := h
  refine ms_movedBottom hE hm dX13_place__25 hi h (fun s3 h => ?_)
  refine r_aload_n hE 0 dX13_place__26 rfl rfl ?_
  refine mg_movedTop hE hm dX13_place__27 ?_
  refine r_iconst (v := (2 : Int32)) hE dX13_place__30 (by decide) ?_
  refine r_iload_n hE 1 dX13_place__31 rfl rfl ?_
  refine r_imul hE dX13_place__32 ?_
  refine r_iconst (v := (1 : Int32)) hE dX13_place__33 (by decide) ?_
  refine r_iadd hE dX13_place__34 ?_
  refine r_lload hE 4 dX13_place__35 rfl ?_
  obtain ⟨hi, h⟩ := h
  refine ms_movedTop hE hm dX13_place__37 hi h (fun s4 h => ?_)
  refine r_aload_n hE 0 dX13_place__38 rfl rfl ?_
  refine mg_movedBottom hE hm dX13_place__39 ?_
  refine r_iconst (v := (2 : Int32)) hE dX13_place__42 (by decide) ?_
  refine r_iload_n hE 1 dX13_place__43 rfl rfl ?_
  refine r_imul hE dX13_place__44 ?_
  refine r_iconst (v := (1 : Int32)) hE dX13_place__45 (by decide) ?_
  refine r_iadd hE dX13_place__46 ?_
  refine r_lload hE 5 dX13_place__47 rfl ?_
  obtain ⟨hi, h⟩ := h
  refine ms_movedBottom hE hm dX13_place__49 hi h (fun s5 h => ?_)
  exact m_vret hE hm dX13_place__50 h
/-! move -/
def wm_move_81 (post : MS → Int32 → Prop) (σ : MS) (v1 : Int32) (t0 : Int32) : Prop := ∀ s1 : MS, s1 = m_failure_s σ (0 : Int32) → ∀ s2 : MS, s2 = m_piled_s s1 (0 : Int32) → ((t0 = (0 : Int32)) → (((¬ ((m_hasFigure s2) = (0 : Int32))) → (vp_in (0 : Int32) 40 ∧ (vp_in (0 : Int32) 40 ∧ (vp_in (1 : Int32) 40 ∧ (vp_in (1 : Int32) 40 ∧ (wm_place_ (fun (s3 : MS) => post s3 (1 : Int32)) s2 v1 (m_top s2 (0 : Int32).toNatClampNeg) (m_bottom s2 (0 : Int32).toNatClampNeg) (m_top s2 (1 : Int32).toNatClampNeg) (m_bottom s2 (1 : Int32).toNatClampNeg))))))) ∧ (((m_hasFigure s2) = (0 : Int32)) → (post s2 (-2000000003 : Int32))))) ∧ ((¬ (t0 = (0 : Int32))) → (post s2 (-2000000002 : Int32)))
set_option maxRecDepth 20000 in
theorem km_move_81 {E : gEnv} {l : Launch} {D : va_G} {cl : List vw_C} {G : gAd} {post : MS → Int32 → Prop} (hE : gOK E cX13_move RX13 (some .int) 4) (hm : mOK E l D cl G (qI post) 6) (σ : MS) (v1 : Int32) (t0 : Int32) (h : wm_move_81 post σ v1 t0) : GW E (mW G σ) 81 [(0, .ref (G.1 0)), (1, .int v1)] [.int t0] := by
  unfold wm_move_81 at h
  have hN := hm.2.2.2.2.2.2.1
  refine r_istore hE [(5, .int t0), (0, .ref (G.1 0)), (1, .int v1)] dX13_move_81 hN (by decide) rfl ?_
  refine r_aload_n hE 1 dX13_move_83 rfl rfl ?_
  refine r_iconst (v := (0 : Int32)) hE dX13_move_84 (by decide) ?_
  refine mp_failure hE hm dX13_move_85 h (fun s1 h => ?_)
  refine r_aload_n hE 1 dX13_move_88 rfl rfl ?_
  refine r_iconst (v := (0 : Int32)) hE dX13_move_89 (by decide) ?_
  refine mp_piled hE hm dX13_move_90 h (fun s2 h => ?_)
  refine r_iload hE 0 dX13_move_93 rfl ?_
  refine r_if_eq hE 101 dX13_move_95 (by decide) h (fun h => ?_) (fun h => ?_)
  · refine r_aload_n hE 1 dX13_move_101 rfl rfl ?_
    refine mg_hasFigure hE hm dX13_move_102 ?_
    refine r_if_ne hE 111 dX13_move_105 (by decide) h (fun h => ?_) (fun h => ?_)
    · refine r_aload_n hE 1 dX13_move_111 rfl rfl ?_
      refine r_iload_n hE 2 dX13_move_112 rfl rfl ?_
      refine r_aload_n hE 1 dX13_move_113 rfl rfl ?_
      refine mg_top hE hm dX13_move_114 ?_
      refine r_iconst (v := (0 : Int32)) hE dX13_move_117 (by decide) ?_
      obtain ⟨hi, h⟩ := h
      refine ml_top hE hm dX13_move_118 hi ?_
      refine r_aload_n hE 1 dX13_move_119 rfl rfl ?_
      refine mg_bottom hE hm dX13_move_120 ?_
      refine r_iconst (v := (0 : Int32)) hE dX13_move_123 (by decide) ?_
      obtain ⟨hi, h⟩ := h
      refine ml_bottom hE hm dX13_move_124 hi ?_
      refine r_aload_n hE 1 dX13_move_125 rfl rfl ?_
      refine mg_top hE hm dX13_move_126 ?_
      refine r_iconst (v := (1 : Int32)) hE dX13_move_129 (by decide) ?_
      obtain ⟨hi, h⟩ := h
      refine ml_top hE hm dX13_move_130 hi ?_
      refine r_aload_n hE 1 dX13_move_131 rfl rfl ?_
      refine mg_bottom hE hm dX13_move_132 ?_
      refine r_iconst (v := (1 : Int32)) hE dX13_move_135 (by decide) ?_
      obtain ⟨hi, h⟩ := h
      refine ml_bottom hE hm dX13_move_136 hi ?_
      refine m_callVv hE hm [.int v1, .long (m_top s2 (0 : Int32).toNatClampNeg), .long (m_bottom s2 (0 : Int32).toNatClampNeg), .long (m_top s2 (1 : Int32).toNatClampNeg), .long (m_bottom s2 (1 : Int32).toNatClampNeg)] [] mc_place_ (km_place_ hm.2.2.2.2.2.2.2.2 h) (by decide) rfl rfl (Nat.le_of_ble_eq_true rfl) dX13_move_137 (fun s3 h => ?_)
      refine r_iconst (v := (1 : Int32)) hE dX13_move_140 (by decide) ?_
      exact m_iret hE hm dX13_move_141 h
    · refine r_ldc (v := (-2000000003 : Int32)) hE dX13_move_108 (gTb_9 (List.mem_of_getElem? (i := 19) rfl) rfl) ?_
      exact m_iret hE hm dX13_move_110 h
  · refine r_ldc (v := (-2000000002 : Int32)) hE dX13_move_98 (gTb_9 (List.mem_of_getElem? (i := 31) rfl) rfl) ?_
    exact m_iret hE hm dX13_move_100 h
def wm_move (post : MS → Int32 → Prop) (σ : MS) (a1 : Int32) (a2 : Int32) (a3 : Int32) (a4 : Int32) : Prop := ∀ s4 : MS, s4 = m_code_s σ (0 : Int32) → wm_in (fun (s5 : MS) (r6 : Int32) => ((r6 = (0 : Int32)) → (post s5 (-2000000002 : Int32))) ∧ ((¬ (r6 = (0 : Int32))) → (((¬ (a4 = (0 : Int32))) → (∀ s7 : MS, s7 = m_failure_s s5 (0 : Int32) → ∀ s8 : MS, s8 = m_piled_s s7 (0 : Int32) → wm_whole (fun (s9 : MS) => wm_whole (fun (s10 : MS) => wm_by (fun (s11 : MS) => wm_whole (fun (s12 : MS) => wm_whole (fun (s13 : MS) => wm_by (fun (s14 : MS) => (((m_failure s14) ≤ (0 : Int32)) → (wm_move_81 post s14 a1 (0 : Int32))) ∧ ((¬ ((m_failure s14) ≤ (0 : Int32))) → (wm_move_81 post s14 a1 (1 : Int32)))) s13) s12 (a4.toInt64)) s11 (a3.toInt64)) s10) s9 (a4.toInt64)) s8 (a2.toInt64))) ∧ ((a4 = (0 : Int32)) → (post s5 (-2000000002 : Int32)))))) s4 (a1.toInt64) (0 : Int64) (11 : Int64)
set_option maxRecDepth 20000 in
theorem km_move {l : Launch} {D : va_G} {cl : List vw_C} {G : gAd} {post : MS → Int32 → Prop} (hcl : mC cl) {σ : MS} {a1 : Int32} {a2 : Int32} {a3 : Int32} {a4 : Int32} (h : wm_move post σ a1 a2 a3 a4) : mMet l D cl G yX13_move cX13_move 6 (some .int) 4 [.ref (G.1 0), .int a1, .int a2, .int a3, .int a4] σ (qI post) := by
  unfold wm_move at h
  refine m_enter hcl (by decide +kernel) rfl [(0, .ref (G.1 0)), (1, .int a1), (2, .int a2), (3, .int a3), (4, .int a4)] rfl (Nat.le_of_ble_eq_true rfl) ?_
  intro E hE hm
  have hN := hm.2.2.2.2.2.2.1
  refine r_aload_n hE 0 dX13_move_0 rfl rfl ?_
  refine r_iconst (v := (0 : Int32)) hE dX13_move_1 (by decide) ?_
  refine mp_code hE hm dX13_move_2 h (fun s4 h => ?_)
  refine r_iload_n hE 1 dX13_move_5 rfl rfl ?_
  refine r_i2l hE dX13_move_6 ?_
  refine r_lconst (v := (0 : Int64)) hE dX13_move_7 (by decide) ?_
  refine r_ldc2 (v := (11 : Int64)) hE dX13_move_8 (gTb_9 (List.mem_of_getElem? (i := 220) rfl) rfl) ?_
  refine m_callSi hE hm [.long (a1.toInt64), .long (0 : Int64), .long (11 : Int64)] [] mc_in (km_in hm.2.2.2.2.2.2.2.2 h) (by decide) rfl rfl (Nat.le_of_ble_eq_true rfl) dX13_move_11 (fun s5 r6 h => ?_)
  refine r_if_eq hE 22 dX13_move_14 (by decide) h (fun h => ?_) (fun h => ?_)
  · refine r_ldc (v := (-2000000002 : Int32)) hE dX13_move_22 (gTb_9 (List.mem_of_getElem? (i := 31) rfl) rfl) ?_
    exact m_iret hE hm dX13_move_24 h
  · refine r_iload hE 4 dX13_move_17 rfl ?_
    refine r_if_ne hE 25 dX13_move_19 (by decide) h (fun h => ?_) (fun h => ?_)
    · refine r_aload_n hE 0 dX13_move_25 rfl rfl ?_
      refine r_iconst (v := (0 : Int32)) hE dX13_move_26 (by decide) ?_
      refine mp_failure hE hm dX13_move_27 h (fun s7 h => ?_)
      refine r_aload_n hE 0 dX13_move_30 rfl rfl ?_
      refine r_iconst (v := (0 : Int32)) hE dX13_move_31 (by decide) ?_
      refine mp_piled hE hm dX13_move_32 h (fun s8 h => ?_)
      refine r_aload_n hE 0 dX13_move_35 rfl rfl ?_
      refine r_iload_n hE 2 dX13_move_36 rfl rfl ?_
      refine r_i2l hE dX13_move_37 ?_
      refine m_callVv hE hm [.long (a2.toInt64)] [] mc_whole (km_whole hm.2.2.2.2.2.2.2.2 h) (by decide) rfl rfl (Nat.le_of_ble_eq_true rfl) dX13_move_38 (fun s9 h => ?_)
      refine r_aload_n hE 0 dX13_move_41 rfl rfl ?_
      refine r_iload hE 4 dX13_move_42 rfl ?_
      refine r_i2l hE dX13_move_44 ?_
      refine m_callVv hE hm [.long (a4.toInt64)] [] mc_whole (km_whole hm.2.2.2.2.2.2.2.2 h) (by decide) rfl rfl (Nat.le_of_ble_eq_true rfl) dX13_move_45 (fun s10 h => ?_)
      refine r_aload_n hE 0 dX13_move_48 rfl rfl ?_
      refine m_callVv hE hm [] [] mc_by (km_by hm.2.2.2.2.2.2.2.2 h) (by decide) rfl rfl (Nat.le_of_ble_eq_true rfl) dX13_move_49 (fun s11 h => ?_)
      refine r_aload_n hE 0 dX13_move_52 rfl rfl ?_
      refine r_iload_n hE 3 dX13_move_53 rfl rfl ?_
      refine r_i2l hE dX13_move_54 ?_
      refine m_callVv hE hm [.long (a3.toInt64)] [] mc_whole (km_whole hm.2.2.2.2.2.2.2.2 h) (by decide) rfl rfl (Nat.le_of_ble_eq_true rfl) dX13_move_55 (fun s12 h => ?_)
      refine r_aload_n hE 0 dX13_move_58 rfl rfl ?_
      refine r_iload hE 4 dX13_move_59 rfl ?_
      refine r_i2l hE dX13_move_61 ?_
      refine m_callVv hE hm [.long (a4.toInt64)] [] mc_whole (km_whole hm.2.2.2.2.2.2.2.2 h) (by decide) rfl rfl (Nat.le_of_ble_eq_true rfl) dX13_move_62 (fun s13 h => ?_)
      refine r_aload_n hE 0 dX13_move_65 rfl rfl ?_
      refine m_callVv hE hm [] [] mc_by (km_by hm.2.2.2.2.2.2.2.2 h) (by decide) rfl rfl (Nat.le_of_ble_eq_true rfl) dX13_move_66 (fun s14 h => ?_)
      refine r_aload_n hE 0 dX13_move_69 rfl rfl ?_
      refine mg_failure hE hm dX13_move_70 ?_
      refine r_if_le hE 80 dX13_move_73 (by decide) h (fun h => ?_) (fun h => ?_)
      · refine r_iconst (v := (0 : Int32)) hE dX13_move_80 (by decide) ?_
        refine r_pick [0, 1] rfl ?_
        exact km_move_81 hE hm _ _ _ h
      · refine r_iconst (v := (1 : Int32)) hE dX13_move_76 (by decide) ?_
        refine r_goto hE 81 dX13_move_77 (by decide) ?_
        refine r_pick [0, 1] rfl ?_
        exact km_move_81 hE hm _ _ _ h
    · refine r_ldc (v := (-2000000002 : Int32)) hE dX13_move_22 (gTb_9 (List.mem_of_getElem? (i := 31) rfl) rfl) ?_
      exact m_iret hE hm dX13_move_24 h
/-! loose -/
def wm_loose_44 (post : MS → Int32 → Prop) (σ : MS) (v1 : Int32) (t0 : Int32) : Prop := vp_in v1 12 ∧ (∀ s1 : MS, s1 = m_isMoved_s σ v1.toNatClampNeg (0 : Int32) → post s1 t0)
set_option maxRecDepth 20000 in
theorem km_loose_44 {E : gEnv} {l : Launch} {D : va_G} {cl : List vw_C} {G : gAd} {post : MS → Int32 → Prop} (hE : gOK E cX13_loose RX13 (some .int) 2) (hm : mOK E l D cl G (qI post) 3) (σ : MS) (v1 : Int32) (t0 : Int32) (h : wm_loose_44 post σ v1 t0) : GW E (mW G σ) 44 [(0, .ref (G.1 0)), (1, .int v1)] [.int t0] := by
  unfold wm_loose_44 at h
  have hN := hm.2.2.2.2.2.2.1
  refine r_istore_n hE [(2, .int t0), (0, .ref (G.1 0)), (1, .int v1)] dX13_loose_44 rfl hN (by decide) rfl ?_
  refine r_aload_n hE 1 dX13_loose_45 rfl rfl ?_
  refine mg_isMoved hE hm dX13_loose_46 ?_
  refine r_iload_n hE 2 dX13_loose_49 rfl rfl ?_
  refine r_iconst (v := (0 : Int32)) hE dX13_loose_50 (by decide) ?_
  obtain ⟨hi, h⟩ := h
  refine ms_isMoved hE hm dX13_loose_51 hi (Or.inl rfl) h (fun s1 h => ?_)
  refine r_iload_n hE 0 dX13_loose_52 rfl rfl ?_
  exact m_iret hE hm dX13_loose_53 h
def wm_loose (post : MS → Int32 → Prop) (σ : MS) (a1 : Int32) : Prop := ∀ s2 : MS, s2 = m_code_s σ (0 : Int32) → wm_in (fun (s3 : MS) (r4 : Int32) => ((¬ (r4 = (0 : Int32))) → (((¬ ((m_hasFigure s3) = (0 : Int32))) → (vp_in a1 12 ∧ ((((m_isMoved s3 a1.toNatClampNeg) = (0 : Int32)) → (wm_loose_44 post s3 a1 (0 : Int32))) ∧ ((¬ ((m_isMoved s3 a1.toNatClampNeg) = (0 : Int32))) → (wm_loose_44 post s3 a1 (1 : Int32)))))) ∧ (((m_hasFigure s3) = (0 : Int32)) → (post s3 (-2000000003 : Int32))))) ∧ ((r4 = (0 : Int32)) → (post s3 (-2000000002 : Int32)))) s2 (a1.toInt64) (0 : Int64) (11 : Int64)
set_option maxRecDepth 20000 in
theorem km_loose {l : Launch} {D : va_G} {cl : List vw_C} {G : gAd} {post : MS → Int32 → Prop} (hcl : mC cl) {σ : MS} {a1 : Int32} (h : wm_loose post σ a1) : mMet l D cl G yX13_loose cX13_loose 3 (some .int) 2 [.ref (G.1 0), .int a1] σ (qI post) := by
  unfold wm_loose at h
  refine m_enter hcl (by decide +kernel) rfl [(0, .ref (G.1 0)), (1, .int a1)] rfl (Nat.le_of_ble_eq_true rfl) ?_
  intro E hE hm
  have hN := hm.2.2.2.2.2.2.1
  refine r_aload_n hE 0 dX13_loose_0 rfl rfl ?_
  refine r_iconst (v := (0 : Int32)) hE dX13_loose_1 (by decide) ?_
  refine mp_code hE hm dX13_loose_2 h (fun s2 h => ?_)
  refine r_iload_n hE 1 dX13_loose_5 rfl rfl ?_
  refine r_i2l hE dX13_loose_6 ?_
  refine r_lconst (v := (0 : Int64)) hE dX13_loose_7 (by decide) ?_
  refine r_ldc2 (v := (11 : Int64)) hE dX13_loose_8 (gTb_9 (List.mem_of_getElem? (i := 220) rfl) rfl) ?_
  refine m_callSi hE hm [.long (a1.toInt64), .long (0 : Int64), .long (11 : Int64)] [] mc_in (km_in hm.2.2.2.2.2.2.2.2 h) (by decide) rfl rfl (Nat.le_of_ble_eq_true rfl) dX13_loose_11 (fun s3 r4 h => ?_)
  refine r_if_ne hE 20 dX13_loose_14 (by decide) h (fun h => ?_) (fun h => ?_)
  · refine r_aload_n hE 0 dX13_loose_20 rfl rfl ?_
    refine mg_hasFigure hE hm dX13_loose_21 ?_
    refine r_if_ne hE 30 dX13_loose_24 (by decide) h (fun h => ?_) (fun h => ?_)
    · refine r_aload_n hE 0 dX13_loose_30 rfl rfl ?_
      refine mg_isMoved hE hm dX13_loose_31 ?_
      refine r_iload_n hE 1 dX13_loose_34 rfl rfl ?_
      obtain ⟨hi, h⟩ := h
      refine ml_isMoved hE hm dX13_loose_35 hi ?_
      refine r_if_eq hE 43 dX13_loose_36 (by decide) h (fun h => ?_) (fun h => ?_)
      · refine r_iconst (v := (0 : Int32)) hE dX13_loose_43 (by decide) ?_
        exact km_loose_44 hE hm _ _ _ h
      · refine r_iconst (v := (1 : Int32)) hE dX13_loose_39 (by decide) ?_
        refine r_goto hE 44 dX13_loose_40 (by decide) ?_
        exact km_loose_44 hE hm _ _ _ h
    · refine r_ldc (v := (-2000000003 : Int32)) hE dX13_loose_27 (gTb_9 (List.mem_of_getElem? (i := 19) rfl) rfl) ?_
      exact m_iret hE hm dX13_loose_29 h
  · refine r_ldc (v := (-2000000002 : Int32)) hE dX13_loose_17 (gTb_9 (List.mem_of_getElem? (i := 31) rfl) rfl) ?_
    exact m_iret hE hm dX13_loose_19 h
/-! run -/
def wm_run (post : MS → Int32 → Prop) (σ : MS) : Prop := ∀ s1 : MS, s1 = m_code_s σ (0 : Int32) → ((¬ ((m_hasFigure s1) = (0 : Int32))) → (((¬ ((m_runs s1) = (600 : Int32))) → (wm_runOnce (fun (s2 : MS) => (((m_spent s2) = (0 : Int32)) → (post s2 (m_drawnMany s2))) ∧ ((¬ ((m_spent s2) = (0 : Int32))) → (post s2 (-1 : Int32)))) s1)) ∧ (((m_runs s1) = (600 : Int32)) → (post s1 (-2000000004 : Int32))))) ∧ (((m_hasFigure s1) = (0 : Int32)) → (post s1 (-2000000003 : Int32)))
set_option maxRecDepth 20000 in
theorem km_run {l : Launch} {D : va_G} {cl : List vw_C} {G : gAd} {post : MS → Int32 → Prop} (hcl : mC cl) {σ : MS} (h : wm_run post σ) : mMet l D cl G yX13_run cX13_run 1 (some .int) 13 [.ref (G.1 0)] σ (qI post) := by
  unfold wm_run at h
  refine m_enter hcl (by decide +kernel) rfl [(0, .ref (G.1 0))] rfl (Nat.le_of_ble_eq_true rfl) ?_
  intro E hE hm
  have hN := hm.2.2.2.2.2.2.1
  refine r_aload_n hE 0 dX13_run_0 rfl rfl ?_
  refine r_iconst (v := (0 : Int32)) hE dX13_run_1 (by decide) ?_
  refine mp_code hE hm dX13_run_2 h (fun s1 h => ?_)
  refine r_aload_n hE 0 dX13_run_5 rfl rfl ?_
  refine mg_hasFigure hE hm dX13_run_6 ?_
  refine r_if_ne hE 15 dX13_run_9 (by decide) h (fun h => ?_) (fun h => ?_)
  · refine r_aload_n hE 0 dX13_run_15 rfl rfl ?_
    refine mg_runs hE hm dX13_run_16 ?_
    refine r_sipush (v := (600 : Int32)) hE dX13_run_19 (by decide) ?_
    refine r_icmp_ne hE 29 dX13_run_22 (by decide) h (fun h => ?_) (fun h => ?_)
    · refine r_aload_n hE 0 dX13_run_29 rfl rfl ?_
      refine m_callVv hE hm [] [] mc_runOnce (km_runOnce hm.2.2.2.2.2.2.2.2 h) (by decide) rfl rfl (Nat.le_of_ble_eq_true rfl) dX13_run_30 (fun s2 h => ?_)
      refine r_aload_n hE 0 dX13_run_33 rfl rfl ?_
      refine mg_spent hE hm dX13_run_34 ?_
      refine r_if_eq hE 44 dX13_run_37 (by decide) h (fun h => ?_) (fun h => ?_)
      · refine r_aload_n hE 0 dX13_run_44 rfl rfl ?_
        refine mg_drawnMany hE hm dX13_run_45 ?_
        exact m_iret hE hm dX13_run_48 h
      · refine r_iconst (v := (-1 : Int32)) hE dX13_run_40 (by decide) ?_
        refine r_goto hE 48 dX13_run_41 (by decide) ?_
        exact m_iret hE hm dX13_run_48 h
    · refine r_ldcw (v := (-2000000004 : Int32)) hE dX13_run_25 (gTb_10 (List.mem_of_getElem? (i := 18) rfl) rfl) ?_
      exact m_iret hE hm dX13_run_28 h
  · refine r_ldc (v := (-2000000003 : Int32)) hE dX13_run_12 (gTb_9 (List.mem_of_getElem? (i := 19) rfl) rfl) ?_
    exact m_iret hE hm dX13_run_14 h
/-! count -/
def wm_count (post : MS → Int32 → Prop) (σ : MS) (a1 : Int32) : Prop := ∀ s1 : MS, s1 = m_code_s σ (0 : Int32) → (a1 = (0 : Int32) → (post s1 (m_drawnMany s1))) ∧ (¬ a1 = (0 : Int32) → ((a1 = (1 : Int32) → (post s1 (m_statedMany s1))) ∧ (¬ a1 = (1 : Int32) → ((a1 = (2 : Int32) → (post s1 (m_falls s1))) ∧ (¬ a1 = (2 : Int32) → ((a1 = (3 : Int32) → (post s1 (m_frees s1))) ∧ (¬ a1 = (3 : Int32) → ((a1 = (4 : Int32) → (post s1 (m_steps s1))) ∧ (¬ a1 = (4 : Int32) → ((a1 = (5 : Int32) → ((((m_spent s1) = (0 : Int32)) → (post s1 (0 : Int32))) ∧ ((¬ ((m_spent s1) = (0 : Int32))) → (post s1 (1 : Int32))))) ∧ (¬ a1 = (5 : Int32) → ((a1 = (6 : Int32) → (post s1 (m_runs s1))) ∧ (¬ a1 = (6 : Int32) → ((a1 = (7 : Int32) → (post s1 (m_taped s1))) ∧ (¬ a1 = (7 : Int32) → ((a1 = (8 : Int32) → (post s1 (m_outMany s1))) ∧ (¬ a1 = (8 : Int32) → (post s1 (-2000000002 : Int32)))))))))))))))))))
set_option maxRecDepth 20000 in
theorem km_count {l : Launch} {D : va_G} {cl : List vw_C} {G : gAd} {post : MS → Int32 → Prop} (hcl : mC cl) {σ : MS} {a1 : Int32} (h : wm_count post σ a1) : mMet l D cl G yX13_count cX13_count 2 (some .int) 1 [.ref (G.1 0), .int a1] σ (qI post) := by
  unfold wm_count at h
  refine m_enter hcl (by decide +kernel) rfl [(0, .ref (G.1 0)), (1, .int a1)] rfl (Nat.le_of_ble_eq_true rfl) ?_
  intro E hE hm
  have hN := hm.2.2.2.2.2.2.1
  refine r_aload_n hE 0 dX13_count_0 rfl rfl ?_
  refine r_iconst (v := (0 : Int32)) hE dX13_count_1 (by decide) ?_
  refine mp_code hE hm dX13_count_2 h (fun s1 h => ?_)
  refine r_iload_n hE 1 dX13_count_5 rfl rfl ?_
  refine r_case (0 : Int32) h (fun q0 h => ?_) (fun q0 h => ?_)
  · refine r_tableAt (off := 50) hE (0 : Int32) 56 dX13_count_6 q0 (by decide) (by decide) (by decide) (by decide) ?_
    refine r_aload_n hE 0 dX13_count_56 rfl rfl ?_
    refine mg_drawnMany hE hm dX13_count_57 ?_
    exact m_iret hE hm dX13_count_60 h
  · refine r_case (1 : Int32) h (fun q1 h => ?_) (fun q1 h => ?_)
    · refine r_tableAt (off := 55) hE (1 : Int32) 61 dX13_count_6 q1 (by decide) (by decide) (by decide) (by decide) ?_
      refine r_aload_n hE 0 dX13_count_61 rfl rfl ?_
      refine mg_statedMany hE hm dX13_count_62 ?_
      exact m_iret hE hm dX13_count_65 h
    · refine r_case (2 : Int32) h (fun q2 h => ?_) (fun q2 h => ?_)
      · refine r_tableAt (off := 60) hE (2 : Int32) 66 dX13_count_6 q2 (by decide) (by decide) (by decide) (by decide) ?_
        refine r_aload_n hE 0 dX13_count_66 rfl rfl ?_
        refine mg_falls hE hm dX13_count_67 ?_
        exact m_iret hE hm dX13_count_70 h
      · refine r_case (3 : Int32) h (fun q3 h => ?_) (fun q3 h => ?_)
        · refine r_tableAt (off := 65) hE (3 : Int32) 71 dX13_count_6 q3 (by decide) (by decide) (by decide) (by decide) ?_
          refine r_aload_n hE 0 dX13_count_71 rfl rfl ?_
          refine mg_frees hE hm dX13_count_72 ?_
          exact m_iret hE hm dX13_count_75 h
        · refine r_case (4 : Int32) h (fun q4 h => ?_) (fun q4 h => ?_)
          · refine r_tableAt (off := 70) hE (4 : Int32) 76 dX13_count_6 q4 (by decide) (by decide) (by decide) (by decide) ?_
            refine r_aload_n hE 0 dX13_count_76 rfl rfl ?_
            refine mg_steps hE hm dX13_count_77 ?_
            exact m_iret hE hm dX13_count_80 h
          · refine r_case (5 : Int32) h (fun q5 h => ?_) (fun q5 h => ?_)
            · refine r_tableAt (off := 75) hE (5 : Int32) 81 dX13_count_6 q5 (by decide) (by decide) (by decide) (by decide) ?_
              refine r_aload_n hE 0 dX13_count_81 rfl rfl ?_
              refine mg_spent hE hm dX13_count_82 ?_
              refine r_if_eq hE 92 dX13_count_85 (by decide) h (fun h => ?_) (fun h => ?_)
              · refine r_iconst (v := (0 : Int32)) hE dX13_count_92 (by decide) ?_
                exact m_iret hE hm dX13_count_93 h
              · refine r_iconst (v := (1 : Int32)) hE dX13_count_88 (by decide) ?_
                refine r_goto hE 93 dX13_count_89 (by decide) ?_
                exact m_iret hE hm dX13_count_93 h
            · refine r_case (6 : Int32) h (fun q6 h => ?_) (fun q6 h => ?_)
              · refine r_tableAt (off := 88) hE (6 : Int32) 94 dX13_count_6 q6 (by decide) (by decide) (by decide) (by decide) ?_
                refine r_aload_n hE 0 dX13_count_94 rfl rfl ?_
                refine mg_runs hE hm dX13_count_95 ?_
                exact m_iret hE hm dX13_count_98 h
              · refine r_case (7 : Int32) h (fun q7 h => ?_) (fun q7 h => ?_)
                · refine r_tableAt (off := 93) hE (7 : Int32) 99 dX13_count_6 q7 (by decide) (by decide) (by decide) (by decide) ?_
                  refine r_aload_n hE 0 dX13_count_99 rfl rfl ?_
                  refine mg_taped hE hm dX13_count_100 ?_
                  exact m_iret hE hm dX13_count_103 h
                · refine r_case (8 : Int32) h (fun q8 h => ?_) (fun q8 h => ?_)
                  · refine r_tableAt (off := 98) hE (8 : Int32) 104 dX13_count_6 q8 (by decide) (by decide) (by decide) (by decide) ?_
                    refine r_aload_n hE 0 dX13_count_104 rfl rfl ?_
                    refine mg_outMany hE hm dX13_count_105 ?_
                    exact m_iret hE hm dX13_count_108 h
                  · have n0 := lv_neT q0 (show (0 : Int32).toInt = 0 by decide)
                    have n1 := lv_neT q1 (show (1 : Int32).toInt = 1 by decide)
                    have n2 := lv_neT q2 (show (2 : Int32).toInt = 2 by decide)
                    have n3 := lv_neT q3 (show (3 : Int32).toInt = 3 by decide)
                    have n4 := lv_neT q4 (show (4 : Int32).toInt = 4 by decide)
                    have n5 := lv_neT q5 (show (5 : Int32).toInt = 5 by decide)
                    have n6 := lv_neT q6 (show (6 : Int32).toInt = 6 by decide)
                    have n7 := lv_neT q7 (show (7 : Int32).toInt = 7 by decide)
                    have n8 := lv_neT q8 (show (8 : Int32).toInt = 8 by decide)
                    refine r_tableOut hE 109 dX13_count_6 (by omega) (by decide) ?_
                    refine r_ldc (v := (-2000000002 : Int32)) hE dX13_count_109 (gTb_9 (List.mem_of_getElem? (i := 31) rfl) rfl) ?_
                    exact m_iret hE hm dX13_count_111 h
