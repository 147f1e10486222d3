/-! writeFraction -/
def wm_writeFraction_25 (post : MS → Prop) (σ : MS) (v3 : Int64) (t1 : Int64) : Prop := wm_figures (fun (s1 : MS) => (((lg_cmp v3 (1 : Int64)) = (0 : Int32)) → (post s1)) ∧ ((¬ ((lg_cmp v3 (1 : Int64)) = (0 : Int32))) → (wm_put (fun (s2 : MS) => wm_figures (fun (s3 : MS) => post s3) s2 v3) s1 (47 : Int32)))) σ t1
set_option maxRecDepth 20000 in
theorem km_writeFraction_25 {E : gEnv} {l : Launch} {D : va_G} {cl : List vw_C} {G : gAd} {post : MS → Prop} (hE : gOK E cX13_writeFraction RX13 none 3) (hm : mOK E l D cl G (qV post) 5) (σ : MS) (v3 : Int64) (t1 : Int64) (h : wm_writeFraction_25 post σ v3 t1) : GW E (mW G σ) 25 [(0, .ref (G.1 0)), (3, .long v3)] [.long t1, .ref (G.1 0)] := by
  unfold wm_writeFraction_25 at h
  have hN := hm.2.2.2.2.2.2.1
  refine m_callVv hE hm [.long t1] [] mc_figures (km_figures hm.2.2.2.2.2.2.2.2 h) (by decide) rfl rfl (Nat.le_of_ble_eq_true rfl) dX13_writeFraction_25 (fun s1 h => ?_)
  refine r_lload_n hE 1 dX13_writeFraction_28 rfl rfl ?_
  refine r_lconst (v := (1 : Int64)) hE dX13_writeFraction_29 (by decide) ?_
  refine r_lcmp hE dX13_writeFraction_30 ?_
  refine r_if_eq hE 45 dX13_writeFraction_31 (by decide) h (fun h => ?_) (fun h => ?_)
  · exact m_vret hE hm dX13_writeFraction_45 h
  · refine r_aload_n hE 0 dX13_writeFraction_34 rfl rfl ?_
    refine r_bipush (v := (47 : Int32)) hE dX13_writeFraction_35 (by decide) ?_
    refine m_callVv hE hm [.int (47 : Int32)] [] mc_put (km_put hm.2.2.2.2.2.2.2.2 h) (by decide) rfl rfl (Nat.le_of_ble_eq_true rfl) dX13_writeFraction_37 (fun s2 h => ?_)
    refine r_aload_n hE 0 dX13_writeFraction_40 rfl rfl ?_
    refine r_lload_n hE 1 dX13_writeFraction_41 rfl rfl ?_
    refine m_callVv hE hm [.long v3] [] mc_figures (km_figures hm.2.2.2.2.2.2.2.2 h) (by decide) rfl rfl (Nat.le_of_ble_eq_true rfl) dX13_writeFraction_42 (fun s3 h => ?_)
    exact m_vret hE hm dX13_writeFraction_45 h
def wm_writeFraction_12 (post : MS → Prop) (σ : MS) (v1 : Int64) (v3 : Int64) : Prop := (((0 : Int32) ≤ (lg_cmp v1 (0 : Int64))) → (wm_writeFraction_25 post σ v3 v1)) ∧ ((¬ ((0 : Int32) ≤ (lg_cmp v1 (0 : Int64)))) → (wm_writeFraction_25 post σ v3 (-v1)))
set_option maxRecDepth 20000 in
theorem km_writeFraction_12 {E : gEnv} {l : Launch} {D : va_G} {cl : List vw_C} {G : gAd} {post : MS → Prop} (hE : gOK E cX13_writeFraction RX13 none 3) (hm : mOK E l D cl G (qV post) 5) (σ : MS) (v1 : Int64) (v3 : Int64) (h : wm_writeFraction_12 post σ v1 v3) : GW E (mW G σ) 12 [(0, .ref (G.1 0)), (1, .long v1), (3, .long v3)] [] := by
  unfold wm_writeFraction_12 at h
  have hN := hm.2.2.2.2.2.2.1
  refine r_aload_n hE 0 dX13_writeFraction_12 rfl rfl ?_
  refine r_lload_n hE 1 dX13_writeFraction_13 rfl rfl ?_
  refine r_lconst (v := (0 : Int64)) hE dX13_writeFraction_14 (by decide) ?_
  refine r_lcmp hE dX13_writeFraction_15 ?_
  refine r_if_ge hE 24 dX13_writeFraction_16 (by decide) h (fun h => ?_) (fun h => ?_)
  · refine r_lload_n hE 1 dX13_writeFraction_24 rfl rfl ?_
    refine r_pick [0, 2] rfl ?_
    exact km_writeFraction_25 hE hm _ _ _ h
  · refine r_lload_n hE 1 dX13_writeFraction_19 rfl rfl ?_
    refine r_lneg hE dX13_writeFraction_20 ?_
    refine r_goto hE 25 dX13_writeFraction_21 (by decide) ?_
    refine r_pick [0, 2] rfl ?_
    exact km_writeFraction_25 hE hm _ _ _ h
def wm_writeFraction (post : MS → Prop) (σ : MS) (a1 : Int64) (a3 : Int64) : Prop := (((0 : Int32) ≤ (lg_cmp a1 (0 : Int64))) → (wm_writeFraction_12 post σ a1 a3)) ∧ ((¬ ((0 : Int32) ≤ (lg_cmp a1 (0 : Int64)))) → (wm_put (fun (s4 : MS) => wm_writeFraction_12 post s4 a1 a3) σ (45 : Int32)))
set_option maxRecDepth 20000 in
theorem km_writeFraction {l : Launch} {D : va_G} {cl : List vw_C} {G : gAd} {post : MS → Prop} (hcl : mC cl) {σ : MS} {a1 : Int64} {a3 : Int64} (h : wm_writeFraction post σ a1 a3) : mMet l D cl G yX13_writeFraction cX13_writeFraction 5 none 3 [.ref (G.1 0), .long a1, .long a3] σ (qV post) := by
  unfold wm_writeFraction at h
  refine m_enter hcl (by decide +kernel) rfl [(0, .ref (G.1 0)), (1, .long a1), (3, .long a3)] rfl (Nat.le_of_ble_eq_true rfl) ?_
  intro E hE hm
  have hN := hm.2.2.2.2.2.2.1
  refine r_lload_n hE 1 dX13_writeFraction_0 rfl rfl ?_
  refine r_lconst (v := (0 : Int64)) hE dX13_writeFraction_1 (by decide) ?_
  refine r_lcmp hE dX13_writeFraction_2 ?_
  refine r_if_ge hE 12 dX13_writeFraction_3 (by decide) h (fun h => ?_) (fun h => ?_)
  · exact km_writeFraction_12 hE hm _ _ _ h
  · refine r_aload_n hE 0 dX13_writeFraction_6 rfl rfl ?_
    refine r_bipush (v := (45 : Int32)) hE dX13_writeFraction_7 (by decide) ?_
    refine m_callVv hE hm [.int (45 : Int32)] [] mc_put (km_put hm.2.2.2.2.2.2.2.2 h) (by decide) rfl rfl (Nat.le_of_ble_eq_true rfl) dX13_writeFraction_9 (fun s4 h => ?_)
    exact km_writeFraction_12 hE hm _ _ _ h
/-! write -/
def wm_write_229 (post : MS → Int32 → Prop) (σ : MS) (t1 : Int32) : Prop := wm_put (fun (s1 : MS) => post s1 (m_outMany s1)) σ t1
set_option maxRecDepth 20000 in
theorem km_write_229 {E : gEnv} {l : Launch} {D : va_G} {cl : List vw_C} {G : gAd} {post : MS → Int32 → Prop} (hE : gOK E cX13_write RX13 (some .int) 4) (hm : mOK E l D cl G (qI post) 6) (σ : MS) (t1 : Int32) (h : wm_write_229 post σ t1) : GW E (mW G σ) 229 [(0, .ref (G.1 0))] [.int t1, .ref (G.1 0)] := by
  unfold wm_write_229 at h
  have hN := hm.2.2.2.2.2.2.1
  refine m_callVv hE hm [.int t1] [] mc_put (km_put hm.2.2.2.2.2.2.2.2 h) (by decide) rfl rfl (Nat.le_of_ble_eq_true rfl) dX13_write_229 (fun s1 h => ?_)
  refine r_aload_n hE 0 dX13_write_232 rfl rfl ?_
  refine mg_outMany hE hm dX13_write_233 ?_
  exact m_iret hE hm dX13_write_236 h
def wm_write_188 (post : MS → Int32 → Prop) (σ : MS) (v3 : Int32) : Prop := ((v3 = (0 : Int32)) → (post σ (m_outMany σ))) ∧ ((¬ (v3 = (0 : Int32))) → (wm_isPoint (fun (s2 : MS) (r3 : Int32) => ((r3 = (0 : Int32)) → (wm_isLine (fun (s4 : MS) (r5 : Int32) => ((r5 = (0 : Int32)) → (((¬ (v3 = (5 : Int32))) → (wm_write_229 post s4 (125 : Int32))) ∧ ((v3 = (5 : Int32)) → (wm_write_229 post s4 (62 : Int32))))) ∧ ((¬ (r5 = (0 : Int32))) → (wm_write_229 post s4 (93 : Int32)))) s2 v3)) ∧ ((¬ (r3 = (0 : Int32))) → (wm_write_229 post s2 (41 : Int32)))) σ v3))
set_option maxRecDepth 20000 in
theorem km_write_188 {E : gEnv} {l : Launch} {D : va_G} {cl : List vw_C} {G : gAd} {post : MS → Int32 → Prop} (hE : gOK E cX13_write RX13 (some .int) 4) (hm : mOK E l D cl G (qI post) 6) (σ : MS) (v3 : Int32) (h : wm_write_188 post σ v3) : GW E (mW G σ) 188 [(0, .ref (G.1 0)), (3, .int v3)] [] := by
  unfold wm_write_188 at h
  have hN := hm.2.2.2.2.2.2.1
  refine r_iload_n hE 1 dX13_write_188 rfl rfl ?_
  refine r_if_eq hE 232 dX13_write_189 (by decide) h (fun h => ?_) (fun h => ?_)
  · refine r_aload_n hE 0 dX13_write_232 rfl rfl ?_
    refine mg_outMany hE hm dX13_write_233 ?_
    exact m_iret hE hm dX13_write_236 h
  · refine r_aload_n hE 0 dX13_write_192 rfl rfl ?_
    refine r_iload_n hE 1 dX13_write_193 rfl rfl ?_
    refine m_callSi hE hm [.int v3] [.ref (G.1 0)] mc_isPoint (km_isPoint hm.2.2.2.2.2.2.2.2 h) (by decide) rfl rfl (Nat.le_of_ble_eq_true rfl) dX13_write_194 (fun s2 r3 h => ?_)
    refine r_if_eq hE 205 dX13_write_197 (by decide) h (fun h => ?_) (fun h => ?_)
    · refine r_iload_n hE 1 dX13_write_205 rfl rfl ?_
      refine m_callSi hE hm [.int v3] [.ref (G.1 0)] mc_isLine (km_isLine hm.2.2.2.2.2.2.2.2 h) (by decide) rfl rfl (Nat.le_of_ble_eq_true rfl) dX13_write_206 (fun s4 r5 h => ?_)
      refine r_if_eq hE 217 dX13_write_209 (by decide) h (fun h => ?_) (fun h => ?_)
      · refine r_iload_n hE 1 dX13_write_217 rfl rfl ?_
        refine r_iconst (v := (5 : Int32)) hE dX13_write_218 (by decide) ?_
        refine r_icmp_ne hE 227 dX13_write_219 (by decide) h (fun h => ?_) (fun h => ?_)
        · refine r_bipush (v := (125 : Int32)) hE dX13_write_227 (by decide) ?_
          refine r_pick [0] rfl ?_
          exact km_write_229 hE hm _ _ h
        · refine r_bipush (v := (62 : Int32)) hE dX13_write_222 (by decide) ?_
          refine r_goto hE 229 dX13_write_224 (by decide) ?_
          refine r_pick [0] rfl ?_
          exact km_write_229 hE hm _ _ h
      · refine r_bipush (v := (93 : Int32)) hE dX13_write_212 (by decide) ?_
        refine r_goto hE 229 dX13_write_214 (by decide) ?_
        refine r_pick [0] rfl ?_
        exact km_write_229 hE hm _ _ h
    · refine r_bipush (v := (41 : Int32)) hE dX13_write_200 (by decide) ?_
      refine r_goto hE 229 dX13_write_202 (by decide) ?_
      refine r_pick [0] rfl ?_
      exact km_write_229 hE hm _ _ h
def wm_write_132 (post : MS → Int32 → Prop) (lp108 : MS → Int32 → Int32 → Int32 → Int32 → Prop) (σ : MS) (v2 : Int32) (v3 : Int32) (v4 : Int32) (v5 : Int32) : Prop := vp_in (((7 : Int32) * v2) + v5) 3360 ∧ (vp_in (((7 : Int32) * v2) + v5) 3360 ∧ (wm_writeFraction (fun (s6 : MS) => ∀ x7 : Int32, x7 = v5 + (1 : Int32) → lp108 s6 v2 v3 v4 x7) σ (m_up σ (((7 : Int32) * v2) + v5).toNatClampNeg) (m_low σ (((7 : Int32) * v2) + v5).toNatClampNeg)))
set_option maxRecDepth 20000 in
theorem km_write_132 {E : gEnv} {l : Launch} {D : va_G} {cl : List vw_C} {G : gAd} {post : MS → Int32 → Prop} (hE : gOK E cX13_write RX13 (some .int) 4) (hm : mOK E l D cl G (qI post) 6) {lp108 : MS → Int32 → Int32 → Int32 → Int32 → Prop} (hl108 : ∀ (σ : MS) (v2 : Int32) (v3 : Int32) (v4 : Int32) (v5 : Int32), lp108 σ v2 v3 v4 v5 → GW E (mW G σ) 108 [(0, .ref (G.1 0)), (2, .int v2), (3, .int v3), (4, .int v4), (5, .int v5)] []) (σ : MS) (v2 : Int32) (v3 : Int32) (v4 : Int32) (v5 : Int32) (h : wm_write_132 post lp108 σ v2 v3 v4 v5) : GW E (mW G σ) 132 [(0, .ref (G.1 0)), (2, .int v2), (3, .int v3), (4, .int v4), (5, .int v5)] [] := by
  unfold wm_write_132 at h
  have hN := hm.2.2.2.2.2.2.1
  refine r_aload_n hE 0 dX13_write_132 rfl rfl ?_
  refine r_aload_n hE 0 dX13_write_133 rfl rfl ?_
  refine mg_up hE hm dX13_write_134 ?_
  refine r_bipush (v := (7 : Int32)) hE dX13_write_137 (by decide) ?_
  refine r_iload_n hE 1 dX13_write_139 rfl rfl ?_
  refine r_imul hE dX13_write_140 ?_
  refine r_iload hE 4 dX13_write_141 rfl ?_
  refine r_iadd hE dX13_write_143 ?_
  obtain ⟨hi, h⟩ := h
  refine ml_up hE hm dX13_write_144 hi ?_
  refine r_aload_n hE 0 dX13_write_145 rfl rfl ?_
  refine mg_low hE hm dX13_write_146 ?_
  refine r_bipush (v := (7 : Int32)) hE dX13_write_149 (by decide) ?_
  refine r_iload_n hE 1 dX13_write_151 rfl rfl ?_
  refine r_imul hE dX13_write_152 ?_
  refine r_iload hE 4 dX13_write_153 rfl ?_
  refine r_iadd hE dX13_write_155 ?_
  obtain ⟨hi, h⟩ := h
  refine ml_low hE hm dX13_write_156 hi ?_
  refine m_callVv hE hm [.long (m_up σ (((7 : Int32) * v2) + v5).toNatClampNeg), .long (m_low σ (((7 : Int32) * v2) + v5).toNatClampNeg)] [] mc_writeFraction (km_writeFraction hm.2.2.2.2.2.2.2.2 h) (by decide) rfl rfl (Nat.le_of_ble_eq_true rfl) dX13_write_157 (fun s6 h => ?_)
  obtain ⟨x7, ex7⟩ : ∃ z : Int32, z = v5 + (1 : Int32) := ⟨_, rfl⟩
  have h := h x7 ex7
  refine r_iinc (v := x7) hE [(5, .int x7), (0, .ref (G.1 0)), (2, .int v2), (3, .int v3), (4, .int v4)] 4 dX13_write_160 rfl (by rw [ex7]; rfl) hN (by decide) rfl ?_
  refine r_goto hE 108 dX13_write_163 (by decide) ?_
  refine r_pick [1, 2, 3, 4, 0] rfl ?_
  exact hl108 _ _ _ _ _ h
def wm_write_108 (post : MS → Int32 → Prop) : Nat → MS → Int32 → Int32 → Int32 → Int32 → Prop
  | 0, _, _, _, _, _ => False
  | n + 1, σ, v2, v3, v4, v5 => ((v4 ≤ v5) → (((¬ (v3 = (6 : Int32))) → (wm_write_188 post σ v3)) ∧ ((v3 = (6 : Int32)) → (vp_in v2 480 ∧ (vp_in (m_rowOf σ v2.toNatClampNeg) 480 ∧ (wm_figures (fun (s8 : MS) => wm_write_188 post s8 v3) σ ((m_rowSize σ (m_rowOf σ v2.toNatClampNeg).toNatClampNeg).toInt64))))))) ∧ ((¬ (v4 ≤ v5)) → (((v5 ≤ (0 : Int32)) → (wm_write_132 post (fun (ys : MS) (y0 : Int32) (y1 : Int32) (y2 : Int32) (y3 : Int32) => wm_write_108 post n ys y0 y1 y2 y3) σ v2 v3 v4 v5)) ∧ ((¬ (v5 ≤ (0 : Int32))) → (wm_put (fun (s9 : MS) => wm_put (fun (s10 : MS) => wm_write_132 post (fun (ys : MS) (y0 : Int32) (y1 : Int32) (y2 : Int32) (y3 : Int32) => wm_write_108 post n ys y0 y1 y2 y3) s10 v2 v3 v4 v5) s9 (32 : Int32)) σ (44 : Int32)))))
set_option maxRecDepth 20000 in
theorem km_write_108 {E : gEnv} {l : Launch} {D : va_G} {cl : List vw_C} {G : gAd} {post : MS → Int32 → Prop} (hE : gOK E cX13_write RX13 (some .int) 4) (hm : mOK E l D cl G (qI post) 6) : ∀ (n : Nat) (σ : MS) (v2 : Int32) (v3 : Int32) (v4 : Int32) (v5 : Int32), wm_write_108 post n σ v2 v3 v4 v5 → GW E (mW G σ) 108 [(0, .ref (G.1 0)), (2, .int v2), (3, .int v3), (4, .int v4), (5, .int v5)] [] := by
  intro n
  induction n with
  | zero => intro σ v2 v3 v4 v5 h; exact h.elim
  | succ n ih =>
    intro σ v2 v3 v4 v5 h
    rw [wm_write_108] at h
    have hN := hm.2.2.2.2.2.2.1
    refine r_iload hE 4 dX13_write_108 rfl ?_
    refine r_iload hE 3 dX13_write_110 rfl ?_
    refine r_icmp_ge hE 166 dX13_write_112 (by decide) h (fun h => ?_) (fun h => ?_)
    · refine r_iload_n hE 2 dX13_write_166 rfl rfl ?_
      refine r_bipush (v := (6 : Int32)) hE dX13_write_167 (by decide) ?_
      refine r_icmp_ne hE 188 dX13_write_169 (by decide) h (fun h => ?_) (fun h => ?_)
      · refine r_pick [0, 2] rfl ?_
        exact km_write_188 hE hm _ _ h
      · refine r_aload_n hE 0 dX13_write_172 rfl rfl ?_
        refine r_aload_n hE 0 dX13_write_173 rfl rfl ?_
        refine mg_rowSize hE hm dX13_write_174 ?_
        refine r_aload_n hE 0 dX13_write_177 rfl rfl ?_
        refine mg_rowOf hE hm dX13_write_178 ?_
        refine r_iload_n hE 1 dX13_write_181 rfl rfl ?_
        obtain ⟨hi, h⟩ := h
        refine ml_rowOf hE hm dX13_write_182 hi ?_
        obtain ⟨hi, h⟩ := h
        refine ml_rowSize hE hm dX13_write_183 hi ?_
        refine r_i2l hE dX13_write_184 ?_
        refine m_callVv hE hm [.long ((m_rowSize σ (m_rowOf σ v2.toNatClampNeg).toNatClampNeg).toInt64)] [] mc_figures (km_figures hm.2.2.2.2.2.2.2.2 h) (by decide) rfl rfl (Nat.le_of_ble_eq_true rfl) dX13_write_185 (fun s8 h => ?_)
        refine r_pick [0, 2] rfl ?_
        exact km_write_188 hE hm _ _ h
    · refine r_iload hE 4 dX13_write_115 rfl ?_
      refine r_if_le hE 132 dX13_write_117 (by decide) h (fun h => ?_) (fun h => ?_)
      · exact km_write_132 hE hm ih _ _ _ _ _ h
      · refine r_aload_n hE 0 dX13_write_120 rfl rfl ?_
        refine r_bipush (v := (44 : Int32)) hE dX13_write_121 (by decide) ?_
        refine m_callVv hE hm [.int (44 : Int32)] [] mc_put (km_put hm.2.2.2.2.2.2.2.2 h) (by decide) rfl rfl (Nat.le_of_ble_eq_true rfl) dX13_write_123 (fun s9 h => ?_)
        refine r_aload_n hE 0 dX13_write_126 rfl rfl ?_
        refine r_bipush (v := (32 : Int32)) hE dX13_write_127 (by decide) ?_
        refine m_callVv hE hm [.int (32 : Int32)] [] mc_put (km_put hm.2.2.2.2.2.2.2.2 h) (by decide) rfl rfl (Nat.le_of_ble_eq_true rfl) dX13_write_129 (fun s10 h => ?_)
        exact km_write_132 hE hm ih _ _ _ _ _ h
def wm_write_105 (post : MS → Int32 → Prop) (σ : MS) (v2 : Int32) (v3 : Int32) (v4 : Int32) : Prop := ∃ k : Nat, wm_write_108 post k σ v2 v3 v4 (0 : Int32)
set_option maxRecDepth 20000 in
theorem km_write_105 {E : gEnv} {l : Launch} {D : va_G} {cl : List vw_C} {G : gAd} {post : MS → Int32 → Prop} (hE : gOK E cX13_write RX13 (some .int) 4) (hm : mOK E l D cl G (qI post) 6) (σ : MS) (v2 : Int32) (v3 : Int32) (v4 : Int32) (h : wm_write_105 post σ v2 v3 v4) : GW E (mW G σ) 105 [(0, .ref (G.1 0)), (2, .int v2), (3, .int v3), (4, .int v4)] [] := by
  unfold wm_write_105 at h
  have hN := hm.2.2.2.2.2.2.1
  refine r_iconst (v := (0 : Int32)) hE dX13_write_105 (by decide) ?_
  refine r_istore hE [(5, .int (0 : Int32)), (0, .ref (G.1 0)), (2, .int v2), (3, .int v3), (4, .int v4)] dX13_write_106 hN (by decide) rfl ?_
  refine r_pick [1, 2, 3, 4, 0] rfl ?_
  obtain ⟨k, h⟩ := h
  exact km_write_108 hE hm k _ _ _ _ _ h
def wm_write_102 (post : MS → Int32 → Prop) (σ : MS) (v2 : Int32) (v3 : Int32) (v4 : Int32) (t1 : Int32) : Prop := wm_put (fun (s11 : MS) => wm_write_105 post s11 v2 v3 v4) σ t1
set_option maxRecDepth 20000 in
theorem km_write_102 {E : gEnv} {l : Launch} {D : va_G} {cl : List vw_C} {G : gAd} {post : MS → Int32 → Prop} (hE : gOK E cX13_write RX13 (some .int) 4) (hm : mOK E l D cl G (qI post) 6) (σ : MS) (v2 : Int32) (v3 : Int32) (v4 : Int32) (t1 : Int32) (h : wm_write_102 post σ v2 v3 v4 t1) : GW E (mW G σ) 102 [(0, .ref (G.1 0)), (2, .int v2), (3, .int v3), (4, .int v4)] [.int t1, .ref (G.1 0)] := by
  unfold wm_write_102 at h
  have hN := hm.2.2.2.2.2.2.1
  refine m_callVv hE hm [.int t1] [] mc_put (km_put hm.2.2.2.2.2.2.2.2 h) (by decide) rfl rfl (Nat.le_of_ble_eq_true rfl) dX13_write_102 (fun s11 h => ?_)
  exact km_write_105 hE hm _ _ _ _ h
def wm_write_59 (post : MS → Int32 → Prop) (σ : MS) (v2 : Int32) (v3 : Int32) (t0 : Int32) : Prop := ((v3 = (0 : Int32)) → (wm_write_105 post σ v2 v3 t0)) ∧ ((¬ (v3 = (0 : Int32))) → (wm_isPoint (fun (s12 : MS) (r13 : Int32) => ((r13 = (0 : Int32)) → (wm_isLine (fun (s14 : MS) (r15 : Int32) => ((r15 = (0 : Int32)) → (((¬ (v3 = (5 : Int32))) → (wm_write_102 post s14 v2 v3 t0 (123 : Int32))) ∧ ((v3 = (5 : Int32)) → (wm_write_102 post s14 v2 v3 t0 (60 : Int32))))) ∧ ((¬ (r15 = (0 : Int32))) → (wm_write_102 post s14 v2 v3 t0 (91 : Int32)))) s12 v3)) ∧ ((¬ (r13 = (0 : Int32))) → (wm_write_102 post s12 v2 v3 t0 (40 : Int32)))) σ v3))
set_option maxRecDepth 20000 in
theorem km_write_59 {E : gEnv} {l : Launch} {D : va_G} {cl : List vw_C} {G : gAd} {post : MS → Int32 → Prop} (hE : gOK E cX13_write RX13 (some .int) 4) (hm : mOK E l D cl G (qI post) 6) (σ : MS) (v2 : Int32) (v3 : Int32) (t0 : Int32) (h : wm_write_59 post σ v2 v3 t0) : GW E (mW G σ) 59 [(0, .ref (G.1 0)), (2, .int v2), (3, .int v3)] [.int t0] := by
  unfold wm_write_59 at h
  have hN := hm.2.2.2.2.2.2.1
  refine r_istore hE [(4, .int t0), (0, .ref (G.1 0)), (2, .int v2), (3, .int v3)] dX13_write_59 hN (by decide) rfl ?_
  refine r_iload_n hE 3 dX13_write_61 rfl rfl ?_
  refine r_if_eq hE 105 dX13_write_62 (by decide) h (fun h => ?_) (fun h => ?_)
  · refine r_pick [1, 2, 3, 0] rfl ?_
    exact km_write_105 hE hm _ _ _ _ h
  · refine r_aload_n hE 1 dX13_write_65 rfl rfl ?_
    refine r_iload_n hE 3 dX13_write_66 rfl rfl ?_
    refine m_callSi hE hm [.int v3] [.ref (G.1 0)] mc_isPoint (km_isPoint hm.2.2.2.2.2.2.2.2 h) (by decide) rfl rfl (Nat.le_of_ble_eq_true rfl) dX13_write_67 (fun s12 r13 h => ?_)
    refine r_if_eq hE 78 dX13_write_70 (by decide) h (fun h => ?_) (fun h => ?_)
    · refine r_iload_n hE 3 dX13_write_78 rfl rfl ?_
      refine m_callSi hE hm [.int v3] [.ref (G.1 0)] mc_isLine (km_isLine hm.2.2.2.2.2.2.2.2 h) (by decide) rfl rfl (Nat.le_of_ble_eq_true rfl) dX13_write_79 (fun s14 r15 h => ?_)
      refine r_if_eq hE 90 dX13_write_82 (by decide) h (fun h => ?_) (fun h => ?_)
      · refine r_iload_n hE 3 dX13_write_90 rfl rfl ?_
        refine r_iconst (v := (5 : Int32)) hE dX13_write_91 (by decide) ?_
        refine r_icmp_ne hE 100 dX13_write_92 (by decide) h (fun h => ?_) (fun h => ?_)
        · refine r_bipush (v := (123 : Int32)) hE dX13_write_100 (by decide) ?_
          refine r_pick [1, 2, 3, 0] rfl ?_
          exact km_write_102 hE hm _ _ _ _ _ h
        · refine r_bipush (v := (60 : Int32)) hE dX13_write_95 (by decide) ?_
          refine r_goto hE 102 dX13_write_97 (by decide) ?_
          refine r_pick [1, 2, 3, 0] rfl ?_
          exact km_write_102 hE hm _ _ _ _ _ h
      · refine r_bipush (v := (91 : Int32)) hE dX13_write_85 (by decide) ?_
        refine r_goto hE 102 dX13_write_87 (by decide) ?_
        refine r_pick [1, 2, 3, 0] rfl ?_
        exact km_write_102 hE hm _ _ _ _ _ h
    · refine r_bipush (v := (40 : Int32)) hE dX13_write_73 (by decide) ?_
      refine r_goto hE 102 dX13_write_75 (by decide) ?_
      refine r_pick [1, 2, 3, 0] rfl ?_
      exact km_write_102 hE hm _ _ _ _ _ h
def wm_write (post : MS → Int32 → Prop) (σ : MS) (a1 : Int32) : Prop := wm_noDrawn (fun (s16 : MS) (r17 : Int32) => ((r17 = (0 : Int32)) → (vp_in a1 40 ∧ (∀ x18 : Int32, x18 = m_drawn s16 a1.toNatClampNeg → vp_in x18 480 ∧ (∀ x19 : Int32, x19 = m_sort s16 x18.toNatClampNeg → ∀ s20 : MS, s20 = m_outMany_s s16 (0 : Int32) → ((¬ (x19 = (0 : Int32))) → (wm_isPoint (fun (s21 : MS) (r22 : Int32) => ((r22 = (0 : Int32)) → (((¬ (x19 = (6 : Int32))) → (wm_write_59 post s21 x18 x19 (3 : Int32))) ∧ ((x19 = (6 : Int32)) → (wm_write_59 post s21 x18 x19 (0 : Int32))))) ∧ ((¬ (r22 = (0 : Int32))) → (wm_write_59 post s21 x18 x19 (2 : Int32)))) s20 x19)) ∧ ((x19 = (0 : Int32)) → (wm_write_59 post s20 x18 x19 (1 : Int32))))))) ∧ ((¬ (r17 = (0 : Int32))) → (post s16 (0 : Int32)))) σ a1
set_option maxRecDepth 20000 in
theorem km_write {l : Launch} {D : va_G} {cl : List vw_C} {G : gAd} {post : MS → Int32 → Prop} (hcl : mC cl) {σ : MS} {a1 : Int32} (h : wm_write post σ a1) : mMet l D cl G yX13_write cX13_write 6 (some .int) 4 [.ref (G.1 0), .int a1] σ (qI post) := by
  unfold wm_write at h
  refine m_enter hcl (by decide +kernel) rfl [(0, .ref (G.1 0)), (1, .int a1)] rfl (Nat.le_of_ble_eq_true rfl) ?_
  intro E hE hm
  have hN := hm.2.2.2.2.2.2.1
  refine r_aload_n hE 0 dX13_write_0 rfl rfl ?_
  refine r_iload_n hE 1 dX13_write_1 rfl rfl ?_
  refine m_callVi hE hm [.int a1] [] mc_noDrawn (km_noDrawn hm.2.2.2.2.2.2.2.2 h) (by decide) rfl rfl (Nat.le_of_ble_eq_true rfl) dX13_write_2 (fun s16 r17 h => ?_)
  refine r_if_eq hE 10 dX13_write_5 (by decide) h (fun h => ?_) (fun h => ?_)
  · refine r_aload_n hE 0 dX13_write_10 rfl rfl ?_
    refine mg_drawn hE hm dX13_write_11 ?_
    refine r_iload_n hE 1 dX13_write_14 rfl rfl ?_
    obtain ⟨hi, h⟩ := h
    refine ml_drawn hE hm dX13_write_15 hi ?_
    refine r_topi h (fun x18 ex18 h => ?_)
    refine r_istore_n hE [(2, .int x18), (0, .ref (G.1 0)), (1, .int a1)] dX13_write_16 rfl hN (by decide) rfl ?_
    refine r_aload_n hE 1 dX13_write_17 rfl rfl ?_
    refine mg_sort hE hm dX13_write_18 ?_
    refine r_iload_n hE 0 dX13_write_21 rfl rfl ?_
    obtain ⟨hi, h⟩ := h
    refine ml_sort hE hm dX13_write_22 hi ?_
    refine r_topi h (fun x19 ex19 h => ?_)
    refine r_istore_n hE [(3, .int x19), (2, .int x18), (0, .ref (G.1 0)), (1, .int a1)] dX13_write_23 rfl hN (by decide) rfl ?_
    refine r_aload_n hE 2 dX13_write_24 rfl rfl ?_
    refine r_iconst (v := (0 : Int32)) hE dX13_write_25 (by decide) ?_
    refine mp_outMany hE hm dX13_write_26 h (fun s20 h => ?_)
    refine r_iload_n hE 0 dX13_write_29 rfl rfl ?_
    refine r_if_ne hE 37 dX13_write_30 (by decide) h (fun h => ?_) (fun h => ?_)
    · refine r_iload_n hE 0 dX13_write_37 rfl rfl ?_
      refine m_callSi hE hm [.int x19] [] mc_isPoint (km_isPoint hm.2.2.2.2.2.2.2.2 h) (by decide) rfl rfl (Nat.le_of_ble_eq_true rfl) dX13_write_38 (fun s21 r22 h => ?_)
      refine r_if_eq hE 48 dX13_write_41 (by decide) h (fun h => ?_) (fun h => ?_)
      · refine r_iload_n hE 0 dX13_write_48 rfl rfl ?_
        refine r_bipush (v := (6 : Int32)) hE dX13_write_49 (by decide) ?_
        refine r_icmp_ne hE 58 dX13_write_51 (by decide) h (fun h => ?_) (fun h => ?_)
        · refine r_iconst (v := (3 : Int32)) hE dX13_write_58 (by decide) ?_
          refine r_pick [2, 1, 0] rfl ?_
          exact km_write_59 hE hm _ _ _ _ h
        · refine r_iconst (v := (0 : Int32)) hE dX13_write_54 (by decide) ?_
          refine r_goto hE 59 dX13_write_55 (by decide) ?_
          refine r_pick [2, 1, 0] rfl ?_
          exact km_write_59 hE hm _ _ _ _ h
      · refine r_iconst (v := (2 : Int32)) hE dX13_write_44 (by decide) ?_
        refine r_goto hE 59 dX13_write_45 (by decide) ?_
        refine r_pick [2, 1, 0] rfl ?_
        exact km_write_59 hE hm _ _ _ _ h
    · refine r_iconst (v := (1 : Int32)) hE dX13_write_33 (by decide) ?_
      refine r_goto hE 59 dX13_write_34 (by decide) ?_
      refine r_pick [2, 1, 0] rfl ?_
      exact km_write_59 hE hm _ _ _ _ h
  · refine r_iconst (v := (0 : Int32)) hE dX13_write_8 (by decide) ?_
    exact m_iret hE hm dX13_write_9 h
/-! out -/
def wm_out_22 (post : MS → Int32 → Prop) (σ : MS) (v1 : Int32) (t1 : Int32) : Prop := ∀ s1 : MS, s1 = m_code_s σ t1 → (((m_code s1) ≤ (0 : Int32)) → (vp_in v1 40000 ∧ (post s1 (m_out s1 v1.toNatClampNeg)))) ∧ ((¬ ((m_code s1) ≤ (0 : Int32))) → (post s1 (0 : Int32)))
set_option maxRecDepth 20000 in
theorem km_out_22 {E : gEnv} {l : Launch} {D : va_G} {cl : List vw_C} {G : gAd} {post : MS → Int32 → Prop} (hE : gOK E cX13_out RX13 (some .int) 2) (hm : mOK E l D cl G (qI post) 2) (σ : MS) (v1 : Int32) (t1 : Int32) (h : wm_out_22 post σ v1 t1) : GW E (mW G σ) 22 [(0, .ref (G.1 0)), (1, .int v1)] [.int t1, .ref (G.1 0)] := by
  unfold wm_out_22 at h
  have hN := hm.2.2.2.2.2.2.1
  refine mp_code hE hm dX13_out_22 h (fun s1 h => ?_)
  refine r_aload_n hE 0 dX13_out_25 rfl rfl ?_
  refine mg_code hE hm dX13_out_26 ?_
  refine r_if_le hE 36 dX13_out_29 (by decide) h (fun h => ?_) (fun h => ?_)
  · refine r_aload_n hE 0 dX13_out_36 rfl rfl ?_
    refine mg_out hE hm dX13_out_37 ?_
    refine r_iload_n hE 1 dX13_out_40 rfl rfl ?_
    obtain ⟨hi, h⟩ := h
    refine ml_out hE hm dX13_out_41 hi ?_
    exact m_iret hE hm dX13_out_42 h
  · refine r_iconst (v := (0 : Int32)) hE dX13_out_32 (by decide) ?_
    refine r_goto hE 42 dX13_out_33 (by decide) ?_
    exact m_iret hE hm dX13_out_42 h
def wm_out (post : MS → Int32 → Prop) (σ : MS) (a1 : Int32) : Prop := wm_in (fun (s2 : MS) (r3 : Int32) => ((r3 = (0 : Int32)) → (wm_out_22 post s2 a1 (1 : Int32))) ∧ ((¬ (r3 = (0 : Int32))) → (wm_out_22 post s2 a1 (0 : Int32)))) σ (a1.toInt64) (0 : Int64) (((m_outMany σ) - (1 : Int32)).toInt64)
set_option maxRecDepth 20000 in
theorem km_out {l : Launch} {D : va_G} {cl : List vw_C} {G : gAd} {post : MS → Int32 → Prop} (hcl : mC cl) {σ : MS} {a1 : Int32} (h : wm_out post σ a1) : mMet l D cl G yX13_out cX13_out 2 (some .int) 2 [.ref (G.1 0), .int a1] σ (qI post) := by
  unfold wm_out at h
  refine m_enter hcl (by decide +kernel) rfl [(0, .ref (G.1 0)), (1, .int a1)] rfl (Nat.le_of_ble_eq_true rfl) ?_
  intro E hE hm
  have hN := hm.2.2.2.2.2.2.1
  refine r_aload_n hE 0 dX13_out_0 rfl rfl ?_
  refine r_iload_n hE 1 dX13_out_1 rfl rfl ?_
  refine r_i2l hE dX13_out_2 ?_
  refine r_lconst (v := (0 : Int64)) hE dX13_out_3 (by decide) ?_
  refine r_aload_n hE 0 dX13_out_4 rfl rfl ?_
  refine mg_outMany hE hm dX13_out_5 ?_
  refine r_iconst (v := (1 : Int32)) hE dX13_out_8 (by decide) ?_
  refine r_isub hE dX13_out_9 ?_
  refine r_i2l hE dX13_out_10 ?_
  refine m_callSi hE hm [.long (a1.toInt64), .long (0 : Int64), .long (((m_outMany σ) - (1 : Int32)).toInt64)] [.ref (G.1 0)] mc_in (km_in hm.2.2.2.2.2.2.2.2 h) (by decide) rfl rfl (Nat.le_of_ble_eq_true rfl) dX13_out_11 (fun s2 r3 h => ?_)
  refine r_if_eq hE 21 dX13_out_14 (by decide) h (fun h => ?_) (fun h => ?_)
  · refine r_iconst (v := (1 : Int32)) hE dX13_out_21 (by decide) ?_
    exact km_out_22 hE hm _ _ _ h
  · refine r_iconst (v := (0 : Int32)) hE dX13_out_17 (by decide) ?_
    refine r_goto hE 22 dX13_out_18 (by decide) ?_
    exact km_out_22 hE hm _ _ _ h
/-! back -/
def wm_back_20 (post : MS → Int32 → Prop) : Nat → MS → Int32 → Prop
  | 0, _, _ => False
  | n + 1, σ, v1 => (((m_outMany σ) ≤ v1) → (∀ s1 : MS, s1 = m_taped_s σ (m_outMany σ) → post s1 (m_taped s1))) ∧ ((¬ ((m_outMany σ) ≤ v1)) → (vp_in v1 40000 ∧ (vp_in v1 3000 ∧ (∀ s2 : MS, s2 = m_tape_s σ v1.toNatClampNeg ((m_out σ v1.toNatClampNeg).toInt8.toInt32) → ∀ x3 : Int32, x3 = v1 + (1 : Int32) → wm_back_20 post n s2 x3))))
set_option maxRecDepth 20000 in
theorem km_back_20 {E : gEnv} {l : Launch} {D : va_G} {cl : List vw_C} {G : gAd} {post : MS → Int32 → Prop} (hE : gOK E cX13_back RX13 (some .int) 1) (hm : mOK E l D cl G (qI post) 2) : ∀ (n : Nat) (σ : MS) (v1 : Int32), wm_back_20 post n σ v1 → GW E (mW G σ) 20 [(0, .ref (G.1 0)), (1, .int v1)] [] := by
  intro n
  induction n with
  | zero => intro σ v1 h; exact h.elim
  | succ n ih =>
    intro σ v1 h
    rw [wm_back_20] at h
    have hN := hm.2.2.2.2.2.2.1
    refine r_iload_n hE 1 dX13_back_20 rfl rfl ?_
    refine r_aload_n hE 0 dX13_back_21 rfl rfl ?_
    refine mg_outMany hE hm dX13_back_22 ?_
    refine r_icmp_ge hE 46 dX13_back_25 (by decide) h (fun h => ?_) (fun h => ?_)
    · refine r_aload_n hE 0 dX13_back_46 rfl rfl ?_
      refine r_aload_n hE 0 dX13_back_47 rfl rfl ?_
      refine mg_outMany hE hm dX13_back_48 ?_
      refine mp_taped hE hm dX13_back_51 h (fun s1 h => ?_)
      refine r_aload_n hE 0 dX13_back_54 rfl rfl ?_
      refine mg_taped hE hm dX13_back_55 ?_
      exact m_iret hE hm dX13_back_58 h
    · refine r_aload_n hE 0 dX13_back_28 rfl rfl ?_
      refine mg_tape hE hm dX13_back_29 ?_
      refine r_iload_n hE 1 dX13_back_32 rfl rfl ?_
      refine r_aload_n hE 0 dX13_back_33 rfl rfl ?_
      refine mg_out hE hm dX13_back_34 ?_
      refine r_iload_n hE 1 dX13_back_37 rfl rfl ?_
      obtain ⟨hi, h⟩ := h
      refine ml_out hE hm dX13_back_38 hi ?_
      obtain ⟨hi, h⟩ := h
      refine ms_tape hE hm dX13_back_39 hi h (fun s2 h => ?_)
      obtain ⟨x3, ex3⟩ : ∃ z : Int32, z = v1 + (1 : Int32) := ⟨_, rfl⟩
      have h := h x3 ex3
      refine r_iinc (v := x3) hE [(1, .int x3), (0, .ref (G.1 0))] 1 dX13_back_40 rfl (by rw [ex3]; rfl) hN (by decide) rfl ?_
      refine r_goto hE 20 dX13_back_43 (by decide) ?_
      refine r_pick [1, 0] rfl ?_
      exact ih _ _ h
def wm_back (post : MS → Int32 → Prop) (σ : MS) : Prop := ∀ s4 : MS, s4 = m_code_s σ (0 : Int32) → (((m_outMany s4) ≤ (3000 : Int32)) → (∃ k : Nat, wm_back_20 post k s4 (0 : Int32))) ∧ ((¬ ((m_outMany s4) ≤ (3000 : Int32))) → (post s4 (-2000000003 : Int32)))
set_option maxRecDepth 20000 in
theorem km_back {l : Launch} {D : va_G} {cl : List vw_C} {G : gAd} {post : MS → Int32 → Prop} (hcl : mC cl) {σ : MS} (h : wm_back post σ) : mMet l D cl G yX13_back cX13_back 2 (some .int) 1 [.ref (G.1 0)] σ (qI post) := by
  unfold wm_back at h
  refine m_enter hcl (by decide +kernel) rfl [(0, .ref (G.1 0))] rfl (Nat.le_of_ble_eq_true rfl) ?_
  intro E hE hm
  have hN := hm.2.2.2.2.2.2.1
  refine r_aload_n hE 0 dX13_back_0 rfl rfl ?_
  refine r_iconst (v := (0 : Int32)) hE dX13_back_1 (by decide) ?_
  refine mp_code hE hm dX13_back_2 h (fun s4 h => ?_)
  refine r_aload_n hE 0 dX13_back_5 rfl rfl ?_
  refine mg_outMany hE hm dX13_back_6 ?_
  refine r_sipush (v := (3000 : Int32)) hE dX13_back_9 (by decide) ?_
  refine r_icmp_le hE 18 dX13_back_12 (by decide) h (fun h => ?_) (fun h => ?_)
  · refine r_iconst (v := (0 : Int32)) hE dX13_back_18 (by decide) ?_
    refine r_istore_n hE [(1, .int (0 : Int32)), (0, .ref (G.1 0))] dX13_back_19 rfl hN (by decide) rfl ?_
    refine r_pick [1, 0] rfl ?_
    obtain ⟨k, h⟩ := h
    exact km_back_20 hE hm k _ _ h
  · refine r_ldc (v := (-2000000003 : Int32)) hE dX13_back_15 (gTb_9 (List.mem_of_getElem? (i := 19) rfl) rfl) ?_
    exact m_iret hE hm dX13_back_17 h
/-! statedOr -/
def wm_statedOr (post : MS → Int32 → Prop) (σ : MS) (a1 : Int32) : Prop := (((m_statedMany σ) ≤ a1) → (post σ (-1 : Int32))) ∧ ((¬ ((m_statedMany σ) ≤ a1)) → (vp_in a1 40 ∧ (post σ (m_stated σ a1.toNatClampNeg))))
set_option maxRecDepth 20000 in
theorem km_statedOr {l : Launch} {D : va_G} {cl : List vw_C} {G : gAd} {post : MS → Int32 → Prop} (hcl : mC cl) {σ : MS} {a1 : Int32} (h : wm_statedOr post σ a1) : mMet l D cl G yX13_statedOr cX13_statedOr 2 (some .int) 1 [.ref (G.1 0), .int a1] σ (qI post) := by
  unfold wm_statedOr at h
  refine m_enter hcl (by decide +kernel) rfl [(0, .ref (G.1 0)), (1, .int a1)] rfl (Nat.le_of_ble_eq_true rfl) ?_
  intro E hE hm
  have hN := hm.2.2.2.2.2.2.1
  refine r_iload_n hE 1 dX13_statedOr_0 rfl rfl ?_
  refine r_aload_n hE 0 dX13_statedOr_1 rfl rfl ?_
  refine mg_statedMany hE hm dX13_statedOr_2 ?_
  refine r_icmp_ge hE 17 dX13_statedOr_5 (by decide) h (fun h => ?_) (fun h => ?_)
  · refine r_iconst (v := (-1 : Int32)) hE dX13_statedOr_17 (by decide) ?_
    exact m_iret hE hm dX13_statedOr_18 h
  · refine r_aload_n hE 0 dX13_statedOr_8 rfl rfl ?_
    refine mg_stated hE hm dX13_statedOr_9 ?_
    refine r_iload_n hE 1 dX13_statedOr_12 rfl rfl ?_
    obtain ⟨hi, h⟩ := h
    refine ml_stated hE hm dX13_statedOr_13 hi ?_
    refine r_goto hE 18 dX13_statedOr_14 (by decide) ?_
    exact m_iret hE hm dX13_statedOr_18 h
/-! lay -/
def wm_lay_95 (post : MS → Prop) (lp2 : MS → Int32 → Int32 → Prop) (σ : MS) (v1 : Int32) (v2 : Int32) : Prop := ∀ x1 : Int32, x1 = v2 + (1 : Int32) → lp2 σ v1 x1
set_option maxRecDepth 20000 in
theorem km_lay_95 {E : gEnv} {l : Launch} {D : va_G} {cl : List vw_C} {G : gAd} {post : MS → Prop} (hE : gOK E cX13_lay RX13 none 1) (hm : mOK E l D cl G (qV post) 3) {lp2 : MS → Int32 → Int32 → Prop} (hl2 : ∀ (σ : MS) (v1 : Int32) (v2 : Int32), lp2 σ v1 v2 → GW E (mW G σ) 2 [(0, .ref (G.1 0)), (1, .int v1), (2, .int v2)] []) (σ : MS) (v1 : Int32) (v2 : Int32) (h : wm_lay_95 post lp2 σ v1 v2) : GW E (mW G σ) 95 [(0, .ref (G.1 0)), (1, .int v1), (2, .int v2)] [] := by
  unfold wm_lay_95 at h
  have hN := hm.2.2.2.2.2.2.1
  obtain ⟨x1, ex1⟩ : ∃ z : Int32, z = v2 + (1 : Int32) := ⟨_, rfl⟩
  have h := h x1 ex1
  refine r_iinc (v := x1) hE [(2, .int x1), (0, .ref (G.1 0)), (1, .int v1)] 2 dX13_lay_95 rfl (by rw [ex1]; rfl) hN (by decide) rfl ?_
  refine r_goto hE 2 dX13_lay_98 (by decide) ?_
  refine r_pick [1, 2, 0] rfl ?_
  exact hl2 _ _ _ h
def wm_lay_2 (post : MS → Prop) : Nat → MS → Int32 → Int32 → Prop
  | 0, _, _, _ => False
  | n + 1, σ, v1, v2 => (((24 : Int32) ≤ v2) → (post σ)) ∧ ((¬ ((24 : Int32) ≤ v2)) → (((v1 = (0 : Int32)) → (vp_in v2 24 ∧ (vp_in v2 24 ∧ (∀ s2 : MS, s2 = m_movedTop_s σ v2.toNatClampNeg (m_wasTop σ v2.toNatClampNeg) → vp_in v2 24 ∧ (vp_in v2 24 ∧ (∀ s3 : MS, s3 = m_movedBottom_s s2 v2.toNatClampNeg (m_wasBottom s2 v2.toNatClampNeg) → vp_in (v2 / (2 : Int32)) 12 ∧ (vp_in (v2 / (2 : Int32)) 12 ∧ (isB (m_wasMoved s3 (v2 / (2 : Int32)).toNatClampNeg) ∧ (∀ s4 : MS, s4 = m_isMoved_s s3 (v2 / (2 : Int32)).toNatClampNeg (m_wasMoved s3 (v2 / (2 : Int32)).toNatClampNeg) → wm_lay_95 post (fun (ys : MS) (y0 : Int32) (y1 : Int32) => wm_lay_2 post n ys y0 y1) s4 v1 v2))))))))) ∧ ((¬ (v1 = (0 : Int32))) → (vp_in v2 24 ∧ (vp_in v2 24 ∧ (∀ s5 : MS, s5 = m_wasTop_s σ v2.toNatClampNeg (m_movedTop σ v2.toNatClampNeg) → vp_in v2 24 ∧ (vp_in v2 24 ∧ (∀ s6 : MS, s6 = m_wasBottom_s s5 v2.toNatClampNeg (m_movedBottom s5 v2.toNatClampNeg) → vp_in (v2 / (2 : Int32)) 12 ∧ (vp_in (v2 / (2 : Int32)) 12 ∧ (isB (m_isMoved s6 (v2 / (2 : Int32)).toNatClampNeg) ∧ (∀ s7 : MS, s7 = m_wasMoved_s s6 (v2 / (2 : Int32)).toNatClampNeg (m_isMoved s6 (v2 / (2 : Int32)).toNatClampNeg) → wm_lay_95 post (fun (ys : MS) (y0 : Int32) (y1 : Int32) => wm_lay_2 post n ys y0 y1) s7 v1 v2)))))))))))
set_option maxRecDepth 20000 in
theorem km_lay_2 {E : gEnv} {l : Launch} {D : va_G} {cl : List vw_C} {G : gAd} {post : MS → Prop} (hE : gOK E cX13_lay RX13 none 1) (hm : mOK E l D cl G (qV post) 3) : ∀ (n : Nat) (σ : MS) (v1 : Int32) (v2 : Int32), wm_lay_2 post n σ v1 v2 → GW E (mW G σ) 2 [(0, .ref (G.1 0)), (1, .int v1), (2, .int v2)] [] := by
  intro n
  induction n with
  | zero => intro σ v1 v2 h; exact h.elim
  | succ n ih =>
    intro σ v1 v2 h
    rw [wm_lay_2] at h
    have hN := hm.2.2.2.2.2.2.1
    refine r_iload_n hE 2 dX13_lay_2 rfl rfl ?_
    refine r_bipush (v := (24 : Int32)) hE dX13_lay_3 (by decide) ?_
    refine r_icmp_ge hE 101 dX13_lay_5 (by decide) h (fun h => ?_) (fun h => ?_)
    · exact m_vret hE hm dX13_lay_101 h
    · refine r_iload_n hE 1 dX13_lay_8 rfl rfl ?_
      refine r_if_eq hE 55 dX13_lay_9 (by decide) h (fun h => ?_) (fun h => ?_)
      · refine r_aload_n hE 0 dX13_lay_55 rfl rfl ?_
        refine mg_movedTop hE hm dX13_lay_56 ?_
        refine r_iload_n hE 2 dX13_lay_59 rfl rfl ?_
        refine r_aload_n hE 0 dX13_lay_60 rfl rfl ?_
        refine mg_wasTop hE hm dX13_lay_61 ?_
        refine r_iload_n hE 2 dX13_lay_64 rfl rfl ?_
        obtain ⟨hi, h⟩ := h
        refine ml_wasTop hE hm dX13_lay_65 hi ?_
        obtain ⟨hi, h⟩ := h
        refine ms_movedTop hE hm dX13_lay_66 hi h (fun s2 h => ?_)
        refine r_aload_n hE 0 dX13_lay_67 rfl rfl ?_
        refine mg_movedBottom hE hm dX13_lay_68 ?_
        refine r_iload_n hE 2 dX13_lay_71 rfl rfl ?_
        refine r_aload_n hE 0 dX13_lay_72 rfl rfl ?_
        refine mg_wasBottom hE hm dX13_lay_73 ?_
        refine r_iload_n hE 2 dX13_lay_76 rfl rfl ?_
        obtain ⟨hi, h⟩ := h
        refine ml_wasBottom hE hm dX13_lay_77 hi ?_
        obtain ⟨hi, h⟩ := h
        refine ms_movedBottom hE hm dX13_lay_78 hi h (fun s3 h => ?_)
        refine r_aload_n hE 0 dX13_lay_79 rfl rfl ?_
        refine mg_isMoved hE hm dX13_lay_80 ?_
        refine r_iload_n hE 2 dX13_lay_83 rfl rfl ?_
        refine r_iconst (v := (2 : Int32)) hE dX13_lay_84 (by decide) ?_
        refine r_idiv hE dX13_lay_85 (by decide) ?_
        refine r_aload_n hE 0 dX13_lay_86 rfl rfl ?_
        refine mg_wasMoved hE hm dX13_lay_87 ?_
        refine r_iload_n hE 2 dX13_lay_90 rfl rfl ?_
        refine r_iconst (v := (2 : Int32)) hE dX13_lay_91 (by decide) ?_
        refine r_idiv hE dX13_lay_92 (by decide) ?_
        obtain ⟨hi, h⟩ := h
        refine ml_wasMoved hE hm dX13_lay_93 hi ?_
        obtain ⟨hi, h⟩ := h
        obtain ⟨hb, h⟩ := h
        refine ms_isMoved hE hm dX13_lay_94 hi hb h (fun s4 h => ?_)
        exact km_lay_95 hE hm ih _ _ _ h
      · refine r_aload_n hE 0 dX13_lay_12 rfl rfl ?_
        refine mg_wasTop hE hm dX13_lay_13 ?_
        refine r_iload_n hE 2 dX13_lay_16 rfl rfl ?_
        refine r_aload_n hE 0 dX13_lay_17 rfl rfl ?_
        refine mg_movedTop hE hm dX13_lay_18 ?_
        refine r_iload_n hE 2 dX13_lay_21 rfl rfl ?_
        obtain ⟨hi, h⟩ := h
        refine ml_movedTop hE hm dX13_lay_22 hi ?_
        obtain ⟨hi, h⟩ := h
        refine ms_wasTop hE hm dX13_lay_23 hi h (fun s5 h => ?_)
        refine r_aload_n hE 0 dX13_lay_24 rfl rfl ?_
        refine mg_wasBottom hE hm dX13_lay_25 ?_
        refine r_iload_n hE 2 dX13_lay_28 rfl rfl ?_
        refine r_aload_n hE 0 dX13_lay_29 rfl rfl ?_
        refine mg_movedBottom hE hm dX13_lay_30 ?_
        refine r_iload_n hE 2 dX13_lay_33 rfl rfl ?_
        obtain ⟨hi, h⟩ := h
        refine ml_movedBottom hE hm dX13_lay_34 hi ?_
        obtain ⟨hi, h⟩ := h
        refine ms_wasBottom hE hm dX13_lay_35 hi h (fun s6 h => ?_)
        refine r_aload_n hE 0 dX13_lay_36 rfl rfl ?_
        refine mg_wasMoved hE hm dX13_lay_37 ?_
        refine r_iload_n hE 2 dX13_lay_40 rfl rfl ?_
        refine r_iconst (v := (2 : Int32)) hE dX13_lay_41 (by decide) ?_
        refine r_idiv hE dX13_lay_42 (by decide) ?_
        refine r_aload_n hE 0 dX13_lay_43 rfl rfl ?_
        refine mg_isMoved hE hm dX13_lay_44 ?_
        refine r_iload_n hE 2 dX13_lay_47 rfl rfl ?_
        refine r_iconst (v := (2 : Int32)) hE dX13_lay_48 (by decide) ?_
        refine r_idiv hE dX13_lay_49 (by decide) ?_
        obtain ⟨hi, h⟩ := h
        refine ml_isMoved hE hm dX13_lay_50 hi ?_
        obtain ⟨hi, h⟩ := h
        obtain ⟨hb, h⟩ := h
        refine ms_wasMoved hE hm dX13_lay_51 hi hb h (fun s7 h => ?_)
        refine r_goto hE 95 dX13_lay_52 (by decide) ?_
        exact km_lay_95 hE hm ih _ _ _ h
def wm_lay (post : MS → Prop) (σ : MS) (a1 : Int32) : Prop := ∃ k : Nat, wm_lay_2 post k σ a1 (0 : Int32)
set_option maxRecDepth 20000 in
theorem km_lay {l : Launch} {D : va_G} {cl : List vw_C} {G : gAd} {post : MS → Prop} (hcl : mC cl) {σ : MS} {a1 : Int32} (h : wm_lay post σ a1) : mMet l D cl G yX13_lay cX13_lay 3 none 1 [.ref (G.1 0), .int a1] σ (qV post) := by
  unfold wm_lay at h
  refine m_enter hcl (by decide +kernel) rfl [(0, .ref (G.1 0)), (1, .int a1)] rfl (Nat.le_of_ble_eq_true rfl) ?_
  intro E hE hm
  have hN := hm.2.2.2.2.2.2.1
  refine r_iconst (v := (0 : Int32)) hE dX13_lay_0 (by decide) ?_
  refine r_istore_n hE [(2, .int (0 : Int32)), (0, .ref (G.1 0)), (1, .int a1)] dX13_lay_1 rfl hN (by decide) rfl ?_
  refine r_pick [1, 2, 0] rfl ?_
  obtain ⟨k, h⟩ := h
  exact km_lay_2 hE hm k _ _ _ h
/-! findWay -/
def wm_findWay_136 (post : MS → Int32 → Prop) (σ : MS) (t0 : Int32) : Prop := ∀ s1 : MS, s1 = m_failure_s σ (0 : Int32) → ∀ s2 : MS, s2 = m_piled_s s1 (0 : Int32) → isB t0 ∧ (post s2 t0)
set_option maxRecDepth 20000 in
theorem km_findWay_136 {E : gEnv} {l : Launch} {D : va_G} {cl : List vw_C} {G : gAd} {post : MS → Int32 → Prop} (hE : gOK E cX13_findWay RX13 (some .boolean) 4) (hm : mOK E l D cl G (qI post) 8) (σ : MS) (t0 : Int32) (h : wm_findWay_136 post σ t0) : GW E (mW G σ) 136 [(0, .ref (G.1 0))] [.int t0] := by
  unfold wm_findWay_136 at h
  have hN := hm.2.2.2.2.2.2.1
  refine r_istore hE [(6, .int t0), (0, .ref (G.1 0))] dX13_findWay_136 hN (by decide) rfl ?_
  refine r_aload_n hE 1 dX13_findWay_138 rfl rfl ?_
  refine r_iconst (v := (0 : Int32)) hE dX13_findWay_139 (by decide) ?_
  refine mp_failure hE hm dX13_findWay_140 h (fun s1 h => ?_)
  refine r_aload_n hE 1 dX13_findWay_143 rfl rfl ?_
  refine r_iconst (v := (0 : Int32)) hE dX13_findWay_144 (by decide) ?_
  refine mp_piled hE hm dX13_findWay_145 h (fun s2 h => ?_)
  refine r_iload hE 0 dX13_findWay_148 rfl ?_
  obtain ⟨hb, h⟩ := h
  exact m_zret hE hm dX13_findWay_150 hb h
def wm_findWay_65 (post : MS → Int32 → Prop) (lp16 : MS → Int32 → Int32 → Int32 → Int32 → Int32 → Prop) (lp26 : MS → Int32 → Int32 → Int32 → Int32 → Int32 → Int32 → Prop) (σ : MS) (v2 : Int32) (v3 : Int32) (v4 : Int32) (v5 : Int32) (v6 : Int32) (v7 : Int32) (t1 : Int64) : Prop := wm_whole (fun (s3 : MS) => wm_times (fun (s4 : MS) => wm_plus (fun (s5 : MS) => vp_in (0 : Int32) 40 ∧ (vp_in (((2 : Int32) * v6) + v7) 42 ∧ (∀ s6 : MS, s6 = m_wayTop_s s5 (((2 : Int32) * v6) + v7).toNatClampNeg (m_top s5 (0 : Int32).toNatClampNeg) → vp_in (0 : Int32) 40 ∧ (vp_in (((2 : Int32) * v6) + v7) 42 ∧ (∀ s7 : MS, s7 = m_wayBottom_s s6 (((2 : Int32) * v6) + v7).toNatClampNeg (m_bottom s6 (0 : Int32).toNatClampNeg) → ∀ x8 : Int32, x8 = v7 + (1 : Int32) → lp26 s7 v2 v3 v4 v5 v6 x8))))) s4) s3) σ t1
set_option maxRecDepth 20000 in
theorem km_findWay_65 {E : gEnv} {l : Launch} {D : va_G} {cl : List vw_C} {G : gAd} {post : MS → Int32 → Prop} (hE : gOK E cX13_findWay RX13 (some .boolean) 4) (hm : mOK E l D cl G (qI post) 8) {lp16 : MS → Int32 → Int32 → Int32 → Int32 → Int32 → Prop} {lp26 : MS → Int32 → Int32 → Int32 → Int32 → Int32 → Int32 → Prop} (hl16 : ∀ (σ : MS) (v2 : Int32) (v3 : Int32) (v4 : Int32) (v5 : Int32) (v6 : Int32), lp16 σ v2 v3 v4 v5 v6 → GW E (mW G σ) 16 [(0, .ref (G.1 0)), (2, .int v2), (3, .int v3), (4, .int v4), (5, .int v5), (6, .int v6)] []) (hl26 : ∀ (σ : MS) (v2 : Int32) (v3 : Int32) (v4 : Int32) (v5 : Int32) (v6 : Int32) (v7 : Int32), lp26 σ v2 v3 v4 v5 v6 v7 → GW E (mW G σ) 26 [(0, .ref (G.1 0)), (2, .int v2), (3, .int v3), (4, .int v4), (5, .int v5), (6, .int v6), (7, .int v7)] []) (σ : MS) (v2 : Int32) (v3 : Int32) (v4 : Int32) (v5 : Int32) (v6 : Int32) (v7 : Int32) (t1 : Int64) (h : wm_findWay_65 post lp16 lp26 σ v2 v3 v4 v5 v6 v7 t1) : GW E (mW G σ) 65 [(0, .ref (G.1 0)), (2, .int v2), (3, .int v3), (4, .int v4), (5, .int v5), (6, .int v6), (7, .int v7)] [.long t1, .ref (G.1 0)] := by
  unfold wm_findWay_65 at h
  have hN := hm.2.2.2.2.2.2.1
  refine m_callVv hE hm [.long t1] [] mc_whole (km_whole hm.2.2.2.2.2.2.2.2 h) (by decide) rfl rfl (Nat.le_of_ble_eq_true rfl) dX13_findWay_65 (fun s3 h => ?_)
  refine r_aload_n hE 0 dX13_findWay_68 rfl rfl ?_
  refine m_callVv hE hm [] [] mc_times (km_times hm.2.2.2.2.2.2.2.2 h) (by decide) rfl rfl (Nat.le_of_ble_eq_true rfl) dX13_findWay_69 (fun s4 h => ?_)
  refine r_aload_n hE 0 dX13_findWay_72 rfl rfl ?_
  refine m_callVv hE hm [] [] mc_plus (km_plus hm.2.2.2.2.2.2.2.2 h) (by decide) rfl rfl (Nat.le_of_ble_eq_true rfl) dX13_findWay_73 (fun s5 h => ?_)
  refine r_aload_n hE 0 dX13_findWay_76 rfl rfl ?_
  refine mg_wayTop hE hm dX13_findWay_77 ?_
  refine r_iconst (v := (2 : Int32)) hE dX13_findWay_80 (by decide) ?_
  refine r_iload hE 5 dX13_findWay_81 rfl ?_
  refine r_imul hE dX13_findWay_83 ?_
  refine r_iload hE 6 dX13_findWay_84 rfl ?_
  refine r_iadd hE dX13_findWay_86 ?_
  refine r_aload_n hE 0 dX13_findWay_87 rfl rfl ?_
  refine mg_top hE hm dX13_findWay_88 ?_
  refine r_iconst (v := (0 : Int32)) hE dX13_findWay_91 (by decide) ?_
  obtain ⟨hi, h⟩ := h
  refine ml_top hE hm dX13_findWay_92 hi ?_
  obtain ⟨hi, h⟩ := h
  refine ms_wayTop hE hm dX13_findWay_93 hi h (fun s6 h => ?_)
  refine r_aload_n hE 0 dX13_findWay_94 rfl rfl ?_
  refine mg_wayBottom hE hm dX13_findWay_95 ?_
  refine r_iconst (v := (2 : Int32)) hE dX13_findWay_98 (by decide) ?_
  refine r_iload hE 5 dX13_findWay_99 rfl ?_
  refine r_imul hE dX13_findWay_101 ?_
  refine r_iload hE 6 dX13_findWay_102 rfl ?_
  refine r_iadd hE dX13_findWay_104 ?_
  refine r_aload_n hE 0 dX13_findWay_105 rfl rfl ?_
  refine mg_bottom hE hm dX13_findWay_106 ?_
  refine r_iconst (v := (0 : Int32)) hE dX13_findWay_109 (by decide) ?_
  obtain ⟨hi, h⟩ := h
  refine ml_bottom hE hm dX13_findWay_110 hi ?_
  obtain ⟨hi, h⟩ := h
  refine ms_wayBottom hE hm dX13_findWay_111 hi h (fun s7 h => ?_)
  obtain ⟨x8, ex8⟩ : ∃ z : Int32, z = v7 + (1 : Int32) := ⟨_, rfl⟩
  have h := h x8 ex8
  refine r_iinc (v := x8) hE [(7, .int x8), (0, .ref (G.1 0)), (2, .int v2), (3, .int v3), (4, .int v4), (5, .int v5), (6, .int v6)] 6 dX13_findWay_112 rfl (by rw [ex8]; rfl) hN (by decide) rfl ?_
  refine r_goto hE 26 dX13_findWay_115 (by decide) ?_
  refine r_pick [1, 2, 3, 4, 5, 6, 0] rfl ?_
  exact hl26 _ _ _ _ _ _ _ h
def wm_findWay_26 (post : MS → Int32 → Prop) (lp16 : MS → Int32 → Int32 → Int32 → Int32 → Int32 → Prop) : Nat → MS → Int32 → Int32 → Int32 → Int32 → Int32 → Int32 → Prop
  | 0, _, _, _, _, _, _, _ => False
  | n + 1, σ, v2, v3, v4, v5, v6, v7 => (((2 : Int32) ≤ v7) → (∀ x9 : Int32, x9 = v6 + (1 : Int32) → lp16 σ v2 v3 v4 v5 x9)) ∧ ((¬ ((2 : Int32) ≤ v7)) → (∀ s10 : MS, s10 = m_piled_s σ (0 : Int32) → wm_part (fun (s11 : MS) => wm_whole (fun (s12 : MS) => ((¬ (v7 = (0 : Int32))) → (wm_findWay_65 post lp16 (fun (ys : MS) (y0 : Int32) (y1 : Int32) (y2 : Int32) (y3 : Int32) (y4 : Int32) (y5 : Int32) => wm_findWay_26 post lp16 n ys y0 y1 y2 y3 y4 y5) s12 v2 v3 v4 v5 v6 v7 (v3.toInt64))) ∧ ((v7 = (0 : Int32)) → (wm_findWay_65 post lp16 (fun (ys : MS) (y0 : Int32) (y1 : Int32) (y2 : Int32) (y3 : Int32) (y4 : Int32) (y5 : Int32) => wm_findWay_26 post lp16 n ys y0 y1 y2 y3 y4 y5) s12 v2 v3 v4 v5 v6 v7 (v2.toInt64)))) s11 (v6.toInt64)) s10 v5 v7))
set_option maxRecDepth 20000 in
theorem km_findWay_26 {E : gEnv} {l : Launch} {D : va_G} {cl : List vw_C} {G : gAd} {post : MS → Int32 → Prop} (hE : gOK E cX13_findWay RX13 (some .boolean) 4) (hm : mOK E l D cl G (qI post) 8) {lp16 : MS → Int32 → Int32 → Int32 → Int32 → Int32 → Prop} (hl16 : ∀ (σ : MS) (v2 : Int32) (v3 : Int32) (v4 : Int32) (v5 : Int32) (v6 : Int32), lp16 σ v2 v3 v4 v5 v6 → GW E (mW G σ) 16 [(0, .ref (G.1 0)), (2, .int v2), (3, .int v3), (4, .int v4), (5, .int v5), (6, .int v6)] []) : ∀ (n : Nat) (σ : MS) (v2 : Int32) (v3 : Int32) (v4 : Int32) (v5 : Int32) (v6 : Int32) (v7 : Int32), wm_findWay_26 post lp16 n σ v2 v3 v4 v5 v6 v7 → GW E (mW G σ) 26 [(0, .ref (G.1 0)), (2, .int v2), (3, .int v3), (4, .int v4), (5, .int v5), (6, .int v6), (7, .int v7)] [] := by
  intro n
  induction n with
  | zero => intro σ v2 v3 v4 v5 v6 v7 h; exact h.elim
  | succ n ih =>
    intro σ v2 v3 v4 v5 v6 v7 h
    rw [wm_findWay_26] at h
    have hN := hm.2.2.2.2.2.2.1
    refine r_iload hE 6 dX13_findWay_26 rfl ?_
    refine r_iconst (v := (2 : Int32)) hE dX13_findWay_28 (by decide) ?_
    refine r_icmp_ge hE 118 dX13_findWay_29 (by decide) h (fun h => ?_) (fun h => ?_)
    · obtain ⟨x9, ex9⟩ : ∃ z : Int32, z = v6 + (1 : Int32) := ⟨_, rfl⟩
      have h := h x9 ex9
      refine r_iinc (v := x9) hE [(6, .int x9), (0, .ref (G.1 0)), (2, .int v2), (3, .int v3), (4, .int v4), (5, .int v5), (7, .int v7)] 5 dX13_findWay_118 rfl (by rw [ex9]; rfl) hN (by decide) rfl ?_
      refine r_goto hE 16 dX13_findWay_121 (by decide) ?_
      refine r_pick [1, 2, 3, 4, 5, 0] rfl ?_
      exact hl16 _ _ _ _ _ _ h
    · refine r_aload_n hE 0 dX13_findWay_32 rfl rfl ?_
      refine r_iconst (v := (0 : Int32)) hE dX13_findWay_33 (by decide) ?_
      refine mp_piled hE hm dX13_findWay_34 h (fun s10 h => ?_)
      refine r_aload_n hE 0 dX13_findWay_37 rfl rfl ?_
      refine r_iload hE 4 dX13_findWay_38 rfl ?_
      refine r_iload hE 6 dX13_findWay_40 rfl ?_
      refine m_callVv hE hm [.int v5, .int v7] [] mc_part (km_part hm.2.2.2.2.2.2.2.2 h) (by decide) rfl rfl (Nat.le_of_ble_eq_true rfl) dX13_findWay_42 (fun s11 h => ?_)
      refine r_aload_n hE 0 dX13_findWay_45 rfl rfl ?_
      refine r_iload hE 5 dX13_findWay_46 rfl ?_
      refine r_i2l hE dX13_findWay_48 ?_
      refine m_callVv hE hm [.long (v6.toInt64)] [] mc_whole (km_whole hm.2.2.2.2.2.2.2.2 h) (by decide) rfl rfl (Nat.le_of_ble_eq_true rfl) dX13_findWay_49 (fun s12 h => ?_)
      refine r_aload_n hE 0 dX13_findWay_52 rfl rfl ?_
      refine r_iload hE 6 dX13_findWay_53 rfl ?_
      refine r_if_ne hE 63 dX13_findWay_55 (by decide) h (fun h => ?_) (fun h => ?_)
      · refine r_iload_n hE 2 dX13_findWay_63 rfl rfl ?_
        refine r_i2l hE dX13_findWay_64 ?_
        exact km_findWay_65 hE hm hl16 ih _ _ _ _ _ _ _ _ h
      · refine r_iload_n hE 1 dX13_findWay_58 rfl rfl ?_
        refine r_i2l hE dX13_findWay_59 ?_
        refine r_goto hE 65 dX13_findWay_60 (by decide) ?_
        exact km_findWay_65 hE hm hl16 ih _ _ _ _ _ _ _ _ h
def wm_findWay_16 (post : MS → Int32 → Prop) : Nat → MS → Int32 → Int32 → Int32 → Int32 → Int32 → Prop
  | 0, _, _, _, _, _, _ => False
  | n + 1, σ, v2, v3, v4, v5, v6 => ((v4 < v6) → (((¬ ((m_failure σ) = (0 : Int32))) → (wm_findWay_136 post σ (0 : Int32))) ∧ (((m_failure σ) = (0 : Int32)) → (wm_findWay_136 post σ (1 : Int32))))) ∧ ((¬ (v4 < v6)) → (∃ k : Nat, wm_findWay_26 post (fun (ys : MS) (y0 : Int32) (y1 : Int32) (y2 : Int32) (y3 : Int32) (y4 : Int32) => wm_findWay_16 post n ys y0 y1 y2 y3 y4) k σ v2 v3 v4 v5 v6 (0 : Int32)))
set_option maxRecDepth 20000 in
theorem km_findWay_16 {E : gEnv} {l : Launch} {D : va_G} {cl : List vw_C} {G : gAd} {post : MS → Int32 → Prop} (hE : gOK E cX13_findWay RX13 (some .boolean) 4) (hm : mOK E l D cl G (qI post) 8) : ∀ (n : Nat) (σ : MS) (v2 : Int32) (v3 : Int32) (v4 : Int32) (v5 : Int32) (v6 : Int32), wm_findWay_16 post n σ v2 v3 v4 v5 v6 → GW E (mW G σ) 16 [(0, .ref (G.1 0)), (2, .int v2), (3, .int v3), (4, .int v4), (5, .int v5), (6, .int v6)] [] := by
  intro n
  induction n with
  | zero => intro σ v2 v3 v4 v5 v6 h; exact h.elim
  | succ n ih =>
    intro σ v2 v3 v4 v5 v6 h
    rw [wm_findWay_16] at h
    have hN := hm.2.2.2.2.2.2.1
    refine r_iload hE 5 dX13_findWay_16 rfl ?_
    refine r_iload hE 3 dX13_findWay_18 rfl ?_
    refine r_icmp_gt hE 124 dX13_findWay_20 (by decide) h (fun h => ?_) (fun h => ?_)
    · refine r_aload_n hE 0 dX13_findWay_124 rfl rfl ?_
      refine mg_failure hE hm dX13_findWay_125 ?_
      refine r_if_ne hE 135 dX13_findWay_128 (by decide) h (fun h => ?_) (fun h => ?_)
      · refine r_iconst (v := (0 : Int32)) hE dX13_findWay_135 (by decide) ?_
        refine r_pick [0] rfl ?_
        exact km_findWay_136 hE hm _ _ h
      · refine r_iconst (v := (1 : Int32)) hE dX13_findWay_131 (by decide) ?_
        refine r_goto hE 136 dX13_findWay_132 (by decide) ?_
        refine r_pick [0] rfl ?_
        exact km_findWay_136 hE hm _ _ h
    · refine r_iconst (v := (0 : Int32)) hE dX13_findWay_23 (by decide) ?_
      refine r_istore hE [(7, .int (0 : Int32)), (0, .ref (G.1 0)), (2, .int v2), (3, .int v3), (4, .int v4), (5, .int v5), (6, .int v6)] dX13_findWay_24 hN (by decide) rfl ?_
      refine r_pick [1, 2, 3, 4, 5, 6, 0] rfl ?_
      obtain ⟨k, h⟩ := h
      exact km_findWay_26 hE hm ih k _ _ _ _ _ _ _ h
def wm_findWay (post : MS → Int32 → Prop) (σ : MS) (a1 : Int32) (a2 : Int32) (a3 : Int32) (a4 : Int32) : Prop := vp_in a1 12 ∧ (∀ x13 : Int32, x13 = m_freeThing σ a1.toNatClampNeg → ∀ s14 : MS, s14 = m_failure_s σ (0 : Int32) → ∃ k : Nat, wm_findWay_16 post k s14 a2 a3 a4 x13 (0 : Int32))
set_option maxRecDepth 20000 in
theorem km_findWay {l : Launch} {D : va_G} {cl : List vw_C} {G : gAd} {post : MS → Int32 → Prop} (hcl : mC cl) {σ : MS} {a1 : Int32} {a2 : Int32} {a3 : Int32} {a4 : Int32} (h : wm_findWay post σ a1 a2 a3 a4) : mMet l D cl G yX13_findWay cX13_findWay 8 (some .boolean) 4 [.ref (G.1 0), .int a1, .int a2, .int a3, .int a4] σ (qI post) := by
  unfold wm_findWay at h
  refine m_enter hcl (by decide +kernel) rfl [(0, .ref (G.1 0)), (1, .int a1), (2, .int a2), (3, .int a3), (4, .int a4)] rfl (Nat.le_of_ble_eq_true rfl) ?_
  intro E hE hm
  have hN := hm.2.2.2.2.2.2.1
  refine r_aload_n hE 0 dX13_findWay_0 rfl rfl ?_
  refine mg_freeThing hE hm dX13_findWay_1 ?_
  refine r_iload_n hE 1 dX13_findWay_4 rfl rfl ?_
  obtain ⟨hi, h⟩ := h
  refine ml_freeThing hE hm dX13_findWay_5 hi ?_
  refine r_topi h (fun x13 ex13 h => ?_)
  refine r_istore hE [(5, .int x13), (0, .ref (G.1 0)), (1, .int a1), (2, .int a2), (3, .int a3), (4, .int a4)] dX13_findWay_6 hN (by decide) rfl ?_
  refine r_aload_n hE 1 dX13_findWay_8 rfl rfl ?_
  refine r_iconst (v := (0 : Int32)) hE dX13_findWay_9 (by decide) ?_
  refine mp_failure hE hm dX13_findWay_10 h (fun s14 h => ?_)
  refine r_iconst (v := (0 : Int32)) hE dX13_findWay_13 (by decide) ?_
  refine r_istore hE [(6, .int (0 : Int32)), (5, .int x13), (0, .ref (G.1 0)), (1, .int a1), (2, .int a2), (3, .int a3), (4, .int a4)] dX13_findWay_14 hN (by decide) rfl ?_
  refine r_pick [2, 4, 5, 6, 1, 0] rfl ?_
  obtain ⟨k, h⟩ := h
  exact km_findWay_16 hE hm k _ _ _ _ _ _ h
/-! sweep -/
def wm_sweep_192 (post : MS → Int32 → Prop) (lp105 : MS → Int32 → Int32 → Int32 → Int32 → Int32 → Prop) (σ : MS) (v1 : Int32) (v4 : Int32) (v5 : Int32) (v7 : Int32) (t0 : Int32) (t1 : Int32) : Prop := ∀ x1 : Int32, x1 = t0 + t1 → ∀ x2 : Int32, x2 = v7 + (1 : Int32) → lp105 σ v1 v4 v5 x1 x2
set_option maxRecDepth 20000 in
theorem km_sweep_192 {E : gEnv} {l : Launch} {D : va_G} {cl : List vw_C} {G : gAd} {post : MS → Int32 → Prop} (hE : gOK E cX13_sweep RX13 (some .int) 13) (hm : mOK E l D cl G (qI post) 8) {lp105 : MS → Int32 → Int32 → Int32 → Int32 → Int32 → Prop} (hl105 : ∀ (σ : MS) (v1 : Int32) (v4 : Int32) (v5 : Int32) (v6 : Int32) (v7 : Int32), lp105 σ v1 v4 v5 v6 v7 → GW E (mW G σ) 105 [(0, .ref (G.1 0)), (1, .int v1), (4, .int v4), (5, .int v5), (6, .int v6), (7, .int v7)] []) (σ : MS) (v1 : Int32) (v4 : Int32) (v5 : Int32) (v7 : Int32) (t0 : Int32) (t1 : Int32) (h : wm_sweep_192 post lp105 σ v1 v4 v5 v7 t0 t1) : GW E (mW G σ) 192 [(0, .ref (G.1 0)), (1, .int v1), (4, .int v4), (5, .int v5), (7, .int v7)] [.int t1, .int t0] := by
  unfold wm_sweep_192 at h
  have hN := hm.2.2.2.2.2.2.1
  refine r_iadd hE dX13_sweep_192 ?_
  refine r_topi h (fun x1 ex1 h => ?_)
  refine r_istore hE [(6, .int x1), (0, .ref (G.1 0)), (1, .int v1), (4, .int v4), (5, .int v5), (7, .int v7)] dX13_sweep_193 hN (by decide) rfl ?_
  obtain ⟨x2, ex2⟩ : ∃ z : Int32, z = v7 + (1 : Int32) := ⟨_, rfl⟩
  have h := h x2 ex2
  refine r_iinc (v := x2) hE [(7, .int x2), (6, .int x1), (0, .ref (G.1 0)), (1, .int v1), (4, .int v4), (5, .int v5)] 5 dX13_sweep_195 rfl (by rw [ex2]; rfl) hN (by decide) rfl ?_
  refine r_goto hE 105 dX13_sweep_198 (by decide) ?_
  refine r_pick [2, 3, 4, 5, 1, 0] rfl ?_
  exact hl105 _ _ _ _ _ _ h
def wm_sweep_105 (post : MS → Int32 → Prop) : Nat → MS → Int32 → Int32 → Int32 → Int32 → Int32 → Prop
  | 0, _, _, _, _, _, _ => False
  | n + 1, σ, v1, v4, v5, v6, v7 => ((v4 < v7) → (∀ s3 : MS, s3 = m_sweptMany_s σ (v4 + (1 : Int32)) → wm_lay (fun (s4 : MS) => post s4 v6) s3 (0 : Int32))) ∧ ((¬ (v4 < v7)) → (vp_in ((2 : Int32) * v7) 42 ∧ (vp_in ((2 : Int32) * v7) 42 ∧ (vp_in (((2 : Int32) * v7) + (1 : Int32)) 42 ∧ (vp_in (((2 : Int32) * v7) + (1 : Int32)) 42 ∧ (wm_place_ (fun (s5 : MS) => wm_runOnce (fun (s6 : MS) => wm_statedOr (fun (s7 : MS) (r8 : Int32) => vp_in v7 21 ∧ (∀ s9 : MS, s9 = m_swept_s s7 v7.toNatClampNeg r8 → vp_in v7 21 ∧ (((¬ ((m_swept s9 v7.toNatClampNeg) = (1 : Int32))) → (wm_sweep_192 post (fun (ys : MS) (y0 : Int32) (y1 : Int32) (y2 : Int32) (y3 : Int32) (y4 : Int32) => wm_sweep_105 post n ys y0 y1 y2 y3 y4) s9 v1 v4 v5 v7 v6 (0 : Int32))) ∧ (((m_swept s9 v7.toNatClampNeg) = (1 : Int32)) → (wm_sweep_192 post (fun (ys : MS) (y0 : Int32) (y1 : Int32) (y2 : Int32) (y3 : Int32) (y4 : Int32) => wm_sweep_105 post n ys y0 y1 y2 y3 y4) s9 v1 v4 v5 v7 v6 (1 : Int32)))))) s6 v5) s5) σ v1 (m_wayTop σ ((2 : Int32) * v7).toNatClampNeg) (m_wayBottom σ ((2 : Int32) * v7).toNatClampNeg) (m_wayTop σ (((2 : Int32) * v7) + (1 : Int32)).toNatClampNeg) (m_wayBottom σ (((2 : Int32) * v7) + (1 : Int32)).toNatClampNeg)))))))
set_option maxRecDepth 20000 in
theorem km_sweep_105 {E : gEnv} {l : Launch} {D : va_G} {cl : List vw_C} {G : gAd} {post : MS → Int32 → Prop} (hE : gOK E cX13_sweep RX13 (some .int) 13) (hm : mOK E l D cl G (qI post) 8) : ∀ (n : Nat) (σ : MS) (v1 : Int32) (v4 : Int32) (v5 : Int32) (v6 : Int32) (v7 : Int32), wm_sweep_105 post n σ v1 v4 v5 v6 v7 → GW E (mW G σ) 105 [(0, .ref (G.1 0)), (1, .int v1), (4, .int v4), (5, .int v5), (6, .int v6), (7, .int v7)] [] := by
  intro n
  induction n with
  | zero => intro σ v1 v4 v5 v6 v7 h; exact h.elim
  | succ n ih =>
    intro σ v1 v4 v5 v6 v7 h
    rw [wm_sweep_105] at h
    have hN := hm.2.2.2.2.2.2.1
    refine r_iload hE 5 dX13_sweep_105 rfl ?_
    refine r_iload hE 2 dX13_sweep_107 rfl ?_
    refine r_icmp_gt hE 201 dX13_sweep_109 (by decide) h (fun h => ?_) (fun h => ?_)
    · refine r_aload_n hE 0 dX13_sweep_201 rfl rfl ?_
      refine r_iload hE 2 dX13_sweep_202 rfl ?_
      refine r_iconst (v := (1 : Int32)) hE dX13_sweep_204 (by decide) ?_
      refine r_iadd hE dX13_sweep_205 ?_
      refine mp_sweptMany hE hm dX13_sweep_206 h (fun s3 h => ?_)
      refine r_aload_n hE 0 dX13_sweep_209 rfl rfl ?_
      refine r_iconst (v := (0 : Int32)) hE dX13_sweep_210 (by decide) ?_
      refine m_callVv hE hm [.int (0 : Int32)] [] mc_lay (km_lay hm.2.2.2.2.2.2.2.2 h) (by decide) rfl rfl (Nat.le_of_ble_eq_true rfl) dX13_sweep_211 (fun s4 h => ?_)
      refine r_iload hE 4 dX13_sweep_214 rfl ?_
      exact m_iret hE hm dX13_sweep_216 h
    · refine r_aload_n hE 0 dX13_sweep_112 rfl rfl ?_
      refine r_iload_n hE 1 dX13_sweep_113 rfl rfl ?_
      refine r_aload_n hE 0 dX13_sweep_114 rfl rfl ?_
      refine mg_wayTop hE hm dX13_sweep_115 ?_
      refine r_iconst (v := (2 : Int32)) hE dX13_sweep_118 (by decide) ?_
      refine r_iload hE 5 dX13_sweep_119 rfl ?_
      refine r_imul hE dX13_sweep_121 ?_
      obtain ⟨hi, h⟩ := h
      refine ml_wayTop hE hm dX13_sweep_122 hi ?_
      refine r_aload_n hE 0 dX13_sweep_123 rfl rfl ?_
      refine mg_wayBottom hE hm dX13_sweep_124 ?_
      refine r_iconst (v := (2 : Int32)) hE dX13_sweep_127 (by decide) ?_
      refine r_iload hE 5 dX13_sweep_128 rfl ?_
      refine r_imul hE dX13_sweep_130 ?_
      obtain ⟨hi, h⟩ := h
      refine ml_wayBottom hE hm dX13_sweep_131 hi ?_
      refine r_aload_n hE 0 dX13_sweep_132 rfl rfl ?_
      refine mg_wayTop hE hm dX13_sweep_133 ?_
      refine r_iconst (v := (2 : Int32)) hE dX13_sweep_136 (by decide) ?_
      refine r_iload hE 5 dX13_sweep_137 rfl ?_
      refine r_imul hE dX13_sweep_139 ?_
      refine r_iconst (v := (1 : Int32)) hE dX13_sweep_140 (by decide) ?_
      refine r_iadd hE dX13_sweep_141 ?_
      obtain ⟨hi, h⟩ := h
      refine ml_wayTop hE hm dX13_sweep_142 hi ?_
      refine r_aload_n hE 0 dX13_sweep_143 rfl rfl ?_
      refine mg_wayBottom hE hm dX13_sweep_144 ?_
      refine r_iconst (v := (2 : Int32)) hE dX13_sweep_147 (by decide) ?_
      refine r_iload hE 5 dX13_sweep_148 rfl ?_
      refine r_imul hE dX13_sweep_150 ?_
      refine r_iconst (v := (1 : Int32)) hE dX13_sweep_151 (by decide) ?_
      refine r_iadd hE dX13_sweep_152 ?_
      obtain ⟨hi, h⟩ := h
      refine ml_wayBottom hE hm dX13_sweep_153 hi ?_
      refine m_callVv hE hm [.int v1, .long (m_wayTop σ ((2 : Int32) * v7).toNatClampNeg), .long (m_wayBottom σ ((2 : Int32) * v7).toNatClampNeg), .long (m_wayTop σ (((2 : Int32) * v7) + (1 : Int32)).toNatClampNeg), .long (m_wayBottom σ (((2 : Int32) * v7) + (1 : Int32)).toNatClampNeg)] [] mc_place_ (km_place_ hm.2.2.2.2.2.2.2.2 h) (by decide) rfl rfl (Nat.le_of_ble_eq_true rfl) dX13_sweep_154 (fun s5 h => ?_)
      refine r_aload_n hE 0 dX13_sweep_157 rfl rfl ?_
      refine m_callVv hE hm [] [] mc_runOnce (km_runOnce hm.2.2.2.2.2.2.2.2 h) (by decide) rfl rfl (Nat.le_of_ble_eq_true rfl) dX13_sweep_158 (fun s6 h => ?_)
      refine r_aload_n hE 0 dX13_sweep_161 rfl rfl ?_
      refine mg_swept hE hm dX13_sweep_162 ?_
      refine r_iload hE 5 dX13_sweep_165 rfl ?_
      refine r_aload_n hE 0 dX13_sweep_167 rfl rfl ?_
      refine r_iload hE 3 dX13_sweep_168 rfl ?_
      refine m_callVi hE hm [.int v5] [.int v7, .ref (G.1 98)] mc_statedOr (km_statedOr hm.2.2.2.2.2.2.2.2 h) (by decide) rfl rfl (Nat.le_of_ble_eq_true rfl) dX13_sweep_170 (fun s7 r8 h => ?_)
      obtain ⟨hi, h⟩ := h
      refine ms_swept hE hm dX13_sweep_173 hi h (fun s9 h => ?_)
      refine r_iload hE 4 dX13_sweep_174 rfl ?_
      refine r_aload_n hE 0 dX13_sweep_176 rfl rfl ?_
      refine mg_swept hE hm dX13_sweep_177 ?_
      refine r_iload hE 5 dX13_sweep_180 rfl ?_
      obtain ⟨hi, h⟩ := h
      refine ml_swept hE hm dX13_sweep_182 hi ?_
      refine r_iconst (v := (1 : Int32)) hE dX13_sweep_183 (by decide) ?_
      refine r_icmp_ne hE 191 dX13_sweep_184 (by decide) h (fun h => ?_) (fun h => ?_)
      · refine r_iconst (v := (0 : Int32)) hE dX13_sweep_191 (by decide) ?_
        refine r_pick [0, 1, 2, 3, 5] rfl ?_
        exact km_sweep_192 hE hm ih _ _ _ _ _ _ _ h
      · refine r_iconst (v := (1 : Int32)) hE dX13_sweep_187 (by decide) ?_
        refine r_goto hE 192 dX13_sweep_188 (by decide) ?_
        refine r_pick [0, 1, 2, 3, 5] rfl ?_
        exact km_sweep_192 hE hm ih _ _ _ _ _ _ _ h
def wm_sweep (post : MS → Int32 → Prop) (σ : MS) (a1 : Int32) (a2 : Int32) (a3 : Int32) (a4 : Int32) (a5 : Int32) : Prop := ∀ s10 : MS, s10 = m_code_s σ (0 : Int32) → (((m_hasRun s10) = (0 : Int32)) → (post s10 (-2000000001 : Int32))) ∧ ((¬ ((m_hasRun s10) = (0 : Int32))) → (wm_in (fun (s11 : MS) (r12 : Int32) => ((¬ (r12 = (0 : Int32))) → (wm_in (fun (s13 : MS) (r14 : Int32) => ((r14 = (0 : Int32)) → (post s13 (-2000000002 : Int32))) ∧ ((¬ (r14 = (0 : Int32))) → (((a5 < (0 : Int32)) → (post s13 (-2000000002 : Int32))) ∧ ((¬ (a5 < (0 : Int32))) → (wm_findWay (fun (s15 : MS) (r16 : Int32) => ((¬ (r16 = (0 : Int32))) → (((¬ ((m_hasFigure s15) = (0 : Int32))) → ((((((m_runs s15) + a4) + (1 : Int32)) ≤ (600 : Int32)) → (wm_lay (fun (s17 : MS) => ∃ k : Nat, wm_sweep_105 post k s17 a1 a4 a5 (0 : Int32) (0 : Int32)) s15 (1 : Int32))) ∧ ((¬ ((((m_runs s15) + a4) + (1 : Int32)) ≤ (600 : Int32))) → (post s15 (-2000000004 : Int32))))) ∧ (((m_hasFigure s15) = (0 : Int32)) → (post s15 (-2000000003 : Int32))))) ∧ ((r16 = (0 : Int32)) → (post s15 (-2000000002 : Int32)))) s13 a1 a2 a3 a4))))) s11 (a4.toInt64) (0 : Int64) (20 : Int64))) ∧ ((r12 = (0 : Int32)) → (post s11 (-2000000001 : Int32)))) s10 (a1.toInt64) (0 : Int64) (((m_frees s10) - (1 : Int32)).toInt64)))
set_option maxRecDepth 20000 in
theorem km_sweep {l : Launch} {D : va_G} {cl : List vw_C} {G : gAd} {post : MS → Int32 → Prop} (hcl : mC cl) {σ : MS} {a1 : Int32} {a2 : Int32} {a3 : Int32} {a4 : Int32} {a5 : Int32} (h : wm_sweep post σ a1 a2 a3 a4 a5) : mMet l D cl G yX13_sweep cX13_sweep 8 (some .int) 13 [.ref (G.1 0), .int a1, .int a2, .int a3, .int a4, .int a5] σ (qI post) := by
  unfold wm_sweep at h
  refine m_enter hcl (by decide +kernel) rfl [(0, .ref (G.1 0)), (1, .int a1), (2, .int a2), (3, .int a3), (4, .int a4), (5, .int a5)] rfl (Nat.le_of_ble_eq_true rfl) ?_
  intro E hE hm
  have hN := hm.2.2.2.2.2.2.1
  refine r_aload_n hE 0 dX13_sweep_0 rfl rfl ?_
  refine r_iconst (v := (0 : Int32)) hE dX13_sweep_1 (by decide) ?_
  refine mp_code hE hm dX13_sweep_2 h (fun s10 h => ?_)
  refine r_aload_n hE 0 dX13_sweep_5 rfl rfl ?_
  refine mg_hasRun hE hm dX13_sweep_6 ?_
  refine r_if_eq hE 28 dX13_sweep_9 (by decide) h (fun h => ?_) (fun h => ?_)
  · refine r_ldcw (v := (-2000000001 : Int32)) hE dX13_sweep_28 (gTb_11 (List.mem_of_getElem? (i := 186) rfl) rfl) ?_
    exact m_iret hE hm dX13_sweep_31 h
  · refine r_iload_n hE 1 dX13_sweep_12 rfl rfl ?_
    refine r_i2l hE dX13_sweep_13 ?_
    refine r_lconst (v := (0 : Int64)) hE dX13_sweep_14 (by decide) ?_
    refine r_aload_n hE 0 dX13_sweep_15 rfl rfl ?_
    refine mg_frees hE hm dX13_sweep_16 ?_
    refine r_iconst (v := (1 : Int32)) hE dX13_sweep_19 (by decide) ?_
    refine r_isub hE dX13_sweep_20 ?_
    refine r_i2l hE dX13_sweep_21 ?_
    refine m_callSi hE hm [.long (a1.toInt64), .long (0 : Int64), .long (((m_frees s10) - (1 : Int32)).toInt64)] [] mc_in (km_in hm.2.2.2.2.2.2.2.2 h) (by decide) rfl rfl (Nat.le_of_ble_eq_true rfl) dX13_sweep_22 (fun s11 r12 h => ?_)
    refine r_if_ne hE 32 dX13_sweep_25 (by decide) h (fun h => ?_) (fun h => ?_)
    · refine r_iload hE 4 dX13_sweep_32 rfl ?_
      refine r_i2l hE dX13_sweep_34 ?_
      refine r_lconst (v := (0 : Int64)) hE dX13_sweep_35 (by decide) ?_
      refine r_ldc2 (v := (20 : Int64)) hE dX13_sweep_36 (gTb_10 (List.mem_of_getElem? (i := 188) rfl) rfl) ?_
      refine m_callSi hE hm [.long (a4.toInt64), .long (0 : Int64), .long (20 : Int64)] [] mc_in (km_in hm.2.2.2.2.2.2.2.2 h) (by decide) rfl rfl (Nat.le_of_ble_eq_true rfl) dX13_sweep_39 (fun s13 r14 h => ?_)
      refine r_if_eq hE 62 dX13_sweep_42 (by decide) h (fun h => ?_) (fun h => ?_)
      · refine r_ldc (v := (-2000000002 : Int32)) hE dX13_sweep_62 (gTb_9 (List.mem_of_getElem? (i := 31) rfl) rfl) ?_
        exact m_iret hE hm dX13_sweep_64 h
      · refine r_iload hE 5 dX13_sweep_45 rfl ?_
        refine r_if_lt hE 62 dX13_sweep_47 (by decide) h (fun h => ?_) (fun h => ?_)
        · refine r_ldc (v := (-2000000002 : Int32)) hE dX13_sweep_62 (gTb_9 (List.mem_of_getElem? (i := 31) rfl) rfl) ?_
          exact m_iret hE hm dX13_sweep_64 h
        · refine r_aload_n hE 0 dX13_sweep_50 rfl rfl ?_
          refine r_iload_n hE 1 dX13_sweep_51 rfl rfl ?_
          refine r_iload_n hE 2 dX13_sweep_52 rfl rfl ?_
          refine r_iload_n hE 3 dX13_sweep_53 rfl rfl ?_
          refine r_iload hE 4 dX13_sweep_54 rfl ?_
          refine m_callVi hE hm [.int a1, .int a2, .int a3, .int a4] [] mc_findWay (km_findWay hm.2.2.2.2.2.2.2.2 h) (by decide) rfl rfl (Nat.le_of_ble_eq_true rfl) dX13_sweep_56 (fun s15 r16 h => ?_)
          refine r_if_ne hE 65 dX13_sweep_59 (by decide) h (fun h => ?_) (fun h => ?_)
          · refine r_aload_n hE 0 dX13_sweep_65 rfl rfl ?_
            refine mg_hasFigure hE hm dX13_sweep_66 ?_
            refine r_if_ne hE 75 dX13_sweep_69 (by decide) h (fun h => ?_) (fun h => ?_)
            · refine r_aload_n hE 0 dX13_sweep_75 rfl rfl ?_
              refine mg_runs hE hm dX13_sweep_76 ?_
              refine r_iload hE 4 dX13_sweep_79 rfl ?_
              refine r_iadd hE dX13_sweep_81 ?_
              refine r_iconst (v := (1 : Int32)) hE dX13_sweep_82 (by decide) ?_
              refine r_iadd hE dX13_sweep_83 ?_
              refine r_sipush (v := (600 : Int32)) hE dX13_sweep_84 (by decide) ?_
              refine r_icmp_le hE 94 dX13_sweep_87 (by decide) h (fun h => ?_) (fun h => ?_)
              · refine r_aload_n hE 0 dX13_sweep_94 rfl rfl ?_
                refine r_iconst (v := (1 : Int32)) hE dX13_sweep_95 (by decide) ?_
                refine m_callVv hE hm [.int (1 : Int32)] [] mc_lay (km_lay hm.2.2.2.2.2.2.2.2 h) (by decide) rfl rfl (Nat.le_of_ble_eq_true rfl) dX13_sweep_96 (fun s17 h => ?_)
                refine r_iconst (v := (0 : Int32)) hE dX13_sweep_99 (by decide) ?_
                refine r_istore hE [(6, .int (0 : Int32)), (0, .ref (G.1 0)), (1, .int a1), (2, .int a2), (3, .int a3), (4, .int a4), (5, .int a5)] dX13_sweep_100 hN (by decide) rfl ?_
                refine r_iconst (v := (0 : Int32)) hE dX13_sweep_102 (by decide) ?_
                refine r_istore hE [(7, .int (0 : Int32)), (6, .int (0 : Int32)), (0, .ref (G.1 0)), (1, .int a1), (2, .int a2), (3, .int a3), (4, .int a4), (5, .int a5)] dX13_sweep_103 hN (by decide) rfl ?_
                refine r_pick [2, 3, 6, 7, 1, 0] rfl ?_
                obtain ⟨k, h⟩ := h
                exact km_sweep_105 hE hm k _ _ _ _ _ _ h
              · refine r_ldcw (v := (-2000000004 : Int32)) hE dX13_sweep_90 (gTb_10 (List.mem_of_getElem? (i := 18) rfl) rfl) ?_
                exact m_iret hE hm dX13_sweep_93 h
            · refine r_ldc (v := (-2000000003 : Int32)) hE dX13_sweep_72 (gTb_9 (List.mem_of_getElem? (i := 19) rfl) rfl) ?_
              exact m_iret hE hm dX13_sweep_74 h
          · refine r_ldc (v := (-2000000002 : Int32)) hE dX13_sweep_62 (gTb_9 (List.mem_of_getElem? (i := 31) rfl) rfl) ?_
            exact m_iret hE hm dX13_sweep_64 h
    · refine r_ldcw (v := (-2000000001 : Int32)) hE dX13_sweep_28 (gTb_11 (List.mem_of_getElem? (i := 186) rfl) rfl) ?_
      exact m_iret hE hm dX13_sweep_31 h
/-! swept -/
def wm_swept (post : MS → Int32 → Prop) (σ : MS) (a1 : Int32) : Prop := ∀ s1 : MS, s1 = m_code_s σ (0 : Int32) → wm_in (fun (s2 : MS) (r3 : Int32) => ((r3 = (0 : Int32)) → (post s2 (-1 : Int32))) ∧ ((¬ (r3 = (0 : Int32))) → (vp_in a1 21 ∧ (post s2 (m_swept s2 a1.toNatClampNeg))))) s1 (a1.toInt64) (0 : Int64) (((m_sweptMany s1) - (1 : Int32)).toInt64)
set_option maxRecDepth 20000 in
theorem km_swept {l : Launch} {D : va_G} {cl : List vw_C} {G : gAd} {post : MS → Int32 → Prop} (hcl : mC cl) {σ : MS} {a1 : Int32} (h : wm_swept post σ a1) : mMet l D cl G yX13_swept cX13_swept 2 (some .int) 2 [.ref (G.1 0), .int a1] σ (qI post) := by
  unfold wm_swept at h
  refine m_enter hcl (by decide +kernel) rfl [(0, .ref (G.1 0)), (1, .int a1)] rfl (Nat.le_of_ble_eq_true rfl) ?_
  intro E hE hm
  have hN := hm.2.2.2.2.2.2.1
  refine r_aload_n hE 0 dX13_swept_0 rfl rfl ?_
  refine r_iconst (v := (0 : Int32)) hE dX13_swept_1 (by decide) ?_
  refine mp_code hE hm dX13_swept_2 h (fun s1 h => ?_)
  refine r_iload_n hE 1 dX13_swept_5 rfl rfl ?_
  refine r_i2l hE dX13_swept_6 ?_
  refine r_lconst (v := (0 : Int64)) hE dX13_swept_7 (by decide) ?_
  refine r_aload_n hE 0 dX13_swept_8 rfl rfl ?_
  refine mg_sweptMany hE hm dX13_swept_9 ?_
  refine r_iconst (v := (1 : Int32)) hE dX13_swept_12 (by decide) ?_
  refine r_isub hE dX13_swept_13 ?_
  refine r_i2l hE dX13_swept_14 ?_
  refine m_callSi hE hm [.long (a1.toInt64), .long (0 : Int64), .long (((m_sweptMany s1) - (1 : Int32)).toInt64)] [] mc_in (km_in hm.2.2.2.2.2.2.2.2 h) (by decide) rfl rfl (Nat.le_of_ble_eq_true rfl) dX13_swept_15 (fun s2 r3 h => ?_)
  refine r_if_eq hE 30 dX13_swept_18 (by decide) h (fun h => ?_) (fun h => ?_)
  · refine r_iconst (v := (-1 : Int32)) hE dX13_swept_30 (by decide) ?_
    exact m_iret hE hm dX13_swept_31 h
  · refine r_aload_n hE 0 dX13_swept_21 rfl rfl ?_
    refine mg_swept hE hm dX13_swept_22 ?_
    refine r_iload_n hE 1 dX13_swept_25 rfl rfl ?_
    obtain ⟨hi, h⟩ := h
    refine ml_swept hE hm dX13_swept_26 hi ?_
    refine r_goto hE 31 dX13_swept_27 (by decide) ?_
    exact m_iret hE hm dX13_swept_31 h
/-! tried -/
def wm_tried_193 (post : MS → Int32 → Prop) (lp67 : MS → Int32 → Int32 → Int32 → Int32 → Int32 → Int32 → Prop) (σ : MS) (v2 : Int32) (v3 : Int32) (v4 : Int32) (v5 : Int32) (v7 : Int32) (t0 : Int32) : Prop := ∀ x1 : Int32, x1 = v7 + (1 : Int32) → lp67 σ v2 v3 v4 v5 t0 x1
set_option maxRecDepth 20000 in
theorem km_tried_193 {E : gEnv} {l : Launch} {D : va_G} {cl : List vw_C} {G : gAd} {post : MS → Int32 → Prop} (hE : gOK E cX13_tried RX13 (some .int) 13) (hm : mOK E l D cl G (qI post) 11) {lp67 : MS → Int32 → Int32 → Int32 → Int32 → Int32 → Int32 → Prop} (hl67 : ∀ (σ : MS) (v2 : Int32) (v3 : Int32) (v4 : Int32) (v5 : Int32) (v6 : Int32) (v7 : Int32), lp67 σ v2 v3 v4 v5 v6 v7 → GW E (mW G σ) 67 [(0, .ref (G.1 0)), (2, .int v2), (3, .int v3), (4, .int v4), (5, .int v5), (6, .int v6), (7, .int v7)] []) (σ : MS) (v2 : Int32) (v3 : Int32) (v4 : Int32) (v5 : Int32) (v7 : Int32) (t0 : Int32) (h : wm_tried_193 post lp67 σ v2 v3 v4 v5 v7 t0) : GW E (mW G σ) 193 [(0, .ref (G.1 0)), (2, .int v2), (3, .int v3), (4, .int v4), (5, .int v5), (7, .int v7)] [.int t0] := by
  unfold wm_tried_193 at h
  have hN := hm.2.2.2.2.2.2.1
  refine r_istore hE [(6, .int t0), (0, .ref (G.1 0)), (2, .int v2), (3, .int v3), (4, .int v4), (5, .int v5), (7, .int v7)] dX13_tried_193 hN (by decide) rfl ?_
  obtain ⟨x1, ex1⟩ : ∃ z : Int32, z = v7 + (1 : Int32) := ⟨_, rfl⟩
  have h := h x1 ex1
  refine r_iinc (v := x1) hE [(7, .int x1), (6, .int t0), (0, .ref (G.1 0)), (2, .int v2), (3, .int v3), (4, .int v4), (5, .int v5)] 6 dX13_tried_195 rfl (by rw [ex1]; rfl) hN (by decide) rfl ?_
  refine r_goto hE 67 dX13_tried_198 (by decide) ?_
  refine r_pick [2, 3, 4, 5, 6, 1, 0] rfl ?_
  exact hl67 _ _ _ _ _ _ _ h
def wm_tried_191 (post : MS → Int32 → Prop) (lp67 : MS → Int32 → Int32 → Int32 → Int32 → Int32 → Int32 → Prop) (σ : MS) (v2 : Int32) (v3 : Int32) (v4 : Int32) (v5 : Int32) (v6 : Int32) (v7 : Int32) : Prop := wm_tried_193 post lp67 σ v2 v3 v4 v5 v7 v6
set_option maxRecDepth 20000 in
theorem km_tried_191 {E : gEnv} {l : Launch} {D : va_G} {cl : List vw_C} {G : gAd} {post : MS → Int32 → Prop} (hE : gOK E cX13_tried RX13 (some .int) 13) (hm : mOK E l D cl G (qI post) 11) {lp67 : MS → Int32 → Int32 → Int32 → Int32 → Int32 → Int32 → Prop} (hl67 : ∀ (σ : MS) (v2 : Int32) (v3 : Int32) (v4 : Int32) (v5 : Int32) (v6 : Int32) (v7 : Int32), lp67 σ v2 v3 v4 v5 v6 v7 → GW E (mW G σ) 67 [(0, .ref (G.1 0)), (2, .int v2), (3, .int v3), (4, .int v4), (5, .int v5), (6, .int v6), (7, .int v7)] []) (σ : MS) (v2 : Int32) (v3 : Int32) (v4 : Int32) (v5 : Int32) (v6 : Int32) (v7 : Int32) (h : wm_tried_191 post lp67 σ v2 v3 v4 v5 v6 v7) : GW E (mW G σ) 191 [(0, .ref (G.1 0)), (2, .int v2), (3, .int v3), (4, .int v4), (5, .int v5), (6, .int v6), (7, .int v7)] [] := by
  unfold wm_tried_191 at h
  have hN := hm.2.2.2.2.2.2.1
  refine r_iload hE 5 dX13_tried_191 rfl ?_
  refine r_pick [0, 1, 2, 3, 4, 6] rfl ?_
  exact km_tried_193 hE hm hl67 _ _ _ _ _ _ _ h
def wm_tried_173 (post : MS → Int32 → Prop) (lp67 : MS → Int32 → Int32 → Int32 → Int32 → Int32 → Int32 → Prop) (σ : MS) (v2 : Int32) (v3 : Int32) (v4 : Int32) (v6 : Int32) (v7 : Int32) (v8 : Int32) (t0 : Int32) (t1 : Int32) : Prop := ∀ x2 : Int32, x2 = t0 + t1 → ((¬ (v8 = (0 : Int32))) → (wm_tried_191 post lp67 σ v2 v3 v4 x2 v6 v7)) ∧ ((v8 = (0 : Int32)) → ((((0 : Int32) ≤ v6) → (wm_tried_191 post lp67 σ v2 v3 v4 x2 v6 v7)) ∧ ((¬ ((0 : Int32) ≤ v6)) → (wm_tried_193 post lp67 σ v2 v3 v4 x2 v7 v7))))
set_option maxRecDepth 20000 in
theorem km_tried_173 {E : gEnv} {l : Launch} {D : va_G} {cl : List vw_C} {G : gAd} {post : MS → Int32 → Prop} (hE : gOK E cX13_tried RX13 (some .int) 13) (hm : mOK E l D cl G (qI post) 11) {lp67 : MS → Int32 → Int32 → Int32 → Int32 → Int32 → Int32 → Prop} (hl67 : ∀ (σ : MS) (v2 : Int32) (v3 : Int32) (v4 : Int32) (v5 : Int32) (v6 : Int32) (v7 : Int32), lp67 σ v2 v3 v4 v5 v6 v7 → GW E (mW G σ) 67 [(0, .ref (G.1 0)), (2, .int v2), (3, .int v3), (4, .int v4), (5, .int v5), (6, .int v6), (7, .int v7)] []) (σ : MS) (v2 : Int32) (v3 : Int32) (v4 : Int32) (v6 : Int32) (v7 : Int32) (v8 : Int32) (t0 : Int32) (t1 : Int32) (h : wm_tried_173 post lp67 σ v2 v3 v4 v6 v7 v8 t0 t1) : GW E (mW G σ) 173 [(0, .ref (G.1 0)), (2, .int v2), (3, .int v3), (4, .int v4), (6, .int v6), (7, .int v7), (8, .int v8)] [.int t1, .int t0] := by
  unfold wm_tried_173 at h
  have hN := hm.2.2.2.2.2.2.1
  refine r_iadd hE dX13_tried_173 ?_
  refine r_topi h (fun x2 ex2 h => ?_)
  refine r_istore hE [(5, .int x2), (0, .ref (G.1 0)), (2, .int v2), (3, .int v3), (4, .int v4), (6, .int v6), (7, .int v7), (8, .int v8)] dX13_tried_174 hN (by decide) rfl ?_
  refine r_iload hE 7 dX13_tried_176 rfl ?_
  refine r_if_ne hE 191 dX13_tried_178 (by decide) h (fun h => ?_) (fun h => ?_)
  · refine r_pick [1, 2, 3, 4, 0, 5, 6] rfl ?_
    exact km_tried_191 hE hm hl67 _ _ _ _ _ _ _ h
  · refine r_iload hE 5 dX13_tried_181 rfl ?_
    refine r_if_ge hE 191 dX13_tried_183 (by decide) h (fun h => ?_) (fun h => ?_)
    · refine r_pick [1, 2, 3, 4, 0, 5, 6] rfl ?_
      exact km_tried_191 hE hm hl67 _ _ _ _ _ _ _ h
    · refine r_iload hE 6 dX13_tried_186 rfl ?_
      refine r_goto hE 193 dX13_tried_188 (by decide) ?_
      refine r_pick [1, 2, 3, 4, 0, 6] rfl ?_
      exact km_tried_193 hE hm hl67 _ _ _ _ _ _ _ h
def wm_tried_76 (post : MS → Int32 → Prop) (lp67 : MS → Int32 → Int32 → Int32 → Int32 → Int32 → Int32 → Prop) : Nat → MS → Int32 → Int32 → Int32 → Int32 → Int32 → Int32 → Int32 → Prop
  | 0, _, _, _, _, _, _, _, _ => False
  | n + 1, σ, v2, v3, v4, v5, v6, v7, v8 => (((12 : Int32) ≤ v8) → (wm_runOnce (fun (s3 : MS) => wm_statedOr (fun (s4 : MS) (r5 : Int32) => ((¬ (r5 = (1 : Int32))) → (wm_tried_173 post lp67 s4 v2 v3 v4 v6 v7 r5 v5 (0 : Int32))) ∧ ((r5 = (1 : Int32)) → (wm_tried_173 post lp67 s4 v2 v3 v4 v6 v7 r5 v5 (1 : Int32)))) s3 v3) σ)) ∧ ((¬ ((12 : Int32) ≤ v8)) → (∀ x6 : Int32, x6 = (v4 * (1103515245 : Int32)) + (12345 : Int32) → ∀ x7 : Int64, x7 = ((((x6.toUInt32 >>> ((16 : Int32).toUInt32 &&& Int32.toUInt32 31)).toInt32) - ((x6.toUInt32 >>> ((16 : Int32).toUInt32 &&& Int32.toUInt32 31)).toInt32) / (41 : Int32) * (41 : Int32)) - (20 : Int32)).toInt64 → ∀ x8 : Int32, x8 = (x6 * (1103515245 : Int32)) + (12345 : Int32) → wm_place_ (fun (s9 : MS) => ∀ x10 : Int32, x10 = v8 + (1 : Int32) → wm_tried_76 post lp67 n s9 v2 v3 x8 v5 v6 v7 x10) σ v8 x7 (1 : Int64) (((((x8.toUInt32 >>> ((16 : Int32).toUInt32 &&& Int32.toUInt32 31)).toInt32) - ((x8.toUInt32 >>> ((16 : Int32).toUInt32 &&& Int32.toUInt32 31)).toInt32) / (41 : Int32) * (41 : Int32)) - (20 : Int32)).toInt64) (1 : Int64)))
set_option maxRecDepth 20000 in
theorem km_tried_76 {E : gEnv} {l : Launch} {D : va_G} {cl : List vw_C} {G : gAd} {post : MS → Int32 → Prop} (hE : gOK E cX13_tried RX13 (some .int) 13) (hm : mOK E l D cl G (qI post) 11) {lp67 : MS → Int32 → Int32 → Int32 → Int32 → Int32 → Int32 → Prop} (hl67 : ∀ (σ : MS) (v2 : Int32) (v3 : Int32) (v4 : Int32) (v5 : Int32) (v6 : Int32) (v7 : Int32), lp67 σ v2 v3 v4 v5 v6 v7 → GW E (mW G σ) 67 [(0, .ref (G.1 0)), (2, .int v2), (3, .int v3), (4, .int v4), (5, .int v5), (6, .int v6), (7, .int v7)] []) : ∀ (n : Nat) (σ : MS) (v2 : Int32) (v3 : Int32) (v4 : Int32) (v5 : Int32) (v6 : Int32) (v7 : Int32) (v8 : Int32), wm_tried_76 post lp67 n σ v2 v3 v4 v5 v6 v7 v8 → GW E (mW G σ) 76 [(0, .ref (G.1 0)), (2, .int v2), (3, .int v3), (4, .int v4), (5, .int v5), (6, .int v6), (7, .int v7), (8, .int v8)] [] := by
  intro n
  induction n with
  | zero => intro σ v2 v3 v4 v5 v6 v7 v8 h; exact h.elim
  | succ n ih =>
    intro σ v2 v3 v4 v5 v6 v7 v8 h
    rw [wm_tried_76] at h
    have hN := hm.2.2.2.2.2.2.1
    refine r_iload hE 7 dX13_tried_76 rfl ?_
    refine r_bipush (v := (12 : Int32)) hE dX13_tried_78 (by decide) ?_
    refine r_icmp_ge hE 149 dX13_tried_80 (by decide) h (fun h => ?_) (fun h => ?_)
    · refine r_aload_n hE 0 dX13_tried_149 rfl rfl ?_
      refine m_callVv hE hm [] [] mc_runOnce (km_runOnce hm.2.2.2.2.2.2.2.2 h) (by decide) rfl rfl (Nat.le_of_ble_eq_true rfl) dX13_tried_150 (fun s3 h => ?_)
      refine r_aload_n hE 0 dX13_tried_153 rfl rfl ?_
      refine r_iload_n hE 2 dX13_tried_154 rfl rfl ?_
      refine m_callVi hE hm [.int v3] [] mc_statedOr (km_statedOr hm.2.2.2.2.2.2.2.2 h) (by decide) rfl rfl (Nat.le_of_ble_eq_true rfl) dX13_tried_155 (fun s4 r5 h => ?_)
      refine r_istore hE [(8, .int r5), (0, .ref (G.1 0)), (2, .int v2), (3, .int v3), (4, .int v4), (5, .int v5), (6, .int v6), (7, .int v7)] dX13_tried_158 hN (by decide) rfl ?_
      refine r_iload hE 5 dX13_tried_160 rfl ?_
      refine r_iload hE 0 dX13_tried_162 rfl ?_
      refine r_iconst (v := (1 : Int32)) hE dX13_tried_164 (by decide) ?_
      refine r_icmp_ne hE 172 dX13_tried_165 (by decide) h (fun h => ?_) (fun h => ?_)
      · refine r_iconst (v := (0 : Int32)) hE dX13_tried_172 (by decide) ?_
        refine r_pick [1, 2, 3, 4, 6, 7, 0] rfl ?_
        exact km_tried_173 hE hm hl67 _ _ _ _ _ _ _ _ _ h
      · refine r_iconst (v := (1 : Int32)) hE dX13_tried_168 (by decide) ?_
        refine r_goto hE 173 dX13_tried_169 (by decide) ?_
        refine r_pick [1, 2, 3, 4, 6, 7, 0] rfl ?_
        exact km_tried_173 hE hm hl67 _ _ _ _ _ _ _ _ _ h
    · refine r_iload hE 3 dX13_tried_83 rfl ?_
      refine r_ldcw (v := (1103515245 : Int32)) hE dX13_tried_85 (gTb_11 (List.mem_of_getElem? (i := 207) rfl) rfl) ?_
      refine r_imul hE dX13_tried_88 ?_
      refine r_sipush (v := (12345 : Int32)) hE dX13_tried_89 (by decide) ?_
      refine r_iadd hE dX13_tried_92 ?_
      refine r_topi h (fun x6 ex6 h => ?_)
      refine r_istore hE [(4, .int x6), (0, .ref (G.1 0)), (2, .int v2), (3, .int v3), (5, .int v5), (6, .int v6), (7, .int v7), (8, .int v8)] dX13_tried_93 hN (by decide) rfl ?_
      refine r_iload hE 0 dX13_tried_95 rfl ?_
      refine r_bipush (v := (16 : Int32)) hE dX13_tried_97 (by decide) ?_
      refine r_iushr hE dX13_tried_99 ?_
      refine r_bipush (v := (41 : Int32)) hE dX13_tried_100 (by decide) ?_
      refine r_irem hE dX13_tried_102 (by decide) ?_
      refine r_bipush (v := (20 : Int32)) hE dX13_tried_103 (by decide) ?_
      refine r_isub hE dX13_tried_105 ?_
      refine r_i2l hE dX13_tried_106 ?_
      refine r_topl h (fun x7 ex7 h => ?_)
      refine r_lstore hE [(9, .long x7), (4, .int x6), (0, .ref (G.1 0)), (2, .int v2), (3, .int v3), (5, .int v5), (6, .int v6), (7, .int v7), (8, .int v8)] dX13_tried_107 hN (by decide) rfl ?_
      refine r_iload hE 1 dX13_tried_109 rfl ?_
      refine r_ldcw (v := (1103515245 : Int32)) hE dX13_tried_111 (gTb_11 (List.mem_of_getElem? (i := 207) rfl) rfl) ?_
      refine r_imul hE dX13_tried_114 ?_
      refine r_sipush (v := (12345 : Int32)) hE dX13_tried_115 (by decide) ?_
      refine r_iadd hE dX13_tried_118 ?_
      refine r_topi h (fun x8 ex8 h => ?_)
      refine r_istore hE [(4, .int x8), (9, .long x7), (0, .ref (G.1 0)), (2, .int v2), (3, .int v3), (5, .int v5), (6, .int v6), (7, .int v7), (8, .int v8)] dX13_tried_119 hN (by decide) rfl ?_
      refine r_aload_n hE 2 dX13_tried_121 rfl rfl ?_
      refine r_iload hE 8 dX13_tried_122 rfl ?_
      refine r_lload hE 1 dX13_tried_124 rfl ?_
      refine r_lconst (v := (1 : Int64)) hE dX13_tried_126 (by decide) ?_
      refine r_iload hE 0 dX13_tried_127 rfl ?_
      refine r_bipush (v := (16 : Int32)) hE dX13_tried_129 (by decide) ?_
      refine r_iushr hE dX13_tried_131 ?_
      refine r_bipush (v := (41 : Int32)) hE dX13_tried_132 (by decide) ?_
      refine r_irem hE dX13_tried_134 (by decide) ?_
      refine r_bipush (v := (20 : Int32)) hE dX13_tried_135 (by decide) ?_
      refine r_isub hE dX13_tried_137 ?_
      refine r_i2l hE dX13_tried_138 ?_
      refine r_lconst (v := (1 : Int64)) hE dX13_tried_139 (by decide) ?_
      refine m_callVv hE hm [.int v8, .long x7, .long (1 : Int64), .long (((((x8.toUInt32 >>> ((16 : Int32).toUInt32 &&& Int32.toUInt32 31)).toInt32) - ((x8.toUInt32 >>> ((16 : Int32).toUInt32 &&& Int32.toUInt32 31)).toInt32) / (41 : Int32) * (41 : Int32)) - (20 : Int32)).toInt64), .long (1 : Int64)] [] mc_place_ (km_place_ hm.2.2.2.2.2.2.2.2 h) (by decide) rfl rfl (Nat.le_of_ble_eq_true rfl) dX13_tried_140 (fun s9 h => ?_)
      obtain ⟨x10, ex10⟩ : ∃ z : Int32, z = v8 + (1 : Int32) := ⟨_, rfl⟩
      have h := h x10 ex10
      refine r_iinc (v := x10) hE [(8, .int x10), (4, .int x8), (9, .long x7), (0, .ref (G.1 0)), (2, .int v2), (3, .int v3), (5, .int v5), (6, .int v6), (7, .int v7)] 8 dX13_tried_143 rfl (by rw [ex10]; rfl) hN (by decide) rfl ?_
      refine r_goto hE 76 dX13_tried_146 (by decide) ?_
      refine r_pick [3, 4, 5, 1, 6, 7, 8, 0] rfl ?_
      exact ih _ _ _ _ _ _ _ _ h
def wm_tried_67 (post : MS → Int32 → Prop) : Nat → MS → Int32 → Int32 → Int32 → Int32 → Int32 → Int32 → Prop
  | 0, _, _, _, _, _, _, _ => False
  | n + 1, σ, v2, v3, v4, v5, v6, v7 => ((v2 ≤ v7) → (wm_lay (fun (s11 : MS) => (((0 : Int32) ≤ v6) → (post s11 ((-1 : Int32) - v6))) ∧ ((¬ ((0 : Int32) ≤ v6)) → (post s11 v5))) σ (0 : Int32))) ∧ ((¬ (v2 ≤ v7)) → (∃ k : Nat, wm_tried_76 post (fun (ys : MS) (y0 : Int32) (y1 : Int32) (y2 : Int32) (y3 : Int32) (y4 : Int32) (y5 : Int32) => wm_tried_67 post n ys y0 y1 y2 y3 y4 y5) k σ v2 v3 v4 v5 v6 v7 (0 : Int32)))
set_option maxRecDepth 20000 in
theorem km_tried_67 {E : gEnv} {l : Launch} {D : va_G} {cl : List vw_C} {G : gAd} {post : MS → Int32 → Prop} (hE : gOK E cX13_tried RX13 (some .int) 13) (hm : mOK E l D cl G (qI post) 11) : ∀ (n : Nat) (σ : MS) (v2 : Int32) (v3 : Int32) (v4 : Int32) (v5 : Int32) (v6 : Int32) (v7 : Int32), wm_tried_67 post n σ v2 v3 v4 v5 v6 v7 → GW E (mW G σ) 67 [(0, .ref (G.1 0)), (2, .int v2), (3, .int v3), (4, .int v4), (5, .int v5), (6, .int v6), (7, .int v7)] [] := by
  intro n
  induction n with
  | zero => intro σ v2 v3 v4 v5 v6 v7 h; exact h.elim
  | succ n ih =>
    intro σ v2 v3 v4 v5 v6 v7 h
    rw [wm_tried_67] at h
    have hN := hm.2.2.2.2.2.2.1
    refine r_iload hE 6 dX13_tried_67 rfl ?_
    refine r_iload_n hE 1 dX13_tried_69 rfl rfl ?_
    refine r_icmp_ge hE 201 dX13_tried_70 (by decide) h (fun h => ?_) (fun h => ?_)
    · refine r_aload_n hE 0 dX13_tried_201 rfl rfl ?_
      refine r_iconst (v := (0 : Int32)) hE dX13_tried_202 (by decide) ?_
      refine m_callVv hE hm [.int (0 : Int32)] [] mc_lay (km_lay hm.2.2.2.2.2.2.2.2 h) (by decide) rfl rfl (Nat.le_of_ble_eq_true rfl) dX13_tried_203 (fun s11 h => ?_)
      refine r_iload hE 5 dX13_tried_206 rfl ?_
      refine r_if_ge hE 216 dX13_tried_208 (by decide) h (fun h => ?_) (fun h => ?_)
      · refine r_iconst (v := (-1 : Int32)) hE dX13_tried_216 (by decide) ?_
        refine r_iload hE 5 dX13_tried_217 rfl ?_
        refine r_isub hE dX13_tried_219 ?_
        exact m_iret hE hm dX13_tried_220 h
      · refine r_iload hE 4 dX13_tried_211 rfl ?_
        refine r_goto hE 220 dX13_tried_213 (by decide) ?_
        exact m_iret hE hm dX13_tried_220 h
    · refine r_iconst (v := (0 : Int32)) hE dX13_tried_73 (by decide) ?_
      refine r_istore hE [(8, .int (0 : Int32)), (0, .ref (G.1 0)), (2, .int v2), (3, .int v3), (4, .int v4), (5, .int v5), (6, .int v6), (7, .int v7)] dX13_tried_74 hN (by decide) rfl ?_
      refine r_pick [1, 2, 3, 4, 5, 6, 7, 0] rfl ?_
      obtain ⟨k, h⟩ := h
      exact km_tried_76 hE hm ih k _ _ _ _ _ _ _ _ h
def wm_tried (post : MS → Int32 → Prop) (σ : MS) (a1 : Int32) (a2 : Int32) (a3 : Int32) : Prop := ∀ s12 : MS, s12 = m_code_s σ (0 : Int32) → wm_in (fun (s13 : MS) (r14 : Int32) => ((r14 = (0 : Int32)) → (post s13 (-2000000002 : Int32))) ∧ ((¬ (r14 = (0 : Int32))) → ((((0 : Int32) ≤ a3) → (((¬ ((m_hasFigure s13) = (0 : Int32))) → (((((m_runs s13) + a2) ≤ (600 : Int32)) → (wm_lay (fun (s15 : MS) => ∃ k : Nat, wm_tried_67 post k s15 a2 a3 a1 (0 : Int32) (-1 : Int32) (0 : Int32)) s13 (1 : Int32))) ∧ ((¬ (((m_runs s13) + a2) ≤ (600 : Int32))) → (post s13 (-2000000004 : Int32))))) ∧ (((m_hasFigure s13) = (0 : Int32)) → (post s13 (-2000000003 : Int32))))) ∧ ((¬ ((0 : Int32) ≤ a3)) → (post s13 (-2000000002 : Int32)))))) s12 (a2.toInt64) (1 : Int64) (20 : Int64)
set_option maxRecDepth 20000 in
theorem km_tried {l : Launch} {D : va_G} {cl : List vw_C} {G : gAd} {post : MS → Int32 → Prop} (hcl : mC cl) {σ : MS} {a1 : Int32} {a2 : Int32} {a3 : Int32} (h : wm_tried post σ a1 a2 a3) : mMet l D cl G yX13_tried cX13_tried 11 (some .int) 13 [.ref (G.1 0), .int a1, .int a2, .int a3] σ (qI post) := by
  unfold wm_tried at h
  refine m_enter hcl (by decide +kernel) rfl [(0, .ref (G.1 0)), (1, .int a1), (2, .int a2), (3, .int a3)] rfl (Nat.le_of_ble_eq_true rfl) ?_
  intro E hE hm
  have hN := hm.2.2.2.2.2.2.1
  refine r_aload_n hE 0 dX13_tried_0 rfl rfl ?_
  refine r_iconst (v := (0 : Int32)) hE dX13_tried_1 (by decide) ?_
  refine mp_code hE hm dX13_tried_2 h (fun s12 h => ?_)
  refine r_iload_n hE 2 dX13_tried_5 rfl rfl ?_
  refine r_i2l hE dX13_tried_6 ?_
  refine r_lconst (v := (1 : Int64)) hE dX13_tried_7 (by decide) ?_
  refine r_ldc2 (v := (20 : Int64)) hE dX13_tried_8 (gTb_10 (List.mem_of_getElem? (i := 188) rfl) rfl) ?_
  refine m_callSi hE hm [.long (a2.toInt64), .long (1 : Int64), .long (20 : Int64)] [] mc_in (km_in hm.2.2.2.2.2.2.2.2 h) (by decide) rfl rfl (Nat.le_of_ble_eq_true rfl) dX13_tried_11 (fun s13 r14 h => ?_)
  refine r_if_eq hE 21 dX13_tried_14 (by decide) h (fun h => ?_) (fun h => ?_)
  · refine r_ldc (v := (-2000000002 : Int32)) hE dX13_tried_21 (gTb_9 (List.mem_of_getElem? (i := 31) rfl) rfl) ?_
    exact m_iret hE hm dX13_tried_23 h
  · refine r_iload_n hE 3 dX13_tried_17 rfl rfl ?_
    refine r_if_ge hE 24 dX13_tried_18 (by decide) h (fun h => ?_) (fun h => ?_)
    · refine r_aload_n hE 0 dX13_tried_24 rfl rfl ?_
      refine mg_hasFigure hE hm dX13_tried_25 ?_
      refine r_if_ne hE 34 dX13_tried_28 (by decide) h (fun h => ?_) (fun h => ?_)
      · refine r_aload_n hE 0 dX13_tried_34 rfl rfl ?_
        refine mg_runs hE hm dX13_tried_35 ?_
        refine r_iload_n hE 2 dX13_tried_38 rfl rfl ?_
        refine r_iadd hE dX13_tried_39 ?_
        refine r_sipush (v := (600 : Int32)) hE dX13_tried_40 (by decide) ?_
        refine r_icmp_le hE 50 dX13_tried_43 (by decide) h (fun h => ?_) (fun h => ?_)
        · refine r_aload_n hE 0 dX13_tried_50 rfl rfl ?_
          refine r_iconst (v := (1 : Int32)) hE dX13_tried_51 (by decide) ?_
          refine m_callVv hE hm [.int (1 : Int32)] [] mc_lay (km_lay hm.2.2.2.2.2.2.2.2 h) (by decide) rfl rfl (Nat.le_of_ble_eq_true rfl) dX13_tried_52 (fun s15 h => ?_)
          refine r_iload_n hE 1 dX13_tried_55 rfl rfl ?_
          refine r_istore hE [(4, .int a1), (0, .ref (G.1 0)), (1, .int a1), (2, .int a2), (3, .int a3)] dX13_tried_56 hN (by decide) rfl ?_
          refine r_iconst (v := (0 : Int32)) hE dX13_tried_58 (by decide) ?_
          refine r_istore hE [(5, .int (0 : Int32)), (4, .int a1), (0, .ref (G.1 0)), (1, .int a1), (2, .int a2), (3, .int a3)] dX13_tried_59 hN (by decide) rfl ?_
          refine r_iconst (v := (-1 : Int32)) hE dX13_tried_61 (by decide) ?_
          refine r_istore hE [(6, .int (-1 : Int32)), (5, .int (0 : Int32)), (4, .int a1), (0, .ref (G.1 0)), (1, .int a1), (2, .int a2), (3, .int a3)] dX13_tried_62 hN (by decide) rfl ?_
          refine r_iconst (v := (0 : Int32)) hE dX13_tried_64 (by decide) ?_
          refine r_istore hE [(7, .int (0 : Int32)), (6, .int (-1 : Int32)), (5, .int (0 : Int32)), (4, .int a1), (0, .ref (G.1 0)), (1, .int a1), (2, .int a2), (3, .int a3)] dX13_tried_65 hN (by decide) rfl ?_
          refine r_pick [4, 6, 7, 3, 2, 1, 0] rfl ?_
          obtain ⟨k, h⟩ := h
          exact km_tried_67 hE hm k _ _ _ _ _ _ _ h
        · refine r_ldcw (v := (-2000000004 : Int32)) hE dX13_tried_46 (gTb_10 (List.mem_of_getElem? (i := 18) rfl) rfl) ?_
          exact m_iret hE hm dX13_tried_49 h
      · refine r_ldc (v := (-2000000003 : Int32)) hE dX13_tried_31 (gTb_9 (List.mem_of_getElem? (i := 19) rfl) rfl) ?_
        exact m_iret hE hm dX13_tried_33 h
    · refine r_ldc (v := (-2000000002 : Int32)) hE dX13_tried_21 (gTb_9 (List.mem_of_getElem? (i := 31) rfl) rfl) ?_
      exact m_iret hE hm dX13_tried_23 h
