/-! readDeeds -/
def wm_readDeeds_131 (post : MS → Int32 → Prop) (lp16 : MS → Int32 → Int32 → Int32 → Prop) (σ : MS) (v1 : Int32) (v2 : Int32) (v3 : Int32) : Prop := lp16 σ v1 v2 v3
set_option maxRecDepth 20000 in
theorem km_readDeeds_131 {E : gEnv} {l : Launch} {D : va_G} {cl : List vw_C} {G : gAd} {post : MS → Int32 → Prop} (hE : gOK E cX13_readDeeds RX13 (some .int) 14) (hm : mOK E l D cl G (qI post) 6) (hF : gFin E) {lp16 : MS → Int32 → Int32 → Int32 → Prop} (hl16 : ∀ (σ : MS) (v1 : Int32) (v2 : Int32) (v3 : Int32), lp16 σ v1 v2 v3 → GW E (mW G σ) 16 [(0, .ref (G.1 0)), (1, .int v1), (2, .int v2), (3, .int v3)] []) (σ : MS) (v1 : Int32) (v2 : Int32) (v3 : Int32) (h : wm_readDeeds_131 post lp16 σ v1 v2 v3) : GW E (mW G σ) 131 [(0, .ref (G.1 0)), (1, .int v1), (2, .int v2), (3, .int v3)] [] := by
  unfold wm_readDeeds_131 at h
  have hN := hm.2.2.2.2.2.2.1
  refine r_goto hE 16 dX13_readDeeds_g4.2.2.1 (by decide) ?_
  exact hl16 _ _ _ _ h
def wm_readDeeds_130 (post : MS → Int32 → Prop) (lp16 : MS → Int32 → Int32 → Int32 → Prop) (σ : MS) (v1 : Int32) (v3 : Int32) (t0 : Int32) : Prop := wm_readDeeds_131 post lp16 σ v1 t0 v3
set_option maxRecDepth 20000 in
theorem km_readDeeds_130 {E : gEnv} {l : Launch} {D : va_G} {cl : List vw_C} {G : gAd} {post : MS → Int32 → Prop} (hE : gOK E cX13_readDeeds RX13 (some .int) 14) (hm : mOK E l D cl G (qI post) 6) (hF : gFin E) {lp16 : MS → Int32 → Int32 → Int32 → Prop} (hl16 : ∀ (σ : MS) (v1 : Int32) (v2 : Int32) (v3 : Int32), lp16 σ v1 v2 v3 → GW E (mW G σ) 16 [(0, .ref (G.1 0)), (1, .int v1), (2, .int v2), (3, .int v3)] []) (σ : MS) (v1 : Int32) (v3 : Int32) (t0 : Int32) (h : wm_readDeeds_130 post lp16 σ v1 v3 t0) : GW E (mW G σ) 130 [(0, .ref (G.1 0)), (1, .int v1), (3, .int v3)] [.int t0] := by
  unfold wm_readDeeds_130 at h
  have hN := hm.2.2.2.2.2.2.1
  refine r_istore_n hE [(2, .int t0), (0, .ref (G.1 0)), (1, .int v1), (3, .int v3)] dX13_readDeeds_g4.2.1 rfl hN (by decide) rfl ?_
  refine r_pick [1, 2, 0, 3] rfl ?_
  exact km_readDeeds_131 hE hm hF hl16 _ _ _ _ h
def wm_readDeeds_129 (post : MS → Int32 → Prop) (lp16 : MS → Int32 → Int32 → Int32 → Prop) (σ : MS) (v1 : Int32) (v2 : Int32) (v3 : Int32) : Prop := wm_readDeeds_130 post lp16 σ v1 v3 v2
set_option maxRecDepth 20000 in
theorem km_readDeeds_129 {E : gEnv} {l : Launch} {D : va_G} {cl : List vw_C} {G : gAd} {post : MS → Int32 → Prop} (hE : gOK E cX13_readDeeds RX13 (some .int) 14) (hm : mOK E l D cl G (qI post) 6) (hF : gFin E) {lp16 : MS → Int32 → Int32 → Int32 → Prop} (hl16 : ∀ (σ : MS) (v1 : Int32) (v2 : Int32) (v3 : Int32), lp16 σ v1 v2 v3 → GW E (mW G σ) 16 [(0, .ref (G.1 0)), (1, .int v1), (2, .int v2), (3, .int v3)] []) (σ : MS) (v1 : Int32) (v2 : Int32) (v3 : Int32) (h : wm_readDeeds_129 post lp16 σ v1 v2 v3) : GW E (mW G σ) 129 [(0, .ref (G.1 0)), (1, .int v1), (2, .int v2), (3, .int v3)] [] := by
  unfold wm_readDeeds_129 at h
  have hN := hm.2.2.2.2.2.2.1
  refine r_iload_n hE 2 dX13_readDeeds_g4.1 rfl rfl ?_
  refine r_pick [0, 1, 3] rfl ?_
  exact km_readDeeds_130 hE hm hF hl16 _ _ _ _ h
def wm_readDeeds_95 (post : MS → Int32 → Prop) (lp16 : MS → Int32 → Int32 → Int32 → Prop) (σ : MS) (v1 : Int32) (v2 : Int32) (v3 : Int32) (v4 : Int32) : Prop := ((v4 = (0 : Int32)) → (wm_readDeed (fun (s1 : MS) (r2 : Int32) => (((0 : Int32) ≤ v2) → (wm_readDeeds_129 post lp16 s1 v1 v2 v3)) ∧ ((¬ ((0 : Int32) ≤ v2)) → (((¬ ((m_opened s1) = (0 : Int32))) → (wm_readDeeds_129 post lp16 s1 v1 v2 v3)) ∧ (((m_opened s1) = (0 : Int32)) → (wm_readDeeds_130 post lp16 s1 v1 v3 r2))))) σ)) ∧ ((¬ (v4 = (0 : Int32))) → (wm_endBlock (fun (s3 : MS) => wm_readDeeds_131 post lp16 s3 v1 v2 v3) σ))
set_option maxRecDepth 20000 in
theorem km_readDeeds_95 {E : gEnv} {l : Launch} {D : va_G} {cl : List vw_C} {G : gAd} {post : MS → Int32 → Prop} (hE : gOK E cX13_readDeeds RX13 (some .int) 14) (hm : mOK E l D cl G (qI post) 6) (hF : gFin E) {lp16 : MS → Int32 → Int32 → Int32 → Prop} (hl16 : ∀ (σ : MS) (v1 : Int32) (v2 : Int32) (v3 : Int32), lp16 σ v1 v2 v3 → GW E (mW G σ) 16 [(0, .ref (G.1 0)), (1, .int v1), (2, .int v2), (3, .int v3)] []) (σ : MS) (v1 : Int32) (v2 : Int32) (v3 : Int32) (v4 : Int32) (h : wm_readDeeds_95 post lp16 σ v1 v2 v3 v4) : GW E (mW G σ) 95 [(0, .ref (G.1 0)), (1, .int v1), (2, .int v2), (3, .int v3), (4, .int v4)] [] := by
  unfold wm_readDeeds_95 at h
  have hN := hm.2.2.2.2.2.2.1
  refine r_iload hE 4 dX13_readDeeds_g3.2.1 rfl ?_
  refine r_if_eq hE 107 dX13_readDeeds_g3.2.2.1 (by decide) h (fun h => ?_) (fun h => ?_)
  · refine r_aload_n hE 0 dX13_readDeeds_g3.2.2.2.2.2.2.1 rfl rfl ?_
    refine m_callVi hE hm [] [] mc_readDeed (km_readDeed hm.2.2.2.2.2.2.2.2 h) (by decide) rfl rfl (Nat.le_of_ble_eq_true rfl) dX13_readDeeds_g3.2.2.2.2.2.2.2.1 (fun s1 r2 h => ?_)
    refine r_istore hE [(5, .int r2), (0, .ref (G.1 0)), (1, .int v1), (2, .int v2), (3, .int v3), (4, .int v4)] dX13_readDeeds_g3.2.2.2.2.2.2.2.2.1 hN (by decide) rfl ?_
    refine r_iload_n hE 3 dX13_readDeeds_g3.2.2.2.2.2.2.2.2.2.1 rfl rfl ?_
    refine r_if_ge hE 129 dX13_readDeeds_g3.2.2.2.2.2.2.2.2.2.2.1 (by decide) h (fun h => ?_) (fun h => ?_)
    · refine r_pick [1, 2, 3, 4] rfl ?_
      exact km_readDeeds_129 hE hm hF hl16 _ _ _ _ h
    · refine r_aload_n hE 1 dX13_readDeeds_g3.2.2.2.2.2.2.2.2.2.2.2.1 rfl rfl ?_
      refine mg_opened hE hm dX13_readDeeds_g3.2.2.2.2.2.2.2.2.2.2.2.2.1 ?_
      refine r_if_ne hE 129 dX13_readDeeds_g3.2.2.2.2.2.2.2.2.2.2.2.2.2.1 (by decide) h (fun h => ?_) (fun h => ?_)
      · refine r_pick [1, 2, 3, 4] rfl ?_
        exact km_readDeeds_129 hE hm hF hl16 _ _ _ _ h
      · refine r_iload hE 0 dX13_readDeeds_g3.2.2.2.2.2.2.2.2.2.2.2.2.2.2.1 rfl ?_
        refine r_goto hE 130 dX13_readDeeds_g3.2.2.2.2.2.2.2.2.2.2.2.2.2.2.2 (by decide) ?_
        refine r_pick [1, 2, 4] rfl ?_
        exact km_readDeeds_130 hE hm hF hl16 _ _ _ _ h
  · refine r_aload_n hE 0 dX13_readDeeds_g3.2.2.2.1 rfl rfl ?_
    refine m_callVv hE hm [] [] mc_endBlock (km_endBlock hm.2.2.2.2.2.2.2.2 h) (by decide) rfl rfl (Nat.le_of_ble_eq_true rfl) dX13_readDeeds_g3.2.2.2.2.1 (fun s3 h => ?_)
    refine r_goto hE 131 dX13_readDeeds_g3.2.2.2.2.2.1 (by decide) ?_
    refine r_pick [0, 1, 2, 3] rfl ?_
    exact km_readDeeds_131 hE hm hF hl16 _ _ _ _ h
def wm_readDeeds_90 (post : MS → Int32 → Prop) (lp16 : MS → Int32 → Int32 → Int32 → Prop) (σ : MS) (v1 : Int32) (v2 : Int32) : Prop := wm_readDeeds_131 post lp16 σ v1 v2 (0 : Int32)
set_option maxRecDepth 20000 in
theorem km_readDeeds_90 {E : gEnv} {l : Launch} {D : va_G} {cl : List vw_C} {G : gAd} {post : MS → Int32 → Prop} (hE : gOK E cX13_readDeeds RX13 (some .int) 14) (hm : mOK E l D cl G (qI post) 6) (hF : gFin E) {lp16 : MS → Int32 → Int32 → Int32 → Prop} (hl16 : ∀ (σ : MS) (v1 : Int32) (v2 : Int32) (v3 : Int32), lp16 σ v1 v2 v3 → GW E (mW G σ) 16 [(0, .ref (G.1 0)), (1, .int v1), (2, .int v2), (3, .int v3)] []) (σ : MS) (v1 : Int32) (v2 : Int32) (h : wm_readDeeds_90 post lp16 σ v1 v2) : GW E (mW G σ) 90 [(0, .ref (G.1 0)), (1, .int v1), (2, .int v2)] [] := by
  unfold wm_readDeeds_90 at h
  have hN := hm.2.2.2.2.2.2.1
  refine r_iconst (v := (0 : Int32)) hE dX13_readDeeds_g2.2.2.2.2.2.2.2.2.2.2.2.2.2.2.1 (by decide) ?_
  refine r_istore_n hE [(3, .int (0 : Int32)), (0, .ref (G.1 0)), (1, .int v1), (2, .int v2)] dX13_readDeeds_g2.2.2.2.2.2.2.2.2.2.2.2.2.2.2.2 rfl hN (by decide) rfl ?_
  refine r_goto hE 131 dX13_readDeeds_g3.1 (by decide) ?_
  refine r_pick [1, 2, 3, 0] rfl ?_
  exact km_readDeeds_131 hE hm hF hl16 _ _ _ _ h
def wm_readDeeds_80 (post : MS → Int32 → Prop) (lp16 : MS → Int32 → Int32 → Int32 → Prop) (σ : MS) (v1 : Int32) (v2 : Int32) : Prop := ((v1 = (0 : Int32)) → (wm_readDeeds_90 post lp16 σ v1 v2)) ∧ ((¬ (v1 = (0 : Int32))) → (wm_shut (fun (s4 : MS) => wm_readDeeds_90 post lp16 s4 v1 v2) σ (125 : Int32)))
set_option maxRecDepth 20000 in
theorem km_readDeeds_80 {E : gEnv} {l : Launch} {D : va_G} {cl : List vw_C} {G : gAd} {post : MS → Int32 → Prop} (hE : gOK E cX13_readDeeds RX13 (some .int) 14) (hm : mOK E l D cl G (qI post) 6) (hF : gFin E) {lp16 : MS → Int32 → Int32 → Int32 → Prop} (hl16 : ∀ (σ : MS) (v1 : Int32) (v2 : Int32) (v3 : Int32), lp16 σ v1 v2 v3 → GW E (mW G σ) 16 [(0, .ref (G.1 0)), (1, .int v1), (2, .int v2), (3, .int v3)] []) (σ : MS) (v1 : Int32) (v2 : Int32) (h : wm_readDeeds_80 post lp16 σ v1 v2) : GW E (mW G σ) 80 [(0, .ref (G.1 0)), (1, .int v1), (2, .int v2)] [] := by
  unfold wm_readDeeds_80 at h
  have hN := hm.2.2.2.2.2.2.1
  refine r_iload_n hE 1 dX13_readDeeds_g2.2.2.2.2.2.2.2.2.2.1 rfl rfl ?_
  refine r_if_eq hE 90 dX13_readDeeds_g2.2.2.2.2.2.2.2.2.2.2.1 (by decide) h (fun h => ?_) (fun h => ?_)
  · exact km_readDeeds_90 hE hm hF hl16 _ _ _ h
  · refine r_aload_n hE 0 dX13_readDeeds_g2.2.2.2.2.2.2.2.2.2.2.2.1 rfl rfl ?_
    refine r_bipush (v := (125 : Int32)) hE dX13_readDeeds_g2.2.2.2.2.2.2.2.2.2.2.2.2.1 (by decide) ?_
    refine m_callVv hE hm [.int (125 : Int32)] [] mc_shut (km_shut hm.2.2.2.2.2.2.2.2 h) (by decide) rfl rfl (Nat.le_of_ble_eq_true rfl) dX13_readDeeds_g2.2.2.2.2.2.2.2.2.2.2.2.2.2.1 (fun s4 h => ?_)
    exact km_readDeeds_90 hE hm hF hl16 _ _ _ h
def wm_readDeeds_52 (post : MS → Int32 → Prop) (lp16 : MS → Int32 → Int32 → Int32 → Prop) (σ : MS) (v1 : Int32) (v2 : Int32) (v3 : Int32) (t0 : Int32) : Prop := ((¬ ((m_blocks σ) = (0 : Int32))) → (wm_readDeeds_95 post lp16 σ v1 v2 v3 t0)) ∧ (((m_blocks σ) = (0 : Int32)) → (((v1 = (0 : Int32)) → (((¬ ((m_token σ) = (0 : Int32))) → (wm_readDeeds_95 post lp16 σ v1 v2 v3 t0)) ∧ (((m_token σ) = (0 : Int32)) → (wm_readDeeds_80 post lp16 σ v1 v2)))) ∧ ((¬ (v1 = (0 : Int32))) → (((t0 = (0 : Int32)) → (wm_readDeeds_95 post lp16 σ v1 v2 v3 t0)) ∧ ((¬ (t0 = (0 : Int32))) → (wm_readDeeds_80 post lp16 σ v1 v2))))))
set_option maxRecDepth 20000 in
theorem km_readDeeds_52 {E : gEnv} {l : Launch} {D : va_G} {cl : List vw_C} {G : gAd} {post : MS → Int32 → Prop} (hE : gOK E cX13_readDeeds RX13 (some .int) 14) (hm : mOK E l D cl G (qI post) 6) (hF : gFin E) {lp16 : MS → Int32 → Int32 → Int32 → Prop} (hl16 : ∀ (σ : MS) (v1 : Int32) (v2 : Int32) (v3 : Int32), lp16 σ v1 v2 v3 → GW E (mW G σ) 16 [(0, .ref (G.1 0)), (1, .int v1), (2, .int v2), (3, .int v3)] []) (σ : MS) (v1 : Int32) (v2 : Int32) (v3 : Int32) (t0 : Int32) (h : wm_readDeeds_52 post lp16 σ v1 v2 v3 t0) : GW E (mW G σ) 52 [(0, .ref (G.1 0)), (1, .int v1), (2, .int v2), (3, .int v3)] [.int t0] := by
  unfold wm_readDeeds_52 at h
  have hN := hm.2.2.2.2.2.2.1
  refine r_istore hE [(4, .int t0), (0, .ref (G.1 0)), (1, .int v1), (2, .int v2), (3, .int v3)] dX13_readDeeds_g1.2.2.2.2.2.2.2.2.2.2.2.2.2.1 hN (by decide) rfl ?_
  refine r_aload_n hE 1 dX13_readDeeds_g1.2.2.2.2.2.2.2.2.2.2.2.2.2.2.1 rfl rfl ?_
  refine mg_blocks hE hm dX13_readDeeds_g1.2.2.2.2.2.2.2.2.2.2.2.2.2.2.2 ?_
  refine r_if_ne hE 95 dX13_readDeeds_g2.1 (by decide) h (fun h => ?_) (fun h => ?_)
  · refine r_pick [1, 2, 3, 4, 0] rfl ?_
    exact km_readDeeds_95 hE hm hF hl16 _ _ _ _ _ h
  · refine r_iload_n hE 2 dX13_readDeeds_g2.2.1 rfl rfl ?_
    refine r_if_eq hE 73 dX13_readDeeds_g2.2.2.1 (by decide) h (fun h => ?_) (fun h => ?_)
    · refine r_aload_n hE 1 dX13_readDeeds_g2.2.2.2.2.2.2.1 rfl rfl ?_
      refine mg_token hE hm dX13_readDeeds_g2.2.2.2.2.2.2.2.1 ?_
      refine r_if_ne hE 95 dX13_readDeeds_g2.2.2.2.2.2.2.2.2.1 (by decide) h (fun h => ?_) (fun h => ?_)
      · refine r_pick [1, 2, 3, 4, 0] rfl ?_
        exact km_readDeeds_95 hE hm hF hl16 _ _ _ _ _ h
      · refine r_pick [1, 2, 3] rfl ?_
        exact km_readDeeds_80 hE hm hF hl16 _ _ _ h
    · refine r_iload hE 0 dX13_readDeeds_g2.2.2.2.1 rfl ?_
      refine r_if_eq hE 95 dX13_readDeeds_g2.2.2.2.2.1 (by decide) h (fun h => ?_) (fun h => ?_)
      · refine r_pick [1, 2, 3, 4, 0] rfl ?_
        exact km_readDeeds_95 hE hm hF hl16 _ _ _ _ _ h
      · refine r_goto hE 80 dX13_readDeeds_g2.2.2.2.2.2.1 (by decide) ?_
        refine r_pick [1, 2, 3] rfl ?_
        exact km_readDeeds_80 hE hm hF hl16 _ _ _ h
def wm_readDeeds_51 (post : MS → Int32 → Prop) (lp16 : MS → Int32 → Int32 → Int32 → Prop) (σ : MS) (v1 : Int32) (v2 : Int32) (v3 : Int32) : Prop := wm_readDeeds_52 post lp16 σ v1 v2 v3 (0 : Int32)
set_option maxRecDepth 20000 in
theorem km_readDeeds_51 {E : gEnv} {l : Launch} {D : va_G} {cl : List vw_C} {G : gAd} {post : MS → Int32 → Prop} (hE : gOK E cX13_readDeeds RX13 (some .int) 14) (hm : mOK E l D cl G (qI post) 6) (hF : gFin E) {lp16 : MS → Int32 → Int32 → Int32 → Prop} (hl16 : ∀ (σ : MS) (v1 : Int32) (v2 : Int32) (v3 : Int32), lp16 σ v1 v2 v3 → GW E (mW G σ) 16 [(0, .ref (G.1 0)), (1, .int v1), (2, .int v2), (3, .int v3)] []) (σ : MS) (v1 : Int32) (v2 : Int32) (v3 : Int32) (h : wm_readDeeds_51 post lp16 σ v1 v2 v3) : GW E (mW G σ) 51 [(0, .ref (G.1 0)), (1, .int v1), (2, .int v2), (3, .int v3)] [] := by
  unfold wm_readDeeds_51 at h
  have hN := hm.2.2.2.2.2.2.1
  refine r_iconst (v := (0 : Int32)) hE dX13_readDeeds_g1.2.2.2.2.2.2.2.2.2.2.2.2.1 (by decide) ?_
  exact km_readDeeds_52 hE hm hF hl16 _ _ _ _ _ h
def wm_readDeeds_47 (post : MS → Int32 → Prop) (lp16 : MS → Int32 → Int32 → Int32 → Prop) (σ : MS) (v1 : Int32) (v2 : Int32) (v3 : Int32) : Prop := wm_readDeeds_52 post lp16 σ v1 v2 v3 (1 : Int32)
set_option maxRecDepth 20000 in
theorem km_readDeeds_47 {E : gEnv} {l : Launch} {D : va_G} {cl : List vw_C} {G : gAd} {post : MS → Int32 → Prop} (hE : gOK E cX13_readDeeds RX13 (some .int) 14) (hm : mOK E l D cl G (qI post) 6) (hF : gFin E) {lp16 : MS → Int32 → Int32 → Int32 → Prop} (hl16 : ∀ (σ : MS) (v1 : Int32) (v2 : Int32) (v3 : Int32), lp16 σ v1 v2 v3 → GW E (mW G σ) 16 [(0, .ref (G.1 0)), (1, .int v1), (2, .int v2), (3, .int v3)] []) (σ : MS) (v1 : Int32) (v2 : Int32) (v3 : Int32) (h : wm_readDeeds_47 post lp16 σ v1 v2 v3) : GW E (mW G σ) 47 [(0, .ref (G.1 0)), (1, .int v1), (2, .int v2), (3, .int v3)] [] := by
  unfold wm_readDeeds_47 at h
  have hN := hm.2.2.2.2.2.2.1
  refine r_iconst (v := (1 : Int32)) hE dX13_readDeeds_g1.2.2.2.2.2.2.2.2.2.2.1 (by decide) ?_
  refine r_goto hE 52 dX13_readDeeds_g1.2.2.2.2.2.2.2.2.2.2.2.1 (by decide) ?_
  exact km_readDeeds_52 hE hm hF hl16 _ _ _ _ _ h
def wm_readDeeds_16 (post : MS → Int32 → Prop) : Nat → MS → Int32 → Int32 → Int32 → Prop
  | 0, _, _, _, _ => False
  | n + 1, σ, v1, v2, v3 => ((v3 = (0 : Int32)) → (post σ v2)) ∧ ((¬ (v3 = (0 : Int32))) → (wm_fine (fun (s5 : MS) (r6 : Int32) => ((r6 = (0 : Int32)) → (post s5 v2)) ∧ ((¬ (r6 = (0 : Int32))) → (wm_isSignHere (fun (s7 : MS) (r8 : Int32) => ((r8 = (0 : Int32)) → (wm_readDeeds_51 post (fun (ys : MS) (y0 : Int32) (y1 : Int32) (y2 : Int32) => wm_readDeeds_16 post n ys y0 y1 y2) s7 v1 v2 v3)) ∧ ((¬ (r8 = (0 : Int32))) → (((¬ (v1 = (0 : Int32))) → (wm_readDeeds_47 post (fun (ys : MS) (y0 : Int32) (y1 : Int32) (y2 : Int32) => wm_readDeeds_16 post n ys y0 y1 y2) s7 v1 v2 v3)) ∧ ((v1 = (0 : Int32)) → ((((m_blocks s7) ≤ (0 : Int32)) → (wm_readDeeds_51 post (fun (ys : MS) (y0 : Int32) (y1 : Int32) (y2 : Int32) => wm_readDeeds_16 post n ys y0 y1 y2) s7 v1 v2 v3)) ∧ ((¬ ((m_blocks s7) ≤ (0 : Int32))) → (wm_readDeeds_47 post (fun (ys : MS) (y0 : Int32) (y1 : Int32) (y2 : Int32) => wm_readDeeds_16 post n ys y0 y1 y2) s7 v1 v2 v3))))))) s5 (125 : Int32)))) σ))
set_option maxRecDepth 20000 in
theorem km_readDeeds_16 {E : gEnv} {l : Launch} {D : va_G} {cl : List vw_C} {G : gAd} {post : MS → Int32 → Prop} (hE : gOK E cX13_readDeeds RX13 (some .int) 14) (hm : mOK E l D cl G (qI post) 6) (hF : gFin E) : ∀ (n : Nat) (σ : MS) (v1 : Int32) (v2 : Int32) (v3 : Int32), wm_readDeeds_16 post n σ v1 v2 v3 → GW E (mW G σ) 16 [(0, .ref (G.1 0)), (1, .int v1), (2, .int v2), (3, .int v3)] [] := by
  intro n
  induction n with
  | zero => intro σ v1 v2 v3 h; exact h.elim
  | succ n ih =>
    intro σ v1 v2 v3 h
    rw [wm_readDeeds_16] at h
    have hN := hm.2.2.2.2.2.2.1
    refine r_iload_n hE 3 dX13_readDeeds_g0.2.2.2.2.2.2.2.2.2.2.2.2.1 rfl rfl ?_
    refine r_if_eq hE 134 dX13_readDeeds_g0.2.2.2.2.2.2.2.2.2.2.2.2.2.1 (by decide) h (fun h => ?_) (fun h => ?_)
    · refine r_iload_n hE 2 dX13_readDeeds_g4.2.2.2.1 rfl rfl ?_
      exact m_iret hE hm hF dX13_readDeeds_g4.2.2.2.2 h
    · refine r_aload_n hE 0 dX13_readDeeds_g0.2.2.2.2.2.2.2.2.2.2.2.2.2.2.1 rfl rfl ?_
      refine m_callVi hE hm [] [] mc_fine (km_fine hm.2.2.2.2.2.2.2.2 h) (by decide) rfl rfl (Nat.le_of_ble_eq_true rfl) dX13_readDeeds_g0.2.2.2.2.2.2.2.2.2.2.2.2.2.2.2 (fun s5 r6 h => ?_)
      refine r_if_eq hE 134 dX13_readDeeds_g1.1 (by decide) h (fun h => ?_) (fun h => ?_)
      · refine r_iload_n hE 2 dX13_readDeeds_g4.2.2.2.1 rfl rfl ?_
        exact m_iret hE hm hF dX13_readDeeds_g4.2.2.2.2 h
      · refine r_aload_n hE 0 dX13_readDeeds_g1.2.1 rfl rfl ?_
        refine r_bipush (v := (125 : Int32)) hE dX13_readDeeds_g1.2.2.1 (by decide) ?_
        refine m_callVi hE hm [.int (125 : Int32)] [] mc_isSignHere (km_isSignHere hm.2.2.2.2.2.2.2.2 h) (by decide) rfl rfl (Nat.le_of_ble_eq_true rfl) dX13_readDeeds_g1.2.2.2.1 (fun s7 r8 h => ?_)
        refine r_if_eq hE 51 dX13_readDeeds_g1.2.2.2.2.1 (by decide) h (fun h => ?_) (fun h => ?_)
        · exact km_readDeeds_51 hE hm hF ih _ _ _ _ h
        · refine r_iload_n hE 1 dX13_readDeeds_g1.2.2.2.2.2.1 rfl rfl ?_
          refine r_if_ne hE 47 dX13_readDeeds_g1.2.2.2.2.2.2.1 (by decide) h (fun h => ?_) (fun h => ?_)
          · exact km_readDeeds_47 hE hm hF ih _ _ _ _ h
          · refine r_aload_n hE 0 dX13_readDeeds_g1.2.2.2.2.2.2.2.1 rfl rfl ?_
            refine mg_blocks hE hm dX13_readDeeds_g1.2.2.2.2.2.2.2.2.1 ?_
            refine r_if_le hE 51 dX13_readDeeds_g1.2.2.2.2.2.2.2.2.2.1 (by decide) h (fun h => ?_) (fun h => ?_)
            · exact km_readDeeds_51 hE hm hF ih _ _ _ _ h
            · exact km_readDeeds_47 hE hm hF ih _ _ _ _ h
def wm_readDeeds (post : MS → Int32 → Prop) (σ : MS) (a1 : Int32) : Prop := ∀ s9 : MS, s9 = m_blocks_s σ (0 : Int32) → vp_in (0 : Int32) 16 ∧ (∀ s10 : MS, s10 = m_latest_s s9 (0 : Int32).toNatClampNeg (-1 : Int32) → ∃ k : Nat, wm_readDeeds_16 post k s10 a1 (-1 : Int32) (1 : Int32))
set_option maxRecDepth 20000 in
theorem km_readDeeds {l : Launch} {D : va_G} {cl : List vw_C} {G : gAd} {post : MS → Int32 → Prop} (hcl : mC cl) {σ : MS} {a1 : Int32} (h : wm_readDeeds post σ a1) : mMet l D cl G yX13_readDeeds cX13_readDeeds 6 (some .int) 14 [.ref (G.1 0), .int a1] σ (qI post) := by
  unfold wm_readDeeds at h
  refine m_enter hcl (by decide +kernel) rfl [(0, .ref (G.1 0)), (1, .int a1)] rfl (Nat.le_of_ble_eq_true rfl) ?_
  intro E hE hm hF
  have hN := hm.2.2.2.2.2.2.1
  refine r_iconst (v := (-1 : Int32)) hE dX13_readDeeds_g0.1 (by decide) ?_
  refine r_istore_n hE [(2, .int (-1 : Int32)), (0, .ref (G.1 0)), (1, .int a1)] dX13_readDeeds_g0.2.1 rfl hN (by decide) rfl ?_
  refine r_aload_n hE 1 dX13_readDeeds_g0.2.2.1 rfl rfl ?_
  refine r_iconst (v := (0 : Int32)) hE dX13_readDeeds_g0.2.2.2.1 (by decide) ?_
  refine mp_blocks hE hm dX13_readDeeds_g0.2.2.2.2.1 h (fun s9 h => ?_)
  refine r_aload_n hE 1 dX13_readDeeds_g0.2.2.2.2.2.1 rfl rfl ?_
  refine mg_latest hE hm dX13_readDeeds_g0.2.2.2.2.2.2.1 ?_
  refine r_iconst (v := (0 : Int32)) hE dX13_readDeeds_g0.2.2.2.2.2.2.2.1 (by decide) ?_
  refine r_iconst (v := (-1 : Int32)) hE dX13_readDeeds_g0.2.2.2.2.2.2.2.2.1 (by decide) ?_
  obtain ⟨hi, h⟩ := h
  refine ms_latest hE hm dX13_readDeeds_g0.2.2.2.2.2.2.2.2.2.1 hi h (fun s10 h => ?_)
  refine r_iconst (v := (1 : Int32)) hE dX13_readDeeds_g0.2.2.2.2.2.2.2.2.2.2.1 (by decide) ?_
  refine r_istore_n hE [(3, .int (1 : Int32)), (2, .int (-1 : Int32)), (0, .ref (G.1 0)), (1, .int a1)] dX13_readDeeds_g0.2.2.2.2.2.2.2.2.2.2.2.1 rfl hN (by decide) rfl ?_
  refine r_pick [2, 3, 1, 0] rfl ?_
  obtain ⟨k, h⟩ := h
  exact km_readDeeds_16 hE hm hF k _ _ _ _ h
/-! readParam -/
def wm_readParam (post : MS → Prop) (σ : MS) : Prop := ∀ x1 : Int32, x1 = (13 : Int32) + (m_scope σ) → wm_isName (fun (s2 : MS) (r3 : Int32) => ((¬ (r3 = (0 : Int32))) → (vp_in x1 26 ∧ (((¬ ((m_paramMany s2 x1.toNatClampNeg) = (4 : Int32))) → (wm_nameHere (fun (s4 : MS) (r5 : Int32) => ((r5 < (0 : Int32)) → (wm_newName (fun (s6 : MS) => vp_in x1 26 ∧ (vp_in x1 26 ∧ (∀ s7 : MS, s7 = m_paramMany_s s6 x1.toNatClampNeg ((m_paramMany s6 x1.toNatClampNeg) + (1 : Int32)) → wm_next (fun (s8 : MS) => post s8) s7))) s4 (m_tokenAt s4) (m_tokenSize s4))) ∧ ((¬ (r5 < (0 : Int32))) → (wm_wrong (fun (s9 : MS) => post s9) s4 (4 : Int32) (m_tokenAt s4)))) s2)) ∧ (((m_paramMany s2 x1.toNatClampNeg) = (4 : Int32)) → (wm_wrong (fun (s10 : MS) => post s10) s2 (3 : Int32) (m_tokenAt s2)))))) ∧ ((r3 = (0 : Int32)) → (wm_misplaced (fun (s11 : MS) => post s11) s2))) σ
set_option maxRecDepth 20000 in
theorem km_readParam {l : Launch} {D : va_G} {cl : List vw_C} {G : gAd} {post : MS → Prop} (hcl : mC cl) {σ : MS} (h : wm_readParam post σ) : mMet l D cl G yX13_readParam cX13_readParam 2 none 5 [.ref (G.1 0)] σ (qV post) := by
  unfold wm_readParam at h
  refine m_enter hcl (by decide +kernel) rfl [(0, .ref (G.1 0))] rfl (Nat.le_of_ble_eq_true rfl) ?_
  intro E hE hm hF
  have hN := hm.2.2.2.2.2.2.1
  refine r_bipush (v := (13 : Int32)) hE dX13_readParam_g0.1 (by decide) ?_
  refine r_aload_n hE 0 dX13_readParam_g0.2.1 rfl rfl ?_
  refine mg_scope hE hm dX13_readParam_g0.2.2.1 ?_
  refine r_iadd hE dX13_readParam_g0.2.2.2.1 ?_
  refine r_topi h (fun x1 ex1 h => ?_)
  refine r_istore_n hE [(1, .int x1), (0, .ref (G.1 0))] dX13_readParam_g0.2.2.2.2.1 rfl hN (by decide) rfl ?_
  refine r_aload_n hE 1 dX13_readParam_g0.2.2.2.2.2.1 rfl rfl ?_
  refine m_callVi hE hm [] [] mc_isName (km_isName hm.2.2.2.2.2.2.2.2 h) (by decide) rfl rfl (Nat.le_of_ble_eq_true rfl) dX13_readParam_g0.2.2.2.2.2.2.1 (fun s2 r3 h => ?_)
  refine r_if_ne hE 22 dX13_readParam_g0.2.2.2.2.2.2.2.1 (by decide) h (fun h => ?_) (fun h => ?_)
  · refine r_aload_n hE 1 dX13_readParam_g0.2.2.2.2.2.2.2.2.2.2.2.1 rfl rfl ?_
    refine mg_paramMany hE hm dX13_readParam_g0.2.2.2.2.2.2.2.2.2.2.2.2.1 ?_
    refine r_iload_n hE 0 dX13_readParam_g0.2.2.2.2.2.2.2.2.2.2.2.2.2.1 rfl rfl ?_
    obtain ⟨hi, h⟩ := h
    refine ml_paramMany hE hm dX13_readParam_g0.2.2.2.2.2.2.2.2.2.2.2.2.2.2.1 hi ?_
    refine r_iconst (v := (4 : Int32)) hE dX13_readParam_g0.2.2.2.2.2.2.2.2.2.2.2.2.2.2.2 (by decide) ?_
    refine r_icmp_ne hE 44 dX13_readParam_g1.1 (by decide) h (fun h => ?_) (fun h => ?_)
    · refine r_aload_n hE 1 dX13_readParam_g1.2.2.2.2.2.2.2.1 rfl rfl ?_
      refine m_callVi hE hm [] [] mc_nameHere (km_nameHere hm.2.2.2.2.2.2.2.2 h) (by decide) rfl rfl (Nat.le_of_ble_eq_true rfl) dX13_readParam_g1.2.2.2.2.2.2.2.2.1 (fun s4 r5 h => ?_)
      refine r_if_lt hE 63 dX13_readParam_g1.2.2.2.2.2.2.2.2.2.1 (by decide) h (fun h => ?_) (fun h => ?_)
      · refine r_aload_n hE 1 dX13_readParam_g2.1 rfl rfl ?_
        refine r_aload_n hE 1 dX13_readParam_g2.2.1 rfl rfl ?_
        refine mg_tokenAt hE hm dX13_readParam_g2.2.2.1 ?_
        refine r_aload_n hE 1 dX13_readParam_g2.2.2.2.1 rfl rfl ?_
        refine mg_tokenSize hE hm dX13_readParam_g2.2.2.2.2.1 ?_
        refine m_callVv hE hm [.int (m_tokenAt s4), .int (m_tokenSize s4)] [] mc_newName (km_newName hm.2.2.2.2.2.2.2.2 h) (by decide) rfl rfl (Nat.le_of_ble_eq_true rfl) dX13_readParam_g2.2.2.2.2.2.1 (fun s6 h => ?_)
        refine r_aload_n hE 1 dX13_readParam_g2.2.2.2.2.2.2.1 rfl rfl ?_
        refine mg_paramMany hE hm dX13_readParam_g2.2.2.2.2.2.2.2.1 ?_
        refine r_iload_n hE 0 dX13_readParam_g2.2.2.2.2.2.2.2.2.1 rfl rfl ?_
        refine r_dup2 hE dX13_readParam_g2.2.2.2.2.2.2.2.2.2.1 rfl rfl ?_
        obtain ⟨hi, h⟩ := h
        refine ml_paramMany hE hm dX13_readParam_g2.2.2.2.2.2.2.2.2.2.2.1 hi ?_
        refine r_iconst (v := (1 : Int32)) hE dX13_readParam_g2.2.2.2.2.2.2.2.2.2.2.2.1 (by decide) ?_
        refine r_iadd hE dX13_readParam_g2.2.2.2.2.2.2.2.2.2.2.2.2.1 ?_
        obtain ⟨hi, h⟩ := h
        refine ms_paramMany hE hm dX13_readParam_g2.2.2.2.2.2.2.2.2.2.2.2.2.2.1 hi h (fun s7 h => ?_)
        refine r_aload_n hE 1 dX13_readParam_g2.2.2.2.2.2.2.2.2.2.2.2.2.2.2.1 rfl rfl ?_
        refine m_callVv hE hm [] [] mc_next (km_next hm.2.2.2.2.2.2.2.2 h) (by decide) rfl rfl (Nat.le_of_ble_eq_true rfl) dX13_readParam_g2.2.2.2.2.2.2.2.2.2.2.2.2.2.2.2 (fun s8 h => ?_)
        exact m_vret hE hm hF dX13_readParam_g3 h
      · refine r_aload_n hE 1 dX13_readParam_g1.2.2.2.2.2.2.2.2.2.2.1 rfl rfl ?_
        refine r_iconst (v := (4 : Int32)) hE dX13_readParam_g1.2.2.2.2.2.2.2.2.2.2.2.1 (by decide) ?_
        refine r_aload_n hE 1 dX13_readParam_g1.2.2.2.2.2.2.2.2.2.2.2.2.1 rfl rfl ?_
        refine mg_tokenAt hE hm dX13_readParam_g1.2.2.2.2.2.2.2.2.2.2.2.2.2.1 ?_
        refine m_callVv hE hm [.int (4 : Int32), .int (m_tokenAt s4)] [] mc_wrong (km_wrong hm.2.2.2.2.2.2.2.2 h) (by decide) rfl rfl (Nat.le_of_ble_eq_true rfl) dX13_readParam_g1.2.2.2.2.2.2.2.2.2.2.2.2.2.2.1 (fun s9 h => ?_)
        refine r_goto hE 89 dX13_readParam_g1.2.2.2.2.2.2.2.2.2.2.2.2.2.2.2 (by decide) ?_
        exact m_vret hE hm hF dX13_readParam_g3 h
    · refine r_aload_n hE 1 dX13_readParam_g1.2.1 rfl rfl ?_
      refine r_iconst (v := (3 : Int32)) hE dX13_readParam_g1.2.2.1 (by decide) ?_
      refine r_aload_n hE 1 dX13_readParam_g1.2.2.2.1 rfl rfl ?_
      refine mg_tokenAt hE hm dX13_readParam_g1.2.2.2.2.1 ?_
      refine m_callVv hE hm [.int (3 : Int32), .int (m_tokenAt s2)] [] mc_wrong (km_wrong hm.2.2.2.2.2.2.2.2 h) (by decide) rfl rfl (Nat.le_of_ble_eq_true rfl) dX13_readParam_g1.2.2.2.2.2.1 (fun s10 h => ?_)
      refine r_goto hE 89 dX13_readParam_g1.2.2.2.2.2.2.1 (by decide) ?_
      exact m_vret hE hm hF dX13_readParam_g3 h
  · refine r_aload_n hE 1 dX13_readParam_g0.2.2.2.2.2.2.2.2.1 rfl rfl ?_
    refine m_callVv hE hm [] [] mc_misplaced (km_misplaced hm.2.2.2.2.2.2.2.2 h) (by decide) rfl rfl (Nat.le_of_ble_eq_true rfl) dX13_readParam_g0.2.2.2.2.2.2.2.2.2.1 (fun s11 h => ?_)
    refine r_goto hE 89 dX13_readParam_g0.2.2.2.2.2.2.2.2.2.2.1 (by decide) ?_
    exact m_vret hE hm hF dX13_readParam_g3 h
/-! readMacro -/
def wm_readMacro_226 (post : MS → Prop) (σ : MS) (t1 : Int32) (t2 : Int32) : Prop := vp_in t1 26 ∧ (∀ s1 : MS, s1 = m_bodyOf_s σ t1.toNatClampNeg t2 → ∀ s2 : MS, s2 = m_readMacros_s s1 ((m_readMacros s1) + (1 : Int32)) → post s2)
set_option maxRecDepth 20000 in
theorem km_readMacro_226 {E : gEnv} {l : Launch} {D : va_G} {cl : List vw_C} {G : gAd} {post : MS → Prop} (hE : gOK E cX13_readMacro RX13 none 15) (hm : mOK E l D cl G (qV post) 3) (hF : gFin E) (σ : MS) (t1 : Int32) (t2 : Int32) (h : wm_readMacro_226 post σ t1 t2) : GW E (mW G σ) 226 [(0, .ref (G.1 0))] [.int t2, .int t1, .ref (G.1 28)] := by
  unfold wm_readMacro_226 at h
  have hN := hm.2.2.2.2.2.2.1
  obtain ⟨hi, h⟩ := h
  refine ms_bodyOf hE hm dX13_readMacro_g7.2.2.2.2.1 hi h (fun s1 h => ?_)
  refine r_aload_n hE 0 dX13_readMacro_g7.2.2.2.2.2.1 rfl rfl ?_
  refine r_dup hE dX13_readMacro_g7.2.2.2.2.2.2.1 rfl ?_
  refine mg_readMacros hE hm dX13_readMacro_g7.2.2.2.2.2.2.2.1 ?_
  refine r_iconst (v := (1 : Int32)) hE dX13_readMacro_g7.2.2.2.2.2.2.2.2.1 (by decide) ?_
  refine r_iadd hE dX13_readMacro_g7.2.2.2.2.2.2.2.2.2.1 ?_
  refine mp_readMacros hE hm dX13_readMacro_g7.2.2.2.2.2.2.2.2.2.2.1 h (fun s2 h => ?_)
  exact m_vret hE hm hF dX13_readMacro_g7.2.2.2.2.2.2.2.2.2.2.2 h
def wm_readMacro_193 (post : MS → Prop) (σ : MS) (v1 : Int32) : Prop := wm_take (fun (s3 : MS) => wm_open (fun (s4 : MS) => wm_fine (fun (s5 : MS) (r6 : Int32) => ((r6 = (0 : Int32)) → (wm_readMacro_226 post s5 v1 (-1 : Int32))) ∧ ((¬ (r6 = (0 : Int32))) → (wm_readDeeds (fun (s7 : MS) (r8 : Int32) => wm_readMacro_226 post s7 v1 r8) s5 (1 : Int32)))) s4) s3 (123 : Int32)) σ (41 : Int32)
set_option maxRecDepth 20000 in
theorem km_readMacro_193 {E : gEnv} {l : Launch} {D : va_G} {cl : List vw_C} {G : gAd} {post : MS → Prop} (hE : gOK E cX13_readMacro RX13 none 15) (hm : mOK E l D cl G (qV post) 3) (hF : gFin E) (σ : MS) (v1 : Int32) (h : wm_readMacro_193 post σ v1) : GW E (mW G σ) 193 [(0, .ref (G.1 0)), (1, .int v1)] [] := by
  unfold wm_readMacro_193 at h
  have hN := hm.2.2.2.2.2.2.1
  refine r_aload_n hE 0 dX13_readMacro_g6.2.2.2.1 rfl rfl ?_
  refine r_bipush (v := (41 : Int32)) hE dX13_readMacro_g6.2.2.2.2.1 (by decide) ?_
  refine m_callVv hE hm [.int (41 : Int32)] [] mc_take (km_take hm.2.2.2.2.2.2.2.2 h) (by decide) rfl rfl (Nat.le_of_ble_eq_true rfl) dX13_readMacro_g6.2.2.2.2.2.1 (fun s3 h => ?_)
  refine r_aload_n hE 0 dX13_readMacro_g6.2.2.2.2.2.2.1 rfl rfl ?_
  refine r_bipush (v := (123 : Int32)) hE dX13_readMacro_g6.2.2.2.2.2.2.2.1 (by decide) ?_
  refine m_callVv hE hm [.int (123 : Int32)] [] mc_open (km_open hm.2.2.2.2.2.2.2.2 h) (by decide) rfl rfl (Nat.le_of_ble_eq_true rfl) dX13_readMacro_g6.2.2.2.2.2.2.2.2.1 (fun s4 h => ?_)
  refine r_aload_n hE 0 dX13_readMacro_g6.2.2.2.2.2.2.2.2.2.1 rfl rfl ?_
  refine mg_bodyOf hE hm dX13_readMacro_g6.2.2.2.2.2.2.2.2.2.2.1 ?_
  refine r_iload_n hE 1 dX13_readMacro_g6.2.2.2.2.2.2.2.2.2.2.2.1 rfl rfl ?_
  refine r_aload_n hE 0 dX13_readMacro_g6.2.2.2.2.2.2.2.2.2.2.2.2.1 rfl rfl ?_
  refine m_callVi hE hm [] [.int v1, .ref (G.1 28)] mc_fine (km_fine hm.2.2.2.2.2.2.2.2 h) (by decide) rfl rfl (Nat.le_of_ble_eq_true rfl) dX13_readMacro_g6.2.2.2.2.2.2.2.2.2.2.2.2.2.1 (fun s5 r6 h => ?_)
  refine r_if_eq hE 225 dX13_readMacro_g6.2.2.2.2.2.2.2.2.2.2.2.2.2.2.1 (by decide) h (fun h => ?_) (fun h => ?_)
  · refine r_iconst (v := (-1 : Int32)) hE dX13_readMacro_g7.2.2.2.1 (by decide) ?_
    refine r_pick [0] rfl ?_
    exact km_readMacro_226 hE hm hF _ _ _ h
  · refine r_aload_n hE 0 dX13_readMacro_g6.2.2.2.2.2.2.2.2.2.2.2.2.2.2.2 rfl rfl ?_
    refine r_iconst (v := (1 : Int32)) hE dX13_readMacro_g7.1 (by decide) ?_
    refine m_callVi hE hm [.int (1 : Int32)] [.int v1, .ref (G.1 28)] mc_readDeeds (km_readDeeds hm.2.2.2.2.2.2.2.2 h) (by decide) rfl rfl (Nat.le_of_ble_eq_true rfl) dX13_readMacro_g7.2.1 (fun s7 r8 h => ?_)
    refine r_goto hE 226 dX13_readMacro_g7.2.2.1 (by decide) ?_
    refine r_pick [0] rfl ?_
    exact km_readMacro_226 hE hm hF _ _ _ h
def wm_readMacro_166 (post : MS → Prop) : Nat → MS → Int32 → Prop
  | 0, _, _ => False
  | n + 1, σ, v1 => wm_fine (fun (s9 : MS) (r10 : Int32) => ((r10 = (0 : Int32)) → (wm_readMacro_193 post s9 v1)) ∧ ((¬ (r10 = (0 : Int32))) → (wm_isSignHere (fun (s11 : MS) (r12 : Int32) => ((r12 = (0 : Int32)) → (wm_readMacro_193 post s11 v1)) ∧ ((¬ (r12 = (0 : Int32))) → (wm_next (fun (s13 : MS) => wm_readParam (fun (s14 : MS) => wm_readMacro_166 post n s14 v1) s13) s11))) s9 (44 : Int32)))) σ
set_option maxRecDepth 20000 in
theorem km_readMacro_166 {E : gEnv} {l : Launch} {D : va_G} {cl : List vw_C} {G : gAd} {post : MS → Prop} (hE : gOK E cX13_readMacro RX13 none 15) (hm : mOK E l D cl G (qV post) 3) (hF : gFin E) : ∀ (n : Nat) (σ : MS) (v1 : Int32), wm_readMacro_166 post n σ v1 → GW E (mW G σ) 166 [(0, .ref (G.1 0)), (1, .int v1)] [] := by
  intro n
  induction n with
  | zero => intro σ v1 h; exact h.elim
  | succ n ih =>
    intro σ v1 h
    rw [wm_readMacro_166] at h
    have hN := hm.2.2.2.2.2.2.1
    refine r_aload_n hE 0 dX13_readMacro_g5.2.2.2.2.2.2.2.1 rfl rfl ?_
    refine m_callVi hE hm [] [] mc_fine (km_fine hm.2.2.2.2.2.2.2.2 h) (by decide) rfl rfl (Nat.le_of_ble_eq_true rfl) dX13_readMacro_g5.2.2.2.2.2.2.2.2.1 (fun s9 r10 h => ?_)
    refine r_if_eq hE 193 dX13_readMacro_g5.2.2.2.2.2.2.2.2.2.1 (by decide) h (fun h => ?_) (fun h => ?_)
    · exact km_readMacro_193 hE hm hF _ _ h
    · refine r_aload_n hE 0 dX13_readMacro_g5.2.2.2.2.2.2.2.2.2.2.1 rfl rfl ?_
      refine r_bipush (v := (44 : Int32)) hE dX13_readMacro_g5.2.2.2.2.2.2.2.2.2.2.2.1 (by decide) ?_
      refine m_callVi hE hm [.int (44 : Int32)] [] mc_isSignHere (km_isSignHere hm.2.2.2.2.2.2.2.2 h) (by decide) rfl rfl (Nat.le_of_ble_eq_true rfl) dX13_readMacro_g5.2.2.2.2.2.2.2.2.2.2.2.2.1 (fun s11 r12 h => ?_)
      refine r_if_eq hE 193 dX13_readMacro_g5.2.2.2.2.2.2.2.2.2.2.2.2.2.1 (by decide) h (fun h => ?_) (fun h => ?_)
      · exact km_readMacro_193 hE hm hF _ _ h
      · refine r_aload_n hE 0 dX13_readMacro_g5.2.2.2.2.2.2.2.2.2.2.2.2.2.2.1 rfl rfl ?_
        refine m_callVv hE hm [] [] mc_next (km_next hm.2.2.2.2.2.2.2.2 h) (by decide) rfl rfl (Nat.le_of_ble_eq_true rfl) dX13_readMacro_g5.2.2.2.2.2.2.2.2.2.2.2.2.2.2.2 (fun s13 h => ?_)
        refine r_aload_n hE 0 dX13_readMacro_g6.1 rfl rfl ?_
        refine m_callVv hE hm [] [] mc_readParam (km_readParam hm.2.2.2.2.2.2.2.2 h) (by decide) rfl rfl (Nat.le_of_ble_eq_true rfl) dX13_readMacro_g6.2.1 (fun s14 h => ?_)
        refine r_goto hE 166 dX13_readMacro_g6.2.2.1 (by decide) ?_
        exact ih _ _ h
def wm_readMacro_92 (post : MS → Prop) : Nat → MS → Int32 → Int32 → Prop
  | 0, _, _, _ => False
  | n + 1, σ, v1, v2 => (((m_tokenSize σ) ≤ v2) → (∀ s15 : MS, s15 = m_scope_s σ (m_readMacros σ) → wm_next (fun (s16 : MS) => wm_take (fun (s17 : MS) => wm_fine (fun (s18 : MS) (r19 : Int32) => ((r19 = (0 : Int32)) → (wm_readMacro_193 post s18 v1)) ∧ ((¬ (r19 = (0 : Int32))) → (wm_isSignHere (fun (s20 : MS) (r21 : Int32) => ((¬ (r21 = (0 : Int32))) → (wm_readMacro_193 post s20 v1)) ∧ ((r21 = (0 : Int32)) → (wm_readParam (fun (s22 : MS) => ∃ k : Nat, wm_readMacro_166 post k s22 v1) s20))) s18 (41 : Int32)))) s17) s16 (40 : Int32)) s15)) ∧ ((¬ ((m_tokenSize σ) ≤ v2)) → (vp_in ((m_tokenAt σ) + v2) 3000 ∧ (vp_in (((10 : Int32) * v1) + v2) 260 ∧ (∀ s23 : MS, s23 = m_macroLetters_s σ (((10 : Int32) * v1) + v2).toNatClampNeg ((m_tape σ ((m_tokenAt σ) + v2).toNatClampNeg).toInt8.toInt32) → ∀ x24 : Int32, x24 = v2 + (1 : Int32) → wm_readMacro_92 post n s23 v1 x24))))
set_option maxRecDepth 20000 in
theorem km_readMacro_92 {E : gEnv} {l : Launch} {D : va_G} {cl : List vw_C} {G : gAd} {post : MS → Prop} (hE : gOK E cX13_readMacro RX13 none 15) (hm : mOK E l D cl G (qV post) 3) (hF : gFin E) : ∀ (n : Nat) (σ : MS) (v1 : Int32) (v2 : Int32), wm_readMacro_92 post n σ v1 v2 → GW E (mW G σ) 92 [(0, .ref (G.1 0)), (1, .int v1), (2, .int v2)] [] := by
  intro n
  induction n with
  | zero => intro σ v1 v2 h; exact h.elim
  | succ n ih =>
    intro σ v1 v2 h
    rw [wm_readMacro_92] at h
    have hN := hm.2.2.2.2.2.2.1
    refine r_iload_n hE 2 dX13_readMacro_g3.1 rfl rfl ?_
    refine r_aload_n hE 0 dX13_readMacro_g3.2.1 rfl rfl ?_
    refine mg_tokenSize hE hm dX13_readMacro_g3.2.2.1 ?_
    refine r_icmp_ge hE 128 dX13_readMacro_g3.2.2.2.1 (by decide) h (fun h => ?_) (fun h => ?_)
    · refine r_aload_n hE 0 dX13_readMacro_g4.2.2.2.2.2.1 rfl rfl ?_
      refine r_aload_n hE 0 dX13_readMacro_g4.2.2.2.2.2.2.1 rfl rfl ?_
      refine mg_readMacros hE hm dX13_readMacro_g4.2.2.2.2.2.2.2.1 ?_
      refine mp_scope hE hm dX13_readMacro_g4.2.2.2.2.2.2.2.2.1 h (fun s15 h => ?_)
      refine r_aload_n hE 0 dX13_readMacro_g4.2.2.2.2.2.2.2.2.2.1 rfl rfl ?_
      refine m_callVv hE hm [] [] mc_next (km_next hm.2.2.2.2.2.2.2.2 h) (by decide) rfl rfl (Nat.le_of_ble_eq_true rfl) dX13_readMacro_g4.2.2.2.2.2.2.2.2.2.2.1 (fun s16 h => ?_)
      refine r_aload_n hE 0 dX13_readMacro_g4.2.2.2.2.2.2.2.2.2.2.2.1 rfl rfl ?_
      refine r_bipush (v := (40 : Int32)) hE dX13_readMacro_g4.2.2.2.2.2.2.2.2.2.2.2.2.1 (by decide) ?_
      refine m_callVv hE hm [.int (40 : Int32)] [] mc_take (km_take hm.2.2.2.2.2.2.2.2 h) (by decide) rfl rfl (Nat.le_of_ble_eq_true rfl) dX13_readMacro_g4.2.2.2.2.2.2.2.2.2.2.2.2.2.1 (fun s17 h => ?_)
      refine r_aload_n hE 0 dX13_readMacro_g4.2.2.2.2.2.2.2.2.2.2.2.2.2.2.1 rfl rfl ?_
      refine m_callVi hE hm [] [] mc_fine (km_fine hm.2.2.2.2.2.2.2.2 h) (by decide) rfl rfl (Nat.le_of_ble_eq_true rfl) dX13_readMacro_g4.2.2.2.2.2.2.2.2.2.2.2.2.2.2.2 (fun s18 r19 h => ?_)
      refine r_if_eq hE 193 dX13_readMacro_g5.1 (by decide) h (fun h => ?_) (fun h => ?_)
      · refine r_pick [0, 1] rfl ?_
        exact km_readMacro_193 hE hm hF _ _ h
      · refine r_aload_n hE 0 dX13_readMacro_g5.2.1 rfl rfl ?_
        refine r_bipush (v := (41 : Int32)) hE dX13_readMacro_g5.2.2.1 (by decide) ?_
        refine m_callVi hE hm [.int (41 : Int32)] [] mc_isSignHere (km_isSignHere hm.2.2.2.2.2.2.2.2 h) (by decide) rfl rfl (Nat.le_of_ble_eq_true rfl) dX13_readMacro_g5.2.2.2.1 (fun s20 r21 h => ?_)
        refine r_if_ne hE 193 dX13_readMacro_g5.2.2.2.2.1 (by decide) h (fun h => ?_) (fun h => ?_)
        · refine r_pick [0, 1] rfl ?_
          exact km_readMacro_193 hE hm hF _ _ h
        · refine r_aload_n hE 0 dX13_readMacro_g5.2.2.2.2.2.1 rfl rfl ?_
          refine m_callVv hE hm [] [] mc_readParam (km_readParam hm.2.2.2.2.2.2.2.2 h) (by decide) rfl rfl (Nat.le_of_ble_eq_true rfl) dX13_readMacro_g5.2.2.2.2.2.2.1 (fun s22 h => ?_)
          refine r_pick [0, 1] rfl ?_
          obtain ⟨k, h⟩ := h
          exact km_readMacro_166 hE hm hF k _ _ h
    · refine r_aload_n hE 0 dX13_readMacro_g3.2.2.2.2.1 rfl rfl ?_
      refine mg_macroLetters hE hm dX13_readMacro_g3.2.2.2.2.2.1 ?_
      refine r_bipush (v := (10 : Int32)) hE dX13_readMacro_g3.2.2.2.2.2.2.1 (by decide) ?_
      refine r_iload_n hE 1 dX13_readMacro_g3.2.2.2.2.2.2.2.1 rfl rfl ?_
      refine r_imul hE dX13_readMacro_g3.2.2.2.2.2.2.2.2.1 ?_
      refine r_iload_n hE 2 dX13_readMacro_g3.2.2.2.2.2.2.2.2.2.1 rfl rfl ?_
      refine r_iadd hE dX13_readMacro_g3.2.2.2.2.2.2.2.2.2.2.1 ?_
      refine r_aload_n hE 0 dX13_readMacro_g3.2.2.2.2.2.2.2.2.2.2.2.1 rfl rfl ?_
      refine mg_tape hE hm dX13_readMacro_g3.2.2.2.2.2.2.2.2.2.2.2.2.1 ?_
      refine r_aload_n hE 0 dX13_readMacro_g3.2.2.2.2.2.2.2.2.2.2.2.2.2.1 rfl rfl ?_
      refine mg_tokenAt hE hm dX13_readMacro_g3.2.2.2.2.2.2.2.2.2.2.2.2.2.2.1 ?_
      refine r_iload_n hE 2 dX13_readMacro_g3.2.2.2.2.2.2.2.2.2.2.2.2.2.2.2 rfl rfl ?_
      refine r_iadd hE dX13_readMacro_g4.1 ?_
      obtain ⟨hi, h⟩ := h
      refine ml_tape hE hm dX13_readMacro_g4.2.1 hi ?_
      obtain ⟨hi, h⟩ := h
      refine ms_macroLetters hE hm dX13_readMacro_g4.2.2.1 hi h (fun s23 h => ?_)
      obtain ⟨x24, ex24⟩ : ∃ z : Int32, z = v2 + (1 : Int32) := ⟨_, rfl⟩
      have h := h x24 ex24
      refine r_iinc (v := x24) hE [(2, .int x24), (0, .ref (G.1 0)), (1, .int v1)] 2 dX13_readMacro_g4.2.2.2.1 rfl (by rw [ex24]; rfl) hN (by decide) rfl ?_
      refine r_goto hE 92 dX13_readMacro_g4.2.2.2.2.1 (by decide) ?_
      refine r_pick [1, 2, 0] rfl ?_
      exact ih _ _ _ h
def wm_readMacro_72 (post : MS → Prop) (σ : MS) (v1 : Int32) : Prop := wm_fine (fun (s25 : MS) (r26 : Int32) => ((¬ (r26 = (0 : Int32))) → (vp_in v1 26 ∧ (∀ s27 : MS, s27 = m_macroSize_s s25 v1.toNatClampNeg (m_tokenSize s25) → ∃ k : Nat, wm_readMacro_92 post k s27 v1 (0 : Int32)))) ∧ ((r26 = (0 : Int32)) → (post s25))) σ
set_option maxRecDepth 20000 in
theorem km_readMacro_72 {E : gEnv} {l : Launch} {D : va_G} {cl : List vw_C} {G : gAd} {post : MS → Prop} (hE : gOK E cX13_readMacro RX13 none 15) (hm : mOK E l D cl G (qV post) 3) (hF : gFin E) (σ : MS) (v1 : Int32) (h : wm_readMacro_72 post σ v1) : GW E (mW G σ) 72 [(0, .ref (G.1 0)), (1, .int v1)] [] := by
  unfold wm_readMacro_72 at h
  have hN := hm.2.2.2.2.2.2.1
  refine r_aload_n hE 0 dX13_readMacro_g2.2.2.2.2.1 rfl rfl ?_
  refine m_callVi hE hm [] [] mc_fine (km_fine hm.2.2.2.2.2.2.2.2 h) (by decide) rfl rfl (Nat.le_of_ble_eq_true rfl) dX13_readMacro_g2.2.2.2.2.2.1 (fun s25 r26 h => ?_)
  refine r_if_ne hE 80 dX13_readMacro_g2.2.2.2.2.2.2.1 (by decide) h (fun h => ?_) (fun h => ?_)
  · refine r_aload_n hE 0 dX13_readMacro_g2.2.2.2.2.2.2.2.2.1 rfl rfl ?_
    refine mg_macroSize hE hm dX13_readMacro_g2.2.2.2.2.2.2.2.2.2.1 ?_
    refine r_iload_n hE 1 dX13_readMacro_g2.2.2.2.2.2.2.2.2.2.2.1 rfl rfl ?_
    refine r_aload_n hE 0 dX13_readMacro_g2.2.2.2.2.2.2.2.2.2.2.2.1 rfl rfl ?_
    refine mg_tokenSize hE hm dX13_readMacro_g2.2.2.2.2.2.2.2.2.2.2.2.2.1 ?_
    obtain ⟨hi, h⟩ := h
    refine ms_macroSize hE hm dX13_readMacro_g2.2.2.2.2.2.2.2.2.2.2.2.2.2.1 hi h (fun s27 h => ?_)
    refine r_iconst (v := (0 : Int32)) hE dX13_readMacro_g2.2.2.2.2.2.2.2.2.2.2.2.2.2.2.1 (by decide) ?_
    refine r_istore_n hE [(2, .int (0 : Int32)), (0, .ref (G.1 0)), (1, .int v1)] dX13_readMacro_g2.2.2.2.2.2.2.2.2.2.2.2.2.2.2.2 rfl hN (by decide) rfl ?_
    refine r_pick [1, 2, 0] rfl ?_
    obtain ⟨k, h⟩ := h
    exact km_readMacro_92 hE hm hF k _ _ _ h
  · exact m_vret hE hm hF dX13_readMacro_g2.2.2.2.2.2.2.2.1 h
def wm_readMacro_63 (post : MS → Prop) (σ : MS) (v1 : Int32) : Prop := wm_wrong (fun (s28 : MS) => wm_readMacro_72 post s28 v1) σ (4 : Int32) (m_tokenAt σ)
set_option maxRecDepth 20000 in
theorem km_readMacro_63 {E : gEnv} {l : Launch} {D : va_G} {cl : List vw_C} {G : gAd} {post : MS → Prop} (hE : gOK E cX13_readMacro RX13 none 15) (hm : mOK E l D cl G (qV post) 3) (hF : gFin E) (σ : MS) (v1 : Int32) (h : wm_readMacro_63 post σ v1) : GW E (mW G σ) 63 [(0, .ref (G.1 0)), (1, .int v1)] [] := by
  unfold wm_readMacro_63 at h
  have hN := hm.2.2.2.2.2.2.1
  refine r_aload_n hE 0 dX13_readMacro_g1.2.2.2.2.2.2.2.2.2.2.2.2.2.2.2 rfl rfl ?_
  refine r_iconst (v := (4 : Int32)) hE dX13_readMacro_g2.1 (by decide) ?_
  refine r_aload_n hE 0 dX13_readMacro_g2.2.1 rfl rfl ?_
  refine mg_tokenAt hE hm dX13_readMacro_g2.2.2.1 ?_
  refine m_callVv hE hm [.int (4 : Int32), .int (m_tokenAt σ)] [] mc_wrong (km_wrong hm.2.2.2.2.2.2.2.2 h) (by decide) rfl rfl (Nat.le_of_ble_eq_true rfl) dX13_readMacro_g2.2.2.2.1 (fun s28 h => ?_)
  exact km_readMacro_72 hE hm hF _ _ h
def wm_readMacro (post : MS → Prop) (σ : MS) : Prop := wm_next (fun (s29 : MS) => ∀ x30 : Int32, x30 = (13 : Int32) + (m_readMacros s29) → wm_isName (fun (s31 : MS) (r32 : Int32) => ((¬ (r32 = (0 : Int32))) → (((¬ ((m_readMacros s31) = (12 : Int32))) → (wm_wordOf_toolList (fun (s33 : MS) (r34 : Int32) => (((0 : Int32) ≤ r34) → (wm_readMacro_63 post s33 x30)) ∧ ((¬ ((0 : Int32) ≤ r34)) → (wm_macroHere (fun (s35 : MS) (r36 : Int32) => ((r36 < (0 : Int32)) → (wm_readMacro_72 post s35 x30)) ∧ ((¬ (r36 < (0 : Int32))) → (wm_readMacro_63 post s35 x30))) s33))) s31)) ∧ (((m_readMacros s31) = (12 : Int32)) → (wm_wrong (fun (s37 : MS) => wm_readMacro_72 post s37 x30) s31 (3 : Int32) (m_tokenAt s31))))) ∧ ((r32 = (0 : Int32)) → (wm_misplaced (fun (s38 : MS) => post s38) s31))) s29) σ
set_option maxRecDepth 20000 in
theorem km_readMacro {l : Launch} {D : va_G} {cl : List vw_C} {G : gAd} {post : MS → Prop} (hcl : mC cl) {σ : MS} (h : wm_readMacro post σ) : mMet l D cl G yX13_readMacro cX13_readMacro 3 none 15 [.ref (G.1 0)] σ (qV post) := by
  unfold wm_readMacro at h
  refine m_enter hcl (by decide +kernel) rfl [(0, .ref (G.1 0))] rfl (Nat.le_of_ble_eq_true rfl) ?_
  intro E hE hm hF
  have hN := hm.2.2.2.2.2.2.1
  refine r_aload_n hE 0 dX13_readMacro_g0.1 rfl rfl ?_
  refine m_callVv hE hm [] [] mc_next (km_next hm.2.2.2.2.2.2.2.2 h) (by decide) rfl rfl (Nat.le_of_ble_eq_true rfl) dX13_readMacro_g0.2.1 (fun s29 h => ?_)
  refine r_bipush (v := (13 : Int32)) hE dX13_readMacro_g0.2.2.1 (by decide) ?_
  refine r_aload_n hE 0 dX13_readMacro_g0.2.2.2.1 rfl rfl ?_
  refine mg_readMacros hE hm dX13_readMacro_g0.2.2.2.2.1 ?_
  refine r_iadd hE dX13_readMacro_g0.2.2.2.2.2.1 ?_
  refine r_topi h (fun x30 ex30 h => ?_)
  refine r_istore_n hE [(1, .int x30), (0, .ref (G.1 0))] dX13_readMacro_g0.2.2.2.2.2.2.1 rfl hN (by decide) rfl ?_
  refine r_aload_n hE 1 dX13_readMacro_g0.2.2.2.2.2.2.2.1 rfl rfl ?_
  refine m_callVi hE hm [] [] mc_isName (km_isName hm.2.2.2.2.2.2.2.2 h) (by decide) rfl rfl (Nat.le_of_ble_eq_true rfl) dX13_readMacro_g0.2.2.2.2.2.2.2.2.1 (fun s31 r32 h => ?_)
  refine r_if_ne hE 24 dX13_readMacro_g0.2.2.2.2.2.2.2.2.2.1 (by decide) h (fun h => ?_) (fun h => ?_)
  · refine r_aload_n hE 1 dX13_readMacro_g0.2.2.2.2.2.2.2.2.2.2.2.2.2.1 rfl rfl ?_
    refine mg_readMacros hE hm dX13_readMacro_g0.2.2.2.2.2.2.2.2.2.2.2.2.2.2.1 ?_
    refine r_bipush (v := (12 : Int32)) hE dX13_readMacro_g0.2.2.2.2.2.2.2.2.2.2.2.2.2.2.2 (by decide) ?_
    refine r_icmp_ne hE 45 dX13_readMacro_g1.1 (by decide) h (fun h => ?_) (fun h => ?_)
    · refine r_aload_n hE 1 dX13_readMacro_g1.2.2.2.2.2.2.2.1 rfl rfl ?_
      refine r_aload_n hE 1 dX13_readMacro_g1.2.2.2.2.2.2.2.2.1 rfl rfl ?_
      refine mg_toolList hE hm dX13_readMacro_g1.2.2.2.2.2.2.2.2.2.1 ?_
      refine m_callVi hE hm [.ref (G.1 11)] [] mc_wordOf (km_wordOf_toolList hm.2.2.2.2.2.2.2.2 h) (by decide) rfl rfl (Nat.le_of_ble_eq_true rfl) dX13_readMacro_g1.2.2.2.2.2.2.2.2.2.2.1 (fun s33 r34 h => ?_)
      refine r_if_ge hE 63 dX13_readMacro_g1.2.2.2.2.2.2.2.2.2.2.2.1 (by decide) h (fun h => ?_) (fun h => ?_)
      · refine r_pick [1, 0] rfl ?_
        exact km_readMacro_63 hE hm hF _ _ h
      · refine r_aload_n hE 1 dX13_readMacro_g1.2.2.2.2.2.2.2.2.2.2.2.2.1 rfl rfl ?_
        refine m_callVi hE hm [] [] mc_macroHere (km_macroHere hm.2.2.2.2.2.2.2.2 h) (by decide) rfl rfl (Nat.le_of_ble_eq_true rfl) dX13_readMacro_g1.2.2.2.2.2.2.2.2.2.2.2.2.2.1 (fun s35 r36 h => ?_)
        refine r_if_lt hE 72 dX13_readMacro_g1.2.2.2.2.2.2.2.2.2.2.2.2.2.2.1 (by decide) h (fun h => ?_) (fun h => ?_)
        · refine r_pick [1, 0] rfl ?_
          exact km_readMacro_72 hE hm hF _ _ h
        · refine r_pick [1, 0] rfl ?_
          exact km_readMacro_63 hE hm hF _ _ h
    · refine r_aload_n hE 1 dX13_readMacro_g1.2.1 rfl rfl ?_
      refine r_iconst (v := (3 : Int32)) hE dX13_readMacro_g1.2.2.1 (by decide) ?_
      refine r_aload_n hE 1 dX13_readMacro_g1.2.2.2.1 rfl rfl ?_
      refine mg_tokenAt hE hm dX13_readMacro_g1.2.2.2.2.1 ?_
      refine m_callVv hE hm [.int (3 : Int32), .int (m_tokenAt s31)] [] mc_wrong (km_wrong hm.2.2.2.2.2.2.2.2 h) (by decide) rfl rfl (Nat.le_of_ble_eq_true rfl) dX13_readMacro_g1.2.2.2.2.2.1 (fun s37 h => ?_)
      refine r_goto hE 72 dX13_readMacro_g1.2.2.2.2.2.2.1 (by decide) ?_
      refine r_pick [1, 0] rfl ?_
      exact km_readMacro_72 hE hm hF _ _ h
  · refine r_aload_n hE 1 dX13_readMacro_g0.2.2.2.2.2.2.2.2.2.2.1 rfl rfl ?_
    refine m_callVv hE hm [] [] mc_misplaced (km_misplaced hm.2.2.2.2.2.2.2.2 h) (by decide) rfl rfl (Nat.le_of_ble_eq_true rfl) dX13_readMacro_g0.2.2.2.2.2.2.2.2.2.2.2.1 (fun s38 h => ?_)
    exact m_vret hE hm hF dX13_readMacro_g0.2.2.2.2.2.2.2.2.2.2.2.2.1 h
/-! read -/
def wm_read_126 (post : MS → Int32 → Prop) (σ : MS) (t0 : Int32) : Prop := ∀ s1 : MS, s1 = m_taped_s σ (0 : Int32) → wm_fine (fun (s2 : MS) (r3 : Int32) => ((¬ (r3 = (0 : Int32))) → (∀ s4 : MS, s4 = m_placed_s s2 (-1 : Int32) → wm_become (fun (s5 : MS) => post s5 (m_nodes s5)) s4 t0)) ∧ ((r3 = (0 : Int32)) → (∀ s6 : MS, s6 = m_placed_s s2 (m_faultAt s2) → post s6 (-(m_fault s6))))) s1
set_option maxRecDepth 20000 in
theorem km_read_126 {E : gEnv} {l : Launch} {D : va_G} {cl : List vw_C} {G : gAd} {post : MS → Int32 → Prop} (hE : gOK E cX13_read RX13 (some .int) 16) (hm : mOK E l D cl G (qI post) 2) (hF : gFin E) (σ : MS) (t0 : Int32) (h : wm_read_126 post σ t0) : GW E (mW G σ) 126 [(0, .ref (G.1 0))] [.int t0] := by
  unfold wm_read_126 at h
  have hN := hm.2.2.2.2.2.2.1
  refine r_istore_n hE [(1, .int t0), (0, .ref (G.1 0))] dX13_read_g4.2.2.2.2.2.1 rfl hN (by decide) rfl ?_
  refine r_aload_n hE 1 dX13_read_g4.2.2.2.2.2.2.1 rfl rfl ?_
  refine r_iconst (v := (0 : Int32)) hE dX13_read_g4.2.2.2.2.2.2.2.1 (by decide) ?_
  refine mp_taped hE hm dX13_read_g4.2.2.2.2.2.2.2.2.1 h (fun s1 h => ?_)
  refine r_aload_n hE 1 dX13_read_g4.2.2.2.2.2.2.2.2.2.1 rfl rfl ?_
  refine m_callVi hE hm [] [] mc_fine (km_fine hm.2.2.2.2.2.2.2.2 h) (by decide) rfl rfl (Nat.le_of_ble_eq_true rfl) dX13_read_g4.2.2.2.2.2.2.2.2.2.2.1 (fun s2 r3 h => ?_)
  refine r_if_ne hE 153 dX13_read_g4.2.2.2.2.2.2.2.2.2.2.2.1 (by decide) h (fun h => ?_) (fun h => ?_)
  · refine r_aload_n hE 1 dX13_read_g5.2.2.2.2.1 rfl rfl ?_
    refine r_iconst (v := (-1 : Int32)) hE dX13_read_g5.2.2.2.2.2.1 (by decide) ?_
    refine mp_placed hE hm dX13_read_g5.2.2.2.2.2.2.1 h (fun s4 h => ?_)
    refine r_aload_n hE 1 dX13_read_g5.2.2.2.2.2.2.2.1 rfl rfl ?_
    refine r_iload_n hE 0 dX13_read_g5.2.2.2.2.2.2.2.2.1 rfl rfl ?_
    refine m_callVv hE hm [.int t0] [] mc_become (km_become hm.2.2.2.2.2.2.2.2 h) (by decide) rfl rfl (Nat.le_of_ble_eq_true rfl) dX13_read_g5.2.2.2.2.2.2.2.2.2.1 (fun s5 h => ?_)
    refine r_aload_n hE 1 dX13_read_g5.2.2.2.2.2.2.2.2.2.2.1 rfl rfl ?_
    refine mg_nodes hE hm dX13_read_g5.2.2.2.2.2.2.2.2.2.2.2.1 ?_
    exact m_iret hE hm hF dX13_read_g5.2.2.2.2.2.2.2.2.2.2.2.2 h
  · refine r_aload_n hE 1 dX13_read_g4.2.2.2.2.2.2.2.2.2.2.2.2.1 rfl rfl ?_
    refine r_aload_n hE 1 dX13_read_g4.2.2.2.2.2.2.2.2.2.2.2.2.2.1 rfl rfl ?_
    refine mg_faultAt hE hm dX13_read_g4.2.2.2.2.2.2.2.2.2.2.2.2.2.2.1 ?_
    refine mp_placed hE hm dX13_read_g4.2.2.2.2.2.2.2.2.2.2.2.2.2.2.2 h (fun s6 h => ?_)
    refine r_aload_n hE 1 dX13_read_g5.1 rfl rfl ?_
    refine mg_fault hE hm dX13_read_g5.2.1 ?_
    refine r_ineg hE dX13_read_g5.2.2.1 ?_
    exact m_iret hE hm hF dX13_read_g5.2.2.2.1 h
def wm_read_104 (post : MS → Int32 → Prop) (σ : MS) : Prop := ∀ s7 : MS, s7 = m_scope_s σ (12 : Int32) → wm_fine (fun (s8 : MS) (r9 : Int32) => ((r9 = (0 : Int32)) → (wm_read_126 post s8 (-1 : Int32))) ∧ ((¬ (r9 = (0 : Int32))) → (wm_readDeeds (fun (s10 : MS) (r11 : Int32) => wm_read_126 post s10 r11) s8 (0 : Int32)))) s7
set_option maxRecDepth 20000 in
theorem km_read_104 {E : gEnv} {l : Launch} {D : va_G} {cl : List vw_C} {G : gAd} {post : MS → Int32 → Prop} (hE : gOK E cX13_read RX13 (some .int) 16) (hm : mOK E l D cl G (qI post) 2) (hF : gFin E) (σ : MS) (h : wm_read_104 post σ) : GW E (mW G σ) 104 [(0, .ref (G.1 0))] [] := by
  unfold wm_read_104 at h
  have hN := hm.2.2.2.2.2.2.1
  refine r_aload_n hE 0 dX13_read_g3.2.2.2.2.2.2.2.2.2.2.1 rfl rfl ?_
  refine r_bipush (v := (12 : Int32)) hE dX13_read_g3.2.2.2.2.2.2.2.2.2.2.2.1 (by decide) ?_
  refine mp_scope hE hm dX13_read_g3.2.2.2.2.2.2.2.2.2.2.2.2.1 h (fun s7 h => ?_)
  refine r_aload_n hE 0 dX13_read_g3.2.2.2.2.2.2.2.2.2.2.2.2.2.1 rfl rfl ?_
  refine m_callVi hE hm [] [] mc_fine (km_fine hm.2.2.2.2.2.2.2.2 h) (by decide) rfl rfl (Nat.le_of_ble_eq_true rfl) dX13_read_g3.2.2.2.2.2.2.2.2.2.2.2.2.2.2.1 (fun s8 r9 h => ?_)
  refine r_if_eq hE 125 dX13_read_g3.2.2.2.2.2.2.2.2.2.2.2.2.2.2.2 (by decide) h (fun h => ?_) (fun h => ?_)
  · refine r_iconst (v := (-1 : Int32)) hE dX13_read_g4.2.2.2.2.1 (by decide) ?_
    exact km_read_126 hE hm hF _ _ h
  · refine r_aload_n hE 0 dX13_read_g4.1 rfl rfl ?_
    refine r_iconst (v := (0 : Int32)) hE dX13_read_g4.2.1 (by decide) ?_
    refine m_callVi hE hm [.int (0 : Int32)] [] mc_readDeeds (km_readDeeds hm.2.2.2.2.2.2.2.2 h) (by decide) rfl rfl (Nat.le_of_ble_eq_true rfl) dX13_read_g4.2.2.1 (fun s10 r11 h => ?_)
    refine r_goto hE 126 dX13_read_g4.2.2.2.1 (by decide) ?_
    exact km_read_126 hE hm hF _ _ h
def wm_read_71 (post : MS → Int32 → Prop) : Nat → MS → Prop
  | 0, _ => False
  | n + 1, σ => wm_fine (fun (s12 : MS) (r13 : Int32) => ((r13 = (0 : Int32)) → (wm_read_104 post s12)) ∧ ((¬ (r13 = (0 : Int32))) → (((¬ ((m_token s12) = (1 : Int32))) → (wm_read_104 post s12)) ∧ (((m_token s12) = (1 : Int32)) → (wm_wordOf_wordList (fun (s14 : MS) (r15 : Int32) => ((¬ (r15 = (0 : Int32))) → (wm_read_104 post s14)) ∧ ((r15 = (0 : Int32)) → (wm_readMacro (fun (s16 : MS) => wm_read_71 post n s16) s14))) s12))))) σ
set_option maxRecDepth 20000 in
theorem km_read_71 {E : gEnv} {l : Launch} {D : va_G} {cl : List vw_C} {G : gAd} {post : MS → Int32 → Prop} (hE : gOK E cX13_read RX13 (some .int) 16) (hm : mOK E l D cl G (qI post) 2) (hF : gFin E) : ∀ (n : Nat) (σ : MS), wm_read_71 post n σ → GW E (mW G σ) 71 [(0, .ref (G.1 0))] [] := by
  intro n
  induction n with
  | zero => intro σ h; exact h.elim
  | succ n ih =>
    intro σ h
    rw [wm_read_71] at h
    have hN := hm.2.2.2.2.2.2.1
    refine r_aload_n hE 0 dX13_read_g2.2.2.2.2.2.2.2.2.2.2.2.1 rfl rfl ?_
    refine m_callVi hE hm [] [] mc_fine (km_fine hm.2.2.2.2.2.2.2.2 h) (by decide) rfl rfl (Nat.le_of_ble_eq_true rfl) dX13_read_g2.2.2.2.2.2.2.2.2.2.2.2.2.1 (fun s12 r13 h => ?_)
    refine r_if_eq hE 104 dX13_read_g2.2.2.2.2.2.2.2.2.2.2.2.2.2.1 (by decide) h (fun h => ?_) (fun h => ?_)
    · exact km_read_104 hE hm hF _ h
    · refine r_aload_n hE 0 dX13_read_g2.2.2.2.2.2.2.2.2.2.2.2.2.2.2.1 rfl rfl ?_
      refine mg_token hE hm dX13_read_g2.2.2.2.2.2.2.2.2.2.2.2.2.2.2.2 ?_
      refine r_iconst (v := (1 : Int32)) hE dX13_read_g3.1 (by decide) ?_
      refine r_icmp_ne hE 104 dX13_read_g3.2.1 (by decide) h (fun h => ?_) (fun h => ?_)
      · exact km_read_104 hE hm hF _ h
      · refine r_aload_n hE 0 dX13_read_g3.2.2.1 rfl rfl ?_
        refine r_aload_n hE 0 dX13_read_g3.2.2.2.1 rfl rfl ?_
        refine mg_wordList hE hm dX13_read_g3.2.2.2.2.1 ?_
        refine m_callVi hE hm [.ref (G.1 10)] [] mc_wordOf (km_wordOf_wordList hm.2.2.2.2.2.2.2.2 h) (by decide) rfl rfl (Nat.le_of_ble_eq_true rfl) dX13_read_g3.2.2.2.2.2.1 (fun s14 r15 h => ?_)
        refine r_if_ne hE 104 dX13_read_g3.2.2.2.2.2.2.1 (by decide) h (fun h => ?_) (fun h => ?_)
        · exact km_read_104 hE hm hF _ h
        · refine r_aload_n hE 0 dX13_read_g3.2.2.2.2.2.2.2.1 rfl rfl ?_
          refine m_callVv hE hm [] [] mc_readMacro (km_readMacro hm.2.2.2.2.2.2.2.2 h) (by decide) rfl rfl (Nat.le_of_ble_eq_true rfl) dX13_read_g3.2.2.2.2.2.2.2.2.1 (fun s16 h => ?_)
          refine r_goto hE 71 dX13_read_g3.2.2.2.2.2.2.2.2.2.1 (by decide) ?_
          exact ih _ h
def wm_read_33 (post : MS → Int32 → Prop) : Nat → MS → Int32 → Prop
  | 0, _, _ => False
  | n + 1, σ, v1 => (((26 : Int32) ≤ v1) → (wm_scan (fun (s17 : MS) => ∃ k : Nat, wm_read_71 post k s17) σ (0 : Int32))) ∧ ((¬ ((26 : Int32) ≤ v1)) → (vp_in v1 26 ∧ (∀ s18 : MS, s18 = m_nameMany_s σ v1.toNatClampNeg (0 : Int32) → vp_in v1 26 ∧ (∀ s19 : MS, s19 = m_paramMany_s s18 v1.toNatClampNeg (0 : Int32) → vp_in v1 26 ∧ (∀ s20 : MS, s20 = m_bodyOf_s s19 v1.toNatClampNeg (-1 : Int32) → ∀ x21 : Int32, x21 = v1 + (1 : Int32) → wm_read_33 post n s20 x21)))))
set_option maxRecDepth 20000 in
theorem km_read_33 {E : gEnv} {l : Launch} {D : va_G} {cl : List vw_C} {G : gAd} {post : MS → Int32 → Prop} (hE : gOK E cX13_read RX13 (some .int) 16) (hm : mOK E l D cl G (qI post) 2) (hF : gFin E) : ∀ (n : Nat) (σ : MS) (v1 : Int32), wm_read_33 post n σ v1 → GW E (mW G σ) 33 [(0, .ref (G.1 0)), (1, .int v1)] [] := by
  intro n
  induction n with
  | zero => intro σ v1 h; exact h.elim
  | succ n ih =>
    intro σ v1 h
    rw [wm_read_33] at h
    have hN := hm.2.2.2.2.2.2.1
    refine r_iload_n hE 1 dX13_read_g1.2.2.2.2.1 rfl rfl ?_
    refine r_bipush (v := (26 : Int32)) hE dX13_read_g1.2.2.2.2.2.1 (by decide) ?_
    refine r_icmp_ge hE 66 dX13_read_g1.2.2.2.2.2.2.1 (by decide) h (fun h => ?_) (fun h => ?_)
    · refine r_aload_n hE 0 dX13_read_g2.2.2.2.2.2.2.2.2.1 rfl rfl ?_
      refine r_iconst (v := (0 : Int32)) hE dX13_read_g2.2.2.2.2.2.2.2.2.2.1 (by decide) ?_
      refine m_callVv hE hm [.int (0 : Int32)] [] mc_scan (km_scan hm.2.2.2.2.2.2.2.2 h) (by decide) rfl rfl (Nat.le_of_ble_eq_true rfl) dX13_read_g2.2.2.2.2.2.2.2.2.2.2.1 (fun s17 h => ?_)
      refine r_pick [0] rfl ?_
      obtain ⟨k, h⟩ := h
      exact km_read_71 hE hm hF k _ h
    · refine r_aload_n hE 0 dX13_read_g1.2.2.2.2.2.2.2.1 rfl rfl ?_
      refine mg_nameMany hE hm dX13_read_g1.2.2.2.2.2.2.2.2.1 ?_
      refine r_iload_n hE 1 dX13_read_g1.2.2.2.2.2.2.2.2.2.1 rfl rfl ?_
      refine r_iconst (v := (0 : Int32)) hE dX13_read_g1.2.2.2.2.2.2.2.2.2.2.1 (by decide) ?_
      obtain ⟨hi, h⟩ := h
      refine ms_nameMany hE hm dX13_read_g1.2.2.2.2.2.2.2.2.2.2.2.1 hi h (fun s18 h => ?_)
      refine r_aload_n hE 0 dX13_read_g1.2.2.2.2.2.2.2.2.2.2.2.2.1 rfl rfl ?_
      refine mg_paramMany hE hm dX13_read_g1.2.2.2.2.2.2.2.2.2.2.2.2.2.1 ?_
      refine r_iload_n hE 1 dX13_read_g1.2.2.2.2.2.2.2.2.2.2.2.2.2.2.1 rfl rfl ?_
      refine r_iconst (v := (0 : Int32)) hE dX13_read_g1.2.2.2.2.2.2.2.2.2.2.2.2.2.2.2 (by decide) ?_
      obtain ⟨hi, h⟩ := h
      refine ms_paramMany hE hm dX13_read_g2.1 hi h (fun s19 h => ?_)
      refine r_aload_n hE 0 dX13_read_g2.2.1 rfl rfl ?_
      refine mg_bodyOf hE hm dX13_read_g2.2.2.1 ?_
      refine r_iload_n hE 1 dX13_read_g2.2.2.2.1 rfl rfl ?_
      refine r_iconst (v := (-1 : Int32)) hE dX13_read_g2.2.2.2.2.1 (by decide) ?_
      obtain ⟨hi, h⟩ := h
      refine ms_bodyOf hE hm dX13_read_g2.2.2.2.2.2.1 hi h (fun s20 h => ?_)
      obtain ⟨x21, ex21⟩ : ∃ z : Int32, z = v1 + (1 : Int32) := ⟨_, rfl⟩
      have h := h x21 ex21
      refine r_iinc (v := x21) hE [(1, .int x21), (0, .ref (G.1 0))] 1 dX13_read_g2.2.2.2.2.2.2.1 rfl (by rw [ex21]; rfl) hN (by decide) rfl ?_
      refine r_goto hE 33 dX13_read_g2.2.2.2.2.2.2.2.1 (by decide) ?_
      refine r_pick [1, 0] rfl ?_
      exact ih _ _ h
def wm_read (post : MS → Int32 → Prop) (σ : MS) : Prop := ∀ s22 : MS, s22 = m_code_s σ (0 : Int32) → ∀ s23 : MS, s23 = m_fault_s s22 (0 : Int32) → ∀ s24 : MS, s24 = m_readNodes_s s23 (0 : Int32) → ∀ s25 : MS, s25 = m_readDeeds_s s24 (0 : Int32) → ∀ s26 : MS, s26 = m_readMacros_s s25 (0 : Int32) → ∀ s27 : MS, s27 = m_deep_s s26 (0 : Int32) → ∃ k : Nat, wm_read_33 post k s27 (13 : Int32)
set_option maxRecDepth 20000 in
theorem km_read {l : Launch} {D : va_G} {cl : List vw_C} {G : gAd} {post : MS → Int32 → Prop} (hcl : mC cl) {σ : MS} (h : wm_read post σ) : mMet l D cl G yX13_read cX13_read 2 (some .int) 16 [.ref (G.1 0)] σ (qI post) := by
  unfold wm_read at h
  refine m_enter hcl (by decide +kernel) rfl [(0, .ref (G.1 0))] rfl (Nat.le_of_ble_eq_true rfl) ?_
  intro E hE hm hF
  have hN := hm.2.2.2.2.2.2.1
  refine r_aload_n hE 0 dX13_read_g0.1 rfl rfl ?_
  refine r_iconst (v := (0 : Int32)) hE dX13_read_g0.2.1 (by decide) ?_
  refine mp_code hE hm dX13_read_g0.2.2.1 h (fun s22 h => ?_)
  refine r_aload_n hE 0 dX13_read_g0.2.2.2.1 rfl rfl ?_
  refine r_iconst (v := (0 : Int32)) hE dX13_read_g0.2.2.2.2.1 (by decide) ?_
  refine mp_fault hE hm dX13_read_g0.2.2.2.2.2.1 h (fun s23 h => ?_)
  refine r_aload_n hE 0 dX13_read_g0.2.2.2.2.2.2.1 rfl rfl ?_
  refine r_iconst (v := (0 : Int32)) hE dX13_read_g0.2.2.2.2.2.2.2.1 (by decide) ?_
  refine mp_readNodes hE hm dX13_read_g0.2.2.2.2.2.2.2.2.1 h (fun s24 h => ?_)
  refine r_aload_n hE 0 dX13_read_g0.2.2.2.2.2.2.2.2.2.1 rfl rfl ?_
  refine r_iconst (v := (0 : Int32)) hE dX13_read_g0.2.2.2.2.2.2.2.2.2.2.1 (by decide) ?_
  refine mp_readDeeds hE hm dX13_read_g0.2.2.2.2.2.2.2.2.2.2.2.1 h (fun s25 h => ?_)
  refine r_aload_n hE 0 dX13_read_g0.2.2.2.2.2.2.2.2.2.2.2.2.1 rfl rfl ?_
  refine r_iconst (v := (0 : Int32)) hE dX13_read_g0.2.2.2.2.2.2.2.2.2.2.2.2.2.1 (by decide) ?_
  refine mp_readMacros hE hm dX13_read_g0.2.2.2.2.2.2.2.2.2.2.2.2.2.2.1 h (fun s26 h => ?_)
  refine r_aload_n hE 0 dX13_read_g0.2.2.2.2.2.2.2.2.2.2.2.2.2.2.2 rfl rfl ?_
  refine r_iconst (v := (0 : Int32)) hE dX13_read_g1.1 (by decide) ?_
  refine mp_deep hE hm dX13_read_g1.2.1 h (fun s27 h => ?_)
  refine r_bipush (v := (13 : Int32)) hE dX13_read_g1.2.2.1 (by decide) ?_
  refine r_istore_n hE [(1, .int (13 : Int32)), (0, .ref (G.1 0))] dX13_read_g1.2.2.2.1 rfl hN (by decide) rfl ?_
  refine r_pick [1, 0] rfl ?_
  obtain ⟨k, h⟩ := h
  exact km_read_33 hE hm hF k _ _ h
/-! place -/
def wm_place (post : MS → Int32 → Prop) (σ : MS) : Prop := ∀ s1 : MS, s1 = m_code_s σ (0 : Int32) → post s1 (m_placed s1)
set_option maxRecDepth 20000 in
theorem km_place {l : Launch} {D : va_G} {cl : List vw_C} {G : gAd} {post : MS → Int32 → Prop} (hcl : mC cl) {σ : MS} (h : wm_place post σ) : mMet l D cl G yX13_place cX13_place 1 (some .int) 1 [.ref (G.1 0)] σ (qI post) := by
  unfold wm_place at h
  refine m_enter hcl (by decide +kernel) rfl [(0, .ref (G.1 0))] rfl (Nat.le_of_ble_eq_true rfl) ?_
  intro E hE hm hF
  have hN := hm.2.2.2.2.2.2.1
  refine r_aload_n hE 0 dX13_place_g0.1 rfl rfl ?_
  refine r_iconst (v := (0 : Int32)) hE dX13_place_g0.2.1 (by decide) ?_
  refine mp_code hE hm dX13_place_g0.2.2.1 h (fun s1 h => ?_)
  refine r_aload_n hE 0 dX13_place_g0.2.2.2.1 rfl rfl ?_
  refine mg_placed hE hm dX13_place_g0.2.2.2.2.1 ?_
  exact m_iret hE hm hF dX13_place_g0.2.2.2.2.2 h
/-! measure -/
def wm_measure_17 (post : MS → Int64 → Prop) : Nat → MS → Int64 → Int64 → Prop
  | 0, _, _, _ => False
  | n + 1, σ, v4, v6 => (((lg_cmp v6 (0 : Int64)) = (0 : Int32)) → (post σ v4)) ∧ ((¬ ((lg_cmp v6 (0 : Int64)) = (0 : Int32))) → (¬ v6 = 0 ∧ (∀ x1 : Int64, x1 = v4 - v4 / v6 * v6 → wm_measure_17 post n σ v6 x1)))
set_option maxRecDepth 20000 in
theorem km_measure_17 {E : gEnv} {l : Launch} {D : va_G} {cl : List vw_C} {G : gAd} {post : MS → Int64 → Prop} (hE : gOK E cX13_measure RX13 (some .long) 1) (hm : mOK E l D cl G (qL post) 10) (hF : gFin E) : ∀ (n : Nat) (σ : MS) (v4 : Int64) (v6 : Int64), wm_measure_17 post n σ v4 v6 → GW E (mW G σ) 17 [(4, .long v4), (6, .long v6)] [] := by
  intro n
  induction n with
  | zero => intro σ v4 v6 h; exact h.elim
  | succ n ih =>
    intro σ v4 v6 h
    rw [wm_measure_17] at h
    have hN := hm.2.2.2.2.2.2.1
    refine r_lload hE 1 dX13_measure_g0.2.2.2.2.2.2.2.2.2.2.2.1 rfl ?_
    refine r_lconst (v := (0 : Int64)) hE dX13_measure_g0.2.2.2.2.2.2.2.2.2.2.2.2.1 (by decide) ?_
    refine r_lcmp hE dX13_measure_g0.2.2.2.2.2.2.2.2.2.2.2.2.2.1 ?_
    refine r_if_eq hE 42 dX13_measure_g0.2.2.2.2.2.2.2.2.2.2.2.2.2.2.1 (by decide) h (fun h => ?_) (fun h => ?_)
    · refine r_lload hE 0 dX13_measure_g1.2.2.2.2.2.2.2.2.1 rfl ?_
      exact m_lret hE hm hF dX13_measure_g1.2.2.2.2.2.2.2.2.2 h
    · refine r_lload hE 0 dX13_measure_g0.2.2.2.2.2.2.2.2.2.2.2.2.2.2.2 rfl ?_
      refine r_lload hE 1 dX13_measure_g1.1 rfl ?_
      obtain ⟨hz, h⟩ := h
      refine r_lrem hE dX13_measure_g1.2.1 hz ?_
      refine r_topl h (fun x1 ex1 h => ?_)
      refine r_lstore hE [(8, .long x1), (4, .long v4), (6, .long v6)] dX13_measure_g1.2.2.1 hN (by decide) rfl ?_
      refine r_lload hE 2 dX13_measure_g1.2.2.2.1 rfl ?_
      refine r_lstore hE [(4, .long v6), (8, .long x1), (6, .long v6)] dX13_measure_g1.2.2.2.2.1 hN (by decide) rfl ?_
      refine r_lload hE 1 dX13_measure_g1.2.2.2.2.2.1 rfl ?_
      refine r_lstore hE [(6, .long x1), (4, .long v6), (8, .long x1)] dX13_measure_g1.2.2.2.2.2.2.1 hN (by decide) rfl ?_
      refine r_goto hE 17 dX13_measure_g1.2.2.2.2.2.2.2.1 (by decide) ?_
      refine r_pick [1, 0] rfl ?_
      exact ih _ _ _ h
def wm_measure_12 (post : MS → Int64 → Prop) (σ : MS) (v2 : Int64) (t0 : Int64) : Prop := ∃ k : Nat, wm_measure_17 post k σ t0 v2
set_option maxRecDepth 20000 in
theorem km_measure_12 {E : gEnv} {l : Launch} {D : va_G} {cl : List vw_C} {G : gAd} {post : MS → Int64 → Prop} (hE : gOK E cX13_measure RX13 (some .long) 1) (hm : mOK E l D cl G (qL post) 10) (hF : gFin E) (σ : MS) (v2 : Int64) (t0 : Int64) (h : wm_measure_12 post σ v2 t0) : GW E (mW G σ) 12 [(2, .long v2)] [.long t0] := by
  unfold wm_measure_12 at h
  have hN := hm.2.2.2.2.2.2.1
  refine r_lstore hE [(4, .long t0), (2, .long v2)] dX13_measure_g0.2.2.2.2.2.2.2.2.1 hN (by decide) rfl ?_
  refine r_lload_n hE 1 dX13_measure_g0.2.2.2.2.2.2.2.2.2.1 rfl rfl ?_
  refine r_lstore hE [(6, .long v2), (4, .long t0), (2, .long v2)] dX13_measure_g0.2.2.2.2.2.2.2.2.2.2.1 hN (by decide) rfl ?_
  refine r_pick [1, 0] rfl ?_
  obtain ⟨k, h⟩ := h
  exact km_measure_17 hE hm hF k _ _ _ h
def wm_measure (post : MS → Int64 → Prop) (σ : MS) (a0 : Int64) (a2 : Int64) : Prop := (((0 : Int32) ≤ (lg_cmp a0 (0 : Int64))) → (wm_measure_12 post σ a2 a0)) ∧ ((¬ ((0 : Int32) ≤ (lg_cmp a0 (0 : Int64)))) → (wm_measure_12 post σ a2 (-a0)))
set_option maxRecDepth 20000 in
theorem km_measure {l : Launch} {D : va_G} {cl : List vw_C} {G : gAd} {post : MS → Int64 → Prop} (hcl : mC cl) {σ : MS} {a0 : Int64} {a2 : Int64} (h : wm_measure post σ a0 a2) : mMet l D cl G yX13_measure cX13_measure 10 (some .long) 1 [.long a0, .long a2] σ (qL post) := by
  unfold wm_measure at h
  refine m_enter hcl (by decide +kernel) rfl [(0, .long a0), (2, .long a2)] rfl (Nat.le_of_ble_eq_true rfl) ?_
  intro E hE hm hF
  have hN := hm.2.2.2.2.2.2.1
  refine r_lload_n hE 0 dX13_measure_g0.1 rfl rfl ?_
  refine r_lconst (v := (0 : Int64)) hE dX13_measure_g0.2.1 (by decide) ?_
  refine r_lcmp hE dX13_measure_g0.2.2.1 ?_
  refine r_if_ge hE 11 dX13_measure_g0.2.2.2.1 (by decide) h (fun h => ?_) (fun h => ?_)
  · refine r_lload_n hE 0 dX13_measure_g0.2.2.2.2.2.2.2.1 rfl rfl ?_
    refine r_pick [1] rfl ?_
    exact km_measure_12 hE hm hF _ _ _ h
  · refine r_lload_n hE 0 dX13_measure_g0.2.2.2.2.1 rfl rfl ?_
    refine r_lneg hE dX13_measure_g0.2.2.2.2.2.1 ?_
    refine r_goto hE 12 dX13_measure_g0.2.2.2.2.2.2.1 (by decide) ?_
    refine r_pick [1] rfl ?_
    exact km_measure_12 hE hm hF _ _ _ h
/-! fail -/
def wm_fail (post : MS → Prop) (σ : MS) (a1 : Int32) : Prop := ((¬ ((m_failure σ) = (0 : Int32))) → (post σ)) ∧ (((m_failure σ) = (0 : Int32)) → (∀ s1 : MS, s1 = m_failure_s σ a1 → post s1))
set_option maxRecDepth 20000 in
theorem km_fail {l : Launch} {D : va_G} {cl : List vw_C} {G : gAd} {post : MS → Prop} (hcl : mC cl) {σ : MS} {a1 : Int32} (h : wm_fail post σ a1) : mMet l D cl G yX13_fail cX13_fail 2 none 1 [.ref (G.1 0), .int a1] σ (qV post) := by
  unfold wm_fail at h
  refine m_enter hcl (by decide +kernel) rfl [(0, .ref (G.1 0)), (1, .int a1)] rfl (Nat.le_of_ble_eq_true rfl) ?_
  intro E hE hm hF
  have hN := hm.2.2.2.2.2.2.1
  refine r_aload_n hE 0 dX13_fail_g0.1 rfl rfl ?_
  refine mg_failure hE hm dX13_fail_g0.2.1 ?_
  refine r_if_ne hE 12 dX13_fail_g0.2.2.1 (by decide) h (fun h => ?_) (fun h => ?_)
  · exact m_vret hE hm hF dX13_fail_g0.2.2.2.2.2.2 h
  · refine r_aload_n hE 0 dX13_fail_g0.2.2.2.1 rfl rfl ?_
    refine r_iload_n hE 1 dX13_fail_g0.2.2.2.2.1 rfl rfl ?_
    refine mp_failure hE hm dX13_fail_g0.2.2.2.2.2.1 h (fun s1 h => ?_)
    exact m_vret hE hm hF dX13_fail_g0.2.2.2.2.2.2 h
/-! push -/
def wm_push (post : MS → Prop) (σ : MS) (a1 : Int64) (a3 : Int64) : Prop := vp_in (m_piled σ) 40 ∧ (∀ s1 : MS, s1 = m_top_s σ (m_piled σ).toNatClampNeg a1 → vp_in (m_piled s1) 40 ∧ (∀ s2 : MS, s2 = m_bottom_s s1 (m_piled s1).toNatClampNeg a3 → ∀ s3 : MS, s3 = m_piled_s s2 ((m_piled s2) + (1 : Int32)) → post s3))
set_option maxRecDepth 20000 in
theorem km_push {l : Launch} {D : va_G} {cl : List vw_C} {G : gAd} {post : MS → Prop} (hcl : mC cl) {σ : MS} {a1 : Int64} {a3 : Int64} (h : wm_push post σ a1 a3) : mMet l D cl G yX13_push cX13_push 5 none 1 [.ref (G.1 0), .long a1, .long a3] σ (qV post) := by
  unfold wm_push at h
  refine m_enter hcl (by decide +kernel) rfl [(0, .ref (G.1 0)), (1, .long a1), (3, .long a3)] rfl (Nat.le_of_ble_eq_true rfl) ?_
  intro E hE hm hF
  have hN := hm.2.2.2.2.2.2.1
  refine r_aload_n hE 0 dX13_push_g0.1 rfl rfl ?_
  refine mg_top hE hm dX13_push_g0.2.1 ?_
  refine r_aload_n hE 0 dX13_push_g0.2.2.1 rfl rfl ?_
  refine mg_piled hE hm dX13_push_g0.2.2.2.1 ?_
  refine r_lload_n hE 1 dX13_push_g0.2.2.2.2.1 rfl rfl ?_
  obtain ⟨hi, h⟩ := h
  refine ms_top hE hm dX13_push_g0.2.2.2.2.2.1 hi h (fun s1 h => ?_)
  refine r_aload_n hE 0 dX13_push_g0.2.2.2.2.2.2.1 rfl rfl ?_
  refine mg_bottom hE hm dX13_push_g0.2.2.2.2.2.2.2.1 ?_
  refine r_aload_n hE 0 dX13_push_g0.2.2.2.2.2.2.2.2.1 rfl rfl ?_
  refine mg_piled hE hm dX13_push_g0.2.2.2.2.2.2.2.2.2.1 ?_
  refine r_lload_n hE 2 dX13_push_g0.2.2.2.2.2.2.2.2.2.2.1 rfl rfl ?_
  obtain ⟨hi, h⟩ := h
  refine ms_bottom hE hm dX13_push_g0.2.2.2.2.2.2.2.2.2.2.2.1 hi h (fun s2 h => ?_)
  refine r_aload_n hE 0 dX13_push_g0.2.2.2.2.2.2.2.2.2.2.2.2.1 rfl rfl ?_
  refine r_dup hE dX13_push_g0.2.2.2.2.2.2.2.2.2.2.2.2.2.1 rfl ?_
  refine mg_piled hE hm dX13_push_g0.2.2.2.2.2.2.2.2.2.2.2.2.2.2.1 ?_
  refine r_iconst (v := (1 : Int32)) hE dX13_push_g0.2.2.2.2.2.2.2.2.2.2.2.2.2.2.2 (by decide) ?_
  refine r_iadd hE dX13_push_g1.1 ?_
  refine mp_piled hE hm dX13_push_g1.2.1 h (fun s3 h => ?_)
  exact m_vret hE hm hF dX13_push_g1.2.2 h
/-! whole -/
def wm_whole (post : MS → Prop) (σ : MS) (a1 : Int64) : Prop := wm_push (fun (s1 : MS) => post s1) σ a1 (1 : Int64)
set_option maxRecDepth 20000 in
theorem km_whole {l : Launch} {D : va_G} {cl : List vw_C} {G : gAd} {post : MS → Prop} (hcl : mC cl) {σ : MS} {a1 : Int64} (h : wm_whole post σ a1) : mMet l D cl G yX13_whole cX13_whole 3 none 2 [.ref (G.1 0), .long a1] σ (qV post) := by
  unfold wm_whole at h
  refine m_enter hcl (by decide +kernel) rfl [(0, .ref (G.1 0)), (1, .long a1)] rfl (Nat.le_of_ble_eq_true rfl) ?_
  intro E hE hm hF
  have hN := hm.2.2.2.2.2.2.1
  refine r_aload_n hE 0 dX13_whole_g0.1 rfl rfl ?_
  refine r_lload_n hE 1 dX13_whole_g0.2.1 rfl rfl ?_
  refine r_lconst (v := (1 : Int64)) hE dX13_whole_g0.2.2.1 (by decide) ?_
  refine m_callVv hE hm [.long a1, .long (1 : Int64)] [] mc_push (km_push hm.2.2.2.2.2.2.2.2 h) (by decide) rfl rfl (Nat.le_of_ble_eq_true rfl) dX13_whole_g0.2.2.2.1 (fun s1 h => ?_)
  exact m_vret hE hm hF dX13_whole_g0.2.2.2.2 h
/-! come -/
def wm_come_98 (post : MS → Prop) (σ : MS) : Prop := wm_fail (fun (s1 : MS) => wm_push (fun (s2 : MS) => post s2) s1 (0 : Int64) (1 : Int64)) σ (7 : Int32)
set_option maxRecDepth 20000 in
theorem km_come_98 {E : gEnv} {l : Launch} {D : va_G} {cl : List vw_C} {G : gAd} {post : MS → Prop} (hE : gOK E cX13_come RX13 none 2) (hm : mOK E l D cl G (qV post) 11) (hF : gFin E) (σ : MS) (h : wm_come_98 post σ) : GW E (mW G σ) 98 [(0, .ref (G.1 0))] [] := by
  unfold wm_come_98 at h
  have hN := hm.2.2.2.2.2.2.1
  refine r_aload_n hE 0 dX13_come_g3.2.2.2.2.2.2.2.2.1 rfl rfl ?_
  refine r_bipush (v := (7 : Int32)) hE dX13_come_g3.2.2.2.2.2.2.2.2.2.1 (by decide) ?_
  refine m_callVv hE hm [.int (7 : Int32)] [] mc_fail (km_fail hm.2.2.2.2.2.2.2.2 h) (by decide) rfl rfl (Nat.le_of_ble_eq_true rfl) dX13_come_g3.2.2.2.2.2.2.2.2.2.2.1 (fun s1 h => ?_)
  refine r_aload_n hE 0 dX13_come_g3.2.2.2.2.2.2.2.2.2.2.2.1 rfl rfl ?_
  refine r_lconst (v := (0 : Int64)) hE dX13_come_g3.2.2.2.2.2.2.2.2.2.2.2.2.1 (by decide) ?_
  refine r_lconst (v := (1 : Int64)) hE dX13_come_g3.2.2.2.2.2.2.2.2.2.2.2.2.2.1 (by decide) ?_
  refine m_callVv hE hm [.long (0 : Int64), .long (1 : Int64)] [] mc_push (km_push hm.2.2.2.2.2.2.2.2 h) (by decide) rfl rfl (Nat.le_of_ble_eq_true rfl) dX13_come_g3.2.2.2.2.2.2.2.2.2.2.2.2.2.2.1 (fun s2 h => ?_)
  exact m_vret hE hm hF dX13_come_g3.2.2.2.2.2.2.2.2.2.2.2.2.2.2.2 h
def wm_come_69 (post : MS → Prop) (σ : MS) (v7 : Int64) (t0 : Int64) : Prop := (((0 : Int32) < (lg_cmp v7 (1000000000 : Int64))) → (wm_come_98 post σ)) ∧ ((¬ ((0 : Int32) < (lg_cmp v7 (1000000000 : Int64)))) → ((((lg_cmp v7 (-1000000000 : Int64)) < (0 : Int32)) → (wm_come_98 post σ)) ∧ ((¬ ((lg_cmp v7 (-1000000000 : Int64)) < (0 : Int32))) → ((((lg_cmp t0 (1000000000 : Int64)) ≤ (0 : Int32)) → (wm_push (fun (s3 : MS) => post s3) σ v7 t0)) ∧ ((¬ ((lg_cmp t0 (1000000000 : Int64)) ≤ (0 : Int32))) → (wm_come_98 post σ))))))
set_option maxRecDepth 20000 in
theorem km_come_69 {E : gEnv} {l : Launch} {D : va_G} {cl : List vw_C} {G : gAd} {post : MS → Prop} (hE : gOK E cX13_come RX13 none 2) (hm : mOK E l D cl G (qV post) 11) (hF : gFin E) (σ : MS) (v7 : Int64) (t0 : Int64) (h : wm_come_69 post σ v7 t0) : GW E (mW G σ) 69 [(0, .ref (G.1 0)), (7, .long v7)] [.long t0] := by
  unfold wm_come_69 at h
  have hN := hm.2.2.2.2.2.2.1
  refine r_lstore hE [(9, .long t0), (0, .ref (G.1 0)), (7, .long v7)] dX13_come_g2.2.2.2.2.2.2.2.2.2.2.2.1 hN (by decide) rfl ?_
  refine r_lload hE 2 dX13_come_g2.2.2.2.2.2.2.2.2.2.2.2.2.1 rfl ?_
  refine r_ldc2 (v := (1000000000 : Int64)) hE dX13_come_g2.2.2.2.2.2.2.2.2.2.2.2.2.2.1 (gTb_10 (List.mem_of_getElem? (i := 4) rfl) rfl) ?_
  refine r_lcmp hE dX13_come_g2.2.2.2.2.2.2.2.2.2.2.2.2.2.2.1 ?_
  refine r_if_gt hE 98 dX13_come_g2.2.2.2.2.2.2.2.2.2.2.2.2.2.2.2 (by decide) h (fun h => ?_) (fun h => ?_)
  · refine r_pick [1] rfl ?_
    exact km_come_98 hE hm hF _ h
  · refine r_lload hE 2 dX13_come_g3.1 rfl ?_
    refine r_ldc2 (v := (-1000000000 : Int64)) hE dX13_come_g3.2.1 (gTb_10 (List.mem_of_getElem? (i := 5) rfl) rfl) ?_
    refine r_lcmp hE dX13_come_g3.2.2.1 ?_
    refine r_if_lt hE 98 dX13_come_g3.2.2.2.1 (by decide) h (fun h => ?_) (fun h => ?_)
    · refine r_pick [1] rfl ?_
      exact km_come_98 hE hm hF _ h
    · refine r_lload hE 0 dX13_come_g3.2.2.2.2.1 rfl ?_
      refine r_ldc2 (v := (1000000000 : Int64)) hE dX13_come_g3.2.2.2.2.2.1 (gTb_10 (List.mem_of_getElem? (i := 4) rfl) rfl) ?_
      refine r_lcmp hE dX13_come_g3.2.2.2.2.2.2.1 ?_
      refine r_if_le hE 111 dX13_come_g3.2.2.2.2.2.2.2.1 (by decide) h (fun h => ?_) (fun h => ?_)
      · refine r_aload_n hE 1 dX13_come_g4.1 rfl rfl ?_
        refine r_lload hE 2 dX13_come_g4.2.1 rfl ?_
        refine r_lload hE 0 dX13_come_g4.2.2.1 rfl ?_
        refine m_callVv hE hm [.long v7, .long t0] [] mc_push (km_push hm.2.2.2.2.2.2.2.2 h) (by decide) rfl rfl (Nat.le_of_ble_eq_true rfl) dX13_come_g4.2.2.2.1 (fun s3 h => ?_)
        exact m_vret hE hm hF dX13_come_g4.2.2.2.2 h
      · refine r_pick [1] rfl ?_
        exact km_come_98 hE hm hF _ h
def wm_come_49 (post : MS → Prop) (σ : MS) (v3 : Int64) (v5 : Int64) (t0 : Int64) : Prop := (((0 : Int32) ≤ (lg_cmp v3 (0 : Int64))) → (¬ v5 = 0 ∧ (wm_come_69 post σ t0 (v3 / v5)))) ∧ ((¬ ((0 : Int32) ≤ (lg_cmp v3 (0 : Int64)))) → (¬ v5 = 0 ∧ (wm_come_69 post σ t0 ((-v3) / v5))))
set_option maxRecDepth 20000 in
theorem km_come_49 {E : gEnv} {l : Launch} {D : va_G} {cl : List vw_C} {G : gAd} {post : MS → Prop} (hE : gOK E cX13_come RX13 none 2) (hm : mOK E l D cl G (qV post) 11) (hF : gFin E) (σ : MS) (v3 : Int64) (v5 : Int64) (t0 : Int64) (h : wm_come_49 post σ v3 v5 t0) : GW E (mW G σ) 49 [(0, .ref (G.1 0)), (3, .long v3), (5, .long v5)] [.long t0] := by
  unfold wm_come_49 at h
  have hN := hm.2.2.2.2.2.2.1
  refine r_lstore hE [(7, .long t0), (0, .ref (G.1 0)), (3, .long v3), (5, .long v5)] dX13_come_g1.2.2.2.2.2.2.2.2.2.2.2.2.2.2.1 hN (by decide) rfl ?_
  refine r_lload_n hE 2 dX13_come_g1.2.2.2.2.2.2.2.2.2.2.2.2.2.2.2 rfl rfl ?_
  refine r_lconst (v := (0 : Int64)) hE dX13_come_g2.1 (by decide) ?_
  refine r_lcmp hE dX13_come_g2.2.1 ?_
  refine r_if_ge hE 65 dX13_come_g2.2.2.1 (by decide) h (fun h => ?_) (fun h => ?_)
  · refine r_lload_n hE 2 dX13_come_g2.2.2.2.2.2.2.2.2.1 rfl rfl ?_
    refine r_lload hE 3 dX13_come_g2.2.2.2.2.2.2.2.2.2.1 rfl ?_
    obtain ⟨hz, h⟩ := h
    refine r_ldiv hE dX13_come_g2.2.2.2.2.2.2.2.2.2.2.1 hz ?_
    refine r_pick [1, 0] rfl ?_
    exact km_come_69 hE hm hF _ _ _ h
  · refine r_lload_n hE 2 dX13_come_g2.2.2.2.1 rfl rfl ?_
    refine r_lneg hE dX13_come_g2.2.2.2.2.1 ?_
    refine r_lload hE 3 dX13_come_g2.2.2.2.2.2.1 rfl ?_
    obtain ⟨hz, h⟩ := h
    refine r_ldiv hE dX13_come_g2.2.2.2.2.2.2.1 hz ?_
    refine r_goto hE 69 dX13_come_g2.2.2.2.2.2.2.2.1 (by decide) ?_
    refine r_pick [1, 0] rfl ?_
    exact km_come_69 hE hm hF _ _ _ h
def wm_come (post : MS → Prop) (σ : MS) (a1 : Int64) (a3 : Int64) : Prop := ∀ s4 : MS, s4 = m_piled_s σ ((m_piled σ) - (2 : Int32)) → (((m_failure s4) ≤ (0 : Int32)) → (wm_measure (fun (s5 : MS) (r6 : Int64) => (((0 : Int32) ≤ (lg_cmp a3 (0 : Int64))) → (¬ r6 = 0 ∧ (wm_come_49 post s5 a3 r6 (a1 / r6)))) ∧ ((¬ ((0 : Int32) ≤ (lg_cmp a3 (0 : Int64)))) → (¬ r6 = 0 ∧ (wm_come_49 post s5 a3 r6 ((-a1) / r6))))) s4 a1 a3)) ∧ ((¬ ((m_failure s4) ≤ (0 : Int32))) → (wm_push (fun (s7 : MS) => post s7) s4 (0 : Int64) (1 : Int64)))
set_option maxRecDepth 20000 in
theorem km_come {l : Launch} {D : va_G} {cl : List vw_C} {G : gAd} {post : MS → Prop} (hcl : mC cl) {σ : MS} {a1 : Int64} {a3 : Int64} (h : wm_come post σ a1 a3) : mMet l D cl G yX13_come cX13_come 11 none 2 [.ref (G.1 0), .long a1, .long a3] σ (qV post) := by
  unfold wm_come at h
  refine m_enter hcl (by decide +kernel) rfl [(0, .ref (G.1 0)), (1, .long a1), (3, .long a3)] rfl (Nat.le_of_ble_eq_true rfl) ?_
  intro E hE hm hF
  have hN := hm.2.2.2.2.2.2.1
  refine r_aload_n hE 0 dX13_come_g0.1 rfl rfl ?_
  refine r_dup hE dX13_come_g0.2.1 rfl ?_
  refine mg_piled hE hm dX13_come_g0.2.2.1 ?_
  refine r_iconst (v := (2 : Int32)) hE dX13_come_g0.2.2.2.1 (by decide) ?_
  refine r_isub hE dX13_come_g0.2.2.2.2.1 ?_
  refine mp_piled hE hm dX13_come_g0.2.2.2.2.2.1 h (fun s4 h => ?_)
  refine r_aload_n hE 0 dX13_come_g0.2.2.2.2.2.2.1 rfl rfl ?_
  refine mg_failure hE hm dX13_come_g0.2.2.2.2.2.2.2.1 ?_
  refine r_if_le hE 24 dX13_come_g0.2.2.2.2.2.2.2.2.1 (by decide) h (fun h => ?_) (fun h => ?_)
  · refine r_lload_n hE 1 dX13_come_g0.2.2.2.2.2.2.2.2.2.2.2.2.2.2.1 rfl rfl ?_
    refine r_lload_n hE 2 dX13_come_g0.2.2.2.2.2.2.2.2.2.2.2.2.2.2.2 rfl rfl ?_
    refine m_callSl hE hm [.long a1, .long a3] [] mc_measure (km_measure hm.2.2.2.2.2.2.2.2 h) (by decide) rfl rfl (Nat.le_of_ble_eq_true rfl) dX13_come_g1.1 (fun s5 r6 h => ?_)
    refine r_lstore hE [(5, .long r6), (0, .ref (G.1 0)), (1, .long a1), (3, .long a3)] dX13_come_g1.2.1 hN (by decide) rfl ?_
    refine r_lload_n hE 3 dX13_come_g1.2.2.1 rfl rfl ?_
    refine r_lconst (v := (0 : Int64)) hE dX13_come_g1.2.2.2.1 (by decide) ?_
    refine r_lcmp hE dX13_come_g1.2.2.2.2.1 ?_
    refine r_if_ge hE 45 dX13_come_g1.2.2.2.2.2.1 (by decide) h (fun h => ?_) (fun h => ?_)
    · refine r_lload_n hE 2 dX13_come_g1.2.2.2.2.2.2.2.2.2.2.2.1 rfl rfl ?_
      refine r_lload hE 0 dX13_come_g1.2.2.2.2.2.2.2.2.2.2.2.2.1 rfl ?_
      obtain ⟨hz, h⟩ := h
      refine r_ldiv hE dX13_come_g1.2.2.2.2.2.2.2.2.2.2.2.2.2.1 hz ?_
      refine r_pick [1, 3, 0] rfl ?_
      exact km_come_49 hE hm hF _ _ _ _ h
    · refine r_lload_n hE 2 dX13_come_g1.2.2.2.2.2.2.1 rfl rfl ?_
      refine r_lneg hE dX13_come_g1.2.2.2.2.2.2.2.1 ?_
      refine r_lload hE 0 dX13_come_g1.2.2.2.2.2.2.2.2.1 rfl ?_
      obtain ⟨hz, h⟩ := h
      refine r_ldiv hE dX13_come_g1.2.2.2.2.2.2.2.2.2.1 hz ?_
      refine r_goto hE 49 dX13_come_g1.2.2.2.2.2.2.2.2.2.2.1 (by decide) ?_
      refine r_pick [1, 3, 0] rfl ?_
      exact km_come_49 hE hm hF _ _ _ _ h
  · refine r_aload_n hE 0 dX13_come_g0.2.2.2.2.2.2.2.2.2.1 rfl rfl ?_
    refine r_lconst (v := (0 : Int64)) hE dX13_come_g0.2.2.2.2.2.2.2.2.2.2.1 (by decide) ?_
    refine r_lconst (v := (1 : Int64)) hE dX13_come_g0.2.2.2.2.2.2.2.2.2.2.2.1 (by decide) ?_
    refine m_callVv hE hm [.long (0 : Int64), .long (1 : Int64)] [] mc_push (km_push hm.2.2.2.2.2.2.2.2 h) (by decide) rfl rfl (Nat.le_of_ble_eq_true rfl) dX13_come_g0.2.2.2.2.2.2.2.2.2.2.2.2.1 (fun s7 h => ?_)
    exact m_vret hE hm hF dX13_come_g0.2.2.2.2.2.2.2.2.2.2.2.2.2.1 h
/-! plus -/
def wm_plus (post : MS → Prop) (σ : MS) : Prop := ∀ x1 : Int32, x1 = (m_piled σ) - (2 : Int32) → vp_in x1 40 ∧ (vp_in (x1 + (1 : Int32)) 40 ∧ (vp_in (x1 + (1 : Int32)) 40 ∧ (vp_in x1 40 ∧ (vp_in x1 40 ∧ (vp_in (x1 + (1 : Int32)) 40 ∧ (wm_come (fun (s2 : MS) => post s2) σ (((m_top σ x1.toNatClampNeg) * (m_bottom σ (x1 + (1 : Int32)).toNatClampNeg)) + ((m_top σ (x1 + (1 : Int32)).toNatClampNeg) * (m_bottom σ x1.toNatClampNeg))) ((m_bottom σ x1.toNatClampNeg) * (m_bottom σ (x1 + (1 : Int32)).toNatClampNeg))))))))
set_option maxRecDepth 20000 in
theorem km_plus {l : Launch} {D : va_G} {cl : List vw_C} {G : gAd} {post : MS → Prop} (hcl : mC cl) {σ : MS} (h : wm_plus post σ) : mMet l D cl G yX13_plus cX13_plus 2 none 3 [.ref (G.1 0)] σ (qV post) := by
  unfold wm_plus at h
  refine m_enter hcl (by decide +kernel) rfl [(0, .ref (G.1 0))] rfl (Nat.le_of_ble_eq_true rfl) ?_
  intro E hE hm hF
  have hN := hm.2.2.2.2.2.2.1
  refine r_aload_n hE 0 dX13_plus_g0.1 rfl rfl ?_
  refine mg_piled hE hm dX13_plus_g0.2.1 ?_
  refine r_iconst (v := (2 : Int32)) hE dX13_plus_g0.2.2.1 (by decide) ?_
  refine r_isub hE dX13_plus_g0.2.2.2.1 ?_
  refine r_topi h (fun x1 ex1 h => ?_)
  refine r_istore_n hE [(1, .int x1), (0, .ref (G.1 0))] dX13_plus_g0.2.2.2.2.1 rfl hN (by decide) rfl ?_
  refine r_aload_n hE 1 dX13_plus_g0.2.2.2.2.2.1 rfl rfl ?_
  refine r_aload_n hE 1 dX13_plus_g0.2.2.2.2.2.2.1 rfl rfl ?_
  refine mg_top hE hm dX13_plus_g0.2.2.2.2.2.2.2.1 ?_
  refine r_iload_n hE 0 dX13_plus_g0.2.2.2.2.2.2.2.2.1 rfl rfl ?_
  obtain ⟨hi, h⟩ := h
  refine ml_top hE hm dX13_plus_g0.2.2.2.2.2.2.2.2.2.1 hi ?_
  refine r_aload_n hE 1 dX13_plus_g0.2.2.2.2.2.2.2.2.2.2.1 rfl rfl ?_
  refine mg_bottom hE hm dX13_plus_g0.2.2.2.2.2.2.2.2.2.2.2.1 ?_
  refine r_iload_n hE 0 dX13_plus_g0.2.2.2.2.2.2.2.2.2.2.2.2.1 rfl rfl ?_
  refine r_iconst (v := (1 : Int32)) hE dX13_plus_g0.2.2.2.2.2.2.2.2.2.2.2.2.2.1 (by decide) ?_
  refine r_iadd hE dX13_plus_g0.2.2.2.2.2.2.2.2.2.2.2.2.2.2.1 ?_
  obtain ⟨hi, h⟩ := h
  refine ml_bottom hE hm dX13_plus_g0.2.2.2.2.2.2.2.2.2.2.2.2.2.2.2 hi ?_
  refine r_lmul hE dX13_plus_g1.1 ?_
  refine r_aload_n hE 1 dX13_plus_g1.2.1 rfl rfl ?_
  refine mg_top hE hm dX13_plus_g1.2.2.1 ?_
  refine r_iload_n hE 0 dX13_plus_g1.2.2.2.1 rfl rfl ?_
  refine r_iconst (v := (1 : Int32)) hE dX13_plus_g1.2.2.2.2.1 (by decide) ?_
  refine r_iadd hE dX13_plus_g1.2.2.2.2.2.1 ?_
  obtain ⟨hi, h⟩ := h
  refine ml_top hE hm dX13_plus_g1.2.2.2.2.2.2.1 hi ?_
  refine r_aload_n hE 1 dX13_plus_g1.2.2.2.2.2.2.2.1 rfl rfl ?_
  refine mg_bottom hE hm dX13_plus_g1.2.2.2.2.2.2.2.2.1 ?_
  refine r_iload_n hE 0 dX13_plus_g1.2.2.2.2.2.2.2.2.2.1 rfl rfl ?_
  obtain ⟨hi, h⟩ := h
  refine ml_bottom hE hm dX13_plus_g1.2.2.2.2.2.2.2.2.2.2.1 hi ?_
  refine r_lmul hE dX13_plus_g1.2.2.2.2.2.2.2.2.2.2.2.1 ?_
  refine r_ladd hE dX13_plus_g1.2.2.2.2.2.2.2.2.2.2.2.2.1 ?_
  refine r_aload_n hE 1 dX13_plus_g1.2.2.2.2.2.2.2.2.2.2.2.2.2.1 rfl rfl ?_
  refine mg_bottom hE hm dX13_plus_g1.2.2.2.2.2.2.2.2.2.2.2.2.2.2.1 ?_
  refine r_iload_n hE 0 dX13_plus_g1.2.2.2.2.2.2.2.2.2.2.2.2.2.2.2 rfl rfl ?_
  obtain ⟨hi, h⟩ := h
  refine ml_bottom hE hm dX13_plus_g2.1 hi ?_
  refine r_aload_n hE 1 dX13_plus_g2.2.1 rfl rfl ?_
  refine mg_bottom hE hm dX13_plus_g2.2.2.1 ?_
  refine r_iload_n hE 0 dX13_plus_g2.2.2.2.1 rfl rfl ?_
  refine r_iconst (v := (1 : Int32)) hE dX13_plus_g2.2.2.2.2.1 (by decide) ?_
  refine r_iadd hE dX13_plus_g2.2.2.2.2.2.1 ?_
  obtain ⟨hi, h⟩ := h
  refine ml_bottom hE hm dX13_plus_g2.2.2.2.2.2.2.1 hi ?_
  refine r_lmul hE dX13_plus_g2.2.2.2.2.2.2.2.1 ?_
  refine m_callVv hE hm [.long (((m_top σ x1.toNatClampNeg) * (m_bottom σ (x1 + (1 : Int32)).toNatClampNeg)) + ((m_top σ (x1 + (1 : Int32)).toNatClampNeg) * (m_bottom σ x1.toNatClampNeg))), .long ((m_bottom σ x1.toNatClampNeg) * (m_bottom σ (x1 + (1 : Int32)).toNatClampNeg))] [] mc_come (km_come hm.2.2.2.2.2.2.2.2 h) (by decide) rfl rfl (Nat.le_of_ble_eq_true rfl) dX13_plus_g2.2.2.2.2.2.2.2.2.1 (fun s2 h => ?_)
  exact m_vret hE hm hF dX13_plus_g2.2.2.2.2.2.2.2.2.2 h
/-! less -/
def wm_less (post : MS → Prop) (σ : MS) : Prop := ∀ x1 : Int32, x1 = (m_piled σ) - (2 : Int32) → vp_in x1 40 ∧ (vp_in (x1 + (1 : Int32)) 40 ∧ (vp_in (x1 + (1 : Int32)) 40 ∧ (vp_in x1 40 ∧ (vp_in x1 40 ∧ (vp_in (x1 + (1 : Int32)) 40 ∧ (wm_come (fun (s2 : MS) => post s2) σ (((m_top σ x1.toNatClampNeg) * (m_bottom σ (x1 + (1 : Int32)).toNatClampNeg)) - ((m_top σ (x1 + (1 : Int32)).toNatClampNeg) * (m_bottom σ x1.toNatClampNeg))) ((m_bottom σ x1.toNatClampNeg) * (m_bottom σ (x1 + (1 : Int32)).toNatClampNeg))))))))
set_option maxRecDepth 20000 in
theorem km_less {l : Launch} {D : va_G} {cl : List vw_C} {G : gAd} {post : MS → Prop} (hcl : mC cl) {σ : MS} (h : wm_less post σ) : mMet l D cl G yX13_less cX13_less 2 none 3 [.ref (G.1 0)] σ (qV post) := by
  unfold wm_less at h
  refine m_enter hcl (by decide +kernel) rfl [(0, .ref (G.1 0))] rfl (Nat.le_of_ble_eq_true rfl) ?_
  intro E hE hm hF
  have hN := hm.2.2.2.2.2.2.1
  refine r_aload_n hE 0 dX13_less_g0.1 rfl rfl ?_
  refine mg_piled hE hm dX13_less_g0.2.1 ?_
  refine r_iconst (v := (2 : Int32)) hE dX13_less_g0.2.2.1 (by decide) ?_
  refine r_isub hE dX13_less_g0.2.2.2.1 ?_
  refine r_topi h (fun x1 ex1 h => ?_)
  refine r_istore_n hE [(1, .int x1), (0, .ref (G.1 0))] dX13_less_g0.2.2.2.2.1 rfl hN (by decide) rfl ?_
  refine r_aload_n hE 1 dX13_less_g0.2.2.2.2.2.1 rfl rfl ?_
  refine r_aload_n hE 1 dX13_less_g0.2.2.2.2.2.2.1 rfl rfl ?_
  refine mg_top hE hm dX13_less_g0.2.2.2.2.2.2.2.1 ?_
  refine r_iload_n hE 0 dX13_less_g0.2.2.2.2.2.2.2.2.1 rfl rfl ?_
  obtain ⟨hi, h⟩ := h
  refine ml_top hE hm dX13_less_g0.2.2.2.2.2.2.2.2.2.1 hi ?_
  refine r_aload_n hE 1 dX13_less_g0.2.2.2.2.2.2.2.2.2.2.1 rfl rfl ?_
  refine mg_bottom hE hm dX13_less_g0.2.2.2.2.2.2.2.2.2.2.2.1 ?_
  refine r_iload_n hE 0 dX13_less_g0.2.2.2.2.2.2.2.2.2.2.2.2.1 rfl rfl ?_
  refine r_iconst (v := (1 : Int32)) hE dX13_less_g0.2.2.2.2.2.2.2.2.2.2.2.2.2.1 (by decide) ?_
  refine r_iadd hE dX13_less_g0.2.2.2.2.2.2.2.2.2.2.2.2.2.2.1 ?_
  obtain ⟨hi, h⟩ := h
  refine ml_bottom hE hm dX13_less_g0.2.2.2.2.2.2.2.2.2.2.2.2.2.2.2 hi ?_
  refine r_lmul hE dX13_less_g1.1 ?_
  refine r_aload_n hE 1 dX13_less_g1.2.1 rfl rfl ?_
  refine mg_top hE hm dX13_less_g1.2.2.1 ?_
  refine r_iload_n hE 0 dX13_less_g1.2.2.2.1 rfl rfl ?_
  refine r_iconst (v := (1 : Int32)) hE dX13_less_g1.2.2.2.2.1 (by decide) ?_
  refine r_iadd hE dX13_less_g1.2.2.2.2.2.1 ?_
  obtain ⟨hi, h⟩ := h
  refine ml_top hE hm dX13_less_g1.2.2.2.2.2.2.1 hi ?_
  refine r_aload_n hE 1 dX13_less_g1.2.2.2.2.2.2.2.1 rfl rfl ?_
  refine mg_bottom hE hm dX13_less_g1.2.2.2.2.2.2.2.2.1 ?_
  refine r_iload_n hE 0 dX13_less_g1.2.2.2.2.2.2.2.2.2.1 rfl rfl ?_
  obtain ⟨hi, h⟩ := h
  refine ml_bottom hE hm dX13_less_g1.2.2.2.2.2.2.2.2.2.2.1 hi ?_
  refine r_lmul hE dX13_less_g1.2.2.2.2.2.2.2.2.2.2.2.1 ?_
  refine r_lsub hE dX13_less_g1.2.2.2.2.2.2.2.2.2.2.2.2.1 ?_
  refine r_aload_n hE 1 dX13_less_g1.2.2.2.2.2.2.2.2.2.2.2.2.2.1 rfl rfl ?_
  refine mg_bottom hE hm dX13_less_g1.2.2.2.2.2.2.2.2.2.2.2.2.2.2.1 ?_
  refine r_iload_n hE 0 dX13_less_g1.2.2.2.2.2.2.2.2.2.2.2.2.2.2.2 rfl rfl ?_
  obtain ⟨hi, h⟩ := h
  refine ml_bottom hE hm dX13_less_g2.1 hi ?_
  refine r_aload_n hE 1 dX13_less_g2.2.1 rfl rfl ?_
  refine mg_bottom hE hm dX13_less_g2.2.2.1 ?_
  refine r_iload_n hE 0 dX13_less_g2.2.2.2.1 rfl rfl ?_
  refine r_iconst (v := (1 : Int32)) hE dX13_less_g2.2.2.2.2.1 (by decide) ?_
  refine r_iadd hE dX13_less_g2.2.2.2.2.2.1 ?_
  obtain ⟨hi, h⟩ := h
  refine ml_bottom hE hm dX13_less_g2.2.2.2.2.2.2.1 hi ?_
  refine r_lmul hE dX13_less_g2.2.2.2.2.2.2.2.1 ?_
  refine m_callVv hE hm [.long (((m_top σ x1.toNatClampNeg) * (m_bottom σ (x1 + (1 : Int32)).toNatClampNeg)) - ((m_top σ (x1 + (1 : Int32)).toNatClampNeg) * (m_bottom σ x1.toNatClampNeg))), .long ((m_bottom σ x1.toNatClampNeg) * (m_bottom σ (x1 + (1 : Int32)).toNatClampNeg))] [] mc_come (km_come hm.2.2.2.2.2.2.2.2 h) (by decide) rfl rfl (Nat.le_of_ble_eq_true rfl) dX13_less_g2.2.2.2.2.2.2.2.2.1 (fun s2 h => ?_)
  exact m_vret hE hm hF dX13_less_g2.2.2.2.2.2.2.2.2.2 h
/-! times -/
def wm_times (post : MS → Prop) (σ : MS) : Prop := ∀ x1 : Int32, x1 = (m_piled σ) - (2 : Int32) → vp_in x1 40 ∧ (vp_in (x1 + (1 : Int32)) 40 ∧ (vp_in x1 40 ∧ (vp_in (x1 + (1 : Int32)) 40 ∧ (wm_come (fun (s2 : MS) => post s2) σ ((m_top σ x1.toNatClampNeg) * (m_top σ (x1 + (1 : Int32)).toNatClampNeg)) ((m_bottom σ x1.toNatClampNeg) * (m_bottom σ (x1 + (1 : Int32)).toNatClampNeg))))))
set_option maxRecDepth 20000 in
theorem km_times {l : Launch} {D : va_G} {cl : List vw_C} {G : gAd} {post : MS → Prop} (hcl : mC cl) {σ : MS} (h : wm_times post σ) : mMet l D cl G yX13_times cX13_times 2 none 3 [.ref (G.1 0)] σ (qV post) := by
  unfold wm_times at h
  refine m_enter hcl (by decide +kernel) rfl [(0, .ref (G.1 0))] rfl (Nat.le_of_ble_eq_true rfl) ?_
  intro E hE hm hF
  have hN := hm.2.2.2.2.2.2.1
  refine r_aload_n hE 0 dX13_times_g0.1 rfl rfl ?_
  refine mg_piled hE hm dX13_times_g0.2.1 ?_
  refine r_iconst (v := (2 : Int32)) hE dX13_times_g0.2.2.1 (by decide) ?_
  refine r_isub hE dX13_times_g0.2.2.2.1 ?_
  refine r_topi h (fun x1 ex1 h => ?_)
  refine r_istore_n hE [(1, .int x1), (0, .ref (G.1 0))] dX13_times_g0.2.2.2.2.1 rfl hN (by decide) rfl ?_
  refine r_aload_n hE 1 dX13_times_g0.2.2.2.2.2.1 rfl rfl ?_
  refine r_aload_n hE 1 dX13_times_g0.2.2.2.2.2.2.1 rfl rfl ?_
  refine mg_top hE hm dX13_times_g0.2.2.2.2.2.2.2.1 ?_
  refine r_iload_n hE 0 dX13_times_g0.2.2.2.2.2.2.2.2.1 rfl rfl ?_
  obtain ⟨hi, h⟩ := h
  refine ml_top hE hm dX13_times_g0.2.2.2.2.2.2.2.2.2.1 hi ?_
  refine r_aload_n hE 1 dX13_times_g0.2.2.2.2.2.2.2.2.2.2.1 rfl rfl ?_
  refine mg_top hE hm dX13_times_g0.2.2.2.2.2.2.2.2.2.2.2.1 ?_
  refine r_iload_n hE 0 dX13_times_g0.2.2.2.2.2.2.2.2.2.2.2.2.1 rfl rfl ?_
  refine r_iconst (v := (1 : Int32)) hE dX13_times_g0.2.2.2.2.2.2.2.2.2.2.2.2.2.1 (by decide) ?_
  refine r_iadd hE dX13_times_g0.2.2.2.2.2.2.2.2.2.2.2.2.2.2.1 ?_
  obtain ⟨hi, h⟩ := h
  refine ml_top hE hm dX13_times_g0.2.2.2.2.2.2.2.2.2.2.2.2.2.2.2 hi ?_
  refine r_lmul hE dX13_times_g1.1 ?_
  refine r_aload_n hE 1 dX13_times_g1.2.1 rfl rfl ?_
  refine mg_bottom hE hm dX13_times_g1.2.2.1 ?_
  refine r_iload_n hE 0 dX13_times_g1.2.2.2.1 rfl rfl ?_
  obtain ⟨hi, h⟩ := h
  refine ml_bottom hE hm dX13_times_g1.2.2.2.2.1 hi ?_
  refine r_aload_n hE 1 dX13_times_g1.2.2.2.2.2.1 rfl rfl ?_
  refine mg_bottom hE hm dX13_times_g1.2.2.2.2.2.2.1 ?_
  refine r_iload_n hE 0 dX13_times_g1.2.2.2.2.2.2.2.1 rfl rfl ?_
  refine r_iconst (v := (1 : Int32)) hE dX13_times_g1.2.2.2.2.2.2.2.2.1 (by decide) ?_
  refine r_iadd hE dX13_times_g1.2.2.2.2.2.2.2.2.2.1 ?_
  obtain ⟨hi, h⟩ := h
  refine ml_bottom hE hm dX13_times_g1.2.2.2.2.2.2.2.2.2.2.1 hi ?_
  refine r_lmul hE dX13_times_g1.2.2.2.2.2.2.2.2.2.2.2.1 ?_
  refine m_callVv hE hm [.long ((m_top σ x1.toNatClampNeg) * (m_top σ (x1 + (1 : Int32)).toNatClampNeg)), .long ((m_bottom σ x1.toNatClampNeg) * (m_bottom σ (x1 + (1 : Int32)).toNatClampNeg))] [] mc_come (km_come hm.2.2.2.2.2.2.2.2 h) (by decide) rfl rfl (Nat.le_of_ble_eq_true rfl) dX13_times_g1.2.2.2.2.2.2.2.2.2.2.2.2.1 (fun s2 h => ?_)
  exact m_vret hE hm hF dX13_times_g1.2.2.2.2.2.2.2.2.2.2.2.2.2 h
/-! by -/
def wm_by_108 (post : MS → Prop) (σ : MS) (t1 : Int64) (t2 : Int64) : Prop := wm_come (fun (s1 : MS) => post s1) σ t1 t2
set_option maxRecDepth 20000 in
theorem km_by_108 {E : gEnv} {l : Launch} {D : va_G} {cl : List vw_C} {G : gAd} {post : MS → Prop} (hE : gOK E cX13_by RX13 none 3) (hm : mOK E l D cl G (qV post) 7) (hF : gFin E) (σ : MS) (t1 : Int64) (t2 : Int64) (h : wm_by_108 post σ t1 t2) : GW E (mW G σ) 108 [] [.long t2, .long t1, .ref (G.1 0)] := by
  unfold wm_by_108 at h
  have hN := hm.2.2.2.2.2.2.1
  refine m_callVv hE hm [.long t1, .long t2] [] mc_come (km_come hm.2.2.2.2.2.2.2.2 h) (by decide) rfl rfl (Nat.le_of_ble_eq_true rfl) dX13_by_g4.2.2.2.2.2.2.2.2.1 (fun s1 h => ?_)
  exact m_vret hE hm hF dX13_by_g4.2.2.2.2.2.2.2.2.2 h
def wm_by_96 (post : MS → Prop) (σ : MS) (v2 : Int32) (v5 : Int64) (t1 : Int64) : Prop := ((v2 = (0 : Int32)) → (wm_by_108 post σ t1 v5)) ∧ ((¬ (v2 = (0 : Int32))) → (wm_by_108 post σ t1 (-v5)))
set_option maxRecDepth 20000 in
theorem km_by_96 {E : gEnv} {l : Launch} {D : va_G} {cl : List vw_C} {G : gAd} {post : MS → Prop} (hE : gOK E cX13_by RX13 none 3) (hm : mOK E l D cl G (qV post) 7) (hF : gFin E) (σ : MS) (v2 : Int32) (v5 : Int64) (t1 : Int64) (h : wm_by_96 post σ v2 v5 t1) : GW E (mW G σ) 96 [(2, .int v2), (5, .long v5)] [.long t1, .ref (G.1 0)] := by
  unfold wm_by_96 at h
  have hN := hm.2.2.2.2.2.2.1
  refine r_iload_n hE 0 dX13_by_g4.2.2.1 rfl rfl ?_
  refine r_if_eq hE 106 dX13_by_g4.2.2.2.1 (by decide) h (fun h => ?_) (fun h => ?_)
  · refine r_lload hE 1 dX13_by_g4.2.2.2.2.2.2.2.1 rfl ?_
    refine r_pick [] rfl ?_
    exact km_by_108 hE hm hF _ _ _ h
  · refine r_lload hE 1 dX13_by_g4.2.2.2.2.1 rfl ?_
    refine r_lneg hE dX13_by_g4.2.2.2.2.2.1 ?_
    refine r_goto hE 108 dX13_by_g4.2.2.2.2.2.2.1 (by decide) ?_
    refine r_pick [] rfl ?_
    exact km_by_108 hE hm hF _ _ _ h
def wm_by_51 (post : MS → Prop) (σ : MS) (v1 : Int32) (t0 : Int32) : Prop := vp_in v1 40 ∧ (vp_in (v1 + (1 : Int32)) 40 ∧ (∀ x2 : Int64, x2 = (m_top σ v1.toNatClampNeg) * (m_bottom σ (v1 + (1 : Int32)).toNatClampNeg) → vp_in v1 40 ∧ (vp_in (v1 + (1 : Int32)) 40 ∧ (∀ x3 : Int64, x3 = (m_bottom σ v1.toNatClampNeg) * (m_top σ (v1 + (1 : Int32)).toNatClampNeg) → ((t0 = (0 : Int32)) → (wm_by_96 post σ t0 x3 x2)) ∧ ((¬ (t0 = (0 : Int32))) → (wm_by_96 post σ t0 x3 (-x2)))))))
set_option maxRecDepth 20000 in
theorem km_by_51 {E : gEnv} {l : Launch} {D : va_G} {cl : List vw_C} {G : gAd} {post : MS → Prop} (hE : gOK E cX13_by RX13 none 3) (hm : mOK E l D cl G (qV post) 7) (hF : gFin E) (σ : MS) (v1 : Int32) (t0 : Int32) (h : wm_by_51 post σ v1 t0) : GW E (mW G σ) 51 [(0, .ref (G.1 0)), (1, .int v1)] [.int t0] := by
  unfold wm_by_51 at h
  have hN := hm.2.2.2.2.2.2.1
  refine r_istore_n hE [(2, .int t0), (0, .ref (G.1 0)), (1, .int v1)] dX13_by_g2.2.2.1 rfl hN (by decide) rfl ?_
  refine r_aload_n hE 1 dX13_by_g2.2.2.2.1 rfl rfl ?_
  refine mg_top hE hm dX13_by_g2.2.2.2.2.1 ?_
  refine r_iload_n hE 2 dX13_by_g2.2.2.2.2.2.1 rfl rfl ?_
  obtain ⟨hi, h⟩ := h
  refine ml_top hE hm dX13_by_g2.2.2.2.2.2.2.1 hi ?_
  refine r_aload_n hE 1 dX13_by_g2.2.2.2.2.2.2.2.1 rfl rfl ?_
  refine mg_bottom hE hm dX13_by_g2.2.2.2.2.2.2.2.2.1 ?_
  refine r_iload_n hE 2 dX13_by_g2.2.2.2.2.2.2.2.2.2.1 rfl rfl ?_
  refine r_iconst (v := (1 : Int32)) hE dX13_by_g2.2.2.2.2.2.2.2.2.2.2.1 (by decide) ?_
  refine r_iadd hE dX13_by_g2.2.2.2.2.2.2.2.2.2.2.2.1 ?_
  obtain ⟨hi, h⟩ := h
  refine ml_bottom hE hm dX13_by_g2.2.2.2.2.2.2.2.2.2.2.2.2.1 hi ?_
  refine r_lmul hE dX13_by_g2.2.2.2.2.2.2.2.2.2.2.2.2.2.1 ?_
  refine r_topl h (fun x2 ex2 h => ?_)
  refine r_lstore_n hE [(3, .long x2), (2, .int t0), (0, .ref (G.1 0)), (1, .int v1)] dX13_by_g2.2.2.2.2.2.2.2.2.2.2.2.2.2.2.1 rfl hN (by decide) rfl ?_
  refine r_aload_n hE 2 dX13_by_g2.2.2.2.2.2.2.2.2.2.2.2.2.2.2.2 rfl rfl ?_
  refine mg_bottom hE hm dX13_by_g3.1 ?_
  refine r_iload_n hE 3 dX13_by_g3.2.1 rfl rfl ?_
  obtain ⟨hi, h⟩ := h
  refine ml_bottom hE hm dX13_by_g3.2.2.1 hi ?_
  refine r_aload_n hE 2 dX13_by_g3.2.2.2.1 rfl rfl ?_
  refine mg_top hE hm dX13_by_g3.2.2.2.2.1 ?_
  refine r_iload_n hE 3 dX13_by_g3.2.2.2.2.2.1 rfl rfl ?_
  refine r_iconst (v := (1 : Int32)) hE dX13_by_g3.2.2.2.2.2.2.1 (by decide) ?_
  refine r_iadd hE dX13_by_g3.2.2.2.2.2.2.2.1 ?_
  obtain ⟨hi, h⟩ := h
  refine ml_top hE hm dX13_by_g3.2.2.2.2.2.2.2.2.1 hi ?_
  refine r_lmul hE dX13_by_g3.2.2.2.2.2.2.2.2.2.1 ?_
  refine r_topl h (fun x3 ex3 h => ?_)
  refine r_lstore hE [(5, .long x3), (3, .long x2), (2, .int t0), (0, .ref (G.1 0)), (1, .int v1)] dX13_by_g3.2.2.2.2.2.2.2.2.2.2.1 hN (by decide) rfl ?_
  refine r_aload_n hE 3 dX13_by_g3.2.2.2.2.2.2.2.2.2.2.2.1 rfl rfl ?_
  refine r_iload_n hE 2 dX13_by_g3.2.2.2.2.2.2.2.2.2.2.2.2.1 rfl rfl ?_
  refine r_if_eq hE 95 dX13_by_g3.2.2.2.2.2.2.2.2.2.2.2.2.2.1 (by decide) h (fun h => ?_) (fun h => ?_)
  · refine r_lload_n hE 1 dX13_by_g4.2.1 rfl rfl ?_
    refine r_pick [2, 0] rfl ?_
    exact km_by_96 hE hm hF _ _ _ _ h
  · refine r_lload_n hE 1 dX13_by_g3.2.2.2.2.2.2.2.2.2.2.2.2.2.2.1 rfl rfl ?_
    refine r_lneg hE dX13_by_g3.2.2.2.2.2.2.2.2.2.2.2.2.2.2.2 ?_
    refine r_goto hE 96 dX13_by_g4.1 (by decide) ?_
    refine r_pick [2, 0] rfl ?_
    exact km_by_96 hE hm hF _ _ _ _ h
def wm_by (post : MS → Prop) (σ : MS) : Prop := ∀ x4 : Int32, x4 = (m_piled σ) - (2 : Int32) → vp_in (x4 + (1 : Int32)) 40 ∧ (((¬ ((lg_cmp (m_top σ (x4 + (1 : Int32)).toNatClampNeg) (0 : Int64)) = (0 : Int32))) → (vp_in (x4 + (1 : Int32)) 40 ∧ ((((0 : Int32) ≤ (lg_cmp (m_top σ (x4 + (1 : Int32)).toNatClampNeg) (0 : Int64))) → (wm_by_51 post σ x4 (0 : Int32))) ∧ ((¬ ((0 : Int32) ≤ (lg_cmp (m_top σ (x4 + (1 : Int32)).toNatClampNeg) (0 : Int64)))) → (wm_by_51 post σ x4 (1 : Int32)))))) ∧ (((lg_cmp (m_top σ (x4 + (1 : Int32)).toNatClampNeg) (0 : Int64)) = (0 : Int32)) → (wm_fail (fun (s5 : MS) => wm_come (fun (s6 : MS) => post s6) s5 (0 : Int64) (1 : Int64)) σ (6 : Int32))))
set_option maxRecDepth 20000 in
theorem km_by {l : Launch} {D : va_G} {cl : List vw_C} {G : gAd} {post : MS → Prop} (hcl : mC cl) {σ : MS} (h : wm_by post σ) : mMet l D cl G yX13_by cX13_by 7 none 3 [.ref (G.1 0)] σ (qV post) := by
  unfold wm_by at h
  refine m_enter hcl (by decide +kernel) rfl [(0, .ref (G.1 0))] rfl (Nat.le_of_ble_eq_true rfl) ?_
  intro E hE hm hF
  have hN := hm.2.2.2.2.2.2.1
  refine r_aload_n hE 0 dX13_by_g0.1 rfl rfl ?_
  refine mg_piled hE hm dX13_by_g0.2.1 ?_
  refine r_iconst (v := (2 : Int32)) hE dX13_by_g0.2.2.1 (by decide) ?_
  refine r_isub hE dX13_by_g0.2.2.2.1 ?_
  refine r_topi h (fun x4 ex4 h => ?_)
  refine r_istore_n hE [(1, .int x4), (0, .ref (G.1 0))] dX13_by_g0.2.2.2.2.1 rfl hN (by decide) rfl ?_
  refine r_aload_n hE 1 dX13_by_g0.2.2.2.2.2.1 rfl rfl ?_
  refine mg_top hE hm dX13_by_g0.2.2.2.2.2.2.1 ?_
  refine r_iload_n hE 0 dX13_by_g0.2.2.2.2.2.2.2.1 rfl rfl ?_
  refine r_iconst (v := (1 : Int32)) hE dX13_by_g0.2.2.2.2.2.2.2.2.1 (by decide) ?_
  refine r_iadd hE dX13_by_g0.2.2.2.2.2.2.2.2.2.1 ?_
  obtain ⟨hi, h⟩ := h
  refine ml_top hE hm dX13_by_g0.2.2.2.2.2.2.2.2.2.2.1 hi ?_
  refine r_lconst (v := (0 : Int64)) hE dX13_by_g0.2.2.2.2.2.2.2.2.2.2.2.1 (by decide) ?_
  refine r_lcmp hE dX13_by_g0.2.2.2.2.2.2.2.2.2.2.2.2.1 ?_
  refine r_if_ne hE 33 dX13_by_g0.2.2.2.2.2.2.2.2.2.2.2.2.2.1 (by decide) h (fun h => ?_) (fun h => ?_)
  · refine r_aload_n hE 1 dX13_by_g1.2.2.2.2.2.2.1 rfl rfl ?_
    refine mg_top hE hm dX13_by_g1.2.2.2.2.2.2.2.1 ?_
    refine r_iload_n hE 0 dX13_by_g1.2.2.2.2.2.2.2.2.1 rfl rfl ?_
    refine r_iconst (v := (1 : Int32)) hE dX13_by_g1.2.2.2.2.2.2.2.2.2.1 (by decide) ?_
    refine r_iadd hE dX13_by_g1.2.2.2.2.2.2.2.2.2.2.1 ?_
    obtain ⟨hi, h⟩ := h
    refine ml_top hE hm dX13_by_g1.2.2.2.2.2.2.2.2.2.2.2.1 hi ?_
    refine r_lconst (v := (0 : Int64)) hE dX13_by_g1.2.2.2.2.2.2.2.2.2.2.2.2.1 (by decide) ?_
    refine r_lcmp hE dX13_by_g1.2.2.2.2.2.2.2.2.2.2.2.2.2.1 ?_
    refine r_if_ge hE 50 dX13_by_g1.2.2.2.2.2.2.2.2.2.2.2.2.2.2.1 (by decide) h (fun h => ?_) (fun h => ?_)
    · refine r_iconst (v := (0 : Int32)) hE dX13_by_g2.2.1 (by decide) ?_
      refine r_pick [1, 0] rfl ?_
      exact km_by_51 hE hm hF _ _ _ h
    · refine r_iconst (v := (1 : Int32)) hE dX13_by_g1.2.2.2.2.2.2.2.2.2.2.2.2.2.2.2 (by decide) ?_
      refine r_goto hE 51 dX13_by_g2.1 (by decide) ?_
      refine r_pick [1, 0] rfl ?_
      exact km_by_51 hE hm hF _ _ _ h
  · refine r_aload_n hE 1 dX13_by_g0.2.2.2.2.2.2.2.2.2.2.2.2.2.2.1 rfl rfl ?_
    refine r_bipush (v := (6 : Int32)) hE dX13_by_g0.2.2.2.2.2.2.2.2.2.2.2.2.2.2.2 (by decide) ?_
    refine m_callVv hE hm [.int (6 : Int32)] [] mc_fail (km_fail hm.2.2.2.2.2.2.2.2 h) (by decide) rfl rfl (Nat.le_of_ble_eq_true rfl) dX13_by_g1.1 (fun s5 h => ?_)
    refine r_aload_n hE 1 dX13_by_g1.2.1 rfl rfl ?_
    refine r_lconst (v := (0 : Int64)) hE dX13_by_g1.2.2.1 (by decide) ?_
    refine r_lconst (v := (1 : Int64)) hE dX13_by_g1.2.2.2.1 (by decide) ?_
    refine m_callVv hE hm [.long (0 : Int64), .long (1 : Int64)] [] mc_come (km_come hm.2.2.2.2.2.2.2.2 h) (by decide) rfl rfl (Nat.le_of_ble_eq_true rfl) dX13_by_g1.2.2.2.2.1 (fun s6 h => ?_)
    exact m_vret hE hm hF dX13_by_g1.2.2.2.2.2.1 h
/-! negative -/
def wm_negative (post : MS → Prop) (σ : MS) : Prop := vp_in ((m_piled σ) - (1 : Int32)) 40 ∧ (vp_in ((m_piled σ) - (1 : Int32)) 40 ∧ (∀ s1 : MS, s1 = m_top_s σ ((m_piled σ) - (1 : Int32)).toNatClampNeg (-(m_top σ ((m_piled σ) - (1 : Int32)).toNatClampNeg)) → post s1))
set_option maxRecDepth 20000 in
theorem km_negative {l : Launch} {D : va_G} {cl : List vw_C} {G : gAd} {post : MS → Prop} (hcl : mC cl) {σ : MS} (h : wm_negative post σ) : mMet l D cl G yX13_negative cX13_negative 1 none 1 [.ref (G.1 0)] σ (qV post) := by
  unfold wm_negative at h
  refine m_enter hcl (by decide +kernel) rfl [(0, .ref (G.1 0))] rfl (Nat.le_of_ble_eq_true rfl) ?_
  intro E hE hm hF
  have hN := hm.2.2.2.2.2.2.1
  refine r_aload_n hE 0 dX13_negative_g0.1 rfl rfl ?_
  refine mg_top hE hm dX13_negative_g0.2.1 ?_
  refine r_aload_n hE 0 dX13_negative_g0.2.2.1 rfl rfl ?_
  refine mg_piled hE hm dX13_negative_g0.2.2.2.1 ?_
  refine r_iconst (v := (1 : Int32)) hE dX13_negative_g0.2.2.2.2.1 (by decide) ?_
  refine r_isub hE dX13_negative_g0.2.2.2.2.2.1 ?_
  refine r_aload_n hE 0 dX13_negative_g0.2.2.2.2.2.2.1 rfl rfl ?_
  refine mg_top hE hm dX13_negative_g0.2.2.2.2.2.2.2.1 ?_
  refine r_aload_n hE 0 dX13_negative_g0.2.2.2.2.2.2.2.2.1 rfl rfl ?_
  refine mg_piled hE hm dX13_negative_g0.2.2.2.2.2.2.2.2.2.1 ?_
  refine r_iconst (v := (1 : Int32)) hE dX13_negative_g0.2.2.2.2.2.2.2.2.2.2.1 (by decide) ?_
  refine r_isub hE dX13_negative_g0.2.2.2.2.2.2.2.2.2.2.2.1 ?_
  obtain ⟨hi, h⟩ := h
  refine ml_top hE hm dX13_negative_g0.2.2.2.2.2.2.2.2.2.2.2.2.1 hi ?_
  refine r_lneg hE dX13_negative_g0.2.2.2.2.2.2.2.2.2.2.2.2.2.1 ?_
  obtain ⟨hi, h⟩ := h
  refine ms_top hE hm dX13_negative_g0.2.2.2.2.2.2.2.2.2.2.2.2.2.2.1 hi h (fun s1 h => ?_)
  exact m_vret hE hm hF dX13_negative_g0.2.2.2.2.2.2.2.2.2.2.2.2.2.2.2 h
/-! compare -/
def wm_compare (post : MS → Int32 → Prop) (σ : MS) (a0 : Int64) (a2 : Int64) (a4 : Int64) (a6 : Int64) : Prop := ∀ x1 : Int64, x1 = a0 * a6 → ∀ x2 : Int64, x2 = a4 * a2 → (((0 : Int32) ≤ (lg_cmp x1 x2)) → ((((lg_cmp x1 x2) ≤ (0 : Int32)) → (post σ (0 : Int32))) ∧ ((¬ ((lg_cmp x1 x2) ≤ (0 : Int32))) → (post σ (1 : Int32))))) ∧ ((¬ ((0 : Int32) ≤ (lg_cmp x1 x2))) → (post σ (-1 : Int32)))
set_option maxRecDepth 20000 in
theorem km_compare {l : Launch} {D : va_G} {cl : List vw_C} {G : gAd} {post : MS → Int32 → Prop} (hcl : mC cl) {σ : MS} {a0 : Int64} {a2 : Int64} {a4 : Int64} {a6 : Int64} (h : wm_compare post σ a0 a2 a4 a6) : mMet l D cl G yX13_compare cX13_compare 12 (some .int) 1 [.long a0, .long a2, .long a4, .long a6] σ (qI post) := by
  unfold wm_compare at h
  refine m_enter hcl (by decide +kernel) rfl [(0, .long a0), (2, .long a2), (4, .long a4), (6, .long a6)] rfl (Nat.le_of_ble_eq_true rfl) ?_
  intro E hE hm hF
  have hN := hm.2.2.2.2.2.2.1
  refine r_lload_n hE 0 dX13_compare_g0.1 rfl rfl ?_
  refine r_lload hE 3 dX13_compare_g0.2.1 rfl ?_
  refine r_lmul hE dX13_compare_g0.2.2.1 ?_
  refine r_topl h (fun x1 ex1 h => ?_)
  refine r_lstore hE [(8, .long x1), (0, .long a0), (2, .long a2), (4, .long a4), (6, .long a6)] dX13_compare_g0.2.2.2.1 hN (by decide) rfl ?_
  refine r_lload hE 3 dX13_compare_g0.2.2.2.2.1 rfl ?_
  refine r_lload_n hE 2 dX13_compare_g0.2.2.2.2.2.1 rfl rfl ?_
  refine r_lmul hE dX13_compare_g0.2.2.2.2.2.2.1 ?_
  refine r_topl h (fun x2 ex2 h => ?_)
  refine r_lstore hE [(10, .long x2), (8, .long x1), (0, .long a0), (2, .long a2), (4, .long a4), (6, .long a6)] dX13_compare_g0.2.2.2.2.2.2.2.1 hN (by decide) rfl ?_
  refine r_lload hE 1 dX13_compare_g0.2.2.2.2.2.2.2.2.1 rfl ?_
  refine r_lload hE 0 dX13_compare_g0.2.2.2.2.2.2.2.2.2.1 rfl ?_
  refine r_lcmp hE dX13_compare_g0.2.2.2.2.2.2.2.2.2.2.1 ?_
  refine r_if_ge hE 24 dX13_compare_g0.2.2.2.2.2.2.2.2.2.2.2.1 (by decide) h (fun h => ?_) (fun h => ?_)
  · refine r_lload hE 1 dX13_compare_g0.2.2.2.2.2.2.2.2.2.2.2.2.2.2.1 rfl ?_
    refine r_lload hE 0 dX13_compare_g0.2.2.2.2.2.2.2.2.2.2.2.2.2.2.2 rfl ?_
    refine r_lcmp hE dX13_compare_g1.1 ?_
    refine r_if_le hE 36 dX13_compare_g1.2.1 (by decide) h (fun h => ?_) (fun h => ?_)
    · refine r_iconst (v := (0 : Int32)) hE dX13_compare_g1.2.2.2.2.1 (by decide) ?_
      exact m_iret hE hm hF dX13_compare_g1.2.2.2.2.2 h
    · refine r_iconst (v := (1 : Int32)) hE dX13_compare_g1.2.2.1 (by decide) ?_
      refine r_goto hE 37 dX13_compare_g1.2.2.2.1 (by decide) ?_
      exact m_iret hE hm hF dX13_compare_g1.2.2.2.2.2 h
  · refine r_iconst (v := (-1 : Int32)) hE dX13_compare_g0.2.2.2.2.2.2.2.2.2.2.2.2.1 (by decide) ?_
    refine r_goto hE 37 dX13_compare_g0.2.2.2.2.2.2.2.2.2.2.2.2.2.1 (by decide) ?_
    exact m_iret hE hm hF dX13_compare_g1.2.2.2.2.2 h
/-! newThing -/
def wm_newThing_22 (post : MS → Int32 → Prop) : Nat → MS → Int32 → Prop
  | 0, _, _ => False
  | n + 1, σ, v2 => (((7 : Int32) ≤ v2) → (∀ s1 : MS, s1 = m_things_s σ ((m_things σ) + (1 : Int32)) → post s1 ((m_things s1) - (1 : Int32)))) ∧ ((¬ ((7 : Int32) ≤ v2)) → (vp_in (((7 : Int32) * (m_things σ)) + v2) 3360 ∧ (∀ s2 : MS, s2 = m_up_s σ (((7 : Int32) * (m_things σ)) + v2).toNatClampNeg (0 : Int64) → vp_in (((7 : Int32) * (m_things s2)) + v2) 3360 ∧ (∀ s3 : MS, s3 = m_low_s s2 (((7 : Int32) * (m_things s2)) + v2).toNatClampNeg (1 : Int64) → ∀ x4 : Int32, x4 = v2 + (1 : Int32) → wm_newThing_22 post n s3 x4))))
set_option maxRecDepth 20000 in
theorem km_newThing_22 {E : gEnv} {l : Launch} {D : va_G} {cl : List vw_C} {G : gAd} {post : MS → Int32 → Prop} (hE : gOK E cX13_newThing RX13 (some .int) 1) (hm : mOK E l D cl G (qI post) 3) (hF : gFin E) : ∀ (n : Nat) (σ : MS) (v2 : Int32), wm_newThing_22 post n σ v2 → GW E (mW G σ) 22 [(0, .ref (G.1 0)), (2, .int v2)] [] := by
  intro n
  induction n with
  | zero => intro σ v2 h; exact h.elim
  | succ n ih =>
    intro σ v2 h
    rw [wm_newThing_22] at h
    have hN := hm.2.2.2.2.2.2.1
    refine r_iload_n hE 1 dX13_newThing_g0.2.2.2.2.2.2.2.2.2.2.2.2.2.2.1 rfl rfl ?_
    refine r_bipush (v := (7 : Int32)) hE dX13_newThing_g0.2.2.2.2.2.2.2.2.2.2.2.2.2.2.2 (by decide) ?_
    refine r_icmp_ge hE 64 dX13_newThing_g1.1 (by decide) h (fun h => ?_) (fun h => ?_)
    · refine r_aload_n hE 0 dX13_newThing_g2.2.2.2.2.2.2.2.1 rfl rfl ?_
      refine r_dup hE dX13_newThing_g2.2.2.2.2.2.2.2.2.1 rfl ?_
      refine mg_things hE hm dX13_newThing_g2.2.2.2.2.2.2.2.2.2.1 ?_
      refine r_iconst (v := (1 : Int32)) hE dX13_newThing_g2.2.2.2.2.2.2.2.2.2.2.1 (by decide) ?_
      refine r_iadd hE dX13_newThing_g2.2.2.2.2.2.2.2.2.2.2.2.1 ?_
      refine mp_things hE hm dX13_newThing_g2.2.2.2.2.2.2.2.2.2.2.2.2.1 h (fun s1 h => ?_)
      refine r_aload_n hE 0 dX13_newThing_g2.2.2.2.2.2.2.2.2.2.2.2.2.2.1 rfl rfl ?_
      refine mg_things hE hm dX13_newThing_g2.2.2.2.2.2.2.2.2.2.2.2.2.2.2.1 ?_
      refine r_iconst (v := (1 : Int32)) hE dX13_newThing_g2.2.2.2.2.2.2.2.2.2.2.2.2.2.2.2 (by decide) ?_
      refine r_isub hE dX13_newThing_g3.1 ?_
      exact m_iret hE hm hF dX13_newThing_g3.2 h
    · refine r_aload_n hE 0 dX13_newThing_g1.2.1 rfl rfl ?_
      refine mg_up hE hm dX13_newThing_g1.2.2.1 ?_
      refine r_bipush (v := (7 : Int32)) hE dX13_newThing_g1.2.2.2.1 (by decide) ?_
      refine r_aload_n hE 0 dX13_newThing_g1.2.2.2.2.1 rfl rfl ?_
      refine mg_things hE hm dX13_newThing_g1.2.2.2.2.2.1 ?_
      refine r_imul hE dX13_newThing_g1.2.2.2.2.2.2.1 ?_
      refine r_iload_n hE 1 dX13_newThing_g1.2.2.2.2.2.2.2.1 rfl rfl ?_
      refine r_iadd hE dX13_newThing_g1.2.2.2.2.2.2.2.2.1 ?_
      refine r_lconst (v := (0 : Int64)) hE dX13_newThing_g1.2.2.2.2.2.2.2.2.2.1 (by decide) ?_
      obtain ⟨hi, h⟩ := h
      refine ms_up hE hm dX13_newThing_g1.2.2.2.2.2.2.2.2.2.2.1 hi h (fun s2 h => ?_)
      refine r_aload_n hE 0 dX13_newThing_g1.2.2.2.2.2.2.2.2.2.2.2.1 rfl rfl ?_
      refine mg_low hE hm dX13_newThing_g1.2.2.2.2.2.2.2.2.2.2.2.2.1 ?_
      refine r_bipush (v := (7 : Int32)) hE dX13_newThing_g1.2.2.2.2.2.2.2.2.2.2.2.2.2.1 (by decide) ?_
      refine r_aload_n hE 0 dX13_newThing_g1.2.2.2.2.2.2.2.2.2.2.2.2.2.2.1 rfl rfl ?_
      refine mg_things hE hm dX13_newThing_g1.2.2.2.2.2.2.2.2.2.2.2.2.2.2.2 ?_
      refine r_imul hE dX13_newThing_g2.1 ?_
      refine r_iload_n hE 1 dX13_newThing_g2.2.1 rfl rfl ?_
      refine r_iadd hE dX13_newThing_g2.2.2.1 ?_
      refine r_lconst (v := (1 : Int64)) hE dX13_newThing_g2.2.2.2.1 (by decide) ?_
      obtain ⟨hi, h⟩ := h
      refine ms_low hE hm dX13_newThing_g2.2.2.2.2.1 hi h (fun s3 h => ?_)
      obtain ⟨x4, ex4⟩ : ∃ z : Int32, z = v2 + (1 : Int32) := ⟨_, rfl⟩
      have h := h x4 ex4
      refine r_iinc (v := x4) hE [(2, .int x4), (0, .ref (G.1 0))] 1 dX13_newThing_g2.2.2.2.2.2.1 rfl (by rw [ex4]; rfl) hN (by decide) rfl ?_
      refine r_goto hE 22 dX13_newThing_g2.2.2.2.2.2.2.1 (by decide) ?_
      refine r_pick [1, 0] rfl ?_
      exact ih _ _ h
def wm_newThing (post : MS → Int32 → Prop) (σ : MS) (a1 : Int32) : Prop := vp_in (m_things σ) 480 ∧ (∀ s5 : MS, s5 = m_sort_s σ (m_things σ).toNatClampNeg a1 → vp_in (m_things s5) 480 ∧ (∀ s6 : MS, s6 = m_lean_s s5 (m_things s5).toNatClampNeg (0 : Int32) → ∃ k : Nat, wm_newThing_22 post k s6 (0 : Int32)))
set_option maxRecDepth 20000 in
theorem km_newThing {l : Launch} {D : va_G} {cl : List vw_C} {G : gAd} {post : MS → Int32 → Prop} (hcl : mC cl) {σ : MS} {a1 : Int32} (h : wm_newThing post σ a1) : mMet l D cl G yX13_newThing cX13_newThing 3 (some .int) 1 [.ref (G.1 0), .int a1] σ (qI post) := by
  unfold wm_newThing at h
  refine m_enter hcl (by decide +kernel) rfl [(0, .ref (G.1 0)), (1, .int a1)] rfl (Nat.le_of_ble_eq_true rfl) ?_
  intro E hE hm hF
  have hN := hm.2.2.2.2.2.2.1
  refine r_aload_n hE 0 dX13_newThing_g0.1 rfl rfl ?_
  refine mg_sort hE hm dX13_newThing_g0.2.1 ?_
  refine r_aload_n hE 0 dX13_newThing_g0.2.2.1 rfl rfl ?_
  refine mg_things hE hm dX13_newThing_g0.2.2.2.1 ?_
  refine r_iload_n hE 1 dX13_newThing_g0.2.2.2.2.1 rfl rfl ?_
  obtain ⟨hi, h⟩ := h
  refine ms_sort hE hm dX13_newThing_g0.2.2.2.2.2.1 hi h (fun s5 h => ?_)
  refine r_aload_n hE 0 dX13_newThing_g0.2.2.2.2.2.2.1 rfl rfl ?_
  refine mg_lean hE hm dX13_newThing_g0.2.2.2.2.2.2.2.1 ?_
  refine r_aload_n hE 0 dX13_newThing_g0.2.2.2.2.2.2.2.2.1 rfl rfl ?_
  refine mg_things hE hm dX13_newThing_g0.2.2.2.2.2.2.2.2.2.1 ?_
  refine r_iconst (v := (0 : Int32)) hE dX13_newThing_g0.2.2.2.2.2.2.2.2.2.2.1 (by decide) ?_
  obtain ⟨hi, h⟩ := h
  refine ms_lean hE hm dX13_newThing_g0.2.2.2.2.2.2.2.2.2.2.2.1 hi h (fun s6 h => ?_)
  refine r_iconst (v := (0 : Int32)) hE dX13_newThing_g0.2.2.2.2.2.2.2.2.2.2.2.2.1 (by decide) ?_
  refine r_istore_n hE [(2, .int (0 : Int32)), (0, .ref (G.1 0)), (1, .int a1)] dX13_newThing_g0.2.2.2.2.2.2.2.2.2.2.2.2.2.1 rfl hN (by decide) rfl ?_
  refine r_pick [1, 0] rfl ?_
  obtain ⟨k, h⟩ := h
  exact km_newThing_22 hE hm hF k _ _ h
/-! part -/
def wm_part (post : MS → Prop) (σ : MS) (a1 : Int32) (a2 : Int32) : Prop := vp_in (((7 : Int32) * a1) + a2) 3360 ∧ (vp_in (((7 : Int32) * a1) + a2) 3360 ∧ (wm_push (fun (s1 : MS) => post s1) σ (m_up σ (((7 : Int32) * a1) + a2).toNatClampNeg) (m_low σ (((7 : Int32) * a1) + a2).toNatClampNeg)))
set_option maxRecDepth 20000 in
theorem km_part {l : Launch} {D : va_G} {cl : List vw_C} {G : gAd} {post : MS → Prop} (hcl : mC cl) {σ : MS} {a1 : Int32} {a2 : Int32} (h : wm_part post σ a1 a2) : mMet l D cl G yX13_part cX13_part 3 none 2 [.ref (G.1 0), .int a1, .int a2] σ (qV post) := by
  unfold wm_part at h
  refine m_enter hcl (by decide +kernel) rfl [(0, .ref (G.1 0)), (1, .int a1), (2, .int a2)] rfl (Nat.le_of_ble_eq_true rfl) ?_
  intro E hE hm hF
  have hN := hm.2.2.2.2.2.2.1
  refine r_aload_n hE 0 dX13_part_g0.1 rfl rfl ?_
  refine r_aload_n hE 0 dX13_part_g0.2.1 rfl rfl ?_
  refine mg_up hE hm dX13_part_g0.2.2.1 ?_
  refine r_bipush (v := (7 : Int32)) hE dX13_part_g0.2.2.2.1 (by decide) ?_
  refine r_iload_n hE 1 dX13_part_g0.2.2.2.2.1 rfl rfl ?_
  refine r_imul hE dX13_part_g0.2.2.2.2.2.1 ?_
  refine r_iload_n hE 2 dX13_part_g0.2.2.2.2.2.2.1 rfl rfl ?_
  refine r_iadd hE dX13_part_g0.2.2.2.2.2.2.2.1 ?_
  obtain ⟨hi, h⟩ := h
  refine ml_up hE hm dX13_part_g0.2.2.2.2.2.2.2.2.1 hi ?_
  refine r_aload_n hE 0 dX13_part_g0.2.2.2.2.2.2.2.2.2.1 rfl rfl ?_
  refine mg_low hE hm dX13_part_g0.2.2.2.2.2.2.2.2.2.2.1 ?_
  refine r_bipush (v := (7 : Int32)) hE dX13_part_g0.2.2.2.2.2.2.2.2.2.2.2.1 (by decide) ?_
  refine r_iload_n hE 1 dX13_part_g0.2.2.2.2.2.2.2.2.2.2.2.2.1 rfl rfl ?_
  refine r_imul hE dX13_part_g0.2.2.2.2.2.2.2.2.2.2.2.2.2.1 ?_
  refine r_iload_n hE 2 dX13_part_g0.2.2.2.2.2.2.2.2.2.2.2.2.2.2.1 rfl rfl ?_
  refine r_iadd hE dX13_part_g0.2.2.2.2.2.2.2.2.2.2.2.2.2.2.2 ?_
  obtain ⟨hi, h⟩ := h
  refine ml_low hE hm dX13_part_g1.1 hi ?_
  refine m_callVv hE hm [.long (m_up σ (((7 : Int32) * a1) + a2).toNatClampNeg), .long (m_low σ (((7 : Int32) * a1) + a2).toNatClampNeg)] [] mc_push (km_push hm.2.2.2.2.2.2.2.2 h) (by decide) rfl rfl (Nat.le_of_ble_eq_true rfl) dX13_part_g1.2.1 (fun s1 h => ?_)
  exact m_vret hE hm hF dX13_part_g1.2.2 h
/-! keep -/
def wm_keep (post : MS → Prop) (σ : MS) (a1 : Int32) (a2 : Int32) : Prop := ∀ s1 : MS, s1 = m_piled_s σ ((m_piled σ) - (1 : Int32)) → vp_in (m_piled s1) 40 ∧ (vp_in (((7 : Int32) * a1) + a2) 3360 ∧ (∀ s2 : MS, s2 = m_up_s s1 (((7 : Int32) * a1) + a2).toNatClampNeg (m_top s1 (m_piled s1).toNatClampNeg) → vp_in (m_piled s2) 40 ∧ (vp_in (((7 : Int32) * a1) + a2) 3360 ∧ (∀ s3 : MS, s3 = m_low_s s2 (((7 : Int32) * a1) + a2).toNatClampNeg (m_bottom s2 (m_piled s2).toNatClampNeg) → post s3))))
set_option maxRecDepth 20000 in
theorem km_keep {l : Launch} {D : va_G} {cl : List vw_C} {G : gAd} {post : MS → Prop} (hcl : mC cl) {σ : MS} {a1 : Int32} {a2 : Int32} (h : wm_keep post σ a1 a2) : mMet l D cl G yX13_keep cX13_keep 3 none 1 [.ref (G.1 0), .int a1, .int a2] σ (qV post) := by
  unfold wm_keep at h
  refine m_enter hcl (by decide +kernel) rfl [(0, .ref (G.1 0)), (1, .int a1), (2, .int a2)] rfl (Nat.le_of_ble_eq_true rfl) ?_
  intro E hE hm hF
  have hN := hm.2.2.2.2.2.2.1
  refine r_aload_n hE 0 dX13_keep_g0.1 rfl rfl ?_
  refine r_dup hE dX13_keep_g0.2.1 rfl ?_
  refine mg_piled hE hm dX13_keep_g0.2.2.1 ?_
  refine r_iconst (v := (1 : Int32)) hE dX13_keep_g0.2.2.2.1 (by decide) ?_
  refine r_isub hE dX13_keep_g0.2.2.2.2.1 ?_
  refine mp_piled hE hm dX13_keep_g0.2.2.2.2.2.1 h (fun s1 h => ?_)
  refine r_aload_n hE 0 dX13_keep_g0.2.2.2.2.2.2.1 rfl rfl ?_
  refine mg_up hE hm dX13_keep_g0.2.2.2.2.2.2.2.1 ?_
  refine r_bipush (v := (7 : Int32)) hE dX13_keep_g0.2.2.2.2.2.2.2.2.1 (by decide) ?_
  refine r_iload_n hE 1 dX13_keep_g0.2.2.2.2.2.2.2.2.2.1 rfl rfl ?_
  refine r_imul hE dX13_keep_g0.2.2.2.2.2.2.2.2.2.2.1 ?_
  refine r_iload_n hE 2 dX13_keep_g0.2.2.2.2.2.2.2.2.2.2.2.1 rfl rfl ?_
  refine r_iadd hE dX13_keep_g0.2.2.2.2.2.2.2.2.2.2.2.2.1 ?_
  refine r_aload_n hE 0 dX13_keep_g0.2.2.2.2.2.2.2.2.2.2.2.2.2.1 rfl rfl ?_
  refine mg_top hE hm dX13_keep_g0.2.2.2.2.2.2.2.2.2.2.2.2.2.2.1 ?_
  refine r_aload_n hE 0 dX13_keep_g0.2.2.2.2.2.2.2.2.2.2.2.2.2.2.2 rfl rfl ?_
  refine mg_piled hE hm dX13_keep_g1.1 ?_
  obtain ⟨hi, h⟩ := h
  refine ml_top hE hm dX13_keep_g1.2.1 hi ?_
  obtain ⟨hi, h⟩ := h
  refine ms_up hE hm dX13_keep_g1.2.2.1 hi h (fun s2 h => ?_)
  refine r_aload_n hE 0 dX13_keep_g1.2.2.2.1 rfl rfl ?_
  refine mg_low hE hm dX13_keep_g1.2.2.2.2.1 ?_
  refine r_bipush (v := (7 : Int32)) hE dX13_keep_g1.2.2.2.2.2.1 (by decide) ?_
  refine r_iload_n hE 1 dX13_keep_g1.2.2.2.2.2.2.1 rfl rfl ?_
  refine r_imul hE dX13_keep_g1.2.2.2.2.2.2.2.1 ?_
  refine r_iload_n hE 2 dX13_keep_g1.2.2.2.2.2.2.2.2.1 rfl rfl ?_
  refine r_iadd hE dX13_keep_g1.2.2.2.2.2.2.2.2.2.1 ?_
  refine r_aload_n hE 0 dX13_keep_g1.2.2.2.2.2.2.2.2.2.2.1 rfl rfl ?_
  refine mg_bottom hE hm dX13_keep_g1.2.2.2.2.2.2.2.2.2.2.2.1 ?_
  refine r_aload_n hE 0 dX13_keep_g1.2.2.2.2.2.2.2.2.2.2.2.2.1 rfl rfl ?_
  refine mg_piled hE hm dX13_keep_g1.2.2.2.2.2.2.2.2.2.2.2.2.2.1 ?_
  obtain ⟨hi, h⟩ := h
  refine ml_bottom hE hm dX13_keep_g1.2.2.2.2.2.2.2.2.2.2.2.2.2.2.1 hi ?_
  obtain ⟨hi, h⟩ := h
  refine ms_low hE hm dX13_keep_g1.2.2.2.2.2.2.2.2.2.2.2.2.2.2.2 hi h (fun s3 h => ?_)
  exact m_vret hE hm hF dX13_keep_g2 h
/-! isPoint -/
def wm_isPoint_10 (post : MS → Int32 → Prop) (σ : MS) : Prop := post σ (1 : Int32)
set_option maxRecDepth 20000 in
theorem km_isPoint_10 {E : gEnv} {l : Launch} {D : va_G} {cl : List vw_C} {G : gAd} {post : MS → Int32 → Prop} (hE : gOK E cX13_isPoint RX13 (some .boolean) 1) (hm : mOK E l D cl G (qI post) 1) (hF : gFin E) (σ : MS) (h : wm_isPoint_10 post σ) : GW E (mW G σ) 10 [] [] := by
  unfold wm_isPoint_10 at h
  have hN := hm.2.2.2.2.2.2.1
  refine r_iconst (v := (1 : Int32)) hE dX13_isPoint_g0.2.2.2.2.2.2.1 (by decide) ?_
  refine r_goto hE 15 dX13_isPoint_g0.2.2.2.2.2.2.2.1 (by decide) ?_
  exact m_zret hE hm hF dX13_isPoint_g0.2.2.2.2.2.2.2.2.2 (Or.inr rfl) h
def wm_isPoint (post : MS → Int32 → Prop) (σ : MS) (a0 : Int32) : Prop := ((a0 = (1 : Int32)) → (wm_isPoint_10 post σ)) ∧ ((¬ (a0 = (1 : Int32))) → (((¬ (a0 = (2 : Int32))) → (post σ (0 : Int32))) ∧ ((a0 = (2 : Int32)) → (wm_isPoint_10 post σ))))
set_option maxRecDepth 20000 in
theorem km_isPoint {l : Launch} {D : va_G} {cl : List vw_C} {G : gAd} {post : MS → Int32 → Prop} (hcl : mC cl) {σ : MS} {a0 : Int32} (h : wm_isPoint post σ a0) : mMet l D cl G yX13_isPoint cX13_isPoint 1 (some .boolean) 1 [.int a0] σ (qI post) := by
  unfold wm_isPoint at h
  refine m_enter hcl (by decide +kernel) rfl [(0, .int a0)] rfl (Nat.le_of_ble_eq_true rfl) ?_
  intro E hE hm hF
  have hN := hm.2.2.2.2.2.2.1
  refine r_iload_n hE 0 dX13_isPoint_g0.1 rfl rfl ?_
  refine r_iconst (v := (1 : Int32)) hE dX13_isPoint_g0.2.1 (by decide) ?_
  refine r_icmp_eq hE 10 dX13_isPoint_g0.2.2.1 (by decide) h (fun h => ?_) (fun h => ?_)
  · refine r_pick [] rfl ?_
    exact km_isPoint_10 hE hm hF _ h
  · refine r_iload_n hE 0 dX13_isPoint_g0.2.2.2.1 rfl rfl ?_
    refine r_iconst (v := (2 : Int32)) hE dX13_isPoint_g0.2.2.2.2.1 (by decide) ?_
    refine r_icmp_ne hE 14 dX13_isPoint_g0.2.2.2.2.2.1 (by decide) h (fun h => ?_) (fun h => ?_)
    · refine r_iconst (v := (0 : Int32)) hE dX13_isPoint_g0.2.2.2.2.2.2.2.2.1 (by decide) ?_
      exact m_zret hE hm hF dX13_isPoint_g0.2.2.2.2.2.2.2.2.2 (Or.inl rfl) h
    · refine r_pick [] rfl ?_
      exact km_isPoint_10 hE hm hF _ h
/-! isLine -/
def wm_isLine_10 (post : MS → Int32 → Prop) (σ : MS) : Prop := post σ (1 : Int32)
set_option maxRecDepth 20000 in
theorem km_isLine_10 {E : gEnv} {l : Launch} {D : va_G} {cl : List vw_C} {G : gAd} {post : MS → Int32 → Prop} (hE : gOK E cX13_isLine RX13 (some .boolean) 1) (hm : mOK E l D cl G (qI post) 1) (hF : gFin E) (σ : MS) (h : wm_isLine_10 post σ) : GW E (mW G σ) 10 [] [] := by
  unfold wm_isLine_10 at h
  have hN := hm.2.2.2.2.2.2.1
  refine r_iconst (v := (1 : Int32)) hE dX13_isLine_g0.2.2.2.2.2.2.1 (by decide) ?_
  refine r_goto hE 15 dX13_isLine_g0.2.2.2.2.2.2.2.1 (by decide) ?_
  exact m_zret hE hm hF dX13_isLine_g0.2.2.2.2.2.2.2.2.2 (Or.inr rfl) h
def wm_isLine (post : MS → Int32 → Prop) (σ : MS) (a0 : Int32) : Prop := ((a0 = (3 : Int32)) → (wm_isLine_10 post σ)) ∧ ((¬ (a0 = (3 : Int32))) → (((¬ (a0 = (4 : Int32))) → (post σ (0 : Int32))) ∧ ((a0 = (4 : Int32)) → (wm_isLine_10 post σ))))
set_option maxRecDepth 20000 in
theorem km_isLine {l : Launch} {D : va_G} {cl : List vw_C} {G : gAd} {post : MS → Int32 → Prop} (hcl : mC cl) {σ : MS} {a0 : Int32} (h : wm_isLine post σ a0) : mMet l D cl G yX13_isLine cX13_isLine 1 (some .boolean) 1 [.int a0] σ (qI post) := by
  unfold wm_isLine at h
  refine m_enter hcl (by decide +kernel) rfl [(0, .int a0)] rfl (Nat.le_of_ble_eq_true rfl) ?_
  intro E hE hm hF
  have hN := hm.2.2.2.2.2.2.1
  refine r_iload_n hE 0 dX13_isLine_g0.1 rfl rfl ?_
  refine r_iconst (v := (3 : Int32)) hE dX13_isLine_g0.2.1 (by decide) ?_
  refine r_icmp_eq hE 10 dX13_isLine_g0.2.2.1 (by decide) h (fun h => ?_) (fun h => ?_)
  · refine r_pick [] rfl ?_
    exact km_isLine_10 hE hm hF _ h
  · refine r_iload_n hE 0 dX13_isLine_g0.2.2.2.1 rfl rfl ?_
    refine r_iconst (v := (4 : Int32)) hE dX13_isLine_g0.2.2.2.2.1 (by decide) ?_
    refine r_icmp_ne hE 14 dX13_isLine_g0.2.2.2.2.2.1 (by decide) h (fun h => ?_) (fun h => ?_)
    · refine r_iconst (v := (0 : Int32)) hE dX13_isLine_g0.2.2.2.2.2.2.2.2.1 (by decide) ?_
      exact m_zret hE hm hF dX13_isLine_g0.2.2.2.2.2.2.2.2.2 (Or.inl rfl) h
    · refine r_pick [] rfl ?_
      exact km_isLine_10 hE hm hF _ h
/-! normal -/
def wm_normal_48 (post : MS → Prop) : Nat → MS → Int32 → Int64 → Int64 → Int32 → Prop
  | 0, _, _, _, _, _ => False
  | n + 1, σ, v1, v3, v5, v7 => (((3 : Int32) ≤ v7) → (post σ)) ∧ ((¬ ((3 : Int32) ≤ v7)) → (wm_part (fun (s1 : MS) => wm_push (fun (s2 : MS) => wm_by (fun (s3 : MS) => wm_keep (fun (s4 : MS) => ∀ x5 : Int32, x5 = v7 + (1 : Int32) → wm_normal_48 post n s4 v1 v3 v5 x5) s3 v1 v7) s2) s1 v3 v5) σ v1 v7))
set_option maxRecDepth 20000 in
theorem km_normal_48 {E : gEnv} {l : Launch} {D : va_G} {cl : List vw_C} {G : gAd} {post : MS → Prop} (hE : gOK E cX13_normal RX13 none 4) (hm : mOK E l D cl G (qV post) 8) (hF : gFin E) : ∀ (n : Nat) (σ : MS) (v1 : Int32) (v3 : Int64) (v5 : Int64) (v7 : Int32), wm_normal_48 post n σ v1 v3 v5 v7 → GW E (mW G σ) 48 [(0, .ref (G.1 0)), (1, .int v1), (3, .long v3), (5, .long v5), (7, .int v7)] [] := by
  intro n
  induction n with
  | zero => intro σ v1 v3 v5 v7 h; exact h.elim
  | succ n ih =>
    intro σ v1 v3 v5 v7 h
    rw [wm_normal_48] at h
    have hN := hm.2.2.2.2.2.2.1
    refine r_iload hE 4 dX13_normal_g2.2.1 rfl ?_
    refine r_iconst (v := (3 : Int32)) hE dX13_normal_g2.2.2.1 (by decide) ?_
    refine r_icmp_ge hE 85 dX13_normal_g2.2.2.2.1 (by decide) h (fun h => ?_) (fun h => ?_)
    · exact m_vret hE hm hF dX13_normal_g3.2.2.2.2 h
    · refine r_aload_n hE 0 dX13_normal_g2.2.2.2.2.1 rfl rfl ?_
      refine r_iload_n hE 1 dX13_normal_g2.2.2.2.2.2.1 rfl rfl ?_
      refine r_iload hE 4 dX13_normal_g2.2.2.2.2.2.2.1 rfl ?_
      refine m_callVv hE hm [.int v1, .int v7] [] mc_part (km_part hm.2.2.2.2.2.2.2.2 h) (by decide) rfl rfl (Nat.le_of_ble_eq_true rfl) dX13_normal_g2.2.2.2.2.2.2.2.1 (fun s1 h => ?_)
      refine r_aload_n hE 0 dX13_normal_g2.2.2.2.2.2.2.2.2.1 rfl rfl ?_
      refine r_lload_n hE 2 dX13_normal_g2.2.2.2.2.2.2.2.2.2.1 rfl rfl ?_
      refine r_lload hE 3 dX13_normal_g2.2.2.2.2.2.2.2.2.2.2.1 rfl ?_
      refine m_callVv hE hm [.long v3, .long v5] [] mc_push (km_push hm.2.2.2.2.2.2.2.2 h) (by decide) rfl rfl (Nat.le_of_ble_eq_true rfl) dX13_normal_g2.2.2.2.2.2.2.2.2.2.2.2.1 (fun s2 h => ?_)
      refine r_aload_n hE 0 dX13_normal_g2.2.2.2.2.2.2.2.2.2.2.2.2.1 rfl rfl ?_
      refine m_callVv hE hm [] [] mc_by (km_by hm.2.2.2.2.2.2.2.2 h) (by decide) rfl rfl (Nat.le_of_ble_eq_true rfl) dX13_normal_g2.2.2.2.2.2.2.2.2.2.2.2.2.2.1 (fun s3 h => ?_)
      refine r_aload_n hE 0 dX13_normal_g2.2.2.2.2.2.2.2.2.2.2.2.2.2.2.1 rfl rfl ?_
      refine r_iload_n hE 1 dX13_normal_g2.2.2.2.2.2.2.2.2.2.2.2.2.2.2.2 rfl rfl ?_
      refine r_iload hE 4 dX13_normal_g3.1 rfl ?_
      refine m_callVv hE hm [.int v1, .int v7] [] mc_keep (km_keep hm.2.2.2.2.2.2.2.2 h) (by decide) rfl rfl (Nat.le_of_ble_eq_true rfl) dX13_normal_g3.2.1 (fun s4 h => ?_)
      obtain ⟨x5, ex5⟩ : ∃ z : Int32, z = v7 + (1 : Int32) := ⟨_, rfl⟩
      have h := h x5 ex5
      refine r_iinc (v := x5) hE [(7, .int x5), (0, .ref (G.1 0)), (1, .int v1), (3, .long v3), (5, .long v5)] 4 dX13_normal_g3.2.2.1 rfl (by rw [ex5]; rfl) hN (by decide) rfl ?_
      refine r_goto hE 48 dX13_normal_g3.2.2.2.1 (by decide) ?_
      refine r_pick [1, 2, 3, 4, 0] rfl ?_
      exact ih _ _ _ _ _ h
def wm_normal_19 (post : MS → Prop) (σ : MS) (v1 : Int32) (t0 : Int32) : Prop := vp_in (((7 : Int32) * v1) + t0) 3360 ∧ (∀ x6 : Int64, x6 = m_up σ (((7 : Int32) * v1) + t0).toNatClampNeg → vp_in (((7 : Int32) * v1) + t0) 3360 ∧ (∀ x7 : Int64, x7 = m_low σ (((7 : Int32) * v1) + t0).toNatClampNeg → ∃ k : Nat, wm_normal_48 post k σ v1 x6 x7 (0 : Int32)))
set_option maxRecDepth 20000 in
theorem km_normal_19 {E : gEnv} {l : Launch} {D : va_G} {cl : List vw_C} {G : gAd} {post : MS → Prop} (hE : gOK E cX13_normal RX13 none 4) (hm : mOK E l D cl G (qV post) 8) (hF : gFin E) (σ : MS) (v1 : Int32) (t0 : Int32) (h : wm_normal_19 post σ v1 t0) : GW E (mW G σ) 19 [(0, .ref (G.1 0)), (1, .int v1)] [.int t0] := by
  unfold wm_normal_19 at h
  have hN := hm.2.2.2.2.2.2.1
  refine r_istore_n hE [(2, .int t0), (0, .ref (G.1 0)), (1, .int v1)] dX13_normal_g0.2.2.2.2.2.2.2.2.2.2.2.2.1 rfl hN (by decide) rfl ?_
  refine r_aload_n hE 1 dX13_normal_g0.2.2.2.2.2.2.2.2.2.2.2.2.2.1 rfl rfl ?_
  refine mg_up hE hm dX13_normal_g0.2.2.2.2.2.2.2.2.2.2.2.2.2.2.1 ?_
  refine r_bipush (v := (7 : Int32)) hE dX13_normal_g0.2.2.2.2.2.2.2.2.2.2.2.2.2.2.2 (by decide) ?_
  refine r_iload_n hE 2 dX13_normal_g1.1 rfl rfl ?_
  refine r_imul hE dX13_normal_g1.2.1 ?_
  refine r_iload_n hE 0 dX13_normal_g1.2.2.1 rfl rfl ?_
  refine r_iadd hE dX13_normal_g1.2.2.2.1 ?_
  obtain ⟨hi, h⟩ := h
  refine ml_up hE hm dX13_normal_g1.2.2.2.2.1 hi ?_
  refine r_topl h (fun x6 ex6 h => ?_)
  refine r_lstore_n hE [(3, .long x6), (2, .int t0), (0, .ref (G.1 0)), (1, .int v1)] dX13_normal_g1.2.2.2.2.2.1 rfl hN (by decide) rfl ?_
  refine r_aload_n hE 2 dX13_normal_g1.2.2.2.2.2.2.1 rfl rfl ?_
  refine mg_low hE hm dX13_normal_g1.2.2.2.2.2.2.2.1 ?_
  refine r_bipush (v := (7 : Int32)) hE dX13_normal_g1.2.2.2.2.2.2.2.2.1 (by decide) ?_
  refine r_iload_n hE 3 dX13_normal_g1.2.2.2.2.2.2.2.2.2.1 rfl rfl ?_
  refine r_imul hE dX13_normal_g1.2.2.2.2.2.2.2.2.2.2.1 ?_
  refine r_iload_n hE 1 dX13_normal_g1.2.2.2.2.2.2.2.2.2.2.2.1 rfl rfl ?_
  refine r_iadd hE dX13_normal_g1.2.2.2.2.2.2.2.2.2.2.2.2.1 ?_
  obtain ⟨hi, h⟩ := h
  refine ml_low hE hm dX13_normal_g1.2.2.2.2.2.2.2.2.2.2.2.2.2.1 hi ?_
  refine r_topl h (fun x7 ex7 h => ?_)
  refine r_lstore hE [(5, .long x7), (3, .long x6), (2, .int t0), (0, .ref (G.1 0)), (1, .int v1)] dX13_normal_g1.2.2.2.2.2.2.2.2.2.2.2.2.2.2.1 hN (by decide) rfl ?_
  refine r_iconst (v := (0 : Int32)) hE dX13_normal_g1.2.2.2.2.2.2.2.2.2.2.2.2.2.2.2 (by decide) ?_
  refine r_istore hE [(7, .int (0 : Int32)), (5, .long x7), (3, .long x6), (2, .int t0), (0, .ref (G.1 0)), (1, .int v1)] dX13_normal_g2.1 hN (by decide) rfl ?_
  refine r_pick [4, 5, 2, 1, 0] rfl ?_
  obtain ⟨k, h⟩ := h
  exact km_normal_48 hE hm hF k _ _ _ _ _ h
def wm_normal (post : MS → Prop) (σ : MS) (a1 : Int32) : Prop := vp_in ((7 : Int32) * a1) 3360 ∧ ((((lg_cmp (m_up σ ((7 : Int32) * a1).toNatClampNeg) (0 : Int64)) = (0 : Int32)) → (wm_normal_19 post σ a1 (1 : Int32))) ∧ ((¬ ((lg_cmp (m_up σ ((7 : Int32) * a1).toNatClampNeg) (0 : Int64)) = (0 : Int32))) → (wm_normal_19 post σ a1 (0 : Int32))))
set_option maxRecDepth 20000 in
theorem km_normal {l : Launch} {D : va_G} {cl : List vw_C} {G : gAd} {post : MS → Prop} (hcl : mC cl) {σ : MS} {a1 : Int32} (h : wm_normal post σ a1) : mMet l D cl G yX13_normal cX13_normal 8 none 4 [.ref (G.1 0), .int a1] σ (qV post) := by
  unfold wm_normal at h
  refine m_enter hcl (by decide +kernel) rfl [(0, .ref (G.1 0)), (1, .int a1)] rfl (Nat.le_of_ble_eq_true rfl) ?_
  intro E hE hm hF
  have hN := hm.2.2.2.2.2.2.1
  refine r_aload_n hE 0 dX13_normal_g0.1 rfl rfl ?_
  refine mg_up hE hm dX13_normal_g0.2.1 ?_
  refine r_bipush (v := (7 : Int32)) hE dX13_normal_g0.2.2.1 (by decide) ?_
  refine r_iload_n hE 1 dX13_normal_g0.2.2.2.1 rfl rfl ?_
  refine r_imul hE dX13_normal_g0.2.2.2.2.1 ?_
  obtain ⟨hi, h⟩ := h
  refine ml_up hE hm dX13_normal_g0.2.2.2.2.2.1 hi ?_
  refine r_lconst (v := (0 : Int64)) hE dX13_normal_g0.2.2.2.2.2.2.1 (by decide) ?_
  refine r_lcmp hE dX13_normal_g0.2.2.2.2.2.2.2.1 ?_
  refine r_if_eq hE 18 dX13_normal_g0.2.2.2.2.2.2.2.2.1 (by decide) h (fun h => ?_) (fun h => ?_)
  · refine r_iconst (v := (1 : Int32)) hE dX13_normal_g0.2.2.2.2.2.2.2.2.2.2.2.1 (by decide) ?_
    exact km_normal_19 hE hm hF _ _ _ h
  · refine r_iconst (v := (0 : Int32)) hE dX13_normal_g0.2.2.2.2.2.2.2.2.2.1 (by decide) ?_
    refine r_goto hE 19 dX13_normal_g0.2.2.2.2.2.2.2.2.2.2.1 (by decide) ?_
    exact km_normal_19 hE hm hF _ _ _ h
/-! line -/
def wm_line_130 (post : MS → Int32 → Prop) : Nat → MS → Int32 → Int32 → Int32 → Int32 → Prop
  | 0, _, _, _, _, _ => False
  | n + 1, σ, v1, v2, v4, v5 => (((2 : Int32) ≤ v5) → (post σ v4)) ∧ ((¬ ((2 : Int32) ≤ v5)) → (wm_part (fun (s1 : MS) => wm_keep (fun (s2 : MS) => wm_part (fun (s3 : MS) => wm_keep (fun (s4 : MS) => ∀ x5 : Int32, x5 = v5 + (1 : Int32) → wm_line_130 post n s4 v1 v2 v4 x5) s3 v4 ((5 : Int32) + v5)) s2 v2 v5) s1 v4 ((3 : Int32) + v5)) σ v1 v5))
set_option maxRecDepth 20000 in
theorem km_line_130 {E : gEnv} {l : Launch} {D : va_G} {cl : List vw_C} {G : gAd} {post : MS → Int32 → Prop} (hE : gOK E cX13_line RX13 (some .int) 5) (hm : mOK E l D cl G (qI post) 6) (hF : gFin E) : ∀ (n : Nat) (σ : MS) (v1 : Int32) (v2 : Int32) (v4 : Int32) (v5 : Int32), wm_line_130 post n σ v1 v2 v4 v5 → GW E (mW G σ) 130 [(0, .ref (G.1 0)), (1, .int v1), (2, .int v2), (4, .int v4), (5, .int v5)] [] := by
  intro n
  induction n with
  | zero => intro σ v1 v2 v4 v5 h; exact h.elim
  | succ n ih =>
    intro σ v1 v2 v4 v5 h
    rw [wm_line_130] at h
    have hN := hm.2.2.2.2.2.2.1
    refine r_iload hE 4 dX13_line_g4.2.2.2.2.2.2.2.2.2.2.2.2.2.2.1 rfl ?_
    refine r_iconst (v := (2 : Int32)) hE dX13_line_g4.2.2.2.2.2.2.2.2.2.2.2.2.2.2.2 (by decide) ?_
    refine r_icmp_ge hE 176 dX13_line_g5.1 (by decide) h (fun h => ?_) (fun h => ?_)
    · refine r_iload hE 3 dX13_line_g6.2.2.2.2.2.2.2.1 rfl ?_
      exact m_iret hE hm hF dX13_line_g6.2.2.2.2.2.2.2.2 h
    · refine r_aload_n hE 0 dX13_line_g5.2.1 rfl rfl ?_
      refine r_iload_n hE 1 dX13_line_g5.2.2.1 rfl rfl ?_
      refine r_iload hE 4 dX13_line_g5.2.2.2.1 rfl ?_
      refine m_callVv hE hm [.int v1, .int v5] [] mc_part (km_part hm.2.2.2.2.2.2.2.2 h) (by decide) rfl rfl (Nat.le_of_ble_eq_true rfl) dX13_line_g5.2.2.2.2.1 (fun s1 h => ?_)
      refine r_aload_n hE 0 dX13_line_g5.2.2.2.2.2.1 rfl rfl ?_
      refine r_iload hE 3 dX13_line_g5.2.2.2.2.2.2.1 rfl ?_
      refine r_iconst (v := (3 : Int32)) hE dX13_line_g5.2.2.2.2.2.2.2.1 (by decide) ?_
      refine r_iload hE 4 dX13_line_g5.2.2.2.2.2.2.2.2.1 rfl ?_
      refine r_iadd hE dX13_line_g5.2.2.2.2.2.2.2.2.2.1 ?_
      refine m_callVv hE hm [.int v4, .int ((3 : Int32) + v5)] [] mc_keep (km_keep hm.2.2.2.2.2.2.2.2 h) (by decide) rfl rfl (Nat.le_of_ble_eq_true rfl) dX13_line_g5.2.2.2.2.2.2.2.2.2.2.1 (fun s2 h => ?_)
      refine r_aload_n hE 0 dX13_line_g5.2.2.2.2.2.2.2.2.2.2.2.1 rfl rfl ?_
      refine r_iload_n hE 2 dX13_line_g5.2.2.2.2.2.2.2.2.2.2.2.2.1 rfl rfl ?_
      refine r_iload hE 4 dX13_line_g5.2.2.2.2.2.2.2.2.2.2.2.2.2.1 rfl ?_
      refine m_callVv hE hm [.int v2, .int v5] [] mc_part (km_part hm.2.2.2.2.2.2.2.2 h) (by decide) rfl rfl (Nat.le_of_ble_eq_true rfl) dX13_line_g5.2.2.2.2.2.2.2.2.2.2.2.2.2.2.1 (fun s3 h => ?_)
      refine r_aload_n hE 0 dX13_line_g5.2.2.2.2.2.2.2.2.2.2.2.2.2.2.2 rfl rfl ?_
      refine r_iload hE 3 dX13_line_g6.1 rfl ?_
      refine r_iconst (v := (5 : Int32)) hE dX13_line_g6.2.1 (by decide) ?_
      refine r_iload hE 4 dX13_line_g6.2.2.1 rfl ?_
      refine r_iadd hE dX13_line_g6.2.2.2.1 ?_
      refine m_callVv hE hm [.int v4, .int ((5 : Int32) + v5)] [] mc_keep (km_keep hm.2.2.2.2.2.2.2.2 h) (by decide) rfl rfl (Nat.le_of_ble_eq_true rfl) dX13_line_g6.2.2.2.2.1 (fun s4 h => ?_)
      obtain ⟨x5, ex5⟩ : ∃ z : Int32, z = v5 + (1 : Int32) := ⟨_, rfl⟩
      have h := h x5 ex5
      refine r_iinc (v := x5) hE [(5, .int x5), (0, .ref (G.1 0)), (1, .int v1), (2, .int v2), (4, .int v4)] 4 dX13_line_g6.2.2.2.2.2.1 rfl (by rw [ex5]; rfl) hN (by decide) rfl ?_
      refine r_goto hE 130 dX13_line_g6.2.2.2.2.2.2.1 (by decide) ?_
      refine r_pick [1, 2, 3, 4, 0] rfl ?_
      exact ih _ _ _ _ _ h
def wm_line (post : MS → Int32 → Prop) (σ : MS) (a1 : Int32) (a2 : Int32) (a3 : Int32) : Prop := wm_newThing (fun (s6 : MS) (r7 : Int32) => wm_part (fun (s8 : MS) => wm_part (fun (s9 : MS) => wm_less (fun (s10 : MS) => wm_keep (fun (s11 : MS) => wm_part (fun (s12 : MS) => wm_part (fun (s13 : MS) => wm_less (fun (s14 : MS) => wm_keep (fun (s15 : MS) => wm_part (fun (s16 : MS) => wm_part (fun (s17 : MS) => wm_less (fun (s18 : MS) => wm_part (fun (s19 : MS) => wm_times (fun (s20 : MS) => wm_part (fun (s21 : MS) => wm_part (fun (s22 : MS) => wm_less (fun (s23 : MS) => wm_part (fun (s24 : MS) => wm_times (fun (s25 : MS) => wm_plus (fun (s26 : MS) => wm_keep (fun (s27 : MS) => wm_normal (fun (s28 : MS) => ((¬ (a3 = (4 : Int32))) → (post s28 r7)) ∧ ((a3 = (4 : Int32)) → (∃ k : Nat, wm_line_130 post k s28 a1 a2 r7 (0 : Int32)))) s27 r7) s26 r7 (2 : Int32)) s25) s24) s23 a1 (1 : Int32)) s22) s21 a1 (0 : Int32)) s20 a2 (0 : Int32)) s19) s18 a1 (0 : Int32)) s17) s16 a2 (1 : Int32)) s15 a1 (1 : Int32)) s14 r7 (1 : Int32)) s13) s12 a1 (0 : Int32)) s11 a2 (0 : Int32)) s10 r7 (0 : Int32)) s9) s8 a2 (1 : Int32)) s6 a1 (1 : Int32)) σ a3
set_option maxRecDepth 20000 in
theorem km_line {l : Launch} {D : va_G} {cl : List vw_C} {G : gAd} {post : MS → Int32 → Prop} (hcl : mC cl) {σ : MS} {a1 : Int32} {a2 : Int32} {a3 : Int32} (h : wm_line post σ a1 a2 a3) : mMet l D cl G yX13_line cX13_line 6 (some .int) 5 [.ref (G.1 0), .int a1, .int a2, .int a3] σ (qI post) := by
  unfold wm_line at h
  refine m_enter hcl (by decide +kernel) rfl [(0, .ref (G.1 0)), (1, .int a1), (2, .int a2), (3, .int a3)] rfl (Nat.le_of_ble_eq_true rfl) ?_
  intro E hE hm hF
  have hN := hm.2.2.2.2.2.2.1
  refine r_aload_n hE 0 dX13_line_g0.1 rfl rfl ?_
  refine r_iload_n hE 3 dX13_line_g0.2.1 rfl rfl ?_
  refine m_callVi hE hm [.int a3] [] mc_newThing (km_newThing hm.2.2.2.2.2.2.2.2 h) (by decide) rfl rfl (Nat.le_of_ble_eq_true rfl) dX13_line_g0.2.2.1 (fun s6 r7 h => ?_)
  refine r_istore hE [(4, .int r7), (0, .ref (G.1 0)), (1, .int a1), (2, .int a2), (3, .int a3)] dX13_line_g0.2.2.2.1 hN (by decide) rfl ?_
  refine r_aload_n hE 1 dX13_line_g0.2.2.2.2.1 rfl rfl ?_
  refine r_iload_n hE 2 dX13_line_g0.2.2.2.2.2.1 rfl rfl ?_
  refine r_iconst (v := (1 : Int32)) hE dX13_line_g0.2.2.2.2.2.2.1 (by decide) ?_
  refine m_callVv hE hm [.int a1, .int (1 : Int32)] [] mc_part (km_part hm.2.2.2.2.2.2.2.2 h) (by decide) rfl rfl (Nat.le_of_ble_eq_true rfl) dX13_line_g0.2.2.2.2.2.2.2.1 (fun s8 h => ?_)
  refine r_aload_n hE 1 dX13_line_g0.2.2.2.2.2.2.2.2.1 rfl rfl ?_
  refine r_iload_n hE 3 dX13_line_g0.2.2.2.2.2.2.2.2.2.1 rfl rfl ?_
  refine r_iconst (v := (1 : Int32)) hE dX13_line_g0.2.2.2.2.2.2.2.2.2.2.1 (by decide) ?_
  refine m_callVv hE hm [.int a2, .int (1 : Int32)] [] mc_part (km_part hm.2.2.2.2.2.2.2.2 h) (by decide) rfl rfl (Nat.le_of_ble_eq_true rfl) dX13_line_g0.2.2.2.2.2.2.2.2.2.2.2.1 (fun s9 h => ?_)
  refine r_aload_n hE 1 dX13_line_g0.2.2.2.2.2.2.2.2.2.2.2.2.1 rfl rfl ?_
  refine m_callVv hE hm [] [] mc_less (km_less hm.2.2.2.2.2.2.2.2 h) (by decide) rfl rfl (Nat.le_of_ble_eq_true rfl) dX13_line_g0.2.2.2.2.2.2.2.2.2.2.2.2.2.1 (fun s10 h => ?_)
  refine r_aload_n hE 1 dX13_line_g0.2.2.2.2.2.2.2.2.2.2.2.2.2.2.1 rfl rfl ?_
  refine r_iload hE 0 dX13_line_g0.2.2.2.2.2.2.2.2.2.2.2.2.2.2.2 rfl ?_
  refine r_iconst (v := (0 : Int32)) hE dX13_line_g1.1 (by decide) ?_
  refine m_callVv hE hm [.int r7, .int (0 : Int32)] [] mc_keep (km_keep hm.2.2.2.2.2.2.2.2 h) (by decide) rfl rfl (Nat.le_of_ble_eq_true rfl) dX13_line_g1.2.1 (fun s11 h => ?_)
  refine r_aload_n hE 1 dX13_line_g1.2.2.1 rfl rfl ?_
  refine r_iload_n hE 3 dX13_line_g1.2.2.2.1 rfl rfl ?_
  refine r_iconst (v := (0 : Int32)) hE dX13_line_g1.2.2.2.2.1 (by decide) ?_
  refine m_callVv hE hm [.int a2, .int (0 : Int32)] [] mc_part (km_part hm.2.2.2.2.2.2.2.2 h) (by decide) rfl rfl (Nat.le_of_ble_eq_true rfl) dX13_line_g1.2.2.2.2.2.1 (fun s12 h => ?_)
  refine r_aload_n hE 1 dX13_line_g1.2.2.2.2.2.2.1 rfl rfl ?_
  refine r_iload_n hE 2 dX13_line_g1.2.2.2.2.2.2.2.1 rfl rfl ?_
  refine r_iconst (v := (0 : Int32)) hE dX13_line_g1.2.2.2.2.2.2.2.2.1 (by decide) ?_
  refine m_callVv hE hm [.int a1, .int (0 : Int32)] [] mc_part (km_part hm.2.2.2.2.2.2.2.2 h) (by decide) rfl rfl (Nat.le_of_ble_eq_true rfl) dX13_line_g1.2.2.2.2.2.2.2.2.2.1 (fun s13 h => ?_)
  refine r_aload_n hE 1 dX13_line_g1.2.2.2.2.2.2.2.2.2.2.1 rfl rfl ?_
  refine m_callVv hE hm [] [] mc_less (km_less hm.2.2.2.2.2.2.2.2 h) (by decide) rfl rfl (Nat.le_of_ble_eq_true rfl) dX13_line_g1.2.2.2.2.2.2.2.2.2.2.2.1 (fun s14 h => ?_)
  refine r_aload_n hE 1 dX13_line_g1.2.2.2.2.2.2.2.2.2.2.2.2.1 rfl rfl ?_
  refine r_iload hE 0 dX13_line_g1.2.2.2.2.2.2.2.2.2.2.2.2.2.1 rfl ?_
  refine r_iconst (v := (1 : Int32)) hE dX13_line_g1.2.2.2.2.2.2.2.2.2.2.2.2.2.2.1 (by decide) ?_
  refine m_callVv hE hm [.int r7, .int (1 : Int32)] [] mc_keep (km_keep hm.2.2.2.2.2.2.2.2 h) (by decide) rfl rfl (Nat.le_of_ble_eq_true rfl) dX13_line_g1.2.2.2.2.2.2.2.2.2.2.2.2.2.2.2 (fun s15 h => ?_)
  refine r_aload_n hE 1 dX13_line_g2.1 rfl rfl ?_
  refine r_iload_n hE 2 dX13_line_g2.2.1 rfl rfl ?_
  refine r_iconst (v := (1 : Int32)) hE dX13_line_g2.2.2.1 (by decide) ?_
  refine m_callVv hE hm [.int a1, .int (1 : Int32)] [] mc_part (km_part hm.2.2.2.2.2.2.2.2 h) (by decide) rfl rfl (Nat.le_of_ble_eq_true rfl) dX13_line_g2.2.2.2.1 (fun s16 h => ?_)
  refine r_aload_n hE 1 dX13_line_g2.2.2.2.2.1 rfl rfl ?_
  refine r_iload_n hE 3 dX13_line_g2.2.2.2.2.2.1 rfl rfl ?_
  refine r_iconst (v := (1 : Int32)) hE dX13_line_g2.2.2.2.2.2.2.1 (by decide) ?_
  refine m_callVv hE hm [.int a2, .int (1 : Int32)] [] mc_part (km_part hm.2.2.2.2.2.2.2.2 h) (by decide) rfl rfl (Nat.le_of_ble_eq_true rfl) dX13_line_g2.2.2.2.2.2.2.2.1 (fun s17 h => ?_)
  refine r_aload_n hE 1 dX13_line_g2.2.2.2.2.2.2.2.2.1 rfl rfl ?_
  refine m_callVv hE hm [] [] mc_less (km_less hm.2.2.2.2.2.2.2.2 h) (by decide) rfl rfl (Nat.le_of_ble_eq_true rfl) dX13_line_g2.2.2.2.2.2.2.2.2.2.1 (fun s18 h => ?_)
  refine r_aload_n hE 1 dX13_line_g2.2.2.2.2.2.2.2.2.2.2.1 rfl rfl ?_
  refine r_iload_n hE 2 dX13_line_g2.2.2.2.2.2.2.2.2.2.2.2.1 rfl rfl ?_
  refine r_iconst (v := (0 : Int32)) hE dX13_line_g2.2.2.2.2.2.2.2.2.2.2.2.2.1 (by decide) ?_
  refine m_callVv hE hm [.int a1, .int (0 : Int32)] [] mc_part (km_part hm.2.2.2.2.2.2.2.2 h) (by decide) rfl rfl (Nat.le_of_ble_eq_true rfl) dX13_line_g2.2.2.2.2.2.2.2.2.2.2.2.2.2.1 (fun s19 h => ?_)
  refine r_aload_n hE 1 dX13_line_g2.2.2.2.2.2.2.2.2.2.2.2.2.2.2.1 rfl rfl ?_
  refine m_callVv hE hm [] [] mc_times (km_times hm.2.2.2.2.2.2.2.2 h) (by decide) rfl rfl (Nat.le_of_ble_eq_true rfl) dX13_line_g2.2.2.2.2.2.2.2.2.2.2.2.2.2.2.2 (fun s20 h => ?_)
  refine r_aload_n hE 1 dX13_line_g3.1 rfl rfl ?_
  refine r_iload_n hE 3 dX13_line_g3.2.1 rfl rfl ?_
  refine r_iconst (v := (0 : Int32)) hE dX13_line_g3.2.2.1 (by decide) ?_
  refine m_callVv hE hm [.int a2, .int (0 : Int32)] [] mc_part (km_part hm.2.2.2.2.2.2.2.2 h) (by decide) rfl rfl (Nat.le_of_ble_eq_true rfl) dX13_line_g3.2.2.2.1 (fun s21 h => ?_)
  refine r_aload_n hE 1 dX13_line_g3.2.2.2.2.1 rfl rfl ?_
  refine r_iload_n hE 2 dX13_line_g3.2.2.2.2.2.1 rfl rfl ?_
  refine r_iconst (v := (0 : Int32)) hE dX13_line_g3.2.2.2.2.2.2.1 (by decide) ?_
  refine m_callVv hE hm [.int a1, .int (0 : Int32)] [] mc_part (km_part hm.2.2.2.2.2.2.2.2 h) (by decide) rfl rfl (Nat.le_of_ble_eq_true rfl) dX13_line_g3.2.2.2.2.2.2.2.1 (fun s22 h => ?_)
  refine r_aload_n hE 1 dX13_line_g3.2.2.2.2.2.2.2.2.1 rfl rfl ?_
  refine m_callVv hE hm [] [] mc_less (km_less hm.2.2.2.2.2.2.2.2 h) (by decide) rfl rfl (Nat.le_of_ble_eq_true rfl) dX13_line_g3.2.2.2.2.2.2.2.2.2.1 (fun s23 h => ?_)
  refine r_aload_n hE 1 dX13_line_g3.2.2.2.2.2.2.2.2.2.2.1 rfl rfl ?_
  refine r_iload_n hE 2 dX13_line_g3.2.2.2.2.2.2.2.2.2.2.2.1 rfl rfl ?_
  refine r_iconst (v := (1 : Int32)) hE dX13_line_g3.2.2.2.2.2.2.2.2.2.2.2.2.1 (by decide) ?_
  refine m_callVv hE hm [.int a1, .int (1 : Int32)] [] mc_part (km_part hm.2.2.2.2.2.2.2.2 h) (by decide) rfl rfl (Nat.le_of_ble_eq_true rfl) dX13_line_g3.2.2.2.2.2.2.2.2.2.2.2.2.2.1 (fun s24 h => ?_)
  refine r_aload_n hE 1 dX13_line_g3.2.2.2.2.2.2.2.2.2.2.2.2.2.2.1 rfl rfl ?_
  refine m_callVv hE hm [] [] mc_times (km_times hm.2.2.2.2.2.2.2.2 h) (by decide) rfl rfl (Nat.le_of_ble_eq_true rfl) dX13_line_g3.2.2.2.2.2.2.2.2.2.2.2.2.2.2.2 (fun s25 h => ?_)
  refine r_aload_n hE 1 dX13_line_g4.1 rfl rfl ?_
  refine m_callVv hE hm [] [] mc_plus (km_plus hm.2.2.2.2.2.2.2.2 h) (by decide) rfl rfl (Nat.le_of_ble_eq_true rfl) dX13_line_g4.2.1 (fun s26 h => ?_)
  refine r_aload_n hE 1 dX13_line_g4.2.2.1 rfl rfl ?_
  refine r_iload hE 0 dX13_line_g4.2.2.2.1 rfl ?_
  refine r_iconst (v := (2 : Int32)) hE dX13_line_g4.2.2.2.2.1 (by decide) ?_
  refine m_callVv hE hm [.int r7, .int (2 : Int32)] [] mc_keep (km_keep hm.2.2.2.2.2.2.2.2 h) (by decide) rfl rfl (Nat.le_of_ble_eq_true rfl) dX13_line_g4.2.2.2.2.2.1 (fun s27 h => ?_)
  refine r_aload_n hE 1 dX13_line_g4.2.2.2.2.2.2.1 rfl rfl ?_
  refine r_iload hE 0 dX13_line_g4.2.2.2.2.2.2.2.1 rfl ?_
  refine m_callVv hE hm [.int r7] [] mc_normal (km_normal hm.2.2.2.2.2.2.2.2 h) (by decide) rfl rfl (Nat.le_of_ble_eq_true rfl) dX13_line_g4.2.2.2.2.2.2.2.2.1 (fun s28 h => ?_)
  refine r_iload_n hE 4 dX13_line_g4.2.2.2.2.2.2.2.2.2.1 rfl rfl ?_
  refine r_iconst (v := (4 : Int32)) hE dX13_line_g4.2.2.2.2.2.2.2.2.2.2.1 (by decide) ?_
  refine r_icmp_ne hE 176 dX13_line_g4.2.2.2.2.2.2.2.2.2.2.2.1 (by decide) h (fun h => ?_) (fun h => ?_)
  · refine r_iload hE 0 dX13_line_g6.2.2.2.2.2.2.2.1 rfl ?_
    exact m_iret hE hm hF dX13_line_g6.2.2.2.2.2.2.2.2 h
  · refine r_iconst (v := (0 : Int32)) hE dX13_line_g4.2.2.2.2.2.2.2.2.2.2.2.2.1 (by decide) ?_
    refine r_istore hE [(5, .int (0 : Int32)), (4, .int r7), (0, .ref (G.1 0)), (1, .int a1), (2, .int a2), (3, .int a3)] dX13_line_g4.2.2.2.2.2.2.2.2.2.2.2.2.2.1 hN (by decide) rfl ?_
    refine r_pick [2, 3, 4, 1, 0] rfl ?_
    obtain ⟨k, h⟩ := h
    exact km_line_130 hE hm hF k _ _ _ _ _ h
/-! mid -/
def wm_mid_9 (post : MS → Int32 → Prop) : Nat → MS → Int32 → Int32 → Int32 → Int32 → Prop
  | 0, _, _, _, _, _ => False
  | n + 1, σ, v1, v2, v3, v4 => (((2 : Int32) ≤ v4) → (post σ v3)) ∧ ((¬ ((2 : Int32) ≤ v4)) → (wm_part (fun (s1 : MS) => wm_part (fun (s2 : MS) => wm_plus (fun (s3 : MS) => wm_whole (fun (s4 : MS) => wm_by (fun (s5 : MS) => wm_keep (fun (s6 : MS) => ∀ x7 : Int32, x7 = v4 + (1 : Int32) → wm_mid_9 post n s6 v1 v2 v3 x7) s5 v3 v4) s4) s3 (2 : Int64)) s2) s1 v2 v4) σ v1 v4))
set_option maxRecDepth 20000 in
theorem km_mid_9 {E : gEnv} {l : Launch} {D : va_G} {cl : List vw_C} {G : gAd} {post : MS → Int32 → Prop} (hE : gOK E cX13_mid RX13 (some .int) 4) (hm : mOK E l D cl G (qI post) 5) (hF : gFin E) : ∀ (n : Nat) (σ : MS) (v1 : Int32) (v2 : Int32) (v3 : Int32) (v4 : Int32), wm_mid_9 post n σ v1 v2 v3 v4 → GW E (mW G σ) 9 [(0, .ref (G.1 0)), (1, .int v1), (2, .int v2), (3, .int v3), (4, .int v4)] [] := by
  intro n
  induction n with
  | zero => intro σ v1 v2 v3 v4 h; exact h.elim
  | succ n ih =>
    intro σ v1 v2 v3 v4 h
    rw [wm_mid_9] at h
    have hN := hm.2.2.2.2.2.2.1
    refine r_iload hE 4 dX13_mid_g0.2.2.2.2.2.2.1 rfl ?_
    refine r_iconst (v := (2 : Int32)) hE dX13_mid_g0.2.2.2.2.2.2.2.1 (by decide) ?_
    refine r_icmp_ge hE 57 dX13_mid_g0.2.2.2.2.2.2.2.2.1 (by decide) h (fun h => ?_) (fun h => ?_)
    · refine r_iload_n hE 3 dX13_mid_g1.2.2.2.2.2.2.2.2.2.2.2.2.2.2.1 rfl rfl ?_
      exact m_iret hE hm hF dX13_mid_g1.2.2.2.2.2.2.2.2.2.2.2.2.2.2.2 h
    · refine r_aload_n hE 0 dX13_mid_g0.2.2.2.2.2.2.2.2.2.1 rfl rfl ?_
      refine r_iload_n hE 1 dX13_mid_g0.2.2.2.2.2.2.2.2.2.2.1 rfl rfl ?_
      refine r_iload hE 4 dX13_mid_g0.2.2.2.2.2.2.2.2.2.2.2.1 rfl ?_
      refine m_callVv hE hm [.int v1, .int v4] [] mc_part (km_part hm.2.2.2.2.2.2.2.2 h) (by decide) rfl rfl (Nat.le_of_ble_eq_true rfl) dX13_mid_g0.2.2.2.2.2.2.2.2.2.2.2.2.1 (fun s1 h => ?_)
      refine r_aload_n hE 0 dX13_mid_g0.2.2.2.2.2.2.2.2.2.2.2.2.2.1 rfl rfl ?_
      refine r_iload_n hE 2 dX13_mid_g0.2.2.2.2.2.2.2.2.2.2.2.2.2.2.1 rfl rfl ?_
      refine r_iload hE 4 dX13_mid_g0.2.2.2.2.2.2.2.2.2.2.2.2.2.2.2 rfl ?_
      refine m_callVv hE hm [.int v2, .int v4] [] mc_part (km_part hm.2.2.2.2.2.2.2.2 h) (by decide) rfl rfl (Nat.le_of_ble_eq_true rfl) dX13_mid_g1.1 (fun s2 h => ?_)
      refine r_aload_n hE 0 dX13_mid_g1.2.1 rfl rfl ?_
      refine m_callVv hE hm [] [] mc_plus (km_plus hm.2.2.2.2.2.2.2.2 h) (by decide) rfl rfl (Nat.le_of_ble_eq_true rfl) dX13_mid_g1.2.2.1 (fun s3 h => ?_)
      refine r_aload_n hE 0 dX13_mid_g1.2.2.2.1 rfl rfl ?_
      refine r_ldc2 (v := (2 : Int64)) hE dX13_mid_g1.2.2.2.2.1 (gTb_10 (List.mem_of_getElem? (i := 171) rfl) rfl) ?_
      refine m_callVv hE hm [.long (2 : Int64)] [] mc_whole (km_whole hm.2.2.2.2.2.2.2.2 h) (by decide) rfl rfl (Nat.le_of_ble_eq_true rfl) dX13_mid_g1.2.2.2.2.2.1 (fun s4 h => ?_)
      refine r_aload_n hE 0 dX13_mid_g1.2.2.2.2.2.2.1 rfl rfl ?_
      refine m_callVv hE hm [] [] mc_by (km_by hm.2.2.2.2.2.2.2.2 h) (by decide) rfl rfl (Nat.le_of_ble_eq_true rfl) dX13_mid_g1.2.2.2.2.2.2.2.1 (fun s5 h => ?_)
      refine r_aload_n hE 0 dX13_mid_g1.2.2.2.2.2.2.2.2.1 rfl rfl ?_
      refine r_iload_n hE 3 dX13_mid_g1.2.2.2.2.2.2.2.2.2.1 rfl rfl ?_
      refine r_iload hE 4 dX13_mid_g1.2.2.2.2.2.2.2.2.2.2.1 rfl ?_
      refine m_callVv hE hm [.int v3, .int v4] [] mc_keep (km_keep hm.2.2.2.2.2.2.2.2 h) (by decide) rfl rfl (Nat.le_of_ble_eq_true rfl) dX13_mid_g1.2.2.2.2.2.2.2.2.2.2.2.1 (fun s6 h => ?_)
      obtain ⟨x7, ex7⟩ : ∃ z : Int32, z = v4 + (1 : Int32) := ⟨_, rfl⟩
      have h := h x7 ex7
      refine r_iinc (v := x7) hE [(4, .int x7), (0, .ref (G.1 0)), (1, .int v1), (2, .int v2), (3, .int v3)] 4 dX13_mid_g1.2.2.2.2.2.2.2.2.2.2.2.2.1 rfl (by rw [ex7]; rfl) hN (by decide) rfl ?_
      refine r_goto hE 9 dX13_mid_g1.2.2.2.2.2.2.2.2.2.2.2.2.2.1 (by decide) ?_
      refine r_pick [1, 2, 3, 4, 0] rfl ?_
      exact ih _ _ _ _ _ h
def wm_mid (post : MS → Int32 → Prop) (σ : MS) (a1 : Int32) (a2 : Int32) : Prop := wm_newThing (fun (s8 : MS) (r9 : Int32) => ∃ k : Nat, wm_mid_9 post k s8 a1 a2 r9 (0 : Int32)) σ (1 : Int32)
set_option maxRecDepth 20000 in
theorem km_mid {l : Launch} {D : va_G} {cl : List vw_C} {G : gAd} {post : MS → Int32 → Prop} (hcl : mC cl) {σ : MS} {a1 : Int32} {a2 : Int32} (h : wm_mid post σ a1 a2) : mMet l D cl G yX13_mid cX13_mid 5 (some .int) 4 [.ref (G.1 0), .int a1, .int a2] σ (qI post) := by
  unfold wm_mid at h
  refine m_enter hcl (by decide +kernel) rfl [(0, .ref (G.1 0)), (1, .int a1), (2, .int a2)] rfl (Nat.le_of_ble_eq_true rfl) ?_
  intro E hE hm hF
  have hN := hm.2.2.2.2.2.2.1
  refine r_aload_n hE 0 dX13_mid_g0.1 rfl rfl ?_
  refine r_iconst (v := (1 : Int32)) hE dX13_mid_g0.2.1 (by decide) ?_
  refine m_callVi hE hm [.int (1 : Int32)] [] mc_newThing (km_newThing hm.2.2.2.2.2.2.2.2 h) (by decide) rfl rfl (Nat.le_of_ble_eq_true rfl) dX13_mid_g0.2.2.1 (fun s8 r9 h => ?_)
  refine r_istore_n hE [(3, .int r9), (0, .ref (G.1 0)), (1, .int a1), (2, .int a2)] dX13_mid_g0.2.2.2.1 rfl hN (by decide) rfl ?_
  refine r_iconst (v := (0 : Int32)) hE dX13_mid_g0.2.2.2.2.1 (by decide) ?_
  refine r_istore hE [(4, .int (0 : Int32)), (3, .int r9), (0, .ref (G.1 0)), (1, .int a1), (2, .int a2)] dX13_mid_g0.2.2.2.2.2.1 hN (by decide) rfl ?_
  refine r_pick [2, 3, 4, 1, 0] rfl ?_
  obtain ⟨k, h⟩ := h
  exact km_mid_9 hE hm hF k _ _ _ _ _ h
/-! through -/
def wm_through (post : MS → Prop) (σ : MS) (a1 : Int32) (a2 : Int32) : Prop := wm_part (fun (s1 : MS) => wm_part (fun (s2 : MS) => wm_times (fun (s3 : MS) => wm_part (fun (s4 : MS) => wm_part (fun (s5 : MS) => wm_times (fun (s6 : MS) => wm_plus (fun (s7 : MS) => post s7) s6) s5) s4 a2 (1 : Int32)) s3 a1 (1 : Int32)) s2) s1 a2 (0 : Int32)) σ a1 (0 : Int32)
set_option maxRecDepth 20000 in
theorem km_through {l : Launch} {D : va_G} {cl : List vw_C} {G : gAd} {post : MS → Prop} (hcl : mC cl) {σ : MS} {a1 : Int32} {a2 : Int32} (h : wm_through post σ a1 a2) : mMet l D cl G yX13_through cX13_through 3 none 4 [.ref (G.1 0), .int a1, .int a2] σ (qV post) := by
  unfold wm_through at h
  refine m_enter hcl (by decide +kernel) rfl [(0, .ref (G.1 0)), (1, .int a1), (2, .int a2)] rfl (Nat.le_of_ble_eq_true rfl) ?_
  intro E hE hm hF
  have hN := hm.2.2.2.2.2.2.1
  refine r_aload_n hE 0 dX13_through_g0.1 rfl rfl ?_
  refine r_iload_n hE 1 dX13_through_g0.2.1 rfl rfl ?_
  refine r_iconst (v := (0 : Int32)) hE dX13_through_g0.2.2.1 (by decide) ?_
  refine m_callVv hE hm [.int a1, .int (0 : Int32)] [] mc_part (km_part hm.2.2.2.2.2.2.2.2 h) (by decide) rfl rfl (Nat.le_of_ble_eq_true rfl) dX13_through_g0.2.2.2.1 (fun s1 h => ?_)
  refine r_aload_n hE 0 dX13_through_g0.2.2.2.2.1 rfl rfl ?_
  refine r_iload_n hE 2 dX13_through_g0.2.2.2.2.2.1 rfl rfl ?_
  refine r_iconst (v := (0 : Int32)) hE dX13_through_g0.2.2.2.2.2.2.1 (by decide) ?_
  refine m_callVv hE hm [.int a2, .int (0 : Int32)] [] mc_part (km_part hm.2.2.2.2.2.2.2.2 h) (by decide) rfl rfl (Nat.le_of_ble_eq_true rfl) dX13_through_g0.2.2.2.2.2.2.2.1 (fun s2 h => ?_)
  refine r_aload_n hE 0 dX13_through_g0.2.2.2.2.2.2.2.2.1 rfl rfl ?_
  refine m_callVv hE hm [] [] mc_times (km_times hm.2.2.2.2.2.2.2.2 h) (by decide) rfl rfl (Nat.le_of_ble_eq_true rfl) dX13_through_g0.2.2.2.2.2.2.2.2.2.1 (fun s3 h => ?_)
  refine r_aload_n hE 0 dX13_through_g0.2.2.2.2.2.2.2.2.2.2.1 rfl rfl ?_
  refine r_iload_n hE 1 dX13_through_g0.2.2.2.2.2.2.2.2.2.2.2.1 rfl rfl ?_
  refine r_iconst (v := (1 : Int32)) hE dX13_through_g0.2.2.2.2.2.2.2.2.2.2.2.2.1 (by decide) ?_
  refine m_callVv hE hm [.int a1, .int (1 : Int32)] [] mc_part (km_part hm.2.2.2.2.2.2.2.2 h) (by decide) rfl rfl (Nat.le_of_ble_eq_true rfl) dX13_through_g0.2.2.2.2.2.2.2.2.2.2.2.2.2.1 (fun s4 h => ?_)
  refine r_aload_n hE 0 dX13_through_g0.2.2.2.2.2.2.2.2.2.2.2.2.2.2.1 rfl rfl ?_
  refine r_iload_n hE 2 dX13_through_g0.2.2.2.2.2.2.2.2.2.2.2.2.2.2.2 rfl rfl ?_
  refine r_iconst (v := (1 : Int32)) hE dX13_through_g1.1 (by decide) ?_
  refine m_callVv hE hm [.int a2, .int (1 : Int32)] [] mc_part (km_part hm.2.2.2.2.2.2.2.2 h) (by decide) rfl rfl (Nat.le_of_ble_eq_true rfl) dX13_through_g1.2.1 (fun s5 h => ?_)
  refine r_aload_n hE 0 dX13_through_g1.2.2.1 rfl rfl ?_
  refine m_callVv hE hm [] [] mc_times (km_times hm.2.2.2.2.2.2.2.2 h) (by decide) rfl rfl (Nat.le_of_ble_eq_true rfl) dX13_through_g1.2.2.2.1 (fun s6 h => ?_)
  refine r_aload_n hE 0 dX13_through_g1.2.2.2.2.1 rfl rfl ?_
  refine m_callVv hE hm [] [] mc_plus (km_plus hm.2.2.2.2.2.2.2.2 h) (by decide) rfl rfl (Nat.le_of_ble_eq_true rfl) dX13_through_g1.2.2.2.2.2.1 (fun s7 h => ?_)
  exact m_vret hE hm hF dX13_through_g1.2.2.2.2.2.2 h
/-! par -/
def wm_par (post : MS → Int32 → Prop) (σ : MS) (a1 : Int32) (a2 : Int32) : Prop := wm_newThing (fun (s1 : MS) (r2 : Int32) => wm_part (fun (s3 : MS) => wm_keep (fun (s4 : MS) => wm_part (fun (s5 : MS) => wm_keep (fun (s6 : MS) => wm_through (fun (s7 : MS) => wm_keep (fun (s8 : MS) => post s8 r2) s7 r2 (2 : Int32)) s6 a2 a1) s5 r2 (1 : Int32)) s4 a2 (1 : Int32)) s3 r2 (0 : Int32)) s1 a2 (0 : Int32)) σ (3 : Int32)
set_option maxRecDepth 20000 in
theorem km_par {l : Launch} {D : va_G} {cl : List vw_C} {G : gAd} {post : MS → Int32 → Prop} (hcl : mC cl) {σ : MS} {a1 : Int32} {a2 : Int32} (h : wm_par post σ a1 a2) : mMet l D cl G yX13_par cX13_par 4 (some .int) 5 [.ref (G.1 0), .int a1, .int a2] σ (qI post) := by
  unfold wm_par at h
  refine m_enter hcl (by decide +kernel) rfl [(0, .ref (G.1 0)), (1, .int a1), (2, .int a2)] rfl (Nat.le_of_ble_eq_true rfl) ?_
  intro E hE hm hF
  have hN := hm.2.2.2.2.2.2.1
  refine r_aload_n hE 0 dX13_par_g0.1 rfl rfl ?_
  refine r_iconst (v := (3 : Int32)) hE dX13_par_g0.2.1 (by decide) ?_
  refine m_callVi hE hm [.int (3 : Int32)] [] mc_newThing (km_newThing hm.2.2.2.2.2.2.2.2 h) (by decide) rfl rfl (Nat.le_of_ble_eq_true rfl) dX13_par_g0.2.2.1 (fun s1 r2 h => ?_)
  refine r_istore_n hE [(3, .int r2), (0, .ref (G.1 0)), (1, .int a1), (2, .int a2)] dX13_par_g0.2.2.2.1 rfl hN (by decide) rfl ?_
  refine r_aload_n hE 1 dX13_par_g0.2.2.2.2.1 rfl rfl ?_
  refine r_iload_n hE 3 dX13_par_g0.2.2.2.2.2.1 rfl rfl ?_
  refine r_iconst (v := (0 : Int32)) hE dX13_par_g0.2.2.2.2.2.2.1 (by decide) ?_
  refine m_callVv hE hm [.int a2, .int (0 : Int32)] [] mc_part (km_part hm.2.2.2.2.2.2.2.2 h) (by decide) rfl rfl (Nat.le_of_ble_eq_true rfl) dX13_par_g0.2.2.2.2.2.2.2.1 (fun s3 h => ?_)
  refine r_aload_n hE 1 dX13_par_g0.2.2.2.2.2.2.2.2.1 rfl rfl ?_
  refine r_iload_n hE 0 dX13_par_g0.2.2.2.2.2.2.2.2.2.1 rfl rfl ?_
  refine r_iconst (v := (0 : Int32)) hE dX13_par_g0.2.2.2.2.2.2.2.2.2.2.1 (by decide) ?_
  refine m_callVv hE hm [.int r2, .int (0 : Int32)] [] mc_keep (km_keep hm.2.2.2.2.2.2.2.2 h) (by decide) rfl rfl (Nat.le_of_ble_eq_true rfl) dX13_par_g0.2.2.2.2.2.2.2.2.2.2.2.1 (fun s4 h => ?_)
  refine r_aload_n hE 1 dX13_par_g0.2.2.2.2.2.2.2.2.2.2.2.2.1 rfl rfl ?_
  refine r_iload_n hE 3 dX13_par_g0.2.2.2.2.2.2.2.2.2.2.2.2.2.1 rfl rfl ?_
  refine r_iconst (v := (1 : Int32)) hE dX13_par_g0.2.2.2.2.2.2.2.2.2.2.2.2.2.2.1 (by decide) ?_
  refine m_callVv hE hm [.int a2, .int (1 : Int32)] [] mc_part (km_part hm.2.2.2.2.2.2.2.2 h) (by decide) rfl rfl (Nat.le_of_ble_eq_true rfl) dX13_par_g0.2.2.2.2.2.2.2.2.2.2.2.2.2.2.2 (fun s5 h => ?_)
  refine r_aload_n hE 1 dX13_par_g1.1 rfl rfl ?_
  refine r_iload_n hE 0 dX13_par_g1.2.1 rfl rfl ?_
  refine r_iconst (v := (1 : Int32)) hE dX13_par_g1.2.2.1 (by decide) ?_
  refine m_callVv hE hm [.int r2, .int (1 : Int32)] [] mc_keep (km_keep hm.2.2.2.2.2.2.2.2 h) (by decide) rfl rfl (Nat.le_of_ble_eq_true rfl) dX13_par_g1.2.2.2.1 (fun s6 h => ?_)
  refine r_aload_n hE 1 dX13_par_g1.2.2.2.2.1 rfl rfl ?_
  refine r_iload_n hE 3 dX13_par_g1.2.2.2.2.2.1 rfl rfl ?_
  refine r_iload_n hE 2 dX13_par_g1.2.2.2.2.2.2.1 rfl rfl ?_
  refine m_callVv hE hm [.int a2, .int a1] [] mc_through (km_through hm.2.2.2.2.2.2.2.2 h) (by decide) rfl rfl (Nat.le_of_ble_eq_true rfl) dX13_par_g1.2.2.2.2.2.2.2.1 (fun s7 h => ?_)
  refine r_aload_n hE 1 dX13_par_g1.2.2.2.2.2.2.2.2.1 rfl rfl ?_
  refine r_iload_n hE 0 dX13_par_g1.2.2.2.2.2.2.2.2.2.1 rfl rfl ?_
  refine r_iconst (v := (2 : Int32)) hE dX13_par_g1.2.2.2.2.2.2.2.2.2.2.1 (by decide) ?_
  refine m_callVv hE hm [.int r2, .int (2 : Int32)] [] mc_keep (km_keep hm.2.2.2.2.2.2.2.2 h) (by decide) rfl rfl (Nat.le_of_ble_eq_true rfl) dX13_par_g1.2.2.2.2.2.2.2.2.2.2.2.1 (fun s8 h => ?_)
  refine r_iload_n hE 0 dX13_par_g1.2.2.2.2.2.2.2.2.2.2.2.2.1 rfl rfl ?_
  exact m_iret hE hm hF dX13_par_g1.2.2.2.2.2.2.2.2.2.2.2.2.2 h
