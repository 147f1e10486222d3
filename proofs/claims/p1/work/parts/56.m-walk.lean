/-! step -/
def wm_step_35 (post : MS → Int32 → Prop) (σ : MS) : Prop := ((¬ ((m_spent σ) = (0 : Int32))) → (post σ (0 : Int32))) ∧ (((m_spent σ) = (0 : Int32)) → (post σ (1 : Int32)))
set_option maxRecDepth 20000 in
theorem km_step_35 {E : gEnv} {l : Launch} {D : va_G} {cl : List vw_C} {G : gAd} {post : MS → Int32 → Prop} (hE : gOK E cX13_step RX13 (some .boolean) 1) (hm : mOK E l D cl G (qI post) 1) (hF : gFin E) (σ : MS) (h : wm_step_35 post σ) : GW E (mW G σ) 35 [(0, .ref (G.1 0))] [] := by
  unfold wm_step_35 at h
  have hN := hm.2.2.2.2.2.2.1
  refine r_aload_n hE 0 dX13_step_g1.2.1 rfl rfl ?_
  refine mg_spent hE hm dX13_step_g1.2.2.1 ?_
  refine r_if_ne hE 46 dX13_step_g1.2.2.2.1 (by decide) h (fun h => ?_) (fun h => ?_)
  · refine r_iconst (v := (0 : Int32)) hE dX13_step_g1.2.2.2.2.2.2.1 (by decide) ?_
    exact m_zret hE hm hF dX13_step_g1.2.2.2.2.2.2.2 (Or.inl rfl) h
  · refine r_iconst (v := (1 : Int32)) hE dX13_step_g1.2.2.2.2.1 (by decide) ?_
    refine r_goto hE 47 dX13_step_g1.2.2.2.2.2.1 (by decide) ?_
    exact m_zret hE hm hF dX13_step_g1.2.2.2.2.2.2.2 (Or.inr rfl) h
def wm_step (post : MS → Int32 → Prop) (σ : MS) : Prop := ((¬ ((m_steps σ) = (400 : Int32))) → (((¬ ((m_spent σ) = (0 : Int32))) → (wm_step_35 post σ)) ∧ (((m_spent σ) = (0 : Int32)) → (∀ s1 : MS, s1 = m_steps_s σ ((m_steps σ) + (1 : Int32)) → wm_step_35 post s1)))) ∧ (((m_steps σ) = (400 : Int32)) → (∀ s2 : MS, s2 = m_spent_s σ (1 : Int32) → wm_step_35 post s2))
set_option maxRecDepth 20000 in
theorem km_step {l : Launch} {D : va_G} {cl : List vw_C} {G : gAd} {post : MS → Int32 → Prop} (hcl : mC cl) {σ : MS} (h : wm_step post σ) : mMet l D cl G yX13_step cX13_step 1 (some .boolean) 1 [.ref (G.1 0)] σ (qI post) := by
  unfold wm_step at h
  refine m_enter hcl (by decide +kernel) rfl [(0, .ref (G.1 0))] rfl (Nat.le_of_ble_eq_true rfl) ?_
  intro E hE hm hF
  have hN := hm.2.2.2.2.2.2.1
  refine r_aload_n hE 0 dX13_step_g0.1 rfl rfl ?_
  refine mg_steps hE hm dX13_step_g0.2.1 ?_
  refine r_sipush (v := (400 : Int32)) hE dX13_step_g0.2.2.1 (by decide) ?_
  refine r_icmp_ne hE 18 dX13_step_g0.2.2.2.1 (by decide) h (fun h => ?_) (fun h => ?_)
  · refine r_aload_n hE 0 dX13_step_g0.2.2.2.2.2.2.2.2.1 rfl rfl ?_
    refine mg_spent hE hm dX13_step_g0.2.2.2.2.2.2.2.2.2.1 ?_
    refine r_if_ne hE 35 dX13_step_g0.2.2.2.2.2.2.2.2.2.2.1 (by decide) h (fun h => ?_) (fun h => ?_)
    · exact km_step_35 hE hm hF _ h
    · refine r_aload_n hE 0 dX13_step_g0.2.2.2.2.2.2.2.2.2.2.2.1 rfl rfl ?_
      refine r_dup hE dX13_step_g0.2.2.2.2.2.2.2.2.2.2.2.2.1 rfl ?_
      refine mg_steps hE hm dX13_step_g0.2.2.2.2.2.2.2.2.2.2.2.2.2.1 ?_
      refine r_iconst (v := (1 : Int32)) hE dX13_step_g0.2.2.2.2.2.2.2.2.2.2.2.2.2.2.1 (by decide) ?_
      refine r_iadd hE dX13_step_g0.2.2.2.2.2.2.2.2.2.2.2.2.2.2.2 ?_
      refine mp_steps hE hm dX13_step_g1.1 h (fun s1 h => ?_)
      exact km_step_35 hE hm hF _ h
  · refine r_aload_n hE 0 dX13_step_g0.2.2.2.2.1 rfl rfl ?_
    refine r_iconst (v := (1 : Int32)) hE dX13_step_g0.2.2.2.2.2.1 (by decide) ?_
    refine mp_spent hE hm dX13_step_g0.2.2.2.2.2.2.1 (Or.inr rfl) h (fun s2 h => ?_)
    refine r_goto hE 35 dX13_step_g0.2.2.2.2.2.2.2.1 (by decide) ?_
    exact km_step_35 hE hm hF _ h
/-! turnAgain -/
def wm_turnAgain (post : MS → Prop) (σ : MS) (a1 : Int32) (a2 : Int64) : Prop := (((lg_cmp a2 (0 : Int64)) ≤ (0 : Int32)) → (post σ)) ∧ ((¬ ((lg_cmp a2 (0 : Int64)) ≤ (0 : Int32))) → (wm_step (fun (s1 : MS) (r2 : Int32) => ((r2 = (0 : Int32)) → (post s1)) ∧ ((¬ (r2 = (0 : Int32))) → (wm_later (fun (s3 : MS) => vp_in a1 600 ∧ (wm_later (fun (s4 : MS) => post s4) s3 (0 : Int32) (m_two s3 a1.toNatClampNeg) (0 : Int64))) s1 (4 : Int32) a1 (a2 - (1 : Int64))))) σ))
set_option maxRecDepth 20000 in
theorem km_turnAgain {l : Launch} {D : va_G} {cl : List vw_C} {G : gAd} {post : MS → Prop} (hcl : mC cl) {σ : MS} {a1 : Int32} {a2 : Int64} (h : wm_turnAgain post σ a1 a2) : mMet l D cl G yX13_turnAgain cX13_turnAgain 4 none 2 [.ref (G.1 0), .int a1, .long a2] σ (qV post) := by
  unfold wm_turnAgain at h
  refine m_enter hcl (by decide +kernel) rfl [(0, .ref (G.1 0)), (1, .int a1), (2, .long a2)] rfl (Nat.le_of_ble_eq_true rfl) ?_
  intro E hE hm hF
  have hN := hm.2.2.2.2.2.2.1
  refine r_lload_n hE 2 dX13_turnAgain_g0.1 rfl rfl ?_
  refine r_lconst (v := (0 : Int64)) hE dX13_turnAgain_g0.2.1 (by decide) ?_
  refine r_lcmp hE dX13_turnAgain_g0.2.2.1 ?_
  refine r_if_le hE 34 dX13_turnAgain_g0.2.2.2.1 (by decide) h (fun h => ?_) (fun h => ?_)
  · exact m_vret hE hm hF dX13_turnAgain_g1.2.2.2.2.2.2 h
  · refine r_aload_n hE 0 dX13_turnAgain_g0.2.2.2.2.1 rfl rfl ?_
    refine m_callVi hE hm [] [] mc_step (km_step hm.2.2.2.2.2.2.2.2 h) (by decide) rfl rfl (Nat.le_of_ble_eq_true rfl) dX13_turnAgain_g0.2.2.2.2.2.1 (fun s1 r2 h => ?_)
    refine r_if_eq hE 34 dX13_turnAgain_g0.2.2.2.2.2.2.1 (by decide) h (fun h => ?_) (fun h => ?_)
    · exact m_vret hE hm hF dX13_turnAgain_g1.2.2.2.2.2.2 h
    · refine r_aload_n hE 0 dX13_turnAgain_g0.2.2.2.2.2.2.2.1 rfl rfl ?_
      refine r_iconst (v := (4 : Int32)) hE dX13_turnAgain_g0.2.2.2.2.2.2.2.2.1 (by decide) ?_
      refine r_iload_n hE 1 dX13_turnAgain_g0.2.2.2.2.2.2.2.2.2.1 rfl rfl ?_
      refine r_lload_n hE 2 dX13_turnAgain_g0.2.2.2.2.2.2.2.2.2.2.1 rfl rfl ?_
      refine r_lconst (v := (1 : Int64)) hE dX13_turnAgain_g0.2.2.2.2.2.2.2.2.2.2.2.1 (by decide) ?_
      refine r_lsub hE dX13_turnAgain_g0.2.2.2.2.2.2.2.2.2.2.2.2.1 ?_
      refine m_callVv hE hm [.int (4 : Int32), .int a1, .long (a2 - (1 : Int64))] [] mc_later (km_later hm.2.2.2.2.2.2.2.2 h) (by decide) rfl rfl (Nat.le_of_ble_eq_true rfl) dX13_turnAgain_g0.2.2.2.2.2.2.2.2.2.2.2.2.2.1 (fun s3 h => ?_)
      refine r_aload_n hE 0 dX13_turnAgain_g0.2.2.2.2.2.2.2.2.2.2.2.2.2.2.1 rfl rfl ?_
      refine r_iconst (v := (0 : Int32)) hE dX13_turnAgain_g0.2.2.2.2.2.2.2.2.2.2.2.2.2.2.2 (by decide) ?_
      refine r_aload_n hE 0 dX13_turnAgain_g1.1 rfl rfl ?_
      refine mg_two hE hm dX13_turnAgain_g1.2.1 ?_
      refine r_iload_n hE 1 dX13_turnAgain_g1.2.2.1 rfl rfl ?_
      obtain ⟨hi, h⟩ := h
      refine ml_two hE hm dX13_turnAgain_g1.2.2.2.1 hi ?_
      refine r_lconst (v := (0 : Int64)) hE dX13_turnAgain_g1.2.2.2.2.1 (by decide) ?_
      refine m_callVv hE hm [.int (0 : Int32), .int (m_two s3 a1.toNatClampNeg), .long (0 : Int64)] [] mc_later (km_later hm.2.2.2.2.2.2.2.2 h) (by decide) rfl rfl (Nat.le_of_ble_eq_true rfl) dX13_turnAgain_g1.2.2.2.2.2.1 (fun s4 h => ?_)
      exact m_vret hE hm hF dX13_turnAgain_g1.2.2.2.2.2.2 h
/-! argumentOf -/
def wm_argumentOf_10 (post : MS → Int32 → Prop) : Nat → MS → Int32 → Int32 → Int32 → Prop
  | 0, _, _, _, _ => False
  | n + 1, σ, v2, v3, v4 => ((v2 ≤ v4) → (post σ v3)) ∧ ((¬ (v2 ≤ v4)) → (((v3 < (0 : Int32)) → (post σ v3)) ∧ ((¬ (v3 < (0 : Int32))) → (vp_in v3 600 ∧ (∀ x1 : Int32, x1 = m_sister σ v3.toNatClampNeg → ∀ x2 : Int32, x2 = v4 + (1 : Int32) → wm_argumentOf_10 post n σ v2 x1 x2)))))
set_option maxRecDepth 20000 in
theorem km_argumentOf_10 {E : gEnv} {l : Launch} {D : va_G} {cl : List vw_C} {G : gAd} {post : MS → Int32 → Prop} (hE : gOK E cX13_argumentOf RX13 (some .int) 1) (hm : mOK E l D cl G (qI post) 5) (hF : gFin E) : ∀ (n : Nat) (σ : MS) (v2 : Int32) (v3 : Int32) (v4 : Int32), wm_argumentOf_10 post n σ v2 v3 v4 → GW E (mW G σ) 10 [(0, .ref (G.1 0)), (2, .int v2), (3, .int v3), (4, .int v4)] [] := by
  intro n
  induction n with
  | zero => intro σ v2 v3 v4 h; exact h.elim
  | succ n ih =>
    intro σ v2 v3 v4 h
    rw [wm_argumentOf_10] at h
    have hN := hm.2.2.2.2.2.2.1
    refine r_iload hE 3 dX13_argumentOf_g0.2.2.2.2.2.2.2.1 rfl ?_
    refine r_iload_n hE 1 dX13_argumentOf_g0.2.2.2.2.2.2.2.2.1 rfl rfl ?_
    refine r_icmp_ge hE 33 dX13_argumentOf_g0.2.2.2.2.2.2.2.2.2.1 (by decide) h (fun h => ?_) (fun h => ?_)
    · refine r_iload_n hE 2 dX13_argumentOf_g1.2.2.2.1 rfl rfl ?_
      exact m_iret hE hm hF dX13_argumentOf_g1.2.2.2.2 h
    · refine r_iload_n hE 2 dX13_argumentOf_g0.2.2.2.2.2.2.2.2.2.2.1 rfl rfl ?_
      refine r_if_lt hE 33 dX13_argumentOf_g0.2.2.2.2.2.2.2.2.2.2.2.1 (by decide) h (fun h => ?_) (fun h => ?_)
      · refine r_iload_n hE 2 dX13_argumentOf_g1.2.2.2.1 rfl rfl ?_
        exact m_iret hE hm hF dX13_argumentOf_g1.2.2.2.2 h
      · refine r_aload_n hE 0 dX13_argumentOf_g0.2.2.2.2.2.2.2.2.2.2.2.2.1 rfl rfl ?_
        refine mg_sister hE hm dX13_argumentOf_g0.2.2.2.2.2.2.2.2.2.2.2.2.2.1 ?_
        refine r_iload_n hE 2 dX13_argumentOf_g0.2.2.2.2.2.2.2.2.2.2.2.2.2.2.1 rfl rfl ?_
        obtain ⟨hi, h⟩ := h
        refine ml_sister hE hm dX13_argumentOf_g0.2.2.2.2.2.2.2.2.2.2.2.2.2.2.2 hi ?_
        refine r_topi h (fun x1 ex1 h => ?_)
        refine r_istore_n hE [(3, .int x1), (0, .ref (G.1 0)), (2, .int v2), (4, .int v4)] dX13_argumentOf_g1.1 rfl hN (by decide) rfl ?_
        obtain ⟨x2, ex2⟩ : ∃ z : Int32, z = v4 + (1 : Int32) := ⟨_, rfl⟩
        have h := h x2 ex2
        refine r_iinc (v := x2) hE [(4, .int x2), (3, .int x1), (0, .ref (G.1 0)), (2, .int v2)] 3 dX13_argumentOf_g1.2.1 rfl (by rw [ex2]; rfl) hN (by decide) rfl ?_
        refine r_goto hE 10 dX13_argumentOf_g1.2.2.1 (by decide) ?_
        refine r_pick [2, 3, 1, 0] rfl ?_
        exact ih _ _ _ _ h
def wm_argumentOf (post : MS → Int32 → Prop) (σ : MS) (a1 : Int32) (a2 : Int32) : Prop := vp_in a1 600 ∧ (∀ x3 : Int32, x3 = m_two σ a1.toNatClampNeg → ∃ k : Nat, wm_argumentOf_10 post k σ a2 x3 (0 : Int32))
set_option maxRecDepth 20000 in
theorem km_argumentOf {l : Launch} {D : va_G} {cl : List vw_C} {G : gAd} {post : MS → Int32 → Prop} (hcl : mC cl) {σ : MS} {a1 : Int32} {a2 : Int32} (h : wm_argumentOf post σ a1 a2) : mMet l D cl G yX13_argumentOf cX13_argumentOf 5 (some .int) 1 [.ref (G.1 0), .int a1, .int a2] σ (qI post) := by
  unfold wm_argumentOf at h
  refine m_enter hcl (by decide +kernel) rfl [(0, .ref (G.1 0)), (1, .int a1), (2, .int a2)] rfl (Nat.le_of_ble_eq_true rfl) ?_
  intro E hE hm hF
  have hN := hm.2.2.2.2.2.2.1
  refine r_aload_n hE 0 dX13_argumentOf_g0.1 rfl rfl ?_
  refine mg_two hE hm dX13_argumentOf_g0.2.1 ?_
  refine r_iload_n hE 1 dX13_argumentOf_g0.2.2.1 rfl rfl ?_
  obtain ⟨hi, h⟩ := h
  refine ml_two hE hm dX13_argumentOf_g0.2.2.2.1 hi ?_
  refine r_topi h (fun x3 ex3 h => ?_)
  refine r_istore_n hE [(3, .int x3), (0, .ref (G.1 0)), (1, .int a1), (2, .int a2)] dX13_argumentOf_g0.2.2.2.2.1 rfl hN (by decide) rfl ?_
  refine r_iconst (v := (0 : Int32)) hE dX13_argumentOf_g0.2.2.2.2.2.1 (by decide) ?_
  refine r_istore hE [(4, .int (0 : Int32)), (3, .int x3), (0, .ref (G.1 0)), (1, .int a1), (2, .int a2)] dX13_argumentOf_g0.2.2.2.2.2.2.1 hN (by decide) rfl ?_
  refine r_pick [2, 4, 1, 0] rfl ?_
  obtain ⟨k, h⟩ := h
  exact km_argumentOf_10 hE hm hF k _ _ _ _ h
/-! work -/
def wm_work_183 (post : MS → Prop) (σ : MS) (t1 : Int32) (t2 : Int32) : Prop := wm_later (fun (s1 : MS) => post s1) σ t1 t2 (0 : Int64)
set_option maxRecDepth 20000 in
theorem km_work_183 {E : gEnv} {l : Launch} {D : va_G} {cl : List vw_C} {G : gAd} {post : MS → Prop} (hE : gOK E cX13_work RX13 none 3) (hm : mOK E l D cl G (qV post) 3) (hF : gFin E) (σ : MS) (t1 : Int32) (t2 : Int32) (h : wm_work_183 post σ t1 t2) : GW E (mW G σ) 183 [] [.int t2, .int t1, .ref (G.1 0)] := by
  unfold wm_work_183 at h
  have hN := hm.2.2.2.2.2.2.1
  refine r_lconst (v := (0 : Int64)) hE dX13_work_g6.2.2.2.2.2.2.2.2.2.2.2.2.2.1 (by decide) ?_
  refine m_callVv hE hm [.int t1, .int t2, .long (0 : Int64)] [] mc_later (km_later hm.2.2.2.2.2.2.2.2 h) (by decide) rfl rfl (Nat.le_of_ble_eq_true rfl) dX13_work_g6.2.2.2.2.2.2.2.2.2.2.2.2.2.2.1 (fun s1 h => ?_)
  exact m_vret hE hm hF dX13_work_g6.2.2.2.2.2.2.2.2.2.2.2.2.2.2.2 h
def wm_work_146 (post : MS → Prop) (lp121 : MS → Int32 → Int32 → Prop) (σ : MS) (v1 : Int32) (v2 : Int32) : Prop := ∀ x2 : Int32, x2 = v2 + (-1 : Int32) → lp121 σ v1 x2
set_option maxRecDepth 20000 in
theorem km_work_146 {E : gEnv} {l : Launch} {D : va_G} {cl : List vw_C} {G : gAd} {post : MS → Prop} (hE : gOK E cX13_work RX13 none 3) (hm : mOK E l D cl G (qV post) 3) (hF : gFin E) {lp121 : MS → Int32 → Int32 → Prop} (hl121 : ∀ (σ : MS) (v1 : Int32) (v2 : Int32), lp121 σ v1 v2 → GW E (mW G σ) 121 [(0, .ref (G.1 0)), (1, .int v1), (2, .int v2)] []) (σ : MS) (v1 : Int32) (v2 : Int32) (h : wm_work_146 post lp121 σ v1 v2) : GW E (mW G σ) 146 [(0, .ref (G.1 0)), (1, .int v1), (2, .int v2)] [] := by
  unfold wm_work_146 at h
  have hN := hm.2.2.2.2.2.2.1
  obtain ⟨x2, ex2⟩ : ∃ z : Int32, z = v2 + (-1 : Int32) := ⟨_, rfl⟩
  have h := h x2 ex2
  refine r_iinc (v := x2) hE [(2, .int x2), (0, .ref (G.1 0)), (1, .int v1)] 2 dX13_work_g5.2.2.2.2.2.2.2.2.2.1 rfl (by rw [ex2]; rfl) hN (by decide) rfl ?_
  refine r_goto hE 121 dX13_work_g5.2.2.2.2.2.2.2.2.2.2.1 (by decide) ?_
  refine r_pick [1, 2, 0] rfl ?_
  exact hl121 _ _ _ h
def wm_work_121 (post : MS → Prop) : Nat → MS → Int32 → Int32 → Prop
  | 0, _, _, _ => False
  | n + 1, σ, v1, v2 => ((v2 < (0 : Int32)) → (post σ)) ∧ ((¬ (v2 < (0 : Int32))) → (wm_argumentOf (fun (s3 : MS) (r4 : Int32) => ((r4 < (0 : Int32)) → (wm_work_146 post (fun (ys : MS) (y0 : Int32) (y1 : Int32) => wm_work_121 post n ys y0 y1) s3 v1 v2)) ∧ ((¬ (r4 < (0 : Int32))) → (wm_argumentOf (fun (s5 : MS) (r6 : Int32) => wm_later (fun (s7 : MS) => wm_work_146 post (fun (ys : MS) (y0 : Int32) (y1 : Int32) => wm_work_121 post n ys y0 y1) s7 v1 v2) s5 (1 : Int32) r6 (0 : Int64)) s3 v1 v2))) σ v1 v2))
set_option maxRecDepth 20000 in
theorem km_work_121 {E : gEnv} {l : Launch} {D : va_G} {cl : List vw_C} {G : gAd} {post : MS → Prop} (hE : gOK E cX13_work RX13 none 3) (hm : mOK E l D cl G (qV post) 3) (hF : gFin E) : ∀ (n : Nat) (σ : MS) (v1 : Int32) (v2 : Int32), wm_work_121 post n σ v1 v2 → GW E (mW G σ) 121 [(0, .ref (G.1 0)), (1, .int v1), (2, .int v2)] [] := by
  intro n
  induction n with
  | zero => intro σ v1 v2 h; exact h.elim
  | succ n ih =>
    intro σ v1 v2 h
    rw [wm_work_121] at h
    have hN := hm.2.2.2.2.2.2.1
    refine r_iload_n hE 2 dX13_work_g4.2.2.2.2.2.2.2.2.2.2.1 rfl rfl ?_
    refine r_if_lt hE 152 dX13_work_g4.2.2.2.2.2.2.2.2.2.2.2.1 (by decide) h (fun h => ?_) (fun h => ?_)
    · refine r_goto hE 187 dX13_work_g5.2.2.2.2.2.2.2.2.2.2.2.1 (by decide) ?_
      exact m_vret hE hm hF dX13_work_g6.2.2.2.2.2.2.2.2.2.2.2.2.2.2.2 h
    · refine r_aload_n hE 0 dX13_work_g4.2.2.2.2.2.2.2.2.2.2.2.2.1 rfl rfl ?_
      refine r_iload_n hE 1 dX13_work_g4.2.2.2.2.2.2.2.2.2.2.2.2.2.1 rfl rfl ?_
      refine r_iload_n hE 2 dX13_work_g4.2.2.2.2.2.2.2.2.2.2.2.2.2.2.1 rfl rfl ?_
      refine m_callVi hE hm [.int v1, .int v2] [] mc_argumentOf (km_argumentOf hm.2.2.2.2.2.2.2.2 h) (by decide) rfl rfl (Nat.le_of_ble_eq_true rfl) dX13_work_g4.2.2.2.2.2.2.2.2.2.2.2.2.2.2.2 (fun s3 r4 h => ?_)
      refine r_if_lt hE 146 dX13_work_g5.1 (by decide) h (fun h => ?_) (fun h => ?_)
      · exact km_work_146 hE hm hF ih _ _ _ h
      · refine r_aload_n hE 0 dX13_work_g5.2.1 rfl rfl ?_
        refine r_iconst (v := (1 : Int32)) hE dX13_work_g5.2.2.1 (by decide) ?_
        refine r_aload_n hE 0 dX13_work_g5.2.2.2.1 rfl rfl ?_
        refine r_iload_n hE 1 dX13_work_g5.2.2.2.2.1 rfl rfl ?_
        refine r_iload_n hE 2 dX13_work_g5.2.2.2.2.2.1 rfl rfl ?_
        refine m_callVi hE hm [.int v1, .int v2] [.int (1 : Int32), .ref (G.1 0)] mc_argumentOf (km_argumentOf hm.2.2.2.2.2.2.2.2 h) (by decide) rfl rfl (Nat.le_of_ble_eq_true rfl) dX13_work_g5.2.2.2.2.2.2.1 (fun s5 r6 h => ?_)
        refine r_lconst (v := (0 : Int64)) hE dX13_work_g5.2.2.2.2.2.2.2.1 (by decide) ?_
        refine m_callVv hE hm [.int (1 : Int32), .int r6, .long (0 : Int64)] [] mc_later (km_later hm.2.2.2.2.2.2.2.2 h) (by decide) rfl rfl (Nat.le_of_ble_eq_true rfl) dX13_work_g5.2.2.2.2.2.2.2.2.1 (fun s7 h => ?_)
        exact km_work_146 hE hm hF ih _ _ _ h
def wm_work (post : MS → Prop) (σ : MS) (a1 : Int32) : Prop := vp_in a1 600 ∧ (((¬ ((m_kind σ a1.toNatClampNeg) = (7 : Int32))) → (vp_in a1 600 ∧ (((¬ ((m_kind σ a1.toNatClampNeg) = (8 : Int32))) → (wm_later (fun (s8 : MS) => vp_in a1 600 ∧ (((¬ ((m_kind s8 a1.toNatClampNeg) = (12 : Int32))) → (vp_in a1 600 ∧ (((¬ ((m_kind s8 a1.toNatClampNeg) = (10 : Int32))) → (vp_in a1 600 ∧ (((¬ ((m_kind s8 a1.toNatClampNeg) = (9 : Int32))) → (vp_in a1 600 ∧ (wm_work_183 post s8 (1 : Int32) (m_one s8 a1.toNatClampNeg)))) ∧ (((m_kind s8 a1.toNatClampNeg) = (9 : Int32)) → (vp_in a1 600 ∧ (wm_work_183 post s8 (1 : Int32) (m_two s8 a1.toNatClampNeg))))))) ∧ (((m_kind s8 a1.toNatClampNeg) = (10 : Int32)) → (∃ k : Nat, wm_work_121 post k s8 a1 (3 : Int32)))))) ∧ (((m_kind s8 a1.toNatClampNeg) = (12 : Int32)) → (vp_in a1 600 ∧ (wm_later (fun (s9 : MS) => vp_in a1 600 ∧ (wm_later (fun (s10 : MS) => post s10) s9 (1 : Int32) (m_two s9 a1.toNatClampNeg) (0 : Int64))) s8 (1 : Int32) (m_three s8 a1.toNatClampNeg) (0 : Int64)))))) σ (2 : Int32) a1 (0 : Int64))) ∧ (((m_kind σ a1.toNatClampNeg) = (8 : Int32)) → (vp_in a1 600 ∧ (vp_in (((20 : Int32) * (m_depth σ)) + (m_one σ a1.toNatClampNeg)) 180 ∧ (wm_comes (fun (s11 : MS) => post s11) σ (m_held σ (((20 : Int32) * (m_depth σ)) + (m_one σ a1.toNatClampNeg)).toNatClampNeg)))))))) ∧ (((m_kind σ a1.toNatClampNeg) = (7 : Int32)) → (vp_in a1 600 ∧ (wm_number (fun (s12 : MS) (r13 : Int32) => wm_comes (fun (s14 : MS) => post s14) s12 r13) σ (m_value σ a1.toNatClampNeg) (1 : Int64) (0 : Int32)))))
set_option maxRecDepth 20000 in
theorem km_work {l : Launch} {D : va_G} {cl : List vw_C} {G : gAd} {post : MS → Prop} (hcl : mC cl) {σ : MS} {a1 : Int32} (h : wm_work post σ a1) : mMet l D cl G yX13_work cX13_work 3 none 3 [.ref (G.1 0), .int a1] σ (qV post) := by
  unfold wm_work at h
  refine m_enter hcl (by decide +kernel) rfl [(0, .ref (G.1 0)), (1, .int a1)] rfl (Nat.le_of_ble_eq_true rfl) ?_
  intro E hE hm hF
  have hN := hm.2.2.2.2.2.2.1
  refine r_aload_n hE 0 dX13_work_g0.1 rfl rfl ?_
  refine mg_kind hE hm dX13_work_g0.2.1 ?_
  refine r_iload_n hE 1 dX13_work_g0.2.2.1 rfl rfl ?_
  obtain ⟨hi, h⟩ := h
  refine ml_kind hE hm dX13_work_g0.2.2.2.1 hi ?_
  refine r_bipush (v := (7 : Int32)) hE dX13_work_g0.2.2.2.2.1 (by decide) ?_
  refine r_icmp_ne hE 28 dX13_work_g0.2.2.2.2.2.1 (by decide) h (fun h => ?_) (fun h => ?_)
  · refine r_aload_n hE 0 dX13_work_g1.2.1 rfl rfl ?_
    refine mg_kind hE hm dX13_work_g1.2.2.1 ?_
    refine r_iload_n hE 1 dX13_work_g1.2.2.2.1 rfl rfl ?_
    obtain ⟨hi, h⟩ := h
    refine ml_kind hE hm dX13_work_g1.2.2.2.2.1 hi ?_
    refine r_bipush (v := (8 : Int32)) hE dX13_work_g1.2.2.2.2.2.1 (by decide) ?_
    refine r_icmp_ne hE 63 dX13_work_g1.2.2.2.2.2.2.1 (by decide) h (fun h => ?_) (fun h => ?_)
    · refine r_aload_n hE 0 dX13_work_g2.2.2.2.2.2.2.1 rfl rfl ?_
      refine r_iconst (v := (2 : Int32)) hE dX13_work_g2.2.2.2.2.2.2.2.1 (by decide) ?_
      refine r_iload_n hE 1 dX13_work_g2.2.2.2.2.2.2.2.2.1 rfl rfl ?_
      refine r_lconst (v := (0 : Int64)) hE dX13_work_g2.2.2.2.2.2.2.2.2.2.1 (by decide) ?_
      refine m_callVv hE hm [.int (2 : Int32), .int a1, .long (0 : Int64)] [] mc_later (km_later hm.2.2.2.2.2.2.2.2 h) (by decide) rfl rfl (Nat.le_of_ble_eq_true rfl) dX13_work_g2.2.2.2.2.2.2.2.2.2.2.1 (fun s8 h => ?_)
      refine r_aload_n hE 0 dX13_work_g2.2.2.2.2.2.2.2.2.2.2.2.1 rfl rfl ?_
      refine mg_kind hE hm dX13_work_g2.2.2.2.2.2.2.2.2.2.2.2.2.1 ?_
      refine r_iload_n hE 1 dX13_work_g2.2.2.2.2.2.2.2.2.2.2.2.2.2.1 rfl rfl ?_
      obtain ⟨hi, h⟩ := h
      refine ml_kind hE hm dX13_work_g2.2.2.2.2.2.2.2.2.2.2.2.2.2.2.1 hi ?_
      refine r_bipush (v := (12 : Int32)) hE dX13_work_g2.2.2.2.2.2.2.2.2.2.2.2.2.2.2.2 (by decide) ?_
      refine r_icmp_ne hE 108 dX13_work_g3.1 (by decide) h (fun h => ?_) (fun h => ?_)
      · refine r_aload_n hE 0 dX13_work_g4.2.2.1 rfl rfl ?_
        refine mg_kind hE hm dX13_work_g4.2.2.2.1 ?_
        refine r_iload_n hE 1 dX13_work_g4.2.2.2.2.1 rfl rfl ?_
        obtain ⟨hi, h⟩ := h
        refine ml_kind hE hm dX13_work_g4.2.2.2.2.2.1 hi ?_
        refine r_bipush (v := (10 : Int32)) hE dX13_work_g4.2.2.2.2.2.2.1 (by decide) ?_
        refine r_icmp_ne hE 155 dX13_work_g4.2.2.2.2.2.2.2.1 (by decide) h (fun h => ?_) (fun h => ?_)
        · refine r_aload_n hE 0 dX13_work_g5.2.2.2.2.2.2.2.2.2.2.2.2.1 rfl rfl ?_
          refine r_iconst (v := (1 : Int32)) hE dX13_work_g5.2.2.2.2.2.2.2.2.2.2.2.2.2.1 (by decide) ?_
          refine r_aload_n hE 0 dX13_work_g5.2.2.2.2.2.2.2.2.2.2.2.2.2.2.1 rfl rfl ?_
          refine mg_kind hE hm dX13_work_g5.2.2.2.2.2.2.2.2.2.2.2.2.2.2.2 ?_
          refine r_iload_n hE 1 dX13_work_g6.1 rfl rfl ?_
          obtain ⟨hi, h⟩ := h
          refine ml_kind hE hm dX13_work_g6.2.1 hi ?_
          refine r_bipush (v := (9 : Int32)) hE dX13_work_g6.2.2.1 (by decide) ?_
          refine r_icmp_ne hE 177 dX13_work_g6.2.2.2.1 (by decide) h (fun h => ?_) (fun h => ?_)
          · refine r_aload_n hE 0 dX13_work_g6.2.2.2.2.2.2.2.2.2.1 rfl rfl ?_
            refine mg_one hE hm dX13_work_g6.2.2.2.2.2.2.2.2.2.2.1 ?_
            refine r_iload_n hE 1 dX13_work_g6.2.2.2.2.2.2.2.2.2.2.2.1 rfl rfl ?_
            obtain ⟨hi, h⟩ := h
            refine ml_one hE hm dX13_work_g6.2.2.2.2.2.2.2.2.2.2.2.2.1 hi ?_
            refine r_pick [] rfl ?_
            exact km_work_183 hE hm hF _ _ _ h
          · refine r_aload_n hE 0 dX13_work_g6.2.2.2.2.1 rfl rfl ?_
            refine mg_two hE hm dX13_work_g6.2.2.2.2.2.1 ?_
            refine r_iload_n hE 1 dX13_work_g6.2.2.2.2.2.2.1 rfl rfl ?_
            obtain ⟨hi, h⟩ := h
            refine ml_two hE hm dX13_work_g6.2.2.2.2.2.2.2.1 hi ?_
            refine r_goto hE 183 dX13_work_g6.2.2.2.2.2.2.2.2.1 (by decide) ?_
            refine r_pick [] rfl ?_
            exact km_work_183 hE hm hF _ _ _ h
        · refine r_iconst (v := (3 : Int32)) hE dX13_work_g4.2.2.2.2.2.2.2.2.1 (by decide) ?_
          refine r_istore_n hE [(2, .int (3 : Int32)), (0, .ref (G.1 0)), (1, .int a1)] dX13_work_g4.2.2.2.2.2.2.2.2.2.1 rfl hN (by decide) rfl ?_
          refine r_pick [1, 2, 0] rfl ?_
          obtain ⟨k, h⟩ := h
          exact km_work_121 hE hm hF k _ _ _ h
      · refine r_aload_n hE 0 dX13_work_g3.2.1 rfl rfl ?_
        refine r_iconst (v := (1 : Int32)) hE dX13_work_g3.2.2.1 (by decide) ?_
        refine r_aload_n hE 0 dX13_work_g3.2.2.2.1 rfl rfl ?_
        refine mg_three hE hm dX13_work_g3.2.2.2.2.1 ?_
        refine r_iload_n hE 1 dX13_work_g3.2.2.2.2.2.1 rfl rfl ?_
        obtain ⟨hi, h⟩ := h
        refine ml_three hE hm dX13_work_g3.2.2.2.2.2.2.1 hi ?_
        refine r_lconst (v := (0 : Int64)) hE dX13_work_g3.2.2.2.2.2.2.2.1 (by decide) ?_
        refine m_callVv hE hm [.int (1 : Int32), .int (m_three s8 a1.toNatClampNeg), .long (0 : Int64)] [] mc_later (km_later hm.2.2.2.2.2.2.2.2 h) (by decide) rfl rfl (Nat.le_of_ble_eq_true rfl) dX13_work_g3.2.2.2.2.2.2.2.2.1 (fun s9 h => ?_)
        refine r_aload_n hE 0 dX13_work_g3.2.2.2.2.2.2.2.2.2.1 rfl rfl ?_
        refine r_iconst (v := (1 : Int32)) hE dX13_work_g3.2.2.2.2.2.2.2.2.2.2.1 (by decide) ?_
        refine r_aload_n hE 0 dX13_work_g3.2.2.2.2.2.2.2.2.2.2.2.1 rfl rfl ?_
        refine mg_two hE hm dX13_work_g3.2.2.2.2.2.2.2.2.2.2.2.2.1 ?_
        refine r_iload_n hE 1 dX13_work_g3.2.2.2.2.2.2.2.2.2.2.2.2.2.1 rfl rfl ?_
        obtain ⟨hi, h⟩ := h
        refine ml_two hE hm dX13_work_g3.2.2.2.2.2.2.2.2.2.2.2.2.2.2.1 hi ?_
        refine r_lconst (v := (0 : Int64)) hE dX13_work_g3.2.2.2.2.2.2.2.2.2.2.2.2.2.2.2 (by decide) ?_
        refine m_callVv hE hm [.int (1 : Int32), .int (m_two s9 a1.toNatClampNeg), .long (0 : Int64)] [] mc_later (km_later hm.2.2.2.2.2.2.2.2 h) (by decide) rfl rfl (Nat.le_of_ble_eq_true rfl) dX13_work_g4.1 (fun s10 h => ?_)
        refine r_goto hE 187 dX13_work_g4.2.1 (by decide) ?_
        exact m_vret hE hm hF dX13_work_g6.2.2.2.2.2.2.2.2.2.2.2.2.2.2.2 h
    · refine r_aload_n hE 0 dX13_work_g1.2.2.2.2.2.2.2.1 rfl rfl ?_
      refine r_aload_n hE 0 dX13_work_g1.2.2.2.2.2.2.2.2.1 rfl rfl ?_
      refine mg_held hE hm dX13_work_g1.2.2.2.2.2.2.2.2.2.1 ?_
      refine r_bipush (v := (20 : Int32)) hE dX13_work_g1.2.2.2.2.2.2.2.2.2.2.1 (by decide) ?_
      refine r_aload_n hE 0 dX13_work_g1.2.2.2.2.2.2.2.2.2.2.2.1 rfl rfl ?_
      refine mg_depth hE hm dX13_work_g1.2.2.2.2.2.2.2.2.2.2.2.2.1 ?_
      refine r_imul hE dX13_work_g1.2.2.2.2.2.2.2.2.2.2.2.2.2.1 ?_
      refine r_aload_n hE 0 dX13_work_g1.2.2.2.2.2.2.2.2.2.2.2.2.2.2.1 rfl rfl ?_
      refine mg_one hE hm dX13_work_g1.2.2.2.2.2.2.2.2.2.2.2.2.2.2.2 ?_
      refine r_iload_n hE 1 dX13_work_g2.1 rfl rfl ?_
      obtain ⟨hi, h⟩ := h
      refine ml_one hE hm dX13_work_g2.2.1 hi ?_
      refine r_iadd hE dX13_work_g2.2.2.1 ?_
      obtain ⟨hi, h⟩ := h
      refine ml_held hE hm dX13_work_g2.2.2.2.1 hi ?_
      refine m_callVv hE hm [.int (m_held σ (((20 : Int32) * (m_depth σ)) + (m_one σ a1.toNatClampNeg)).toNatClampNeg)] [] mc_comes (km_comes hm.2.2.2.2.2.2.2.2 h) (by decide) rfl rfl (Nat.le_of_ble_eq_true rfl) dX13_work_g2.2.2.2.2.1 (fun s11 h => ?_)
      exact m_vret hE hm hF dX13_work_g2.2.2.2.2.2.1 h
  · refine r_aload_n hE 0 dX13_work_g0.2.2.2.2.2.2.1 rfl rfl ?_
    refine r_aload_n hE 0 dX13_work_g0.2.2.2.2.2.2.2.1 rfl rfl ?_
    refine r_aload_n hE 0 dX13_work_g0.2.2.2.2.2.2.2.2.1 rfl rfl ?_
    refine mg_value hE hm dX13_work_g0.2.2.2.2.2.2.2.2.2.1 ?_
    refine r_iload_n hE 1 dX13_work_g0.2.2.2.2.2.2.2.2.2.2.1 rfl rfl ?_
    obtain ⟨hi, h⟩ := h
    refine ml_value hE hm dX13_work_g0.2.2.2.2.2.2.2.2.2.2.2.1 hi ?_
    refine r_lconst (v := (1 : Int64)) hE dX13_work_g0.2.2.2.2.2.2.2.2.2.2.2.2.1 (by decide) ?_
    refine r_iconst (v := (0 : Int32)) hE dX13_work_g0.2.2.2.2.2.2.2.2.2.2.2.2.2.1 (by decide) ?_
    refine m_callVi hE hm [.long (m_value σ a1.toNatClampNeg), .long (1 : Int64), .int (0 : Int32)] [.ref (G.1 0)] mc_number (km_number hm.2.2.2.2.2.2.2.2 h) (by decide) rfl rfl (Nat.le_of_ble_eq_true rfl) dX13_work_g0.2.2.2.2.2.2.2.2.2.2.2.2.2.2.1 (fun s12 r13 h => ?_)
    refine m_callVv hE hm [.int r13] [] mc_comes (km_comes hm.2.2.2.2.2.2.2.2 h) (by decide) rfl rfl (Nat.le_of_ble_eq_true rfl) dX13_work_g0.2.2.2.2.2.2.2.2.2.2.2.2.2.2.2 (fun s14 h => ?_)
    exact m_vret hE hm hF dX13_work_g1.1 h
/-! runAll -/
def wm_runAll_220 (post : MS → Prop) (lp25 : MS → Prop) (σ : MS) : Prop := lp25 σ
set_option maxRecDepth 20000 in
theorem km_runAll_220 {E : gEnv} {l : Launch} {D : va_G} {cl : List vw_C} {G : gAd} {post : MS → Prop} (hE : gOK E cX13_runAll RX13 none 11) (hm : mOK E l D cl G (qV post) 2) (hF : gFin E) {lp25 : MS → Prop} (hl25 : ∀ (σ : MS), lp25 σ → GW E (mW G σ) 25 [(0, .ref (G.1 0))] []) (σ : MS) (h : wm_runAll_220 post lp25 σ) : GW E (mW G σ) 220 [(0, .ref (G.1 0))] [] := by
  unfold wm_runAll_220 at h
  have hN := hm.2.2.2.2.2.2.1
  refine r_goto hE 25 dX13_runAll_g6.2.2.2.2.2.1 (by decide) ?_
  exact hl25 _ h
def wm_runAll_25 (post : MS → Prop) : Nat → MS → Prop
  | 0, _ => False
  | n + 1, σ => (((m_jobs σ) ≤ (0 : Int32)) → (post σ)) ∧ ((¬ ((m_jobs σ) ≤ (0 : Int32))) → (((¬ ((m_spent σ) = (0 : Int32))) → (post σ)) ∧ (((m_spent σ) = (0 : Int32)) → (∀ s1 : MS, s1 = m_jobs_s σ ((m_jobs σ) - (1 : Int32)) → vp_in (m_jobs s1) 2000 ∧ (∀ x2 : Int32, x2 = m_jobOf s1 (m_jobs s1).toNatClampNeg → vp_in (m_jobs s1) 2000 ∧ (((m_job s1 (m_jobs s1).toNatClampNeg) = (0 : Int32) → (((x2 < (0 : Int32)) → (wm_runAll_220 post (fun (ys : MS) => wm_runAll_25 post n ys) s1)) ∧ ((¬ (x2 < (0 : Int32))) → (vp_in x2 600 ∧ (wm_later (fun (s3 : MS) => wm_step (fun (s4 : MS) (r5 : Int32) => ((r5 = (0 : Int32)) → (wm_runAll_220 post (fun (ys : MS) => wm_runAll_25 post n ys) s4)) ∧ ((¬ (r5 = (0 : Int32))) → (wm_beginDeed (fun (s6 : MS) => wm_runAll_220 post (fun (ys : MS) => wm_runAll_25 post n ys) s6) s4 x2))) s3) s1 (0 : Int32) (m_sister s1 x2.toNatClampNeg) (0 : Int64)))))) ∧ (¬ (m_job s1 (m_jobs s1).toNatClampNeg) = (0 : Int32) → (((m_job s1 (m_jobs s1).toNatClampNeg) = (1 : Int32) → (wm_step (fun (s7 : MS) (r8 : Int32) => ((r8 = (0 : Int32)) → (wm_runAll_220 post (fun (ys : MS) => wm_runAll_25 post n ys) s7)) ∧ ((¬ (r8 = (0 : Int32))) → (wm_work (fun (s9 : MS) => wm_runAll_220 post (fun (ys : MS) => wm_runAll_25 post n ys) s9) s7 x2))) s1)) ∧ (¬ (m_job s1 (m_jobs s1).toNatClampNeg) = (1 : Int32) → (((m_job s1 (m_jobs s1).toNatClampNeg) = (2 : Int32) → (wm_apply (fun (s10 : MS) => wm_runAll_220 post (fun (ys : MS) => wm_runAll_25 post n ys) s10) s1 x2)) ∧ (¬ (m_job s1 (m_jobs s1).toNatClampNeg) = (2 : Int32) → (((m_job s1 (m_jobs s1).toNatClampNeg) = (3 : Int32) → (vp_in (m_jobs s1) 2000 ∧ (∀ s11 : MS, s11 = m_comes_s s1 ((m_jobWith s1 (m_jobs s1).toNatClampNeg).toInt32) → wm_endDeed (fun (s12 : MS) => wm_runAll_220 post (fun (ys : MS) => wm_runAll_25 post n ys) s12) s11 x2))) ∧ (¬ (m_job s1 (m_jobs s1).toNatClampNeg) = (3 : Int32) → (((m_job s1 (m_jobs s1).toNatClampNeg) = (4 : Int32) → (vp_in (m_jobs s1) 2000 ∧ (wm_turnAgain (fun (s13 : MS) => wm_runAll_220 post (fun (ys : MS) => wm_runAll_25 post n ys) s13) s1 x2 (m_jobWith s1 (m_jobs s1).toNatClampNeg)))) ∧ (¬ (m_job s1 (m_jobs s1).toNatClampNeg) = (4 : Int32) → (∀ s14 : MS, s14 = m_depth_s s1 ((m_depth s1) - (1 : Int32)) → wm_comes (fun (s15 : MS) => ∀ s16 : MS, s16 = m_gift_s s15 (-1 : Int32) → wm_runAll_220 post (fun (ys : MS) => wm_runAll_25 post n ys) s16) s14 (m_gift s14)))))))))))))))))
set_option maxRecDepth 20000 in
theorem km_runAll_25 {E : gEnv} {l : Launch} {D : va_G} {cl : List vw_C} {G : gAd} {post : MS → Prop} (hE : gOK E cX13_runAll RX13 none 11) (hm : mOK E l D cl G (qV post) 2) (hF : gFin E) : ∀ (n : Nat) (σ : MS), wm_runAll_25 post n σ → GW E (mW G σ) 25 [(0, .ref (G.1 0))] [] := by
  intro n
  induction n with
  | zero => intro σ h; exact h.elim
  | succ n ih =>
    intro σ h
    rw [wm_runAll_25] at h
    have hN := hm.2.2.2.2.2.2.1
    refine r_aload_n hE 0 dX13_runAll_g0.2.2.2.2.2.2.2.2.2.2.2.2.2.2.2 rfl rfl ?_
    refine mg_jobs hE hm dX13_runAll_g1.1 ?_
    refine r_if_le hE 223 dX13_runAll_g1.2.1 (by decide) h (fun h => ?_) (fun h => ?_)
    · exact m_vret hE hm hF dX13_runAll_g6.2.2.2.2.2.2 h
    · refine r_aload_n hE 0 dX13_runAll_g1.2.2.1 rfl rfl ?_
      refine mg_spent hE hm dX13_runAll_g1.2.2.2.1 ?_
      refine r_if_ne hE 223 dX13_runAll_g1.2.2.2.2.1 (by decide) h (fun h => ?_) (fun h => ?_)
      · exact m_vret hE hm hF dX13_runAll_g6.2.2.2.2.2.2 h
      · refine r_aload_n hE 0 dX13_runAll_g1.2.2.2.2.2.1 rfl rfl ?_
        refine r_dup hE dX13_runAll_g1.2.2.2.2.2.2.1 rfl ?_
        refine mg_jobs hE hm dX13_runAll_g1.2.2.2.2.2.2.2.1 ?_
        refine r_iconst (v := (1 : Int32)) hE dX13_runAll_g1.2.2.2.2.2.2.2.2.1 (by decide) ?_
        refine r_isub hE dX13_runAll_g1.2.2.2.2.2.2.2.2.2.1 ?_
        refine mp_jobs hE hm dX13_runAll_g1.2.2.2.2.2.2.2.2.2.2.1 h (fun s1 h => ?_)
        refine r_aload_n hE 0 dX13_runAll_g1.2.2.2.2.2.2.2.2.2.2.2.1 rfl rfl ?_
        refine mg_jobOf hE hm dX13_runAll_g1.2.2.2.2.2.2.2.2.2.2.2.2.1 ?_
        refine r_aload_n hE 0 dX13_runAll_g1.2.2.2.2.2.2.2.2.2.2.2.2.2.1 rfl rfl ?_
        refine mg_jobs hE hm dX13_runAll_g1.2.2.2.2.2.2.2.2.2.2.2.2.2.2.1 ?_
        obtain ⟨hi, h⟩ := h
        refine ml_jobOf hE hm dX13_runAll_g1.2.2.2.2.2.2.2.2.2.2.2.2.2.2.2 hi ?_
        refine r_topi h (fun x2 ex2 h => ?_)
        refine r_istore_n hE [(1, .int x2), (0, .ref (G.1 0))] dX13_runAll_g2.1 rfl hN (by decide) rfl ?_
        refine r_aload_n hE 1 dX13_runAll_g2.2.1 rfl rfl ?_
        refine mg_job hE hm dX13_runAll_g2.2.2.1 ?_
        refine r_aload_n hE 1 dX13_runAll_g2.2.2.2.1 rfl rfl ?_
        refine mg_jobs hE hm dX13_runAll_g2.2.2.2.2.1 ?_
        obtain ⟨hi, h⟩ := h
        refine ml_job hE hm dX13_runAll_g2.2.2.2.2.2.1 hi ?_
        refine r_case (0 : Int32) h (fun q0 h => ?_) (fun q0 h => ?_)
        · refine r_tableAt (off := 36) hE (0 : Int32) 104 dX13_runAll_g2.2.2.2.2.2.2.1 q0 (by decide) (by decide) (by decide) (by decide) ?_
          refine r_iload_n hE 0 dX13_runAll_g2.2.2.2.2.2.2.2.1 rfl rfl ?_
          refine r_if_lt hE 220 dX13_runAll_g2.2.2.2.2.2.2.2.2.1 (by decide) h (fun h => ?_) (fun h => ?_)
          · refine r_pick [1] rfl ?_
            exact km_runAll_220 hE hm hF ih _ h
          · refine r_aload_n hE 1 dX13_runAll_g2.2.2.2.2.2.2.2.2.2.1 rfl rfl ?_
            refine r_iconst (v := (0 : Int32)) hE dX13_runAll_g2.2.2.2.2.2.2.2.2.2.2.1 (by decide) ?_
            refine r_aload_n hE 1 dX13_runAll_g2.2.2.2.2.2.2.2.2.2.2.2.1 rfl rfl ?_
            refine mg_sister hE hm dX13_runAll_g2.2.2.2.2.2.2.2.2.2.2.2.2.1 ?_
            refine r_iload_n hE 0 dX13_runAll_g2.2.2.2.2.2.2.2.2.2.2.2.2.2.1 rfl rfl ?_
            obtain ⟨hi, h⟩ := h
            refine ml_sister hE hm dX13_runAll_g2.2.2.2.2.2.2.2.2.2.2.2.2.2.2.1 hi ?_
            refine r_lconst (v := (0 : Int64)) hE dX13_runAll_g2.2.2.2.2.2.2.2.2.2.2.2.2.2.2.2 (by decide) ?_
            refine m_callVv hE hm [.int (0 : Int32), .int (m_sister s1 x2.toNatClampNeg), .long (0 : Int64)] [] mc_later (km_later hm.2.2.2.2.2.2.2.2 h) (by decide) rfl rfl (Nat.le_of_ble_eq_true rfl) dX13_runAll_g3.1 (fun s3 h => ?_)
            refine r_aload_n hE 1 dX13_runAll_g3.2.1 rfl rfl ?_
            refine m_callVi hE hm [] [] mc_step (km_step hm.2.2.2.2.2.2.2.2 h) (by decide) rfl rfl (Nat.le_of_ble_eq_true rfl) dX13_runAll_g3.2.2.1 (fun s4 r5 h => ?_)
            refine r_if_eq hE 220 dX13_runAll_g3.2.2.2.1 (by decide) h (fun h => ?_) (fun h => ?_)
            · refine r_pick [1] rfl ?_
              exact km_runAll_220 hE hm hF ih _ h
            · refine r_aload_n hE 1 dX13_runAll_g3.2.2.2.2.1 rfl rfl ?_
              refine r_iload_n hE 0 dX13_runAll_g3.2.2.2.2.2.1 rfl rfl ?_
              refine m_callVv hE hm [.int x2] [] mc_beginDeed (km_beginDeed hm.2.2.2.2.2.2.2.2 h) (by decide) rfl rfl (Nat.le_of_ble_eq_true rfl) dX13_runAll_g3.2.2.2.2.2.2.1 (fun s6 h => ?_)
              refine r_goto hE 220 dX13_runAll_g3.2.2.2.2.2.2.2.1 (by decide) ?_
              refine r_pick [1] rfl ?_
              exact km_runAll_220 hE hm hF ih _ h
        · refine r_case (1 : Int32) h (fun q1 h => ?_) (fun q1 h => ?_)
          · refine r_tableAt (off := 67) hE (1 : Int32) 135 dX13_runAll_g2.2.2.2.2.2.2.1 q1 (by decide) (by decide) (by decide) (by decide) ?_
            refine r_aload_n hE 1 dX13_runAll_g3.2.2.2.2.2.2.2.2.1 rfl rfl ?_
            refine m_callVi hE hm [] [] mc_step (km_step hm.2.2.2.2.2.2.2.2 h) (by decide) rfl rfl (Nat.le_of_ble_eq_true rfl) dX13_runAll_g3.2.2.2.2.2.2.2.2.2.1 (fun s7 r8 h => ?_)
            refine r_if_eq hE 220 dX13_runAll_g3.2.2.2.2.2.2.2.2.2.2.1 (by decide) h (fun h => ?_) (fun h => ?_)
            · refine r_pick [1] rfl ?_
              exact km_runAll_220 hE hm hF ih _ h
            · refine r_aload_n hE 1 dX13_runAll_g3.2.2.2.2.2.2.2.2.2.2.2.1 rfl rfl ?_
              refine r_iload_n hE 0 dX13_runAll_g3.2.2.2.2.2.2.2.2.2.2.2.2.1 rfl rfl ?_
              refine m_callVv hE hm [.int x2] [] mc_work (km_work hm.2.2.2.2.2.2.2.2 h) (by decide) rfl rfl (Nat.le_of_ble_eq_true rfl) dX13_runAll_g3.2.2.2.2.2.2.2.2.2.2.2.2.2.1 (fun s9 h => ?_)
              refine r_goto hE 220 dX13_runAll_g3.2.2.2.2.2.2.2.2.2.2.2.2.2.2.1 (by decide) ?_
              refine r_pick [1] rfl ?_
              exact km_runAll_220 hE hm hF ih _ h
          · refine r_case (2 : Int32) h (fun q2 h => ?_) (fun q2 h => ?_)
            · refine r_tableAt (off := 82) hE (2 : Int32) 150 dX13_runAll_g2.2.2.2.2.2.2.1 q2 (by decide) (by decide) (by decide) (by decide) ?_
              refine r_aload_n hE 1 dX13_runAll_g3.2.2.2.2.2.2.2.2.2.2.2.2.2.2.2 rfl rfl ?_
              refine r_iload_n hE 0 dX13_runAll_g4.1 rfl rfl ?_
              refine m_callVv hE hm [.int x2] [] mc_apply (km_apply hm.2.2.2.2.2.2.2.2 h) (by decide) rfl rfl (Nat.le_of_ble_eq_true rfl) dX13_runAll_g4.2.1 (fun s10 h => ?_)
              refine r_goto hE 220 dX13_runAll_g4.2.2.1 (by decide) ?_
              refine r_pick [1] rfl ?_
              exact km_runAll_220 hE hm hF ih _ h
            · refine r_case (3 : Int32) h (fun q3 h => ?_) (fun q3 h => ?_)
              · refine r_tableAt (off := 90) hE (3 : Int32) 158 dX13_runAll_g2.2.2.2.2.2.2.1 q3 (by decide) (by decide) (by decide) (by decide) ?_
                refine r_aload_n hE 1 dX13_runAll_g4.2.2.2.1 rfl rfl ?_
                refine r_aload_n hE 1 dX13_runAll_g4.2.2.2.2.1 rfl rfl ?_
                refine mg_jobWith hE hm dX13_runAll_g4.2.2.2.2.2.1 ?_
                refine r_aload_n hE 1 dX13_runAll_g4.2.2.2.2.2.2.1 rfl rfl ?_
                refine mg_jobs hE hm dX13_runAll_g4.2.2.2.2.2.2.2.1 ?_
                obtain ⟨hi, h⟩ := h
                refine ml_jobWith hE hm dX13_runAll_g4.2.2.2.2.2.2.2.2.1 hi ?_
                refine r_l2i hE dX13_runAll_g4.2.2.2.2.2.2.2.2.2.1 ?_
                refine mp_comes hE hm dX13_runAll_g4.2.2.2.2.2.2.2.2.2.2.1 h (fun s11 h => ?_)
                refine r_aload_n hE 1 dX13_runAll_g4.2.2.2.2.2.2.2.2.2.2.2.1 rfl rfl ?_
                refine r_iload_n hE 0 dX13_runAll_g4.2.2.2.2.2.2.2.2.2.2.2.2.1 rfl rfl ?_
                refine m_callVv hE hm [.int x2] [] mc_endDeed (km_endDeed hm.2.2.2.2.2.2.2.2 h) (by decide) rfl rfl (Nat.le_of_ble_eq_true rfl) dX13_runAll_g4.2.2.2.2.2.2.2.2.2.2.2.2.2.1 (fun s12 h => ?_)
                refine r_goto hE 220 dX13_runAll_g4.2.2.2.2.2.2.2.2.2.2.2.2.2.2.1 (by decide) ?_
                refine r_pick [1] rfl ?_
                exact km_runAll_220 hE hm hF ih _ h
              · refine r_case (4 : Int32) h (fun q4 h => ?_) (fun q4 h => ?_)
                · refine r_tableAt (off := 112) hE (4 : Int32) 180 dX13_runAll_g2.2.2.2.2.2.2.1 q4 (by decide) (by decide) (by decide) (by decide) ?_
                  refine r_aload_n hE 1 dX13_runAll_g4.2.2.2.2.2.2.2.2.2.2.2.2.2.2.2 rfl rfl ?_
                  refine r_iload_n hE 0 dX13_runAll_g5.1 rfl rfl ?_
                  refine r_aload_n hE 1 dX13_runAll_g5.2.1 rfl rfl ?_
                  refine mg_jobWith hE hm dX13_runAll_g5.2.2.1 ?_
                  refine r_aload_n hE 1 dX13_runAll_g5.2.2.2.1 rfl rfl ?_
                  refine mg_jobs hE hm dX13_runAll_g5.2.2.2.2.1 ?_
                  obtain ⟨hi, h⟩ := h
                  refine ml_jobWith hE hm dX13_runAll_g5.2.2.2.2.2.1 hi ?_
                  refine m_callVv hE hm [.int x2, .long (m_jobWith s1 (m_jobs s1).toNatClampNeg)] [] mc_turnAgain (km_turnAgain hm.2.2.2.2.2.2.2.2 h) (by decide) rfl rfl (Nat.le_of_ble_eq_true rfl) dX13_runAll_g5.2.2.2.2.2.2.1 (fun s13 h => ?_)
                  refine r_goto hE 220 dX13_runAll_g5.2.2.2.2.2.2.2.1 (by decide) ?_
                  refine r_pick [1] rfl ?_
                  exact km_runAll_220 hE hm hF ih _ h
                · have n0 := lv_neT q0 (show (0 : Int32).toInt = 0 by decide)
                  have n1 := lv_neT q1 (show (1 : Int32).toInt = 1 by decide)
                  have n2 := lv_neT q2 (show (2 : Int32).toInt = 2 by decide)
                  have n3 := lv_neT q3 (show (3 : Int32).toInt = 3 by decide)
                  have n4 := lv_neT q4 (show (4 : Int32).toInt = 4 by decide)
                  refine r_tableOut hE 197 dX13_runAll_g2.2.2.2.2.2.2.1 (by omega) (by decide) ?_
                  refine r_aload_n hE 1 dX13_runAll_g5.2.2.2.2.2.2.2.2.1 rfl rfl ?_
                  refine r_dup hE dX13_runAll_g5.2.2.2.2.2.2.2.2.2.1 rfl ?_
                  refine mg_depth hE hm dX13_runAll_g5.2.2.2.2.2.2.2.2.2.2.1 ?_
                  refine r_iconst (v := (1 : Int32)) hE dX13_runAll_g5.2.2.2.2.2.2.2.2.2.2.2.1 (by decide) ?_
                  refine r_isub hE dX13_runAll_g5.2.2.2.2.2.2.2.2.2.2.2.2.1 ?_
                  refine mp_depth hE hm dX13_runAll_g5.2.2.2.2.2.2.2.2.2.2.2.2.2.1 h (fun s14 h => ?_)
                  refine r_aload_n hE 1 dX13_runAll_g5.2.2.2.2.2.2.2.2.2.2.2.2.2.2.1 rfl rfl ?_
                  refine r_aload_n hE 1 dX13_runAll_g5.2.2.2.2.2.2.2.2.2.2.2.2.2.2.2 rfl rfl ?_
                  refine mg_gift hE hm dX13_runAll_g6.1 ?_
                  refine m_callVv hE hm [.int (m_gift s14)] [] mc_comes (km_comes hm.2.2.2.2.2.2.2.2 h) (by decide) rfl rfl (Nat.le_of_ble_eq_true rfl) dX13_runAll_g6.2.1 (fun s15 h => ?_)
                  refine r_aload_n hE 1 dX13_runAll_g6.2.2.1 rfl rfl ?_
                  refine r_iconst (v := (-1 : Int32)) hE dX13_runAll_g6.2.2.2.1 (by decide) ?_
                  refine mp_gift hE hm dX13_runAll_g6.2.2.2.2.1 h (fun s16 h => ?_)
                  refine r_pick [1] rfl ?_
                  exact km_runAll_220 hE hm hF ih _ h
def wm_runAll (post : MS → Prop) (σ : MS) : Prop := ∀ s17 : MS, s17 = m_jobs_s σ (0 : Int32) → ∀ s18 : MS, s18 = m_comes_s s17 (0 : Int32) → ∀ s19 : MS, s19 = m_gift_s s18 (-1 : Int32) → wm_later (fun (s20 : MS) => ∃ k : Nat, wm_runAll_25 post k s20) s19 (0 : Int32) (m_firstDeed s19) (0 : Int64)
set_option maxRecDepth 20000 in
theorem km_runAll {l : Launch} {D : va_G} {cl : List vw_C} {G : gAd} {post : MS → Prop} (hcl : mC cl) {σ : MS} (h : wm_runAll post σ) : mMet l D cl G yX13_runAll cX13_runAll 2 none 11 [.ref (G.1 0)] σ (qV post) := by
  unfold wm_runAll at h
  refine m_enter hcl (by decide +kernel) rfl [(0, .ref (G.1 0))] rfl (Nat.le_of_ble_eq_true rfl) ?_
  intro E hE hm hF
  have hN := hm.2.2.2.2.2.2.1
  refine r_aload_n hE 0 dX13_runAll_g0.1 rfl rfl ?_
  refine r_iconst (v := (0 : Int32)) hE dX13_runAll_g0.2.1 (by decide) ?_
  refine mp_jobs hE hm dX13_runAll_g0.2.2.1 h (fun s17 h => ?_)
  refine r_aload_n hE 0 dX13_runAll_g0.2.2.2.1 rfl rfl ?_
  refine r_iconst (v := (0 : Int32)) hE dX13_runAll_g0.2.2.2.2.1 (by decide) ?_
  refine mp_comes hE hm dX13_runAll_g0.2.2.2.2.2.1 h (fun s18 h => ?_)
  refine r_aload_n hE 0 dX13_runAll_g0.2.2.2.2.2.2.1 rfl rfl ?_
  refine r_iconst (v := (-1 : Int32)) hE dX13_runAll_g0.2.2.2.2.2.2.2.1 (by decide) ?_
  refine mp_gift hE hm dX13_runAll_g0.2.2.2.2.2.2.2.2.1 h (fun s19 h => ?_)
  refine r_aload_n hE 0 dX13_runAll_g0.2.2.2.2.2.2.2.2.2.1 rfl rfl ?_
  refine r_iconst (v := (0 : Int32)) hE dX13_runAll_g0.2.2.2.2.2.2.2.2.2.2.1 (by decide) ?_
  refine r_aload_n hE 0 dX13_runAll_g0.2.2.2.2.2.2.2.2.2.2.2.1 rfl rfl ?_
  refine mg_firstDeed hE hm dX13_runAll_g0.2.2.2.2.2.2.2.2.2.2.2.2.1 ?_
  refine r_lconst (v := (0 : Int64)) hE dX13_runAll_g0.2.2.2.2.2.2.2.2.2.2.2.2.2.1 (by decide) ?_
  refine m_callVv hE hm [.int (0 : Int32), .int (m_firstDeed s19), .long (0 : Int64)] [] mc_later (km_later hm.2.2.2.2.2.2.2.2 h) (by decide) rfl rfl (Nat.le_of_ble_eq_true rfl) dX13_runAll_g0.2.2.2.2.2.2.2.2.2.2.2.2.2.2.1 (fun s20 h => ?_)
  obtain ⟨k, h⟩ := h
  exact km_runAll_25 hE hm hF k _ h
/-! runOnce -/
def wm_runOnce (post : MS → Prop) (σ : MS) : Prop := wm_clearRun (fun (s1 : MS) => ∀ s2 : MS, s2 = m_runs_s s1 ((m_runs s1) + (1 : Int32)) → ∀ s3 : MS, s3 = m_hasRun_s s2 (1 : Int32) → wm_runAll (fun (s4 : MS) => post s4) s3) σ
set_option maxRecDepth 20000 in
theorem km_runOnce {l : Launch} {D : va_G} {cl : List vw_C} {G : gAd} {post : MS → Prop} (hcl : mC cl) {σ : MS} (h : wm_runOnce post σ) : mMet l D cl G yX13_runOnce cX13_runOnce 1 none 12 [.ref (G.1 0)] σ (qV post) := by
  unfold wm_runOnce at h
  refine m_enter hcl (by decide +kernel) rfl [(0, .ref (G.1 0))] rfl (Nat.le_of_ble_eq_true rfl) ?_
  intro E hE hm hF
  have hN := hm.2.2.2.2.2.2.1
  refine r_aload_n hE 0 dX13_runOnce_g0.1 rfl rfl ?_
  refine m_callVv hE hm [] [] mc_clearRun (km_clearRun hm.2.2.2.2.2.2.2.2 h) (by decide) rfl rfl (Nat.le_of_ble_eq_true rfl) dX13_runOnce_g0.2.1 (fun s1 h => ?_)
  refine r_aload_n hE 0 dX13_runOnce_g0.2.2.1 rfl rfl ?_
  refine r_dup hE dX13_runOnce_g0.2.2.2.1 rfl ?_
  refine mg_runs hE hm dX13_runOnce_g0.2.2.2.2.1 ?_
  refine r_iconst (v := (1 : Int32)) hE dX13_runOnce_g0.2.2.2.2.2.1 (by decide) ?_
  refine r_iadd hE dX13_runOnce_g0.2.2.2.2.2.2.1 ?_
  refine mp_runs hE hm dX13_runOnce_g0.2.2.2.2.2.2.2.1 h (fun s2 h => ?_)
  refine r_aload_n hE 0 dX13_runOnce_g0.2.2.2.2.2.2.2.2.1 rfl rfl ?_
  refine r_iconst (v := (1 : Int32)) hE dX13_runOnce_g0.2.2.2.2.2.2.2.2.2.1 (by decide) ?_
  refine mp_hasRun hE hm dX13_runOnce_g0.2.2.2.2.2.2.2.2.2.2.1 (Or.inr rfl) h (fun s3 h => ?_)
  refine r_aload_n hE 0 dX13_runOnce_g0.2.2.2.2.2.2.2.2.2.2.2.1 rfl rfl ?_
  refine m_callVv hE hm [] [] mc_runAll (km_runAll hm.2.2.2.2.2.2.2.2 h) (by decide) rfl rfl (Nat.le_of_ble_eq_true rfl) dX13_runOnce_g0.2.2.2.2.2.2.2.2.2.2.2.2.1 (fun s4 h => ?_)
  exact m_vret hE hm hF dX13_runOnce_g0.2.2.2.2.2.2.2.2.2.2.2.2.2 h
/-! about -/
def wm_about (post : MS → Int32 → Prop) (σ : MS) (a1 : Int32) : Prop := ∀ s1 : MS, s1 = m_code_s σ (0 : Int32) → wm_in (fun (s2 : MS) (r3 : Int32) => ((¬ (r3 = (0 : Int32))) → (((¬ ((m_hasFigure s2) = (0 : Int32))) → (((¬ (a1 = (0 : Int32))) → (((¬ (a1 = (1 : Int32))) → (((¬ (a1 = (2 : Int32))) → (vp_in (12 : Int32) 26 ∧ (post s2 (m_nameMany s2 (12 : Int32).toNatClampNeg)))) ∧ ((a1 = (2 : Int32)) → (post s2 (m_deeds s2))))) ∧ ((a1 = (1 : Int32)) → (post s2 (m_nodes s2))))) ∧ ((a1 = (0 : Int32)) → (post s2 (m_macros s2))))) ∧ (((m_hasFigure s2) = (0 : Int32)) → (post s2 (-2000000003 : Int32))))) ∧ ((r3 = (0 : Int32)) → (post s2 (-2000000002 : Int32)))) s1 (a1.toInt64) (0 : Int64) (3 : Int64)
set_option maxRecDepth 20000 in
theorem km_about {l : Launch} {D : va_G} {cl : List vw_C} {G : gAd} {post : MS → Int32 → Prop} (hcl : mC cl) {σ : MS} {a1 : Int32} (h : wm_about post σ a1) : mMet l D cl G yX13_about cX13_about 2 (some .int) 2 [.ref (G.1 0), .int a1] σ (qI post) := by
  unfold wm_about at h
  refine m_enter hcl (by decide +kernel) rfl [(0, .ref (G.1 0)), (1, .int a1)] rfl (Nat.le_of_ble_eq_true rfl) ?_
  intro E hE hm hF
  have hN := hm.2.2.2.2.2.2.1
  refine r_aload_n hE 0 dX13_about_g0.1 rfl rfl ?_
  refine r_iconst (v := (0 : Int32)) hE dX13_about_g0.2.1 (by decide) ?_
  refine mp_code hE hm dX13_about_g0.2.2.1 h (fun s1 h => ?_)
  refine r_iload_n hE 1 dX13_about_g0.2.2.2.1 rfl rfl ?_
  refine r_i2l hE dX13_about_g0.2.2.2.2.1 ?_
  refine r_lconst (v := (0 : Int64)) hE dX13_about_g0.2.2.2.2.2.1 (by decide) ?_
  refine r_ldc2 (v := (3 : Int64)) hE dX13_about_g0.2.2.2.2.2.2.1 (gTb_9 (List.mem_of_getElem? (i := 215) rfl) rfl) ?_
  refine m_callSi hE hm [.long (a1.toInt64), .long (0 : Int64), .long (3 : Int64)] [] mc_in (km_in hm.2.2.2.2.2.2.2.2 h) (by decide) rfl rfl (Nat.le_of_ble_eq_true rfl) dX13_about_g0.2.2.2.2.2.2.2.1 (fun s2 r3 h => ?_)
  refine r_if_ne hE 20 dX13_about_g0.2.2.2.2.2.2.2.2.1 (by decide) h (fun h => ?_) (fun h => ?_)
  · refine r_aload_n hE 0 dX13_about_g0.2.2.2.2.2.2.2.2.2.2.2.1 rfl rfl ?_
    refine mg_hasFigure hE hm dX13_about_g0.2.2.2.2.2.2.2.2.2.2.2.2.1 ?_
    refine r_if_ne hE 30 dX13_about_g0.2.2.2.2.2.2.2.2.2.2.2.2.2.1 (by decide) h (fun h => ?_) (fun h => ?_)
    · refine r_iload_n hE 1 dX13_about_g1.1 rfl rfl ?_
      refine r_if_ne hE 41 dX13_about_g1.2.1 (by decide) h (fun h => ?_) (fun h => ?_)
      · refine r_iload_n hE 1 dX13_about_g1.2.2.2.2.2.1 rfl rfl ?_
        refine r_iconst (v := (1 : Int32)) hE dX13_about_g1.2.2.2.2.2.2.1 (by decide) ?_
        refine r_icmp_ne hE 53 dX13_about_g1.2.2.2.2.2.2.2.1 (by decide) h (fun h => ?_) (fun h => ?_)
        · refine r_iload_n hE 1 dX13_about_g1.2.2.2.2.2.2.2.2.2.2.2.1 rfl rfl ?_
          refine r_iconst (v := (2 : Int32)) hE dX13_about_g1.2.2.2.2.2.2.2.2.2.2.2.2.1 (by decide) ?_
          refine r_icmp_ne hE 65 dX13_about_g1.2.2.2.2.2.2.2.2.2.2.2.2.2.1 (by decide) h (fun h => ?_) (fun h => ?_)
          · refine r_aload_n hE 0 dX13_about_g2.2.1 rfl rfl ?_
            refine mg_nameMany hE hm dX13_about_g2.2.2.1 ?_
            refine r_bipush (v := (12 : Int32)) hE dX13_about_g2.2.2.2.1 (by decide) ?_
            obtain ⟨hi, h⟩ := h
            refine ml_nameMany hE hm dX13_about_g2.2.2.2.2.1 hi ?_
            exact m_iret hE hm hF dX13_about_g2.2.2.2.2.2 h
          · refine r_aload_n hE 0 dX13_about_g1.2.2.2.2.2.2.2.2.2.2.2.2.2.2.1 rfl rfl ?_
            refine mg_deeds hE hm dX13_about_g1.2.2.2.2.2.2.2.2.2.2.2.2.2.2.2 ?_
            refine r_goto hE 72 dX13_about_g2.1 (by decide) ?_
            exact m_iret hE hm hF dX13_about_g2.2.2.2.2.2 h
        · refine r_aload_n hE 0 dX13_about_g1.2.2.2.2.2.2.2.2.1 rfl rfl ?_
          refine mg_nodes hE hm dX13_about_g1.2.2.2.2.2.2.2.2.2.1 ?_
          refine r_goto hE 72 dX13_about_g1.2.2.2.2.2.2.2.2.2.2.1 (by decide) ?_
          exact m_iret hE hm hF dX13_about_g2.2.2.2.2.2 h
      · refine r_aload_n hE 0 dX13_about_g1.2.2.1 rfl rfl ?_
        refine mg_macros hE hm dX13_about_g1.2.2.2.1 ?_
        refine r_goto hE 72 dX13_about_g1.2.2.2.2.1 (by decide) ?_
        exact m_iret hE hm hF dX13_about_g2.2.2.2.2.2 h
    · refine r_ldc (v := (-2000000003 : Int32)) hE dX13_about_g0.2.2.2.2.2.2.2.2.2.2.2.2.2.2.1 (gTb_9 (List.mem_of_getElem? (i := 19) rfl) rfl) ?_
      exact m_iret hE hm hF dX13_about_g0.2.2.2.2.2.2.2.2.2.2.2.2.2.2.2 h
  · refine r_ldc (v := (-2000000002 : Int32)) hE dX13_about_g0.2.2.2.2.2.2.2.2.2.1 (gTb_9 (List.mem_of_getElem? (i := 31) rfl) rfl) ?_
    exact m_iret hE hm hF dX13_about_g0.2.2.2.2.2.2.2.2.2.2.1 h
/-! place_ -/
def wm_place_ (post : MS → Prop) (σ : MS) (a1 : Int32) (a2 : Int64) (a4 : Int64) (a6 : Int64) (a8 : Int64) : Prop := vp_in a1 12 ∧ (∀ s1 : MS, s1 = m_isMoved_s σ a1.toNatClampNeg (1 : Int32) → vp_in ((2 : Int32) * a1) 24 ∧ (∀ s2 : MS, s2 = m_movedTop_s s1 ((2 : Int32) * a1).toNatClampNeg a2 → vp_in ((2 : Int32) * a1) 24 ∧ (∀ s3 : MS, s3 = m_movedBottom_s s2 ((2 : Int32) * a1).toNatClampNeg a4 → vp_in (((2 : Int32) * a1) + (1 : Int32)) 24 ∧ (∀ s4 : MS, s4 = m_movedTop_s s3 (((2 : Int32) * a1) + (1 : Int32)).toNatClampNeg a6 → vp_in (((2 : Int32) * a1) + (1 : Int32)) 24 ∧ (∀ s5 : MS, s5 = m_movedBottom_s s4 (((2 : Int32) * a1) + (1 : Int32)).toNatClampNeg a8 → post s5)))))
set_option maxRecDepth 20000 in
theorem km_place_ {l : Launch} {D : va_G} {cl : List vw_C} {G : gAd} {post : MS → Prop} (hcl : mC cl) {σ : MS} {a1 : Int32} {a2 : Int64} {a4 : Int64} {a6 : Int64} {a8 : Int64} (h : wm_place_ post σ a1 a2 a4 a6 a8) : mMet l D cl G yX13_place_ cX13_place_ 10 none 1 [.ref (G.1 0), .int a1, .long a2, .long a4, .long a6, .long a8] σ (qV post) := by
  unfold wm_place_ at h
  refine m_enter hcl (by decide +kernel) rfl [(0, .ref (G.1 0)), (1, .int a1), (2, .long a2), (4, .long a4), (6, .long a6), (8, .long a8)] rfl (Nat.le_of_ble_eq_true rfl) ?_
  intro E hE hm hF
  have hN := hm.2.2.2.2.2.2.1
  refine r_aload_n hE 0 dX13_place__g0.1 rfl rfl ?_
  refine mg_isMoved hE hm dX13_place__g0.2.1 ?_
  refine r_iload_n hE 1 dX13_place__g0.2.2.1 rfl rfl ?_
  refine r_iconst (v := (1 : Int32)) hE dX13_place__g0.2.2.2.1 (by decide) ?_
  obtain ⟨hi, h⟩ := h
  refine ms_isMoved hE hm dX13_place__g0.2.2.2.2.1 hi (Or.inr rfl) h (fun s1 h => ?_)
  refine r_aload_n hE 0 dX13_place__g0.2.2.2.2.2.1 rfl rfl ?_
  refine mg_movedTop hE hm dX13_place__g0.2.2.2.2.2.2.1 ?_
  refine r_iconst (v := (2 : Int32)) hE dX13_place__g0.2.2.2.2.2.2.2.1 (by decide) ?_
  refine r_iload_n hE 1 dX13_place__g0.2.2.2.2.2.2.2.2.1 rfl rfl ?_
  refine r_imul hE dX13_place__g0.2.2.2.2.2.2.2.2.2.1 ?_
  refine r_lload_n hE 2 dX13_place__g0.2.2.2.2.2.2.2.2.2.2.1 rfl rfl ?_
  obtain ⟨hi, h⟩ := h
  refine ms_movedTop hE hm dX13_place__g0.2.2.2.2.2.2.2.2.2.2.2.1 hi h (fun s2 h => ?_)
  refine r_aload_n hE 0 dX13_place__g0.2.2.2.2.2.2.2.2.2.2.2.2.1 rfl rfl ?_
  refine mg_movedBottom hE hm dX13_place__g0.2.2.2.2.2.2.2.2.2.2.2.2.2.1 ?_
  refine r_iconst (v := (2 : Int32)) hE dX13_place__g0.2.2.2.2.2.2.2.2.2.2.2.2.2.2.1 (by decide) ?_
  refine r_iload_n hE 1 dX13_place__g0.2.2.2.2.2.2.2.2.2.2.2.2.2.2.2 rfl rfl ?_
  refine r_imul hE dX13_place__g1.1 ?_
  refine r_lload hE 3 dX13_place__g1.2.1 rfl ?_
  obtain ⟨hi, h⟩ := h
  refine ms_movedBottom hE hm dX13_place__g1.2.2.1 hi h (fun s3 h => ?_)
  refine r_aload_n hE 0 dX13_place__g1.2.2.2.1 rfl rfl ?_
  refine mg_movedTop hE hm dX13_place__g1.2.2.2.2.1 ?_
  refine r_iconst (v := (2 : Int32)) hE dX13_place__g1.2.2.2.2.2.1 (by decide) ?_
  refine r_iload_n hE 1 dX13_place__g1.2.2.2.2.2.2.1 rfl rfl ?_
  refine r_imul hE dX13_place__g1.2.2.2.2.2.2.2.1 ?_
  refine r_iconst (v := (1 : Int32)) hE dX13_place__g1.2.2.2.2.2.2.2.2.1 (by decide) ?_
  refine r_iadd hE dX13_place__g1.2.2.2.2.2.2.2.2.2.1 ?_
  refine r_lload hE 4 dX13_place__g1.2.2.2.2.2.2.2.2.2.2.1 rfl ?_
  obtain ⟨hi, h⟩ := h
  refine ms_movedTop hE hm dX13_place__g1.2.2.2.2.2.2.2.2.2.2.2.1 hi h (fun s4 h => ?_)
  refine r_aload_n hE 0 dX13_place__g1.2.2.2.2.2.2.2.2.2.2.2.2.1 rfl rfl ?_
  refine mg_movedBottom hE hm dX13_place__g1.2.2.2.2.2.2.2.2.2.2.2.2.2.1 ?_
  refine r_iconst (v := (2 : Int32)) hE dX13_place__g1.2.2.2.2.2.2.2.2.2.2.2.2.2.2.1 (by decide) ?_
  refine r_iload_n hE 1 dX13_place__g1.2.2.2.2.2.2.2.2.2.2.2.2.2.2.2 rfl rfl ?_
  refine r_imul hE dX13_place__g2.1 ?_
  refine r_iconst (v := (1 : Int32)) hE dX13_place__g2.2.1 (by decide) ?_
  refine r_iadd hE dX13_place__g2.2.2.1 ?_
  refine r_lload hE 5 dX13_place__g2.2.2.2.1 rfl ?_
  obtain ⟨hi, h⟩ := h
  refine ms_movedBottom hE hm dX13_place__g2.2.2.2.2.1 hi h (fun s5 h => ?_)
  exact m_vret hE hm hF dX13_place__g2.2.2.2.2.2 h
/-! move -/
def wm_move_81 (post : MS → Int32 → Prop) (σ : MS) (v1 : Int32) (t0 : Int32) : Prop := ∀ s1 : MS, s1 = m_failure_s σ (0 : Int32) → ∀ s2 : MS, s2 = m_piled_s s1 (0 : Int32) → ((t0 = (0 : Int32)) → (((¬ ((m_hasFigure s2) = (0 : Int32))) → (vp_in (0 : Int32) 40 ∧ (vp_in (0 : Int32) 40 ∧ (vp_in (1 : Int32) 40 ∧ (vp_in (1 : Int32) 40 ∧ (wm_place_ (fun (s3 : MS) => post s3 (1 : Int32)) s2 v1 (m_top s2 (0 : Int32).toNatClampNeg) (m_bottom s2 (0 : Int32).toNatClampNeg) (m_top s2 (1 : Int32).toNatClampNeg) (m_bottom s2 (1 : Int32).toNatClampNeg))))))) ∧ (((m_hasFigure s2) = (0 : Int32)) → (post s2 (-2000000003 : Int32))))) ∧ ((¬ (t0 = (0 : Int32))) → (post s2 (-2000000002 : Int32)))
set_option maxRecDepth 20000 in
theorem km_move_81 {E : gEnv} {l : Launch} {D : va_G} {cl : List vw_C} {G : gAd} {post : MS → Int32 → Prop} (hE : gOK E cX13_move RX13 (some .int) 4) (hm : mOK E l D cl G (qI post) 6) (hF : gFin E) (σ : MS) (v1 : Int32) (t0 : Int32) (h : wm_move_81 post σ v1 t0) : GW E (mW G σ) 81 [(0, .ref (G.1 0)), (1, .int v1)] [.int t0] := by
  unfold wm_move_81 at h
  have hN := hm.2.2.2.2.2.2.1
  refine r_istore hE [(5, .int t0), (0, .ref (G.1 0)), (1, .int v1)] dX13_move_g2.2.2.2.2.2.2.2.2.2.2.2.2.2.1 hN (by decide) rfl ?_
  refine r_aload_n hE 1 dX13_move_g2.2.2.2.2.2.2.2.2.2.2.2.2.2.2.1 rfl rfl ?_
  refine r_iconst (v := (0 : Int32)) hE dX13_move_g2.2.2.2.2.2.2.2.2.2.2.2.2.2.2.2 (by decide) ?_
  refine mp_failure hE hm dX13_move_g3.1 h (fun s1 h => ?_)
  refine r_aload_n hE 1 dX13_move_g3.2.1 rfl rfl ?_
  refine r_iconst (v := (0 : Int32)) hE dX13_move_g3.2.2.1 (by decide) ?_
  refine mp_piled hE hm dX13_move_g3.2.2.2.1 h (fun s2 h => ?_)
  refine r_iload hE 0 dX13_move_g3.2.2.2.2.1 rfl ?_
  refine r_if_eq hE 101 dX13_move_g3.2.2.2.2.2.1 (by decide) h (fun h => ?_) (fun h => ?_)
  · refine r_aload_n hE 1 dX13_move_g3.2.2.2.2.2.2.2.2.1 rfl rfl ?_
    refine mg_hasFigure hE hm dX13_move_g3.2.2.2.2.2.2.2.2.2.1 ?_
    refine r_if_ne hE 111 dX13_move_g3.2.2.2.2.2.2.2.2.2.2.1 (by decide) h (fun h => ?_) (fun h => ?_)
    · refine r_aload_n hE 1 dX13_move_g3.2.2.2.2.2.2.2.2.2.2.2.2.2.1 rfl rfl ?_
      refine r_iload_n hE 2 dX13_move_g3.2.2.2.2.2.2.2.2.2.2.2.2.2.2.1 rfl rfl ?_
      refine r_aload_n hE 1 dX13_move_g3.2.2.2.2.2.2.2.2.2.2.2.2.2.2.2 rfl rfl ?_
      refine mg_top hE hm dX13_move_g4.1 ?_
      refine r_iconst (v := (0 : Int32)) hE dX13_move_g4.2.1 (by decide) ?_
      obtain ⟨hi, h⟩ := h
      refine ml_top hE hm dX13_move_g4.2.2.1 hi ?_
      refine r_aload_n hE 1 dX13_move_g4.2.2.2.1 rfl rfl ?_
      refine mg_bottom hE hm dX13_move_g4.2.2.2.2.1 ?_
      refine r_iconst (v := (0 : Int32)) hE dX13_move_g4.2.2.2.2.2.1 (by decide) ?_
      obtain ⟨hi, h⟩ := h
      refine ml_bottom hE hm dX13_move_g4.2.2.2.2.2.2.1 hi ?_
      refine r_aload_n hE 1 dX13_move_g4.2.2.2.2.2.2.2.1 rfl rfl ?_
      refine mg_top hE hm dX13_move_g4.2.2.2.2.2.2.2.2.1 ?_
      refine r_iconst (v := (1 : Int32)) hE dX13_move_g4.2.2.2.2.2.2.2.2.2.1 (by decide) ?_
      obtain ⟨hi, h⟩ := h
      refine ml_top hE hm dX13_move_g4.2.2.2.2.2.2.2.2.2.2.1 hi ?_
      refine r_aload_n hE 1 dX13_move_g4.2.2.2.2.2.2.2.2.2.2.2.1 rfl rfl ?_
      refine mg_bottom hE hm dX13_move_g4.2.2.2.2.2.2.2.2.2.2.2.2.1 ?_
      refine r_iconst (v := (1 : Int32)) hE dX13_move_g4.2.2.2.2.2.2.2.2.2.2.2.2.2.1 (by decide) ?_
      obtain ⟨hi, h⟩ := h
      refine ml_bottom hE hm dX13_move_g4.2.2.2.2.2.2.2.2.2.2.2.2.2.2.1 hi ?_
      refine m_callVv hE hm [.int v1, .long (m_top s2 (0 : Int32).toNatClampNeg), .long (m_bottom s2 (0 : Int32).toNatClampNeg), .long (m_top s2 (1 : Int32).toNatClampNeg), .long (m_bottom s2 (1 : Int32).toNatClampNeg)] [] mc_place_ (km_place_ hm.2.2.2.2.2.2.2.2 h) (by decide) rfl rfl (Nat.le_of_ble_eq_true rfl) dX13_move_g4.2.2.2.2.2.2.2.2.2.2.2.2.2.2.2 (fun s3 h => ?_)
      refine r_iconst (v := (1 : Int32)) hE dX13_move_g5.1 (by decide) ?_
      exact m_iret hE hm hF dX13_move_g5.2 h
    · refine r_ldc (v := (-2000000003 : Int32)) hE dX13_move_g3.2.2.2.2.2.2.2.2.2.2.2.1 (gTb_9 (List.mem_of_getElem? (i := 19) rfl) rfl) ?_
      exact m_iret hE hm hF dX13_move_g3.2.2.2.2.2.2.2.2.2.2.2.2.1 h
  · refine r_ldc (v := (-2000000002 : Int32)) hE dX13_move_g3.2.2.2.2.2.2.1 (gTb_9 (List.mem_of_getElem? (i := 31) rfl) rfl) ?_
    exact m_iret hE hm hF dX13_move_g3.2.2.2.2.2.2.2.1 h
def wm_move (post : MS → Int32 → Prop) (σ : MS) (a1 : Int32) (a2 : Int32) (a3 : Int32) (a4 : Int32) : Prop := ∀ s4 : MS, s4 = m_code_s σ (0 : Int32) → wm_in (fun (s5 : MS) (r6 : Int32) => ((r6 = (0 : Int32)) → (post s5 (-2000000002 : Int32))) ∧ ((¬ (r6 = (0 : Int32))) → (((¬ (a4 = (0 : Int32))) → (∀ s7 : MS, s7 = m_failure_s s5 (0 : Int32) → ∀ s8 : MS, s8 = m_piled_s s7 (0 : Int32) → wm_whole (fun (s9 : MS) => wm_whole (fun (s10 : MS) => wm_by (fun (s11 : MS) => wm_whole (fun (s12 : MS) => wm_whole (fun (s13 : MS) => wm_by (fun (s14 : MS) => (((m_failure s14) ≤ (0 : Int32)) → (wm_move_81 post s14 a1 (0 : Int32))) ∧ ((¬ ((m_failure s14) ≤ (0 : Int32))) → (wm_move_81 post s14 a1 (1 : Int32)))) s13) s12 (a4.toInt64)) s11 (a3.toInt64)) s10) s9 (a4.toInt64)) s8 (a2.toInt64))) ∧ ((a4 = (0 : Int32)) → (post s5 (-2000000002 : Int32)))))) s4 (a1.toInt64) (0 : Int64) (11 : Int64)
set_option maxRecDepth 20000 in
theorem km_move {l : Launch} {D : va_G} {cl : List vw_C} {G : gAd} {post : MS → Int32 → Prop} (hcl : mC cl) {σ : MS} {a1 : Int32} {a2 : Int32} {a3 : Int32} {a4 : Int32} (h : wm_move post σ a1 a2 a3 a4) : mMet l D cl G yX13_move cX13_move 6 (some .int) 4 [.ref (G.1 0), .int a1, .int a2, .int a3, .int a4] σ (qI post) := by
  unfold wm_move at h
  refine m_enter hcl (by decide +kernel) rfl [(0, .ref (G.1 0)), (1, .int a1), (2, .int a2), (3, .int a3), (4, .int a4)] rfl (Nat.le_of_ble_eq_true rfl) ?_
  intro E hE hm hF
  have hN := hm.2.2.2.2.2.2.1
  refine r_aload_n hE 0 dX13_move_g0.1 rfl rfl ?_
  refine r_iconst (v := (0 : Int32)) hE dX13_move_g0.2.1 (by decide) ?_
  refine mp_code hE hm dX13_move_g0.2.2.1 h (fun s4 h => ?_)
  refine r_iload_n hE 1 dX13_move_g0.2.2.2.1 rfl rfl ?_
  refine r_i2l hE dX13_move_g0.2.2.2.2.1 ?_
  refine r_lconst (v := (0 : Int64)) hE dX13_move_g0.2.2.2.2.2.1 (by decide) ?_
  refine r_ldc2 (v := (11 : Int64)) hE dX13_move_g0.2.2.2.2.2.2.1 (gTb_9 (List.mem_of_getElem? (i := 220) rfl) rfl) ?_
  refine m_callSi hE hm [.long (a1.toInt64), .long (0 : Int64), .long (11 : Int64)] [] mc_in (km_in hm.2.2.2.2.2.2.2.2 h) (by decide) rfl rfl (Nat.le_of_ble_eq_true rfl) dX13_move_g0.2.2.2.2.2.2.2.1 (fun s5 r6 h => ?_)
  refine r_if_eq hE 22 dX13_move_g0.2.2.2.2.2.2.2.2.1 (by decide) h (fun h => ?_) (fun h => ?_)
  · refine r_ldc (v := (-2000000002 : Int32)) hE dX13_move_g0.2.2.2.2.2.2.2.2.2.2.2.1 (gTb_9 (List.mem_of_getElem? (i := 31) rfl) rfl) ?_
    exact m_iret hE hm hF dX13_move_g0.2.2.2.2.2.2.2.2.2.2.2.2.1 h
  · refine r_iload hE 4 dX13_move_g0.2.2.2.2.2.2.2.2.2.1 rfl ?_
    refine r_if_ne hE 25 dX13_move_g0.2.2.2.2.2.2.2.2.2.2.1 (by decide) h (fun h => ?_) (fun h => ?_)
    · refine r_aload_n hE 0 dX13_move_g0.2.2.2.2.2.2.2.2.2.2.2.2.2.1 rfl rfl ?_
      refine r_iconst (v := (0 : Int32)) hE dX13_move_g0.2.2.2.2.2.2.2.2.2.2.2.2.2.2.1 (by decide) ?_
      refine mp_failure hE hm dX13_move_g0.2.2.2.2.2.2.2.2.2.2.2.2.2.2.2 h (fun s7 h => ?_)
      refine r_aload_n hE 0 dX13_move_g1.1 rfl rfl ?_
      refine r_iconst (v := (0 : Int32)) hE dX13_move_g1.2.1 (by decide) ?_
      refine mp_piled hE hm dX13_move_g1.2.2.1 h (fun s8 h => ?_)
      refine r_aload_n hE 0 dX13_move_g1.2.2.2.1 rfl rfl ?_
      refine r_iload_n hE 2 dX13_move_g1.2.2.2.2.1 rfl rfl ?_
      refine r_i2l hE dX13_move_g1.2.2.2.2.2.1 ?_
      refine m_callVv hE hm [.long (a2.toInt64)] [] mc_whole (km_whole hm.2.2.2.2.2.2.2.2 h) (by decide) rfl rfl (Nat.le_of_ble_eq_true rfl) dX13_move_g1.2.2.2.2.2.2.1 (fun s9 h => ?_)
      refine r_aload_n hE 0 dX13_move_g1.2.2.2.2.2.2.2.1 rfl rfl ?_
      refine r_iload hE 4 dX13_move_g1.2.2.2.2.2.2.2.2.1 rfl ?_
      refine r_i2l hE dX13_move_g1.2.2.2.2.2.2.2.2.2.1 ?_
      refine m_callVv hE hm [.long (a4.toInt64)] [] mc_whole (km_whole hm.2.2.2.2.2.2.2.2 h) (by decide) rfl rfl (Nat.le_of_ble_eq_true rfl) dX13_move_g1.2.2.2.2.2.2.2.2.2.2.1 (fun s10 h => ?_)
      refine r_aload_n hE 0 dX13_move_g1.2.2.2.2.2.2.2.2.2.2.2.1 rfl rfl ?_
      refine m_callVv hE hm [] [] mc_by (km_by hm.2.2.2.2.2.2.2.2 h) (by decide) rfl rfl (Nat.le_of_ble_eq_true rfl) dX13_move_g1.2.2.2.2.2.2.2.2.2.2.2.2.1 (fun s11 h => ?_)
      refine r_aload_n hE 0 dX13_move_g1.2.2.2.2.2.2.2.2.2.2.2.2.2.1 rfl rfl ?_
      refine r_iload_n hE 3 dX13_move_g1.2.2.2.2.2.2.2.2.2.2.2.2.2.2.1 rfl rfl ?_
      refine r_i2l hE dX13_move_g1.2.2.2.2.2.2.2.2.2.2.2.2.2.2.2 ?_
      refine m_callVv hE hm [.long (a3.toInt64)] [] mc_whole (km_whole hm.2.2.2.2.2.2.2.2 h) (by decide) rfl rfl (Nat.le_of_ble_eq_true rfl) dX13_move_g2.1 (fun s12 h => ?_)
      refine r_aload_n hE 0 dX13_move_g2.2.1 rfl rfl ?_
      refine r_iload hE 4 dX13_move_g2.2.2.1 rfl ?_
      refine r_i2l hE dX13_move_g2.2.2.2.1 ?_
      refine m_callVv hE hm [.long (a4.toInt64)] [] mc_whole (km_whole hm.2.2.2.2.2.2.2.2 h) (by decide) rfl rfl (Nat.le_of_ble_eq_true rfl) dX13_move_g2.2.2.2.2.1 (fun s13 h => ?_)
      refine r_aload_n hE 0 dX13_move_g2.2.2.2.2.2.1 rfl rfl ?_
      refine m_callVv hE hm [] [] mc_by (km_by hm.2.2.2.2.2.2.2.2 h) (by decide) rfl rfl (Nat.le_of_ble_eq_true rfl) dX13_move_g2.2.2.2.2.2.2.1 (fun s14 h => ?_)
      refine r_aload_n hE 0 dX13_move_g2.2.2.2.2.2.2.2.1 rfl rfl ?_
      refine mg_failure hE hm dX13_move_g2.2.2.2.2.2.2.2.2.1 ?_
      refine r_if_le hE 80 dX13_move_g2.2.2.2.2.2.2.2.2.2.1 (by decide) h (fun h => ?_) (fun h => ?_)
      · refine r_iconst (v := (0 : Int32)) hE dX13_move_g2.2.2.2.2.2.2.2.2.2.2.2.2.1 (by decide) ?_
        refine r_pick [0, 1] rfl ?_
        exact km_move_81 hE hm hF _ _ _ h
      · refine r_iconst (v := (1 : Int32)) hE dX13_move_g2.2.2.2.2.2.2.2.2.2.2.1 (by decide) ?_
        refine r_goto hE 81 dX13_move_g2.2.2.2.2.2.2.2.2.2.2.2.1 (by decide) ?_
        refine r_pick [0, 1] rfl ?_
        exact km_move_81 hE hm hF _ _ _ h
    · refine r_ldc (v := (-2000000002 : Int32)) hE dX13_move_g0.2.2.2.2.2.2.2.2.2.2.2.1 (gTb_9 (List.mem_of_getElem? (i := 31) rfl) rfl) ?_
      exact m_iret hE hm hF dX13_move_g0.2.2.2.2.2.2.2.2.2.2.2.2.1 h
/-! loose -/
def wm_loose_44 (post : MS → Int32 → Prop) (σ : MS) (v1 : Int32) (t0 : Int32) : Prop := vp_in v1 12 ∧ (∀ s1 : MS, s1 = m_isMoved_s σ v1.toNatClampNeg (0 : Int32) → post s1 t0)
set_option maxRecDepth 20000 in
theorem km_loose_44 {E : gEnv} {l : Launch} {D : va_G} {cl : List vw_C} {G : gAd} {post : MS → Int32 → Prop} (hE : gOK E cX13_loose RX13 (some .int) 2) (hm : mOK E l D cl G (qI post) 3) (hF : gFin E) (σ : MS) (v1 : Int32) (t0 : Int32) (h : wm_loose_44 post σ v1 t0) : GW E (mW G σ) 44 [(0, .ref (G.1 0)), (1, .int v1)] [.int t0] := by
  unfold wm_loose_44 at h
  have hN := hm.2.2.2.2.2.2.1
  refine r_istore_n hE [(2, .int t0), (0, .ref (G.1 0)), (1, .int v1)] dX13_loose_g1.2.2.2.2.2.2.2.2.1 rfl hN (by decide) rfl ?_
  refine r_aload_n hE 1 dX13_loose_g1.2.2.2.2.2.2.2.2.2.1 rfl rfl ?_
  refine mg_isMoved hE hm dX13_loose_g1.2.2.2.2.2.2.2.2.2.2.1 ?_
  refine r_iload_n hE 2 dX13_loose_g1.2.2.2.2.2.2.2.2.2.2.2.1 rfl rfl ?_
  refine r_iconst (v := (0 : Int32)) hE dX13_loose_g1.2.2.2.2.2.2.2.2.2.2.2.2.1 (by decide) ?_
  obtain ⟨hi, h⟩ := h
  refine ms_isMoved hE hm dX13_loose_g1.2.2.2.2.2.2.2.2.2.2.2.2.2.1 hi (Or.inl rfl) h (fun s1 h => ?_)
  refine r_iload_n hE 0 dX13_loose_g1.2.2.2.2.2.2.2.2.2.2.2.2.2.2.1 rfl rfl ?_
  exact m_iret hE hm hF dX13_loose_g1.2.2.2.2.2.2.2.2.2.2.2.2.2.2.2 h
def wm_loose (post : MS → Int32 → Prop) (σ : MS) (a1 : Int32) : Prop := ∀ s2 : MS, s2 = m_code_s σ (0 : Int32) → wm_in (fun (s3 : MS) (r4 : Int32) => ((¬ (r4 = (0 : Int32))) → (((¬ ((m_hasFigure s3) = (0 : Int32))) → (vp_in a1 12 ∧ ((((m_isMoved s3 a1.toNatClampNeg) = (0 : Int32)) → (wm_loose_44 post s3 a1 (0 : Int32))) ∧ ((¬ ((m_isMoved s3 a1.toNatClampNeg) = (0 : Int32))) → (wm_loose_44 post s3 a1 (1 : Int32)))))) ∧ (((m_hasFigure s3) = (0 : Int32)) → (post s3 (-2000000003 : Int32))))) ∧ ((r4 = (0 : Int32)) → (post s3 (-2000000002 : Int32)))) s2 (a1.toInt64) (0 : Int64) (11 : Int64)
set_option maxRecDepth 20000 in
theorem km_loose {l : Launch} {D : va_G} {cl : List vw_C} {G : gAd} {post : MS → Int32 → Prop} (hcl : mC cl) {σ : MS} {a1 : Int32} (h : wm_loose post σ a1) : mMet l D cl G yX13_loose cX13_loose 3 (some .int) 2 [.ref (G.1 0), .int a1] σ (qI post) := by
  unfold wm_loose at h
  refine m_enter hcl (by decide +kernel) rfl [(0, .ref (G.1 0)), (1, .int a1)] rfl (Nat.le_of_ble_eq_true rfl) ?_
  intro E hE hm hF
  have hN := hm.2.2.2.2.2.2.1
  refine r_aload_n hE 0 dX13_loose_g0.1 rfl rfl ?_
  refine r_iconst (v := (0 : Int32)) hE dX13_loose_g0.2.1 (by decide) ?_
  refine mp_code hE hm dX13_loose_g0.2.2.1 h (fun s2 h => ?_)
  refine r_iload_n hE 1 dX13_loose_g0.2.2.2.1 rfl rfl ?_
  refine r_i2l hE dX13_loose_g0.2.2.2.2.1 ?_
  refine r_lconst (v := (0 : Int64)) hE dX13_loose_g0.2.2.2.2.2.1 (by decide) ?_
  refine r_ldc2 (v := (11 : Int64)) hE dX13_loose_g0.2.2.2.2.2.2.1 (gTb_9 (List.mem_of_getElem? (i := 220) rfl) rfl) ?_
  refine m_callSi hE hm [.long (a1.toInt64), .long (0 : Int64), .long (11 : Int64)] [] mc_in (km_in hm.2.2.2.2.2.2.2.2 h) (by decide) rfl rfl (Nat.le_of_ble_eq_true rfl) dX13_loose_g0.2.2.2.2.2.2.2.1 (fun s3 r4 h => ?_)
  refine r_if_ne hE 20 dX13_loose_g0.2.2.2.2.2.2.2.2.1 (by decide) h (fun h => ?_) (fun h => ?_)
  · refine r_aload_n hE 0 dX13_loose_g0.2.2.2.2.2.2.2.2.2.2.2.1 rfl rfl ?_
    refine mg_hasFigure hE hm dX13_loose_g0.2.2.2.2.2.2.2.2.2.2.2.2.1 ?_
    refine r_if_ne hE 30 dX13_loose_g0.2.2.2.2.2.2.2.2.2.2.2.2.2.1 (by decide) h (fun h => ?_) (fun h => ?_)
    · refine r_aload_n hE 0 dX13_loose_g1.1 rfl rfl ?_
      refine mg_isMoved hE hm dX13_loose_g1.2.1 ?_
      refine r_iload_n hE 1 dX13_loose_g1.2.2.1 rfl rfl ?_
      obtain ⟨hi, h⟩ := h
      refine ml_isMoved hE hm dX13_loose_g1.2.2.2.1 hi ?_
      refine r_if_eq hE 43 dX13_loose_g1.2.2.2.2.1 (by decide) h (fun h => ?_) (fun h => ?_)
      · refine r_iconst (v := (0 : Int32)) hE dX13_loose_g1.2.2.2.2.2.2.2.1 (by decide) ?_
        exact km_loose_44 hE hm hF _ _ _ h
      · refine r_iconst (v := (1 : Int32)) hE dX13_loose_g1.2.2.2.2.2.1 (by decide) ?_
        refine r_goto hE 44 dX13_loose_g1.2.2.2.2.2.2.1 (by decide) ?_
        exact km_loose_44 hE hm hF _ _ _ h
    · refine r_ldc (v := (-2000000003 : Int32)) hE dX13_loose_g0.2.2.2.2.2.2.2.2.2.2.2.2.2.2.1 (gTb_9 (List.mem_of_getElem? (i := 19) rfl) rfl) ?_
      exact m_iret hE hm hF dX13_loose_g0.2.2.2.2.2.2.2.2.2.2.2.2.2.2.2 h
  · refine r_ldc (v := (-2000000002 : Int32)) hE dX13_loose_g0.2.2.2.2.2.2.2.2.2.1 (gTb_9 (List.mem_of_getElem? (i := 31) rfl) rfl) ?_
    exact m_iret hE hm hF dX13_loose_g0.2.2.2.2.2.2.2.2.2.2.1 h
/-! run -/
def wm_run (post : MS → Int32 → Prop) (σ : MS) : Prop := ∀ s1 : MS, s1 = m_code_s σ (0 : Int32) → ((¬ ((m_hasFigure s1) = (0 : Int32))) → (((¬ ((m_runs s1) = (600 : Int32))) → (wm_runOnce (fun (s2 : MS) => (((m_spent s2) = (0 : Int32)) → (post s2 (m_drawnMany s2))) ∧ ((¬ ((m_spent s2) = (0 : Int32))) → (post s2 (-1 : Int32)))) s1)) ∧ (((m_runs s1) = (600 : Int32)) → (post s1 (-2000000004 : Int32))))) ∧ (((m_hasFigure s1) = (0 : Int32)) → (post s1 (-2000000003 : Int32)))
set_option maxRecDepth 20000 in
theorem km_run {l : Launch} {D : va_G} {cl : List vw_C} {G : gAd} {post : MS → Int32 → Prop} (hcl : mC cl) {σ : MS} (h : wm_run post σ) : mMet l D cl G yX13_run cX13_run 1 (some .int) 13 [.ref (G.1 0)] σ (qI post) := by
  unfold wm_run at h
  refine m_enter hcl (by decide +kernel) rfl [(0, .ref (G.1 0))] rfl (Nat.le_of_ble_eq_true rfl) ?_
  intro E hE hm hF
  have hN := hm.2.2.2.2.2.2.1
  refine r_aload_n hE 0 dX13_run_g0.1 rfl rfl ?_
  refine r_iconst (v := (0 : Int32)) hE dX13_run_g0.2.1 (by decide) ?_
  refine mp_code hE hm dX13_run_g0.2.2.1 h (fun s1 h => ?_)
  refine r_aload_n hE 0 dX13_run_g0.2.2.2.1 rfl rfl ?_
  refine mg_hasFigure hE hm dX13_run_g0.2.2.2.2.1 ?_
  refine r_if_ne hE 15 dX13_run_g0.2.2.2.2.2.1 (by decide) h (fun h => ?_) (fun h => ?_)
  · refine r_aload_n hE 0 dX13_run_g0.2.2.2.2.2.2.2.2.1 rfl rfl ?_
    refine mg_runs hE hm dX13_run_g0.2.2.2.2.2.2.2.2.2.1 ?_
    refine r_sipush (v := (600 : Int32)) hE dX13_run_g0.2.2.2.2.2.2.2.2.2.2.1 (by decide) ?_
    refine r_icmp_ne hE 29 dX13_run_g0.2.2.2.2.2.2.2.2.2.2.2.1 (by decide) h (fun h => ?_) (fun h => ?_)
    · refine r_aload_n hE 0 dX13_run_g0.2.2.2.2.2.2.2.2.2.2.2.2.2.2.1 rfl rfl ?_
      refine m_callVv hE hm [] [] mc_runOnce (km_runOnce hm.2.2.2.2.2.2.2.2 h) (by decide) rfl rfl (Nat.le_of_ble_eq_true rfl) dX13_run_g0.2.2.2.2.2.2.2.2.2.2.2.2.2.2.2 (fun s2 h => ?_)
      refine r_aload_n hE 0 dX13_run_g1.1 rfl rfl ?_
      refine mg_spent hE hm dX13_run_g1.2.1 ?_
      refine r_if_eq hE 44 dX13_run_g1.2.2.1 (by decide) h (fun h => ?_) (fun h => ?_)
      · refine r_aload_n hE 0 dX13_run_g1.2.2.2.2.2.1 rfl rfl ?_
        refine mg_drawnMany hE hm dX13_run_g1.2.2.2.2.2.2.1 ?_
        exact m_iret hE hm hF dX13_run_g1.2.2.2.2.2.2.2 h
      · refine r_iconst (v := (-1 : Int32)) hE dX13_run_g1.2.2.2.1 (by decide) ?_
        refine r_goto hE 48 dX13_run_g1.2.2.2.2.1 (by decide) ?_
        exact m_iret hE hm hF dX13_run_g1.2.2.2.2.2.2.2 h
    · refine r_ldcw (v := (-2000000004 : Int32)) hE dX13_run_g0.2.2.2.2.2.2.2.2.2.2.2.2.1 (gTb_10 (List.mem_of_getElem? (i := 18) rfl) rfl) ?_
      exact m_iret hE hm hF dX13_run_g0.2.2.2.2.2.2.2.2.2.2.2.2.2.1 h
  · refine r_ldc (v := (-2000000003 : Int32)) hE dX13_run_g0.2.2.2.2.2.2.1 (gTb_9 (List.mem_of_getElem? (i := 19) rfl) rfl) ?_
    exact m_iret hE hm hF dX13_run_g0.2.2.2.2.2.2.2.1 h
/-! count -/
def wm_count (post : MS → Int32 → Prop) (σ : MS) (a1 : Int32) : Prop := ∀ s1 : MS, s1 = m_code_s σ (0 : Int32) → (a1 = (0 : Int32) → (post s1 (m_drawnMany s1))) ∧ (¬ a1 = (0 : Int32) → ((a1 = (1 : Int32) → (post s1 (m_statedMany s1))) ∧ (¬ a1 = (1 : Int32) → ((a1 = (2 : Int32) → (post s1 (m_falls s1))) ∧ (¬ a1 = (2 : Int32) → ((a1 = (3 : Int32) → (post s1 (m_frees s1))) ∧ (¬ a1 = (3 : Int32) → ((a1 = (4 : Int32) → (post s1 (m_steps s1))) ∧ (¬ a1 = (4 : Int32) → ((a1 = (5 : Int32) → ((((m_spent s1) = (0 : Int32)) → (post s1 (0 : Int32))) ∧ ((¬ ((m_spent s1) = (0 : Int32))) → (post s1 (1 : Int32))))) ∧ (¬ a1 = (5 : Int32) → ((a1 = (6 : Int32) → (post s1 (m_runs s1))) ∧ (¬ a1 = (6 : Int32) → ((a1 = (7 : Int32) → (post s1 (m_taped s1))) ∧ (¬ a1 = (7 : Int32) → ((a1 = (8 : Int32) → (post s1 (m_outMany s1))) ∧ (¬ a1 = (8 : Int32) → (post s1 (-2000000002 : Int32)))))))))))))))))))
set_option maxRecDepth 20000 in
theorem km_count {l : Launch} {D : va_G} {cl : List vw_C} {G : gAd} {post : MS → Int32 → Prop} (hcl : mC cl) {σ : MS} {a1 : Int32} (h : wm_count post σ a1) : mMet l D cl G yX13_count cX13_count 2 (some .int) 1 [.ref (G.1 0), .int a1] σ (qI post) := by
  unfold wm_count at h
  refine m_enter hcl (by decide +kernel) rfl [(0, .ref (G.1 0)), (1, .int a1)] rfl (Nat.le_of_ble_eq_true rfl) ?_
  intro E hE hm hF
  have hN := hm.2.2.2.2.2.2.1
  refine r_aload_n hE 0 dX13_count_g0.1 rfl rfl ?_
  refine r_iconst (v := (0 : Int32)) hE dX13_count_g0.2.1 (by decide) ?_
  refine mp_code hE hm dX13_count_g0.2.2.1 h (fun s1 h => ?_)
  refine r_iload_n hE 1 dX13_count_g0.2.2.2.1 rfl rfl ?_
  refine r_case (0 : Int32) h (fun q0 h => ?_) (fun q0 h => ?_)
  · refine r_tableAt (off := 50) hE (0 : Int32) 56 dX13_count_g0.2.2.2.2.1 q0 (by decide) (by decide) (by decide) (by decide) ?_
    refine r_aload_n hE 0 dX13_count_g0.2.2.2.2.2.1 rfl rfl ?_
    refine mg_drawnMany hE hm dX13_count_g0.2.2.2.2.2.2.1 ?_
    exact m_iret hE hm hF dX13_count_g0.2.2.2.2.2.2.2.1 h
  · refine r_case (1 : Int32) h (fun q1 h => ?_) (fun q1 h => ?_)
    · refine r_tableAt (off := 55) hE (1 : Int32) 61 dX13_count_g0.2.2.2.2.1 q1 (by decide) (by decide) (by decide) (by decide) ?_
      refine r_aload_n hE 0 dX13_count_g0.2.2.2.2.2.2.2.2.1 rfl rfl ?_
      refine mg_statedMany hE hm dX13_count_g0.2.2.2.2.2.2.2.2.2.1 ?_
      exact m_iret hE hm hF dX13_count_g0.2.2.2.2.2.2.2.2.2.2.1 h
    · refine r_case (2 : Int32) h (fun q2 h => ?_) (fun q2 h => ?_)
      · refine r_tableAt (off := 60) hE (2 : Int32) 66 dX13_count_g0.2.2.2.2.1 q2 (by decide) (by decide) (by decide) (by decide) ?_
        refine r_aload_n hE 0 dX13_count_g0.2.2.2.2.2.2.2.2.2.2.2.1 rfl rfl ?_
        refine mg_falls hE hm dX13_count_g0.2.2.2.2.2.2.2.2.2.2.2.2.1 ?_
        exact m_iret hE hm hF dX13_count_g0.2.2.2.2.2.2.2.2.2.2.2.2.2.1 h
      · refine r_case (3 : Int32) h (fun q3 h => ?_) (fun q3 h => ?_)
        · refine r_tableAt (off := 65) hE (3 : Int32) 71 dX13_count_g0.2.2.2.2.1 q3 (by decide) (by decide) (by decide) (by decide) ?_
          refine r_aload_n hE 0 dX13_count_g0.2.2.2.2.2.2.2.2.2.2.2.2.2.2.1 rfl rfl ?_
          refine mg_frees hE hm dX13_count_g0.2.2.2.2.2.2.2.2.2.2.2.2.2.2.2 ?_
          exact m_iret hE hm hF dX13_count_g1.1 h
        · refine r_case (4 : Int32) h (fun q4 h => ?_) (fun q4 h => ?_)
          · refine r_tableAt (off := 70) hE (4 : Int32) 76 dX13_count_g0.2.2.2.2.1 q4 (by decide) (by decide) (by decide) (by decide) ?_
            refine r_aload_n hE 0 dX13_count_g1.2.1 rfl rfl ?_
            refine mg_steps hE hm dX13_count_g1.2.2.1 ?_
            exact m_iret hE hm hF dX13_count_g1.2.2.2.1 h
          · refine r_case (5 : Int32) h (fun q5 h => ?_) (fun q5 h => ?_)
            · refine r_tableAt (off := 75) hE (5 : Int32) 81 dX13_count_g0.2.2.2.2.1 q5 (by decide) (by decide) (by decide) (by decide) ?_
              refine r_aload_n hE 0 dX13_count_g1.2.2.2.2.1 rfl rfl ?_
              refine mg_spent hE hm dX13_count_g1.2.2.2.2.2.1 ?_
              refine r_if_eq hE 92 dX13_count_g1.2.2.2.2.2.2.1 (by decide) h (fun h => ?_) (fun h => ?_)
              · refine r_iconst (v := (0 : Int32)) hE dX13_count_g1.2.2.2.2.2.2.2.2.2.1 (by decide) ?_
                exact m_iret hE hm hF dX13_count_g1.2.2.2.2.2.2.2.2.2.2.1 h
              · refine r_iconst (v := (1 : Int32)) hE dX13_count_g1.2.2.2.2.2.2.2.1 (by decide) ?_
                refine r_goto hE 93 dX13_count_g1.2.2.2.2.2.2.2.2.1 (by decide) ?_
                exact m_iret hE hm hF dX13_count_g1.2.2.2.2.2.2.2.2.2.2.1 h
            · refine r_case (6 : Int32) h (fun q6 h => ?_) (fun q6 h => ?_)
              · refine r_tableAt (off := 88) hE (6 : Int32) 94 dX13_count_g0.2.2.2.2.1 q6 (by decide) (by decide) (by decide) (by decide) ?_
                refine r_aload_n hE 0 dX13_count_g1.2.2.2.2.2.2.2.2.2.2.2.1 rfl rfl ?_
                refine mg_runs hE hm dX13_count_g1.2.2.2.2.2.2.2.2.2.2.2.2.1 ?_
                exact m_iret hE hm hF dX13_count_g1.2.2.2.2.2.2.2.2.2.2.2.2.2.1 h
              · refine r_case (7 : Int32) h (fun q7 h => ?_) (fun q7 h => ?_)
                · refine r_tableAt (off := 93) hE (7 : Int32) 99 dX13_count_g0.2.2.2.2.1 q7 (by decide) (by decide) (by decide) (by decide) ?_
                  refine r_aload_n hE 0 dX13_count_g1.2.2.2.2.2.2.2.2.2.2.2.2.2.2.1 rfl rfl ?_
                  refine mg_taped hE hm dX13_count_g1.2.2.2.2.2.2.2.2.2.2.2.2.2.2.2 ?_
                  exact m_iret hE hm hF dX13_count_g2.1 h
                · refine r_case (8 : Int32) h (fun q8 h => ?_) (fun q8 h => ?_)
                  · refine r_tableAt (off := 98) hE (8 : Int32) 104 dX13_count_g0.2.2.2.2.1 q8 (by decide) (by decide) (by decide) (by decide) ?_
                    refine r_aload_n hE 0 dX13_count_g2.2.1 rfl rfl ?_
                    refine mg_outMany hE hm dX13_count_g2.2.2.1 ?_
                    exact m_iret hE hm hF dX13_count_g2.2.2.2.1 h
                  · have n0 := lv_neT q0 (show (0 : Int32).toInt = 0 by decide)
                    have n1 := lv_neT q1 (show (1 : Int32).toInt = 1 by decide)
                    have n2 := lv_neT q2 (show (2 : Int32).toInt = 2 by decide)
                    have n3 := lv_neT q3 (show (3 : Int32).toInt = 3 by decide)
                    have n4 := lv_neT q4 (show (4 : Int32).toInt = 4 by decide)
                    have n5 := lv_neT q5 (show (5 : Int32).toInt = 5 by decide)
                    have n6 := lv_neT q6 (show (6 : Int32).toInt = 6 by decide)
                    have n7 := lv_neT q7 (show (7 : Int32).toInt = 7 by decide)
                    have n8 := lv_neT q8 (show (8 : Int32).toInt = 8 by decide)
                    refine r_tableOut hE 109 dX13_count_g0.2.2.2.2.1 (by omega) (by decide) ?_
                    refine r_ldc (v := (-2000000002 : Int32)) hE dX13_count_g2.2.2.2.2.1 (gTb_9 (List.mem_of_getElem? (i := 31) rfl) rfl) ?_
                    exact m_iret hE hm hF dX13_count_g2.2.2.2.2.2 h
/-! noDrawn -/
def wm_noDrawn_22 (post : MS → Int32 → Prop) (σ : MS) (t1 : Int32) : Prop := ∀ s1 : MS, s1 = m_code_s σ t1 → (((m_code s1) ≤ (0 : Int32)) → (post s1 (0 : Int32))) ∧ ((¬ ((m_code s1) ≤ (0 : Int32))) → (post s1 (1 : Int32)))
set_option maxRecDepth 20000 in
theorem km_noDrawn_22 {E : gEnv} {l : Launch} {D : va_G} {cl : List vw_C} {G : gAd} {post : MS → Int32 → Prop} (hE : gOK E cX13_noDrawn RX13 (some .boolean) 2) (hm : mOK E l D cl G (qI post) 2) (hF : gFin E) (σ : MS) (t1 : Int32) (h : wm_noDrawn_22 post σ t1) : GW E (mW G σ) 22 [(0, .ref (G.1 0))] [.int t1, .ref (G.1 0)] := by
  unfold wm_noDrawn_22 at h
  have hN := hm.2.2.2.2.2.2.1
  refine mp_code hE hm dX13_noDrawn_g0.2.2.2.2.2.2.2.2.2.2.2.2.2.2.1 h (fun s1 h => ?_)
  refine r_aload_n hE 0 dX13_noDrawn_g0.2.2.2.2.2.2.2.2.2.2.2.2.2.2.2 rfl rfl ?_
  refine mg_code hE hm dX13_noDrawn_g1.1 ?_
  refine r_if_le hE 36 dX13_noDrawn_g1.2.1 (by decide) h (fun h => ?_) (fun h => ?_)
  · refine r_iconst (v := (0 : Int32)) hE dX13_noDrawn_g1.2.2.2.2.1 (by decide) ?_
    exact m_zret hE hm hF dX13_noDrawn_g1.2.2.2.2.2 (Or.inl rfl) h
  · refine r_iconst (v := (1 : Int32)) hE dX13_noDrawn_g1.2.2.1 (by decide) ?_
    refine r_goto hE 37 dX13_noDrawn_g1.2.2.2.1 (by decide) ?_
    exact m_zret hE hm hF dX13_noDrawn_g1.2.2.2.2.2 (Or.inr rfl) h
def wm_noDrawn (post : MS → Int32 → Prop) (σ : MS) (a1 : Int32) : Prop := wm_in (fun (s2 : MS) (r3 : Int32) => ((r3 = (0 : Int32)) → (wm_noDrawn_22 post s2 (1 : Int32))) ∧ ((¬ (r3 = (0 : Int32))) → (wm_noDrawn_22 post s2 (0 : Int32)))) σ (a1.toInt64) (0 : Int64) (((m_drawnMany σ) - (1 : Int32)).toInt64)
set_option maxRecDepth 20000 in
theorem km_noDrawn {l : Launch} {D : va_G} {cl : List vw_C} {G : gAd} {post : MS → Int32 → Prop} (hcl : mC cl) {σ : MS} {a1 : Int32} (h : wm_noDrawn post σ a1) : mMet l D cl G yX13_noDrawn cX13_noDrawn 2 (some .boolean) 2 [.ref (G.1 0), .int a1] σ (qI post) := by
  unfold wm_noDrawn at h
  refine m_enter hcl (by decide +kernel) rfl [(0, .ref (G.1 0)), (1, .int a1)] rfl (Nat.le_of_ble_eq_true rfl) ?_
  intro E hE hm hF
  have hN := hm.2.2.2.2.2.2.1
  refine r_aload_n hE 0 dX13_noDrawn_g0.1 rfl rfl ?_
  refine r_iload_n hE 1 dX13_noDrawn_g0.2.1 rfl rfl ?_
  refine r_i2l hE dX13_noDrawn_g0.2.2.1 ?_
  refine r_lconst (v := (0 : Int64)) hE dX13_noDrawn_g0.2.2.2.1 (by decide) ?_
  refine r_aload_n hE 0 dX13_noDrawn_g0.2.2.2.2.1 rfl rfl ?_
  refine mg_drawnMany hE hm dX13_noDrawn_g0.2.2.2.2.2.1 ?_
  refine r_iconst (v := (1 : Int32)) hE dX13_noDrawn_g0.2.2.2.2.2.2.1 (by decide) ?_
  refine r_isub hE dX13_noDrawn_g0.2.2.2.2.2.2.2.1 ?_
  refine r_i2l hE dX13_noDrawn_g0.2.2.2.2.2.2.2.2.1 ?_
  refine m_callSi hE hm [.long (a1.toInt64), .long (0 : Int64), .long (((m_drawnMany σ) - (1 : Int32)).toInt64)] [.ref (G.1 0)] mc_in (km_in hm.2.2.2.2.2.2.2.2 h) (by decide) rfl rfl (Nat.le_of_ble_eq_true rfl) dX13_noDrawn_g0.2.2.2.2.2.2.2.2.2.1 (fun s2 r3 h => ?_)
  refine r_if_eq hE 21 dX13_noDrawn_g0.2.2.2.2.2.2.2.2.2.2.1 (by decide) h (fun h => ?_) (fun h => ?_)
  · refine r_iconst (v := (1 : Int32)) hE dX13_noDrawn_g0.2.2.2.2.2.2.2.2.2.2.2.2.2.1 (by decide) ?_
    refine r_pick [0] rfl ?_
    exact km_noDrawn_22 hE hm hF _ _ h
  · refine r_iconst (v := (0 : Int32)) hE dX13_noDrawn_g0.2.2.2.2.2.2.2.2.2.2.2.1 (by decide) ?_
    refine r_goto hE 22 dX13_noDrawn_g0.2.2.2.2.2.2.2.2.2.2.2.2.1 (by decide) ?_
    refine r_pick [0] rfl ?_
    exact km_noDrawn_22 hE hm hF _ _ h
/-! kind -/
def wm_kind (post : MS → Int32 → Prop) (σ : MS) (a1 : Int32) : Prop := wm_noDrawn (fun (s1 : MS) (r2 : Int32) => ((r2 = (0 : Int32)) → (vp_in a1 40 ∧ (vp_in (m_drawn s1 a1.toNatClampNeg) 480 ∧ (post s1 (m_sort s1 (m_drawn s1 a1.toNatClampNeg).toNatClampNeg))))) ∧ ((¬ (r2 = (0 : Int32))) → (post s1 (0 : Int32)))) σ a1
set_option maxRecDepth 20000 in
theorem km_kind {l : Launch} {D : va_G} {cl : List vw_C} {G : gAd} {post : MS → Int32 → Prop} (hcl : mC cl) {σ : MS} {a1 : Int32} (h : wm_kind post σ a1) : mMet l D cl G yX13_kind cX13_kind 2 (some .int) 3 [.ref (G.1 0), .int a1] σ (qI post) := by
  unfold wm_kind at h
  refine m_enter hcl (by decide +kernel) rfl [(0, .ref (G.1 0)), (1, .int a1)] rfl (Nat.le_of_ble_eq_true rfl) ?_
  intro E hE hm hF
  have hN := hm.2.2.2.2.2.2.1
  refine r_aload_n hE 0 dX13_kind_g0.1 rfl rfl ?_
  refine r_iload_n hE 1 dX13_kind_g0.2.1 rfl rfl ?_
  refine m_callVi hE hm [.int a1] [] mc_noDrawn (km_noDrawn hm.2.2.2.2.2.2.2.2 h) (by decide) rfl rfl (Nat.le_of_ble_eq_true rfl) dX13_kind_g0.2.2.1 (fun s1 r2 h => ?_)
  refine r_if_eq hE 12 dX13_kind_g0.2.2.2.1 (by decide) h (fun h => ?_) (fun h => ?_)
  · refine r_aload_n hE 0 dX13_kind_g0.2.2.2.2.2.2.1 rfl rfl ?_
    refine mg_sort hE hm dX13_kind_g0.2.2.2.2.2.2.2.1 ?_
    refine r_aload_n hE 0 dX13_kind_g0.2.2.2.2.2.2.2.2.1 rfl rfl ?_
    refine mg_drawn hE hm dX13_kind_g0.2.2.2.2.2.2.2.2.2.1 ?_
    refine r_iload_n hE 1 dX13_kind_g0.2.2.2.2.2.2.2.2.2.2.1 rfl rfl ?_
    obtain ⟨hi, h⟩ := h
    refine ml_drawn hE hm dX13_kind_g0.2.2.2.2.2.2.2.2.2.2.2.1 hi ?_
    obtain ⟨hi, h⟩ := h
    refine ml_sort hE hm dX13_kind_g0.2.2.2.2.2.2.2.2.2.2.2.2.1 hi ?_
    exact m_iret hE hm hF dX13_kind_g0.2.2.2.2.2.2.2.2.2.2.2.2.2 h
  · refine r_iconst (v := (0 : Int32)) hE dX13_kind_g0.2.2.2.2.1 (by decide) ?_
    refine r_goto hE 23 dX13_kind_g0.2.2.2.2.2.1 (by decide) ?_
    exact m_iret hE hm hF dX13_kind_g0.2.2.2.2.2.2.2.2.2.2.2.2.2 h
/-! number_ -/
def wm_number__110 (post : MS → Int64 → Prop) (σ : MS) (v2 : Int32) (v3 : Int32) (v4 : Int32) (t1 : Int32) : Prop := ∀ s1 : MS, s1 = m_code_s σ t1 → (((m_code s1) ≤ (0 : Int32)) → (vp_in v4 480 ∧ (((¬ ((m_sort s1 v4.toNatClampNeg) = (6 : Int32))) → (((¬ (v3 = (0 : Int32))) → (vp_in (((7 : Int32) * v4) + v2) 3360 ∧ (post s1 (m_low s1 (((7 : Int32) * v4) + v2).toNatClampNeg)))) ∧ ((v3 = (0 : Int32)) → (vp_in (((7 : Int32) * v4) + v2) 3360 ∧ (post s1 (m_up s1 (((7 : Int32) * v4) + v2).toNatClampNeg)))))) ∧ (((m_sort s1 v4.toNatClampNeg) = (6 : Int32)) → (((¬ (v3 = (1 : Int32))) → (((¬ (v2 = (0 : Int32))) → (vp_in v4 480 ∧ (vp_in (m_rowOf s1 v4.toNatClampNeg) 480 ∧ (post s1 ((m_rowSize s1 (m_rowOf s1 v4.toNatClampNeg).toNatClampNeg).toInt64))))) ∧ ((v2 = (0 : Int32)) → (vp_in v4 480 ∧ (vp_in (m_rowOf s1 v4.toNatClampNeg) 480 ∧ (post s1 ((m_rowSort s1 (m_rowOf s1 v4.toNatClampNeg).toNatClampNeg).toInt64))))))) ∧ ((v3 = (1 : Int32)) → (post s1 (1 : Int64)))))))) ∧ ((¬ ((m_code s1) ≤ (0 : Int32))) → (post s1 (0 : Int64)))
set_option maxRecDepth 20000 in
theorem km_number__110 {E : gEnv} {l : Launch} {D : va_G} {cl : List vw_C} {G : gAd} {post : MS → Int64 → Prop} (hE : gOK E cX13_number_ RX13 (some .long) 3) (hm : mOK E l D cl G (qL post) 6) (hF : gFin E) (σ : MS) (v2 : Int32) (v3 : Int32) (v4 : Int32) (t1 : Int32) (h : wm_number__110 post σ v2 v3 v4 t1) : GW E (mW G σ) 110 [(0, .ref (G.1 0)), (2, .int v2), (3, .int v3), (4, .int v4)] [.int t1, .ref (G.1 0)] := by
  unfold wm_number__110 at h
  have hN := hm.2.2.2.2.2.2.1
  refine mp_code hE hm dX13_number__g3.2.2.2.2.2.2.2.2.2.2.2.2.2.1 h (fun s1 h => ?_)
  refine r_aload_n hE 0 dX13_number__g3.2.2.2.2.2.2.2.2.2.2.2.2.2.2.1 rfl rfl ?_
  refine mg_code hE hm dX13_number__g3.2.2.2.2.2.2.2.2.2.2.2.2.2.2.2 ?_
  refine r_if_le hE 122 dX13_number__g4.1 (by decide) h (fun h => ?_) (fun h => ?_)
  · refine r_aload_n hE 0 dX13_number__g4.2.2.2.1 rfl rfl ?_
    refine mg_sort hE hm dX13_number__g4.2.2.2.2.1 ?_
    refine r_iload hE 3 dX13_number__g4.2.2.2.2.2.1 rfl ?_
    obtain ⟨hi, h⟩ := h
    refine ml_sort hE hm dX13_number__g4.2.2.2.2.2.2.1 hi ?_
    refine r_bipush (v := (6 : Int32)) hE dX13_number__g4.2.2.2.2.2.2.2.1 (by decide) ?_
    refine r_icmp_ne hE 177 dX13_number__g4.2.2.2.2.2.2.2.2.1 (by decide) h (fun h => ?_) (fun h => ?_)
    · refine r_iload_n hE 2 dX13_number__g6.2.2.1 rfl rfl ?_
      refine r_if_ne hE 196 dX13_number__g6.2.2.2.1 (by decide) h (fun h => ?_) (fun h => ?_)
      · refine r_aload_n hE 0 dX13_number__g6.2.2.2.2.2.2.2.2.2.2.2.2.2.1 rfl rfl ?_
        refine mg_low hE hm dX13_number__g6.2.2.2.2.2.2.2.2.2.2.2.2.2.2.1 ?_
        refine r_bipush (v := (7 : Int32)) hE dX13_number__g6.2.2.2.2.2.2.2.2.2.2.2.2.2.2.2 (by decide) ?_
        refine r_iload hE 3 dX13_number__g7.1 rfl ?_
        refine r_imul hE dX13_number__g7.2.1 ?_
        refine r_iload_n hE 1 dX13_number__g7.2.2.1 rfl rfl ?_
        refine r_iadd hE dX13_number__g7.2.2.2.1 ?_
        obtain ⟨hi, h⟩ := h
        refine ml_low hE hm dX13_number__g7.2.2.2.2.1 hi ?_
        exact m_lret hE hm hF dX13_number__g7.2.2.2.2.2 h
      · refine r_aload_n hE 0 dX13_number__g6.2.2.2.2.1 rfl rfl ?_
        refine mg_up hE hm dX13_number__g6.2.2.2.2.2.1 ?_
        refine r_bipush (v := (7 : Int32)) hE dX13_number__g6.2.2.2.2.2.2.1 (by decide) ?_
        refine r_iload hE 3 dX13_number__g6.2.2.2.2.2.2.2.1 rfl ?_
        refine r_imul hE dX13_number__g6.2.2.2.2.2.2.2.2.1 ?_
        refine r_iload_n hE 1 dX13_number__g6.2.2.2.2.2.2.2.2.2.1 rfl rfl ?_
        refine r_iadd hE dX13_number__g6.2.2.2.2.2.2.2.2.2.2.1 ?_
        obtain ⟨hi, h⟩ := h
        refine ml_up hE hm dX13_number__g6.2.2.2.2.2.2.2.2.2.2.2.1 hi ?_
        refine r_goto hE 208 dX13_number__g6.2.2.2.2.2.2.2.2.2.2.2.2.1 (by decide) ?_
        exact m_lret hE hm hF dX13_number__g7.2.2.2.2.2 h
    · refine r_iload_n hE 2 dX13_number__g4.2.2.2.2.2.2.2.2.2.1 rfl rfl ?_
      refine r_iconst (v := (1 : Int32)) hE dX13_number__g4.2.2.2.2.2.2.2.2.2.2.1 (by decide) ?_
      refine r_icmp_ne hE 143 dX13_number__g4.2.2.2.2.2.2.2.2.2.2.2.1 (by decide) h (fun h => ?_) (fun h => ?_)
      · refine r_iload_n hE 1 dX13_number__g4.2.2.2.2.2.2.2.2.2.2.2.2.2.2.1 rfl rfl ?_
        refine r_if_ne hE 163 dX13_number__g4.2.2.2.2.2.2.2.2.2.2.2.2.2.2.2 (by decide) h (fun h => ?_) (fun h => ?_)
        · refine r_aload_n hE 0 dX13_number__g5.2.2.2.2.2.2.2.2.2.1 rfl rfl ?_
          refine mg_rowSize hE hm dX13_number__g5.2.2.2.2.2.2.2.2.2.2.1 ?_
          refine r_aload_n hE 0 dX13_number__g5.2.2.2.2.2.2.2.2.2.2.2.1 rfl rfl ?_
          refine mg_rowOf hE hm dX13_number__g5.2.2.2.2.2.2.2.2.2.2.2.2.1 ?_
          refine r_iload hE 3 dX13_number__g5.2.2.2.2.2.2.2.2.2.2.2.2.2.1 rfl ?_
          obtain ⟨hi, h⟩ := h
          refine ml_rowOf hE hm dX13_number__g5.2.2.2.2.2.2.2.2.2.2.2.2.2.2.1 hi ?_
          obtain ⟨hi, h⟩ := h
          refine ml_rowSize hE hm dX13_number__g5.2.2.2.2.2.2.2.2.2.2.2.2.2.2.2 hi ?_
          refine r_i2l hE dX13_number__g6.1 ?_
          exact m_lret hE hm hF dX13_number__g6.2.1 h
        · refine r_aload_n hE 0 dX13_number__g5.1 rfl rfl ?_
          refine mg_rowSort hE hm dX13_number__g5.2.1 ?_
          refine r_aload_n hE 0 dX13_number__g5.2.2.1 rfl rfl ?_
          refine mg_rowOf hE hm dX13_number__g5.2.2.2.1 ?_
          refine r_iload hE 3 dX13_number__g5.2.2.2.2.1 rfl ?_
          obtain ⟨hi, h⟩ := h
          refine ml_rowOf hE hm dX13_number__g5.2.2.2.2.2.1 hi ?_
          obtain ⟨hi, h⟩ := h
          refine ml_rowSort hE hm dX13_number__g5.2.2.2.2.2.2.1 hi ?_
          refine r_i2l hE dX13_number__g5.2.2.2.2.2.2.2.1 ?_
          refine r_goto hE 176 dX13_number__g5.2.2.2.2.2.2.2.2.1 (by decide) ?_
          exact m_lret hE hm hF dX13_number__g6.2.1 h
      · refine r_lconst (v := (1 : Int64)) hE dX13_number__g4.2.2.2.2.2.2.2.2.2.2.2.2.1 (by decide) ?_
        refine r_goto hE 176 dX13_number__g4.2.2.2.2.2.2.2.2.2.2.2.2.2.1 (by decide) ?_
        exact m_lret hE hm hF dX13_number__g6.2.1 h
  · refine r_lconst (v := (0 : Int64)) hE dX13_number__g4.2.1 (by decide) ?_
    exact m_lret hE hm hF dX13_number__g4.2.2.1 h
def wm_number__109 (post : MS → Int64 → Prop) (σ : MS) (v2 : Int32) (v3 : Int32) (v4 : Int32) : Prop := wm_number__110 post σ v2 v3 v4 (1 : Int32)
set_option maxRecDepth 20000 in
theorem km_number__109 {E : gEnv} {l : Launch} {D : va_G} {cl : List vw_C} {G : gAd} {post : MS → Int64 → Prop} (hE : gOK E cX13_number_ RX13 (some .long) 3) (hm : mOK E l D cl G (qL post) 6) (hF : gFin E) (σ : MS) (v2 : Int32) (v3 : Int32) (v4 : Int32) (h : wm_number__109 post σ v2 v3 v4) : GW E (mW G σ) 109 [(0, .ref (G.1 0)), (2, .int v2), (3, .int v3), (4, .int v4)] [.ref (G.1 0)] := by
  unfold wm_number__109 at h
  have hN := hm.2.2.2.2.2.2.1
  refine r_iconst (v := (1 : Int32)) hE dX13_number__g3.2.2.2.2.2.2.2.2.2.2.2.2.1 (by decide) ?_
  exact km_number__110 hE hm hF _ _ _ _ _ h
def wm_number__78 (post : MS → Int64 → Prop) (σ : MS) (v2 : Int32) (v3 : Int32) (v4 : Int32) (t0 : Int32) : Prop := wm_in (fun (s2 : MS) (r3 : Int32) => ((r3 = (0 : Int32)) → (wm_number__109 post s2 v2 v3 v4)) ∧ ((¬ (r3 = (0 : Int32))) → (wm_in (fun (s4 : MS) (r5 : Int32) => ((r5 = (0 : Int32)) → (wm_number__109 post s4 v2 v3 v4)) ∧ ((¬ (r5 = (0 : Int32))) → (wm_number__110 post s4 v2 v3 v4 (0 : Int32)))) s2 (v2.toInt64) (0 : Int64) ((t0 - (1 : Int32)).toInt64)))) σ (v3.toInt64) (0 : Int64) (1 : Int64)
set_option maxRecDepth 20000 in
theorem km_number__78 {E : gEnv} {l : Launch} {D : va_G} {cl : List vw_C} {G : gAd} {post : MS → Int64 → Prop} (hE : gOK E cX13_number_ RX13 (some .long) 3) (hm : mOK E l D cl G (qL post) 6) (hF : gFin E) (σ : MS) (v2 : Int32) (v3 : Int32) (v4 : Int32) (t0 : Int32) (h : wm_number__78 post σ v2 v3 v4 t0) : GW E (mW G σ) 78 [(0, .ref (G.1 0)), (2, .int v2), (3, .int v3), (4, .int v4)] [.int t0] := by
  unfold wm_number__78 at h
  have hN := hm.2.2.2.2.2.2.1
  refine r_istore hE [(5, .int t0), (0, .ref (G.1 0)), (2, .int v2), (3, .int v3), (4, .int v4)] dX13_number__g2.2.2.2.2.2.2.2.2.2.1 hN (by decide) rfl ?_
  refine r_aload_n hE 1 dX13_number__g2.2.2.2.2.2.2.2.2.2.2.1 rfl rfl ?_
  refine r_iload_n hE 3 dX13_number__g2.2.2.2.2.2.2.2.2.2.2.2.1 rfl rfl ?_
  refine r_i2l hE dX13_number__g2.2.2.2.2.2.2.2.2.2.2.2.2.1 ?_
  refine r_lconst (v := (0 : Int64)) hE dX13_number__g2.2.2.2.2.2.2.2.2.2.2.2.2.2.1 (by decide) ?_
  refine r_lconst (v := (1 : Int64)) hE dX13_number__g2.2.2.2.2.2.2.2.2.2.2.2.2.2.2.1 (by decide) ?_
  refine m_callSi hE hm [.long (v3.toInt64), .long (0 : Int64), .long (1 : Int64)] [.ref (G.1 0)] mc_in (km_in hm.2.2.2.2.2.2.2.2 h) (by decide) rfl rfl (Nat.le_of_ble_eq_true rfl) dX13_number__g2.2.2.2.2.2.2.2.2.2.2.2.2.2.2.2 (fun s2 r3 h => ?_)
  refine r_if_eq hE 109 dX13_number__g3.1 (by decide) h (fun h => ?_) (fun h => ?_)
  · refine r_pick [1, 2, 3, 4] rfl ?_
    exact km_number__109 hE hm hF _ _ _ _ h
  · refine r_iload_n hE 2 dX13_number__g3.2.1 rfl rfl ?_
    refine r_i2l hE dX13_number__g3.2.2.1 ?_
    refine r_lconst (v := (0 : Int64)) hE dX13_number__g3.2.2.2.1 (by decide) ?_
    refine r_iload hE 0 dX13_number__g3.2.2.2.2.1 rfl ?_
    refine r_iconst (v := (1 : Int32)) hE dX13_number__g3.2.2.2.2.2.1 (by decide) ?_
    refine r_isub hE dX13_number__g3.2.2.2.2.2.2.1 ?_
    refine r_i2l hE dX13_number__g3.2.2.2.2.2.2.2.1 ?_
    refine m_callSi hE hm [.long (v2.toInt64), .long (0 : Int64), .long ((t0 - (1 : Int32)).toInt64)] [.ref (G.1 0)] mc_in (km_in hm.2.2.2.2.2.2.2.2 h) (by decide) rfl rfl (Nat.le_of_ble_eq_true rfl) dX13_number__g3.2.2.2.2.2.2.2.2.1 (fun s4 r5 h => ?_)
    refine r_if_eq hE 109 dX13_number__g3.2.2.2.2.2.2.2.2.2.1 (by decide) h (fun h => ?_) (fun h => ?_)
    · refine r_pick [1, 2, 3, 4] rfl ?_
      exact km_number__109 hE hm hF _ _ _ _ h
    · refine r_iconst (v := (0 : Int32)) hE dX13_number__g3.2.2.2.2.2.2.2.2.2.2.1 (by decide) ?_
      refine r_goto hE 110 dX13_number__g3.2.2.2.2.2.2.2.2.2.2.2.1 (by decide) ?_
      refine r_pick [1, 2, 3, 4] rfl ?_
      exact km_number__110 hE hm hF _ _ _ _ _ h
def wm_number__57 (post : MS → Int64 → Prop) (σ : MS) (v2 : Int32) (v3 : Int32) (v4 : Int32) : Prop := wm_number__78 post σ v2 v3 v4 (2 : Int32)
set_option maxRecDepth 20000 in
theorem km_number__57 {E : gEnv} {l : Launch} {D : va_G} {cl : List vw_C} {G : gAd} {post : MS → Int64 → Prop} (hE : gOK E cX13_number_ RX13 (some .long) 3) (hm : mOK E l D cl G (qL post) 6) (hF : gFin E) (σ : MS) (v2 : Int32) (v3 : Int32) (v4 : Int32) (h : wm_number__57 post σ v2 v3 v4) : GW E (mW G σ) 57 [(0, .ref (G.1 0)), (2, .int v2), (3, .int v3), (4, .int v4)] [] := by
  unfold wm_number__57 at h
  have hN := hm.2.2.2.2.2.2.1
  refine r_iconst (v := (2 : Int32)) hE dX13_number__g1.2.2.2.2.2.2.2.2.2.2.2.2.2.2.1 (by decide) ?_
  refine r_goto hE 78 dX13_number__g1.2.2.2.2.2.2.2.2.2.2.2.2.2.2.2 (by decide) ?_
  exact km_number__78 hE hm hF _ _ _ _ _ h
def wm_number_ (post : MS → Int64 → Prop) (σ : MS) (a1 : Int32) (a2 : Int32) (a3 : Int32) : Prop := wm_noDrawn (fun (s6 : MS) (r7 : Int32) => ((r7 = (0 : Int32)) → (vp_in a1 40 ∧ (∀ x8 : Int32, x8 = m_drawn s6 a1.toNatClampNeg → vp_in x8 480 ∧ (((¬ ((m_sort s6 x8.toNatClampNeg) = (0 : Int32))) → (vp_in x8 480 ∧ (wm_isPoint (fun (s9 : MS) (r10 : Int32) => ((¬ (r10 = (0 : Int32))) → (wm_number__57 post s9 a2 a3 x8)) ∧ ((r10 = (0 : Int32)) → (vp_in x8 480 ∧ (((¬ ((m_sort s9 x8.toNatClampNeg) = (6 : Int32))) → (vp_in x8 480 ∧ (((¬ ((m_sort s9 x8.toNatClampNeg) = (4 : Int32))) → (wm_number__78 post s9 a2 a3 x8 (3 : Int32))) ∧ (((m_sort s9 x8.toNatClampNeg) = (4 : Int32)) → (wm_number__78 post s9 a2 a3 x8 (7 : Int32)))))) ∧ (((m_sort s9 x8.toNatClampNeg) = (6 : Int32)) → (wm_number__57 post s9 a2 a3 x8)))))) s6 (m_sort s6 x8.toNatClampNeg)))) ∧ (((m_sort s6 x8.toNatClampNeg) = (0 : Int32)) → (wm_number__78 post s6 a2 a3 x8 (1 : Int32))))))) ∧ ((¬ (r7 = (0 : Int32))) → (post s6 (0 : Int64)))) σ a1
set_option maxRecDepth 20000 in
theorem km_number_ {l : Launch} {D : va_G} {cl : List vw_C} {G : gAd} {post : MS → Int64 → Prop} (hcl : mC cl) {σ : MS} {a1 : Int32} {a2 : Int32} {a3 : Int32} (h : wm_number_ post σ a1 a2 a3) : mMet l D cl G yX13_number_ cX13_number_ 6 (some .long) 3 [.ref (G.1 0), .int a1, .int a2, .int a3] σ (qL post) := by
  unfold wm_number_ at h
  refine m_enter hcl (by decide +kernel) rfl [(0, .ref (G.1 0)), (1, .int a1), (2, .int a2), (3, .int a3)] rfl (Nat.le_of_ble_eq_true rfl) ?_
  intro E hE hm hF
  have hN := hm.2.2.2.2.2.2.1
  refine r_aload_n hE 0 dX13_number__g0.1 rfl rfl ?_
  refine r_iload_n hE 1 dX13_number__g0.2.1 rfl rfl ?_
  refine m_callVi hE hm [.int a1] [] mc_noDrawn (km_noDrawn hm.2.2.2.2.2.2.2.2 h) (by decide) rfl rfl (Nat.le_of_ble_eq_true rfl) dX13_number__g0.2.2.1 (fun s6 r7 h => ?_)
  refine r_if_eq hE 10 dX13_number__g0.2.2.2.1 (by decide) h (fun h => ?_) (fun h => ?_)
  · refine r_aload_n hE 0 dX13_number__g0.2.2.2.2.2.2.1 rfl rfl ?_
    refine mg_drawn hE hm dX13_number__g0.2.2.2.2.2.2.2.1 ?_
    refine r_iload_n hE 1 dX13_number__g0.2.2.2.2.2.2.2.2.1 rfl rfl ?_
    obtain ⟨hi, h⟩ := h
    refine ml_drawn hE hm dX13_number__g0.2.2.2.2.2.2.2.2.2.1 hi ?_
    refine r_topi h (fun x8 ex8 h => ?_)
    refine r_istore hE [(4, .int x8), (0, .ref (G.1 0)), (1, .int a1), (2, .int a2), (3, .int a3)] dX13_number__g0.2.2.2.2.2.2.2.2.2.2.1 hN (by decide) rfl ?_
    refine r_aload_n hE 1 dX13_number__g0.2.2.2.2.2.2.2.2.2.2.2.1 rfl rfl ?_
    refine mg_sort hE hm dX13_number__g0.2.2.2.2.2.2.2.2.2.2.2.2.1 ?_
    refine r_iload hE 0 dX13_number__g0.2.2.2.2.2.2.2.2.2.2.2.2.2.1 rfl ?_
    obtain ⟨hi, h⟩ := h
    refine ml_sort hE hm dX13_number__g0.2.2.2.2.2.2.2.2.2.2.2.2.2.2.1 hi ?_
    refine r_if_ne hE 32 dX13_number__g0.2.2.2.2.2.2.2.2.2.2.2.2.2.2.2 (by decide) h (fun h => ?_) (fun h => ?_)
    · refine r_aload_n hE 1 dX13_number__g1.2.2.1 rfl rfl ?_
      refine mg_sort hE hm dX13_number__g1.2.2.2.1 ?_
      refine r_iload hE 0 dX13_number__g1.2.2.2.2.1 rfl ?_
      obtain ⟨hi, h⟩ := h
      refine ml_sort hE hm dX13_number__g1.2.2.2.2.2.1 hi ?_
      refine m_callSi hE hm [.int (m_sort s6 x8.toNatClampNeg)] [] mc_isPoint (km_isPoint hm.2.2.2.2.2.2.2.2 h) (by decide) rfl rfl (Nat.le_of_ble_eq_true rfl) dX13_number__g1.2.2.2.2.2.2.1 (fun s9 r10 h => ?_)
      refine r_if_ne hE 57 dX13_number__g1.2.2.2.2.2.2.2.1 (by decide) h (fun h => ?_) (fun h => ?_)
      · refine r_pick [1, 3, 4, 0] rfl ?_
        exact km_number__57 hE hm hF _ _ _ _ h
      · refine r_aload_n hE 1 dX13_number__g1.2.2.2.2.2.2.2.2.1 rfl rfl ?_
        refine mg_sort hE hm dX13_number__g1.2.2.2.2.2.2.2.2.2.1 ?_
        refine r_iload hE 0 dX13_number__g1.2.2.2.2.2.2.2.2.2.2.1 rfl ?_
        obtain ⟨hi, h⟩ := h
        refine ml_sort hE hm dX13_number__g1.2.2.2.2.2.2.2.2.2.2.2.1 hi ?_
        refine r_bipush (v := (6 : Int32)) hE dX13_number__g1.2.2.2.2.2.2.2.2.2.2.2.2.1 (by decide) ?_
        refine r_icmp_ne hE 61 dX13_number__g1.2.2.2.2.2.2.2.2.2.2.2.2.2.1 (by decide) h (fun h => ?_) (fun h => ?_)
        · refine r_aload_n hE 1 dX13_number__g2.1 rfl rfl ?_
          refine mg_sort hE hm dX13_number__g2.2.1 ?_
          refine r_iload hE 0 dX13_number__g2.2.2.1 rfl ?_
          obtain ⟨hi, h⟩ := h
          refine ml_sort hE hm dX13_number__g2.2.2.2.1 hi ?_
          refine r_iconst (v := (4 : Int32)) hE dX13_number__g2.2.2.2.2.1 (by decide) ?_
          refine r_icmp_ne hE 77 dX13_number__g2.2.2.2.2.2.1 (by decide) h (fun h => ?_) (fun h => ?_)
          · refine r_iconst (v := (3 : Int32)) hE dX13_number__g2.2.2.2.2.2.2.2.2.1 (by decide) ?_
            refine r_pick [1, 3, 4, 0] rfl ?_
            exact km_number__78 hE hm hF _ _ _ _ _ h
          · refine r_bipush (v := (7 : Int32)) hE dX13_number__g2.2.2.2.2.2.2.1 (by decide) ?_
            refine r_goto hE 78 dX13_number__g2.2.2.2.2.2.2.2.1 (by decide) ?_
            refine r_pick [1, 3, 4, 0] rfl ?_
            exact km_number__78 hE hm hF _ _ _ _ _ h
        · refine r_pick [1, 3, 4, 0] rfl ?_
          exact km_number__57 hE hm hF _ _ _ _ h
    · refine r_iconst (v := (1 : Int32)) hE dX13_number__g1.1 (by decide) ?_
      refine r_goto hE 78 dX13_number__g1.2.1 (by decide) ?_
      refine r_pick [1, 3, 4, 0] rfl ?_
      exact km_number__78 hE hm hF _ _ _ _ _ h
  · refine r_lconst (v := (0 : Int64)) hE dX13_number__g0.2.2.2.2.1 (by decide) ?_
    exact m_lret hE hm hF dX13_number__g0.2.2.2.2.2.1 h
/-! leans -/
def wm_leans (post : MS → Int32 → Prop) (σ : MS) (a1 : Int32) : Prop := wm_noDrawn (fun (s1 : MS) (r2 : Int32) => ((r2 = (0 : Int32)) → (vp_in a1 40 ∧ (vp_in (m_drawn s1 a1.toNatClampNeg) 480 ∧ (post s1 (m_lean s1 (m_drawn s1 a1.toNatClampNeg).toNatClampNeg))))) ∧ ((¬ (r2 = (0 : Int32))) → (post s1 (0 : Int32)))) σ a1
set_option maxRecDepth 20000 in
theorem km_leans {l : Launch} {D : va_G} {cl : List vw_C} {G : gAd} {post : MS → Int32 → Prop} (hcl : mC cl) {σ : MS} {a1 : Int32} (h : wm_leans post σ a1) : mMet l D cl G yX13_leans cX13_leans 2 (some .int) 3 [.ref (G.1 0), .int a1] σ (qI post) := by
  unfold wm_leans at h
  refine m_enter hcl (by decide +kernel) rfl [(0, .ref (G.1 0)), (1, .int a1)] rfl (Nat.le_of_ble_eq_true rfl) ?_
  intro E hE hm hF
  have hN := hm.2.2.2.2.2.2.1
  refine r_aload_n hE 0 dX13_leans_g0.1 rfl rfl ?_
  refine r_iload_n hE 1 dX13_leans_g0.2.1 rfl rfl ?_
  refine m_callVi hE hm [.int a1] [] mc_noDrawn (km_noDrawn hm.2.2.2.2.2.2.2.2 h) (by decide) rfl rfl (Nat.le_of_ble_eq_true rfl) dX13_leans_g0.2.2.1 (fun s1 r2 h => ?_)
  refine r_if_eq hE 12 dX13_leans_g0.2.2.2.1 (by decide) h (fun h => ?_) (fun h => ?_)
  · refine r_aload_n hE 0 dX13_leans_g0.2.2.2.2.2.2.1 rfl rfl ?_
    refine mg_lean hE hm dX13_leans_g0.2.2.2.2.2.2.2.1 ?_
    refine r_aload_n hE 0 dX13_leans_g0.2.2.2.2.2.2.2.2.1 rfl rfl ?_
    refine mg_drawn hE hm dX13_leans_g0.2.2.2.2.2.2.2.2.2.1 ?_
    refine r_iload_n hE 1 dX13_leans_g0.2.2.2.2.2.2.2.2.2.2.1 rfl rfl ?_
    obtain ⟨hi, h⟩ := h
    refine ml_drawn hE hm dX13_leans_g0.2.2.2.2.2.2.2.2.2.2.2.1 hi ?_
    obtain ⟨hi, h⟩ := h
    refine ml_lean hE hm dX13_leans_g0.2.2.2.2.2.2.2.2.2.2.2.2.1 hi ?_
    exact m_iret hE hm hF dX13_leans_g0.2.2.2.2.2.2.2.2.2.2.2.2.2 h
  · refine r_iconst (v := (0 : Int32)) hE dX13_leans_g0.2.2.2.2.1 (by decide) ?_
    refine r_goto hE 23 dX13_leans_g0.2.2.2.2.2.1 (by decide) ?_
    exact m_iret hE hm hF dX13_leans_g0.2.2.2.2.2.2.2.2.2.2.2.2.2 h
/-! stated -/
def wm_stated_22 (post : MS → Int32 → Prop) (σ : MS) (v1 : Int32) (t1 : Int32) : Prop := ∀ s1 : MS, s1 = m_code_s σ t1 → (((m_code s1) ≤ (0 : Int32)) → (vp_in v1 40 ∧ (post s1 (m_stated s1 v1.toNatClampNeg)))) ∧ ((¬ ((m_code s1) ≤ (0 : Int32))) → (post s1 (0 : Int32)))
set_option maxRecDepth 20000 in
theorem km_stated_22 {E : gEnv} {l : Launch} {D : va_G} {cl : List vw_C} {G : gAd} {post : MS → Int32 → Prop} (hE : gOK E cX13_stated RX13 (some .int) 2) (hm : mOK E l D cl G (qI post) 2) (hF : gFin E) (σ : MS) (v1 : Int32) (t1 : Int32) (h : wm_stated_22 post σ v1 t1) : GW E (mW G σ) 22 [(0, .ref (G.1 0)), (1, .int v1)] [.int t1, .ref (G.1 0)] := by
  unfold wm_stated_22 at h
  have hN := hm.2.2.2.2.2.2.1
  refine mp_code hE hm dX13_stated_g0.2.2.2.2.2.2.2.2.2.2.2.2.2.2.1 h (fun s1 h => ?_)
  refine r_aload_n hE 0 dX13_stated_g0.2.2.2.2.2.2.2.2.2.2.2.2.2.2.2 rfl rfl ?_
  refine mg_code hE hm dX13_stated_g1.1 ?_
  refine r_if_le hE 36 dX13_stated_g1.2.1 (by decide) h (fun h => ?_) (fun h => ?_)
  · refine r_aload_n hE 0 dX13_stated_g1.2.2.2.2.1 rfl rfl ?_
    refine mg_stated hE hm dX13_stated_g1.2.2.2.2.2.1 ?_
    refine r_iload_n hE 1 dX13_stated_g1.2.2.2.2.2.2.1 rfl rfl ?_
    obtain ⟨hi, h⟩ := h
    refine ml_stated hE hm dX13_stated_g1.2.2.2.2.2.2.2.1 hi ?_
    exact m_iret hE hm hF dX13_stated_g1.2.2.2.2.2.2.2.2 h
  · refine r_iconst (v := (0 : Int32)) hE dX13_stated_g1.2.2.1 (by decide) ?_
    refine r_goto hE 42 dX13_stated_g1.2.2.2.1 (by decide) ?_
    exact m_iret hE hm hF dX13_stated_g1.2.2.2.2.2.2.2.2 h
def wm_stated (post : MS → Int32 → Prop) (σ : MS) (a1 : Int32) : Prop := wm_in (fun (s2 : MS) (r3 : Int32) => ((r3 = (0 : Int32)) → (wm_stated_22 post s2 a1 (1 : Int32))) ∧ ((¬ (r3 = (0 : Int32))) → (wm_stated_22 post s2 a1 (0 : Int32)))) σ (a1.toInt64) (0 : Int64) (((m_statedMany σ) - (1 : Int32)).toInt64)
set_option maxRecDepth 20000 in
theorem km_stated {l : Launch} {D : va_G} {cl : List vw_C} {G : gAd} {post : MS → Int32 → Prop} (hcl : mC cl) {σ : MS} {a1 : Int32} (h : wm_stated post σ a1) : mMet l D cl G yX13_stated cX13_stated 2 (some .int) 2 [.ref (G.1 0), .int a1] σ (qI post) := by
  unfold wm_stated at h
  refine m_enter hcl (by decide +kernel) rfl [(0, .ref (G.1 0)), (1, .int a1)] rfl (Nat.le_of_ble_eq_true rfl) ?_
  intro E hE hm hF
  have hN := hm.2.2.2.2.2.2.1
  refine r_aload_n hE 0 dX13_stated_g0.1 rfl rfl ?_
  refine r_iload_n hE 1 dX13_stated_g0.2.1 rfl rfl ?_
  refine r_i2l hE dX13_stated_g0.2.2.1 ?_
  refine r_lconst (v := (0 : Int64)) hE dX13_stated_g0.2.2.2.1 (by decide) ?_
  refine r_aload_n hE 0 dX13_stated_g0.2.2.2.2.1 rfl rfl ?_
  refine mg_statedMany hE hm dX13_stated_g0.2.2.2.2.2.1 ?_
  refine r_iconst (v := (1 : Int32)) hE dX13_stated_g0.2.2.2.2.2.2.1 (by decide) ?_
  refine r_isub hE dX13_stated_g0.2.2.2.2.2.2.2.1 ?_
  refine r_i2l hE dX13_stated_g0.2.2.2.2.2.2.2.2.1 ?_
  refine m_callSi hE hm [.long (a1.toInt64), .long (0 : Int64), .long (((m_statedMany σ) - (1 : Int32)).toInt64)] [.ref (G.1 0)] mc_in (km_in hm.2.2.2.2.2.2.2.2 h) (by decide) rfl rfl (Nat.le_of_ble_eq_true rfl) dX13_stated_g0.2.2.2.2.2.2.2.2.2.1 (fun s2 r3 h => ?_)
  refine r_if_eq hE 21 dX13_stated_g0.2.2.2.2.2.2.2.2.2.2.1 (by decide) h (fun h => ?_) (fun h => ?_)
  · refine r_iconst (v := (1 : Int32)) hE dX13_stated_g0.2.2.2.2.2.2.2.2.2.2.2.2.2.1 (by decide) ?_
    exact km_stated_22 hE hm hF _ _ _ h
  · refine r_iconst (v := (0 : Int32)) hE dX13_stated_g0.2.2.2.2.2.2.2.2.2.2.2.1 (by decide) ?_
    refine r_goto hE 22 dX13_stated_g0.2.2.2.2.2.2.2.2.2.2.2.2.1 (by decide) ?_
    exact km_stated_22 hE hm hF _ _ _ h
/-! fall -/
def wm_fall (post : MS → Int32 → Prop) (σ : MS) (a1 : Int32) (a2 : Int32) : Prop := ∀ s1 : MS, s1 = m_code_s σ (0 : Int32) → wm_in (fun (s2 : MS) (r3 : Int32) => ((¬ (r3 = (0 : Int32))) → (wm_in (fun (s4 : MS) (r5 : Int32) => ((¬ (r5 = (0 : Int32))) → (((¬ (a2 = (0 : Int32))) → (vp_in a1 12 ∧ (post s4 (m_fallAt s4 a1.toNatClampNeg)))) ∧ ((a2 = (0 : Int32)) → (vp_in a1 12 ∧ (post s4 (m_fallWhat s4 a1.toNatClampNeg)))))) ∧ ((r5 = (0 : Int32)) → (post s4 (-1 : Int32)))) s2 (a1.toInt64) (0 : Int64) (((m_falls s2) - (1 : Int32)).toInt64))) ∧ ((r3 = (0 : Int32)) → (post s2 (-2000000002 : Int32)))) s1 (a2.toInt64) (0 : Int64) (1 : Int64)
set_option maxRecDepth 20000 in
theorem km_fall {l : Launch} {D : va_G} {cl : List vw_C} {G : gAd} {post : MS → Int32 → Prop} (hcl : mC cl) {σ : MS} {a1 : Int32} {a2 : Int32} (h : wm_fall post σ a1 a2) : mMet l D cl G yX13_fall cX13_fall 3 (some .int) 2 [.ref (G.1 0), .int a1, .int a2] σ (qI post) := by
  unfold wm_fall at h
  refine m_enter hcl (by decide +kernel) rfl [(0, .ref (G.1 0)), (1, .int a1), (2, .int a2)] rfl (Nat.le_of_ble_eq_true rfl) ?_
  intro E hE hm hF
  have hN := hm.2.2.2.2.2.2.1
  refine r_aload_n hE 0 dX13_fall_g0.1 rfl rfl ?_
  refine r_iconst (v := (0 : Int32)) hE dX13_fall_g0.2.1 (by decide) ?_
  refine mp_code hE hm dX13_fall_g0.2.2.1 h (fun s1 h => ?_)
  refine r_iload_n hE 2 dX13_fall_g0.2.2.2.1 rfl rfl ?_
  refine r_i2l hE dX13_fall_g0.2.2.2.2.1 ?_
  refine r_lconst (v := (0 : Int64)) hE dX13_fall_g0.2.2.2.2.2.1 (by decide) ?_
  refine r_lconst (v := (1 : Int64)) hE dX13_fall_g0.2.2.2.2.2.2.1 (by decide) ?_
  refine m_callSi hE hm [.long (a2.toInt64), .long (0 : Int64), .long (1 : Int64)] [] mc_in (km_in hm.2.2.2.2.2.2.2.2 h) (by decide) rfl rfl (Nat.le_of_ble_eq_true rfl) dX13_fall_g0.2.2.2.2.2.2.2.1 (fun s2 r3 h => ?_)
  refine r_if_ne hE 18 dX13_fall_g0.2.2.2.2.2.2.2.2.1 (by decide) h (fun h => ?_) (fun h => ?_)
  · refine r_iload_n hE 1 dX13_fall_g0.2.2.2.2.2.2.2.2.2.2.2.1 rfl rfl ?_
    refine r_i2l hE dX13_fall_g0.2.2.2.2.2.2.2.2.2.2.2.2.1 ?_
    refine r_lconst (v := (0 : Int64)) hE dX13_fall_g0.2.2.2.2.2.2.2.2.2.2.2.2.2.1 (by decide) ?_
    refine r_aload_n hE 0 dX13_fall_g0.2.2.2.2.2.2.2.2.2.2.2.2.2.2.1 rfl rfl ?_
    refine mg_falls hE hm dX13_fall_g0.2.2.2.2.2.2.2.2.2.2.2.2.2.2.2 ?_
    refine r_iconst (v := (1 : Int32)) hE dX13_fall_g1.1 (by decide) ?_
    refine r_isub hE dX13_fall_g1.2.1 ?_
    refine r_i2l hE dX13_fall_g1.2.2.1 ?_
    refine m_callSi hE hm [.long (a1.toInt64), .long (0 : Int64), .long (((m_falls s2) - (1 : Int32)).toInt64)] [] mc_in (km_in hm.2.2.2.2.2.2.2.2 h) (by decide) rfl rfl (Nat.le_of_ble_eq_true rfl) dX13_fall_g1.2.2.2.1 (fun s4 r5 h => ?_)
    refine r_if_ne hE 38 dX13_fall_g1.2.2.2.2.1 (by decide) h (fun h => ?_) (fun h => ?_)
    · refine r_iload_n hE 2 dX13_fall_g1.2.2.2.2.2.2.2.1 rfl rfl ?_
      refine r_if_ne hE 51 dX13_fall_g1.2.2.2.2.2.2.2.2.1 (by decide) h (fun h => ?_) (fun h => ?_)
      · refine r_aload_n hE 0 dX13_fall_g1.2.2.2.2.2.2.2.2.2.2.2.2.2.2.1 rfl rfl ?_
        refine mg_fallAt hE hm dX13_fall_g1.2.2.2.2.2.2.2.2.2.2.2.2.2.2.2 ?_
        refine r_iload_n hE 1 dX13_fall_g2.1 rfl rfl ?_
        obtain ⟨hi, h⟩ := h
        refine ml_fallAt hE hm dX13_fall_g2.2.1 hi ?_
        exact m_iret hE hm hF dX13_fall_g2.2.2 h
      · refine r_aload_n hE 0 dX13_fall_g1.2.2.2.2.2.2.2.2.2.1 rfl rfl ?_
        refine mg_fallWhat hE hm dX13_fall_g1.2.2.2.2.2.2.2.2.2.2.1 ?_
        refine r_iload_n hE 1 dX13_fall_g1.2.2.2.2.2.2.2.2.2.2.2.1 rfl rfl ?_
        obtain ⟨hi, h⟩ := h
        refine ml_fallWhat hE hm dX13_fall_g1.2.2.2.2.2.2.2.2.2.2.2.2.1 hi ?_
        refine r_goto hE 57 dX13_fall_g1.2.2.2.2.2.2.2.2.2.2.2.2.2.1 (by decide) ?_
        exact m_iret hE hm hF dX13_fall_g2.2.2 h
    · refine r_iconst (v := (-1 : Int32)) hE dX13_fall_g1.2.2.2.2.2.1 (by decide) ?_
      refine r_goto hE 57 dX13_fall_g1.2.2.2.2.2.2.1 (by decide) ?_
      exact m_iret hE hm hF dX13_fall_g2.2.2 h
  · refine r_ldc (v := (-2000000002 : Int32)) hE dX13_fall_g0.2.2.2.2.2.2.2.2.2.1 (gTb_9 (List.mem_of_getElem? (i := 31) rfl) rfl) ?_
    exact m_iret hE hm hF dX13_fall_g0.2.2.2.2.2.2.2.2.2.2.1 h
/-! same -/
def wm_same (post : MS → Int32 → Prop) (σ : MS) (a1 : Int32) (a2 : Int32) : Prop := wm_noDrawn (fun (s1 : MS) (r2 : Int32) => ((¬ (r2 = (0 : Int32))) → (post s1 (0 : Int32))) ∧ ((r2 = (0 : Int32)) → (wm_noDrawn (fun (s3 : MS) (r4 : Int32) => ((¬ (r4 = (0 : Int32))) → (post s3 (0 : Int32))) ∧ ((r4 = (0 : Int32)) → (vp_in a1 40 ∧ (vp_in a2 40 ∧ (wm_areLike (fun (s5 : MS) (r6 : Int32) => ((r6 = (0 : Int32)) → (post s5 (0 : Int32))) ∧ ((¬ (r6 = (0 : Int32))) → (post s5 (1 : Int32)))) s3 (m_drawn s3 a1.toNatClampNeg) (m_drawn s3 a2.toNatClampNeg)))))) s1 a2))) σ a1
set_option maxRecDepth 20000 in
theorem km_same {l : Launch} {D : va_G} {cl : List vw_C} {G : gAd} {post : MS → Int32 → Prop} (hcl : mC cl) {σ : MS} {a1 : Int32} {a2 : Int32} (h : wm_same post σ a1 a2) : mMet l D cl G yX13_same cX13_same 3 (some .boolean) 3 [.ref (G.1 0), .int a1, .int a2] σ (qI post) := by
  unfold wm_same at h
  refine m_enter hcl (by decide +kernel) rfl [(0, .ref (G.1 0)), (1, .int a1), (2, .int a2)] rfl (Nat.le_of_ble_eq_true rfl) ?_
  intro E hE hm hF
  have hN := hm.2.2.2.2.2.2.1
  refine r_aload_n hE 0 dX13_same_g0.1 rfl rfl ?_
  refine r_iload_n hE 1 dX13_same_g0.2.1 rfl rfl ?_
  refine m_callVi hE hm [.int a1] [] mc_noDrawn (km_noDrawn hm.2.2.2.2.2.2.2.2 h) (by decide) rfl rfl (Nat.le_of_ble_eq_true rfl) dX13_same_g0.2.2.1 (fun s1 r2 h => ?_)
  refine r_if_ne hE 39 dX13_same_g0.2.2.2.1 (by decide) h (fun h => ?_) (fun h => ?_)
  · refine r_iconst (v := (0 : Int32)) hE dX13_same_g1.2.2.2.2.2.1 (by decide) ?_
    exact m_zret hE hm hF dX13_same_g1.2.2.2.2.2.2 (Or.inl rfl) h
  · refine r_aload_n hE 0 dX13_same_g0.2.2.2.2.1 rfl rfl ?_
    refine r_iload_n hE 2 dX13_same_g0.2.2.2.2.2.1 rfl rfl ?_
    refine m_callVi hE hm [.int a2] [] mc_noDrawn (km_noDrawn hm.2.2.2.2.2.2.2.2 h) (by decide) rfl rfl (Nat.le_of_ble_eq_true rfl) dX13_same_g0.2.2.2.2.2.2.1 (fun s3 r4 h => ?_)
    refine r_if_ne hE 39 dX13_same_g0.2.2.2.2.2.2.2.1 (by decide) h (fun h => ?_) (fun h => ?_)
    · refine r_iconst (v := (0 : Int32)) hE dX13_same_g1.2.2.2.2.2.1 (by decide) ?_
      exact m_zret hE hm hF dX13_same_g1.2.2.2.2.2.2 (Or.inl rfl) h
    · refine r_aload_n hE 0 dX13_same_g0.2.2.2.2.2.2.2.2.1 rfl rfl ?_
      refine r_aload_n hE 0 dX13_same_g0.2.2.2.2.2.2.2.2.2.1 rfl rfl ?_
      refine mg_drawn hE hm dX13_same_g0.2.2.2.2.2.2.2.2.2.2.1 ?_
      refine r_iload_n hE 1 dX13_same_g0.2.2.2.2.2.2.2.2.2.2.2.1 rfl rfl ?_
      obtain ⟨hi, h⟩ := h
      refine ml_drawn hE hm dX13_same_g0.2.2.2.2.2.2.2.2.2.2.2.2.1 hi ?_
      refine r_aload_n hE 0 dX13_same_g0.2.2.2.2.2.2.2.2.2.2.2.2.2.1 rfl rfl ?_
      refine mg_drawn hE hm dX13_same_g0.2.2.2.2.2.2.2.2.2.2.2.2.2.2.1 ?_
      refine r_iload_n hE 2 dX13_same_g0.2.2.2.2.2.2.2.2.2.2.2.2.2.2.2 rfl rfl ?_
      obtain ⟨hi, h⟩ := h
      refine ml_drawn hE hm dX13_same_g1.1 hi ?_
      refine m_callVi hE hm [.int (m_drawn s3 a1.toNatClampNeg), .int (m_drawn s3 a2.toNatClampNeg)] [] mc_areLike (km_areLike hm.2.2.2.2.2.2.2.2 h) (by decide) rfl rfl (Nat.le_of_ble_eq_true rfl) dX13_same_g1.2.1 (fun s5 r6 h => ?_)
      refine r_if_eq hE 39 dX13_same_g1.2.2.1 (by decide) h (fun h => ?_) (fun h => ?_)
      · refine r_iconst (v := (0 : Int32)) hE dX13_same_g1.2.2.2.2.2.1 (by decide) ?_
        exact m_zret hE hm hF dX13_same_g1.2.2.2.2.2.2 (Or.inl rfl) h
      · refine r_iconst (v := (1 : Int32)) hE dX13_same_g1.2.2.2.1 (by decide) ?_
        refine r_goto hE 40 dX13_same_g1.2.2.2.2.1 (by decide) ?_
        exact m_zret hE hm hF dX13_same_g1.2.2.2.2.2.2 (Or.inr rfl) h
/-! put -/
def wm_put (post : MS → Prop) (σ : MS) (a1 : Int32) : Prop := vp_in (m_outMany σ) 40000 ∧ (∀ s1 : MS, s1 = m_out_s σ (m_outMany σ).toNatClampNeg ((a1.toInt8.toInt32).toInt8.toInt32) → ∀ s2 : MS, s2 = m_outMany_s s1 ((m_outMany s1) + (1 : Int32)) → post s2)
set_option maxRecDepth 20000 in
theorem km_put {l : Launch} {D : va_G} {cl : List vw_C} {G : gAd} {post : MS → Prop} (hcl : mC cl) {σ : MS} {a1 : Int32} (h : wm_put post σ a1) : mMet l D cl G yX13_put cX13_put 2 none 1 [.ref (G.1 0), .int a1] σ (qV post) := by
  unfold wm_put at h
  refine m_enter hcl (by decide +kernel) rfl [(0, .ref (G.1 0)), (1, .int a1)] rfl (Nat.le_of_ble_eq_true rfl) ?_
  intro E hE hm hF
  have hN := hm.2.2.2.2.2.2.1
  refine r_aload_n hE 0 dX13_put_g0.1 rfl rfl ?_
  refine mg_out hE hm dX13_put_g0.2.1 ?_
  refine r_aload_n hE 0 dX13_put_g0.2.2.1 rfl rfl ?_
  refine mg_outMany hE hm dX13_put_g0.2.2.2.1 ?_
  refine r_iload_n hE 1 dX13_put_g0.2.2.2.2.1 rfl rfl ?_
  refine r_i2b hE dX13_put_g0.2.2.2.2.2.1 ?_
  obtain ⟨hi, h⟩ := h
  refine ms_out hE hm dX13_put_g0.2.2.2.2.2.2.1 hi h (fun s1 h => ?_)
  refine r_aload_n hE 0 dX13_put_g0.2.2.2.2.2.2.2.1 rfl rfl ?_
  refine r_dup hE dX13_put_g0.2.2.2.2.2.2.2.2.1 rfl ?_
  refine mg_outMany hE hm dX13_put_g0.2.2.2.2.2.2.2.2.2.1 ?_
  refine r_iconst (v := (1 : Int32)) hE dX13_put_g0.2.2.2.2.2.2.2.2.2.2.1 (by decide) ?_
  refine r_iadd hE dX13_put_g0.2.2.2.2.2.2.2.2.2.2.2.1 ?_
  refine mp_outMany hE hm dX13_put_g0.2.2.2.2.2.2.2.2.2.2.2.2.1 h (fun s2 h => ?_)
  exact m_vret hE hm hF dX13_put_g0.2.2.2.2.2.2.2.2.2.2.2.2.2 h
/-! figures -/
def wm_figures_21 (post : MS → Prop) : Nat → MS → Int64 → Int64 → Prop
  | 0, _, _, _ => False
  | n + 1, σ, v1, v3 => (((lg_cmp v3 (0 : Int64)) ≤ (0 : Int32)) → (post σ)) ∧ ((¬ ((lg_cmp v3 (0 : Int64)) ≤ (0 : Int32))) → (¬ v3 = 0 ∧ (wm_put (fun (s1 : MS) => ∀ x2 : Int64, x2 = v3 / (10 : Int64) → wm_figures_21 post n s1 v1 x2) σ (((48 : Int64) + ((v1 / v3) - (v1 / v3) / (10 : Int64) * (10 : Int64))).toInt32))))
set_option maxRecDepth 20000 in
theorem km_figures_21 {E : gEnv} {l : Launch} {D : va_G} {cl : List vw_C} {G : gAd} {post : MS → Prop} (hE : gOK E cX13_figures RX13 none 2) (hm : mOK E l D cl G (qV post) 5) (hF : gFin E) : ∀ (n : Nat) (σ : MS) (v1 : Int64) (v3 : Int64), wm_figures_21 post n σ v1 v3 → GW E (mW G σ) 21 [(0, .ref (G.1 0)), (1, .long v1), (3, .long v3)] [] := by
  intro n
  induction n with
  | zero => intro σ v1 v3 h; exact h.elim
  | succ n ih =>
    intro σ v1 v3 h
    rw [wm_figures_21] at h
    have hN := hm.2.2.2.2.2.2.1
    refine r_lload_n hE 2 dX13_figures_g0.2.2.2.2.2.2.2.2.2.2.2.2.2.1 rfl rfl ?_
    refine r_lconst (v := (0 : Int64)) hE dX13_figures_g0.2.2.2.2.2.2.2.2.2.2.2.2.2.2.1 (by decide) ?_
    refine r_lcmp hE dX13_figures_g0.2.2.2.2.2.2.2.2.2.2.2.2.2.2.2 ?_
    refine r_if_le hE 52 dX13_figures_g1.1 (by decide) h (fun h => ?_) (fun h => ?_)
    · exact m_vret hE hm hF dX13_figures_g2 h
    · refine r_aload_n hE 0 dX13_figures_g1.2.1 rfl rfl ?_
      refine r_ldc2 (v := (48 : Int64)) hE dX13_figures_g1.2.2.1 (gTb_9 (List.mem_of_getElem? (i := 48) rfl) rfl) ?_
      refine r_lload_n hE 1 dX13_figures_g1.2.2.2.1 rfl rfl ?_
      refine r_lload_n hE 2 dX13_figures_g1.2.2.2.2.1 rfl rfl ?_
      obtain ⟨hz, h⟩ := h
      refine r_ldiv hE dX13_figures_g1.2.2.2.2.2.1 hz ?_
      refine r_ldc2 (v := (10 : Int64)) hE dX13_figures_g1.2.2.2.2.2.2.1 (gTb_9 (List.mem_of_getElem? (i := 50) rfl) rfl) ?_
      refine r_lrem hE dX13_figures_g1.2.2.2.2.2.2.2.1 (by decide) ?_
      refine r_ladd hE dX13_figures_g1.2.2.2.2.2.2.2.2.1 ?_
      refine r_l2i hE dX13_figures_g1.2.2.2.2.2.2.2.2.2.1 ?_
      refine m_callVv hE hm [.int (((48 : Int64) + ((v1 / v3) - (v1 / v3) / (10 : Int64) * (10 : Int64))).toInt32)] [] mc_put (km_put hm.2.2.2.2.2.2.2.2 h) (by decide) rfl rfl (Nat.le_of_ble_eq_true rfl) dX13_figures_g1.2.2.2.2.2.2.2.2.2.2.1 (fun s1 h => ?_)
      refine r_lload_n hE 2 dX13_figures_g1.2.2.2.2.2.2.2.2.2.2.2.1 rfl rfl ?_
      refine r_ldc2 (v := (10 : Int64)) hE dX13_figures_g1.2.2.2.2.2.2.2.2.2.2.2.2.1 (gTb_9 (List.mem_of_getElem? (i := 50) rfl) rfl) ?_
      refine r_ldiv hE dX13_figures_g1.2.2.2.2.2.2.2.2.2.2.2.2.2.1 (by decide) ?_
      refine r_topl h (fun x2 ex2 h => ?_)
      refine r_lstore_n hE [(3, .long x2), (0, .ref (G.1 0)), (1, .long v1)] dX13_figures_g1.2.2.2.2.2.2.2.2.2.2.2.2.2.2.1 rfl hN (by decide) rfl ?_
      refine r_goto hE 21 dX13_figures_g1.2.2.2.2.2.2.2.2.2.2.2.2.2.2.2 (by decide) ?_
      refine r_pick [1, 2, 0] rfl ?_
      exact ih _ _ _ h
def wm_figures_2 (post : MS → Prop) : Nat → MS → Int64 → Int64 → Prop
  | 0, _, _, _ => False
  | n + 1, σ, v1, v3 => ¬ v3 = 0 ∧ ((((lg_cmp (v1 / v3) (9 : Int64)) ≤ (0 : Int32)) → (∃ k : Nat, wm_figures_21 post k σ v1 v3)) ∧ ((¬ ((lg_cmp (v1 / v3) (9 : Int64)) ≤ (0 : Int32))) → (∀ x3 : Int64, x3 = v3 * (10 : Int64) → wm_figures_2 post n σ v1 x3)))
set_option maxRecDepth 20000 in
theorem km_figures_2 {E : gEnv} {l : Launch} {D : va_G} {cl : List vw_C} {G : gAd} {post : MS → Prop} (hE : gOK E cX13_figures RX13 none 2) (hm : mOK E l D cl G (qV post) 5) (hF : gFin E) : ∀ (n : Nat) (σ : MS) (v1 : Int64) (v3 : Int64), wm_figures_2 post n σ v1 v3 → GW E (mW G σ) 2 [(0, .ref (G.1 0)), (1, .long v1), (3, .long v3)] [] := by
  intro n
  induction n with
  | zero => intro σ v1 v3 h; exact h.elim
  | succ n ih =>
    intro σ v1 v3 h
    rw [wm_figures_2] at h
    have hN := hm.2.2.2.2.2.2.1
    refine r_lload_n hE 1 dX13_figures_g0.2.2.1 rfl rfl ?_
    refine r_lload_n hE 2 dX13_figures_g0.2.2.2.1 rfl rfl ?_
    obtain ⟨hz, h⟩ := h
    refine r_ldiv hE dX13_figures_g0.2.2.2.2.1 hz ?_
    refine r_ldc2 (v := (9 : Int64)) hE dX13_figures_g0.2.2.2.2.2.1 (gTb_11 (List.mem_of_getElem? (i := 149) rfl) rfl) ?_
    refine r_lcmp hE dX13_figures_g0.2.2.2.2.2.2.1 ?_
    refine r_if_le hE 21 dX13_figures_g0.2.2.2.2.2.2.2.1 (by decide) h (fun h => ?_) (fun h => ?_)
    · obtain ⟨k, h⟩ := h
      exact km_figures_21 hE hm hF k _ _ _ h
    · refine r_lload_n hE 2 dX13_figures_g0.2.2.2.2.2.2.2.2.1 rfl rfl ?_
      refine r_ldc2 (v := (10 : Int64)) hE dX13_figures_g0.2.2.2.2.2.2.2.2.2.1 (gTb_9 (List.mem_of_getElem? (i := 50) rfl) rfl) ?_
      refine r_lmul hE dX13_figures_g0.2.2.2.2.2.2.2.2.2.2.1 ?_
      refine r_topl h (fun x3 ex3 h => ?_)
      refine r_lstore_n hE [(3, .long x3), (0, .ref (G.1 0)), (1, .long v1)] dX13_figures_g0.2.2.2.2.2.2.2.2.2.2.2.1 rfl hN (by decide) rfl ?_
      refine r_goto hE 2 dX13_figures_g0.2.2.2.2.2.2.2.2.2.2.2.2.1 (by decide) ?_
      refine r_pick [1, 2, 0] rfl ?_
      exact ih _ _ _ h
def wm_figures (post : MS → Prop) (σ : MS) (a1 : Int64) : Prop := ∃ k : Nat, wm_figures_2 post k σ a1 (1 : Int64)
set_option maxRecDepth 20000 in
theorem km_figures {l : Launch} {D : va_G} {cl : List vw_C} {G : gAd} {post : MS → Prop} (hcl : mC cl) {σ : MS} {a1 : Int64} (h : wm_figures post σ a1) : mMet l D cl G yX13_figures cX13_figures 5 none 2 [.ref (G.1 0), .long a1] σ (qV post) := by
  unfold wm_figures at h
  refine m_enter hcl (by decide +kernel) rfl [(0, .ref (G.1 0)), (1, .long a1)] rfl (Nat.le_of_ble_eq_true rfl) ?_
  intro E hE hm hF
  have hN := hm.2.2.2.2.2.2.1
  refine r_lconst (v := (1 : Int64)) hE dX13_figures_g0.1 (by decide) ?_
  refine r_lstore_n hE [(3, .long (1 : Int64)), (0, .ref (G.1 0)), (1, .long a1)] dX13_figures_g0.2.1 rfl hN (by decide) rfl ?_
  refine r_pick [1, 2, 0] rfl ?_
  obtain ⟨k, h⟩ := h
  exact km_figures_2 hE hm hF k _ _ _ h
/-! printName -/
def wm_printName_10 (post : MS → Prop) : Nat → MS → Int32 → Int32 → Prop
  | 0, _, _, _ => False
  | n + 1, σ, v3, v4 => vp_in v3 520 ∧ ((((m_letterMany σ v3.toNatClampNeg) ≤ v4) → (post σ)) ∧ ((¬ ((m_letterMany σ v3.toNatClampNeg) ≤ v4)) → (vp_in (((10 : Int32) * v3) + v4) 5200 ∧ (wm_put (fun (s1 : MS) => ∀ x2 : Int32, x2 = v4 + (1 : Int32) → wm_printName_10 post n s1 v3 x2) σ (m_letters σ (((10 : Int32) * v3) + v4).toNatClampNeg)))))
set_option maxRecDepth 20000 in
theorem km_printName_10 {E : gEnv} {l : Launch} {D : va_G} {cl : List vw_C} {G : gAd} {post : MS → Prop} (hE : gOK E cX13_printName RX13 none 2) (hm : mOK E l D cl G (qV post) 5) (hF : gFin E) : ∀ (n : Nat) (σ : MS) (v3 : Int32) (v4 : Int32), wm_printName_10 post n σ v3 v4 → GW E (mW G σ) 10 [(0, .ref (G.1 0)), (3, .int v3), (4, .int v4)] [] := by
  intro n
  induction n with
  | zero => intro σ v3 v4 h; exact h.elim
  | succ n ih =>
    intro σ v3 v4 h
    rw [wm_printName_10] at h
    have hN := hm.2.2.2.2.2.2.1
    refine r_iload hE 2 dX13_printName_g0.2.2.2.2.2.2.2.2.1 rfl ?_
    refine r_aload_n hE 0 dX13_printName_g0.2.2.2.2.2.2.2.2.2.1 rfl rfl ?_
    refine mg_letterMany hE hm dX13_printName_g0.2.2.2.2.2.2.2.2.2.2.1 ?_
    refine r_iload_n hE 1 dX13_printName_g0.2.2.2.2.2.2.2.2.2.2.2.1 rfl rfl ?_
    obtain ⟨hi, h⟩ := h
    refine ml_letterMany hE hm dX13_printName_g0.2.2.2.2.2.2.2.2.2.2.2.2.1 hi ?_
    refine r_icmp_ge hE 43 dX13_printName_g0.2.2.2.2.2.2.2.2.2.2.2.2.2.1 (by decide) h (fun h => ?_) (fun h => ?_)
    · exact m_vret hE hm hF dX13_printName_g1.2.2.2.2.2.2.2.2.2.2 h
    · refine r_aload_n hE 0 dX13_printName_g0.2.2.2.2.2.2.2.2.2.2.2.2.2.2.1 rfl rfl ?_
      refine r_aload_n hE 0 dX13_printName_g0.2.2.2.2.2.2.2.2.2.2.2.2.2.2.2 rfl rfl ?_
      refine mg_letters hE hm dX13_printName_g1.1 ?_
      refine r_bipush (v := (10 : Int32)) hE dX13_printName_g1.2.1 (by decide) ?_
      refine r_iload_n hE 1 dX13_printName_g1.2.2.1 rfl rfl ?_
      refine r_imul hE dX13_printName_g1.2.2.2.1 ?_
      refine r_iload hE 2 dX13_printName_g1.2.2.2.2.1 rfl ?_
      refine r_iadd hE dX13_printName_g1.2.2.2.2.2.1 ?_
      obtain ⟨hi, h⟩ := h
      refine ml_letters hE hm dX13_printName_g1.2.2.2.2.2.2.1 hi ?_
      refine m_callVv hE hm [.int (m_letters σ (((10 : Int32) * v3) + v4).toNatClampNeg)] [] mc_put (km_put hm.2.2.2.2.2.2.2.2 h) (by decide) rfl rfl (Nat.le_of_ble_eq_true rfl) dX13_printName_g1.2.2.2.2.2.2.2.1 (fun s1 h => ?_)
      obtain ⟨x2, ex2⟩ : ∃ z : Int32, z = v4 + (1 : Int32) := ⟨_, rfl⟩
      have h := h x2 ex2
      refine r_iinc (v := x2) hE [(4, .int x2), (0, .ref (G.1 0)), (3, .int v3)] 2 dX13_printName_g1.2.2.2.2.2.2.2.2.1 rfl (by rw [ex2]; rfl) hN (by decide) rfl ?_
      refine r_goto hE 10 dX13_printName_g1.2.2.2.2.2.2.2.2.2.1 (by decide) ?_
      refine r_pick [1, 2, 0] rfl ?_
      exact ih _ _ _ h
def wm_printName (post : MS → Prop) (σ : MS) (a1 : Int32) (a2 : Int32) : Prop := ∀ x3 : Int32, x3 = ((20 : Int32) * a1) + a2 → ∃ k : Nat, wm_printName_10 post k σ x3 (0 : Int32)
set_option maxRecDepth 20000 in
theorem km_printName {l : Launch} {D : va_G} {cl : List vw_C} {G : gAd} {post : MS → Prop} (hcl : mC cl) {σ : MS} {a1 : Int32} {a2 : Int32} (h : wm_printName post σ a1 a2) : mMet l D cl G yX13_printName cX13_printName 5 none 2 [.ref (G.1 0), .int a1, .int a2] σ (qV post) := by
  unfold wm_printName at h
  refine m_enter hcl (by decide +kernel) rfl [(0, .ref (G.1 0)), (1, .int a1), (2, .int a2)] rfl (Nat.le_of_ble_eq_true rfl) ?_
  intro E hE hm hF
  have hN := hm.2.2.2.2.2.2.1
  refine r_bipush (v := (20 : Int32)) hE dX13_printName_g0.1 (by decide) ?_
  refine r_iload_n hE 1 dX13_printName_g0.2.1 rfl rfl ?_
  refine r_imul hE dX13_printName_g0.2.2.1 ?_
  refine r_iload_n hE 2 dX13_printName_g0.2.2.2.1 rfl rfl ?_
  refine r_iadd hE dX13_printName_g0.2.2.2.2.1 ?_
  refine r_topi h (fun x3 ex3 h => ?_)
  refine r_istore_n hE [(3, .int x3), (0, .ref (G.1 0)), (1, .int a1), (2, .int a2)] dX13_printName_g0.2.2.2.2.2.1 rfl hN (by decide) rfl ?_
  refine r_iconst (v := (0 : Int32)) hE dX13_printName_g0.2.2.2.2.2.2.1 (by decide) ?_
  refine r_istore hE [(4, .int (0 : Int32)), (3, .int x3), (0, .ref (G.1 0)), (1, .int a1), (2, .int a2)] dX13_printName_g0.2.2.2.2.2.2.2.1 hN (by decide) rfl ?_
  refine r_pick [2, 1, 0] rfl ?_
  obtain ⟨k, h⟩ := h
  exact km_printName_10 hE hm hF k _ _ _ h
/-! printMacro -/
def wm_printMacro_2 (post : MS → Prop) : Nat → MS → Int32 → Int32 → Prop
  | 0, _, _, _ => False
  | n + 1, σ, v1, v2 => vp_in v1 26 ∧ ((((m_macroSize σ v1.toNatClampNeg) ≤ v2) → (post σ)) ∧ ((¬ ((m_macroSize σ v1.toNatClampNeg) ≤ v2)) → (vp_in (((10 : Int32) * v1) + v2) 260 ∧ (wm_put (fun (s1 : MS) => ∀ x2 : Int32, x2 = v2 + (1 : Int32) → wm_printMacro_2 post n s1 v1 x2) σ (m_macroLetters σ (((10 : Int32) * v1) + v2).toNatClampNeg)))))
set_option maxRecDepth 20000 in
theorem km_printMacro_2 {E : gEnv} {l : Launch} {D : va_G} {cl : List vw_C} {G : gAd} {post : MS → Prop} (hE : gOK E cX13_printMacro RX13 none 2) (hm : mOK E l D cl G (qV post) 3) (hF : gFin E) : ∀ (n : Nat) (σ : MS) (v1 : Int32) (v2 : Int32), wm_printMacro_2 post n σ v1 v2 → GW E (mW G σ) 2 [(0, .ref (G.1 0)), (1, .int v1), (2, .int v2)] [] := by
  intro n
  induction n with
  | zero => intro σ v1 v2 h; exact h.elim
  | succ n ih =>
    intro σ v1 v2 h
    rw [wm_printMacro_2] at h
    have hN := hm.2.2.2.2.2.2.1
    refine r_iload_n hE 2 dX13_printMacro_g0.2.2.1 rfl rfl ?_
    refine r_aload_n hE 0 dX13_printMacro_g0.2.2.2.1 rfl rfl ?_
    refine mg_macroSize hE hm dX13_printMacro_g0.2.2.2.2.1 ?_
    refine r_iload_n hE 1 dX13_printMacro_g0.2.2.2.2.2.1 rfl rfl ?_
    obtain ⟨hi, h⟩ := h
    refine ml_macroSize hE hm dX13_printMacro_g0.2.2.2.2.2.2.1 hi ?_
    refine r_icmp_ge hE 33 dX13_printMacro_g0.2.2.2.2.2.2.2.1 (by decide) h (fun h => ?_) (fun h => ?_)
    · exact m_vret hE hm hF dX13_printMacro_g1.2.2.2.2 h
    · refine r_aload_n hE 0 dX13_printMacro_g0.2.2.2.2.2.2.2.2.1 rfl rfl ?_
      refine r_aload_n hE 0 dX13_printMacro_g0.2.2.2.2.2.2.2.2.2.1 rfl rfl ?_
      refine mg_macroLetters hE hm dX13_printMacro_g0.2.2.2.2.2.2.2.2.2.2.1 ?_
      refine r_bipush (v := (10 : Int32)) hE dX13_printMacro_g0.2.2.2.2.2.2.2.2.2.2.2.1 (by decide) ?_
      refine r_iload_n hE 1 dX13_printMacro_g0.2.2.2.2.2.2.2.2.2.2.2.2.1 rfl rfl ?_
      refine r_imul hE dX13_printMacro_g0.2.2.2.2.2.2.2.2.2.2.2.2.2.1 ?_
      refine r_iload_n hE 2 dX13_printMacro_g0.2.2.2.2.2.2.2.2.2.2.2.2.2.2.1 rfl rfl ?_
      refine r_iadd hE dX13_printMacro_g0.2.2.2.2.2.2.2.2.2.2.2.2.2.2.2 ?_
      obtain ⟨hi, h⟩ := h
      refine ml_macroLetters hE hm dX13_printMacro_g1.1 hi ?_
      refine m_callVv hE hm [.int (m_macroLetters σ (((10 : Int32) * v1) + v2).toNatClampNeg)] [] mc_put (km_put hm.2.2.2.2.2.2.2.2 h) (by decide) rfl rfl (Nat.le_of_ble_eq_true rfl) dX13_printMacro_g1.2.1 (fun s1 h => ?_)
      obtain ⟨x2, ex2⟩ : ∃ z : Int32, z = v2 + (1 : Int32) := ⟨_, rfl⟩
      have h := h x2 ex2
      refine r_iinc (v := x2) hE [(2, .int x2), (0, .ref (G.1 0)), (1, .int v1)] 2 dX13_printMacro_g1.2.2.1 rfl (by rw [ex2]; rfl) hN (by decide) rfl ?_
      refine r_goto hE 2 dX13_printMacro_g1.2.2.2.1 (by decide) ?_
      refine r_pick [1, 2, 0] rfl ?_
      exact ih _ _ _ h
def wm_printMacro (post : MS → Prop) (σ : MS) (a1 : Int32) : Prop := ∃ k : Nat, wm_printMacro_2 post k σ a1 (0 : Int32)
set_option maxRecDepth 20000 in
theorem km_printMacro {l : Launch} {D : va_G} {cl : List vw_C} {G : gAd} {post : MS → Prop} (hcl : mC cl) {σ : MS} {a1 : Int32} (h : wm_printMacro post σ a1) : mMet l D cl G yX13_printMacro cX13_printMacro 3 none 2 [.ref (G.1 0), .int a1] σ (qV post) := by
  unfold wm_printMacro at h
  refine m_enter hcl (by decide +kernel) rfl [(0, .ref (G.1 0)), (1, .int a1)] rfl (Nat.le_of_ble_eq_true rfl) ?_
  intro E hE hm hF
  have hN := hm.2.2.2.2.2.2.1
  refine r_iconst (v := (0 : Int32)) hE dX13_printMacro_g0.1 (by decide) ?_
  refine r_istore_n hE [(2, .int (0 : Int32)), (0, .ref (G.1 0)), (1, .int a1)] dX13_printMacro_g0.2.1 rfl hN (by decide) rfl ?_
  refine r_pick [1, 2, 0] rfl ?_
  obtain ⟨k, h⟩ := h
  exact km_printMacro_2 hE hm hF k _ _ _ h
/-! rank -/
def wm_rank_50 (post : MS → Int32 → Prop) (σ : MS) : Prop := post σ (1 : Int32)
set_option maxRecDepth 20000 in
theorem km_rank_50 {E : gEnv} {l : Launch} {D : va_G} {cl : List vw_C} {G : gAd} {post : MS → Int32 → Prop} (hE : gOK E cX13_rank RX13 (some .int) 1) (hm : mOK E l D cl G (qI post) 2) (hF : gFin E) (σ : MS) (h : wm_rank_50 post σ) : GW E (mW G σ) 50 [] [] := by
  unfold wm_rank_50 at h
  have hN := hm.2.2.2.2.2.2.1
  refine r_iconst (v := (1 : Int32)) hE dX13_rank_g1.2.2.2.2.2.2.2.2.2.2.2.2.1 (by decide) ?_
  refine r_goto hE 81 dX13_rank_g1.2.2.2.2.2.2.2.2.2.2.2.2.2.1 (by decide) ?_
  exact m_iret hE hm hF dX13_rank_g2.2.2.2.2.2.2.2.2.2.2.2.2.2 h
def wm_rank_76 (post : MS → Int32 → Prop) (σ : MS) : Prop := post σ (2 : Int32)
set_option maxRecDepth 20000 in
theorem km_rank_76 {E : gEnv} {l : Launch} {D : va_G} {cl : List vw_C} {G : gAd} {post : MS → Int32 → Prop} (hE : gOK E cX13_rank RX13 (some .int) 1) (hm : mOK E l D cl G (qI post) 2) (hF : gFin E) (σ : MS) (h : wm_rank_76 post σ) : GW E (mW G σ) 76 [] [] := by
  unfold wm_rank_76 at h
  have hN := hm.2.2.2.2.2.2.1
  refine r_iconst (v := (2 : Int32)) hE dX13_rank_g2.2.2.2.2.2.2.2.2.2.2.1 (by decide) ?_
  refine r_goto hE 81 dX13_rank_g2.2.2.2.2.2.2.2.2.2.2.2.1 (by decide) ?_
  exact m_iret hE hm hF dX13_rank_g2.2.2.2.2.2.2.2.2.2.2.2.2.2 h
def wm_rank (post : MS → Int32 → Prop) (σ : MS) (a1 : Int32) : Prop := vp_in a1 600 ∧ ((((m_kind σ a1.toNatClampNeg) = (12 : Int32)) → (vp_in a1 600 ∧ ((((m_one σ a1.toNatClampNeg) = (61 : Int32)) → (wm_rank_50 post σ)) ∧ ((¬ ((m_one σ a1.toNatClampNeg) = (61 : Int32))) → (vp_in a1 600 ∧ (((¬ ((m_one σ a1.toNatClampNeg) = (60 : Int32))) → (vp_in a1 600 ∧ ((((m_one σ a1.toNatClampNeg) = (43 : Int32)) → (wm_rank_76 post σ)) ∧ ((¬ ((m_one σ a1.toNatClampNeg) = (43 : Int32))) → (vp_in a1 600 ∧ (((¬ ((m_one σ a1.toNatClampNeg) = (45 : Int32))) → (post σ (3 : Int32))) ∧ (((m_one σ a1.toNatClampNeg) = (45 : Int32)) → (wm_rank_76 post σ)))))))) ∧ (((m_one σ a1.toNatClampNeg) = (60 : Int32)) → (wm_rank_50 post σ)))))))) ∧ ((¬ ((m_kind σ a1.toNatClampNeg) = (12 : Int32))) → (vp_in a1 600 ∧ (((¬ ((m_kind σ a1.toNatClampNeg) = (11 : Int32))) → (post σ (5 : Int32))) ∧ (((m_kind σ a1.toNatClampNeg) = (11 : Int32)) → (post σ (4 : Int32)))))))
set_option maxRecDepth 20000 in
theorem km_rank {l : Launch} {D : va_G} {cl : List vw_C} {G : gAd} {post : MS → Int32 → Prop} (hcl : mC cl) {σ : MS} {a1 : Int32} (h : wm_rank post σ a1) : mMet l D cl G yX13_rank cX13_rank 2 (some .int) 1 [.ref (G.1 0), .int a1] σ (qI post) := by
  unfold wm_rank at h
  refine m_enter hcl (by decide +kernel) rfl [(0, .ref (G.1 0)), (1, .int a1)] rfl (Nat.le_of_ble_eq_true rfl) ?_
  intro E hE hm hF
  have hN := hm.2.2.2.2.2.2.1
  refine r_aload_n hE 0 dX13_rank_g0.1 rfl rfl ?_
  refine mg_kind hE hm dX13_rank_g0.2.1 ?_
  refine r_iload_n hE 1 dX13_rank_g0.2.2.1 rfl rfl ?_
  obtain ⟨hi, h⟩ := h
  refine ml_kind hE hm dX13_rank_g0.2.2.2.1 hi ?_
  refine r_bipush (v := (12 : Int32)) hE dX13_rank_g0.2.2.2.2.1 (by decide) ?_
  refine r_icmp_eq hE 28 dX13_rank_g0.2.2.2.2.2.1 (by decide) h (fun h => ?_) (fun h => ?_)
  · refine r_aload_n hE 0 dX13_rank_g1.1 rfl rfl ?_
    refine mg_one hE hm dX13_rank_g1.2.1 ?_
    refine r_iload_n hE 1 dX13_rank_g1.2.2.1 rfl rfl ?_
    obtain ⟨hi, h⟩ := h
    refine ml_one hE hm dX13_rank_g1.2.2.2.1 hi ?_
    refine r_bipush (v := (61 : Int32)) hE dX13_rank_g1.2.2.2.2.1 (by decide) ?_
    refine r_icmp_eq hE 50 dX13_rank_g1.2.2.2.2.2.1 (by decide) h (fun h => ?_) (fun h => ?_)
    · refine r_pick [] rfl ?_
      exact km_rank_50 hE hm hF _ h
    · refine r_aload_n hE 0 dX13_rank_g1.2.2.2.2.2.2.1 rfl rfl ?_
      refine mg_one hE hm dX13_rank_g1.2.2.2.2.2.2.2.1 ?_
      refine r_iload_n hE 1 dX13_rank_g1.2.2.2.2.2.2.2.2.1 rfl rfl ?_
      obtain ⟨hi, h⟩ := h
      refine ml_one hE hm dX13_rank_g1.2.2.2.2.2.2.2.2.2.1 hi ?_
      refine r_bipush (v := (60 : Int32)) hE dX13_rank_g1.2.2.2.2.2.2.2.2.2.2.1 (by decide) ?_
      refine r_icmp_ne hE 54 dX13_rank_g1.2.2.2.2.2.2.2.2.2.2.2.1 (by decide) h (fun h => ?_) (fun h => ?_)
      · refine r_aload_n hE 0 dX13_rank_g1.2.2.2.2.2.2.2.2.2.2.2.2.2.2.1 rfl rfl ?_
        refine mg_one hE hm dX13_rank_g1.2.2.2.2.2.2.2.2.2.2.2.2.2.2.2 ?_
        refine r_iload_n hE 1 dX13_rank_g2.1 rfl rfl ?_
        obtain ⟨hi, h⟩ := h
        refine ml_one hE hm dX13_rank_g2.2.1 hi ?_
        refine r_bipush (v := (43 : Int32)) hE dX13_rank_g2.2.2.1 (by decide) ?_
        refine r_icmp_eq hE 76 dX13_rank_g2.2.2.2.1 (by decide) h (fun h => ?_) (fun h => ?_)
        · refine r_pick [] rfl ?_
          exact km_rank_76 hE hm hF _ h
        · refine r_aload_n hE 0 dX13_rank_g2.2.2.2.2.1 rfl rfl ?_
          refine mg_one hE hm dX13_rank_g2.2.2.2.2.2.1 ?_
          refine r_iload_n hE 1 dX13_rank_g2.2.2.2.2.2.2.1 rfl rfl ?_
          obtain ⟨hi, h⟩ := h
          refine ml_one hE hm dX13_rank_g2.2.2.2.2.2.2.2.1 hi ?_
          refine r_bipush (v := (45 : Int32)) hE dX13_rank_g2.2.2.2.2.2.2.2.2.1 (by decide) ?_
          refine r_icmp_ne hE 80 dX13_rank_g2.2.2.2.2.2.2.2.2.2.1 (by decide) h (fun h => ?_) (fun h => ?_)
          · refine r_iconst (v := (3 : Int32)) hE dX13_rank_g2.2.2.2.2.2.2.2.2.2.2.2.2.1 (by decide) ?_
            exact m_iret hE hm hF dX13_rank_g2.2.2.2.2.2.2.2.2.2.2.2.2.2 h
          · refine r_pick [] rfl ?_
            exact km_rank_76 hE hm hF _ h
      · refine r_pick [] rfl ?_
        exact km_rank_50 hE hm hF _ h
  · refine r_aload_n hE 0 dX13_rank_g0.2.2.2.2.2.2.1 rfl rfl ?_
    refine mg_kind hE hm dX13_rank_g0.2.2.2.2.2.2.2.1 ?_
    refine r_iload_n hE 1 dX13_rank_g0.2.2.2.2.2.2.2.2.1 rfl rfl ?_
    obtain ⟨hi, h⟩ := h
    refine ml_kind hE hm dX13_rank_g0.2.2.2.2.2.2.2.2.2.1 hi ?_
    refine r_bipush (v := (11 : Int32)) hE dX13_rank_g0.2.2.2.2.2.2.2.2.2.2.1 (by decide) ?_
    refine r_icmp_ne hE 26 dX13_rank_g0.2.2.2.2.2.2.2.2.2.2.2.1 (by decide) h (fun h => ?_) (fun h => ?_)
    · refine r_iconst (v := (5 : Int32)) hE dX13_rank_g0.2.2.2.2.2.2.2.2.2.2.2.2.2.2.1 (by decide) ?_
      exact m_iret hE hm hF dX13_rank_g0.2.2.2.2.2.2.2.2.2.2.2.2.2.2.2 h
    · refine r_iconst (v := (4 : Int32)) hE dX13_rank_g0.2.2.2.2.2.2.2.2.2.2.2.2.1 (by decide) ?_
      refine r_goto hE 27 dX13_rank_g0.2.2.2.2.2.2.2.2.2.2.2.2.2.1 (by decide) ?_
      exact m_iret hE hm hF dX13_rank_g0.2.2.2.2.2.2.2.2.2.2.2.2.2.2.2 h
/-! behind_ -/
def wm_behind_ (post : MS → Prop) (σ : MS) (a1 : Int32) (a2 : Int32) (a3 : Int32) : Prop := vp_in (m_prints σ) 3000 ∧ (∀ s1 : MS, s1 = m_print_s σ (m_prints σ).toNatClampNeg a1 → vp_in (m_prints s1) 3000 ∧ (∀ s2 : MS, s2 = m_printOf_s s1 (m_prints s1).toNatClampNeg a2 → vp_in (m_prints s2) 3000 ∧ (∀ s3 : MS, s3 = m_printWith_s s2 (m_prints s2).toNatClampNeg a3 → ∀ s4 : MS, s4 = m_prints_s s3 ((m_prints s3) + (1 : Int32)) → post s4)))
set_option maxRecDepth 20000 in
theorem km_behind_ {l : Launch} {D : va_G} {cl : List vw_C} {G : gAd} {post : MS → Prop} (hcl : mC cl) {σ : MS} {a1 : Int32} {a2 : Int32} {a3 : Int32} (h : wm_behind_ post σ a1 a2 a3) : mMet l D cl G yX13_behind_ cX13_behind_ 4 none 1 [.ref (G.1 0), .int a1, .int a2, .int a3] σ (qV post) := by
  unfold wm_behind_ at h
  refine m_enter hcl (by decide +kernel) rfl [(0, .ref (G.1 0)), (1, .int a1), (2, .int a2), (3, .int a3)] rfl (Nat.le_of_ble_eq_true rfl) ?_
  intro E hE hm hF
  have hN := hm.2.2.2.2.2.2.1
  refine r_aload_n hE 0 dX13_behind__g0.1 rfl rfl ?_
  refine mg_print hE hm dX13_behind__g0.2.1 ?_
  refine r_aload_n hE 0 dX13_behind__g0.2.2.1 rfl rfl ?_
  refine mg_prints hE hm dX13_behind__g0.2.2.2.1 ?_
  refine r_iload_n hE 1 dX13_behind__g0.2.2.2.2.1 rfl rfl ?_
  obtain ⟨hi, h⟩ := h
  refine ms_print hE hm dX13_behind__g0.2.2.2.2.2.1 hi h (fun s1 h => ?_)
  refine r_aload_n hE 0 dX13_behind__g0.2.2.2.2.2.2.1 rfl rfl ?_
  refine mg_printOf hE hm dX13_behind__g0.2.2.2.2.2.2.2.1 ?_
  refine r_aload_n hE 0 dX13_behind__g0.2.2.2.2.2.2.2.2.1 rfl rfl ?_
  refine mg_prints hE hm dX13_behind__g0.2.2.2.2.2.2.2.2.2.1 ?_
  refine r_iload_n hE 2 dX13_behind__g0.2.2.2.2.2.2.2.2.2.2.1 rfl rfl ?_
  obtain ⟨hi, h⟩ := h
  refine ms_printOf hE hm dX13_behind__g0.2.2.2.2.2.2.2.2.2.2.2.1 hi h (fun s2 h => ?_)
  refine r_aload_n hE 0 dX13_behind__g0.2.2.2.2.2.2.2.2.2.2.2.2.1 rfl rfl ?_
  refine mg_printWith hE hm dX13_behind__g0.2.2.2.2.2.2.2.2.2.2.2.2.2.1 ?_
  refine r_aload_n hE 0 dX13_behind__g0.2.2.2.2.2.2.2.2.2.2.2.2.2.2.1 rfl rfl ?_
  refine mg_prints hE hm dX13_behind__g0.2.2.2.2.2.2.2.2.2.2.2.2.2.2.2 ?_
  refine r_iload_n hE 3 dX13_behind__g1.1 rfl rfl ?_
  obtain ⟨hi, h⟩ := h
  refine ms_printWith hE hm dX13_behind__g1.2.1 hi h (fun s3 h => ?_)
  refine r_aload_n hE 0 dX13_behind__g1.2.2.1 rfl rfl ?_
  refine r_dup hE dX13_behind__g1.2.2.2.1 rfl ?_
  refine mg_prints hE hm dX13_behind__g1.2.2.2.2.1 ?_
  refine r_iconst (v := (1 : Int32)) hE dX13_behind__g1.2.2.2.2.2.1 (by decide) ?_
  refine r_iadd hE dX13_behind__g1.2.2.2.2.2.2.1 ?_
  refine mp_prints hE hm dX13_behind__g1.2.2.2.2.2.2.2.1 h (fun s4 h => ?_)
  exact m_vret hE hm hF dX13_behind__g1.2.2.2.2.2.2.2.2 h
/-! placeOf11 -/
def wm_placeOf_toolList_22 (post : MS → Int32 → Prop) (lp4 : MS → Int32 → Int32 → Prop) (σ : MS) (v2 : Int32) (t0 : Int32) (t1 : Int32) : Prop := ∀ x1 : Int32, x1 = t0 - t1 → ∀ x2 : Int32, x2 = v2 + (1 : Int32) → lp4 σ x2 x1
set_option maxRecDepth 20000 in
theorem km_placeOf_toolList_22 {E : gEnv} {l : Launch} {D : va_G} {cl : List vw_C} {G : gAd} {post : MS → Int32 → Prop} (hE : gOK E cX13_placeOf RX13 (some .int) 1) (hm : mOK E l D cl G (qI post) 4) (hF : gFin E) {lp4 : MS → Int32 → Int32 → Prop} (hl4 : ∀ (σ : MS) (v2 : Int32) (v3 : Int32), lp4 σ v2 v3 → GW E (mW G σ) 4 [(0, .ref (G.1 11)), (2, .int v2), (3, .int v3)] []) (σ : MS) (v2 : Int32) (t0 : Int32) (t1 : Int32) (h : wm_placeOf_toolList_22 post lp4 σ v2 t0 t1) : GW E (mW G σ) 22 [(0, .ref (G.1 11)), (2, .int v2)] [.int t1, .int t0] := by
  unfold wm_placeOf_toolList_22 at h
  have hN := hm.2.2.2.2.2.2.1
  refine r_isub hE dX13_placeOf_g0.2.2.2.2.2.2.2.2.2.2.2.2.2.2.2 ?_
  refine r_topi h (fun x1 ex1 h => ?_)
  refine r_istore_n hE [(3, .int x1), (0, .ref (G.1 11)), (2, .int v2)] dX13_placeOf_g1.1 rfl hN (by decide) rfl ?_
  obtain ⟨x2, ex2⟩ : ∃ z : Int32, z = v2 + (1 : Int32) := ⟨_, rfl⟩
  have h := h x2 ex2
  refine r_iinc (v := x2) hE [(2, .int x2), (3, .int x1), (0, .ref (G.1 11))] 2 dX13_placeOf_g1.2.1 rfl (by rw [ex2]; rfl) hN (by decide) rfl ?_
  refine r_goto hE 4 dX13_placeOf_g1.2.2.1 (by decide) ?_
  refine r_pick [2, 0, 1] rfl ?_
  exact hl4 _ _ _ h
def wm_placeOf_toolList_4 (post : MS → Int32 → Prop) : Nat → MS → Int32 → Int32 → Prop
  | 0, _, _, _ => False
  | n + 1, σ, v2, v3 => ((v3 ≤ (0 : Int32)) → (post σ v2)) ∧ ((¬ (v3 ≤ (0 : Int32))) → (vp_in v2 202 ∧ (((¬ ((m_toolList σ v2.toNatClampNeg) = (32 : Int32))) → (wm_placeOf_toolList_22 post (fun (ys : MS) (y0 : Int32) (y1 : Int32) => wm_placeOf_toolList_4 post n ys y0 y1) σ v2 v3 (0 : Int32))) ∧ (((m_toolList σ v2.toNatClampNeg) = (32 : Int32)) → (wm_placeOf_toolList_22 post (fun (ys : MS) (y0 : Int32) (y1 : Int32) => wm_placeOf_toolList_4 post n ys y0 y1) σ v2 v3 (1 : Int32))))))
set_option maxRecDepth 20000 in
theorem km_placeOf_toolList_4 {E : gEnv} {l : Launch} {D : va_G} {cl : List vw_C} {G : gAd} {post : MS → Int32 → Prop} (hE : gOK E cX13_placeOf RX13 (some .int) 1) (hm : mOK E l D cl G (qI post) 4) (hF : gFin E) : ∀ (n : Nat) (σ : MS) (v2 : Int32) (v3 : Int32), wm_placeOf_toolList_4 post n σ v2 v3 → GW E (mW G σ) 4 [(0, .ref (G.1 11)), (2, .int v2), (3, .int v3)] [] := by
  intro n
  induction n with
  | zero => intro σ v2 v3 h; exact h.elim
  | succ n ih =>
    intro σ v2 v3 h
    rw [wm_placeOf_toolList_4] at h
    have hN := hm.2.2.2.2.2.2.1
    refine r_iload_n hE 2 dX13_placeOf_g0.2.2.2.2.1 rfl rfl ?_
    refine r_if_le hE 30 dX13_placeOf_g0.2.2.2.2.2.1 (by decide) h (fun h => ?_) (fun h => ?_)
    · refine r_iload_n hE 1 dX13_placeOf_g1.2.2.2.1 rfl rfl ?_
      exact m_iret hE hm hF dX13_placeOf_g1.2.2.2.2 h
    · refine r_iload_n hE 2 dX13_placeOf_g0.2.2.2.2.2.2.1 rfl rfl ?_
      refine r_aload_n hE 0 dX13_placeOf_g0.2.2.2.2.2.2.2.1 rfl rfl ?_
      refine r_iload_n hE 1 dX13_placeOf_g0.2.2.2.2.2.2.2.2.1 rfl rfl ?_
      obtain ⟨hi, h⟩ := h
      refine ml_toolList hE hm dX13_placeOf_g0.2.2.2.2.2.2.2.2.2.1 hi ?_
      refine r_bipush (v := (32 : Int32)) hE dX13_placeOf_g0.2.2.2.2.2.2.2.2.2.2.1 (by decide) ?_
      refine r_icmp_ne hE 21 dX13_placeOf_g0.2.2.2.2.2.2.2.2.2.2.2.1 (by decide) h (fun h => ?_) (fun h => ?_)
      · refine r_iconst (v := (0 : Int32)) hE dX13_placeOf_g0.2.2.2.2.2.2.2.2.2.2.2.2.2.2.1 (by decide) ?_
        refine r_pick [0, 1] rfl ?_
        exact km_placeOf_toolList_22 hE hm hF ih _ _ _ _ h
      · refine r_iconst (v := (1 : Int32)) hE dX13_placeOf_g0.2.2.2.2.2.2.2.2.2.2.2.2.1 (by decide) ?_
        refine r_goto hE 22 dX13_placeOf_g0.2.2.2.2.2.2.2.2.2.2.2.2.2.1 (by decide) ?_
        refine r_pick [0, 1] rfl ?_
        exact km_placeOf_toolList_22 hE hm hF ih _ _ _ _ h
def wm_placeOf_toolList (post : MS → Int32 → Prop) (σ : MS) (a1 : Int32) : Prop := ∃ k : Nat, wm_placeOf_toolList_4 post k σ (0 : Int32) a1
set_option maxRecDepth 20000 in
theorem km_placeOf_toolList {l : Launch} {D : va_G} {cl : List vw_C} {G : gAd} {post : MS → Int32 → Prop} (hcl : mC cl) {σ : MS} {a1 : Int32} (h : wm_placeOf_toolList post σ a1) : mMet l D cl G yX13_placeOf cX13_placeOf 4 (some .int) 1 [.ref (G.1 11), .int a1] σ (qI post) := by
  unfold wm_placeOf_toolList at h
  refine m_enter hcl (by decide +kernel) rfl [(0, .ref (G.1 11)), (1, .int a1)] rfl (Nat.le_of_ble_eq_true rfl) ?_
  intro E hE hm hF
  have hN := hm.2.2.2.2.2.2.1
  refine r_iconst (v := (0 : Int32)) hE dX13_placeOf_g0.1 (by decide) ?_
  refine r_istore_n hE [(2, .int (0 : Int32)), (0, .ref (G.1 11)), (1, .int a1)] dX13_placeOf_g0.2.1 rfl hN (by decide) rfl ?_
  refine r_iload_n hE 2 dX13_placeOf_g0.2.2.1 rfl rfl ?_
  refine r_istore_n hE [(3, .int a1), (2, .int (0 : Int32)), (0, .ref (G.1 11)), (1, .int a1)] dX13_placeOf_g0.2.2.2.1 rfl hN (by decide) rfl ?_
  refine r_pick [2, 1, 0] rfl ?_
  obtain ⟨k, h⟩ := h
  exact km_placeOf_toolList_4 hE hm hF k _ _ _ h
/-! sizeOf11 -/
def wm_sizeOf_toolList_2 (post : MS → Int32 → Prop) : Nat → MS → Int32 → Int32 → Prop
  | 0, _, _, _ => False
  | n + 1, σ, v1, v2 => vp_in (v1 + v2) 202 ∧ ((((m_toolList σ (v1 + v2).toNatClampNeg) = (32 : Int32)) → (post σ v2)) ∧ ((¬ ((m_toolList σ (v1 + v2).toNatClampNeg) = (32 : Int32))) → (∀ x1 : Int32, x1 = v2 + (1 : Int32) → wm_sizeOf_toolList_2 post n σ v1 x1)))
set_option maxRecDepth 20000 in
theorem km_sizeOf_toolList_2 {E : gEnv} {l : Launch} {D : va_G} {cl : List vw_C} {G : gAd} {post : MS → Int32 → Prop} (hE : gOK E cX13_sizeOf RX13 (some .int) 1) (hm : mOK E l D cl G (qI post) 3) (hF : gFin E) : ∀ (n : Nat) (σ : MS) (v1 : Int32) (v2 : Int32), wm_sizeOf_toolList_2 post n σ v1 v2 → GW E (mW G σ) 2 [(0, .ref (G.1 11)), (1, .int v1), (2, .int v2)] [] := by
  intro n
  induction n with
  | zero => intro σ v1 v2 h; exact h.elim
  | succ n ih =>
    intro σ v1 v2 h
    rw [wm_sizeOf_toolList_2] at h
    have hN := hm.2.2.2.2.2.2.1
    refine r_aload_n hE 0 dX13_sizeOf_g0.2.2.1 rfl rfl ?_
    refine r_iload_n hE 1 dX13_sizeOf_g0.2.2.2.1 rfl rfl ?_
    refine r_iload_n hE 2 dX13_sizeOf_g0.2.2.2.2.1 rfl rfl ?_
    refine r_iadd hE dX13_sizeOf_g0.2.2.2.2.2.1 ?_
    obtain ⟨hi, h⟩ := h
    refine ml_toolList hE hm dX13_sizeOf_g0.2.2.2.2.2.2.1 hi ?_
    refine r_bipush (v := (32 : Int32)) hE dX13_sizeOf_g0.2.2.2.2.2.2.2.1 (by decide) ?_
    refine r_icmp_eq hE 18 dX13_sizeOf_g0.2.2.2.2.2.2.2.2.1 (by decide) h (fun h => ?_) (fun h => ?_)
    · refine r_iload_n hE 2 dX13_sizeOf_g0.2.2.2.2.2.2.2.2.2.2.2.1 rfl rfl ?_
      exact m_iret hE hm hF dX13_sizeOf_g0.2.2.2.2.2.2.2.2.2.2.2.2 h
    · obtain ⟨x1, ex1⟩ : ∃ z : Int32, z = v2 + (1 : Int32) := ⟨_, rfl⟩
      have h := h x1 ex1
      refine r_iinc (v := x1) hE [(2, .int x1), (0, .ref (G.1 11)), (1, .int v1)] 2 dX13_sizeOf_g0.2.2.2.2.2.2.2.2.2.1 rfl (by rw [ex1]; rfl) hN (by decide) rfl ?_
      refine r_goto hE 2 dX13_sizeOf_g0.2.2.2.2.2.2.2.2.2.2.1 (by decide) ?_
      refine r_pick [1, 2, 0] rfl ?_
      exact ih _ _ _ h
def wm_sizeOf_toolList (post : MS → Int32 → Prop) (σ : MS) (a1 : Int32) : Prop := ∃ k : Nat, wm_sizeOf_toolList_2 post k σ a1 (0 : Int32)
set_option maxRecDepth 20000 in
theorem km_sizeOf_toolList {l : Launch} {D : va_G} {cl : List vw_C} {G : gAd} {post : MS → Int32 → Prop} (hcl : mC cl) {σ : MS} {a1 : Int32} (h : wm_sizeOf_toolList post σ a1) : mMet l D cl G yX13_sizeOf cX13_sizeOf 3 (some .int) 1 [.ref (G.1 11), .int a1] σ (qI post) := by
  unfold wm_sizeOf_toolList at h
  refine m_enter hcl (by decide +kernel) rfl [(0, .ref (G.1 11)), (1, .int a1)] rfl (Nat.le_of_ble_eq_true rfl) ?_
  intro E hE hm hF
  have hN := hm.2.2.2.2.2.2.1
  refine r_iconst (v := (0 : Int32)) hE dX13_sizeOf_g0.1 (by decide) ?_
  refine r_istore_n hE [(2, .int (0 : Int32)), (0, .ref (G.1 11)), (1, .int a1)] dX13_sizeOf_g0.2.1 rfl hN (by decide) rfl ?_
  refine r_pick [1, 2, 0] rfl ?_
  obtain ⟨k, h⟩ := h
  exact km_sizeOf_toolList_2 hE hm hF k _ _ _ h
/-! word11 -/
def wm_word_toolList_9 (post : MS → Prop) : Nat → MS → Int32 → Int32 → Prop
  | 0, _, _, _ => False
  | n + 1, σ, v3, v4 => wm_sizeOf_toolList (fun (s1 : MS) (r2 : Int32) => ((r2 ≤ v4) → (post s1)) ∧ ((¬ (r2 ≤ v4)) → (vp_in (v3 + v4) 202 ∧ (wm_put (fun (s3 : MS) => ∀ x4 : Int32, x4 = v4 + (1 : Int32) → wm_word_toolList_9 post n s3 v3 x4) s1 (m_toolList s1 (v3 + v4).toNatClampNeg))))) σ v3
set_option maxRecDepth 20000 in
theorem km_word_toolList_9 {E : gEnv} {l : Launch} {D : va_G} {cl : List vw_C} {G : gAd} {post : MS → Prop} (hE : gOK E cX13_word RX13 none 2) (hm : mOK E l D cl G (qV post) 5) (hF : gFin E) : ∀ (n : Nat) (σ : MS) (v3 : Int32) (v4 : Int32), wm_word_toolList_9 post n σ v3 v4 → GW E (mW G σ) 9 [(0, .ref (G.1 0)), (1, .ref (G.1 11)), (3, .int v3), (4, .int v4)] [] := by
  intro n
  induction n with
  | zero => intro σ v3 v4 h; exact h.elim
  | succ n ih =>
    intro σ v3 v4 h
    rw [wm_word_toolList_9] at h
    have hN := hm.2.2.2.2.2.2.1
    refine r_iload hE 3 dX13_word_g0.2.2.2.2.2.2.1 rfl ?_
    refine r_aload_n hE 1 dX13_word_g0.2.2.2.2.2.2.2.1 rfl rfl ?_
    refine r_iload_n hE 2 dX13_word_g0.2.2.2.2.2.2.2.2.1 rfl rfl ?_
    refine m_callSi hE hm [.ref (G.1 11), .int v3] [.int v4] mc_sizeOf (km_sizeOf_toolList hm.2.2.2.2.2.2.2.2 h) (by decide) rfl rfl (Nat.le_of_ble_eq_true rfl) dX13_word_g0.2.2.2.2.2.2.2.2.2.1 (fun s1 r2 h => ?_)
    refine r_icmp_ge hE 35 dX13_word_g0.2.2.2.2.2.2.2.2.2.2.1 (by decide) h (fun h => ?_) (fun h => ?_)
    · exact m_vret hE hm hF dX13_word_g1.2.2.2.2 h
    · refine r_aload_n hE 0 dX13_word_g0.2.2.2.2.2.2.2.2.2.2.2.1 rfl rfl ?_
      refine r_aload_n hE 1 dX13_word_g0.2.2.2.2.2.2.2.2.2.2.2.2.1 rfl rfl ?_
      refine r_iload_n hE 2 dX13_word_g0.2.2.2.2.2.2.2.2.2.2.2.2.2.1 rfl rfl ?_
      refine r_iload hE 3 dX13_word_g0.2.2.2.2.2.2.2.2.2.2.2.2.2.2.1 rfl ?_
      refine r_iadd hE dX13_word_g0.2.2.2.2.2.2.2.2.2.2.2.2.2.2.2 ?_
      obtain ⟨hi, h⟩ := h
      refine ml_toolList hE hm dX13_word_g1.1 hi ?_
      refine m_callVv hE hm [.int (m_toolList s1 (v3 + v4).toNatClampNeg)] [] mc_put (km_put hm.2.2.2.2.2.2.2.2 h) (by decide) rfl rfl (Nat.le_of_ble_eq_true rfl) dX13_word_g1.2.1 (fun s3 h => ?_)
      obtain ⟨x4, ex4⟩ : ∃ z : Int32, z = v4 + (1 : Int32) := ⟨_, rfl⟩
      have h := h x4 ex4
      refine r_iinc (v := x4) hE [(4, .int x4), (0, .ref (G.1 0)), (1, .ref (G.1 11)), (3, .int v3)] 3 dX13_word_g1.2.2.1 rfl (by rw [ex4]; rfl) hN (by decide) rfl ?_
      refine r_goto hE 9 dX13_word_g1.2.2.2.1 (by decide) ?_
      refine r_pick [1, 2, 3, 0] rfl ?_
      exact ih _ _ _ h
def wm_word_toolList (post : MS → Prop) (σ : MS) (a2 : Int32) : Prop := wm_placeOf_toolList (fun (s5 : MS) (r6 : Int32) => ∃ k : Nat, wm_word_toolList_9 post k s5 r6 (0 : Int32)) σ a2
set_option maxRecDepth 20000 in
theorem km_word_toolList {l : Launch} {D : va_G} {cl : List vw_C} {G : gAd} {post : MS → Prop} (hcl : mC cl) {σ : MS} {a2 : Int32} (h : wm_word_toolList post σ a2) : mMet l D cl G yX13_word cX13_word 5 none 2 [.ref (G.1 0), .ref (G.1 11), .int a2] σ (qV post) := by
  unfold wm_word_toolList at h
  refine m_enter hcl (by decide +kernel) rfl [(0, .ref (G.1 0)), (1, .ref (G.1 11)), (2, .int a2)] rfl (Nat.le_of_ble_eq_true rfl) ?_
  intro E hE hm hF
  have hN := hm.2.2.2.2.2.2.1
  refine r_aload_n hE 1 dX13_word_g0.1 rfl rfl ?_
  refine r_iload_n hE 2 dX13_word_g0.2.1 rfl rfl ?_
  refine m_callSi hE hm [.ref (G.1 11), .int a2] [] mc_placeOf (km_placeOf_toolList hm.2.2.2.2.2.2.2.2 h) (by decide) rfl rfl (Nat.le_of_ble_eq_true rfl) dX13_word_g0.2.2.1 (fun s5 r6 h => ?_)
  refine r_istore_n hE [(3, .int r6), (0, .ref (G.1 0)), (1, .ref (G.1 11)), (2, .int a2)] dX13_word_g0.2.2.2.1 rfl hN (by decide) rfl ?_
  refine r_iconst (v := (0 : Int32)) hE dX13_word_g0.2.2.2.2.1 (by decide) ?_
  refine r_istore hE [(4, .int (0 : Int32)), (3, .int r6), (0, .ref (G.1 0)), (1, .ref (G.1 11)), (2, .int a2)] dX13_word_g0.2.2.2.2.2.1 hN (by decide) rfl ?_
  refine r_pick [2, 3, 1, 0] rfl ?_
  obtain ⟨k, h⟩ := h
  exact km_word_toolList_9 hE hm hF k _ _ _ h
/-! printCall -/
def wm_printCall_94 (post : MS → Prop) (lp57 : MS → Int32 → Int32 → Prop) (σ : MS) (v1 : Int32) (v2 : Int32) : Prop := ∀ x1 : Int32, x1 = v2 + (-1 : Int32) → lp57 σ v1 x1
set_option maxRecDepth 20000 in
theorem km_printCall_94 {E : gEnv} {l : Launch} {D : va_G} {cl : List vw_C} {G : gAd} {post : MS → Prop} (hE : gOK E cX13_printCall RX13 none 3) (hm : mOK E l D cl G (qV post) 3) (hF : gFin E) {lp57 : MS → Int32 → Int32 → Prop} (hl57 : ∀ (σ : MS) (v1 : Int32) (v2 : Int32), lp57 σ v1 v2 → GW E (mW G σ) 57 [(0, .ref (G.1 0)), (1, .int v1), (2, .int v2)] []) (σ : MS) (v1 : Int32) (v2 : Int32) (h : wm_printCall_94 post lp57 σ v1 v2) : GW E (mW G σ) 94 [(0, .ref (G.1 0)), (1, .int v1), (2, .int v2)] [] := by
  unfold wm_printCall_94 at h
  have hN := hm.2.2.2.2.2.2.1
  obtain ⟨x1, ex1⟩ : ∃ z : Int32, z = v2 + (-1 : Int32) := ⟨_, rfl⟩
  have h := h x1 ex1
  refine r_iinc (v := x1) hE [(2, .int x1), (0, .ref (G.1 0)), (1, .int v1)] 2 dX13_printCall_g3.2.2.2.2.2.2.2.1 rfl (by rw [ex1]; rfl) hN (by decide) rfl ?_
  refine r_goto hE 57 dX13_printCall_g3.2.2.2.2.2.2.2.2.1 (by decide) ?_
  refine r_pick [1, 2, 0] rfl ?_
  exact hl57 _ _ _ h
def wm_printCall_57 (post : MS → Prop) : Nat → MS → Int32 → Int32 → Prop
  | 0, _, _, _ => False
  | n + 1, σ, v1, v2 => ((v2 < (0 : Int32)) → (post σ)) ∧ ((¬ (v2 < (0 : Int32))) → (wm_argumentOf (fun (s2 : MS) (r3 : Int32) => ((r3 < (0 : Int32)) → (wm_printCall_94 post (fun (ys : MS) (y0 : Int32) (y1 : Int32) => wm_printCall_57 post n ys y0 y1) s2 v1 v2)) ∧ ((¬ (r3 < (0 : Int32))) → (wm_argumentOf (fun (s4 : MS) (r5 : Int32) => wm_behind_ (fun (s6 : MS) => ((v2 ≤ (0 : Int32)) → (wm_printCall_94 post (fun (ys : MS) (y0 : Int32) (y1 : Int32) => wm_printCall_57 post n ys y0 y1) s6 v1 v2)) ∧ ((¬ (v2 ≤ (0 : Int32))) → (wm_behind_ (fun (s7 : MS) => wm_printCall_94 post (fun (ys : MS) (y0 : Int32) (y1 : Int32) => wm_printCall_57 post n ys y0 y1) s7 v1 v2) s6 (6 : Int32) (0 : Int32) (0 : Int32)))) s4 (0 : Int32) r5 (1 : Int32)) s2 v1 v2))) σ v1 v2))
set_option maxRecDepth 20000 in
theorem km_printCall_57 {E : gEnv} {l : Launch} {D : va_G} {cl : List vw_C} {G : gAd} {post : MS → Prop} (hE : gOK E cX13_printCall RX13 none 3) (hm : mOK E l D cl G (qV post) 3) (hF : gFin E) : ∀ (n : Nat) (σ : MS) (v1 : Int32) (v2 : Int32), wm_printCall_57 post n σ v1 v2 → GW E (mW G σ) 57 [(0, .ref (G.1 0)), (1, .int v1), (2, .int v2)] [] := by
  intro n
  induction n with
  | zero => intro σ v1 v2 h; exact h.elim
  | succ n ih =>
    intro σ v1 v2 h
    rw [wm_printCall_57] at h
    have hN := hm.2.2.2.2.2.2.1
    refine r_iload_n hE 2 dX13_printCall_g2.2.1 rfl rfl ?_
    refine r_if_lt hE 100 dX13_printCall_g2.2.2.1 (by decide) h (fun h => ?_) (fun h => ?_)
    · exact m_vret hE hm hF dX13_printCall_g3.2.2.2.2.2.2.2.2.2 h
    · refine r_aload_n hE 0 dX13_printCall_g2.2.2.2.1 rfl rfl ?_
      refine r_iload_n hE 1 dX13_printCall_g2.2.2.2.2.1 rfl rfl ?_
      refine r_iload_n hE 2 dX13_printCall_g2.2.2.2.2.2.1 rfl rfl ?_
      refine m_callVi hE hm [.int v1, .int v2] [] mc_argumentOf (km_argumentOf hm.2.2.2.2.2.2.2.2 h) (by decide) rfl rfl (Nat.le_of_ble_eq_true rfl) dX13_printCall_g2.2.2.2.2.2.2.1 (fun s2 r3 h => ?_)
      refine r_if_lt hE 94 dX13_printCall_g2.2.2.2.2.2.2.2.1 (by decide) h (fun h => ?_) (fun h => ?_)
      · exact km_printCall_94 hE hm hF ih _ _ _ h
      · refine r_aload_n hE 0 dX13_printCall_g2.2.2.2.2.2.2.2.2.1 rfl rfl ?_
        refine r_iconst (v := (0 : Int32)) hE dX13_printCall_g2.2.2.2.2.2.2.2.2.2.1 (by decide) ?_
        refine r_aload_n hE 0 dX13_printCall_g2.2.2.2.2.2.2.2.2.2.2.1 rfl rfl ?_
        refine r_iload_n hE 1 dX13_printCall_g2.2.2.2.2.2.2.2.2.2.2.2.1 rfl rfl ?_
        refine r_iload_n hE 2 dX13_printCall_g2.2.2.2.2.2.2.2.2.2.2.2.2.1 rfl rfl ?_
        refine m_callVi hE hm [.int v1, .int v2] [.int (0 : Int32), .ref (G.1 0)] mc_argumentOf (km_argumentOf hm.2.2.2.2.2.2.2.2 h) (by decide) rfl rfl (Nat.le_of_ble_eq_true rfl) dX13_printCall_g2.2.2.2.2.2.2.2.2.2.2.2.2.2.1 (fun s4 r5 h => ?_)
        refine r_iconst (v := (1 : Int32)) hE dX13_printCall_g2.2.2.2.2.2.2.2.2.2.2.2.2.2.2.1 (by decide) ?_
        refine m_callVv hE hm [.int (0 : Int32), .int r5, .int (1 : Int32)] [] mc_behind_ (km_behind_ hm.2.2.2.2.2.2.2.2 h) (by decide) rfl rfl (Nat.le_of_ble_eq_true rfl) dX13_printCall_g2.2.2.2.2.2.2.2.2.2.2.2.2.2.2.2 (fun s6 h => ?_)
        refine r_iload_n hE 2 dX13_printCall_g3.1 rfl rfl ?_
        refine r_if_le hE 94 dX13_printCall_g3.2.1 (by decide) h (fun h => ?_) (fun h => ?_)
        · exact km_printCall_94 hE hm hF ih _ _ _ h
        · refine r_aload_n hE 0 dX13_printCall_g3.2.2.1 rfl rfl ?_
          refine r_bipush (v := (6 : Int32)) hE dX13_printCall_g3.2.2.2.1 (by decide) ?_
          refine r_iconst (v := (0 : Int32)) hE dX13_printCall_g3.2.2.2.2.1 (by decide) ?_
          refine r_iconst (v := (0 : Int32)) hE dX13_printCall_g3.2.2.2.2.2.1 (by decide) ?_
          refine m_callVv hE hm [.int (6 : Int32), .int (0 : Int32), .int (0 : Int32)] [] mc_behind_ (km_behind_ hm.2.2.2.2.2.2.2.2 h) (by decide) rfl rfl (Nat.le_of_ble_eq_true rfl) dX13_printCall_g3.2.2.2.2.2.2.1 (fun s7 h => ?_)
          exact km_printCall_94 hE hm hF ih _ _ _ h
def wm_printCall_41 (post : MS → Prop) (σ : MS) (v1 : Int32) : Prop := wm_put (fun (s8 : MS) => wm_behind_ (fun (s9 : MS) => ∃ k : Nat, wm_printCall_57 post k s9 v1 (3 : Int32)) s8 (4 : Int32) (41 : Int32) (0 : Int32)) σ (40 : Int32)
set_option maxRecDepth 20000 in
theorem km_printCall_41 {E : gEnv} {l : Launch} {D : va_G} {cl : List vw_C} {G : gAd} {post : MS → Prop} (hE : gOK E cX13_printCall RX13 none 3) (hm : mOK E l D cl G (qV post) 3) (hF : gFin E) (σ : MS) (v1 : Int32) (h : wm_printCall_41 post σ v1) : GW E (mW G σ) 41 [(0, .ref (G.1 0)), (1, .int v1)] [] := by
  unfold wm_printCall_41 at h
  have hN := hm.2.2.2.2.2.2.1
  refine r_aload_n hE 0 dX13_printCall_g1.2.2.2.2.2.2.2.1 rfl rfl ?_
  refine r_bipush (v := (40 : Int32)) hE dX13_printCall_g1.2.2.2.2.2.2.2.2.1 (by decide) ?_
  refine m_callVv hE hm [.int (40 : Int32)] [] mc_put (km_put hm.2.2.2.2.2.2.2.2 h) (by decide) rfl rfl (Nat.le_of_ble_eq_true rfl) dX13_printCall_g1.2.2.2.2.2.2.2.2.2.1 (fun s8 h => ?_)
  refine r_aload_n hE 0 dX13_printCall_g1.2.2.2.2.2.2.2.2.2.2.1 rfl rfl ?_
  refine r_iconst (v := (4 : Int32)) hE dX13_printCall_g1.2.2.2.2.2.2.2.2.2.2.2.1 (by decide) ?_
  refine r_bipush (v := (41 : Int32)) hE dX13_printCall_g1.2.2.2.2.2.2.2.2.2.2.2.2.1 (by decide) ?_
  refine r_iconst (v := (0 : Int32)) hE dX13_printCall_g1.2.2.2.2.2.2.2.2.2.2.2.2.2.1 (by decide) ?_
  refine m_callVv hE hm [.int (4 : Int32), .int (41 : Int32), .int (0 : Int32)] [] mc_behind_ (km_behind_ hm.2.2.2.2.2.2.2.2 h) (by decide) rfl rfl (Nat.le_of_ble_eq_true rfl) dX13_printCall_g1.2.2.2.2.2.2.2.2.2.2.2.2.2.2.1 (fun s9 h => ?_)
  refine r_iconst (v := (3 : Int32)) hE dX13_printCall_g1.2.2.2.2.2.2.2.2.2.2.2.2.2.2.2 (by decide) ?_
  refine r_istore_n hE [(2, .int (3 : Int32)), (0, .ref (G.1 0)), (1, .int v1)] dX13_printCall_g2.1 rfl hN (by decide) rfl ?_
  refine r_pick [1, 2, 0] rfl ?_
  obtain ⟨k, h⟩ := h
  exact km_printCall_57 hE hm hF k _ _ _ h
def wm_printCall (post : MS → Prop) (σ : MS) (a1 : Int32) : Prop := vp_in a1 600 ∧ ((((m_one σ a1.toNatClampNeg) < (100 : Int32)) → (vp_in a1 600 ∧ (wm_word_toolList (fun (s10 : MS) => wm_printCall_41 post s10 a1) σ (m_one σ a1.toNatClampNeg)))) ∧ ((¬ ((m_one σ a1.toNatClampNeg) < (100 : Int32))) → (vp_in a1 600 ∧ (wm_printMacro (fun (s11 : MS) => wm_printCall_41 post s11 a1) σ ((m_one σ a1.toNatClampNeg) - (100 : Int32))))))
set_option maxRecDepth 20000 in
theorem km_printCall {l : Launch} {D : va_G} {cl : List vw_C} {G : gAd} {post : MS → Prop} (hcl : mC cl) {σ : MS} {a1 : Int32} (h : wm_printCall post σ a1) : mMet l D cl G yX13_printCall cX13_printCall 3 none 3 [.ref (G.1 0), .int a1] σ (qV post) := by
  unfold wm_printCall at h
  refine m_enter hcl (by decide +kernel) rfl [(0, .ref (G.1 0)), (1, .int a1)] rfl (Nat.le_of_ble_eq_true rfl) ?_
  intro E hE hm hF
  have hN := hm.2.2.2.2.2.2.1
  refine r_aload_n hE 0 dX13_printCall_g0.1 rfl rfl ?_
  refine mg_one hE hm dX13_printCall_g0.2.1 ?_
  refine r_iload_n hE 1 dX13_printCall_g0.2.2.1 rfl rfl ?_
  obtain ⟨hi, h⟩ := h
  refine ml_one hE hm dX13_printCall_g0.2.2.2.1 hi ?_
  refine r_bipush (v := (100 : Int32)) hE dX13_printCall_g0.2.2.2.2.1 (by decide) ?_
  refine r_icmp_lt hE 27 dX13_printCall_g0.2.2.2.2.2.1 (by decide) h (fun h => ?_) (fun h => ?_)
  · refine r_aload_n hE 0 dX13_printCall_g0.2.2.2.2.2.2.2.2.2.2.2.2.2.2.2 rfl rfl ?_
    refine r_aload_n hE 0 dX13_printCall_g1.1 rfl rfl ?_
    refine mg_toolList hE hm dX13_printCall_g1.2.1 ?_
    refine r_aload_n hE 0 dX13_printCall_g1.2.2.1 rfl rfl ?_
    refine mg_one hE hm dX13_printCall_g1.2.2.2.1 ?_
    refine r_iload_n hE 1 dX13_printCall_g1.2.2.2.2.1 rfl rfl ?_
    obtain ⟨hi, h⟩ := h
    refine ml_one hE hm dX13_printCall_g1.2.2.2.2.2.1 hi ?_
    refine m_callVv hE hm [.ref (G.1 11), .int (m_one σ a1.toNatClampNeg)] [] mc_word (km_word_toolList hm.2.2.2.2.2.2.2.2 h) (by decide) rfl rfl (Nat.le_of_ble_eq_true rfl) dX13_printCall_g1.2.2.2.2.2.2.1 (fun s10 h => ?_)
    exact km_printCall_41 hE hm hF _ _ h
  · refine r_aload_n hE 0 dX13_printCall_g0.2.2.2.2.2.2.1 rfl rfl ?_
    refine r_aload_n hE 0 dX13_printCall_g0.2.2.2.2.2.2.2.1 rfl rfl ?_
    refine mg_one hE hm dX13_printCall_g0.2.2.2.2.2.2.2.2.1 ?_
    refine r_iload_n hE 1 dX13_printCall_g0.2.2.2.2.2.2.2.2.2.1 rfl rfl ?_
    obtain ⟨hi, h⟩ := h
    refine ml_one hE hm dX13_printCall_g0.2.2.2.2.2.2.2.2.2.2.1 hi ?_
    refine r_bipush (v := (100 : Int32)) hE dX13_printCall_g0.2.2.2.2.2.2.2.2.2.2.2.1 (by decide) ?_
    refine r_isub hE dX13_printCall_g0.2.2.2.2.2.2.2.2.2.2.2.2.1 ?_
    refine m_callVv hE hm [.int ((m_one σ a1.toNatClampNeg) - (100 : Int32))] [] mc_printMacro (km_printMacro hm.2.2.2.2.2.2.2.2 h) (by decide) rfl rfl (Nat.le_of_ble_eq_true rfl) dX13_printCall_g0.2.2.2.2.2.2.2.2.2.2.2.2.2.1 (fun s11 h => ?_)
    refine r_goto hE 41 dX13_printCall_g0.2.2.2.2.2.2.2.2.2.2.2.2.2.2.1 (by decide) ?_
    exact km_printCall_41 hE hm hF _ _ h
