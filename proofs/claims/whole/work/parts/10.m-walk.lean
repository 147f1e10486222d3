/-! in -/
def wm_in (post : MS → Int32 → Prop) (σ : MS) (a0 : Int64) (a2 : Int64) (a4 : Int64) : Prop := (((lg_cmp a0 a2) < (0 : Int32)) → (post σ (0 : Int32))) ∧ ((¬ ((lg_cmp a0 a2) < (0 : Int32))) → ((((0 : Int32) < (lg_cmp a0 a4)) → (post σ (0 : Int32))) ∧ ((¬ ((0 : Int32) < (lg_cmp a0 a4))) → (post σ (1 : Int32)))))
set_option maxRecDepth 20000 in
theorem km_in {l : Launch} {D : va_G} {cl : List vw_C} {G : gAd} {post : MS → Int32 → Prop} (hcl : mC cl) {σ : MS} {a0 : Int64} {a2 : Int64} {a4 : Int64} (h : wm_in post σ a0 a2 a4) : mMet l D cl G yX13_in cX13_in 6 (some .boolean) 1 [.long a0, .long a2, .long a4] σ (qI post) := by
  unfold wm_in at h
  refine m_enter hcl (by decide +kernel) rfl [(0, .long a0), (2, .long a2), (4, .long a4)] rfl (Nat.le_of_ble_eq_true rfl) ?_
  intro E hE hm
  have hN := hm.2.2.2.2.2.1
  refine r_lload_n hE 0 dX13_in_0 rfl rfl ?_
  refine r_lload_n hE 1 dX13_in_1 rfl rfl ?_
  refine r_lcmp hE dX13_in_2 ?_
  refine r_if_lt hE 17 dX13_in_3 (by decide) h (fun h => ?_) (fun h => ?_)
  · refine r_iconst (v := (0 : Int32)) hE dX13_in_17 (by decide) ?_
    exact m_zret hE hm dX13_in_18 (Or.inl rfl) h
  · refine r_lload_n hE 0 dX13_in_6 rfl rfl ?_
    refine r_lload hE 2 dX13_in_7 rfl ?_
    refine r_lcmp hE dX13_in_9 ?_
    refine r_if_gt hE 17 dX13_in_10 (by decide) h (fun h => ?_) (fun h => ?_)
    · refine r_iconst (v := (0 : Int32)) hE dX13_in_17 (by decide) ?_
      exact m_zret hE hm dX13_in_18 (Or.inl rfl) h
    · refine r_iconst (v := (1 : Int32)) hE dX13_in_13 (by decide) ?_
      refine r_goto hE 18 dX13_in_14 (by decide) ?_
      exact m_zret hE hm dX13_in_18 (Or.inr rfl) h
/-! four -/
def wm_four_2 (post : MS → Prop) : Nat → MS → Int32 → Int32 → Prop
  | 0, _, _, _ => False
  | n + 1, σ, v1, v2 => ((v2 < (0 : Int32)) → (post σ)) ∧ ((¬ (v2 < (0 : Int32))) → (vp_in (m_taped σ) 3000 ∧ (∀ s1 : MS, s1 = m_tape_s σ (m_taped σ).toNatClampNeg (((v1 >>> (((8 : Int32) * v2) &&& 31)).toInt8.toInt32).toInt8.toInt32) → ∀ s2 : MS, s2 = m_taped_s s1 ((m_taped s1) + (1 : Int32)) → ∀ x3 : Int32, x3 = v2 + (-1 : Int32) → wm_four_2 post n s2 v1 x3)))
set_option maxRecDepth 20000 in
theorem km_four_2 {E : gEnv} {l : Launch} {D : va_G} {cl : List vw_C} {G : gAd} {post : MS → Prop} (hE : gOK E cX13_four RX13 none 1) (hm : mOK E l D cl G (qV post) 3) : ∀ (n : Nat) (σ : MS) (v1 : Int32) (v2 : Int32), wm_four_2 post n σ v1 v2 → GW E (mW G σ) 2 [(0, .ref (G.1 0)), (1, .int v1), (2, .int v2)] [] := by
  intro n
  induction n with
  | zero => intro σ v1 v2 h; exact h.elim
  | succ n ih =>
    intro σ v1 v2 h
    rw [wm_four_2] at h
    have hN := hm.2.2.2.2.2.1
    refine r_iload_n hE 2 dX13_four_2 rfl rfl ?_
    refine r_if_lt hE 38 dX13_four_3 (by decide) h (fun h => ?_) (fun h => ?_)
    · exact m_vret hE hm dX13_four_38 h
    · refine r_aload_n hE 0 dX13_four_6 rfl rfl ?_
      refine mg_tape hE hm dX13_four_7 ?_
      refine r_aload_n hE 0 dX13_four_10 rfl rfl ?_
      refine mg_taped hE hm dX13_four_11 ?_
      refine r_iload_n hE 1 dX13_four_14 rfl rfl ?_
      refine r_bipush (v := (8 : Int32)) hE dX13_four_15 (by decide) ?_
      refine r_iload_n hE 2 dX13_four_17 rfl rfl ?_
      refine r_imul hE dX13_four_18 ?_
      refine r_ishr hE dX13_four_19 ?_
      refine r_i2b hE dX13_four_20 ?_
      obtain ⟨hi, h⟩ := h
      refine ms_tape hE hm dX13_four_21 hi h (fun s1 h => ?_)
      refine r_aload_n hE 0 dX13_four_22 rfl rfl ?_
      refine r_dup hE dX13_four_23 rfl ?_
      refine mg_taped hE hm dX13_four_24 ?_
      refine r_iconst (v := (1 : Int32)) hE dX13_four_27 (by decide) ?_
      refine r_iadd hE dX13_four_28 ?_
      refine mp_taped hE hm dX13_four_29 h (fun s2 h => ?_)
      obtain ⟨x3, ex3⟩ : ∃ z : Int32, z = v2 + (-1 : Int32) := ⟨_, rfl⟩
      have h := h x3 ex3
      refine r_iinc (v := x3) hE [(2, .int x3), (0, .ref (G.1 0)), (1, .int v1)] 2 dX13_four_32 rfl (by rw [ex3]; rfl) hN (by decide) rfl ?_
      refine r_goto hE 2 dX13_four_35 (by decide) ?_
      refine r_pick [1, 2, 0] rfl ?_
      exact ih _ _ _ h
def wm_four (post : MS → Prop) (σ : MS) (a1 : Int32) : Prop := ∃ n : Nat, wm_four_2 post n σ a1 (3 : Int32)
set_option maxRecDepth 20000 in
theorem km_four {l : Launch} {D : va_G} {cl : List vw_C} {G : gAd} {post : MS → Prop} (hcl : mC cl) {σ : MS} {a1 : Int32} (h : wm_four post σ a1) : mMet l D cl G yX13_four cX13_four 3 none 1 [.ref (G.1 0), .int a1] σ (qV post) := by
  unfold wm_four at h
  refine m_enter hcl (by decide +kernel) rfl [(0, .ref (G.1 0)), (1, .int a1)] rfl (Nat.le_of_ble_eq_true rfl) ?_
  intro E hE hm
  have hN := hm.2.2.2.2.2.1
  refine r_iconst (v := (3 : Int32)) hE dX13_four_0 (by decide) ?_
  refine r_istore_n hE [(2, .int (3 : Int32)), (0, .ref (G.1 0)), (1, .int a1)] dX13_four_1 rfl hN (by decide) rfl ?_
  refine r_pick [1, 2, 0] rfl ?_
  obtain ⟨n, h⟩ := h
  exact km_four_2 hE hm n _ _ _ h
/-! feed -/
def wm_feed (post : MS → Int32 → Prop) (σ : MS) (a1 : Int32) (a2 : Int32) (a3 : Int32) (a4 : Int32) (a5 : Int32) : Prop := ∀ s1 : MS, s1 = m_code_s σ (0 : Int32) → ((((m_taped s1) + (20 : Int32)) ≤ (3000 : Int32)) → (wm_four (fun (s2 : MS) => wm_four (fun (s3 : MS) => wm_four (fun (s4 : MS) => wm_four (fun (s5 : MS) => wm_four (fun (s6 : MS) => post s6 (m_taped s6)) s5 a5) s4 a4) s3 a3) s2 a2) s1 a1)) ∧ ((¬ (((m_taped s1) + (20 : Int32)) ≤ (3000 : Int32))) → (post s1 (-2000000003 : Int32)))
set_option maxRecDepth 20000 in
theorem km_feed {l : Launch} {D : va_G} {cl : List vw_C} {G : gAd} {post : MS → Int32 → Prop} (hcl : mC cl) {σ : MS} {a1 : Int32} {a2 : Int32} {a3 : Int32} {a4 : Int32} {a5 : Int32} (h : wm_feed post σ a1 a2 a3 a4 a5) : mMet l D cl G yX13_feed cX13_feed 6 (some .int) 2 [.ref (G.1 0), .int a1, .int a2, .int a3, .int a4, .int a5] σ (qI post) := by
  unfold wm_feed at h
  refine m_enter hcl (by decide +kernel) rfl [(0, .ref (G.1 0)), (1, .int a1), (2, .int a2), (3, .int a3), (4, .int a4), (5, .int a5)] rfl (Nat.le_of_ble_eq_true rfl) ?_
  intro E hE hm
  have hN := hm.2.2.2.2.2.1
  refine r_aload_n hE 0 dX13_feed_0 rfl rfl ?_
  refine r_iconst (v := (0 : Int32)) hE dX13_feed_1 (by decide) ?_
  refine mp_code hE hm dX13_feed_2 h (fun s1 h => ?_)
  refine r_aload_n hE 0 dX13_feed_5 rfl rfl ?_
  refine mg_taped hE hm dX13_feed_6 ?_
  refine r_bipush (v := (20 : Int32)) hE dX13_feed_9 (by decide) ?_
  refine r_iadd hE dX13_feed_11 ?_
  refine r_sipush (v := (3000 : Int32)) hE dX13_feed_12 (by decide) ?_
  refine r_icmp_le hE 21 dX13_feed_15 (by decide) h (fun h => ?_) (fun h => ?_)
  · refine r_aload_n hE 0 dX13_feed_21 rfl rfl ?_
    refine r_iload_n hE 1 dX13_feed_22 rfl rfl ?_
    refine m_callVv hE hm [.int a1] [] mc_four (km_four hm.2.2.2.2.2.2.2 h) (by decide) rfl rfl (Nat.le_of_ble_eq_true rfl) dX13_feed_23 (fun s2 h => ?_)
    refine r_aload_n hE 0 dX13_feed_26 rfl rfl ?_
    refine r_iload_n hE 2 dX13_feed_27 rfl rfl ?_
    refine m_callVv hE hm [.int a2] [] mc_four (km_four hm.2.2.2.2.2.2.2 h) (by decide) rfl rfl (Nat.le_of_ble_eq_true rfl) dX13_feed_28 (fun s3 h => ?_)
    refine r_aload_n hE 0 dX13_feed_31 rfl rfl ?_
    refine r_iload_n hE 3 dX13_feed_32 rfl rfl ?_
    refine m_callVv hE hm [.int a3] [] mc_four (km_four hm.2.2.2.2.2.2.2 h) (by decide) rfl rfl (Nat.le_of_ble_eq_true rfl) dX13_feed_33 (fun s4 h => ?_)
    refine r_aload_n hE 0 dX13_feed_36 rfl rfl ?_
    refine r_iload hE 4 dX13_feed_37 rfl ?_
    refine m_callVv hE hm [.int a4] [] mc_four (km_four hm.2.2.2.2.2.2.2 h) (by decide) rfl rfl (Nat.le_of_ble_eq_true rfl) dX13_feed_39 (fun s5 h => ?_)
    refine r_aload_n hE 0 dX13_feed_42 rfl rfl ?_
    refine r_iload hE 5 dX13_feed_43 rfl ?_
    refine m_callVv hE hm [.int a5] [] mc_four (km_four hm.2.2.2.2.2.2.2 h) (by decide) rfl rfl (Nat.le_of_ble_eq_true rfl) dX13_feed_45 (fun s6 h => ?_)
    refine r_aload_n hE 0 dX13_feed_48 rfl rfl ?_
    refine mg_taped hE hm dX13_feed_49 ?_
    exact m_iret hE hm dX13_feed_52 h
  · refine r_ldc (v := (-2000000003 : Int32)) hE dX13_feed_18 (gTb_9 (List.mem_of_getElem? (i := 19) rfl) rfl) ?_
    exact m_iret hE hm dX13_feed_20 h
/-! cut -/
def wm_cut (post : MS → Int32 → Prop) (σ : MS) (a1 : Int32) : Prop := ∀ s1 : MS, s1 = m_code_s σ (0 : Int32) → wm_in (fun (s2 : MS) (r3 : Int32) => ((¬ (r3 = (0 : Int32))) → (∀ x4 : Int32, x4 = (m_taped s2) - a1 → ∀ s5 : MS, s5 = m_taped_s s2 a1 → post s5 x4)) ∧ ((r3 = (0 : Int32)) → (post s2 (-2000000002 : Int32)))) s1 (a1.toInt64) (0 : Int64) ((m_taped s1).toInt64)
set_option maxRecDepth 20000 in
theorem km_cut {l : Launch} {D : va_G} {cl : List vw_C} {G : gAd} {post : MS → Int32 → Prop} (hcl : mC cl) {σ : MS} {a1 : Int32} (h : wm_cut post σ a1) : mMet l D cl G yX13_cut cX13_cut 3 (some .int) 2 [.ref (G.1 0), .int a1] σ (qI post) := by
  unfold wm_cut at h
  refine m_enter hcl (by decide +kernel) rfl [(0, .ref (G.1 0)), (1, .int a1)] rfl (Nat.le_of_ble_eq_true rfl) ?_
  intro E hE hm
  have hN := hm.2.2.2.2.2.1
  refine r_aload_n hE 0 dX13_cut_0 rfl rfl ?_
  refine r_iconst (v := (0 : Int32)) hE dX13_cut_1 (by decide) ?_
  refine mp_code hE hm dX13_cut_2 h (fun s1 h => ?_)
  refine r_iload_n hE 1 dX13_cut_5 rfl rfl ?_
  refine r_i2l hE dX13_cut_6 ?_
  refine r_lconst (v := (0 : Int64)) hE dX13_cut_7 (by decide) ?_
  refine r_aload_n hE 0 dX13_cut_8 rfl rfl ?_
  refine mg_taped hE hm dX13_cut_9 ?_
  refine r_i2l hE dX13_cut_12 ?_
  refine m_callSi hE hm [.long (a1.toInt64), .long (0 : Int64), .long ((m_taped s1).toInt64)] [] mc_in (km_in hm.2.2.2.2.2.2.2 h) (by decide) rfl rfl (Nat.le_of_ble_eq_true rfl) dX13_cut_13 (fun s2 r3 h => ?_)
  refine r_if_ne hE 22 dX13_cut_16 (by decide) h (fun h => ?_) (fun h => ?_)
  · refine r_aload_n hE 0 dX13_cut_22 rfl rfl ?_
    refine mg_taped hE hm dX13_cut_23 ?_
    refine r_iload_n hE 1 dX13_cut_26 rfl rfl ?_
    refine r_isub hE dX13_cut_27 ?_
    refine r_topi h (fun x4 ex4 h => ?_)
    refine r_istore_n hE [(2, .int x4), (0, .ref (G.1 0)), (1, .int a1)] dX13_cut_28 rfl hN (by decide) rfl ?_
    refine r_aload_n hE 1 dX13_cut_29 rfl rfl ?_
    refine r_iload_n hE 2 dX13_cut_30 rfl rfl ?_
    refine mp_taped hE hm dX13_cut_31 h (fun s5 h => ?_)
    refine r_iload_n hE 0 dX13_cut_34 rfl rfl ?_
    exact m_iret hE hm dX13_cut_35 h
  · refine r_ldc (v := (-2000000002 : Int32)) hE dX13_cut_19 (gTb_9 (List.mem_of_getElem? (i := 31) rfl) rfl) ?_
    exact m_iret hE hm dX13_cut_21 h
/-! isLetter -/
def wm_isLetter (post : MS → Int32 → Prop) (σ : MS) (a0 : Int32) : Prop := wm_in (fun (s1 : MS) (r2 : Int32) => isB r2 ∧ (post s1 r2)) σ (a0.toInt64) (97 : Int64) (122 : Int64)
set_option maxRecDepth 20000 in
theorem km_isLetter {l : Launch} {D : va_G} {cl : List vw_C} {G : gAd} {post : MS → Int32 → Prop} (hcl : mC cl) {σ : MS} {a0 : Int32} (h : wm_isLetter post σ a0) : mMet l D cl G yX13_isLetter cX13_isLetter 1 (some .boolean) 2 [.int a0] σ (qI post) := by
  unfold wm_isLetter at h
  refine m_enter hcl (by decide +kernel) rfl [(0, .int a0)] rfl (Nat.le_of_ble_eq_true rfl) ?_
  intro E hE hm
  have hN := hm.2.2.2.2.2.1
  refine r_iload_n hE 0 dX13_isLetter_0 rfl rfl ?_
  refine r_i2l hE dX13_isLetter_1 ?_
  refine r_ldc2 (v := (97 : Int64)) hE dX13_isLetter_2 (gTb_9 (List.mem_of_getElem? (i := 43) rfl) rfl) ?_
  refine r_ldc2 (v := (122 : Int64)) hE dX13_isLetter_5 (gTb_9 (List.mem_of_getElem? (i := 44) rfl) rfl) ?_
  refine m_callSi hE hm [.long (a0.toInt64), .long (97 : Int64), .long (122 : Int64)] [] mc_in (km_in hm.2.2.2.2.2.2.2 h) (by decide) rfl rfl (Nat.le_of_ble_eq_true rfl) dX13_isLetter_8 (fun s1 r2 h => ?_)
  obtain ⟨hb, h⟩ := h
  exact m_zret hE hm dX13_isLetter_11 hb h
/-! isFigure -/
def wm_isFigure (post : MS → Int32 → Prop) (σ : MS) (a0 : Int32) : Prop := wm_in (fun (s1 : MS) (r2 : Int32) => isB r2 ∧ (post s1 r2)) σ (a0.toInt64) (48 : Int64) (57 : Int64)
set_option maxRecDepth 20000 in
theorem km_isFigure {l : Launch} {D : va_G} {cl : List vw_C} {G : gAd} {post : MS → Int32 → Prop} (hcl : mC cl) {σ : MS} {a0 : Int32} (h : wm_isFigure post σ a0) : mMet l D cl G yX13_isFigure cX13_isFigure 1 (some .boolean) 2 [.int a0] σ (qI post) := by
  unfold wm_isFigure at h
  refine m_enter hcl (by decide +kernel) rfl [(0, .int a0)] rfl (Nat.le_of_ble_eq_true rfl) ?_
  intro E hE hm
  have hN := hm.2.2.2.2.2.1
  refine r_iload_n hE 0 dX13_isFigure_0 rfl rfl ?_
  refine r_i2l hE dX13_isFigure_1 ?_
  refine r_ldc2 (v := (48 : Int64)) hE dX13_isFigure_2 (gTb_9 (List.mem_of_getElem? (i := 48) rfl) rfl) ?_
  refine r_ldc2 (v := (57 : Int64)) hE dX13_isFigure_5 (gTb_9 (List.mem_of_getElem? (i := 49) rfl) rfl) ?_
  refine m_callSi hE hm [.long (a0.toInt64), .long (48 : Int64), .long (57 : Int64)] [] mc_in (km_in hm.2.2.2.2.2.2.2 h) (by decide) rfl rfl (Nat.le_of_ble_eq_true rfl) dX13_isFigure_8 (fun s1 r2 h => ?_)
  obtain ⟨hb, h⟩ := h
  exact m_zret hE hm dX13_isFigure_11 hb h
/-! isSign -/
def wm_isSign_84 (post : MS → Int32 → Prop) (σ : MS) : Prop := post σ (1 : Int32)
set_option maxRecDepth 20000 in
theorem km_isSign_84 {E : gEnv} {l : Launch} {D : va_G} {cl : List vw_C} {G : gAd} {post : MS → Int32 → Prop} (hE : gOK E cX13_isSign RX13 (some .boolean) 1) (hm : mOK E l D cl G (qI post) 1) (σ : MS) (h : wm_isSign_84 post σ) : GW E (mW G σ) 84 [] [] := by
  unfold wm_isSign_84 at h
  have hN := hm.2.2.2.2.2.1
  refine r_iconst (v := (1 : Int32)) hE dX13_isSign_84 (by decide) ?_
  refine r_goto hE 89 dX13_isSign_85 (by decide) ?_
  exact m_zret hE hm dX13_isSign_89 (Or.inr rfl) h
def wm_isSign (post : MS → Int32 → Prop) (σ : MS) (a0 : Int32) : Prop := ((a0 = (59 : Int32)) → (wm_isSign_84 post σ)) ∧ ((¬ (a0 = (59 : Int32))) → (((a0 = (44 : Int32)) → (wm_isSign_84 post σ)) ∧ ((¬ (a0 = (44 : Int32))) → (((a0 = (61 : Int32)) → (wm_isSign_84 post σ)) ∧ ((¬ (a0 = (61 : Int32))) → (((a0 = (60 : Int32)) → (wm_isSign_84 post σ)) ∧ ((¬ (a0 = (60 : Int32))) → (((a0 = (43 : Int32)) → (wm_isSign_84 post σ)) ∧ ((¬ (a0 = (43 : Int32))) → (((a0 = (45 : Int32)) → (wm_isSign_84 post σ)) ∧ ((¬ (a0 = (45 : Int32))) → (((a0 = (42 : Int32)) → (wm_isSign_84 post σ)) ∧ ((¬ (a0 = (42 : Int32))) → (((a0 = (47 : Int32)) → (wm_isSign_84 post σ)) ∧ ((¬ (a0 = (47 : Int32))) → (((a0 = (40 : Int32)) → (wm_isSign_84 post σ)) ∧ ((¬ (a0 = (40 : Int32))) → (((a0 = (41 : Int32)) → (wm_isSign_84 post σ)) ∧ ((¬ (a0 = (41 : Int32))) → (((a0 = (91 : Int32)) → (wm_isSign_84 post σ)) ∧ ((¬ (a0 = (91 : Int32))) → (((a0 = (93 : Int32)) → (wm_isSign_84 post σ)) ∧ ((¬ (a0 = (93 : Int32))) → (((a0 = (123 : Int32)) → (wm_isSign_84 post σ)) ∧ ((¬ (a0 = (123 : Int32))) → (((¬ (a0 = (125 : Int32))) → (post σ (0 : Int32))) ∧ ((a0 = (125 : Int32)) → (wm_isSign_84 post σ))))))))))))))))))))))))))))
set_option maxRecDepth 20000 in
theorem km_isSign {l : Launch} {D : va_G} {cl : List vw_C} {G : gAd} {post : MS → Int32 → Prop} (hcl : mC cl) {σ : MS} {a0 : Int32} (h : wm_isSign post σ a0) : mMet l D cl G yX13_isSign cX13_isSign 1 (some .boolean) 1 [.int a0] σ (qI post) := by
  unfold wm_isSign at h
  refine m_enter hcl (by decide +kernel) rfl [(0, .int a0)] rfl (Nat.le_of_ble_eq_true rfl) ?_
  intro E hE hm
  have hN := hm.2.2.2.2.2.1
  refine r_iload_n hE 0 dX13_isSign_0 rfl rfl ?_
  refine r_bipush (v := (59 : Int32)) hE dX13_isSign_1 (by decide) ?_
  refine r_icmp_eq hE 84 dX13_isSign_3 (by decide) h (fun h => ?_) (fun h => ?_)
  · refine r_pick [] rfl ?_
    exact km_isSign_84 hE hm _ h
  · refine r_iload_n hE 0 dX13_isSign_6 rfl rfl ?_
    refine r_bipush (v := (44 : Int32)) hE dX13_isSign_7 (by decide) ?_
    refine r_icmp_eq hE 84 dX13_isSign_9 (by decide) h (fun h => ?_) (fun h => ?_)
    · refine r_pick [] rfl ?_
      exact km_isSign_84 hE hm _ h
    · refine r_iload_n hE 0 dX13_isSign_12 rfl rfl ?_
      refine r_bipush (v := (61 : Int32)) hE dX13_isSign_13 (by decide) ?_
      refine r_icmp_eq hE 84 dX13_isSign_15 (by decide) h (fun h => ?_) (fun h => ?_)
      · refine r_pick [] rfl ?_
        exact km_isSign_84 hE hm _ h
      · refine r_iload_n hE 0 dX13_isSign_18 rfl rfl ?_
        refine r_bipush (v := (60 : Int32)) hE dX13_isSign_19 (by decide) ?_
        refine r_icmp_eq hE 84 dX13_isSign_21 (by decide) h (fun h => ?_) (fun h => ?_)
        · refine r_pick [] rfl ?_
          exact km_isSign_84 hE hm _ h
        · refine r_iload_n hE 0 dX13_isSign_24 rfl rfl ?_
          refine r_bipush (v := (43 : Int32)) hE dX13_isSign_25 (by decide) ?_
          refine r_icmp_eq hE 84 dX13_isSign_27 (by decide) h (fun h => ?_) (fun h => ?_)
          · refine r_pick [] rfl ?_
            exact km_isSign_84 hE hm _ h
          · refine r_iload_n hE 0 dX13_isSign_30 rfl rfl ?_
            refine r_bipush (v := (45 : Int32)) hE dX13_isSign_31 (by decide) ?_
            refine r_icmp_eq hE 84 dX13_isSign_33 (by decide) h (fun h => ?_) (fun h => ?_)
            · refine r_pick [] rfl ?_
              exact km_isSign_84 hE hm _ h
            · refine r_iload_n hE 0 dX13_isSign_36 rfl rfl ?_
              refine r_bipush (v := (42 : Int32)) hE dX13_isSign_37 (by decide) ?_
              refine r_icmp_eq hE 84 dX13_isSign_39 (by decide) h (fun h => ?_) (fun h => ?_)
              · refine r_pick [] rfl ?_
                exact km_isSign_84 hE hm _ h
              · refine r_iload_n hE 0 dX13_isSign_42 rfl rfl ?_
                refine r_bipush (v := (47 : Int32)) hE dX13_isSign_43 (by decide) ?_
                refine r_icmp_eq hE 84 dX13_isSign_45 (by decide) h (fun h => ?_) (fun h => ?_)
                · refine r_pick [] rfl ?_
                  exact km_isSign_84 hE hm _ h
                · refine r_iload_n hE 0 dX13_isSign_48 rfl rfl ?_
                  refine r_bipush (v := (40 : Int32)) hE dX13_isSign_49 (by decide) ?_
                  refine r_icmp_eq hE 84 dX13_isSign_51 (by decide) h (fun h => ?_) (fun h => ?_)
                  · refine r_pick [] rfl ?_
                    exact km_isSign_84 hE hm _ h
                  · refine r_iload_n hE 0 dX13_isSign_54 rfl rfl ?_
                    refine r_bipush (v := (41 : Int32)) hE dX13_isSign_55 (by decide) ?_
                    refine r_icmp_eq hE 84 dX13_isSign_57 (by decide) h (fun h => ?_) (fun h => ?_)
                    · refine r_pick [] rfl ?_
                      exact km_isSign_84 hE hm _ h
                    · refine r_iload_n hE 0 dX13_isSign_60 rfl rfl ?_
                      refine r_bipush (v := (91 : Int32)) hE dX13_isSign_61 (by decide) ?_
                      refine r_icmp_eq hE 84 dX13_isSign_63 (by decide) h (fun h => ?_) (fun h => ?_)
                      · refine r_pick [] rfl ?_
                        exact km_isSign_84 hE hm _ h
                      · refine r_iload_n hE 0 dX13_isSign_66 rfl rfl ?_
                        refine r_bipush (v := (93 : Int32)) hE dX13_isSign_67 (by decide) ?_
                        refine r_icmp_eq hE 84 dX13_isSign_69 (by decide) h (fun h => ?_) (fun h => ?_)
                        · refine r_pick [] rfl ?_
                          exact km_isSign_84 hE hm _ h
                        · refine r_iload_n hE 0 dX13_isSign_72 rfl rfl ?_
                          refine r_bipush (v := (123 : Int32)) hE dX13_isSign_73 (by decide) ?_
                          refine r_icmp_eq hE 84 dX13_isSign_75 (by decide) h (fun h => ?_) (fun h => ?_)
                          · refine r_pick [] rfl ?_
                            exact km_isSign_84 hE hm _ h
                          · refine r_iload_n hE 0 dX13_isSign_78 rfl rfl ?_
                            refine r_bipush (v := (125 : Int32)) hE dX13_isSign_79 (by decide) ?_
                            refine r_icmp_ne hE 88 dX13_isSign_81 (by decide) h (fun h => ?_) (fun h => ?_)
                            · refine r_iconst (v := (0 : Int32)) hE dX13_isSign_88 (by decide) ?_
                              exact m_zret hE hm dX13_isSign_89 (Or.inl rfl) h
                            · refine r_pick [] rfl ?_
                              exact km_isSign_84 hE hm _ h
/-! scan -/
def wm_scan_294 (post : MS → Prop) (σ : MS) (v2 : Int32) : Prop := ∀ s1 : MS, s1 = m_at_s σ v2 → post s1
set_option maxRecDepth 20000 in
theorem km_scan_294 {E : gEnv} {l : Launch} {D : va_G} {cl : List vw_C} {G : gAd} {post : MS → Prop} (hE : gOK E cX13_scan RX13 none 3) (hm : mOK E l D cl G (qV post) 5) (σ : MS) (v2 : Int32) (h : wm_scan_294 post σ v2) : GW E (mW G σ) 294 [(0, .ref (G.1 0)), (2, .int v2)] [] := by
  unfold wm_scan_294 at h
  have hN := hm.2.2.2.2.2.1
  refine r_aload_n hE 0 dX13_scan_294 rfl rfl ?_
  refine r_iload_n hE 1 dX13_scan_295 rfl rfl ?_
  refine mp_at hE hm dX13_scan_296 h (fun s1 h => ?_)
  exact m_vret hE hm dX13_scan_299 h
def wm_scan_259 (post : MS → Prop) (σ : MS) (v2 : Int32) (t1 : Int32) : Prop := ∀ s2 : MS, s2 = m_token_s σ t1 → wm_scan_294 post s2 v2
set_option maxRecDepth 20000 in
theorem km_scan_259 {E : gEnv} {l : Launch} {D : va_G} {cl : List vw_C} {G : gAd} {post : MS → Prop} (hE : gOK E cX13_scan RX13 none 3) (hm : mOK E l D cl G (qV post) 5) (σ : MS) (v2 : Int32) (t1 : Int32) (h : wm_scan_259 post σ v2 t1) : GW E (mW G σ) 259 [(0, .ref (G.1 0)), (2, .int v2)] [.int t1, .ref (G.1 0)] := by
  unfold wm_scan_259 at h
  have hN := hm.2.2.2.2.2.1
  refine mp_token hE hm dX13_scan_259 h (fun s2 h => ?_)
  refine r_goto hE 294 dX13_scan_262 (by decide) ?_
  exact km_scan_294 hE hm _ _ h
def wm_scan_258 (post : MS → Prop) (σ : MS) (v2 : Int32) : Prop := wm_scan_259 post σ v2 (4 : Int32)
set_option maxRecDepth 20000 in
theorem km_scan_258 {E : gEnv} {l : Launch} {D : va_G} {cl : List vw_C} {G : gAd} {post : MS → Prop} (hE : gOK E cX13_scan RX13 none 3) (hm : mOK E l D cl G (qV post) 5) (σ : MS) (v2 : Int32) (h : wm_scan_258 post σ v2) : GW E (mW G σ) 258 [(0, .ref (G.1 0)), (2, .int v2)] [.ref (G.1 0)] := by
  unfold wm_scan_258 at h
  have hN := hm.2.2.2.2.2.1
  refine r_iconst (v := (4 : Int32)) hE dX13_scan_258 (by decide) ?_
  exact km_scan_259 hE hm _ _ _ h
def wm_scan_205 (post : MS → Prop) (σ : MS) (v2 : Int32) (v3 : Int32) (v4 : Int32) : Prop := ∀ s3 : MS, s3 = m_tokenSize_s σ (v2 - (m_tokenAt σ)) → wm_isLetter (fun (s4 : MS) (r5 : Int32) => ((r5 = (0 : Int32)) → (((v4 = (0 : Int32)) → (wm_scan_258 post s4 v2)) ∧ ((¬ (v4 = (0 : Int32))) → ((((9 : Int32) < (m_tokenSize s4)) → (wm_scan_258 post s4 v2)) ∧ ((¬ ((9 : Int32) < (m_tokenSize s4))) → (wm_scan_259 post s4 v2 (2 : Int32))))))) ∧ ((¬ (r5 = (0 : Int32))) → ((((m_tokenSize s4) ≤ (10 : Int32)) → (wm_scan_259 post s4 v2 (1 : Int32))) ∧ ((¬ ((m_tokenSize s4) ≤ (10 : Int32))) → (wm_scan_259 post s4 v2 (4 : Int32)))))) s3 v3
set_option maxRecDepth 20000 in
theorem km_scan_205 {E : gEnv} {l : Launch} {D : va_G} {cl : List vw_C} {G : gAd} {post : MS → Prop} (hE : gOK E cX13_scan RX13 none 3) (hm : mOK E l D cl G (qV post) 5) (σ : MS) (v2 : Int32) (v3 : Int32) (v4 : Int32) (h : wm_scan_205 post σ v2 v3 v4) : GW E (mW G σ) 205 [(0, .ref (G.1 0)), (2, .int v2), (3, .int v3), (4, .int v4)] [] := by
  unfold wm_scan_205 at h
  have hN := hm.2.2.2.2.2.1
  refine r_aload_n hE 0 dX13_scan_205 rfl rfl ?_
  refine r_iload_n hE 1 dX13_scan_206 rfl rfl ?_
  refine r_aload_n hE 0 dX13_scan_207 rfl rfl ?_
  refine mg_tokenAt hE hm dX13_scan_208 ?_
  refine r_isub hE dX13_scan_211 ?_
  refine mp_tokenSize hE hm dX13_scan_212 h (fun s3 h => ?_)
  refine r_aload_n hE 0 dX13_scan_215 rfl rfl ?_
  refine r_iload_n hE 2 dX13_scan_216 rfl rfl ?_
  refine m_callSi hE hm [.int v3] [.ref (G.1 0)] mc_isLetter (km_isLetter hm.2.2.2.2.2.2.2 h) (by decide) rfl rfl (Nat.le_of_ble_eq_true rfl) dX13_scan_217 (fun s4 r5 h => ?_)
  refine r_if_eq hE 240 dX13_scan_220 (by decide) h (fun h => ?_) (fun h => ?_)
  · refine r_iload hE 3 dX13_scan_240 rfl ?_
    refine r_if_eq hE 258 dX13_scan_242 (by decide) h (fun h => ?_) (fun h => ?_)
    · refine r_pick [0, 1] rfl ?_
      exact km_scan_258 hE hm _ _ h
    · refine r_aload_n hE 0 dX13_scan_245 rfl rfl ?_
      refine mg_tokenSize hE hm dX13_scan_246 ?_
      refine r_bipush (v := (9 : Int32)) hE dX13_scan_249 (by decide) ?_
      refine r_icmp_gt hE 258 dX13_scan_251 (by decide) h (fun h => ?_) (fun h => ?_)
      · refine r_pick [0, 1] rfl ?_
        exact km_scan_258 hE hm _ _ h
      · refine r_iconst (v := (2 : Int32)) hE dX13_scan_254 (by decide) ?_
        refine r_goto hE 259 dX13_scan_255 (by decide) ?_
        refine r_pick [0, 1] rfl ?_
        exact km_scan_259 hE hm _ _ _ h
  · refine r_aload_n hE 0 dX13_scan_223 rfl rfl ?_
    refine mg_tokenSize hE hm dX13_scan_224 ?_
    refine r_bipush (v := (10 : Int32)) hE dX13_scan_227 (by decide) ?_
    refine r_icmp_le hE 236 dX13_scan_229 (by decide) h (fun h => ?_) (fun h => ?_)
    · refine r_iconst (v := (1 : Int32)) hE dX13_scan_236 (by decide) ?_
      refine r_goto hE 259 dX13_scan_237 (by decide) ?_
      refine r_pick [0, 1] rfl ?_
      exact km_scan_259 hE hm _ _ _ h
    · refine r_iconst (v := (4 : Int32)) hE dX13_scan_232 (by decide) ?_
      refine r_goto hE 259 dX13_scan_233 (by decide) ?_
      refine r_pick [0, 1] rfl ?_
      exact km_scan_259 hE hm _ _ _ h
def wm_scan_196 (post : MS → Prop) (lp96 : MS → Int32 → Int32 → Int32 → Prop) (σ : MS) (v2 : Int32) (v3 : Int32) (v4 : Int32) (t1 : Int64) : Prop := ∀ s6 : MS, s6 = m_digits_s σ t1 → ∀ x7 : Int32, x7 = v2 + (1 : Int32) → lp96 s6 x7 v3 v4
set_option maxRecDepth 20000 in
theorem km_scan_196 {E : gEnv} {l : Launch} {D : va_G} {cl : List vw_C} {G : gAd} {post : MS → Prop} (hE : gOK E cX13_scan RX13 none 3) (hm : mOK E l D cl G (qV post) 5) {lp96 : MS → Int32 → Int32 → Int32 → Prop} (hl96 : ∀ (σ : MS) (v2 : Int32) (v3 : Int32) (v4 : Int32), lp96 σ v2 v3 v4 → GW E (mW G σ) 96 [(0, .ref (G.1 0)), (2, .int v2), (3, .int v3), (4, .int v4)] []) (σ : MS) (v2 : Int32) (v3 : Int32) (v4 : Int32) (t1 : Int64) (h : wm_scan_196 post lp96 σ v2 v3 v4 t1) : GW E (mW G σ) 196 [(0, .ref (G.1 0)), (2, .int v2), (3, .int v3), (4, .int v4)] [.long t1, .ref (G.1 0)] := by
  unfold wm_scan_196 at h
  have hN := hm.2.2.2.2.2.1
  refine mp_digits hE hm dX13_scan_196 h (fun s6 h => ?_)
  obtain ⟨x7, ex7⟩ : ∃ z : Int32, z = v2 + (1 : Int32) := ⟨_, rfl⟩
  have h := h x7 ex7
  refine r_iinc (v := x7) hE [(2, .int x7), (0, .ref (G.1 0)), (3, .int v3), (4, .int v4)] 1 dX13_scan_199 rfl (by rw [ex7]; rfl) hN (by decide) rfl ?_
  refine r_goto hE 96 dX13_scan_202 (by decide) ?_
  refine r_pick [1, 0, 2, 3] rfl ?_
  exact hl96 _ _ _ _ h
def wm_scan_192 (post : MS → Prop) (lp96 : MS → Int32 → Int32 → Int32 → Prop) (σ : MS) (v2 : Int32) (v3 : Int32) (v4 : Int32) : Prop := wm_scan_196 post lp96 σ v2 v3 v4 (m_digits σ)
set_option maxRecDepth 20000 in
theorem km_scan_192 {E : gEnv} {l : Launch} {D : va_G} {cl : List vw_C} {G : gAd} {post : MS → Prop} (hE : gOK E cX13_scan RX13 none 3) (hm : mOK E l D cl G (qV post) 5) {lp96 : MS → Int32 → Int32 → Int32 → Prop} (hl96 : ∀ (σ : MS) (v2 : Int32) (v3 : Int32) (v4 : Int32), lp96 σ v2 v3 v4 → GW E (mW G σ) 96 [(0, .ref (G.1 0)), (2, .int v2), (3, .int v3), (4, .int v4)] []) (σ : MS) (v2 : Int32) (v3 : Int32) (v4 : Int32) (h : wm_scan_192 post lp96 σ v2 v3 v4) : GW E (mW G σ) 192 [(0, .ref (G.1 0)), (2, .int v2), (3, .int v3), (4, .int v4)] [.ref (G.1 0)] := by
  unfold wm_scan_192 at h
  have hN := hm.2.2.2.2.2.1
  refine r_aload_n hE 0 dX13_scan_192 rfl rfl ?_
  refine mg_digits hE hm dX13_scan_193 ?_
  exact km_scan_196 hE hm hl96 _ _ _ _ _ h
def wm_scan_150 (post : MS → Prop) (lp96 : MS → Int32 → Int32 → Int32 → Prop) (σ : MS) (v2 : Int32) (v3 : Int32) (t0 : Int32) : Prop := ((t0 = (0 : Int32)) → (wm_scan_192 post lp96 σ v2 v3 t0)) ∧ ((¬ (t0 = (0 : Int32))) → ((((9 : Int32) ≤ (v2 - (m_tokenAt σ))) → (wm_scan_192 post lp96 σ v2 v3 t0)) ∧ ((¬ ((9 : Int32) ≤ (v2 - (m_tokenAt σ)))) → (vp_in v2 3000 ∧ (wm_scan_196 post lp96 σ v2 v3 t0 ((((10 : Int64) * (m_digits σ)) + ((m_tape σ v2.toNatClampNeg).toInt64)) - (48 : Int64)))))))
set_option maxRecDepth 20000 in
theorem km_scan_150 {E : gEnv} {l : Launch} {D : va_G} {cl : List vw_C} {G : gAd} {post : MS → Prop} (hE : gOK E cX13_scan RX13 none 3) (hm : mOK E l D cl G (qV post) 5) {lp96 : MS → Int32 → Int32 → Int32 → Prop} (hl96 : ∀ (σ : MS) (v2 : Int32) (v3 : Int32) (v4 : Int32), lp96 σ v2 v3 v4 → GW E (mW G σ) 96 [(0, .ref (G.1 0)), (2, .int v2), (3, .int v3), (4, .int v4)] []) (σ : MS) (v2 : Int32) (v3 : Int32) (t0 : Int32) (h : wm_scan_150 post lp96 σ v2 v3 t0) : GW E (mW G σ) 150 [(0, .ref (G.1 0)), (2, .int v2), (3, .int v3)] [.int t0] := by
  unfold wm_scan_150 at h
  have hN := hm.2.2.2.2.2.1
  refine r_istore hE [(4, .int t0), (0, .ref (G.1 0)), (2, .int v2), (3, .int v3)] dX13_scan_150 hN (by decide) rfl ?_
  refine r_aload_n hE 1 dX13_scan_152 rfl rfl ?_
  refine r_iload hE 0 dX13_scan_153 rfl ?_
  refine r_if_eq hE 192 dX13_scan_155 (by decide) h (fun h => ?_) (fun h => ?_)
  · refine r_pick [1, 2, 3, 0] rfl ?_
    exact km_scan_192 hE hm hl96 _ _ _ _ h
  · refine r_iload_n hE 2 dX13_scan_158 rfl rfl ?_
    refine r_aload_n hE 1 dX13_scan_159 rfl rfl ?_
    refine mg_tokenAt hE hm dX13_scan_160 ?_
    refine r_isub hE dX13_scan_163 ?_
    refine r_bipush (v := (9 : Int32)) hE dX13_scan_164 (by decide) ?_
    refine r_icmp_ge hE 192 dX13_scan_166 (by decide) h (fun h => ?_) (fun h => ?_)
    · refine r_pick [1, 2, 3, 0] rfl ?_
      exact km_scan_192 hE hm hl96 _ _ _ _ h
    · refine r_ldc2 (v := (10 : Int64)) hE dX13_scan_169 (gTb_9 (List.mem_of_getElem? (i := 50) rfl) rfl) ?_
      refine r_aload_n hE 1 dX13_scan_172 rfl rfl ?_
      refine mg_digits hE hm dX13_scan_173 ?_
      refine r_lmul hE dX13_scan_176 ?_
      refine r_aload_n hE 1 dX13_scan_177 rfl rfl ?_
      refine mg_tape hE hm dX13_scan_178 ?_
      refine r_iload_n hE 2 dX13_scan_181 rfl rfl ?_
      obtain ⟨hi, h⟩ := h
      refine ml_tape hE hm dX13_scan_182 hi ?_
      refine r_i2l hE dX13_scan_183 ?_
      refine r_ladd hE dX13_scan_184 ?_
      refine r_ldc2 (v := (48 : Int64)) hE dX13_scan_185 (gTb_9 (List.mem_of_getElem? (i := 48) rfl) rfl) ?_
      refine r_lsub hE dX13_scan_188 ?_
      refine r_goto hE 196 dX13_scan_189 (by decide) ?_
      refine r_pick [1, 2, 3, 0] rfl ?_
      exact km_scan_196 hE hm hl96 _ _ _ _ _ h
def wm_scan_149 (post : MS → Prop) (lp96 : MS → Int32 → Int32 → Int32 → Prop) (σ : MS) (v2 : Int32) (v3 : Int32) : Prop := wm_scan_150 post lp96 σ v2 v3 (0 : Int32)
set_option maxRecDepth 20000 in
theorem km_scan_149 {E : gEnv} {l : Launch} {D : va_G} {cl : List vw_C} {G : gAd} {post : MS → Prop} (hE : gOK E cX13_scan RX13 none 3) (hm : mOK E l D cl G (qV post) 5) {lp96 : MS → Int32 → Int32 → Int32 → Prop} (hl96 : ∀ (σ : MS) (v2 : Int32) (v3 : Int32) (v4 : Int32), lp96 σ v2 v3 v4 → GW E (mW G σ) 96 [(0, .ref (G.1 0)), (2, .int v2), (3, .int v3), (4, .int v4)] []) (σ : MS) (v2 : Int32) (v3 : Int32) (h : wm_scan_149 post lp96 σ v2 v3) : GW E (mW G σ) 149 [(0, .ref (G.1 0)), (2, .int v2), (3, .int v3)] [] := by
  unfold wm_scan_149 at h
  have hN := hm.2.2.2.2.2.1
  refine r_iconst (v := (0 : Int32)) hE dX13_scan_149 (by decide) ?_
  exact km_scan_150 hE hm hl96 _ _ _ _ h
def wm_scan_128 (post : MS → Prop) (lp96 : MS → Int32 → Int32 → Int32 → Prop) (σ : MS) (v2 : Int32) (v3 : Int32) (v4 : Int32) : Prop := ((v4 = (0 : Int32)) → (wm_scan_149 post lp96 σ v2 v3)) ∧ ((¬ (v4 = (0 : Int32))) → (vp_in v2 3000 ∧ (wm_isFigure (fun (s8 : MS) (r9 : Int32) => ((r9 = (0 : Int32)) → (wm_scan_149 post lp96 s8 v2 v3)) ∧ ((¬ (r9 = (0 : Int32))) → (wm_scan_150 post lp96 s8 v2 v3 (1 : Int32)))) σ (m_tape σ v2.toNatClampNeg))))
set_option maxRecDepth 20000 in
theorem km_scan_128 {E : gEnv} {l : Launch} {D : va_G} {cl : List vw_C} {G : gAd} {post : MS → Prop} (hE : gOK E cX13_scan RX13 none 3) (hm : mOK E l D cl G (qV post) 5) {lp96 : MS → Int32 → Int32 → Int32 → Prop} (hl96 : ∀ (σ : MS) (v2 : Int32) (v3 : Int32) (v4 : Int32), lp96 σ v2 v3 v4 → GW E (mW G σ) 96 [(0, .ref (G.1 0)), (2, .int v2), (3, .int v3), (4, .int v4)] []) (σ : MS) (v2 : Int32) (v3 : Int32) (v4 : Int32) (h : wm_scan_128 post lp96 σ v2 v3 v4) : GW E (mW G σ) 128 [(0, .ref (G.1 0)), (2, .int v2), (3, .int v3), (4, .int v4)] [] := by
  unfold wm_scan_128 at h
  have hN := hm.2.2.2.2.2.1
  refine r_iload hE 3 dX13_scan_128 rfl ?_
  refine r_if_eq hE 149 dX13_scan_130 (by decide) h (fun h => ?_) (fun h => ?_)
  · refine r_pick [0, 1, 2] rfl ?_
    exact km_scan_149 hE hm hl96 _ _ _ h
  · refine r_aload_n hE 0 dX13_scan_133 rfl rfl ?_
    refine mg_tape hE hm dX13_scan_134 ?_
    refine r_iload_n hE 1 dX13_scan_137 rfl rfl ?_
    obtain ⟨hi, h⟩ := h
    refine ml_tape hE hm dX13_scan_138 hi ?_
    refine m_callSi hE hm [.int (m_tape σ v2.toNatClampNeg)] [] mc_isFigure (km_isFigure hm.2.2.2.2.2.2.2 h) (by decide) rfl rfl (Nat.le_of_ble_eq_true rfl) dX13_scan_139 (fun s8 r9 h => ?_)
    refine r_if_eq hE 149 dX13_scan_142 (by decide) h (fun h => ?_) (fun h => ?_)
    · refine r_pick [0, 1, 2] rfl ?_
      exact km_scan_149 hE hm hl96 _ _ _ h
    · refine r_iconst (v := (1 : Int32)) hE dX13_scan_145 (by decide) ?_
      refine r_goto hE 150 dX13_scan_146 (by decide) ?_
      refine r_pick [0, 1, 2] rfl ?_
      exact km_scan_150 hE hm hl96 _ _ _ _ h
def wm_scan_96 (post : MS → Prop) : Nat → MS → Int32 → Int32 → Int32 → Prop
  | 0, _, _, _, _ => False
  | n + 1, σ, v2, v3, v4 => (((m_taped σ) ≤ v2) → (wm_scan_205 post σ v2 v3 v4)) ∧ ((¬ ((m_taped σ) ≤ v2)) → (vp_in v2 3000 ∧ (wm_isLetter (fun (s10 : MS) (r11 : Int32) => ((¬ (r11 = (0 : Int32))) → (wm_scan_128 post (wm_scan_96 post n) s10 v2 v3 v4)) ∧ ((r11 = (0 : Int32)) → (vp_in v2 3000 ∧ (wm_isFigure (fun (s12 : MS) (r13 : Int32) => ((r13 = (0 : Int32)) → (wm_scan_205 post s12 v2 v3 v4)) ∧ ((¬ (r13 = (0 : Int32))) → (wm_scan_128 post (wm_scan_96 post n) s12 v2 v3 v4))) s10 (m_tape s10 v2.toNatClampNeg))))) σ (m_tape σ v2.toNatClampNeg))))
set_option maxRecDepth 20000 in
theorem km_scan_96 {E : gEnv} {l : Launch} {D : va_G} {cl : List vw_C} {G : gAd} {post : MS → Prop} (hE : gOK E cX13_scan RX13 none 3) (hm : mOK E l D cl G (qV post) 5) : ∀ (n : Nat) (σ : MS) (v2 : Int32) (v3 : Int32) (v4 : Int32), wm_scan_96 post n σ v2 v3 v4 → GW E (mW G σ) 96 [(0, .ref (G.1 0)), (2, .int v2), (3, .int v3), (4, .int v4)] [] := by
  intro n
  induction n with
  | zero => intro σ v2 v3 v4 h; exact h.elim
  | succ n ih =>
    intro σ v2 v3 v4 h
    rw [wm_scan_96] at h
    have hN := hm.2.2.2.2.2.1
    refine r_iload_n hE 1 dX13_scan_96 rfl rfl ?_
    refine r_aload_n hE 0 dX13_scan_97 rfl rfl ?_
    refine mg_taped hE hm dX13_scan_98 ?_
    refine r_icmp_ge hE 205 dX13_scan_101 (by decide) h (fun h => ?_) (fun h => ?_)
    · exact km_scan_205 hE hm _ _ _ _ h
    · refine r_aload_n hE 0 dX13_scan_104 rfl rfl ?_
      refine mg_tape hE hm dX13_scan_105 ?_
      refine r_iload_n hE 1 dX13_scan_108 rfl rfl ?_
      obtain ⟨hi, h⟩ := h
      refine ml_tape hE hm dX13_scan_109 hi ?_
      refine m_callSi hE hm [.int (m_tape σ v2.toNatClampNeg)] [] mc_isLetter (km_isLetter hm.2.2.2.2.2.2.2 h) (by decide) rfl rfl (Nat.le_of_ble_eq_true rfl) dX13_scan_110 (fun s10 r11 h => ?_)
      refine r_if_ne hE 128 dX13_scan_113 (by decide) h (fun h => ?_) (fun h => ?_)
      · exact km_scan_128 hE hm ih _ _ _ _ h
      · refine r_aload_n hE 0 dX13_scan_116 rfl rfl ?_
        refine mg_tape hE hm dX13_scan_117 ?_
        refine r_iload_n hE 1 dX13_scan_120 rfl rfl ?_
        obtain ⟨hi, h⟩ := h
        refine ml_tape hE hm dX13_scan_121 hi ?_
        refine m_callSi hE hm [.int (m_tape s10 v2.toNatClampNeg)] [] mc_isFigure (km_isFigure hm.2.2.2.2.2.2.2 h) (by decide) rfl rfl (Nat.le_of_ble_eq_true rfl) dX13_scan_122 (fun s12 r13 h => ?_)
        refine r_if_eq hE 205 dX13_scan_125 (by decide) h (fun h => ?_) (fun h => ?_)
        · exact km_scan_205 hE hm _ _ _ _ h
        · exact km_scan_128 hE hm ih _ _ _ _ h
def wm_scan_88 (post : MS → Prop) (σ : MS) (v2 : Int32) (v3 : Int32) : Prop := ∀ s14 : MS, s14 = m_digits_s σ (0 : Int64) → ∃ n : Nat, wm_scan_96 post n s14 v2 v3 (1 : Int32)
set_option maxRecDepth 20000 in
theorem km_scan_88 {E : gEnv} {l : Launch} {D : va_G} {cl : List vw_C} {G : gAd} {post : MS → Prop} (hE : gOK E cX13_scan RX13 none 3) (hm : mOK E l D cl G (qV post) 5) (σ : MS) (v2 : Int32) (v3 : Int32) (h : wm_scan_88 post σ v2 v3) : GW E (mW G σ) 88 [(0, .ref (G.1 0)), (2, .int v2), (3, .int v3)] [] := by
  unfold wm_scan_88 at h
  have hN := hm.2.2.2.2.2.1
  refine r_iconst (v := (1 : Int32)) hE dX13_scan_88 (by decide) ?_
  refine r_istore hE [(4, .int (1 : Int32)), (0, .ref (G.1 0)), (2, .int v2), (3, .int v3)] dX13_scan_89 hN (by decide) rfl ?_
  refine r_aload_n hE 1 dX13_scan_91 rfl rfl ?_
  refine r_lconst (v := (0 : Int64)) hE dX13_scan_92 (by decide) ?_
  refine mp_digits hE hm dX13_scan_93 h (fun s14 h => ?_)
  refine r_pick [1, 2, 3, 0] rfl ?_
  obtain ⟨n, h⟩ := h
  exact km_scan_96 hE hm n _ _ _ _ h
def wm_scan_291 (post : MS → Prop) (σ : MS) (v2 : Int32) (t1 : Int32) : Prop := ∀ s15 : MS, s15 = m_token_s σ t1 → wm_scan_294 post s15 v2
set_option maxRecDepth 20000 in
theorem km_scan_291 {E : gEnv} {l : Launch} {D : va_G} {cl : List vw_C} {G : gAd} {post : MS → Prop} (hE : gOK E cX13_scan RX13 none 3) (hm : mOK E l D cl G (qV post) 5) (σ : MS) (v2 : Int32) (t1 : Int32) (h : wm_scan_291 post σ v2 t1) : GW E (mW G σ) 291 [(0, .ref (G.1 0)), (2, .int v2)] [.int t1, .ref (G.1 0)] := by
  unfold wm_scan_291 at h
  have hN := hm.2.2.2.2.2.1
  refine mp_token hE hm dX13_scan_291 h (fun s15 h => ?_)
  exact km_scan_294 hE hm _ _ h
def wm_scan_38 (post : MS → Prop) (σ : MS) (v2 : Int32) : Prop := ∀ s16 : MS, s16 = m_tokenAt_s σ v2 → ∀ s17 : MS, s17 = m_tokenSize_s s16 (0 : Int32) → ((¬ (v2 = (m_taped s17))) → (vp_in v2 3000 ∧ (∀ x18 : Int32, x18 = m_tape s17 v2.toNatClampNeg → wm_isLetter (fun (s19 : MS) (r20 : Int32) => ((¬ (r20 = (0 : Int32))) → (wm_scan_88 post s19 v2 x18)) ∧ ((r20 = (0 : Int32)) → (wm_isFigure (fun (s21 : MS) (r22 : Int32) => ((r22 = (0 : Int32)) → (∀ x23 : Int32, x23 = v2 + (1 : Int32) → ∀ s24 : MS, s24 = m_tokenSize_s s21 (1 : Int32) → ∀ s25 : MS, s25 = m_sign_s s24 x18 → wm_isSign (fun (s26 : MS) (r27 : Int32) => ((r27 = (0 : Int32)) → (wm_scan_291 post s26 x23 (4 : Int32))) ∧ ((¬ (r27 = (0 : Int32))) → (wm_scan_291 post s26 x23 (3 : Int32)))) s25 x18)) ∧ ((¬ (r22 = (0 : Int32))) → (wm_scan_88 post s21 v2 x18))) s19 x18))) s17 x18))) ∧ ((v2 = (m_taped s17)) → (∀ s28 : MS, s28 = m_token_s s17 (0 : Int32) → ∀ s29 : MS, s29 = m_at_s s28 v2 → post s29))
set_option maxRecDepth 20000 in
theorem km_scan_38 {E : gEnv} {l : Launch} {D : va_G} {cl : List vw_C} {G : gAd} {post : MS → Prop} (hE : gOK E cX13_scan RX13 none 3) (hm : mOK E l D cl G (qV post) 5) (σ : MS) (v2 : Int32) (h : wm_scan_38 post σ v2) : GW E (mW G σ) 38 [(0, .ref (G.1 0)), (2, .int v2)] [] := by
  unfold wm_scan_38 at h
  have hN := hm.2.2.2.2.2.1
  refine r_aload_n hE 0 dX13_scan_38 rfl rfl ?_
  refine r_iload_n hE 1 dX13_scan_39 rfl rfl ?_
  refine mp_tokenAt hE hm dX13_scan_40 h (fun s16 h => ?_)
  refine r_aload_n hE 0 dX13_scan_43 rfl rfl ?_
  refine r_iconst (v := (0 : Int32)) hE dX13_scan_44 (by decide) ?_
  refine mp_tokenSize hE hm dX13_scan_45 h (fun s17 h => ?_)
  refine r_iload_n hE 1 dX13_scan_48 rfl rfl ?_
  refine r_aload_n hE 0 dX13_scan_49 rfl rfl ?_
  refine mg_taped hE hm dX13_scan_50 ?_
  refine r_icmp_ne hE 67 dX13_scan_53 (by decide) h (fun h => ?_) (fun h => ?_)
  · refine r_aload_n hE 0 dX13_scan_67 rfl rfl ?_
    refine mg_tape hE hm dX13_scan_68 ?_
    refine r_iload_n hE 1 dX13_scan_71 rfl rfl ?_
    obtain ⟨hi, h⟩ := h
    refine ml_tape hE hm dX13_scan_72 hi ?_
    refine r_topi h (fun x18 ex18 h => ?_)
    refine r_istore_n hE [(3, .int x18), (0, .ref (G.1 0)), (2, .int v2)] dX13_scan_73 rfl hN (by decide) rfl ?_
    refine r_iload_n hE 0 dX13_scan_74 rfl rfl ?_
    refine m_callSi hE hm [.int x18] [] mc_isLetter (km_isLetter hm.2.2.2.2.2.2.2 h) (by decide) rfl rfl (Nat.le_of_ble_eq_true rfl) dX13_scan_75 (fun s19 r20 h => ?_)
    refine r_if_ne hE 88 dX13_scan_78 (by decide) h (fun h => ?_) (fun h => ?_)
    · refine r_pick [1, 2, 0] rfl ?_
      exact km_scan_88 hE hm _ _ _ h
    · refine r_iload_n hE 0 dX13_scan_81 rfl rfl ?_
      refine m_callSi hE hm [.int x18] [] mc_isFigure (km_isFigure hm.2.2.2.2.2.2.2 h) (by decide) rfl rfl (Nat.le_of_ble_eq_true rfl) dX13_scan_82 (fun s21 r22 h => ?_)
      refine r_if_eq hE 265 dX13_scan_85 (by decide) h (fun h => ?_) (fun h => ?_)
      · obtain ⟨x23, ex23⟩ : ∃ z : Int32, z = v2 + (1 : Int32) := ⟨_, rfl⟩
        have h := h x23 ex23
        refine r_iinc (v := x23) hE [(2, .int x23), (3, .int x18), (0, .ref (G.1 0))] 2 dX13_scan_265 rfl (by rw [ex23]; rfl) hN (by decide) rfl ?_
        refine r_aload_n hE 2 dX13_scan_268 rfl rfl ?_
        refine r_iconst (v := (1 : Int32)) hE dX13_scan_269 (by decide) ?_
        refine mp_tokenSize hE hm dX13_scan_270 h (fun s24 h => ?_)
        refine r_aload_n hE 2 dX13_scan_273 rfl rfl ?_
        refine r_iload_n hE 1 dX13_scan_274 rfl rfl ?_
        refine mp_sign hE hm dX13_scan_275 h (fun s25 h => ?_)
        refine r_aload_n hE 2 dX13_scan_278 rfl rfl ?_
        refine r_iload_n hE 1 dX13_scan_279 rfl rfl ?_
        refine m_callSi hE hm [.int x18] [.ref (G.1 0)] mc_isSign (km_isSign hm.2.2.2.2.2.2.2 h) (by decide) rfl rfl (Nat.le_of_ble_eq_true rfl) dX13_scan_280 (fun s26 r27 h => ?_)
        refine r_if_eq hE 290 dX13_scan_283 (by decide) h (fun h => ?_) (fun h => ?_)
        · refine r_iconst (v := (4 : Int32)) hE dX13_scan_290 (by decide) ?_
          refine r_pick [2, 0] rfl ?_
          exact km_scan_291 hE hm _ _ _ h
        · refine r_iconst (v := (3 : Int32)) hE dX13_scan_286 (by decide) ?_
          refine r_goto hE 291 dX13_scan_287 (by decide) ?_
          refine r_pick [2, 0] rfl ?_
          exact km_scan_291 hE hm _ _ _ h
      · refine r_pick [1, 2, 0] rfl ?_
        exact km_scan_88 hE hm _ _ _ h
  · refine r_aload_n hE 0 dX13_scan_56 rfl rfl ?_
    refine r_iconst (v := (0 : Int32)) hE dX13_scan_57 (by decide) ?_
    refine mp_token hE hm dX13_scan_58 h (fun s28 h => ?_)
    refine r_aload_n hE 0 dX13_scan_61 rfl rfl ?_
    refine r_iload_n hE 1 dX13_scan_62 rfl rfl ?_
    refine mp_at hE hm dX13_scan_63 h (fun s29 h => ?_)
    exact m_vret hE hm dX13_scan_66 h
def wm_scan_32 (post : MS → Prop) (lp2 : MS → Int32 → Prop) (σ : MS) (v2 : Int32) : Prop := ∀ x30 : Int32, x30 = v2 + (1 : Int32) → lp2 σ x30
set_option maxRecDepth 20000 in
theorem km_scan_32 {E : gEnv} {l : Launch} {D : va_G} {cl : List vw_C} {G : gAd} {post : MS → Prop} (hE : gOK E cX13_scan RX13 none 3) (hm : mOK E l D cl G (qV post) 5) {lp2 : MS → Int32 → Prop} (hl2 : ∀ (σ : MS) (v2 : Int32), lp2 σ v2 → GW E (mW G σ) 2 [(0, .ref (G.1 0)), (2, .int v2)] []) (σ : MS) (v2 : Int32) (h : wm_scan_32 post lp2 σ v2) : GW E (mW G σ) 32 [(0, .ref (G.1 0)), (2, .int v2)] [] := by
  unfold wm_scan_32 at h
  have hN := hm.2.2.2.2.2.1
  obtain ⟨x30, ex30⟩ : ∃ z : Int32, z = v2 + (1 : Int32) := ⟨_, rfl⟩
  have h := h x30 ex30
  refine r_iinc (v := x30) hE [(2, .int x30), (0, .ref (G.1 0))] 1 dX13_scan_32 rfl (by rw [ex30]; rfl) hN (by decide) rfl ?_
  refine r_goto hE 2 dX13_scan_35 (by decide) ?_
  refine r_pick [1, 0] rfl ?_
  exact hl2 _ _ h
def wm_scan_2 (post : MS → Prop) : Nat → MS → Int32 → Prop
  | 0, _, _ => False
  | n + 1, σ, v2 => (((m_taped σ) ≤ v2) → (wm_scan_38 post σ v2)) ∧ ((¬ ((m_taped σ) ≤ v2)) → (vp_in v2 3000 ∧ ((((m_tape σ v2.toNatClampNeg) = (32 : Int32)) → (wm_scan_32 post (wm_scan_2 post n) σ v2)) ∧ ((¬ ((m_tape σ v2.toNatClampNeg) = (32 : Int32))) → (vp_in v2 3000 ∧ (((¬ ((m_tape σ v2.toNatClampNeg) = (10 : Int32))) → (wm_scan_38 post σ v2)) ∧ (((m_tape σ v2.toNatClampNeg) = (10 : Int32)) → (wm_scan_32 post (wm_scan_2 post n) σ v2))))))))
set_option maxRecDepth 20000 in
theorem km_scan_2 {E : gEnv} {l : Launch} {D : va_G} {cl : List vw_C} {G : gAd} {post : MS → Prop} (hE : gOK E cX13_scan RX13 none 3) (hm : mOK E l D cl G (qV post) 5) : ∀ (n : Nat) (σ : MS) (v2 : Int32), wm_scan_2 post n σ v2 → GW E (mW G σ) 2 [(0, .ref (G.1 0)), (2, .int v2)] [] := by
  intro n
  induction n with
  | zero => intro σ v2 h; exact h.elim
  | succ n ih =>
    intro σ v2 h
    rw [wm_scan_2] at h
    have hN := hm.2.2.2.2.2.1
    refine r_iload_n hE 1 dX13_scan_2 rfl rfl ?_
    refine r_aload_n hE 0 dX13_scan_3 rfl rfl ?_
    refine mg_taped hE hm dX13_scan_4 ?_
    refine r_icmp_ge hE 38 dX13_scan_7 (by decide) h (fun h => ?_) (fun h => ?_)
    · exact km_scan_38 hE hm _ _ h
    · refine r_aload_n hE 0 dX13_scan_10 rfl rfl ?_
      refine mg_tape hE hm dX13_scan_11 ?_
      refine r_iload_n hE 1 dX13_scan_14 rfl rfl ?_
      obtain ⟨hi, h⟩ := h
      refine ml_tape hE hm dX13_scan_15 hi ?_
      refine r_bipush (v := (32 : Int32)) hE dX13_scan_16 (by decide) ?_
      refine r_icmp_eq hE 32 dX13_scan_18 (by decide) h (fun h => ?_) (fun h => ?_)
      · exact km_scan_32 hE hm ih _ _ h
      · refine r_aload_n hE 0 dX13_scan_21 rfl rfl ?_
        refine mg_tape hE hm dX13_scan_22 ?_
        refine r_iload_n hE 1 dX13_scan_25 rfl rfl ?_
        obtain ⟨hi, h⟩ := h
        refine ml_tape hE hm dX13_scan_26 hi ?_
        refine r_bipush (v := (10 : Int32)) hE dX13_scan_27 (by decide) ?_
        refine r_icmp_ne hE 38 dX13_scan_29 (by decide) h (fun h => ?_) (fun h => ?_)
        · exact km_scan_38 hE hm _ _ h
        · exact km_scan_32 hE hm ih _ _ h
def wm_scan (post : MS → Prop) (σ : MS) (a1 : Int32) : Prop := ∃ n : Nat, wm_scan_2 post n σ a1
set_option maxRecDepth 20000 in
theorem km_scan {l : Launch} {D : va_G} {cl : List vw_C} {G : gAd} {post : MS → Prop} (hcl : mC cl) {σ : MS} {a1 : Int32} (h : wm_scan post σ a1) : mMet l D cl G yX13_scan cX13_scan 5 none 3 [.ref (G.1 0), .int a1] σ (qV post) := by
  unfold wm_scan at h
  refine m_enter hcl (by decide +kernel) rfl [(0, .ref (G.1 0)), (1, .int a1)] rfl (Nat.le_of_ble_eq_true rfl) ?_
  intro E hE hm
  have hN := hm.2.2.2.2.2.1
  refine r_iload_n hE 1 dX13_scan_0 rfl rfl ?_
  refine r_istore_n hE [(2, .int a1), (0, .ref (G.1 0)), (1, .int a1)] dX13_scan_1 rfl hN (by decide) rfl ?_
  refine r_pick [1, 0] rfl ?_
  obtain ⟨n, h⟩ := h
  exact km_scan_2 hE hm n _ _ h
