/-! thrown -/
def wm_thrown (post : MS → Int32 → Prop) (σ : MS) : Prop := post σ (m_code σ)
set_option maxRecDepth 20000 in
theorem km_thrown {l : Launch} {D : va_G} {cl : List vw_C} {G : gAd} {post : MS → Int32 → Prop} (hcl : mC cl) {σ : MS} (h : wm_thrown post σ) : mMet l D cl G yX13_thrown cX13_thrown 1 (some .int) 1 [.ref (G.1 0)] σ (qI post) := by
  unfold wm_thrown at h
  refine m_enter hcl (by decide +kernel) rfl [(0, .ref (G.1 0))] rfl (Nat.le_of_ble_eq_true rfl) ?_
  intro E hE hm hF
  have hN := hm.2.2.2.2.2.2.1
  refine r_aload_n hE 0 dX13_thrown_g0.1 rfl rfl ?_
  refine mg_code hE hm dX13_thrown_g0.2.1 ?_
  exact m_iret hE hm hF dX13_thrown_g0.2.2 h
/-! in -/
def wm_in (post : MS → Int32 → Prop) (σ : MS) (a0 : Int64) (a2 : Int64) (a4 : Int64) : Prop := (((lg_cmp a0 a2) < (0 : Int32)) → (post σ (0 : Int32))) ∧ ((¬ ((lg_cmp a0 a2) < (0 : Int32))) → ((((0 : Int32) < (lg_cmp a0 a4)) → (post σ (0 : Int32))) ∧ ((¬ ((0 : Int32) < (lg_cmp a0 a4))) → (post σ (1 : Int32)))))
set_option maxRecDepth 20000 in
theorem km_in {l : Launch} {D : va_G} {cl : List vw_C} {G : gAd} {post : MS → Int32 → Prop} (hcl : mC cl) {σ : MS} {a0 : Int64} {a2 : Int64} {a4 : Int64} (h : wm_in post σ a0 a2 a4) : mMet l D cl G yX13_in cX13_in 6 (some .boolean) 1 [.long a0, .long a2, .long a4] σ (qI post) := by
  unfold wm_in at h
  refine m_enter hcl (by decide +kernel) rfl [(0, .long a0), (2, .long a2), (4, .long a4)] rfl (Nat.le_of_ble_eq_true rfl) ?_
  intro E hE hm hF
  have hN := hm.2.2.2.2.2.2.1
  refine r_lload_n hE 0 dX13_in_g0.1 rfl rfl ?_
  refine r_lload_n hE 1 dX13_in_g0.2.1 rfl rfl ?_
  refine r_lcmp hE dX13_in_g0.2.2.1 ?_
  refine r_if_lt hE 17 dX13_in_g0.2.2.2.1 (by decide) h (fun h => ?_) (fun h => ?_)
  · refine r_iconst (v := (0 : Int32)) hE dX13_in_g0.2.2.2.2.2.2.2.2.2.2.1 (by decide) ?_
    exact m_zret hE hm hF dX13_in_g0.2.2.2.2.2.2.2.2.2.2.2 (Or.inl rfl) h
  · refine r_lload_n hE 0 dX13_in_g0.2.2.2.2.1 rfl rfl ?_
    refine r_lload hE 2 dX13_in_g0.2.2.2.2.2.1 rfl ?_
    refine r_lcmp hE dX13_in_g0.2.2.2.2.2.2.1 ?_
    refine r_if_gt hE 17 dX13_in_g0.2.2.2.2.2.2.2.1 (by decide) h (fun h => ?_) (fun h => ?_)
    · refine r_iconst (v := (0 : Int32)) hE dX13_in_g0.2.2.2.2.2.2.2.2.2.2.1 (by decide) ?_
      exact m_zret hE hm hF dX13_in_g0.2.2.2.2.2.2.2.2.2.2.2 (Or.inl rfl) h
    · refine r_iconst (v := (1 : Int32)) hE dX13_in_g0.2.2.2.2.2.2.2.2.1 (by decide) ?_
      refine r_goto hE 18 dX13_in_g0.2.2.2.2.2.2.2.2.2.1 (by decide) ?_
      exact m_zret hE hm hF dX13_in_g0.2.2.2.2.2.2.2.2.2.2.2 (Or.inr rfl) h
/-! four -/
def wm_four_2 (post : MS → Prop) : Nat → MS → Int32 → Int32 → Prop
  | 0, _, _, _ => False
  | n + 1, σ, v1, v2 => ((v2 < (0 : Int32)) → (post σ)) ∧ ((¬ (v2 < (0 : Int32))) → (vp_in (m_taped σ) 3000 ∧ (∀ s1 : MS, s1 = m_tape_s σ (m_taped σ).toNatClampNeg (((v1 >>> (((8 : Int32) * v2) &&& 31)).toInt8.toInt32).toInt8.toInt32) → ∀ s2 : MS, s2 = m_taped_s s1 ((m_taped s1) + (1 : Int32)) → ∀ x3 : Int32, x3 = v2 + (-1 : Int32) → wm_four_2 post n s2 v1 x3)))
set_option maxRecDepth 20000 in
theorem km_four_2 {E : gEnv} {l : Launch} {D : va_G} {cl : List vw_C} {G : gAd} {post : MS → Prop} (hE : gOK E cX13_four RX13 none 1) (hm : mOK E l D cl G (qV post) 3) (hF : gFin E) : ∀ (n : Nat) (σ : MS) (v1 : Int32) (v2 : Int32), wm_four_2 post n σ v1 v2 → GW E (mW G σ) 2 [(0, .ref (G.1 0)), (1, .int v1), (2, .int v2)] [] := by
  intro n
  induction n with
  | zero => intro σ v1 v2 h; exact h.elim
  | succ n ih =>
    intro σ v1 v2 h
    rw [wm_four_2] at h
    have hN := hm.2.2.2.2.2.2.1
    refine r_iload_n hE 2 dX13_four_g0.2.2.1 rfl rfl ?_
    refine r_if_lt hE 38 dX13_four_g0.2.2.2.1 (by decide) h (fun h => ?_) (fun h => ?_)
    · exact m_vret hE hm hF dX13_four_g1.2.2.2.2.2.2.2 h
    · refine r_aload_n hE 0 dX13_four_g0.2.2.2.2.1 rfl rfl ?_
      refine mg_tape hE hm dX13_four_g0.2.2.2.2.2.1 ?_
      refine r_aload_n hE 0 dX13_four_g0.2.2.2.2.2.2.1 rfl rfl ?_
      refine mg_taped hE hm dX13_four_g0.2.2.2.2.2.2.2.1 ?_
      refine r_iload_n hE 1 dX13_four_g0.2.2.2.2.2.2.2.2.1 rfl rfl ?_
      refine r_bipush (v := (8 : Int32)) hE dX13_four_g0.2.2.2.2.2.2.2.2.2.1 (by decide) ?_
      refine r_iload_n hE 2 dX13_four_g0.2.2.2.2.2.2.2.2.2.2.1 rfl rfl ?_
      refine r_imul hE dX13_four_g0.2.2.2.2.2.2.2.2.2.2.2.1 ?_
      refine r_ishr hE dX13_four_g0.2.2.2.2.2.2.2.2.2.2.2.2.1 ?_
      refine r_i2b hE dX13_four_g0.2.2.2.2.2.2.2.2.2.2.2.2.2.1 ?_
      obtain ⟨hi, h⟩ := h
      refine ms_tape hE hm dX13_four_g0.2.2.2.2.2.2.2.2.2.2.2.2.2.2.1 hi h (fun s1 h => ?_)
      refine r_aload_n hE 0 dX13_four_g0.2.2.2.2.2.2.2.2.2.2.2.2.2.2.2 rfl rfl ?_
      refine r_dup hE dX13_four_g1.1 rfl ?_
      refine mg_taped hE hm dX13_four_g1.2.1 ?_
      refine r_iconst (v := (1 : Int32)) hE dX13_four_g1.2.2.1 (by decide) ?_
      refine r_iadd hE dX13_four_g1.2.2.2.1 ?_
      refine mp_taped hE hm dX13_four_g1.2.2.2.2.1 h (fun s2 h => ?_)
      obtain ⟨x3, ex3⟩ : ∃ z : Int32, z = v2 + (-1 : Int32) := ⟨_, rfl⟩
      have h := h x3 ex3
      refine r_iinc (v := x3) hE [(2, .int x3), (0, .ref (G.1 0)), (1, .int v1)] 2 dX13_four_g1.2.2.2.2.2.1 rfl (by rw [ex3]; rfl) hN (by decide) rfl ?_
      refine r_goto hE 2 dX13_four_g1.2.2.2.2.2.2.1 (by decide) ?_
      refine r_pick [1, 2, 0] rfl ?_
      exact ih _ _ _ h
def wm_four (post : MS → Prop) (σ : MS) (a1 : Int32) : Prop := ∃ k : Nat, wm_four_2 post k σ a1 (3 : Int32)
set_option maxRecDepth 20000 in
theorem km_four {l : Launch} {D : va_G} {cl : List vw_C} {G : gAd} {post : MS → Prop} (hcl : mC cl) {σ : MS} {a1 : Int32} (h : wm_four post σ a1) : mMet l D cl G yX13_four cX13_four 3 none 1 [.ref (G.1 0), .int a1] σ (qV post) := by
  unfold wm_four at h
  refine m_enter hcl (by decide +kernel) rfl [(0, .ref (G.1 0)), (1, .int a1)] rfl (Nat.le_of_ble_eq_true rfl) ?_
  intro E hE hm hF
  have hN := hm.2.2.2.2.2.2.1
  refine r_iconst (v := (3 : Int32)) hE dX13_four_g0.1 (by decide) ?_
  refine r_istore_n hE [(2, .int (3 : Int32)), (0, .ref (G.1 0)), (1, .int a1)] dX13_four_g0.2.1 rfl hN (by decide) rfl ?_
  refine r_pick [1, 2, 0] rfl ?_
  obtain ⟨k, h⟩ := h
  exact km_four_2 hE hm hF k _ _ _ h
/-! feed -/
def wm_feed (post : MS → Int32 → Prop) (σ : MS) (a1 : Int32) (a2 : Int32) (a3 : Int32) (a4 : Int32) (a5 : Int32) : Prop := ∀ s1 : MS, s1 = m_code_s σ (0 : Int32) → ((((m_taped s1) + (20 : Int32)) ≤ (3000 : Int32)) → (wm_four (fun (s2 : MS) => wm_four (fun (s3 : MS) => wm_four (fun (s4 : MS) => wm_four (fun (s5 : MS) => wm_four (fun (s6 : MS) => post s6 (m_taped s6)) s5 a5) s4 a4) s3 a3) s2 a2) s1 a1)) ∧ ((¬ (((m_taped s1) + (20 : Int32)) ≤ (3000 : Int32))) → (post s1 (-2000000003 : Int32)))
set_option maxRecDepth 20000 in
theorem km_feed {l : Launch} {D : va_G} {cl : List vw_C} {G : gAd} {post : MS → Int32 → Prop} (hcl : mC cl) {σ : MS} {a1 : Int32} {a2 : Int32} {a3 : Int32} {a4 : Int32} {a5 : Int32} (h : wm_feed post σ a1 a2 a3 a4 a5) : mMet l D cl G yX13_feed cX13_feed 6 (some .int) 2 [.ref (G.1 0), .int a1, .int a2, .int a3, .int a4, .int a5] σ (qI post) := by
  unfold wm_feed at h
  refine m_enter hcl (by decide +kernel) rfl [(0, .ref (G.1 0)), (1, .int a1), (2, .int a2), (3, .int a3), (4, .int a4), (5, .int a5)] rfl (Nat.le_of_ble_eq_true rfl) ?_
  intro E hE hm hF
  have hN := hm.2.2.2.2.2.2.1
  refine r_aload_n hE 0 dX13_feed_g0.1 rfl rfl ?_
  refine r_iconst (v := (0 : Int32)) hE dX13_feed_g0.2.1 (by decide) ?_
  refine mp_code hE hm dX13_feed_g0.2.2.1 h (fun s1 h => ?_)
  refine r_aload_n hE 0 dX13_feed_g0.2.2.2.1 rfl rfl ?_
  refine mg_taped hE hm dX13_feed_g0.2.2.2.2.1 ?_
  refine r_bipush (v := (20 : Int32)) hE dX13_feed_g0.2.2.2.2.2.1 (by decide) ?_
  refine r_iadd hE dX13_feed_g0.2.2.2.2.2.2.1 ?_
  refine r_sipush (v := (3000 : Int32)) hE dX13_feed_g0.2.2.2.2.2.2.2.1 (by decide) ?_
  refine r_icmp_le hE 21 dX13_feed_g0.2.2.2.2.2.2.2.2.1 (by decide) h (fun h => ?_) (fun h => ?_)
  · refine r_aload_n hE 0 dX13_feed_g0.2.2.2.2.2.2.2.2.2.2.2.1 rfl rfl ?_
    refine r_iload_n hE 1 dX13_feed_g0.2.2.2.2.2.2.2.2.2.2.2.2.1 rfl rfl ?_
    refine m_callVv hE hm [.int a1] [] mc_four (km_four hm.2.2.2.2.2.2.2.2 h) (by decide) rfl rfl (Nat.le_of_ble_eq_true rfl) dX13_feed_g0.2.2.2.2.2.2.2.2.2.2.2.2.2.1 (fun s2 h => ?_)
    refine r_aload_n hE 0 dX13_feed_g0.2.2.2.2.2.2.2.2.2.2.2.2.2.2.1 rfl rfl ?_
    refine r_iload_n hE 2 dX13_feed_g0.2.2.2.2.2.2.2.2.2.2.2.2.2.2.2 rfl rfl ?_
    refine m_callVv hE hm [.int a2] [] mc_four (km_four hm.2.2.2.2.2.2.2.2 h) (by decide) rfl rfl (Nat.le_of_ble_eq_true rfl) dX13_feed_g1.1 (fun s3 h => ?_)
    refine r_aload_n hE 0 dX13_feed_g1.2.1 rfl rfl ?_
    refine r_iload_n hE 3 dX13_feed_g1.2.2.1 rfl rfl ?_
    refine m_callVv hE hm [.int a3] [] mc_four (km_four hm.2.2.2.2.2.2.2.2 h) (by decide) rfl rfl (Nat.le_of_ble_eq_true rfl) dX13_feed_g1.2.2.2.1 (fun s4 h => ?_)
    refine r_aload_n hE 0 dX13_feed_g1.2.2.2.2.1 rfl rfl ?_
    refine r_iload hE 4 dX13_feed_g1.2.2.2.2.2.1 rfl ?_
    refine m_callVv hE hm [.int a4] [] mc_four (km_four hm.2.2.2.2.2.2.2.2 h) (by decide) rfl rfl (Nat.le_of_ble_eq_true rfl) dX13_feed_g1.2.2.2.2.2.2.1 (fun s5 h => ?_)
    refine r_aload_n hE 0 dX13_feed_g1.2.2.2.2.2.2.2.1 rfl rfl ?_
    refine r_iload hE 5 dX13_feed_g1.2.2.2.2.2.2.2.2.1 rfl ?_
    refine m_callVv hE hm [.int a5] [] mc_four (km_four hm.2.2.2.2.2.2.2.2 h) (by decide) rfl rfl (Nat.le_of_ble_eq_true rfl) dX13_feed_g1.2.2.2.2.2.2.2.2.2.1 (fun s6 h => ?_)
    refine r_aload_n hE 0 dX13_feed_g1.2.2.2.2.2.2.2.2.2.2.1 rfl rfl ?_
    refine mg_taped hE hm dX13_feed_g1.2.2.2.2.2.2.2.2.2.2.2.1 ?_
    exact m_iret hE hm hF dX13_feed_g1.2.2.2.2.2.2.2.2.2.2.2.2 h
  · refine r_ldc (v := (-2000000003 : Int32)) hE dX13_feed_g0.2.2.2.2.2.2.2.2.2.1 (gTb_9 (List.mem_of_getElem? (i := 19) rfl) rfl) ?_
    exact m_iret hE hm hF dX13_feed_g0.2.2.2.2.2.2.2.2.2.2.1 h
/-! cut -/
def wm_cut (post : MS → Int32 → Prop) (σ : MS) (a1 : Int32) : Prop := ∀ s1 : MS, s1 = m_code_s σ (0 : Int32) → wm_in (fun (s2 : MS) (r3 : Int32) => ((¬ (r3 = (0 : Int32))) → (∀ x4 : Int32, x4 = (m_taped s2) - a1 → ∀ s5 : MS, s5 = m_taped_s s2 a1 → post s5 x4)) ∧ ((r3 = (0 : Int32)) → (post s2 (-2000000002 : Int32)))) s1 (a1.toInt64) (0 : Int64) ((m_taped s1).toInt64)
set_option maxRecDepth 20000 in
theorem km_cut {l : Launch} {D : va_G} {cl : List vw_C} {G : gAd} {post : MS → Int32 → Prop} (hcl : mC cl) {σ : MS} {a1 : Int32} (h : wm_cut post σ a1) : mMet l D cl G yX13_cut cX13_cut 3 (some .int) 2 [.ref (G.1 0), .int a1] σ (qI post) := by
  unfold wm_cut at h
  refine m_enter hcl (by decide +kernel) rfl [(0, .ref (G.1 0)), (1, .int a1)] rfl (Nat.le_of_ble_eq_true rfl) ?_
  intro E hE hm hF
  have hN := hm.2.2.2.2.2.2.1
  refine r_aload_n hE 0 dX13_cut_g0.1 rfl rfl ?_
  refine r_iconst (v := (0 : Int32)) hE dX13_cut_g0.2.1 (by decide) ?_
  refine mp_code hE hm dX13_cut_g0.2.2.1 h (fun s1 h => ?_)
  refine r_iload_n hE 1 dX13_cut_g0.2.2.2.1 rfl rfl ?_
  refine r_i2l hE dX13_cut_g0.2.2.2.2.1 ?_
  refine r_lconst (v := (0 : Int64)) hE dX13_cut_g0.2.2.2.2.2.1 (by decide) ?_
  refine r_aload_n hE 0 dX13_cut_g0.2.2.2.2.2.2.1 rfl rfl ?_
  refine mg_taped hE hm dX13_cut_g0.2.2.2.2.2.2.2.1 ?_
  refine r_i2l hE dX13_cut_g0.2.2.2.2.2.2.2.2.1 ?_
  refine m_callSi hE hm [.long (a1.toInt64), .long (0 : Int64), .long ((m_taped s1).toInt64)] [] mc_in (km_in hm.2.2.2.2.2.2.2.2 h) (by decide) rfl rfl (Nat.le_of_ble_eq_true rfl) dX13_cut_g0.2.2.2.2.2.2.2.2.2.1 (fun s2 r3 h => ?_)
  refine r_if_ne hE 22 dX13_cut_g0.2.2.2.2.2.2.2.2.2.2.1 (by decide) h (fun h => ?_) (fun h => ?_)
  · refine r_aload_n hE 0 dX13_cut_g0.2.2.2.2.2.2.2.2.2.2.2.2.2.1 rfl rfl ?_
    refine mg_taped hE hm dX13_cut_g0.2.2.2.2.2.2.2.2.2.2.2.2.2.2.1 ?_
    refine r_iload_n hE 1 dX13_cut_g0.2.2.2.2.2.2.2.2.2.2.2.2.2.2.2 rfl rfl ?_
    refine r_isub hE dX13_cut_g1.1 ?_
    refine r_topi h (fun x4 ex4 h => ?_)
    refine r_istore_n hE [(2, .int x4), (0, .ref (G.1 0)), (1, .int a1)] dX13_cut_g1.2.1 rfl hN (by decide) rfl ?_
    refine r_aload_n hE 1 dX13_cut_g1.2.2.1 rfl rfl ?_
    refine r_iload_n hE 2 dX13_cut_g1.2.2.2.1 rfl rfl ?_
    refine mp_taped hE hm dX13_cut_g1.2.2.2.2.1 h (fun s5 h => ?_)
    refine r_iload_n hE 0 dX13_cut_g1.2.2.2.2.2.1 rfl rfl ?_
    exact m_iret hE hm hF dX13_cut_g1.2.2.2.2.2.2 h
  · refine r_ldc (v := (-2000000002 : Int32)) hE dX13_cut_g0.2.2.2.2.2.2.2.2.2.2.2.1 (gTb_9 (List.mem_of_getElem? (i := 31) rfl) rfl) ?_
    exact m_iret hE hm hF dX13_cut_g0.2.2.2.2.2.2.2.2.2.2.2.2.1 h
/-! isLetter -/
def wm_isLetter (post : MS → Int32 → Prop) (σ : MS) (a0 : Int32) : Prop := wm_in (fun (s1 : MS) (r2 : Int32) => isB r2 ∧ (post s1 r2)) σ (a0.toInt64) (97 : Int64) (122 : Int64)
set_option maxRecDepth 20000 in
theorem km_isLetter {l : Launch} {D : va_G} {cl : List vw_C} {G : gAd} {post : MS → Int32 → Prop} (hcl : mC cl) {σ : MS} {a0 : Int32} (h : wm_isLetter post σ a0) : mMet l D cl G yX13_isLetter cX13_isLetter 1 (some .boolean) 2 [.int a0] σ (qI post) := by
  unfold wm_isLetter at h
  refine m_enter hcl (by decide +kernel) rfl [(0, .int a0)] rfl (Nat.le_of_ble_eq_true rfl) ?_
  intro E hE hm hF
  have hN := hm.2.2.2.2.2.2.1
  refine r_iload_n hE 0 dX13_isLetter_g0.1 rfl rfl ?_
  refine r_i2l hE dX13_isLetter_g0.2.1 ?_
  refine r_ldc2 (v := (97 : Int64)) hE dX13_isLetter_g0.2.2.1 (gTb_9 (List.mem_of_getElem? (i := 43) rfl) rfl) ?_
  refine r_ldc2 (v := (122 : Int64)) hE dX13_isLetter_g0.2.2.2.1 (gTb_9 (List.mem_of_getElem? (i := 44) rfl) rfl) ?_
  refine m_callSi hE hm [.long (a0.toInt64), .long (97 : Int64), .long (122 : Int64)] [] mc_in (km_in hm.2.2.2.2.2.2.2.2 h) (by decide) rfl rfl (Nat.le_of_ble_eq_true rfl) dX13_isLetter_g0.2.2.2.2.1 (fun s1 r2 h => ?_)
  obtain ⟨hb, h⟩ := h
  exact m_zret hE hm hF dX13_isLetter_g0.2.2.2.2.2 hb h
/-! isFigure -/
def wm_isFigure (post : MS → Int32 → Prop) (σ : MS) (a0 : Int32) : Prop := wm_in (fun (s1 : MS) (r2 : Int32) => isB r2 ∧ (post s1 r2)) σ (a0.toInt64) (48 : Int64) (57 : Int64)
set_option maxRecDepth 20000 in
theorem km_isFigure {l : Launch} {D : va_G} {cl : List vw_C} {G : gAd} {post : MS → Int32 → Prop} (hcl : mC cl) {σ : MS} {a0 : Int32} (h : wm_isFigure post σ a0) : mMet l D cl G yX13_isFigure cX13_isFigure 1 (some .boolean) 2 [.int a0] σ (qI post) := by
  unfold wm_isFigure at h
  refine m_enter hcl (by decide +kernel) rfl [(0, .int a0)] rfl (Nat.le_of_ble_eq_true rfl) ?_
  intro E hE hm hF
  have hN := hm.2.2.2.2.2.2.1
  refine r_iload_n hE 0 dX13_isFigure_g0.1 rfl rfl ?_
  refine r_i2l hE dX13_isFigure_g0.2.1 ?_
  refine r_ldc2 (v := (48 : Int64)) hE dX13_isFigure_g0.2.2.1 (gTb_9 (List.mem_of_getElem? (i := 48) rfl) rfl) ?_
  refine r_ldc2 (v := (57 : Int64)) hE dX13_isFigure_g0.2.2.2.1 (gTb_9 (List.mem_of_getElem? (i := 49) rfl) rfl) ?_
  refine m_callSi hE hm [.long (a0.toInt64), .long (48 : Int64), .long (57 : Int64)] [] mc_in (km_in hm.2.2.2.2.2.2.2.2 h) (by decide) rfl rfl (Nat.le_of_ble_eq_true rfl) dX13_isFigure_g0.2.2.2.2.1 (fun s1 r2 h => ?_)
  obtain ⟨hb, h⟩ := h
  exact m_zret hE hm hF dX13_isFigure_g0.2.2.2.2.2 hb h
/-! isSign -/
def wm_isSign_84 (post : MS → Int32 → Prop) (σ : MS) : Prop := post σ (1 : Int32)
set_option maxRecDepth 20000 in
theorem km_isSign_84 {E : gEnv} {l : Launch} {D : va_G} {cl : List vw_C} {G : gAd} {post : MS → Int32 → Prop} (hE : gOK E cX13_isSign RX13 (some .boolean) 1) (hm : mOK E l D cl G (qI post) 1) (hF : gFin E) (σ : MS) (h : wm_isSign_84 post σ) : GW E (mW G σ) 84 [] [] := by
  unfold wm_isSign_84 at h
  have hN := hm.2.2.2.2.2.2.1
  refine r_iconst (v := (1 : Int32)) hE dX13_isSign_g2.2.2.2.2.2.2.2.2.2.2.1 (by decide) ?_
  refine r_goto hE 89 dX13_isSign_g2.2.2.2.2.2.2.2.2.2.2.2.1 (by decide) ?_
  exact m_zret hE hm hF dX13_isSign_g2.2.2.2.2.2.2.2.2.2.2.2.2.2 (Or.inr rfl) h
def wm_isSign (post : MS → Int32 → Prop) (σ : MS) (a0 : Int32) : Prop := ((a0 = (59 : Int32)) → (wm_isSign_84 post σ)) ∧ ((¬ (a0 = (59 : Int32))) → (((a0 = (44 : Int32)) → (wm_isSign_84 post σ)) ∧ ((¬ (a0 = (44 : Int32))) → (((a0 = (61 : Int32)) → (wm_isSign_84 post σ)) ∧ ((¬ (a0 = (61 : Int32))) → (((a0 = (60 : Int32)) → (wm_isSign_84 post σ)) ∧ ((¬ (a0 = (60 : Int32))) → (((a0 = (43 : Int32)) → (wm_isSign_84 post σ)) ∧ ((¬ (a0 = (43 : Int32))) → (((a0 = (45 : Int32)) → (wm_isSign_84 post σ)) ∧ ((¬ (a0 = (45 : Int32))) → (((a0 = (42 : Int32)) → (wm_isSign_84 post σ)) ∧ ((¬ (a0 = (42 : Int32))) → (((a0 = (47 : Int32)) → (wm_isSign_84 post σ)) ∧ ((¬ (a0 = (47 : Int32))) → (((a0 = (40 : Int32)) → (wm_isSign_84 post σ)) ∧ ((¬ (a0 = (40 : Int32))) → (((a0 = (41 : Int32)) → (wm_isSign_84 post σ)) ∧ ((¬ (a0 = (41 : Int32))) → (((a0 = (91 : Int32)) → (wm_isSign_84 post σ)) ∧ ((¬ (a0 = (91 : Int32))) → (((a0 = (93 : Int32)) → (wm_isSign_84 post σ)) ∧ ((¬ (a0 = (93 : Int32))) → (((a0 = (123 : Int32)) → (wm_isSign_84 post σ)) ∧ ((¬ (a0 = (123 : Int32))) → (((¬ (a0 = (125 : Int32))) → (post σ (0 : Int32))) ∧ ((a0 = (125 : Int32)) → (wm_isSign_84 post σ))))))))))))))))))))))))))))
set_option maxRecDepth 20000 in
theorem km_isSign {l : Launch} {D : va_G} {cl : List vw_C} {G : gAd} {post : MS → Int32 → Prop} (hcl : mC cl) {σ : MS} {a0 : Int32} (h : wm_isSign post σ a0) : mMet l D cl G yX13_isSign cX13_isSign 1 (some .boolean) 1 [.int a0] σ (qI post) := by
  unfold wm_isSign at h
  refine m_enter hcl (by decide +kernel) rfl [(0, .int a0)] rfl (Nat.le_of_ble_eq_true rfl) ?_
  intro E hE hm hF
  have hN := hm.2.2.2.2.2.2.1
  refine r_iload_n hE 0 dX13_isSign_g0.1 rfl rfl ?_
  refine r_bipush (v := (59 : Int32)) hE dX13_isSign_g0.2.1 (by decide) ?_
  refine r_icmp_eq hE 84 dX13_isSign_g0.2.2.1 (by decide) h (fun h => ?_) (fun h => ?_)
  · refine r_pick [] rfl ?_
    exact km_isSign_84 hE hm hF _ h
  · refine r_iload_n hE 0 dX13_isSign_g0.2.2.2.1 rfl rfl ?_
    refine r_bipush (v := (44 : Int32)) hE dX13_isSign_g0.2.2.2.2.1 (by decide) ?_
    refine r_icmp_eq hE 84 dX13_isSign_g0.2.2.2.2.2.1 (by decide) h (fun h => ?_) (fun h => ?_)
    · refine r_pick [] rfl ?_
      exact km_isSign_84 hE hm hF _ h
    · refine r_iload_n hE 0 dX13_isSign_g0.2.2.2.2.2.2.1 rfl rfl ?_
      refine r_bipush (v := (61 : Int32)) hE dX13_isSign_g0.2.2.2.2.2.2.2.1 (by decide) ?_
      refine r_icmp_eq hE 84 dX13_isSign_g0.2.2.2.2.2.2.2.2.1 (by decide) h (fun h => ?_) (fun h => ?_)
      · refine r_pick [] rfl ?_
        exact km_isSign_84 hE hm hF _ h
      · refine r_iload_n hE 0 dX13_isSign_g0.2.2.2.2.2.2.2.2.2.1 rfl rfl ?_
        refine r_bipush (v := (60 : Int32)) hE dX13_isSign_g0.2.2.2.2.2.2.2.2.2.2.1 (by decide) ?_
        refine r_icmp_eq hE 84 dX13_isSign_g0.2.2.2.2.2.2.2.2.2.2.2.1 (by decide) h (fun h => ?_) (fun h => ?_)
        · refine r_pick [] rfl ?_
          exact km_isSign_84 hE hm hF _ h
        · refine r_iload_n hE 0 dX13_isSign_g0.2.2.2.2.2.2.2.2.2.2.2.2.1 rfl rfl ?_
          refine r_bipush (v := (43 : Int32)) hE dX13_isSign_g0.2.2.2.2.2.2.2.2.2.2.2.2.2.1 (by decide) ?_
          refine r_icmp_eq hE 84 dX13_isSign_g0.2.2.2.2.2.2.2.2.2.2.2.2.2.2.1 (by decide) h (fun h => ?_) (fun h => ?_)
          · refine r_pick [] rfl ?_
            exact km_isSign_84 hE hm hF _ h
          · refine r_iload_n hE 0 dX13_isSign_g0.2.2.2.2.2.2.2.2.2.2.2.2.2.2.2 rfl rfl ?_
            refine r_bipush (v := (45 : Int32)) hE dX13_isSign_g1.1 (by decide) ?_
            refine r_icmp_eq hE 84 dX13_isSign_g1.2.1 (by decide) h (fun h => ?_) (fun h => ?_)
            · refine r_pick [] rfl ?_
              exact km_isSign_84 hE hm hF _ h
            · refine r_iload_n hE 0 dX13_isSign_g1.2.2.1 rfl rfl ?_
              refine r_bipush (v := (42 : Int32)) hE dX13_isSign_g1.2.2.2.1 (by decide) ?_
              refine r_icmp_eq hE 84 dX13_isSign_g1.2.2.2.2.1 (by decide) h (fun h => ?_) (fun h => ?_)
              · refine r_pick [] rfl ?_
                exact km_isSign_84 hE hm hF _ h
              · refine r_iload_n hE 0 dX13_isSign_g1.2.2.2.2.2.1 rfl rfl ?_
                refine r_bipush (v := (47 : Int32)) hE dX13_isSign_g1.2.2.2.2.2.2.1 (by decide) ?_
                refine r_icmp_eq hE 84 dX13_isSign_g1.2.2.2.2.2.2.2.1 (by decide) h (fun h => ?_) (fun h => ?_)
                · refine r_pick [] rfl ?_
                  exact km_isSign_84 hE hm hF _ h
                · refine r_iload_n hE 0 dX13_isSign_g1.2.2.2.2.2.2.2.2.1 rfl rfl ?_
                  refine r_bipush (v := (40 : Int32)) hE dX13_isSign_g1.2.2.2.2.2.2.2.2.2.1 (by decide) ?_
                  refine r_icmp_eq hE 84 dX13_isSign_g1.2.2.2.2.2.2.2.2.2.2.1 (by decide) h (fun h => ?_) (fun h => ?_)
                  · refine r_pick [] rfl ?_
                    exact km_isSign_84 hE hm hF _ h
                  · refine r_iload_n hE 0 dX13_isSign_g1.2.2.2.2.2.2.2.2.2.2.2.1 rfl rfl ?_
                    refine r_bipush (v := (41 : Int32)) hE dX13_isSign_g1.2.2.2.2.2.2.2.2.2.2.2.2.1 (by decide) ?_
                    refine r_icmp_eq hE 84 dX13_isSign_g1.2.2.2.2.2.2.2.2.2.2.2.2.2.1 (by decide) h (fun h => ?_) (fun h => ?_)
                    · refine r_pick [] rfl ?_
                      exact km_isSign_84 hE hm hF _ h
                    · refine r_iload_n hE 0 dX13_isSign_g1.2.2.2.2.2.2.2.2.2.2.2.2.2.2.1 rfl rfl ?_
                      refine r_bipush (v := (91 : Int32)) hE dX13_isSign_g1.2.2.2.2.2.2.2.2.2.2.2.2.2.2.2 (by decide) ?_
                      refine r_icmp_eq hE 84 dX13_isSign_g2.1 (by decide) h (fun h => ?_) (fun h => ?_)
                      · refine r_pick [] rfl ?_
                        exact km_isSign_84 hE hm hF _ h
                      · refine r_iload_n hE 0 dX13_isSign_g2.2.1 rfl rfl ?_
                        refine r_bipush (v := (93 : Int32)) hE dX13_isSign_g2.2.2.1 (by decide) ?_
                        refine r_icmp_eq hE 84 dX13_isSign_g2.2.2.2.1 (by decide) h (fun h => ?_) (fun h => ?_)
                        · refine r_pick [] rfl ?_
                          exact km_isSign_84 hE hm hF _ h
                        · refine r_iload_n hE 0 dX13_isSign_g2.2.2.2.2.1 rfl rfl ?_
                          refine r_bipush (v := (123 : Int32)) hE dX13_isSign_g2.2.2.2.2.2.1 (by decide) ?_
                          refine r_icmp_eq hE 84 dX13_isSign_g2.2.2.2.2.2.2.1 (by decide) h (fun h => ?_) (fun h => ?_)
                          · refine r_pick [] rfl ?_
                            exact km_isSign_84 hE hm hF _ h
                          · refine r_iload_n hE 0 dX13_isSign_g2.2.2.2.2.2.2.2.1 rfl rfl ?_
                            refine r_bipush (v := (125 : Int32)) hE dX13_isSign_g2.2.2.2.2.2.2.2.2.1 (by decide) ?_
                            refine r_icmp_ne hE 88 dX13_isSign_g2.2.2.2.2.2.2.2.2.2.1 (by decide) h (fun h => ?_) (fun h => ?_)
                            · refine r_iconst (v := (0 : Int32)) hE dX13_isSign_g2.2.2.2.2.2.2.2.2.2.2.2.2.1 (by decide) ?_
                              exact m_zret hE hm hF dX13_isSign_g2.2.2.2.2.2.2.2.2.2.2.2.2.2 (Or.inl rfl) h
                            · refine r_pick [] rfl ?_
                              exact km_isSign_84 hE hm hF _ h
/-! scan -/
def wm_scan_294 (post : MS → Prop) (σ : MS) (v2 : Int32) : Prop := ∀ s1 : MS, s1 = m_at_s σ v2 → post s1
set_option maxRecDepth 20000 in
theorem km_scan_294 {E : gEnv} {l : Launch} {D : va_G} {cl : List vw_C} {G : gAd} {post : MS → Prop} (hE : gOK E cX13_scan RX13 none 3) (hm : mOK E l D cl G (qV post) 5) (hF : gFin E) (σ : MS) (v2 : Int32) (h : wm_scan_294 post σ v2) : GW E (mW G σ) 294 [(0, .ref (G.1 0)), (2, .int v2)] [] := by
  unfold wm_scan_294 at h
  have hN := hm.2.2.2.2.2.2.1
  refine r_aload_n hE 0 dX13_scan_g9.2.2.2.2.2.2.2.2.1 rfl rfl ?_
  refine r_iload_n hE 1 dX13_scan_g9.2.2.2.2.2.2.2.2.2.1 rfl rfl ?_
  refine mp_at hE hm dX13_scan_g9.2.2.2.2.2.2.2.2.2.2.1 h (fun s1 h => ?_)
  exact m_vret hE hm hF dX13_scan_g9.2.2.2.2.2.2.2.2.2.2.2 h
def wm_scan_259 (post : MS → Prop) (σ : MS) (v2 : Int32) (t1 : Int32) : Prop := ∀ s2 : MS, s2 = m_token_s σ t1 → wm_scan_294 post s2 v2
set_option maxRecDepth 20000 in
theorem km_scan_259 {E : gEnv} {l : Launch} {D : va_G} {cl : List vw_C} {G : gAd} {post : MS → Prop} (hE : gOK E cX13_scan RX13 none 3) (hm : mOK E l D cl G (qV post) 5) (hF : gFin E) (σ : MS) (v2 : Int32) (t1 : Int32) (h : wm_scan_259 post σ v2 t1) : GW E (mW G σ) 259 [(0, .ref (G.1 0)), (2, .int v2)] [.int t1, .ref (G.1 0)] := by
  unfold wm_scan_259 at h
  have hN := hm.2.2.2.2.2.2.1
  refine mp_token hE hm dX13_scan_g8.2.2.2.2.2.2.2.1 h (fun s2 h => ?_)
  refine r_goto hE 294 dX13_scan_g8.2.2.2.2.2.2.2.2.1 (by decide) ?_
  exact km_scan_294 hE hm hF _ _ h
def wm_scan_258 (post : MS → Prop) (σ : MS) (v2 : Int32) : Prop := wm_scan_259 post σ v2 (4 : Int32)
set_option maxRecDepth 20000 in
theorem km_scan_258 {E : gEnv} {l : Launch} {D : va_G} {cl : List vw_C} {G : gAd} {post : MS → Prop} (hE : gOK E cX13_scan RX13 none 3) (hm : mOK E l D cl G (qV post) 5) (hF : gFin E) (σ : MS) (v2 : Int32) (h : wm_scan_258 post σ v2) : GW E (mW G σ) 258 [(0, .ref (G.1 0)), (2, .int v2)] [.ref (G.1 0)] := by
  unfold wm_scan_258 at h
  have hN := hm.2.2.2.2.2.2.1
  refine r_iconst (v := (4 : Int32)) hE dX13_scan_g8.2.2.2.2.2.2.1 (by decide) ?_
  exact km_scan_259 hE hm hF _ _ _ h
def wm_scan_205 (post : MS → Prop) (σ : MS) (v2 : Int32) (v3 : Int32) (v4 : Int32) : Prop := ∀ s3 : MS, s3 = m_tokenSize_s σ (v2 - (m_tokenAt σ)) → wm_isLetter (fun (s4 : MS) (r5 : Int32) => ((r5 = (0 : Int32)) → (((v4 = (0 : Int32)) → (wm_scan_258 post s4 v2)) ∧ ((¬ (v4 = (0 : Int32))) → ((((9 : Int32) < (m_tokenSize s4)) → (wm_scan_258 post s4 v2)) ∧ ((¬ ((9 : Int32) < (m_tokenSize s4))) → (wm_scan_259 post s4 v2 (2 : Int32))))))) ∧ ((¬ (r5 = (0 : Int32))) → ((((m_tokenSize s4) ≤ (10 : Int32)) → (wm_scan_259 post s4 v2 (1 : Int32))) ∧ ((¬ ((m_tokenSize s4) ≤ (10 : Int32))) → (wm_scan_259 post s4 v2 (4 : Int32)))))) s3 v3
set_option maxRecDepth 20000 in
theorem km_scan_205 {E : gEnv} {l : Launch} {D : va_G} {cl : List vw_C} {G : gAd} {post : MS → Prop} (hE : gOK E cX13_scan RX13 none 3) (hm : mOK E l D cl G (qV post) 5) (hF : gFin E) (σ : MS) (v2 : Int32) (v3 : Int32) (v4 : Int32) (h : wm_scan_205 post σ v2 v3 v4) : GW E (mW G σ) 205 [(0, .ref (G.1 0)), (2, .int v2), (3, .int v3), (4, .int v4)] [] := by
  unfold wm_scan_205 at h
  have hN := hm.2.2.2.2.2.2.1
  refine r_aload_n hE 0 dX13_scan_g6.2.2.2.2.2.2.2.2.2.2.2.2.1 rfl rfl ?_
  refine r_iload_n hE 1 dX13_scan_g6.2.2.2.2.2.2.2.2.2.2.2.2.2.1 rfl rfl ?_
  refine r_aload_n hE 0 dX13_scan_g6.2.2.2.2.2.2.2.2.2.2.2.2.2.2.1 rfl rfl ?_
  refine mg_tokenAt hE hm dX13_scan_g6.2.2.2.2.2.2.2.2.2.2.2.2.2.2.2 ?_
  refine r_isub hE dX13_scan_g7.1 ?_
  refine mp_tokenSize hE hm dX13_scan_g7.2.1 h (fun s3 h => ?_)
  refine r_aload_n hE 0 dX13_scan_g7.2.2.1 rfl rfl ?_
  refine r_iload_n hE 2 dX13_scan_g7.2.2.2.1 rfl rfl ?_
  refine m_callSi hE hm [.int v3] [.ref (G.1 0)] mc_isLetter (km_isLetter hm.2.2.2.2.2.2.2.2 h) (by decide) rfl rfl (Nat.le_of_ble_eq_true rfl) dX13_scan_g7.2.2.2.2.1 (fun s4 r5 h => ?_)
  refine r_if_eq hE 240 dX13_scan_g7.2.2.2.2.2.1 (by decide) h (fun h => ?_) (fun h => ?_)
  · refine r_iload hE 3 dX13_scan_g7.2.2.2.2.2.2.2.2.2.2.2.2.2.2.1 rfl ?_
    refine r_if_eq hE 258 dX13_scan_g7.2.2.2.2.2.2.2.2.2.2.2.2.2.2.2 (by decide) h (fun h => ?_) (fun h => ?_)
    · refine r_pick [0, 1] rfl ?_
      exact km_scan_258 hE hm hF _ _ h
    · refine r_aload_n hE 0 dX13_scan_g8.1 rfl rfl ?_
      refine mg_tokenSize hE hm dX13_scan_g8.2.1 ?_
      refine r_bipush (v := (9 : Int32)) hE dX13_scan_g8.2.2.1 (by decide) ?_
      refine r_icmp_gt hE 258 dX13_scan_g8.2.2.2.1 (by decide) h (fun h => ?_) (fun h => ?_)
      · refine r_pick [0, 1] rfl ?_
        exact km_scan_258 hE hm hF _ _ h
      · refine r_iconst (v := (2 : Int32)) hE dX13_scan_g8.2.2.2.2.1 (by decide) ?_
        refine r_goto hE 259 dX13_scan_g8.2.2.2.2.2.1 (by decide) ?_
        refine r_pick [0, 1] rfl ?_
        exact km_scan_259 hE hm hF _ _ _ h
  · refine r_aload_n hE 0 dX13_scan_g7.2.2.2.2.2.2.1 rfl rfl ?_
    refine mg_tokenSize hE hm dX13_scan_g7.2.2.2.2.2.2.2.1 ?_
    refine r_bipush (v := (10 : Int32)) hE dX13_scan_g7.2.2.2.2.2.2.2.2.1 (by decide) ?_
    refine r_icmp_le hE 236 dX13_scan_g7.2.2.2.2.2.2.2.2.2.1 (by decide) h (fun h => ?_) (fun h => ?_)
    · refine r_iconst (v := (1 : Int32)) hE dX13_scan_g7.2.2.2.2.2.2.2.2.2.2.2.2.1 (by decide) ?_
      refine r_goto hE 259 dX13_scan_g7.2.2.2.2.2.2.2.2.2.2.2.2.2.1 (by decide) ?_
      refine r_pick [0, 1] rfl ?_
      exact km_scan_259 hE hm hF _ _ _ h
    · refine r_iconst (v := (4 : Int32)) hE dX13_scan_g7.2.2.2.2.2.2.2.2.2.2.1 (by decide) ?_
      refine r_goto hE 259 dX13_scan_g7.2.2.2.2.2.2.2.2.2.2.2.1 (by decide) ?_
      refine r_pick [0, 1] rfl ?_
      exact km_scan_259 hE hm hF _ _ _ h
def wm_scan_196 (post : MS → Prop) (lp96 : MS → Int32 → Int32 → Int32 → Prop) (σ : MS) (v2 : Int32) (v3 : Int32) (v4 : Int32) (t1 : Int64) : Prop := ∀ s6 : MS, s6 = m_digits_s σ t1 → ∀ x7 : Int32, x7 = v2 + (1 : Int32) → lp96 s6 x7 v3 v4
set_option maxRecDepth 20000 in
theorem km_scan_196 {E : gEnv} {l : Launch} {D : va_G} {cl : List vw_C} {G : gAd} {post : MS → Prop} (hE : gOK E cX13_scan RX13 none 3) (hm : mOK E l D cl G (qV post) 5) (hF : gFin E) {lp96 : MS → Int32 → Int32 → Int32 → Prop} (hl96 : ∀ (σ : MS) (v2 : Int32) (v3 : Int32) (v4 : Int32), lp96 σ v2 v3 v4 → GW E (mW G σ) 96 [(0, .ref (G.1 0)), (2, .int v2), (3, .int v3), (4, .int v4)] []) (σ : MS) (v2 : Int32) (v3 : Int32) (v4 : Int32) (t1 : Int64) (h : wm_scan_196 post lp96 σ v2 v3 v4 t1) : GW E (mW G σ) 196 [(0, .ref (G.1 0)), (2, .int v2), (3, .int v3), (4, .int v4)] [.long t1, .ref (G.1 0)] := by
  unfold wm_scan_196 at h
  have hN := hm.2.2.2.2.2.2.1
  refine mp_digits hE hm dX13_scan_g6.2.2.2.2.2.2.2.2.2.1 h (fun s6 h => ?_)
  obtain ⟨x7, ex7⟩ : ∃ z : Int32, z = v2 + (1 : Int32) := ⟨_, rfl⟩
  have h := h x7 ex7
  refine r_iinc (v := x7) hE [(2, .int x7), (0, .ref (G.1 0)), (3, .int v3), (4, .int v4)] 1 dX13_scan_g6.2.2.2.2.2.2.2.2.2.2.1 rfl (by rw [ex7]; rfl) hN (by decide) rfl ?_
  refine r_goto hE 96 dX13_scan_g6.2.2.2.2.2.2.2.2.2.2.2.1 (by decide) ?_
  refine r_pick [1, 0, 2, 3] rfl ?_
  exact hl96 _ _ _ _ h
def wm_scan_192 (post : MS → Prop) (lp96 : MS → Int32 → Int32 → Int32 → Prop) (σ : MS) (v2 : Int32) (v3 : Int32) (v4 : Int32) : Prop := wm_scan_196 post lp96 σ v2 v3 v4 (m_digits σ)
set_option maxRecDepth 20000 in
theorem km_scan_192 {E : gEnv} {l : Launch} {D : va_G} {cl : List vw_C} {G : gAd} {post : MS → Prop} (hE : gOK E cX13_scan RX13 none 3) (hm : mOK E l D cl G (qV post) 5) (hF : gFin E) {lp96 : MS → Int32 → Int32 → Int32 → Prop} (hl96 : ∀ (σ : MS) (v2 : Int32) (v3 : Int32) (v4 : Int32), lp96 σ v2 v3 v4 → GW E (mW G σ) 96 [(0, .ref (G.1 0)), (2, .int v2), (3, .int v3), (4, .int v4)] []) (σ : MS) (v2 : Int32) (v3 : Int32) (v4 : Int32) (h : wm_scan_192 post lp96 σ v2 v3 v4) : GW E (mW G σ) 192 [(0, .ref (G.1 0)), (2, .int v2), (3, .int v3), (4, .int v4)] [.ref (G.1 0)] := by
  unfold wm_scan_192 at h
  have hN := hm.2.2.2.2.2.2.1
  refine r_aload_n hE 0 dX13_scan_g6.2.2.2.2.2.2.2.1 rfl rfl ?_
  refine mg_digits hE hm dX13_scan_g6.2.2.2.2.2.2.2.2.1 ?_
  exact km_scan_196 hE hm hF hl96 _ _ _ _ _ h
def wm_scan_150 (post : MS → Prop) (lp96 : MS → Int32 → Int32 → Int32 → Prop) (σ : MS) (v2 : Int32) (v3 : Int32) (t0 : Int32) : Prop := ((t0 = (0 : Int32)) → (wm_scan_192 post lp96 σ v2 v3 t0)) ∧ ((¬ (t0 = (0 : Int32))) → ((((9 : Int32) ≤ (v2 - (m_tokenAt σ))) → (wm_scan_192 post lp96 σ v2 v3 t0)) ∧ ((¬ ((9 : Int32) ≤ (v2 - (m_tokenAt σ)))) → (vp_in v2 3000 ∧ (wm_scan_196 post lp96 σ v2 v3 t0 ((((10 : Int64) * (m_digits σ)) + ((m_tape σ v2.toNatClampNeg).toInt64)) - (48 : Int64)))))))
set_option maxRecDepth 20000 in
theorem km_scan_150 {E : gEnv} {l : Launch} {D : va_G} {cl : List vw_C} {G : gAd} {post : MS → Prop} (hE : gOK E cX13_scan RX13 none 3) (hm : mOK E l D cl G (qV post) 5) (hF : gFin E) {lp96 : MS → Int32 → Int32 → Int32 → Prop} (hl96 : ∀ (σ : MS) (v2 : Int32) (v3 : Int32) (v4 : Int32), lp96 σ v2 v3 v4 → GW E (mW G σ) 96 [(0, .ref (G.1 0)), (2, .int v2), (3, .int v3), (4, .int v4)] []) (σ : MS) (v2 : Int32) (v3 : Int32) (t0 : Int32) (h : wm_scan_150 post lp96 σ v2 v3 t0) : GW E (mW G σ) 150 [(0, .ref (G.1 0)), (2, .int v2), (3, .int v3)] [.int t0] := by
  unfold wm_scan_150 at h
  have hN := hm.2.2.2.2.2.2.1
  refine r_istore hE [(4, .int t0), (0, .ref (G.1 0)), (2, .int v2), (3, .int v3)] dX13_scan_g5.1 hN (by decide) rfl ?_
  refine r_aload_n hE 1 dX13_scan_g5.2.1 rfl rfl ?_
  refine r_iload hE 0 dX13_scan_g5.2.2.1 rfl ?_
  refine r_if_eq hE 192 dX13_scan_g5.2.2.2.1 (by decide) h (fun h => ?_) (fun h => ?_)
  · refine r_pick [1, 2, 3, 0] rfl ?_
    exact km_scan_192 hE hm hF hl96 _ _ _ _ h
  · refine r_iload_n hE 2 dX13_scan_g5.2.2.2.2.1 rfl rfl ?_
    refine r_aload_n hE 1 dX13_scan_g5.2.2.2.2.2.1 rfl rfl ?_
    refine mg_tokenAt hE hm dX13_scan_g5.2.2.2.2.2.2.1 ?_
    refine r_isub hE dX13_scan_g5.2.2.2.2.2.2.2.1 ?_
    refine r_bipush (v := (9 : Int32)) hE dX13_scan_g5.2.2.2.2.2.2.2.2.1 (by decide) ?_
    refine r_icmp_ge hE 192 dX13_scan_g5.2.2.2.2.2.2.2.2.2.1 (by decide) h (fun h => ?_) (fun h => ?_)
    · refine r_pick [1, 2, 3, 0] rfl ?_
      exact km_scan_192 hE hm hF hl96 _ _ _ _ h
    · refine r_ldc2 (v := (10 : Int64)) hE dX13_scan_g5.2.2.2.2.2.2.2.2.2.2.1 (gTb_9 (List.mem_of_getElem? (i := 50) rfl) rfl) ?_
      refine r_aload_n hE 1 dX13_scan_g5.2.2.2.2.2.2.2.2.2.2.2.1 rfl rfl ?_
      refine mg_digits hE hm dX13_scan_g5.2.2.2.2.2.2.2.2.2.2.2.2.1 ?_
      refine r_lmul hE dX13_scan_g5.2.2.2.2.2.2.2.2.2.2.2.2.2.1 ?_
      refine r_aload_n hE 1 dX13_scan_g5.2.2.2.2.2.2.2.2.2.2.2.2.2.2.1 rfl rfl ?_
      refine mg_tape hE hm dX13_scan_g5.2.2.2.2.2.2.2.2.2.2.2.2.2.2.2 ?_
      refine r_iload_n hE 2 dX13_scan_g6.1 rfl rfl ?_
      obtain ⟨hi, h⟩ := h
      refine ml_tape hE hm dX13_scan_g6.2.1 hi ?_
      refine r_i2l hE dX13_scan_g6.2.2.1 ?_
      refine r_ladd hE dX13_scan_g6.2.2.2.1 ?_
      refine r_ldc2 (v := (48 : Int64)) hE dX13_scan_g6.2.2.2.2.1 (gTb_9 (List.mem_of_getElem? (i := 48) rfl) rfl) ?_
      refine r_lsub hE dX13_scan_g6.2.2.2.2.2.1 ?_
      refine r_goto hE 196 dX13_scan_g6.2.2.2.2.2.2.1 (by decide) ?_
      refine r_pick [1, 2, 3, 0] rfl ?_
      exact km_scan_196 hE hm hF hl96 _ _ _ _ _ h
def wm_scan_149 (post : MS → Prop) (lp96 : MS → Int32 → Int32 → Int32 → Prop) (σ : MS) (v2 : Int32) (v3 : Int32) : Prop := wm_scan_150 post lp96 σ v2 v3 (0 : Int32)
set_option maxRecDepth 20000 in
theorem km_scan_149 {E : gEnv} {l : Launch} {D : va_G} {cl : List vw_C} {G : gAd} {post : MS → Prop} (hE : gOK E cX13_scan RX13 none 3) (hm : mOK E l D cl G (qV post) 5) (hF : gFin E) {lp96 : MS → Int32 → Int32 → Int32 → Prop} (hl96 : ∀ (σ : MS) (v2 : Int32) (v3 : Int32) (v4 : Int32), lp96 σ v2 v3 v4 → GW E (mW G σ) 96 [(0, .ref (G.1 0)), (2, .int v2), (3, .int v3), (4, .int v4)] []) (σ : MS) (v2 : Int32) (v3 : Int32) (h : wm_scan_149 post lp96 σ v2 v3) : GW E (mW G σ) 149 [(0, .ref (G.1 0)), (2, .int v2), (3, .int v3)] [] := by
  unfold wm_scan_149 at h
  have hN := hm.2.2.2.2.2.2.1
  refine r_iconst (v := (0 : Int32)) hE dX13_scan_g4.2.2.2.2.2.2.2.2.2.2.2.2.2.2.2 (by decide) ?_
  exact km_scan_150 hE hm hF hl96 _ _ _ _ h
def wm_scan_128 (post : MS → Prop) (lp96 : MS → Int32 → Int32 → Int32 → Prop) (σ : MS) (v2 : Int32) (v3 : Int32) (v4 : Int32) : Prop := ((v4 = (0 : Int32)) → (wm_scan_149 post lp96 σ v2 v3)) ∧ ((¬ (v4 = (0 : Int32))) → (vp_in v2 3000 ∧ (wm_isFigure (fun (s8 : MS) (r9 : Int32) => ((r9 = (0 : Int32)) → (wm_scan_149 post lp96 s8 v2 v3)) ∧ ((¬ (r9 = (0 : Int32))) → (wm_scan_150 post lp96 s8 v2 v3 (1 : Int32)))) σ (m_tape σ v2.toNatClampNeg))))
set_option maxRecDepth 20000 in
theorem km_scan_128 {E : gEnv} {l : Launch} {D : va_G} {cl : List vw_C} {G : gAd} {post : MS → Prop} (hE : gOK E cX13_scan RX13 none 3) (hm : mOK E l D cl G (qV post) 5) (hF : gFin E) {lp96 : MS → Int32 → Int32 → Int32 → Prop} (hl96 : ∀ (σ : MS) (v2 : Int32) (v3 : Int32) (v4 : Int32), lp96 σ v2 v3 v4 → GW E (mW G σ) 96 [(0, .ref (G.1 0)), (2, .int v2), (3, .int v3), (4, .int v4)] []) (σ : MS) (v2 : Int32) (v3 : Int32) (v4 : Int32) (h : wm_scan_128 post lp96 σ v2 v3 v4) : GW E (mW G σ) 128 [(0, .ref (G.1 0)), (2, .int v2), (3, .int v3), (4, .int v4)] [] := by
  unfold wm_scan_128 at h
  have hN := hm.2.2.2.2.2.2.1
  refine r_iload hE 3 dX13_scan_g4.2.2.2.2.2.1 rfl ?_
  refine r_if_eq hE 149 dX13_scan_g4.2.2.2.2.2.2.1 (by decide) h (fun h => ?_) (fun h => ?_)
  · refine r_pick [0, 1, 2] rfl ?_
    exact km_scan_149 hE hm hF hl96 _ _ _ h
  · refine r_aload_n hE 0 dX13_scan_g4.2.2.2.2.2.2.2.1 rfl rfl ?_
    refine mg_tape hE hm dX13_scan_g4.2.2.2.2.2.2.2.2.1 ?_
    refine r_iload_n hE 1 dX13_scan_g4.2.2.2.2.2.2.2.2.2.1 rfl rfl ?_
    obtain ⟨hi, h⟩ := h
    refine ml_tape hE hm dX13_scan_g4.2.2.2.2.2.2.2.2.2.2.1 hi ?_
    refine m_callSi hE hm [.int (m_tape σ v2.toNatClampNeg)] [] mc_isFigure (km_isFigure hm.2.2.2.2.2.2.2.2 h) (by decide) rfl rfl (Nat.le_of_ble_eq_true rfl) dX13_scan_g4.2.2.2.2.2.2.2.2.2.2.2.1 (fun s8 r9 h => ?_)
    refine r_if_eq hE 149 dX13_scan_g4.2.2.2.2.2.2.2.2.2.2.2.2.1 (by decide) h (fun h => ?_) (fun h => ?_)
    · refine r_pick [0, 1, 2] rfl ?_
      exact km_scan_149 hE hm hF hl96 _ _ _ h
    · refine r_iconst (v := (1 : Int32)) hE dX13_scan_g4.2.2.2.2.2.2.2.2.2.2.2.2.2.1 (by decide) ?_
      refine r_goto hE 150 dX13_scan_g4.2.2.2.2.2.2.2.2.2.2.2.2.2.2.1 (by decide) ?_
      refine r_pick [0, 1, 2] rfl ?_
      exact km_scan_150 hE hm hF hl96 _ _ _ _ h
def wm_scan_96 (post : MS → Prop) : Nat → MS → Int32 → Int32 → Int32 → Prop
  | 0, _, _, _, _ => False
  | n + 1, σ, v2, v3, v4 => (((m_taped σ) ≤ v2) → (wm_scan_205 post σ v2 v3 v4)) ∧ ((¬ ((m_taped σ) ≤ v2)) → (vp_in v2 3000 ∧ (wm_isLetter (fun (s10 : MS) (r11 : Int32) => ((¬ (r11 = (0 : Int32))) → (wm_scan_128 post (fun (ys : MS) (y0 : Int32) (y1 : Int32) (y2 : Int32) => wm_scan_96 post n ys y0 y1 y2) s10 v2 v3 v4)) ∧ ((r11 = (0 : Int32)) → (vp_in v2 3000 ∧ (wm_isFigure (fun (s12 : MS) (r13 : Int32) => ((r13 = (0 : Int32)) → (wm_scan_205 post s12 v2 v3 v4)) ∧ ((¬ (r13 = (0 : Int32))) → (wm_scan_128 post (fun (ys : MS) (y0 : Int32) (y1 : Int32) (y2 : Int32) => wm_scan_96 post n ys y0 y1 y2) s12 v2 v3 v4))) s10 (m_tape s10 v2.toNatClampNeg))))) σ (m_tape σ v2.toNatClampNeg))))
set_option maxRecDepth 20000 in
theorem km_scan_96 {E : gEnv} {l : Launch} {D : va_G} {cl : List vw_C} {G : gAd} {post : MS → Prop} (hE : gOK E cX13_scan RX13 none 3) (hm : mOK E l D cl G (qV post) 5) (hF : gFin E) : ∀ (n : Nat) (σ : MS) (v2 : Int32) (v3 : Int32) (v4 : Int32), wm_scan_96 post n σ v2 v3 v4 → GW E (mW G σ) 96 [(0, .ref (G.1 0)), (2, .int v2), (3, .int v3), (4, .int v4)] [] := by
  intro n
  induction n with
  | zero => intro σ v2 v3 v4 h; exact h.elim
  | succ n ih =>
    intro σ v2 v3 v4 h
    rw [wm_scan_96] at h
    have hN := hm.2.2.2.2.2.2.1
    refine r_iload_n hE 1 dX13_scan_g3.2.2.2.2.2.1 rfl rfl ?_
    refine r_aload_n hE 0 dX13_scan_g3.2.2.2.2.2.2.1 rfl rfl ?_
    refine mg_taped hE hm dX13_scan_g3.2.2.2.2.2.2.2.1 ?_
    refine r_icmp_ge hE 205 dX13_scan_g3.2.2.2.2.2.2.2.2.1 (by decide) h (fun h => ?_) (fun h => ?_)
    · exact km_scan_205 hE hm hF _ _ _ _ h
    · refine r_aload_n hE 0 dX13_scan_g3.2.2.2.2.2.2.2.2.2.1 rfl rfl ?_
      refine mg_tape hE hm dX13_scan_g3.2.2.2.2.2.2.2.2.2.2.1 ?_
      refine r_iload_n hE 1 dX13_scan_g3.2.2.2.2.2.2.2.2.2.2.2.1 rfl rfl ?_
      obtain ⟨hi, h⟩ := h
      refine ml_tape hE hm dX13_scan_g3.2.2.2.2.2.2.2.2.2.2.2.2.1 hi ?_
      refine m_callSi hE hm [.int (m_tape σ v2.toNatClampNeg)] [] mc_isLetter (km_isLetter hm.2.2.2.2.2.2.2.2 h) (by decide) rfl rfl (Nat.le_of_ble_eq_true rfl) dX13_scan_g3.2.2.2.2.2.2.2.2.2.2.2.2.2.1 (fun s10 r11 h => ?_)
      refine r_if_ne hE 128 dX13_scan_g3.2.2.2.2.2.2.2.2.2.2.2.2.2.2.1 (by decide) h (fun h => ?_) (fun h => ?_)
      · exact km_scan_128 hE hm hF ih _ _ _ _ h
      · refine r_aload_n hE 0 dX13_scan_g3.2.2.2.2.2.2.2.2.2.2.2.2.2.2.2 rfl rfl ?_
        refine mg_tape hE hm dX13_scan_g4.1 ?_
        refine r_iload_n hE 1 dX13_scan_g4.2.1 rfl rfl ?_
        obtain ⟨hi, h⟩ := h
        refine ml_tape hE hm dX13_scan_g4.2.2.1 hi ?_
        refine m_callSi hE hm [.int (m_tape s10 v2.toNatClampNeg)] [] mc_isFigure (km_isFigure hm.2.2.2.2.2.2.2.2 h) (by decide) rfl rfl (Nat.le_of_ble_eq_true rfl) dX13_scan_g4.2.2.2.1 (fun s12 r13 h => ?_)
        refine r_if_eq hE 205 dX13_scan_g4.2.2.2.2.1 (by decide) h (fun h => ?_) (fun h => ?_)
        · exact km_scan_205 hE hm hF _ _ _ _ h
        · exact km_scan_128 hE hm hF ih _ _ _ _ h
def wm_scan_88 (post : MS → Prop) (σ : MS) (v2 : Int32) (v3 : Int32) : Prop := ∀ s14 : MS, s14 = m_digits_s σ (0 : Int64) → ∃ k : Nat, wm_scan_96 post k s14 v2 v3 (1 : Int32)
set_option maxRecDepth 20000 in
theorem km_scan_88 {E : gEnv} {l : Launch} {D : va_G} {cl : List vw_C} {G : gAd} {post : MS → Prop} (hE : gOK E cX13_scan RX13 none 3) (hm : mOK E l D cl G (qV post) 5) (hF : gFin E) (σ : MS) (v2 : Int32) (v3 : Int32) (h : wm_scan_88 post σ v2 v3) : GW E (mW G σ) 88 [(0, .ref (G.1 0)), (2, .int v2), (3, .int v3)] [] := by
  unfold wm_scan_88 at h
  have hN := hm.2.2.2.2.2.2.1
  refine r_iconst (v := (1 : Int32)) hE dX13_scan_g3.1 (by decide) ?_
  refine r_istore hE [(4, .int (1 : Int32)), (0, .ref (G.1 0)), (2, .int v2), (3, .int v3)] dX13_scan_g3.2.1 hN (by decide) rfl ?_
  refine r_aload_n hE 1 dX13_scan_g3.2.2.1 rfl rfl ?_
  refine r_lconst (v := (0 : Int64)) hE dX13_scan_g3.2.2.2.1 (by decide) ?_
  refine mp_digits hE hm dX13_scan_g3.2.2.2.2.1 h (fun s14 h => ?_)
  refine r_pick [1, 2, 3, 0] rfl ?_
  obtain ⟨k, h⟩ := h
  exact km_scan_96 hE hm hF k _ _ _ _ h
def wm_scan_291 (post : MS → Prop) (σ : MS) (v2 : Int32) (t1 : Int32) : Prop := ∀ s15 : MS, s15 = m_token_s σ t1 → wm_scan_294 post s15 v2
set_option maxRecDepth 20000 in
theorem km_scan_291 {E : gEnv} {l : Launch} {D : va_G} {cl : List vw_C} {G : gAd} {post : MS → Prop} (hE : gOK E cX13_scan RX13 none 3) (hm : mOK E l D cl G (qV post) 5) (hF : gFin E) (σ : MS) (v2 : Int32) (t1 : Int32) (h : wm_scan_291 post σ v2 t1) : GW E (mW G σ) 291 [(0, .ref (G.1 0)), (2, .int v2)] [.int t1, .ref (G.1 0)] := by
  unfold wm_scan_291 at h
  have hN := hm.2.2.2.2.2.2.1
  refine mp_token hE hm dX13_scan_g9.2.2.2.2.2.2.2.1 h (fun s15 h => ?_)
  exact km_scan_294 hE hm hF _ _ h
def wm_scan_38 (post : MS → Prop) (σ : MS) (v2 : Int32) : Prop := ∀ s16 : MS, s16 = m_tokenAt_s σ v2 → ∀ s17 : MS, s17 = m_tokenSize_s s16 (0 : Int32) → ((¬ (v2 = (m_taped s17))) → (vp_in v2 3000 ∧ (∀ x18 : Int32, x18 = m_tape s17 v2.toNatClampNeg → wm_isLetter (fun (s19 : MS) (r20 : Int32) => ((¬ (r20 = (0 : Int32))) → (wm_scan_88 post s19 v2 x18)) ∧ ((r20 = (0 : Int32)) → (wm_isFigure (fun (s21 : MS) (r22 : Int32) => ((r22 = (0 : Int32)) → (∀ x23 : Int32, x23 = v2 + (1 : Int32) → ∀ s24 : MS, s24 = m_tokenSize_s s21 (1 : Int32) → ∀ s25 : MS, s25 = m_sign_s s24 x18 → wm_isSign (fun (s26 : MS) (r27 : Int32) => ((r27 = (0 : Int32)) → (wm_scan_291 post s26 x23 (4 : Int32))) ∧ ((¬ (r27 = (0 : Int32))) → (wm_scan_291 post s26 x23 (3 : Int32)))) s25 x18)) ∧ ((¬ (r22 = (0 : Int32))) → (wm_scan_88 post s21 v2 x18))) s19 x18))) s17 x18))) ∧ ((v2 = (m_taped s17)) → (∀ s28 : MS, s28 = m_token_s s17 (0 : Int32) → ∀ s29 : MS, s29 = m_at_s s28 v2 → post s29))
set_option maxRecDepth 20000 in
theorem km_scan_38 {E : gEnv} {l : Launch} {D : va_G} {cl : List vw_C} {G : gAd} {post : MS → Prop} (hE : gOK E cX13_scan RX13 none 3) (hm : mOK E l D cl G (qV post) 5) (hF : gFin E) (σ : MS) (v2 : Int32) (h : wm_scan_38 post σ v2) : GW E (mW G σ) 38 [(0, .ref (G.1 0)), (2, .int v2)] [] := by
  unfold wm_scan_38 at h
  have hN := hm.2.2.2.2.2.2.1
  refine r_aload_n hE 0 dX13_scan_g1.2.2.2.2.1 rfl rfl ?_
  refine r_iload_n hE 1 dX13_scan_g1.2.2.2.2.2.1 rfl rfl ?_
  refine mp_tokenAt hE hm dX13_scan_g1.2.2.2.2.2.2.1 h (fun s16 h => ?_)
  refine r_aload_n hE 0 dX13_scan_g1.2.2.2.2.2.2.2.1 rfl rfl ?_
  refine r_iconst (v := (0 : Int32)) hE dX13_scan_g1.2.2.2.2.2.2.2.2.1 (by decide) ?_
  refine mp_tokenSize hE hm dX13_scan_g1.2.2.2.2.2.2.2.2.2.1 h (fun s17 h => ?_)
  refine r_iload_n hE 1 dX13_scan_g1.2.2.2.2.2.2.2.2.2.2.1 rfl rfl ?_
  refine r_aload_n hE 0 dX13_scan_g1.2.2.2.2.2.2.2.2.2.2.2.1 rfl rfl ?_
  refine mg_taped hE hm dX13_scan_g1.2.2.2.2.2.2.2.2.2.2.2.2.1 ?_
  refine r_icmp_ne hE 67 dX13_scan_g1.2.2.2.2.2.2.2.2.2.2.2.2.2.1 (by decide) h (fun h => ?_) (fun h => ?_)
  · refine r_aload_n hE 0 dX13_scan_g2.2.2.2.2.2.1 rfl rfl ?_
    refine mg_tape hE hm dX13_scan_g2.2.2.2.2.2.2.1 ?_
    refine r_iload_n hE 1 dX13_scan_g2.2.2.2.2.2.2.2.1 rfl rfl ?_
    obtain ⟨hi, h⟩ := h
    refine ml_tape hE hm dX13_scan_g2.2.2.2.2.2.2.2.2.1 hi ?_
    refine r_topi h (fun x18 ex18 h => ?_)
    refine r_istore_n hE [(3, .int x18), (0, .ref (G.1 0)), (2, .int v2)] dX13_scan_g2.2.2.2.2.2.2.2.2.2.1 rfl hN (by decide) rfl ?_
    refine r_iload_n hE 0 dX13_scan_g2.2.2.2.2.2.2.2.2.2.2.1 rfl rfl ?_
    refine m_callSi hE hm [.int x18] [] mc_isLetter (km_isLetter hm.2.2.2.2.2.2.2.2 h) (by decide) rfl rfl (Nat.le_of_ble_eq_true rfl) dX13_scan_g2.2.2.2.2.2.2.2.2.2.2.2.1 (fun s19 r20 h => ?_)
    refine r_if_ne hE 88 dX13_scan_g2.2.2.2.2.2.2.2.2.2.2.2.2.1 (by decide) h (fun h => ?_) (fun h => ?_)
    · refine r_pick [1, 2, 0] rfl ?_
      exact km_scan_88 hE hm hF _ _ _ h
    · refine r_iload_n hE 0 dX13_scan_g2.2.2.2.2.2.2.2.2.2.2.2.2.2.1 rfl rfl ?_
      refine m_callSi hE hm [.int x18] [] mc_isFigure (km_isFigure hm.2.2.2.2.2.2.2.2 h) (by decide) rfl rfl (Nat.le_of_ble_eq_true rfl) dX13_scan_g2.2.2.2.2.2.2.2.2.2.2.2.2.2.2.1 (fun s21 r22 h => ?_)
      refine r_if_eq hE 265 dX13_scan_g2.2.2.2.2.2.2.2.2.2.2.2.2.2.2.2 (by decide) h (fun h => ?_) (fun h => ?_)
      · obtain ⟨x23, ex23⟩ : ∃ z : Int32, z = v2 + (1 : Int32) := ⟨_, rfl⟩
        have h := h x23 ex23
        refine r_iinc (v := x23) hE [(2, .int x23), (3, .int x18), (0, .ref (G.1 0))] 2 dX13_scan_g8.2.2.2.2.2.2.2.2.2.1 rfl (by rw [ex23]; rfl) hN (by decide) rfl ?_
        refine r_aload_n hE 2 dX13_scan_g8.2.2.2.2.2.2.2.2.2.2.1 rfl rfl ?_
        refine r_iconst (v := (1 : Int32)) hE dX13_scan_g8.2.2.2.2.2.2.2.2.2.2.2.1 (by decide) ?_
        refine mp_tokenSize hE hm dX13_scan_g8.2.2.2.2.2.2.2.2.2.2.2.2.1 h (fun s24 h => ?_)
        refine r_aload_n hE 2 dX13_scan_g8.2.2.2.2.2.2.2.2.2.2.2.2.2.1 rfl rfl ?_
        refine r_iload_n hE 1 dX13_scan_g8.2.2.2.2.2.2.2.2.2.2.2.2.2.2.1 rfl rfl ?_
        refine mp_sign hE hm dX13_scan_g8.2.2.2.2.2.2.2.2.2.2.2.2.2.2.2 h (fun s25 h => ?_)
        refine r_aload_n hE 2 dX13_scan_g9.1 rfl rfl ?_
        refine r_iload_n hE 1 dX13_scan_g9.2.1 rfl rfl ?_
        refine m_callSi hE hm [.int x18] [.ref (G.1 0)] mc_isSign (km_isSign hm.2.2.2.2.2.2.2.2 h) (by decide) rfl rfl (Nat.le_of_ble_eq_true rfl) dX13_scan_g9.2.2.1 (fun s26 r27 h => ?_)
        refine r_if_eq hE 290 dX13_scan_g9.2.2.2.1 (by decide) h (fun h => ?_) (fun h => ?_)
        · refine r_iconst (v := (4 : Int32)) hE dX13_scan_g9.2.2.2.2.2.2.1 (by decide) ?_
          refine r_pick [2, 0] rfl ?_
          exact km_scan_291 hE hm hF _ _ _ h
        · refine r_iconst (v := (3 : Int32)) hE dX13_scan_g9.2.2.2.2.1 (by decide) ?_
          refine r_goto hE 291 dX13_scan_g9.2.2.2.2.2.1 (by decide) ?_
          refine r_pick [2, 0] rfl ?_
          exact km_scan_291 hE hm hF _ _ _ h
      · refine r_pick [1, 2, 0] rfl ?_
        exact km_scan_88 hE hm hF _ _ _ h
  · refine r_aload_n hE 0 dX13_scan_g1.2.2.2.2.2.2.2.2.2.2.2.2.2.2.1 rfl rfl ?_
    refine r_iconst (v := (0 : Int32)) hE dX13_scan_g1.2.2.2.2.2.2.2.2.2.2.2.2.2.2.2 (by decide) ?_
    refine mp_token hE hm dX13_scan_g2.1 h (fun s28 h => ?_)
    refine r_aload_n hE 0 dX13_scan_g2.2.1 rfl rfl ?_
    refine r_iload_n hE 1 dX13_scan_g2.2.2.1 rfl rfl ?_
    refine mp_at hE hm dX13_scan_g2.2.2.2.1 h (fun s29 h => ?_)
    exact m_vret hE hm hF dX13_scan_g2.2.2.2.2.1 h
def wm_scan_32 (post : MS → Prop) (lp2 : MS → Int32 → Prop) (σ : MS) (v2 : Int32) : Prop := ∀ x30 : Int32, x30 = v2 + (1 : Int32) → lp2 σ x30
set_option maxRecDepth 20000 in
theorem km_scan_32 {E : gEnv} {l : Launch} {D : va_G} {cl : List vw_C} {G : gAd} {post : MS → Prop} (hE : gOK E cX13_scan RX13 none 3) (hm : mOK E l D cl G (qV post) 5) (hF : gFin E) {lp2 : MS → Int32 → Prop} (hl2 : ∀ (σ : MS) (v2 : Int32), lp2 σ v2 → GW E (mW G σ) 2 [(0, .ref (G.1 0)), (2, .int v2)] []) (σ : MS) (v2 : Int32) (h : wm_scan_32 post lp2 σ v2) : GW E (mW G σ) 32 [(0, .ref (G.1 0)), (2, .int v2)] [] := by
  unfold wm_scan_32 at h
  have hN := hm.2.2.2.2.2.2.1
  obtain ⟨x30, ex30⟩ : ∃ z : Int32, z = v2 + (1 : Int32) := ⟨_, rfl⟩
  have h := h x30 ex30
  refine r_iinc (v := x30) hE [(2, .int x30), (0, .ref (G.1 0))] 1 dX13_scan_g1.2.2.1 rfl (by rw [ex30]; rfl) hN (by decide) rfl ?_
  refine r_goto hE 2 dX13_scan_g1.2.2.2.1 (by decide) ?_
  refine r_pick [1, 0] rfl ?_
  exact hl2 _ _ h
def wm_scan_2 (post : MS → Prop) : Nat → MS → Int32 → Prop
  | 0, _, _ => False
  | n + 1, σ, v2 => (((m_taped σ) ≤ v2) → (wm_scan_38 post σ v2)) ∧ ((¬ ((m_taped σ) ≤ v2)) → (vp_in v2 3000 ∧ ((((m_tape σ v2.toNatClampNeg) = (32 : Int32)) → (wm_scan_32 post (fun (ys : MS) (y0 : Int32) => wm_scan_2 post n ys y0) σ v2)) ∧ ((¬ ((m_tape σ v2.toNatClampNeg) = (32 : Int32))) → (vp_in v2 3000 ∧ (((¬ ((m_tape σ v2.toNatClampNeg) = (10 : Int32))) → (wm_scan_38 post σ v2)) ∧ (((m_tape σ v2.toNatClampNeg) = (10 : Int32)) → (wm_scan_32 post (fun (ys : MS) (y0 : Int32) => wm_scan_2 post n ys y0) σ v2))))))))
set_option maxRecDepth 20000 in
theorem km_scan_2 {E : gEnv} {l : Launch} {D : va_G} {cl : List vw_C} {G : gAd} {post : MS → Prop} (hE : gOK E cX13_scan RX13 none 3) (hm : mOK E l D cl G (qV post) 5) (hF : gFin E) : ∀ (n : Nat) (σ : MS) (v2 : Int32), wm_scan_2 post n σ v2 → GW E (mW G σ) 2 [(0, .ref (G.1 0)), (2, .int v2)] [] := by
  intro n
  induction n with
  | zero => intro σ v2 h; exact h.elim
  | succ n ih =>
    intro σ v2 h
    rw [wm_scan_2] at h
    have hN := hm.2.2.2.2.2.2.1
    refine r_iload_n hE 1 dX13_scan_g0.2.2.1 rfl rfl ?_
    refine r_aload_n hE 0 dX13_scan_g0.2.2.2.1 rfl rfl ?_
    refine mg_taped hE hm dX13_scan_g0.2.2.2.2.1 ?_
    refine r_icmp_ge hE 38 dX13_scan_g0.2.2.2.2.2.1 (by decide) h (fun h => ?_) (fun h => ?_)
    · exact km_scan_38 hE hm hF _ _ h
    · refine r_aload_n hE 0 dX13_scan_g0.2.2.2.2.2.2.1 rfl rfl ?_
      refine mg_tape hE hm dX13_scan_g0.2.2.2.2.2.2.2.1 ?_
      refine r_iload_n hE 1 dX13_scan_g0.2.2.2.2.2.2.2.2.1 rfl rfl ?_
      obtain ⟨hi, h⟩ := h
      refine ml_tape hE hm dX13_scan_g0.2.2.2.2.2.2.2.2.2.1 hi ?_
      refine r_bipush (v := (32 : Int32)) hE dX13_scan_g0.2.2.2.2.2.2.2.2.2.2.1 (by decide) ?_
      refine r_icmp_eq hE 32 dX13_scan_g0.2.2.2.2.2.2.2.2.2.2.2.1 (by decide) h (fun h => ?_) (fun h => ?_)
      · exact km_scan_32 hE hm hF ih _ _ h
      · refine r_aload_n hE 0 dX13_scan_g0.2.2.2.2.2.2.2.2.2.2.2.2.1 rfl rfl ?_
        refine mg_tape hE hm dX13_scan_g0.2.2.2.2.2.2.2.2.2.2.2.2.2.1 ?_
        refine r_iload_n hE 1 dX13_scan_g0.2.2.2.2.2.2.2.2.2.2.2.2.2.2.1 rfl rfl ?_
        obtain ⟨hi, h⟩ := h
        refine ml_tape hE hm dX13_scan_g0.2.2.2.2.2.2.2.2.2.2.2.2.2.2.2 hi ?_
        refine r_bipush (v := (10 : Int32)) hE dX13_scan_g1.1 (by decide) ?_
        refine r_icmp_ne hE 38 dX13_scan_g1.2.1 (by decide) h (fun h => ?_) (fun h => ?_)
        · exact km_scan_38 hE hm hF _ _ h
        · exact km_scan_32 hE hm hF ih _ _ h
def wm_scan (post : MS → Prop) (σ : MS) (a1 : Int32) : Prop := ∃ k : Nat, wm_scan_2 post k σ a1
set_option maxRecDepth 20000 in
theorem km_scan {l : Launch} {D : va_G} {cl : List vw_C} {G : gAd} {post : MS → Prop} (hcl : mC cl) {σ : MS} {a1 : Int32} (h : wm_scan post σ a1) : mMet l D cl G yX13_scan cX13_scan 5 none 3 [.ref (G.1 0), .int a1] σ (qV post) := by
  unfold wm_scan at h
  refine m_enter hcl (by decide +kernel) rfl [(0, .ref (G.1 0)), (1, .int a1)] rfl (Nat.le_of_ble_eq_true rfl) ?_
  intro E hE hm hF
  have hN := hm.2.2.2.2.2.2.1
  refine r_iload_n hE 1 dX13_scan_g0.1 rfl rfl ?_
  refine r_istore_n hE [(2, .int a1), (0, .ref (G.1 0)), (1, .int a1)] dX13_scan_g0.2.1 rfl hN (by decide) rfl ?_
  refine r_pick [1, 0] rfl ?_
  obtain ⟨k, h⟩ := h
  exact km_scan_2 hE hm hF k _ _ h
/-! next -/
def wm_next (post : MS → Prop) (σ : MS) : Prop := wm_scan (fun (s1 : MS) => post s1) σ (m_at σ)
set_option maxRecDepth 20000 in
theorem km_next {l : Launch} {D : va_G} {cl : List vw_C} {G : gAd} {post : MS → Prop} (hcl : mC cl) {σ : MS} (h : wm_next post σ) : mMet l D cl G yX13_next cX13_next 1 none 4 [.ref (G.1 0)] σ (qV post) := by
  unfold wm_next at h
  refine m_enter hcl (by decide +kernel) rfl [(0, .ref (G.1 0))] rfl (Nat.le_of_ble_eq_true rfl) ?_
  intro E hE hm hF
  have hN := hm.2.2.2.2.2.2.1
  refine r_aload_n hE 0 dX13_next_g0.1 rfl rfl ?_
  refine r_aload_n hE 0 dX13_next_g0.2.1 rfl rfl ?_
  refine mg_at hE hm dX13_next_g0.2.2.1 ?_
  refine m_callVv hE hm [.int (m_at σ)] [] mc_scan (km_scan hm.2.2.2.2.2.2.2.2 h) (by decide) rfl rfl (Nat.le_of_ble_eq_true rfl) dX13_next_g0.2.2.2.1 (fun s1 h => ?_)
  exact m_vret hE hm hF dX13_next_g0.2.2.2.2 h
/-! behind -/
def wm_behind_55 (post : MS → Int32 → Prop) (σ : MS) (v1 : Int32) (v2 : Int32) (v3 : Int32) (v4 : Int32) (v5 : Int64) (v7 : Int32) (t0 : Int32) : Prop := ∀ s1 : MS, s1 = m_token_s σ v1 → ∀ s2 : MS, s2 = m_tokenAt_s s1 v2 → ∀ s3 : MS, s3 = m_tokenSize_s s2 v3 → ∀ s4 : MS, s4 = m_sign_s s3 v4 → ∀ s5 : MS, s5 = m_digits_s s4 v5 → ∀ s6 : MS, s6 = m_at_s s5 v7 → post s6 t0
set_option maxRecDepth 20000 in
theorem km_behind_55 {E : gEnv} {l : Launch} {D : va_G} {cl : List vw_C} {G : gAd} {post : MS → Int32 → Prop} (hE : gOK E cX13_behind RX13 (some .int) 4) (hm : mOK E l D cl G (qI post) 9) (hF : gFin E) (σ : MS) (v1 : Int32) (v2 : Int32) (v3 : Int32) (v4 : Int32) (v5 : Int64) (v7 : Int32) (t0 : Int32) (h : wm_behind_55 post σ v1 v2 v3 v4 v5 v7 t0) : GW E (mW G σ) 55 [(0, .ref (G.1 0)), (1, .int v1), (2, .int v2), (3, .int v3), (4, .int v4), (5, .long v5), (7, .int v7)] [.int t0] := by
  unfold wm_behind_55 at h
  have hN := hm.2.2.2.2.2.2.1
  refine r_istore hE [(8, .int t0), (0, .ref (G.1 0)), (1, .int v1), (2, .int v2), (3, .int v3), (4, .int v4), (5, .long v5), (7, .int v7)] dX13_behind_g1.2.2.2.2.2.2.2.2.2.2.2.2.2.1 hN (by decide) rfl ?_
  refine r_aload_n hE 1 dX13_behind_g1.2.2.2.2.2.2.2.2.2.2.2.2.2.2.1 rfl rfl ?_
  refine r_iload_n hE 2 dX13_behind_g1.2.2.2.2.2.2.2.2.2.2.2.2.2.2.2 rfl rfl ?_
  refine mp_token hE hm dX13_behind_g2.1 h (fun s1 h => ?_)
  refine r_aload_n hE 1 dX13_behind_g2.2.1 rfl rfl ?_
  refine r_iload_n hE 3 dX13_behind_g2.2.2.1 rfl rfl ?_
  refine mp_tokenAt hE hm dX13_behind_g2.2.2.2.1 h (fun s2 h => ?_)
  refine r_aload_n hE 1 dX13_behind_g2.2.2.2.2.1 rfl rfl ?_
  refine r_iload_n hE 4 dX13_behind_g2.2.2.2.2.2.1 rfl rfl ?_
  refine mp_tokenSize hE hm dX13_behind_g2.2.2.2.2.2.2.1 h (fun s3 h => ?_)
  refine r_aload_n hE 1 dX13_behind_g2.2.2.2.2.2.2.2.1 rfl rfl ?_
  refine r_iload hE 5 dX13_behind_g2.2.2.2.2.2.2.2.2.1 rfl ?_
  refine mp_sign hE hm dX13_behind_g2.2.2.2.2.2.2.2.2.2.1 h (fun s4 h => ?_)
  refine r_aload_n hE 1 dX13_behind_g2.2.2.2.2.2.2.2.2.2.2.1 rfl rfl ?_
  refine r_lload hE 6 dX13_behind_g2.2.2.2.2.2.2.2.2.2.2.2.1 rfl ?_
  refine mp_digits hE hm dX13_behind_g2.2.2.2.2.2.2.2.2.2.2.2.2.1 h (fun s5 h => ?_)
  refine r_aload_n hE 1 dX13_behind_g2.2.2.2.2.2.2.2.2.2.2.2.2.2.1 rfl rfl ?_
  refine r_iload hE 7 dX13_behind_g2.2.2.2.2.2.2.2.2.2.2.2.2.2.2.1 rfl ?_
  refine mp_at hE hm dX13_behind_g2.2.2.2.2.2.2.2.2.2.2.2.2.2.2.2 h (fun s6 h => ?_)
  refine r_iload hE 0 dX13_behind_g3.1 rfl ?_
  exact m_iret hE hm hF dX13_behind_g3.2 h
def wm_behind (post : MS → Int32 → Prop) (σ : MS) : Prop := ∀ x7 : Int32, x7 = m_token σ → ∀ x8 : Int32, x8 = m_tokenAt σ → ∀ x9 : Int32, x9 = m_tokenSize σ → ∀ x10 : Int32, x10 = m_sign σ → ∀ x11 : Int64, x11 = m_digits σ → ∀ x12 : Int32, x12 = m_at σ → wm_scan (fun (s13 : MS) => ((¬ ((m_token s13) = (3 : Int32))) → (wm_behind_55 post s13 x7 x8 x9 x10 x11 x12 (0 : Int32))) ∧ (((m_token s13) = (3 : Int32)) → (wm_behind_55 post s13 x7 x8 x9 x10 x11 x12 (m_sign s13)))) σ x12
set_option maxRecDepth 20000 in
theorem km_behind {l : Launch} {D : va_G} {cl : List vw_C} {G : gAd} {post : MS → Int32 → Prop} (hcl : mC cl) {σ : MS} (h : wm_behind post σ) : mMet l D cl G yX13_behind cX13_behind 9 (some .int) 4 [.ref (G.1 0)] σ (qI post) := by
  unfold wm_behind at h
  refine m_enter hcl (by decide +kernel) rfl [(0, .ref (G.1 0))] rfl (Nat.le_of_ble_eq_true rfl) ?_
  intro E hE hm hF
  have hN := hm.2.2.2.2.2.2.1
  refine r_aload_n hE 0 dX13_behind_g0.1 rfl rfl ?_
  refine mg_token hE hm dX13_behind_g0.2.1 ?_
  refine r_topi h (fun x7 ex7 h => ?_)
  refine r_istore_n hE [(1, .int x7), (0, .ref (G.1 0))] dX13_behind_g0.2.2.1 rfl hN (by decide) rfl ?_
  refine r_aload_n hE 1 dX13_behind_g0.2.2.2.1 rfl rfl ?_
  refine mg_tokenAt hE hm dX13_behind_g0.2.2.2.2.1 ?_
  refine r_topi h (fun x8 ex8 h => ?_)
  refine r_istore_n hE [(2, .int x8), (1, .int x7), (0, .ref (G.1 0))] dX13_behind_g0.2.2.2.2.2.1 rfl hN (by decide) rfl ?_
  refine r_aload_n hE 2 dX13_behind_g0.2.2.2.2.2.2.1 rfl rfl ?_
  refine mg_tokenSize hE hm dX13_behind_g0.2.2.2.2.2.2.2.1 ?_
  refine r_topi h (fun x9 ex9 h => ?_)
  refine r_istore_n hE [(3, .int x9), (2, .int x8), (1, .int x7), (0, .ref (G.1 0))] dX13_behind_g0.2.2.2.2.2.2.2.2.1 rfl hN (by decide) rfl ?_
  refine r_aload_n hE 3 dX13_behind_g0.2.2.2.2.2.2.2.2.2.1 rfl rfl ?_
  refine mg_sign hE hm dX13_behind_g0.2.2.2.2.2.2.2.2.2.2.1 ?_
  refine r_topi h (fun x10 ex10 h => ?_)
  refine r_istore hE [(4, .int x10), (3, .int x9), (2, .int x8), (1, .int x7), (0, .ref (G.1 0))] dX13_behind_g0.2.2.2.2.2.2.2.2.2.2.2.1 hN (by decide) rfl ?_
  refine r_aload_n hE 4 dX13_behind_g0.2.2.2.2.2.2.2.2.2.2.2.2.1 rfl rfl ?_
  refine mg_digits hE hm dX13_behind_g0.2.2.2.2.2.2.2.2.2.2.2.2.2.1 ?_
  refine r_topl h (fun x11 ex11 h => ?_)
  refine r_lstore hE [(5, .long x11), (4, .int x10), (3, .int x9), (2, .int x8), (1, .int x7), (0, .ref (G.1 0))] dX13_behind_g0.2.2.2.2.2.2.2.2.2.2.2.2.2.2.1 hN (by decide) rfl ?_
  refine r_aload_n hE 5 dX13_behind_g0.2.2.2.2.2.2.2.2.2.2.2.2.2.2.2 rfl rfl ?_
  refine mg_at hE hm dX13_behind_g1.1 ?_
  refine r_topi h (fun x12 ex12 h => ?_)
  refine r_istore hE [(7, .int x12), (5, .long x11), (4, .int x10), (3, .int x9), (2, .int x8), (1, .int x7), (0, .ref (G.1 0))] dX13_behind_g1.2.1 hN (by decide) rfl ?_
  refine r_aload_n hE 6 dX13_behind_g1.2.2.1 rfl rfl ?_
  refine r_iload hE 0 dX13_behind_g1.2.2.2.1 rfl ?_
  refine m_callVv hE hm [.int x12] [] mc_scan (km_scan hm.2.2.2.2.2.2.2.2 h) (by decide) rfl rfl (Nat.le_of_ble_eq_true rfl) dX13_behind_g1.2.2.2.2.1 (fun s13 h => ?_)
  refine r_aload_n hE 6 dX13_behind_g1.2.2.2.2.2.1 rfl rfl ?_
  refine mg_token hE hm dX13_behind_g1.2.2.2.2.2.2.1 ?_
  refine r_iconst (v := (3 : Int32)) hE dX13_behind_g1.2.2.2.2.2.2.2.1 (by decide) ?_
  refine r_icmp_ne hE 54 dX13_behind_g1.2.2.2.2.2.2.2.2.1 (by decide) h (fun h => ?_) (fun h => ?_)
  · refine r_iconst (v := (0 : Int32)) hE dX13_behind_g1.2.2.2.2.2.2.2.2.2.2.2.2.1 (by decide) ?_
    refine r_pick [6, 5, 4, 3, 2, 1, 0] rfl ?_
    exact km_behind_55 hE hm hF _ _ _ _ _ _ _ _ h
  · refine r_aload_n hE 6 dX13_behind_g1.2.2.2.2.2.2.2.2.2.1 rfl rfl ?_
    refine mg_sign hE hm dX13_behind_g1.2.2.2.2.2.2.2.2.2.2.1 ?_
    refine r_goto hE 55 dX13_behind_g1.2.2.2.2.2.2.2.2.2.2.2.1 (by decide) ?_
    refine r_pick [6, 5, 4, 3, 2, 1, 0] rfl ?_
    exact km_behind_55 hE hm hF _ _ _ _ _ _ _ _ h
/-! isSignHere -/
def wm_isSignHere (post : MS → Int32 → Prop) (σ : MS) (a1 : Int32) : Prop := ((¬ ((m_token σ) = (3 : Int32))) → (post σ (0 : Int32))) ∧ (((m_token σ) = (3 : Int32)) → (((¬ ((m_sign σ) = a1)) → (post σ (0 : Int32))) ∧ (((m_sign σ) = a1) → (post σ (1 : Int32)))))
set_option maxRecDepth 20000 in
theorem km_isSignHere {l : Launch} {D : va_G} {cl : List vw_C} {G : gAd} {post : MS → Int32 → Prop} (hcl : mC cl) {σ : MS} {a1 : Int32} (h : wm_isSignHere post σ a1) : mMet l D cl G yX13_isSignHere cX13_isSignHere 2 (some .boolean) 1 [.ref (G.1 0), .int a1] σ (qI post) := by
  unfold wm_isSignHere at h
  refine m_enter hcl (by decide +kernel) rfl [(0, .ref (G.1 0)), (1, .int a1)] rfl (Nat.le_of_ble_eq_true rfl) ?_
  intro E hE hm hF
  have hN := hm.2.2.2.2.2.2.1
  refine r_aload_n hE 0 dX13_isSignHere_g0.1 rfl rfl ?_
  refine mg_token hE hm dX13_isSignHere_g0.2.1 ?_
  refine r_iconst (v := (3 : Int32)) hE dX13_isSignHere_g0.2.2.1 (by decide) ?_
  refine r_icmp_ne hE 20 dX13_isSignHere_g0.2.2.2.1 (by decide) h (fun h => ?_) (fun h => ?_)
  · refine r_iconst (v := (0 : Int32)) hE dX13_isSignHere_g0.2.2.2.2.2.2.2.2.2.2.1 (by decide) ?_
    exact m_zret hE hm hF dX13_isSignHere_g0.2.2.2.2.2.2.2.2.2.2.2 (Or.inl rfl) h
  · refine r_aload_n hE 0 dX13_isSignHere_g0.2.2.2.2.1 rfl rfl ?_
    refine mg_sign hE hm dX13_isSignHere_g0.2.2.2.2.2.1 ?_
    refine r_iload_n hE 1 dX13_isSignHere_g0.2.2.2.2.2.2.1 rfl rfl ?_
    refine r_icmp_ne hE 20 dX13_isSignHere_g0.2.2.2.2.2.2.2.1 (by decide) h (fun h => ?_) (fun h => ?_)
    · refine r_iconst (v := (0 : Int32)) hE dX13_isSignHere_g0.2.2.2.2.2.2.2.2.2.2.1 (by decide) ?_
      exact m_zret hE hm hF dX13_isSignHere_g0.2.2.2.2.2.2.2.2.2.2.2 (Or.inl rfl) h
    · refine r_iconst (v := (1 : Int32)) hE dX13_isSignHere_g0.2.2.2.2.2.2.2.2.1 (by decide) ?_
      refine r_goto hE 21 dX13_isSignHere_g0.2.2.2.2.2.2.2.2.2.1 (by decide) ?_
      exact m_zret hE hm hF dX13_isSignHere_g0.2.2.2.2.2.2.2.2.2.2.2 (Or.inr rfl) h
/-! wordOf10 -/
def wm_wordOf_wordList_118 (post : MS → Int32 → Prop) (lp7 : MS → Int32 → Int32 → Int32 → Prop) (σ : MS) (v2 : Int32) (v3 : Int32) (v4 : Int32) : Prop := ∀ x1 : Int32, x1 = v4 + (1 : Int32) → lp7 σ v2 v3 x1
set_option maxRecDepth 20000 in
theorem km_wordOf_wordList_118 {E : gEnv} {l : Launch} {D : va_G} {cl : List vw_C} {G : gAd} {post : MS → Int32 → Prop} (hE : gOK E cX13_wordOf RX13 (some .int) 1) (hm : mOK E l D cl G (qI post) 7) (hF : gFin E) {lp7 : MS → Int32 → Int32 → Int32 → Prop} (hl7 : ∀ (σ : MS) (v2 : Int32) (v3 : Int32) (v4 : Int32), lp7 σ v2 v3 v4 → GW E (mW G σ) 7 [(0, .ref (G.1 0)), (1, .ref (G.1 10)), (2, .int v2), (3, .int v3), (4, .int v4)] []) (σ : MS) (v2 : Int32) (v3 : Int32) (v4 : Int32) (h : wm_wordOf_wordList_118 post lp7 σ v2 v3 v4) : GW E (mW G σ) 118 [(0, .ref (G.1 0)), (1, .ref (G.1 10)), (2, .int v2), (3, .int v3), (4, .int v4)] [] := by
  unfold wm_wordOf_wordList_118 at h
  have hN := hm.2.2.2.2.2.2.1
  obtain ⟨x1, ex1⟩ : ∃ z : Int32, z = v4 + (1 : Int32) := ⟨_, rfl⟩
  have h := h x1 ex1
  refine r_iinc (v := x1) hE [(4, .int x1), (0, .ref (G.1 0)), (1, .ref (G.1 10)), (2, .int v2), (3, .int v3)] 4 dX13_wordOf_g4.2.2.1 rfl (by rw [ex1]; rfl) hN (by decide) rfl ?_
  refine r_goto hE 7 dX13_wordOf_g4.2.2.2.1 (by decide) ?_
  refine r_pick [1, 2, 3, 4, 0] rfl ?_
  exact hl7 _ _ _ _ h
def wm_wordOf_wordList_103 (post : MS → Int32 → Prop) (lp7 : MS → Int32 → Int32 → Int32 → Prop) (σ : MS) (v2 : Int32) (v4 : Int32) (v5 : Int32) : Prop := ((v5 = (0 : Int32)) → (∀ x2 : Int32, x2 = v2 + (1 : Int32) → ∀ x3 : Int32, x3 = v4 + (1 : Int32) → wm_wordOf_wordList_118 post lp7 σ x2 x3 v4)) ∧ ((¬ (v5 = (0 : Int32))) → (post σ v2))
set_option maxRecDepth 20000 in
theorem km_wordOf_wordList_103 {E : gEnv} {l : Launch} {D : va_G} {cl : List vw_C} {G : gAd} {post : MS → Int32 → Prop} (hE : gOK E cX13_wordOf RX13 (some .int) 1) (hm : mOK E l D cl G (qI post) 7) (hF : gFin E) {lp7 : MS → Int32 → Int32 → Int32 → Prop} (hl7 : ∀ (σ : MS) (v2 : Int32) (v3 : Int32) (v4 : Int32), lp7 σ v2 v3 v4 → GW E (mW G σ) 7 [(0, .ref (G.1 0)), (1, .ref (G.1 10)), (2, .int v2), (3, .int v3), (4, .int v4)] []) (σ : MS) (v2 : Int32) (v4 : Int32) (v5 : Int32) (h : wm_wordOf_wordList_103 post lp7 σ v2 v4 v5) : GW E (mW G σ) 103 [(0, .ref (G.1 0)), (1, .ref (G.1 10)), (2, .int v2), (4, .int v4), (5, .int v5)] [] := by
  unfold wm_wordOf_wordList_103 at h
  have hN := hm.2.2.2.2.2.2.1
  refine r_iload hE 4 dX13_wordOf_g3.2.2.2.2.2.2.2.2.2.1 rfl ?_
  refine r_if_eq hE 110 dX13_wordOf_g3.2.2.2.2.2.2.2.2.2.2.1 (by decide) h (fun h => ?_) (fun h => ?_)
  · obtain ⟨x2, ex2⟩ : ∃ z : Int32, z = v2 + (1 : Int32) := ⟨_, rfl⟩
    have h := h x2 ex2
    refine r_iinc (v := x2) hE [(2, .int x2), (0, .ref (G.1 0)), (1, .ref (G.1 10)), (4, .int v4), (5, .int v5)] 2 dX13_wordOf_g3.2.2.2.2.2.2.2.2.2.2.2.2.2.1 rfl (by rw [ex2]; rfl) hN (by decide) rfl ?_
    refine r_iload hE 3 dX13_wordOf_g3.2.2.2.2.2.2.2.2.2.2.2.2.2.2.1 rfl ?_
    refine r_iconst (v := (1 : Int32)) hE dX13_wordOf_g3.2.2.2.2.2.2.2.2.2.2.2.2.2.2.2 (by decide) ?_
    refine r_iadd hE dX13_wordOf_g4.1 ?_
    refine r_topi h (fun x3 ex3 h => ?_)
    refine r_istore_n hE [(3, .int x3), (2, .int x2), (0, .ref (G.1 0)), (1, .ref (G.1 10)), (4, .int v4), (5, .int v5)] dX13_wordOf_g4.2.1 rfl hN (by decide) rfl ?_
    refine r_pick [2, 3, 1, 0, 4] rfl ?_
    exact km_wordOf_wordList_118 hE hm hF hl7 _ _ _ _ h
  · refine r_iload_n hE 2 dX13_wordOf_g3.2.2.2.2.2.2.2.2.2.2.2.1 rfl rfl ?_
    exact m_iret hE hm hF dX13_wordOf_g3.2.2.2.2.2.2.2.2.2.2.2.2.1 h
def wm_wordOf_wordList_95 (post : MS → Int32 → Prop) (lp7 : MS → Int32 → Int32 → Int32 → Prop) (lp55 : MS → Int32 → Int32 → Int32 → Int32 → Int32 → Prop) (σ : MS) (v2 : Int32) (v3 : Int32) (v4 : Int32) (v6 : Int32) (t0 : Int32) : Prop := ∀ x4 : Int32, x4 = v6 + (1 : Int32) → lp55 σ v2 v3 v4 t0 x4
set_option maxRecDepth 20000 in
theorem km_wordOf_wordList_95 {E : gEnv} {l : Launch} {D : va_G} {cl : List vw_C} {G : gAd} {post : MS → Int32 → Prop} (hE : gOK E cX13_wordOf RX13 (some .int) 1) (hm : mOK E l D cl G (qI post) 7) (hF : gFin E) {lp7 : MS → Int32 → Int32 → Int32 → Prop} {lp55 : MS → Int32 → Int32 → Int32 → Int32 → Int32 → Prop} (hl7 : ∀ (σ : MS) (v2 : Int32) (v3 : Int32) (v4 : Int32), lp7 σ v2 v3 v4 → GW E (mW G σ) 7 [(0, .ref (G.1 0)), (1, .ref (G.1 10)), (2, .int v2), (3, .int v3), (4, .int v4)] []) (hl55 : ∀ (σ : MS) (v2 : Int32) (v3 : Int32) (v4 : Int32) (v5 : Int32) (v6 : Int32), lp55 σ v2 v3 v4 v5 v6 → GW E (mW G σ) 55 [(0, .ref (G.1 0)), (1, .ref (G.1 10)), (2, .int v2), (3, .int v3), (4, .int v4), (5, .int v5), (6, .int v6)] []) (σ : MS) (v2 : Int32) (v3 : Int32) (v4 : Int32) (v6 : Int32) (t0 : Int32) (h : wm_wordOf_wordList_95 post lp7 lp55 σ v2 v3 v4 v6 t0) : GW E (mW G σ) 95 [(0, .ref (G.1 0)), (1, .ref (G.1 10)), (2, .int v2), (3, .int v3), (4, .int v4), (6, .int v6)] [.int t0] := by
  unfold wm_wordOf_wordList_95 at h
  have hN := hm.2.2.2.2.2.2.1
  refine r_istore hE [(5, .int t0), (0, .ref (G.1 0)), (1, .ref (G.1 10)), (2, .int v2), (3, .int v3), (4, .int v4), (6, .int v6)] dX13_wordOf_g3.2.2.2.2.2.2.1 hN (by decide) rfl ?_
  obtain ⟨x4, ex4⟩ : ∃ z : Int32, z = v6 + (1 : Int32) := ⟨_, rfl⟩
  have h := h x4 ex4
  refine r_iinc (v := x4) hE [(6, .int x4), (5, .int t0), (0, .ref (G.1 0)), (1, .ref (G.1 10)), (2, .int v2), (3, .int v3), (4, .int v4)] 6 dX13_wordOf_g3.2.2.2.2.2.2.2.1 rfl (by rw [ex4]; rfl) hN (by decide) rfl ?_
  refine r_goto hE 55 dX13_wordOf_g3.2.2.2.2.2.2.2.2.1 (by decide) ?_
  refine r_pick [2, 3, 4, 5, 6, 1, 0] rfl ?_
  exact hl55 _ _ _ _ _ _ h
def wm_wordOf_wordList_55 (post : MS → Int32 → Prop) (lp7 : MS → Int32 → Int32 → Int32 → Prop) : Nat → MS → Int32 → Int32 → Int32 → Int32 → Int32 → Prop
  | 0, _, _, _, _, _, _ => False
  | n + 1, σ, v2, v3, v4, v5, v6 => (((m_tokenSize σ) ≤ v6) → (wm_wordOf_wordList_103 post lp7 σ v2 v4 v5)) ∧ ((¬ ((m_tokenSize σ) ≤ v6)) → (((v5 = (0 : Int32)) → (wm_wordOf_wordList_103 post lp7 σ v2 v4 v5)) ∧ ((¬ (v5 = (0 : Int32))) → (vp_in ((m_tokenAt σ) + v6) 3000 ∧ (vp_in (v3 + v6) 36 ∧ (((¬ ((m_tape σ ((m_tokenAt σ) + v6).toNatClampNeg) = (m_wordList σ (v3 + v6).toNatClampNeg))) → (wm_wordOf_wordList_95 post lp7 (fun (ys : MS) (y0 : Int32) (y1 : Int32) (y2 : Int32) (y3 : Int32) (y4 : Int32) => wm_wordOf_wordList_55 post lp7 n ys y0 y1 y2 y3 y4) σ v2 v3 v4 v6 (0 : Int32))) ∧ (((m_tape σ ((m_tokenAt σ) + v6).toNatClampNeg) = (m_wordList σ (v3 + v6).toNatClampNeg)) → (wm_wordOf_wordList_95 post lp7 (fun (ys : MS) (y0 : Int32) (y1 : Int32) (y2 : Int32) (y3 : Int32) (y4 : Int32) => wm_wordOf_wordList_55 post lp7 n ys y0 y1 y2 y3 y4) σ v2 v3 v4 v6 (1 : Int32)))))))))
set_option maxRecDepth 20000 in
theorem km_wordOf_wordList_55 {E : gEnv} {l : Launch} {D : va_G} {cl : List vw_C} {G : gAd} {post : MS → Int32 → Prop} (hE : gOK E cX13_wordOf RX13 (some .int) 1) (hm : mOK E l D cl G (qI post) 7) (hF : gFin E) {lp7 : MS → Int32 → Int32 → Int32 → Prop} (hl7 : ∀ (σ : MS) (v2 : Int32) (v3 : Int32) (v4 : Int32), lp7 σ v2 v3 v4 → GW E (mW G σ) 7 [(0, .ref (G.1 0)), (1, .ref (G.1 10)), (2, .int v2), (3, .int v3), (4, .int v4)] []) : ∀ (n : Nat) (σ : MS) (v2 : Int32) (v3 : Int32) (v4 : Int32) (v5 : Int32) (v6 : Int32), wm_wordOf_wordList_55 post lp7 n σ v2 v3 v4 v5 v6 → GW E (mW G σ) 55 [(0, .ref (G.1 0)), (1, .ref (G.1 10)), (2, .int v2), (3, .int v3), (4, .int v4), (5, .int v5), (6, .int v6)] [] := by
  intro n
  induction n with
  | zero => intro σ v2 v3 v4 v5 v6 h; exact h.elim
  | succ n ih =>
    intro σ v2 v3 v4 v5 v6 h
    rw [wm_wordOf_wordList_55] at h
    have hN := hm.2.2.2.2.2.2.1
    refine r_iload hE 6 dX13_wordOf_g2.1 rfl ?_
    refine r_aload_n hE 0 dX13_wordOf_g2.2.1 rfl rfl ?_
    refine mg_tokenSize hE hm dX13_wordOf_g2.2.2.1 ?_
    refine r_icmp_ge hE 103 dX13_wordOf_g2.2.2.2.1 (by decide) h (fun h => ?_) (fun h => ?_)
    · refine r_pick [0, 1, 2, 4, 5] rfl ?_
      exact km_wordOf_wordList_103 hE hm hF hl7 _ _ _ _ h
    · refine r_iload hE 5 dX13_wordOf_g2.2.2.2.2.1 rfl ?_
      refine r_if_eq hE 103 dX13_wordOf_g2.2.2.2.2.2.1 (by decide) h (fun h => ?_) (fun h => ?_)
      · refine r_pick [0, 1, 2, 4, 5] rfl ?_
        exact km_wordOf_wordList_103 hE hm hF hl7 _ _ _ _ h
      · refine r_aload_n hE 0 dX13_wordOf_g2.2.2.2.2.2.2.1 rfl rfl ?_
        refine mg_tape hE hm dX13_wordOf_g2.2.2.2.2.2.2.2.1 ?_
        refine r_aload_n hE 0 dX13_wordOf_g2.2.2.2.2.2.2.2.2.1 rfl rfl ?_
        refine mg_tokenAt hE hm dX13_wordOf_g2.2.2.2.2.2.2.2.2.2.1 ?_
        refine r_iload hE 6 dX13_wordOf_g2.2.2.2.2.2.2.2.2.2.2.1 rfl ?_
        refine r_iadd hE dX13_wordOf_g2.2.2.2.2.2.2.2.2.2.2.2.1 ?_
        obtain ⟨hi, h⟩ := h
        refine ml_tape hE hm dX13_wordOf_g2.2.2.2.2.2.2.2.2.2.2.2.2.1 hi ?_
        refine r_aload_n hE 1 dX13_wordOf_g2.2.2.2.2.2.2.2.2.2.2.2.2.2.1 rfl rfl ?_
        refine r_iload_n hE 3 dX13_wordOf_g2.2.2.2.2.2.2.2.2.2.2.2.2.2.2.1 rfl rfl ?_
        refine r_iload hE 6 dX13_wordOf_g2.2.2.2.2.2.2.2.2.2.2.2.2.2.2.2 rfl ?_
        refine r_iadd hE dX13_wordOf_g3.1 ?_
        obtain ⟨hi, h⟩ := h
        refine ml_wordList hE hm dX13_wordOf_g3.2.1 hi ?_
        refine r_icmp_ne hE 94 dX13_wordOf_g3.2.2.1 (by decide) h (fun h => ?_) (fun h => ?_)
        · refine r_iconst (v := (0 : Int32)) hE dX13_wordOf_g3.2.2.2.2.2.1 (by decide) ?_
          refine r_pick [0, 1, 2, 3, 4, 6] rfl ?_
          exact km_wordOf_wordList_95 hE hm hF hl7 ih _ _ _ _ _ _ h
        · refine r_iconst (v := (1 : Int32)) hE dX13_wordOf_g3.2.2.2.1 (by decide) ?_
          refine r_goto hE 95 dX13_wordOf_g3.2.2.2.2.1 (by decide) ?_
          refine r_pick [0, 1, 2, 3, 4, 6] rfl ?_
          exact km_wordOf_wordList_95 hE hm hF hl7 ih _ _ _ _ _ _ h
def wm_wordOf_wordList_50 (post : MS → Int32 → Prop) (lp7 : MS → Int32 → Int32 → Int32 → Prop) (σ : MS) (v2 : Int32) (v3 : Int32) (v4 : Int32) (t0 : Int32) : Prop := ∃ k : Nat, wm_wordOf_wordList_55 post lp7 k σ v2 v3 v4 t0 (0 : Int32)
set_option maxRecDepth 20000 in
theorem km_wordOf_wordList_50 {E : gEnv} {l : Launch} {D : va_G} {cl : List vw_C} {G : gAd} {post : MS → Int32 → Prop} (hE : gOK E cX13_wordOf RX13 (some .int) 1) (hm : mOK E l D cl G (qI post) 7) (hF : gFin E) {lp7 : MS → Int32 → Int32 → Int32 → Prop} (hl7 : ∀ (σ : MS) (v2 : Int32) (v3 : Int32) (v4 : Int32), lp7 σ v2 v3 v4 → GW E (mW G σ) 7 [(0, .ref (G.1 0)), (1, .ref (G.1 10)), (2, .int v2), (3, .int v3), (4, .int v4)] []) (σ : MS) (v2 : Int32) (v3 : Int32) (v4 : Int32) (t0 : Int32) (h : wm_wordOf_wordList_50 post lp7 σ v2 v3 v4 t0) : GW E (mW G σ) 50 [(0, .ref (G.1 0)), (1, .ref (G.1 10)), (2, .int v2), (3, .int v3), (4, .int v4)] [.int t0] := by
  unfold wm_wordOf_wordList_50 at h
  have hN := hm.2.2.2.2.2.2.1
  refine r_istore hE [(5, .int t0), (0, .ref (G.1 0)), (1, .ref (G.1 10)), (2, .int v2), (3, .int v3), (4, .int v4)] dX13_wordOf_g1.2.2.2.2.2.2.2.2.2.2.2.2.2.1 hN (by decide) rfl ?_
  refine r_iconst (v := (0 : Int32)) hE dX13_wordOf_g1.2.2.2.2.2.2.2.2.2.2.2.2.2.2.1 (by decide) ?_
  refine r_istore hE [(6, .int (0 : Int32)), (5, .int t0), (0, .ref (G.1 0)), (1, .ref (G.1 10)), (2, .int v2), (3, .int v3), (4, .int v4)] dX13_wordOf_g1.2.2.2.2.2.2.2.2.2.2.2.2.2.2.2 hN (by decide) rfl ?_
  refine r_pick [2, 3, 4, 5, 6, 1, 0] rfl ?_
  obtain ⟨k, h⟩ := h
  exact km_wordOf_wordList_55 hE hm hF hl7 k _ _ _ _ _ _ h
def wm_wordOf_wordList_49 (post : MS → Int32 → Prop) (lp7 : MS → Int32 → Int32 → Int32 → Prop) (σ : MS) (v2 : Int32) (v3 : Int32) (v4 : Int32) : Prop := wm_wordOf_wordList_50 post lp7 σ v2 v3 v4 (0 : Int32)
set_option maxRecDepth 20000 in
theorem km_wordOf_wordList_49 {E : gEnv} {l : Launch} {D : va_G} {cl : List vw_C} {G : gAd} {post : MS → Int32 → Prop} (hE : gOK E cX13_wordOf RX13 (some .int) 1) (hm : mOK E l D cl G (qI post) 7) (hF : gFin E) {lp7 : MS → Int32 → Int32 → Int32 → Prop} (hl7 : ∀ (σ : MS) (v2 : Int32) (v3 : Int32) (v4 : Int32), lp7 σ v2 v3 v4 → GW E (mW G σ) 7 [(0, .ref (G.1 0)), (1, .ref (G.1 10)), (2, .int v2), (3, .int v3), (4, .int v4)] []) (σ : MS) (v2 : Int32) (v3 : Int32) (v4 : Int32) (h : wm_wordOf_wordList_49 post lp7 σ v2 v3 v4) : GW E (mW G σ) 49 [(0, .ref (G.1 0)), (1, .ref (G.1 10)), (2, .int v2), (3, .int v3), (4, .int v4)] [] := by
  unfold wm_wordOf_wordList_49 at h
  have hN := hm.2.2.2.2.2.2.1
  refine r_iconst (v := (0 : Int32)) hE dX13_wordOf_g1.2.2.2.2.2.2.2.2.2.2.2.2.1 (by decide) ?_
  exact km_wordOf_wordList_50 hE hm hF hl7 _ _ _ _ _ h
def wm_wordOf_wordList_7 (post : MS → Int32 → Prop) : Nat → MS → Int32 → Int32 → Int32 → Prop
  | 0, _, _, _, _ => False
  | n + 1, σ, v2, v3, v4 => (((36 : Int32) ≤ v4) → (post σ (-1 : Int32))) ∧ ((¬ ((36 : Int32) ≤ v4)) → (vp_in v4 36 ∧ ((((m_wordList σ v4.toNatClampNeg) = (32 : Int32)) → (((¬ ((m_token σ) = (1 : Int32))) → (wm_wordOf_wordList_49 post (fun (ys : MS) (y0 : Int32) (y1 : Int32) (y2 : Int32) => wm_wordOf_wordList_7 post n ys y0 y1 y2) σ v2 v3 v4)) ∧ (((m_token σ) = (1 : Int32)) → (((¬ ((v4 - v3) = (m_tokenSize σ))) → (wm_wordOf_wordList_49 post (fun (ys : MS) (y0 : Int32) (y1 : Int32) (y2 : Int32) => wm_wordOf_wordList_7 post n ys y0 y1 y2) σ v2 v3 v4)) ∧ (((v4 - v3) = (m_tokenSize σ)) → (wm_wordOf_wordList_50 post (fun (ys : MS) (y0 : Int32) (y1 : Int32) (y2 : Int32) => wm_wordOf_wordList_7 post n ys y0 y1 y2) σ v2 v3 v4 (1 : Int32))))))) ∧ ((¬ ((m_wordList σ v4.toNatClampNeg) = (32 : Int32))) → (wm_wordOf_wordList_118 post (fun (ys : MS) (y0 : Int32) (y1 : Int32) (y2 : Int32) => wm_wordOf_wordList_7 post n ys y0 y1 y2) σ v2 v3 v4)))))
set_option maxRecDepth 20000 in
theorem km_wordOf_wordList_7 {E : gEnv} {l : Launch} {D : va_G} {cl : List vw_C} {G : gAd} {post : MS → Int32 → Prop} (hE : gOK E cX13_wordOf RX13 (some .int) 1) (hm : mOK E l D cl G (qI post) 7) (hF : gFin E) : ∀ (n : Nat) (σ : MS) (v2 : Int32) (v3 : Int32) (v4 : Int32), wm_wordOf_wordList_7 post n σ v2 v3 v4 → GW E (mW G σ) 7 [(0, .ref (G.1 0)), (1, .ref (G.1 10)), (2, .int v2), (3, .int v3), (4, .int v4)] [] := by
  intro n
  induction n with
  | zero => intro σ v2 v3 v4 h; exact h.elim
  | succ n ih =>
    intro σ v2 v3 v4 h
    rw [wm_wordOf_wordList_7] at h
    have hN := hm.2.2.2.2.2.2.1
    refine r_iload hE 4 dX13_wordOf_g0.2.2.2.2.2.2.1 rfl ?_
    refine r_aload_n hE 1 dX13_wordOf_g0.2.2.2.2.2.2.2.1 rfl rfl ?_
    refine mn_wordList hE hm dX13_wordOf_g0.2.2.2.2.2.2.2.2.1 ?_
    refine r_icmp_ge hE 124 dX13_wordOf_g0.2.2.2.2.2.2.2.2.2.1 (by decide) h (fun h => ?_) (fun h => ?_)
    · refine r_iconst (v := (-1 : Int32)) hE dX13_wordOf_g4.2.2.2.2.1 (by decide) ?_
      exact m_iret hE hm hF dX13_wordOf_g4.2.2.2.2.2 h
    · refine r_aload_n hE 1 dX13_wordOf_g0.2.2.2.2.2.2.2.2.2.2.1 rfl rfl ?_
      refine r_iload hE 4 dX13_wordOf_g0.2.2.2.2.2.2.2.2.2.2.2.1 rfl ?_
      obtain ⟨hi, h⟩ := h
      refine ml_wordList hE hm dX13_wordOf_g0.2.2.2.2.2.2.2.2.2.2.2.2.1 hi ?_
      refine r_bipush (v := (32 : Int32)) hE dX13_wordOf_g0.2.2.2.2.2.2.2.2.2.2.2.2.2.1 (by decide) ?_
      refine r_icmp_eq hE 26 dX13_wordOf_g0.2.2.2.2.2.2.2.2.2.2.2.2.2.2.1 (by decide) h (fun h => ?_) (fun h => ?_)
      · refine r_aload_n hE 0 dX13_wordOf_g1.1 rfl rfl ?_
        refine mg_token hE hm dX13_wordOf_g1.2.1 ?_
        refine r_iconst (v := (1 : Int32)) hE dX13_wordOf_g1.2.2.1 (by decide) ?_
        refine r_icmp_ne hE 49 dX13_wordOf_g1.2.2.2.1 (by decide) h (fun h => ?_) (fun h => ?_)
        · exact km_wordOf_wordList_49 hE hm hF ih _ _ _ _ h
        · refine r_iload hE 4 dX13_wordOf_g1.2.2.2.2.1 rfl ?_
          refine r_iload_n hE 3 dX13_wordOf_g1.2.2.2.2.2.1 rfl rfl ?_
          refine r_isub hE dX13_wordOf_g1.2.2.2.2.2.2.1 ?_
          refine r_aload_n hE 0 dX13_wordOf_g1.2.2.2.2.2.2.2.1 rfl rfl ?_
          refine mg_tokenSize hE hm dX13_wordOf_g1.2.2.2.2.2.2.2.2.1 ?_
          refine r_icmp_ne hE 49 dX13_wordOf_g1.2.2.2.2.2.2.2.2.2.1 (by decide) h (fun h => ?_) (fun h => ?_)
          · exact km_wordOf_wordList_49 hE hm hF ih _ _ _ _ h
          · refine r_iconst (v := (1 : Int32)) hE dX13_wordOf_g1.2.2.2.2.2.2.2.2.2.2.1 (by decide) ?_
            refine r_goto hE 50 dX13_wordOf_g1.2.2.2.2.2.2.2.2.2.2.2.1 (by decide) ?_
            exact km_wordOf_wordList_50 hE hm hF ih _ _ _ _ _ h
      · refine r_goto hE 118 dX13_wordOf_g0.2.2.2.2.2.2.2.2.2.2.2.2.2.2.2 (by decide) ?_
        exact km_wordOf_wordList_118 hE hm hF ih _ _ _ _ h
def wm_wordOf_wordList (post : MS → Int32 → Prop) (σ : MS) : Prop := ∃ k : Nat, wm_wordOf_wordList_7 post k σ (0 : Int32) (0 : Int32) (0 : Int32)
set_option maxRecDepth 20000 in
theorem km_wordOf_wordList {l : Launch} {D : va_G} {cl : List vw_C} {G : gAd} {post : MS → Int32 → Prop} (hcl : mC cl) {σ : MS} (h : wm_wordOf_wordList post σ) : mMet l D cl G yX13_wordOf cX13_wordOf 7 (some .int) 1 [.ref (G.1 0), .ref (G.1 10)] σ (qI post) := by
  unfold wm_wordOf_wordList at h
  refine m_enter hcl (by decide +kernel) rfl [(0, .ref (G.1 0)), (1, .ref (G.1 10))] rfl (Nat.le_of_ble_eq_true rfl) ?_
  intro E hE hm hF
  have hN := hm.2.2.2.2.2.2.1
  refine r_iconst (v := (0 : Int32)) hE dX13_wordOf_g0.1 (by decide) ?_
  refine r_istore_n hE [(2, .int (0 : Int32)), (0, .ref (G.1 0)), (1, .ref (G.1 10))] dX13_wordOf_g0.2.1 rfl hN (by decide) rfl ?_
  refine r_iconst (v := (0 : Int32)) hE dX13_wordOf_g0.2.2.1 (by decide) ?_
  refine r_istore_n hE [(3, .int (0 : Int32)), (2, .int (0 : Int32)), (0, .ref (G.1 0)), (1, .ref (G.1 10))] dX13_wordOf_g0.2.2.2.1 rfl hN (by decide) rfl ?_
  refine r_iconst (v := (0 : Int32)) hE dX13_wordOf_g0.2.2.2.2.1 (by decide) ?_
  refine r_istore hE [(4, .int (0 : Int32)), (3, .int (0 : Int32)), (2, .int (0 : Int32)), (0, .ref (G.1 0)), (1, .ref (G.1 10))] dX13_wordOf_g0.2.2.2.2.2.1 hN (by decide) rfl ?_
  refine r_pick [3, 4, 2, 1, 0] rfl ?_
  obtain ⟨k, h⟩ := h
  exact km_wordOf_wordList_7 hE hm hF k _ _ _ _ h
/-! isName -/
def wm_isName (post : MS → Int32 → Prop) (σ : MS) : Prop := ((¬ ((m_token σ) = (1 : Int32))) → (post σ (0 : Int32))) ∧ (((m_token σ) = (1 : Int32)) → (wm_wordOf_wordList (fun (s1 : MS) (r2 : Int32) => (((0 : Int32) ≤ r2) → (post s1 (0 : Int32))) ∧ ((¬ ((0 : Int32) ≤ r2)) → (post s1 (1 : Int32)))) σ))
set_option maxRecDepth 20000 in
theorem km_isName {l : Launch} {D : va_G} {cl : List vw_C} {G : gAd} {post : MS → Int32 → Prop} (hcl : mC cl) {σ : MS} (h : wm_isName post σ) : mMet l D cl G yX13_isName cX13_isName 1 (some .boolean) 2 [.ref (G.1 0)] σ (qI post) := by
  unfold wm_isName at h
  refine m_enter hcl (by decide +kernel) rfl [(0, .ref (G.1 0))] rfl (Nat.le_of_ble_eq_true rfl) ?_
  intro E hE hm hF
  have hN := hm.2.2.2.2.2.2.1
  refine r_aload_n hE 0 dX13_isName_g0.1 rfl rfl ?_
  refine mg_token hE hm dX13_isName_g0.2.1 ?_
  refine r_iconst (v := (1 : Int32)) hE dX13_isName_g0.2.2.1 (by decide) ?_
  refine r_icmp_ne hE 23 dX13_isName_g0.2.2.2.1 (by decide) h (fun h => ?_) (fun h => ?_)
  · refine r_iconst (v := (0 : Int32)) hE dX13_isName_g0.2.2.2.2.2.2.2.2.2.2.2.1 (by decide) ?_
    exact m_zret hE hm hF dX13_isName_g0.2.2.2.2.2.2.2.2.2.2.2.2 (Or.inl rfl) h
  · refine r_aload_n hE 0 dX13_isName_g0.2.2.2.2.1 rfl rfl ?_
    refine r_aload_n hE 0 dX13_isName_g0.2.2.2.2.2.1 rfl rfl ?_
    refine mg_wordList hE hm dX13_isName_g0.2.2.2.2.2.2.1 ?_
    refine m_callVi hE hm [.ref (G.1 10)] [] mc_wordOf (km_wordOf_wordList hm.2.2.2.2.2.2.2.2 h) (by decide) rfl rfl (Nat.le_of_ble_eq_true rfl) dX13_isName_g0.2.2.2.2.2.2.2.1 (fun s1 r2 h => ?_)
    refine r_if_ge hE 23 dX13_isName_g0.2.2.2.2.2.2.2.2.1 (by decide) h (fun h => ?_) (fun h => ?_)
    · refine r_iconst (v := (0 : Int32)) hE dX13_isName_g0.2.2.2.2.2.2.2.2.2.2.2.1 (by decide) ?_
      exact m_zret hE hm hF dX13_isName_g0.2.2.2.2.2.2.2.2.2.2.2.2 (Or.inl rfl) h
    · refine r_iconst (v := (1 : Int32)) hE dX13_isName_g0.2.2.2.2.2.2.2.2.2.1 (by decide) ?_
      refine r_goto hE 24 dX13_isName_g0.2.2.2.2.2.2.2.2.2.2.1 (by decide) ?_
      exact m_zret hE hm hF dX13_isName_g0.2.2.2.2.2.2.2.2.2.2.2.2 (Or.inr rfl) h
/-! wrong -/
def wm_wrong (post : MS → Prop) (σ : MS) (a1 : Int32) (a2 : Int32) : Prop := ((¬ ((m_fault σ) = (0 : Int32))) → (post σ)) ∧ (((m_fault σ) = (0 : Int32)) → (∀ s1 : MS, s1 = m_fault_s σ a1 → ∀ s2 : MS, s2 = m_faultAt_s s1 a2 → post s2))
set_option maxRecDepth 20000 in
theorem km_wrong {l : Launch} {D : va_G} {cl : List vw_C} {G : gAd} {post : MS → Prop} (hcl : mC cl) {σ : MS} {a1 : Int32} {a2 : Int32} (h : wm_wrong post σ a1 a2) : mMet l D cl G yX13_wrong cX13_wrong 3 none 1 [.ref (G.1 0), .int a1, .int a2] σ (qV post) := by
  unfold wm_wrong at h
  refine m_enter hcl (by decide +kernel) rfl [(0, .ref (G.1 0)), (1, .int a1), (2, .int a2)] rfl (Nat.le_of_ble_eq_true rfl) ?_
  intro E hE hm hF
  have hN := hm.2.2.2.2.2.2.1
  refine r_aload_n hE 0 dX13_wrong_g0.1 rfl rfl ?_
  refine mg_fault hE hm dX13_wrong_g0.2.1 ?_
  refine r_if_ne hE 17 dX13_wrong_g0.2.2.1 (by decide) h (fun h => ?_) (fun h => ?_)
  · exact m_vret hE hm hF dX13_wrong_g0.2.2.2.2.2.2.2.2.2 h
  · refine r_aload_n hE 0 dX13_wrong_g0.2.2.2.1 rfl rfl ?_
    refine r_iload_n hE 1 dX13_wrong_g0.2.2.2.2.1 rfl rfl ?_
    refine mp_fault hE hm dX13_wrong_g0.2.2.2.2.2.1 h (fun s1 h => ?_)
    refine r_aload_n hE 0 dX13_wrong_g0.2.2.2.2.2.2.1 rfl rfl ?_
    refine r_iload_n hE 2 dX13_wrong_g0.2.2.2.2.2.2.2.1 rfl rfl ?_
    refine mp_faultAt hE hm dX13_wrong_g0.2.2.2.2.2.2.2.2.1 h (fun s2 h => ?_)
    exact m_vret hE hm hF dX13_wrong_g0.2.2.2.2.2.2.2.2.2 h
/-! fine -/
def wm_fine (post : MS → Int32 → Prop) (σ : MS) : Prop := ((¬ ((m_fault σ) = (0 : Int32))) → (post σ (0 : Int32))) ∧ (((m_fault σ) = (0 : Int32)) → (post σ (1 : Int32)))
set_option maxRecDepth 20000 in
theorem km_fine {l : Launch} {D : va_G} {cl : List vw_C} {G : gAd} {post : MS → Int32 → Prop} (hcl : mC cl) {σ : MS} (h : wm_fine post σ) : mMet l D cl G yX13_fine cX13_fine 1 (some .boolean) 1 [.ref (G.1 0)] σ (qI post) := by
  unfold wm_fine at h
  refine m_enter hcl (by decide +kernel) rfl [(0, .ref (G.1 0))] rfl (Nat.le_of_ble_eq_true rfl) ?_
  intro E hE hm hF
  have hN := hm.2.2.2.2.2.2.1
  refine r_aload_n hE 0 dX13_fine_g0.1 rfl rfl ?_
  refine mg_fault hE hm dX13_fine_g0.2.1 ?_
  refine r_if_ne hE 11 dX13_fine_g0.2.2.1 (by decide) h (fun h => ?_) (fun h => ?_)
  · refine r_iconst (v := (0 : Int32)) hE dX13_fine_g0.2.2.2.2.2.1 (by decide) ?_
    exact m_zret hE hm hF dX13_fine_g0.2.2.2.2.2.2 (Or.inl rfl) h
  · refine r_iconst (v := (1 : Int32)) hE dX13_fine_g0.2.2.2.1 (by decide) ?_
    refine r_goto hE 12 dX13_fine_g0.2.2.2.2.1 (by decide) ?_
    exact m_zret hE hm hF dX13_fine_g0.2.2.2.2.2.2 (Or.inr rfl) h
/-! misplaced -/
def wm_misplaced_14 (post : MS → Prop) (σ : MS) (t1 : Int32) : Prop := wm_wrong (fun (s1 : MS) => post s1) σ t1 (m_tokenAt σ)
set_option maxRecDepth 20000 in
theorem km_misplaced_14 {E : gEnv} {l : Launch} {D : va_G} {cl : List vw_C} {G : gAd} {post : MS → Prop} (hE : gOK E cX13_misplaced RX13 none 2) (hm : mOK E l D cl G (qV post) 1) (hF : gFin E) (σ : MS) (t1 : Int32) (h : wm_misplaced_14 post σ t1) : GW E (mW G σ) 14 [(0, .ref (G.1 0))] [.int t1, .ref (G.1 0)] := by
  unfold wm_misplaced_14 at h
  have hN := hm.2.2.2.2.2.2.1
  refine r_aload_n hE 0 dX13_misplaced_g0.2.2.2.2.2.2.2.2.1 rfl rfl ?_
  refine mg_tokenAt hE hm dX13_misplaced_g0.2.2.2.2.2.2.2.2.2.1 ?_
  refine m_callVv hE hm [.int t1, .int (m_tokenAt σ)] [] mc_wrong (km_wrong hm.2.2.2.2.2.2.2.2 h) (by decide) rfl rfl (Nat.le_of_ble_eq_true rfl) dX13_misplaced_g0.2.2.2.2.2.2.2.2.2.2.1 (fun s1 h => ?_)
  exact m_vret hE hm hF dX13_misplaced_g0.2.2.2.2.2.2.2.2.2.2.2 h
def wm_misplaced (post : MS → Prop) (σ : MS) : Prop := ((¬ ((m_token σ) = (4 : Int32))) → (wm_misplaced_14 post σ (2 : Int32))) ∧ (((m_token σ) = (4 : Int32)) → (wm_misplaced_14 post σ (1 : Int32)))
set_option maxRecDepth 20000 in
theorem km_misplaced {l : Launch} {D : va_G} {cl : List vw_C} {G : gAd} {post : MS → Prop} (hcl : mC cl) {σ : MS} (h : wm_misplaced post σ) : mMet l D cl G yX13_misplaced cX13_misplaced 1 none 2 [.ref (G.1 0)] σ (qV post) := by
  unfold wm_misplaced at h
  refine m_enter hcl (by decide +kernel) rfl [(0, .ref (G.1 0))] rfl (Nat.le_of_ble_eq_true rfl) ?_
  intro E hE hm hF
  have hN := hm.2.2.2.2.2.2.1
  refine r_aload_n hE 0 dX13_misplaced_g0.1 rfl rfl ?_
  refine r_aload_n hE 0 dX13_misplaced_g0.2.1 rfl rfl ?_
  refine mg_token hE hm dX13_misplaced_g0.2.2.1 ?_
  refine r_iconst (v := (4 : Int32)) hE dX13_misplaced_g0.2.2.2.1 (by decide) ?_
  refine r_icmp_ne hE 13 dX13_misplaced_g0.2.2.2.2.1 (by decide) h (fun h => ?_) (fun h => ?_)
  · refine r_iconst (v := (2 : Int32)) hE dX13_misplaced_g0.2.2.2.2.2.2.2.1 (by decide) ?_
    exact km_misplaced_14 hE hm hF _ _ h
  · refine r_iconst (v := (1 : Int32)) hE dX13_misplaced_g0.2.2.2.2.2.1 (by decide) ?_
    refine r_goto hE 14 dX13_misplaced_g0.2.2.2.2.2.2.1 (by decide) ?_
    exact km_misplaced_14 hE hm hF _ _ h
/-! take -/
def wm_take (post : MS → Prop) (σ : MS) (a1 : Int32) : Prop := wm_fine (fun (s1 : MS) (r2 : Int32) => ((¬ (r2 = (0 : Int32))) → (wm_isSignHere (fun (s3 : MS) (r4 : Int32) => ((r4 = (0 : Int32)) → (wm_misplaced (fun (s5 : MS) => post s5) s3)) ∧ ((¬ (r4 = (0 : Int32))) → (wm_next (fun (s6 : MS) => post s6) s3))) s1 a1)) ∧ ((r2 = (0 : Int32)) → (post s1))) σ
set_option maxRecDepth 20000 in
theorem km_take {l : Launch} {D : va_G} {cl : List vw_C} {G : gAd} {post : MS → Prop} (hcl : mC cl) {σ : MS} {a1 : Int32} (h : wm_take post σ a1) : mMet l D cl G yX13_take cX13_take 2 none 5 [.ref (G.1 0), .int a1] σ (qV post) := by
  unfold wm_take at h
  refine m_enter hcl (by decide +kernel) rfl [(0, .ref (G.1 0)), (1, .int a1)] rfl (Nat.le_of_ble_eq_true rfl) ?_
  intro E hE hm hF
  have hN := hm.2.2.2.2.2.2.1
  refine r_aload_n hE 0 dX13_take_g0.1 rfl rfl ?_
  refine m_callVi hE hm [] [] mc_fine (km_fine hm.2.2.2.2.2.2.2.2 h) (by decide) rfl rfl (Nat.le_of_ble_eq_true rfl) dX13_take_g0.2.1 (fun s1 r2 h => ?_)
  refine r_if_ne hE 8 dX13_take_g0.2.2.1 (by decide) h (fun h => ?_) (fun h => ?_)
  · refine r_aload_n hE 0 dX13_take_g0.2.2.2.2.1 rfl rfl ?_
    refine r_iload_n hE 1 dX13_take_g0.2.2.2.2.2.1 rfl rfl ?_
    refine m_callVi hE hm [.int a1] [] mc_isSignHere (km_isSignHere hm.2.2.2.2.2.2.2.2 h) (by decide) rfl rfl (Nat.le_of_ble_eq_true rfl) dX13_take_g0.2.2.2.2.2.2.1 (fun s3 r4 h => ?_)
    refine r_if_eq hE 23 dX13_take_g0.2.2.2.2.2.2.2.1 (by decide) h (fun h => ?_) (fun h => ?_)
    · refine r_aload_n hE 0 dX13_take_g0.2.2.2.2.2.2.2.2.2.2.2.1 rfl rfl ?_
      refine m_callVv hE hm [] [] mc_misplaced (km_misplaced hm.2.2.2.2.2.2.2.2 h) (by decide) rfl rfl (Nat.le_of_ble_eq_true rfl) dX13_take_g0.2.2.2.2.2.2.2.2.2.2.2.2.1 (fun s5 h => ?_)
      exact m_vret hE hm hF dX13_take_g0.2.2.2.2.2.2.2.2.2.2.2.2.2 h
    · refine r_aload_n hE 0 dX13_take_g0.2.2.2.2.2.2.2.2.1 rfl rfl ?_
      refine m_callVv hE hm [] [] mc_next (km_next hm.2.2.2.2.2.2.2.2 h) (by decide) rfl rfl (Nat.le_of_ble_eq_true rfl) dX13_take_g0.2.2.2.2.2.2.2.2.2.1 (fun s6 h => ?_)
      refine r_goto hE 27 dX13_take_g0.2.2.2.2.2.2.2.2.2.2.1 (by decide) ?_
      exact m_vret hE hm hF dX13_take_g0.2.2.2.2.2.2.2.2.2.2.2.2.2 h
  · exact m_vret hE hm hF dX13_take_g0.2.2.2.1 h
/-! open -/
def wm_open (post : MS → Prop) (σ : MS) (a1 : Int32) : Prop := wm_fine (fun (s1 : MS) (r2 : Int32) => ((¬ (r2 = (0 : Int32))) → (wm_isSignHere (fun (s3 : MS) (r4 : Int32) => ((¬ (r4 = (0 : Int32))) → (((¬ ((m_deep s3) = (10 : Int32))) → (∀ s5 : MS, s5 = m_deep_s s3 ((m_deep s3) + (1 : Int32)) → wm_next (fun (s6 : MS) => post s6) s5)) ∧ (((m_deep s3) = (10 : Int32)) → (wm_wrong (fun (s7 : MS) => post s7) s3 (3 : Int32) (m_tokenAt s3))))) ∧ ((r4 = (0 : Int32)) → (wm_misplaced (fun (s8 : MS) => post s8) s3))) s1 a1)) ∧ ((r2 = (0 : Int32)) → (post s1))) σ
set_option maxRecDepth 20000 in
theorem km_open {l : Launch} {D : va_G} {cl : List vw_C} {G : gAd} {post : MS → Prop} (hcl : mC cl) {σ : MS} {a1 : Int32} (h : wm_open post σ a1) : mMet l D cl G yX13_open cX13_open 2 none 5 [.ref (G.1 0), .int a1] σ (qV post) := by
  unfold wm_open at h
  refine m_enter hcl (by decide +kernel) rfl [(0, .ref (G.1 0)), (1, .int a1)] rfl (Nat.le_of_ble_eq_true rfl) ?_
  intro E hE hm hF
  have hN := hm.2.2.2.2.2.2.1
  refine r_aload_n hE 0 dX13_open_g0.1 rfl rfl ?_
  refine m_callVi hE hm [] [] mc_fine (km_fine hm.2.2.2.2.2.2.2.2 h) (by decide) rfl rfl (Nat.le_of_ble_eq_true rfl) dX13_open_g0.2.1 (fun s1 r2 h => ?_)
  refine r_if_ne hE 8 dX13_open_g0.2.2.1 (by decide) h (fun h => ?_) (fun h => ?_)
  · refine r_aload_n hE 0 dX13_open_g0.2.2.2.2.1 rfl rfl ?_
    refine r_iload_n hE 1 dX13_open_g0.2.2.2.2.2.1 rfl rfl ?_
    refine m_callVi hE hm [.int a1] [] mc_isSignHere (km_isSignHere hm.2.2.2.2.2.2.2.2 h) (by decide) rfl rfl (Nat.le_of_ble_eq_true rfl) dX13_open_g0.2.2.2.2.2.2.1 (fun s3 r4 h => ?_)
    refine r_if_ne hE 23 dX13_open_g0.2.2.2.2.2.2.2.1 (by decide) h (fun h => ?_) (fun h => ?_)
    · refine r_aload_n hE 0 dX13_open_g0.2.2.2.2.2.2.2.2.2.2.2.1 rfl rfl ?_
      refine mg_deep hE hm dX13_open_g0.2.2.2.2.2.2.2.2.2.2.2.2.1 ?_
      refine r_bipush (v := (10 : Int32)) hE dX13_open_g0.2.2.2.2.2.2.2.2.2.2.2.2.2.1 (by decide) ?_
      refine r_icmp_ne hE 44 dX13_open_g0.2.2.2.2.2.2.2.2.2.2.2.2.2.2.1 (by decide) h (fun h => ?_) (fun h => ?_)
      · refine r_aload_n hE 0 dX13_open_g1.2.2.2.2.2.1 rfl rfl ?_
        refine r_dup hE dX13_open_g1.2.2.2.2.2.2.1 rfl ?_
        refine mg_deep hE hm dX13_open_g1.2.2.2.2.2.2.2.1 ?_
        refine r_iconst (v := (1 : Int32)) hE dX13_open_g1.2.2.2.2.2.2.2.2.1 (by decide) ?_
        refine r_iadd hE dX13_open_g1.2.2.2.2.2.2.2.2.2.1 ?_
        refine mp_deep hE hm dX13_open_g1.2.2.2.2.2.2.2.2.2.2.1 h (fun s5 h => ?_)
        refine r_aload_n hE 0 dX13_open_g1.2.2.2.2.2.2.2.2.2.2.2.1 rfl rfl ?_
        refine m_callVv hE hm [] [] mc_next (km_next hm.2.2.2.2.2.2.2.2 h) (by decide) rfl rfl (Nat.le_of_ble_eq_true rfl) dX13_open_g1.2.2.2.2.2.2.2.2.2.2.2.2.1 (fun s6 h => ?_)
        exact m_vret hE hm hF dX13_open_g1.2.2.2.2.2.2.2.2.2.2.2.2.2 h
      · refine r_aload_n hE 0 dX13_open_g0.2.2.2.2.2.2.2.2.2.2.2.2.2.2.2 rfl rfl ?_
        refine r_iconst (v := (3 : Int32)) hE dX13_open_g1.1 (by decide) ?_
        refine r_aload_n hE 0 dX13_open_g1.2.1 rfl rfl ?_
        refine mg_tokenAt hE hm dX13_open_g1.2.2.1 ?_
        refine m_callVv hE hm [.int (3 : Int32), .int (m_tokenAt s3)] [] mc_wrong (km_wrong hm.2.2.2.2.2.2.2.2 h) (by decide) rfl rfl (Nat.le_of_ble_eq_true rfl) dX13_open_g1.2.2.2.1 (fun s7 h => ?_)
        refine r_goto hE 58 dX13_open_g1.2.2.2.2.1 (by decide) ?_
        exact m_vret hE hm hF dX13_open_g1.2.2.2.2.2.2.2.2.2.2.2.2.2 h
    · refine r_aload_n hE 0 dX13_open_g0.2.2.2.2.2.2.2.2.1 rfl rfl ?_
      refine m_callVv hE hm [] [] mc_misplaced (km_misplaced hm.2.2.2.2.2.2.2.2 h) (by decide) rfl rfl (Nat.le_of_ble_eq_true rfl) dX13_open_g0.2.2.2.2.2.2.2.2.2.1 (fun s8 h => ?_)
      refine r_goto hE 58 dX13_open_g0.2.2.2.2.2.2.2.2.2.2.1 (by decide) ?_
      exact m_vret hE hm hF dX13_open_g1.2.2.2.2.2.2.2.2.2.2.2.2.2 h
  · exact m_vret hE hm hF dX13_open_g0.2.2.2.1 h
/-! shut -/
def wm_shut (post : MS → Prop) (σ : MS) (a1 : Int32) : Prop := wm_take (fun (s1 : MS) => ∀ s2 : MS, s2 = m_deep_s s1 ((m_deep s1) - (1 : Int32)) → post s2) σ a1
set_option maxRecDepth 20000 in
theorem km_shut {l : Launch} {D : va_G} {cl : List vw_C} {G : gAd} {post : MS → Prop} (hcl : mC cl) {σ : MS} {a1 : Int32} (h : wm_shut post σ a1) : mMet l D cl G yX13_shut cX13_shut 2 none 6 [.ref (G.1 0), .int a1] σ (qV post) := by
  unfold wm_shut at h
  refine m_enter hcl (by decide +kernel) rfl [(0, .ref (G.1 0)), (1, .int a1)] rfl (Nat.le_of_ble_eq_true rfl) ?_
  intro E hE hm hF
  have hN := hm.2.2.2.2.2.2.1
  refine r_aload_n hE 0 dX13_shut_g0.1 rfl rfl ?_
  refine r_iload_n hE 1 dX13_shut_g0.2.1 rfl rfl ?_
  refine m_callVv hE hm [.int a1] [] mc_take (km_take hm.2.2.2.2.2.2.2.2 h) (by decide) rfl rfl (Nat.le_of_ble_eq_true rfl) dX13_shut_g0.2.2.1 (fun s1 h => ?_)
  refine r_aload_n hE 0 dX13_shut_g0.2.2.2.1 rfl rfl ?_
  refine r_dup hE dX13_shut_g0.2.2.2.2.1 rfl ?_
  refine mg_deep hE hm dX13_shut_g0.2.2.2.2.2.1 ?_
  refine r_iconst (v := (1 : Int32)) hE dX13_shut_g0.2.2.2.2.2.2.1 (by decide) ?_
  refine r_isub hE dX13_shut_g0.2.2.2.2.2.2.2.1 ?_
  refine mp_deep hE hm dX13_shut_g0.2.2.2.2.2.2.2.2.1 h (fun s2 h => ?_)
  exact m_vret hE hm hF dX13_shut_g0.2.2.2.2.2.2.2.2.2 h
/-! newNode -/
def wm_newNode (post : MS → Int32 → Prop) (σ : MS) (a1 : Int32) (a2 : Int32) : Prop := ((¬ ((m_readNodes σ) = (250 : Int32))) → (∀ x1 : Int32, x1 = (300 : Int32) + (m_readNodes σ) → ∀ s2 : MS, s2 = m_readNodes_s σ ((m_readNodes σ) + (1 : Int32)) → vp_in x1 600 ∧ (∀ s3 : MS, s3 = m_kind_s s2 x1.toNatClampNeg a1 → vp_in x1 600 ∧ (∀ s4 : MS, s4 = m_byteOf_s s3 x1.toNatClampNeg a2 → vp_in x1 600 ∧ (∀ s5 : MS, s5 = m_one_s s4 x1.toNatClampNeg (-1 : Int32) → vp_in x1 600 ∧ (∀ s6 : MS, s6 = m_two_s s5 x1.toNatClampNeg (-1 : Int32) → vp_in x1 600 ∧ (∀ s7 : MS, s7 = m_three_s s6 x1.toNatClampNeg (-1 : Int32) → vp_in x1 600 ∧ (∀ s8 : MS, s8 = m_sister_s s7 x1.toNatClampNeg (-1 : Int32) → post s8 x1)))))))) ∧ (((m_readNodes σ) = (250 : Int32)) → (wm_wrong (fun (s9 : MS) => post s9 (0 : Int32)) σ (3 : Int32) a2))
set_option maxRecDepth 20000 in
theorem km_newNode {l : Launch} {D : va_G} {cl : List vw_C} {G : gAd} {post : MS → Int32 → Prop} (hcl : mC cl) {σ : MS} {a1 : Int32} {a2 : Int32} (h : wm_newNode post σ a1 a2) : mMet l D cl G yX13_newNode cX13_newNode 4 (some .int) 2 [.ref (G.1 0), .int a1, .int a2] σ (qI post) := by
  unfold wm_newNode at h
  refine m_enter hcl (by decide +kernel) rfl [(0, .ref (G.1 0)), (1, .int a1), (2, .int a2)] rfl (Nat.le_of_ble_eq_true rfl) ?_
  intro E hE hm hF
  have hN := hm.2.2.2.2.2.2.1
  refine r_aload_n hE 0 dX13_newNode_g0.1 rfl rfl ?_
  refine mg_readNodes hE hm dX13_newNode_g0.2.1 ?_
  refine r_sipush (v := (250 : Int32)) hE dX13_newNode_g0.2.2.1 (by decide) ?_
  refine r_icmp_ne hE 18 dX13_newNode_g0.2.2.2.1 (by decide) h (fun h => ?_) (fun h => ?_)
  · refine r_sipush (v := (300 : Int32)) hE dX13_newNode_g0.2.2.2.2.2.2.2.2.2.2.1 (by decide) ?_
    refine r_aload_n hE 0 dX13_newNode_g0.2.2.2.2.2.2.2.2.2.2.2.1 rfl rfl ?_
    refine mg_readNodes hE hm dX13_newNode_g0.2.2.2.2.2.2.2.2.2.2.2.2.1 ?_
    refine r_iadd hE dX13_newNode_g0.2.2.2.2.2.2.2.2.2.2.2.2.2.1 ?_
    refine r_topi h (fun x1 ex1 h => ?_)
    refine r_istore_n hE [(3, .int x1), (0, .ref (G.1 0)), (1, .int a1), (2, .int a2)] dX13_newNode_g0.2.2.2.2.2.2.2.2.2.2.2.2.2.2.1 rfl hN (by decide) rfl ?_
    refine r_aload_n hE 1 dX13_newNode_g0.2.2.2.2.2.2.2.2.2.2.2.2.2.2.2 rfl rfl ?_
    refine r_dup hE dX13_newNode_g1.1 rfl ?_
    refine mg_readNodes hE hm dX13_newNode_g1.2.1 ?_
    refine r_iconst (v := (1 : Int32)) hE dX13_newNode_g1.2.2.1 (by decide) ?_
    refine r_iadd hE dX13_newNode_g1.2.2.2.1 ?_
    refine mp_readNodes hE hm dX13_newNode_g1.2.2.2.2.1 h (fun s2 h => ?_)
    refine r_aload_n hE 1 dX13_newNode_g1.2.2.2.2.2.1 rfl rfl ?_
    refine mg_kind hE hm dX13_newNode_g1.2.2.2.2.2.2.1 ?_
    refine r_iload_n hE 0 dX13_newNode_g1.2.2.2.2.2.2.2.1 rfl rfl ?_
    refine r_iload_n hE 2 dX13_newNode_g1.2.2.2.2.2.2.2.2.1 rfl rfl ?_
    obtain ⟨hi, h⟩ := h
    refine ms_kind hE hm dX13_newNode_g1.2.2.2.2.2.2.2.2.2.1 hi h (fun s3 h => ?_)
    refine r_aload_n hE 1 dX13_newNode_g1.2.2.2.2.2.2.2.2.2.2.1 rfl rfl ?_
    refine mg_byteOf hE hm dX13_newNode_g1.2.2.2.2.2.2.2.2.2.2.2.1 ?_
    refine r_iload_n hE 0 dX13_newNode_g1.2.2.2.2.2.2.2.2.2.2.2.2.1 rfl rfl ?_
    refine r_iload_n hE 3 dX13_newNode_g1.2.2.2.2.2.2.2.2.2.2.2.2.2.1 rfl rfl ?_
    obtain ⟨hi, h⟩ := h
    refine ms_byteOf hE hm dX13_newNode_g1.2.2.2.2.2.2.2.2.2.2.2.2.2.2.1 hi h (fun s4 h => ?_)
    refine r_aload_n hE 1 dX13_newNode_g1.2.2.2.2.2.2.2.2.2.2.2.2.2.2.2 rfl rfl ?_
    refine mg_one hE hm dX13_newNode_g2.1 ?_
    refine r_iload_n hE 0 dX13_newNode_g2.2.1 rfl rfl ?_
    refine r_iconst (v := (-1 : Int32)) hE dX13_newNode_g2.2.2.1 (by decide) ?_
    obtain ⟨hi, h⟩ := h
    refine ms_one hE hm dX13_newNode_g2.2.2.2.1 hi h (fun s5 h => ?_)
    refine r_aload_n hE 1 dX13_newNode_g2.2.2.2.2.1 rfl rfl ?_
    refine mg_two hE hm dX13_newNode_g2.2.2.2.2.2.1 ?_
    refine r_iload_n hE 0 dX13_newNode_g2.2.2.2.2.2.2.1 rfl rfl ?_
    refine r_iconst (v := (-1 : Int32)) hE dX13_newNode_g2.2.2.2.2.2.2.2.1 (by decide) ?_
    obtain ⟨hi, h⟩ := h
    refine ms_two hE hm dX13_newNode_g2.2.2.2.2.2.2.2.2.1 hi h (fun s6 h => ?_)
    refine r_aload_n hE 1 dX13_newNode_g2.2.2.2.2.2.2.2.2.2.1 rfl rfl ?_
    refine mg_three hE hm dX13_newNode_g2.2.2.2.2.2.2.2.2.2.2.1 ?_
    refine r_iload_n hE 0 dX13_newNode_g2.2.2.2.2.2.2.2.2.2.2.2.1 rfl rfl ?_
    refine r_iconst (v := (-1 : Int32)) hE dX13_newNode_g2.2.2.2.2.2.2.2.2.2.2.2.2.1 (by decide) ?_
    obtain ⟨hi, h⟩ := h
    refine ms_three hE hm dX13_newNode_g2.2.2.2.2.2.2.2.2.2.2.2.2.2.1 hi h (fun s7 h => ?_)
    refine r_aload_n hE 1 dX13_newNode_g2.2.2.2.2.2.2.2.2.2.2.2.2.2.2.1 rfl rfl ?_
    refine mg_sister hE hm dX13_newNode_g2.2.2.2.2.2.2.2.2.2.2.2.2.2.2.2 ?_
    refine r_iload_n hE 0 dX13_newNode_g3.1 rfl rfl ?_
    refine r_iconst (v := (-1 : Int32)) hE dX13_newNode_g3.2.1 (by decide) ?_
    obtain ⟨hi, h⟩ := h
    refine ms_sister hE hm dX13_newNode_g3.2.2.1 hi h (fun s8 h => ?_)
    refine r_iload_n hE 0 dX13_newNode_g3.2.2.2.1 rfl rfl ?_
    exact m_iret hE hm hF dX13_newNode_g3.2.2.2.2 h
  · refine r_aload_n hE 0 dX13_newNode_g0.2.2.2.2.1 rfl rfl ?_
    refine r_iconst (v := (3 : Int32)) hE dX13_newNode_g0.2.2.2.2.2.1 (by decide) ?_
    refine r_iload_n hE 2 dX13_newNode_g0.2.2.2.2.2.2.1 rfl rfl ?_
    refine m_callVv hE hm [.int (3 : Int32), .int a2] [] mc_wrong (km_wrong hm.2.2.2.2.2.2.2.2 h) (by decide) rfl rfl (Nat.le_of_ble_eq_true rfl) dX13_newNode_g0.2.2.2.2.2.2.2.1 (fun s9 h => ?_)
    refine r_iconst (v := (0 : Int32)) hE dX13_newNode_g0.2.2.2.2.2.2.2.2.1 (by decide) ?_
    exact m_iret hE hm hF dX13_newNode_g0.2.2.2.2.2.2.2.2.2.1 h
/-! isHere24 -/
def wm_isHere_letters_55 (post : MS → Int32 → Prop) (lp18 : MS → Int32 → Int32 → Int32 → Int32 → Prop) (σ : MS) (v2 : Int32) (v3 : Int32) (v5 : Int32) (t0 : Int32) : Prop := ∀ x1 : Int32, x1 = v5 + (1 : Int32) → lp18 σ v2 v3 t0 x1
set_option maxRecDepth 20000 in
theorem km_isHere_letters_55 {E : gEnv} {l : Launch} {D : va_G} {cl : List vw_C} {G : gAd} {post : MS → Int32 → Prop} (hE : gOK E cX13_isHere RX13 (some .boolean) 1) (hm : mOK E l D cl G (qI post) 6) (hF : gFin E) {lp18 : MS → Int32 → Int32 → Int32 → Int32 → Prop} (hl18 : ∀ (σ : MS) (v2 : Int32) (v3 : Int32) (v4 : Int32) (v5 : Int32), lp18 σ v2 v3 v4 v5 → GW E (mW G σ) 18 [(0, .ref (G.1 0)), (1, .ref (G.1 24)), (2, .int v2), (3, .int v3), (4, .int v4), (5, .int v5)] []) (σ : MS) (v2 : Int32) (v3 : Int32) (v5 : Int32) (t0 : Int32) (h : wm_isHere_letters_55 post lp18 σ v2 v3 v5 t0) : GW E (mW G σ) 55 [(0, .ref (G.1 0)), (1, .ref (G.1 24)), (2, .int v2), (3, .int v3), (5, .int v5)] [.int t0] := by
  unfold wm_isHere_letters_55 at h
  have hN := hm.2.2.2.2.2.2.1
  refine r_istore hE [(4, .int t0), (0, .ref (G.1 0)), (1, .ref (G.1 24)), (2, .int v2), (3, .int v3), (5, .int v5)] dX13_isHere_g1.2.2.2.2.2.2.2.2.2.2.2.2.2.2.2 hN (by decide) rfl ?_
  obtain ⟨x1, ex1⟩ : ∃ z : Int32, z = v5 + (1 : Int32) := ⟨_, rfl⟩
  have h := h x1 ex1
  refine r_iinc (v := x1) hE [(5, .int x1), (4, .int t0), (0, .ref (G.1 0)), (1, .ref (G.1 24)), (2, .int v2), (3, .int v3)] 5 dX13_isHere_g2.1 rfl (by rw [ex1]; rfl) hN (by decide) rfl ?_
  refine r_goto hE 18 dX13_isHere_g2.2.1 (by decide) ?_
  refine r_pick [2, 3, 4, 5, 1, 0] rfl ?_
  exact hl18 _ _ _ _ _ h
def wm_isHere_letters_18 (post : MS → Int32 → Prop) : Nat → MS → Int32 → Int32 → Int32 → Int32 → Prop
  | 0, _, _, _, _, _ => False
  | n + 1, σ, v2, v3, v4, v5 => ((v3 ≤ v5) → (isB v4 ∧ (post σ v4))) ∧ ((¬ (v3 ≤ v5)) → (((v4 = (0 : Int32)) → (isB v4 ∧ (post σ v4))) ∧ ((¬ (v4 = (0 : Int32))) → (vp_in (v2 + v5) 5200 ∧ (vp_in ((m_tokenAt σ) + v5) 3000 ∧ (((¬ ((m_letters σ (v2 + v5).toNatClampNeg) = (m_tape σ ((m_tokenAt σ) + v5).toNatClampNeg))) → (wm_isHere_letters_55 post (fun (ys : MS) (y0 : Int32) (y1 : Int32) (y2 : Int32) (y3 : Int32) => wm_isHere_letters_18 post n ys y0 y1 y2 y3) σ v2 v3 v5 (0 : Int32))) ∧ (((m_letters σ (v2 + v5).toNatClampNeg) = (m_tape σ ((m_tokenAt σ) + v5).toNatClampNeg)) → (wm_isHere_letters_55 post (fun (ys : MS) (y0 : Int32) (y1 : Int32) (y2 : Int32) (y3 : Int32) => wm_isHere_letters_18 post n ys y0 y1 y2 y3) σ v2 v3 v5 (1 : Int32)))))))))
set_option maxRecDepth 20000 in
theorem km_isHere_letters_18 {E : gEnv} {l : Launch} {D : va_G} {cl : List vw_C} {G : gAd} {post : MS → Int32 → Prop} (hE : gOK E cX13_isHere RX13 (some .boolean) 1) (hm : mOK E l D cl G (qI post) 6) (hF : gFin E) : ∀ (n : Nat) (σ : MS) (v2 : Int32) (v3 : Int32) (v4 : Int32) (v5 : Int32), wm_isHere_letters_18 post n σ v2 v3 v4 v5 → GW E (mW G σ) 18 [(0, .ref (G.1 0)), (1, .ref (G.1 24)), (2, .int v2), (3, .int v3), (4, .int v4), (5, .int v5)] [] := by
  intro n
  induction n with
  | zero => intro σ v2 v3 v4 v5 h; exact h.elim
  | succ n ih =>
    intro σ v2 v3 v4 v5 h
    rw [wm_isHere_letters_18] at h
    have hN := hm.2.2.2.2.2.2.1
    refine r_iload hE 5 dX13_isHere_g0.2.2.2.2.2.2.2.2.2.2.1 rfl ?_
    refine r_iload_n hE 3 dX13_isHere_g0.2.2.2.2.2.2.2.2.2.2.2.1 rfl rfl ?_
    refine r_icmp_ge hE 63 dX13_isHere_g0.2.2.2.2.2.2.2.2.2.2.2.2.1 (by decide) h (fun h => ?_) (fun h => ?_)
    · refine r_iload hE 4 dX13_isHere_g2.2.2.1 rfl ?_
      obtain ⟨hb, h⟩ := h
      exact m_zret hE hm hF dX13_isHere_g2.2.2.2 hb h
    · refine r_iload hE 4 dX13_isHere_g0.2.2.2.2.2.2.2.2.2.2.2.2.2.1 rfl ?_
      refine r_if_eq hE 63 dX13_isHere_g0.2.2.2.2.2.2.2.2.2.2.2.2.2.2.1 (by decide) h (fun h => ?_) (fun h => ?_)
      · refine r_iload hE 4 dX13_isHere_g2.2.2.1 rfl ?_
        obtain ⟨hb, h⟩ := h
        exact m_zret hE hm hF dX13_isHere_g2.2.2.2 hb h
      · refine r_aload_n hE 1 dX13_isHere_g0.2.2.2.2.2.2.2.2.2.2.2.2.2.2.2 rfl rfl ?_
        refine r_iload_n hE 2 dX13_isHere_g1.1 rfl rfl ?_
        refine r_iload hE 5 dX13_isHere_g1.2.1 rfl ?_
        refine r_iadd hE dX13_isHere_g1.2.2.1 ?_
        obtain ⟨hi, h⟩ := h
        refine ml_letters hE hm dX13_isHere_g1.2.2.2.1 hi ?_
        refine r_aload_n hE 0 dX13_isHere_g1.2.2.2.2.1 rfl rfl ?_
        refine mg_tape hE hm dX13_isHere_g1.2.2.2.2.2.1 ?_
        refine r_aload_n hE 0 dX13_isHere_g1.2.2.2.2.2.2.1 rfl rfl ?_
        refine mg_tokenAt hE hm dX13_isHere_g1.2.2.2.2.2.2.2.1 ?_
        refine r_iload hE 5 dX13_isHere_g1.2.2.2.2.2.2.2.2.1 rfl ?_
        refine r_iadd hE dX13_isHere_g1.2.2.2.2.2.2.2.2.2.1 ?_
        obtain ⟨hi, h⟩ := h
        refine ml_tape hE hm dX13_isHere_g1.2.2.2.2.2.2.2.2.2.2.1 hi ?_
        refine r_icmp_ne hE 54 dX13_isHere_g1.2.2.2.2.2.2.2.2.2.2.2.1 (by decide) h (fun h => ?_) (fun h => ?_)
        · refine r_iconst (v := (0 : Int32)) hE dX13_isHere_g1.2.2.2.2.2.2.2.2.2.2.2.2.2.2.1 (by decide) ?_
          refine r_pick [0, 1, 2, 3, 5] rfl ?_
          exact km_isHere_letters_55 hE hm hF ih _ _ _ _ _ h
        · refine r_iconst (v := (1 : Int32)) hE dX13_isHere_g1.2.2.2.2.2.2.2.2.2.2.2.2.1 (by decide) ?_
          refine r_goto hE 55 dX13_isHere_g1.2.2.2.2.2.2.2.2.2.2.2.2.2.1 (by decide) ?_
          refine r_pick [0, 1, 2, 3, 5] rfl ?_
          exact km_isHere_letters_55 hE hm hF ih _ _ _ _ _ h
def wm_isHere_letters_13 (post : MS → Int32 → Prop) (σ : MS) (v2 : Int32) (v3 : Int32) (t0 : Int32) : Prop := ∃ k : Nat, wm_isHere_letters_18 post k σ v2 v3 t0 (0 : Int32)
set_option maxRecDepth 20000 in
theorem km_isHere_letters_13 {E : gEnv} {l : Launch} {D : va_G} {cl : List vw_C} {G : gAd} {post : MS → Int32 → Prop} (hE : gOK E cX13_isHere RX13 (some .boolean) 1) (hm : mOK E l D cl G (qI post) 6) (hF : gFin E) (σ : MS) (v2 : Int32) (v3 : Int32) (t0 : Int32) (h : wm_isHere_letters_13 post σ v2 v3 t0) : GW E (mW G σ) 13 [(0, .ref (G.1 0)), (1, .ref (G.1 24)), (2, .int v2), (3, .int v3)] [.int t0] := by
  unfold wm_isHere_letters_13 at h
  have hN := hm.2.2.2.2.2.2.1
  refine r_istore hE [(4, .int t0), (0, .ref (G.1 0)), (1, .ref (G.1 24)), (2, .int v2), (3, .int v3)] dX13_isHere_g0.2.2.2.2.2.2.2.1 hN (by decide) rfl ?_
  refine r_iconst (v := (0 : Int32)) hE dX13_isHere_g0.2.2.2.2.2.2.2.2.1 (by decide) ?_
  refine r_istore hE [(5, .int (0 : Int32)), (4, .int t0), (0, .ref (G.1 0)), (1, .ref (G.1 24)), (2, .int v2), (3, .int v3)] dX13_isHere_g0.2.2.2.2.2.2.2.2.2.1 hN (by decide) rfl ?_
  refine r_pick [2, 3, 4, 5, 1, 0] rfl ?_
  obtain ⟨k, h⟩ := h
  exact km_isHere_letters_18 hE hm hF k _ _ _ _ _ h
def wm_isHere_letters (post : MS → Int32 → Prop) (σ : MS) (a2 : Int32) (a3 : Int32) : Prop := ((¬ (a3 = (m_tokenSize σ))) → (wm_isHere_letters_13 post σ a2 a3 (0 : Int32))) ∧ ((a3 = (m_tokenSize σ)) → (wm_isHere_letters_13 post σ a2 a3 (1 : Int32)))
set_option maxRecDepth 20000 in
theorem km_isHere_letters {l : Launch} {D : va_G} {cl : List vw_C} {G : gAd} {post : MS → Int32 → Prop} (hcl : mC cl) {σ : MS} {a2 : Int32} {a3 : Int32} (h : wm_isHere_letters post σ a2 a3) : mMet l D cl G yX13_isHere cX13_isHere 6 (some .boolean) 1 [.ref (G.1 0), .ref (G.1 24), .int a2, .int a3] σ (qI post) := by
  unfold wm_isHere_letters at h
  refine m_enter hcl (by decide +kernel) rfl [(0, .ref (G.1 0)), (1, .ref (G.1 24)), (2, .int a2), (3, .int a3)] rfl (Nat.le_of_ble_eq_true rfl) ?_
  intro E hE hm hF
  have hN := hm.2.2.2.2.2.2.1
  refine r_iload_n hE 3 dX13_isHere_g0.1 rfl rfl ?_
  refine r_aload_n hE 0 dX13_isHere_g0.2.1 rfl rfl ?_
  refine mg_tokenSize hE hm dX13_isHere_g0.2.2.1 ?_
  refine r_icmp_ne hE 12 dX13_isHere_g0.2.2.2.1 (by decide) h (fun h => ?_) (fun h => ?_)
  · refine r_iconst (v := (0 : Int32)) hE dX13_isHere_g0.2.2.2.2.2.2.1 (by decide) ?_
    exact km_isHere_letters_13 hE hm hF _ _ _ _ h
  · refine r_iconst (v := (1 : Int32)) hE dX13_isHere_g0.2.2.2.2.1 (by decide) ?_
    refine r_goto hE 13 dX13_isHere_g0.2.2.2.2.2.1 (by decide) ?_
    exact km_isHere_letters_13 hE hm hF _ _ _ _ h
/-! nameHere -/
def wm_nameHere_10 (post : MS → Int32 → Prop) : Nat → MS → Int32 → Int32 → Prop
  | 0, _, _, _ => False
  | n + 1, σ, v1, v2 => vp_in v1 26 ∧ ((((m_nameMany σ v1.toNatClampNeg) ≤ v2) → (post σ (-1 : Int32))) ∧ ((¬ ((m_nameMany σ v1.toNatClampNeg) ≤ v2)) → (vp_in (((20 : Int32) * v1) + v2) 520 ∧ (wm_isHere_letters (fun (s1 : MS) (r2 : Int32) => ((r2 = (0 : Int32)) → (∀ x3 : Int32, x3 = v2 + (1 : Int32) → wm_nameHere_10 post n s1 v1 x3)) ∧ ((¬ (r2 = (0 : Int32))) → (post s1 v2))) σ ((10 : Int32) * (((20 : Int32) * v1) + v2)) (m_letterMany σ (((20 : Int32) * v1) + v2).toNatClampNeg)))))
set_option maxRecDepth 20000 in
theorem km_nameHere_10 {E : gEnv} {l : Launch} {D : va_G} {cl : List vw_C} {G : gAd} {post : MS → Int32 → Prop} (hE : gOK E cX13_nameHere RX13 (some .int) 2) (hm : mOK E l D cl G (qI post) 3) (hF : gFin E) : ∀ (n : Nat) (σ : MS) (v1 : Int32) (v2 : Int32), wm_nameHere_10 post n σ v1 v2 → GW E (mW G σ) 10 [(0, .ref (G.1 0)), (1, .int v1), (2, .int v2)] [] := by
  intro n
  induction n with
  | zero => intro σ v1 v2 h; exact h.elim
  | succ n ih =>
    intro σ v1 v2 h
    rw [wm_nameHere_10] at h
    have hN := hm.2.2.2.2.2.2.1
    refine r_iload_n hE 2 dX13_nameHere_g0.2.2.2.2.2.2.2.1 rfl rfl ?_
    refine r_aload_n hE 0 dX13_nameHere_g0.2.2.2.2.2.2.2.2.1 rfl rfl ?_
    refine mg_nameMany hE hm dX13_nameHere_g0.2.2.2.2.2.2.2.2.2.1 ?_
    refine r_iload_n hE 1 dX13_nameHere_g0.2.2.2.2.2.2.2.2.2.2.1 rfl rfl ?_
    obtain ⟨hi, h⟩ := h
    refine ml_nameMany hE hm dX13_nameHere_g0.2.2.2.2.2.2.2.2.2.2.2.1 hi ?_
    refine r_icmp_ge hE 59 dX13_nameHere_g0.2.2.2.2.2.2.2.2.2.2.2.2.1 (by decide) h (fun h => ?_) (fun h => ?_)
    · refine r_iconst (v := (-1 : Int32)) hE dX13_nameHere_g2.2.2.2.2.2.1 (by decide) ?_
      exact m_iret hE hm hF dX13_nameHere_g2.2.2.2.2.2.2 h
    · refine r_aload_n hE 0 dX13_nameHere_g0.2.2.2.2.2.2.2.2.2.2.2.2.2.1 rfl rfl ?_
      refine r_aload_n hE 0 dX13_nameHere_g0.2.2.2.2.2.2.2.2.2.2.2.2.2.2.1 rfl rfl ?_
      refine mg_letters hE hm dX13_nameHere_g0.2.2.2.2.2.2.2.2.2.2.2.2.2.2.2 ?_
      refine r_bipush (v := (10 : Int32)) hE dX13_nameHere_g1.1 (by decide) ?_
      refine r_bipush (v := (20 : Int32)) hE dX13_nameHere_g1.2.1 (by decide) ?_
      refine r_iload_n hE 1 dX13_nameHere_g1.2.2.1 rfl rfl ?_
      refine r_imul hE dX13_nameHere_g1.2.2.2.1 ?_
      refine r_iload_n hE 2 dX13_nameHere_g1.2.2.2.2.1 rfl rfl ?_
      refine r_iadd hE dX13_nameHere_g1.2.2.2.2.2.1 ?_
      refine r_imul hE dX13_nameHere_g1.2.2.2.2.2.2.1 ?_
      refine r_aload_n hE 0 dX13_nameHere_g1.2.2.2.2.2.2.2.1 rfl rfl ?_
      refine mg_letterMany hE hm dX13_nameHere_g1.2.2.2.2.2.2.2.2.1 ?_
      refine r_bipush (v := (20 : Int32)) hE dX13_nameHere_g1.2.2.2.2.2.2.2.2.2.1 (by decide) ?_
      refine r_iload_n hE 1 dX13_nameHere_g1.2.2.2.2.2.2.2.2.2.2.1 rfl rfl ?_
      refine r_imul hE dX13_nameHere_g1.2.2.2.2.2.2.2.2.2.2.2.1 ?_
      refine r_iload_n hE 2 dX13_nameHere_g1.2.2.2.2.2.2.2.2.2.2.2.2.1 rfl rfl ?_
      refine r_iadd hE dX13_nameHere_g1.2.2.2.2.2.2.2.2.2.2.2.2.2.1 ?_
      obtain ⟨hi, h⟩ := h
      refine ml_letterMany hE hm dX13_nameHere_g1.2.2.2.2.2.2.2.2.2.2.2.2.2.2.1 hi ?_
      refine m_callVi hE hm [.ref (G.1 24), .int ((10 : Int32) * (((20 : Int32) * v1) + v2)), .int (m_letterMany σ (((20 : Int32) * v1) + v2).toNatClampNeg)] [] mc_isHere (km_isHere_letters hm.2.2.2.2.2.2.2.2 h) (by decide) rfl rfl (Nat.le_of_ble_eq_true rfl) dX13_nameHere_g1.2.2.2.2.2.2.2.2.2.2.2.2.2.2.2 (fun s1 r2 h => ?_)
      refine r_if_eq hE 53 dX13_nameHere_g2.1 (by decide) h (fun h => ?_) (fun h => ?_)
      · obtain ⟨x3, ex3⟩ : ∃ z : Int32, z = v2 + (1 : Int32) := ⟨_, rfl⟩
        have h := h x3 ex3
        refine r_iinc (v := x3) hE [(2, .int x3), (0, .ref (G.1 0)), (1, .int v1)] 2 dX13_nameHere_g2.2.2.2.1 rfl (by rw [ex3]; rfl) hN (by decide) rfl ?_
        refine r_goto hE 10 dX13_nameHere_g2.2.2.2.2.1 (by decide) ?_
        refine r_pick [1, 2, 0] rfl ?_
        exact ih _ _ _ h
      · refine r_iload_n hE 2 dX13_nameHere_g2.2.1 rfl rfl ?_
        exact m_iret hE hm hF dX13_nameHere_g2.2.2.1 h
def wm_nameHere (post : MS → Int32 → Prop) (σ : MS) : Prop := ∀ x4 : Int32, x4 = (13 : Int32) + (m_scope σ) → ∃ k : Nat, wm_nameHere_10 post k σ x4 (0 : Int32)
set_option maxRecDepth 20000 in
theorem km_nameHere {l : Launch} {D : va_G} {cl : List vw_C} {G : gAd} {post : MS → Int32 → Prop} (hcl : mC cl) {σ : MS} (h : wm_nameHere post σ) : mMet l D cl G yX13_nameHere cX13_nameHere 3 (some .int) 2 [.ref (G.1 0)] σ (qI post) := by
  unfold wm_nameHere at h
  refine m_enter hcl (by decide +kernel) rfl [(0, .ref (G.1 0))] rfl (Nat.le_of_ble_eq_true rfl) ?_
  intro E hE hm hF
  have hN := hm.2.2.2.2.2.2.1
  refine r_bipush (v := (13 : Int32)) hE dX13_nameHere_g0.1 (by decide) ?_
  refine r_aload_n hE 0 dX13_nameHere_g0.2.1 rfl rfl ?_
  refine mg_scope hE hm dX13_nameHere_g0.2.2.1 ?_
  refine r_iadd hE dX13_nameHere_g0.2.2.2.1 ?_
  refine r_topi h (fun x4 ex4 h => ?_)
  refine r_istore_n hE [(1, .int x4), (0, .ref (G.1 0))] dX13_nameHere_g0.2.2.2.2.1 rfl hN (by decide) rfl ?_
  refine r_iconst (v := (0 : Int32)) hE dX13_nameHere_g0.2.2.2.2.2.1 (by decide) ?_
  refine r_istore_n hE [(2, .int (0 : Int32)), (1, .int x4), (0, .ref (G.1 0))] dX13_nameHere_g0.2.2.2.2.2.2.1 rfl hN (by decide) rfl ?_
  refine r_pick [2, 1, 0] rfl ?_
  obtain ⟨k, h⟩ := h
  exact km_nameHere_10 hE hm hF k _ _ _ h
/-! isHere29 -/
def wm_isHere_macroLetters_55 (post : MS → Int32 → Prop) (lp18 : MS → Int32 → Int32 → Int32 → Int32 → Prop) (σ : MS) (v2 : Int32) (v3 : Int32) (v5 : Int32) (t0 : Int32) : Prop := ∀ x1 : Int32, x1 = v5 + (1 : Int32) → lp18 σ v2 v3 t0 x1
set_option maxRecDepth 20000 in
theorem km_isHere_macroLetters_55 {E : gEnv} {l : Launch} {D : va_G} {cl : List vw_C} {G : gAd} {post : MS → Int32 → Prop} (hE : gOK E cX13_isHere RX13 (some .boolean) 1) (hm : mOK E l D cl G (qI post) 6) (hF : gFin E) {lp18 : MS → Int32 → Int32 → Int32 → Int32 → Prop} (hl18 : ∀ (σ : MS) (v2 : Int32) (v3 : Int32) (v4 : Int32) (v5 : Int32), lp18 σ v2 v3 v4 v5 → GW E (mW G σ) 18 [(0, .ref (G.1 0)), (1, .ref (G.1 29)), (2, .int v2), (3, .int v3), (4, .int v4), (5, .int v5)] []) (σ : MS) (v2 : Int32) (v3 : Int32) (v5 : Int32) (t0 : Int32) (h : wm_isHere_macroLetters_55 post lp18 σ v2 v3 v5 t0) : GW E (mW G σ) 55 [(0, .ref (G.1 0)), (1, .ref (G.1 29)), (2, .int v2), (3, .int v3), (5, .int v5)] [.int t0] := by
  unfold wm_isHere_macroLetters_55 at h
  have hN := hm.2.2.2.2.2.2.1
  refine r_istore hE [(4, .int t0), (0, .ref (G.1 0)), (1, .ref (G.1 29)), (2, .int v2), (3, .int v3), (5, .int v5)] dX13_isHere_g1.2.2.2.2.2.2.2.2.2.2.2.2.2.2.2 hN (by decide) rfl ?_
  obtain ⟨x1, ex1⟩ : ∃ z : Int32, z = v5 + (1 : Int32) := ⟨_, rfl⟩
  have h := h x1 ex1
  refine r_iinc (v := x1) hE [(5, .int x1), (4, .int t0), (0, .ref (G.1 0)), (1, .ref (G.1 29)), (2, .int v2), (3, .int v3)] 5 dX13_isHere_g2.1 rfl (by rw [ex1]; rfl) hN (by decide) rfl ?_
  refine r_goto hE 18 dX13_isHere_g2.2.1 (by decide) ?_
  refine r_pick [2, 3, 4, 5, 1, 0] rfl ?_
  exact hl18 _ _ _ _ _ h
def wm_isHere_macroLetters_18 (post : MS → Int32 → Prop) : Nat → MS → Int32 → Int32 → Int32 → Int32 → Prop
  | 0, _, _, _, _, _ => False
  | n + 1, σ, v2, v3, v4, v5 => ((v3 ≤ v5) → (isB v4 ∧ (post σ v4))) ∧ ((¬ (v3 ≤ v5)) → (((v4 = (0 : Int32)) → (isB v4 ∧ (post σ v4))) ∧ ((¬ (v4 = (0 : Int32))) → (vp_in (v2 + v5) 260 ∧ (vp_in ((m_tokenAt σ) + v5) 3000 ∧ (((¬ ((m_macroLetters σ (v2 + v5).toNatClampNeg) = (m_tape σ ((m_tokenAt σ) + v5).toNatClampNeg))) → (wm_isHere_macroLetters_55 post (fun (ys : MS) (y0 : Int32) (y1 : Int32) (y2 : Int32) (y3 : Int32) => wm_isHere_macroLetters_18 post n ys y0 y1 y2 y3) σ v2 v3 v5 (0 : Int32))) ∧ (((m_macroLetters σ (v2 + v5).toNatClampNeg) = (m_tape σ ((m_tokenAt σ) + v5).toNatClampNeg)) → (wm_isHere_macroLetters_55 post (fun (ys : MS) (y0 : Int32) (y1 : Int32) (y2 : Int32) (y3 : Int32) => wm_isHere_macroLetters_18 post n ys y0 y1 y2 y3) σ v2 v3 v5 (1 : Int32)))))))))
set_option maxRecDepth 20000 in
theorem km_isHere_macroLetters_18 {E : gEnv} {l : Launch} {D : va_G} {cl : List vw_C} {G : gAd} {post : MS → Int32 → Prop} (hE : gOK E cX13_isHere RX13 (some .boolean) 1) (hm : mOK E l D cl G (qI post) 6) (hF : gFin E) : ∀ (n : Nat) (σ : MS) (v2 : Int32) (v3 : Int32) (v4 : Int32) (v5 : Int32), wm_isHere_macroLetters_18 post n σ v2 v3 v4 v5 → GW E (mW G σ) 18 [(0, .ref (G.1 0)), (1, .ref (G.1 29)), (2, .int v2), (3, .int v3), (4, .int v4), (5, .int v5)] [] := by
  intro n
  induction n with
  | zero => intro σ v2 v3 v4 v5 h; exact h.elim
  | succ n ih =>
    intro σ v2 v3 v4 v5 h
    rw [wm_isHere_macroLetters_18] at h
    have hN := hm.2.2.2.2.2.2.1
    refine r_iload hE 5 dX13_isHere_g0.2.2.2.2.2.2.2.2.2.2.1 rfl ?_
    refine r_iload_n hE 3 dX13_isHere_g0.2.2.2.2.2.2.2.2.2.2.2.1 rfl rfl ?_
    refine r_icmp_ge hE 63 dX13_isHere_g0.2.2.2.2.2.2.2.2.2.2.2.2.1 (by decide) h (fun h => ?_) (fun h => ?_)
    · refine r_iload hE 4 dX13_isHere_g2.2.2.1 rfl ?_
      obtain ⟨hb, h⟩ := h
      exact m_zret hE hm hF dX13_isHere_g2.2.2.2 hb h
    · refine r_iload hE 4 dX13_isHere_g0.2.2.2.2.2.2.2.2.2.2.2.2.2.1 rfl ?_
      refine r_if_eq hE 63 dX13_isHere_g0.2.2.2.2.2.2.2.2.2.2.2.2.2.2.1 (by decide) h (fun h => ?_) (fun h => ?_)
      · refine r_iload hE 4 dX13_isHere_g2.2.2.1 rfl ?_
        obtain ⟨hb, h⟩ := h
        exact m_zret hE hm hF dX13_isHere_g2.2.2.2 hb h
      · refine r_aload_n hE 1 dX13_isHere_g0.2.2.2.2.2.2.2.2.2.2.2.2.2.2.2 rfl rfl ?_
        refine r_iload_n hE 2 dX13_isHere_g1.1 rfl rfl ?_
        refine r_iload hE 5 dX13_isHere_g1.2.1 rfl ?_
        refine r_iadd hE dX13_isHere_g1.2.2.1 ?_
        obtain ⟨hi, h⟩ := h
        refine ml_macroLetters hE hm dX13_isHere_g1.2.2.2.1 hi ?_
        refine r_aload_n hE 0 dX13_isHere_g1.2.2.2.2.1 rfl rfl ?_
        refine mg_tape hE hm dX13_isHere_g1.2.2.2.2.2.1 ?_
        refine r_aload_n hE 0 dX13_isHere_g1.2.2.2.2.2.2.1 rfl rfl ?_
        refine mg_tokenAt hE hm dX13_isHere_g1.2.2.2.2.2.2.2.1 ?_
        refine r_iload hE 5 dX13_isHere_g1.2.2.2.2.2.2.2.2.1 rfl ?_
        refine r_iadd hE dX13_isHere_g1.2.2.2.2.2.2.2.2.2.1 ?_
        obtain ⟨hi, h⟩ := h
        refine ml_tape hE hm dX13_isHere_g1.2.2.2.2.2.2.2.2.2.2.1 hi ?_
        refine r_icmp_ne hE 54 dX13_isHere_g1.2.2.2.2.2.2.2.2.2.2.2.1 (by decide) h (fun h => ?_) (fun h => ?_)
        · refine r_iconst (v := (0 : Int32)) hE dX13_isHere_g1.2.2.2.2.2.2.2.2.2.2.2.2.2.2.1 (by decide) ?_
          refine r_pick [0, 1, 2, 3, 5] rfl ?_
          exact km_isHere_macroLetters_55 hE hm hF ih _ _ _ _ _ h
        · refine r_iconst (v := (1 : Int32)) hE dX13_isHere_g1.2.2.2.2.2.2.2.2.2.2.2.2.1 (by decide) ?_
          refine r_goto hE 55 dX13_isHere_g1.2.2.2.2.2.2.2.2.2.2.2.2.2.1 (by decide) ?_
          refine r_pick [0, 1, 2, 3, 5] rfl ?_
          exact km_isHere_macroLetters_55 hE hm hF ih _ _ _ _ _ h
def wm_isHere_macroLetters_13 (post : MS → Int32 → Prop) (σ : MS) (v2 : Int32) (v3 : Int32) (t0 : Int32) : Prop := ∃ k : Nat, wm_isHere_macroLetters_18 post k σ v2 v3 t0 (0 : Int32)
set_option maxRecDepth 20000 in
theorem km_isHere_macroLetters_13 {E : gEnv} {l : Launch} {D : va_G} {cl : List vw_C} {G : gAd} {post : MS → Int32 → Prop} (hE : gOK E cX13_isHere RX13 (some .boolean) 1) (hm : mOK E l D cl G (qI post) 6) (hF : gFin E) (σ : MS) (v2 : Int32) (v3 : Int32) (t0 : Int32) (h : wm_isHere_macroLetters_13 post σ v2 v3 t0) : GW E (mW G σ) 13 [(0, .ref (G.1 0)), (1, .ref (G.1 29)), (2, .int v2), (3, .int v3)] [.int t0] := by
  unfold wm_isHere_macroLetters_13 at h
  have hN := hm.2.2.2.2.2.2.1
  refine r_istore hE [(4, .int t0), (0, .ref (G.1 0)), (1, .ref (G.1 29)), (2, .int v2), (3, .int v3)] dX13_isHere_g0.2.2.2.2.2.2.2.1 hN (by decide) rfl ?_
  refine r_iconst (v := (0 : Int32)) hE dX13_isHere_g0.2.2.2.2.2.2.2.2.1 (by decide) ?_
  refine r_istore hE [(5, .int (0 : Int32)), (4, .int t0), (0, .ref (G.1 0)), (1, .ref (G.1 29)), (2, .int v2), (3, .int v3)] dX13_isHere_g0.2.2.2.2.2.2.2.2.2.1 hN (by decide) rfl ?_
  refine r_pick [2, 3, 4, 5, 1, 0] rfl ?_
  obtain ⟨k, h⟩ := h
  exact km_isHere_macroLetters_18 hE hm hF k _ _ _ _ _ h
def wm_isHere_macroLetters (post : MS → Int32 → Prop) (σ : MS) (a2 : Int32) (a3 : Int32) : Prop := ((¬ (a3 = (m_tokenSize σ))) → (wm_isHere_macroLetters_13 post σ a2 a3 (0 : Int32))) ∧ ((a3 = (m_tokenSize σ)) → (wm_isHere_macroLetters_13 post σ a2 a3 (1 : Int32)))
set_option maxRecDepth 20000 in
theorem km_isHere_macroLetters {l : Launch} {D : va_G} {cl : List vw_C} {G : gAd} {post : MS → Int32 → Prop} (hcl : mC cl) {σ : MS} {a2 : Int32} {a3 : Int32} (h : wm_isHere_macroLetters post σ a2 a3) : mMet l D cl G yX13_isHere cX13_isHere 6 (some .boolean) 1 [.ref (G.1 0), .ref (G.1 29), .int a2, .int a3] σ (qI post) := by
  unfold wm_isHere_macroLetters at h
  refine m_enter hcl (by decide +kernel) rfl [(0, .ref (G.1 0)), (1, .ref (G.1 29)), (2, .int a2), (3, .int a3)] rfl (Nat.le_of_ble_eq_true rfl) ?_
  intro E hE hm hF
  have hN := hm.2.2.2.2.2.2.1
  refine r_iload_n hE 3 dX13_isHere_g0.1 rfl rfl ?_
  refine r_aload_n hE 0 dX13_isHere_g0.2.1 rfl rfl ?_
  refine mg_tokenSize hE hm dX13_isHere_g0.2.2.1 ?_
  refine r_icmp_ne hE 12 dX13_isHere_g0.2.2.2.1 (by decide) h (fun h => ?_) (fun h => ?_)
  · refine r_iconst (v := (0 : Int32)) hE dX13_isHere_g0.2.2.2.2.2.2.1 (by decide) ?_
    exact km_isHere_macroLetters_13 hE hm hF _ _ _ _ h
  · refine r_iconst (v := (1 : Int32)) hE dX13_isHere_g0.2.2.2.2.1 (by decide) ?_
    refine r_goto hE 13 dX13_isHere_g0.2.2.2.2.2.1 (by decide) ?_
    exact km_isHere_macroLetters_13 hE hm hF _ _ _ _ h
/-! macroHere -/
def wm_macroHere_2 (post : MS → Int32 → Prop) : Nat → MS → Int32 → Prop
  | 0, _, _ => False
  | n + 1, σ, v1 => (((m_readMacros σ) ≤ v1) → (post σ (-1 : Int32))) ∧ ((¬ ((m_readMacros σ) ≤ v1)) → (vp_in ((13 : Int32) + v1) 26 ∧ (wm_isHere_macroLetters (fun (s1 : MS) (r2 : Int32) => ((r2 = (0 : Int32)) → (∀ x3 : Int32, x3 = v1 + (1 : Int32) → wm_macroHere_2 post n s1 x3)) ∧ ((¬ (r2 = (0 : Int32))) → (post s1 v1))) σ ((10 : Int32) * ((13 : Int32) + v1)) (m_macroSize σ ((13 : Int32) + v1).toNatClampNeg))))
set_option maxRecDepth 20000 in
theorem km_macroHere_2 {E : gEnv} {l : Launch} {D : va_G} {cl : List vw_C} {G : gAd} {post : MS → Int32 → Prop} (hE : gOK E cX13_macroHere RX13 (some .int) 2) (hm : mOK E l D cl G (qI post) 2) (hF : gFin E) : ∀ (n : Nat) (σ : MS) (v1 : Int32), wm_macroHere_2 post n σ v1 → GW E (mW G σ) 2 [(0, .ref (G.1 0)), (1, .int v1)] [] := by
  intro n
  induction n with
  | zero => intro σ v1 h; exact h.elim
  | succ n ih =>
    intro σ v1 h
    rw [wm_macroHere_2] at h
    have hN := hm.2.2.2.2.2.2.1
    refine r_iload_n hE 1 dX13_macroHere_g0.2.2.1 rfl rfl ?_
    refine r_aload_n hE 0 dX13_macroHere_g0.2.2.2.1 rfl rfl ?_
    refine mg_readMacros hE hm dX13_macroHere_g0.2.2.2.2.1 ?_
    refine r_icmp_ge hE 45 dX13_macroHere_g0.2.2.2.2.2.1 (by decide) h (fun h => ?_) (fun h => ?_)
    · refine r_iconst (v := (-1 : Int32)) hE dX13_macroHere_g1.2.2.2.2.2.2.2.2.2.2.1 (by decide) ?_
      exact m_iret hE hm hF dX13_macroHere_g1.2.2.2.2.2.2.2.2.2.2.2 h
    · refine r_aload_n hE 0 dX13_macroHere_g0.2.2.2.2.2.2.1 rfl rfl ?_
      refine r_aload_n hE 0 dX13_macroHere_g0.2.2.2.2.2.2.2.1 rfl rfl ?_
      refine mg_macroLetters hE hm dX13_macroHere_g0.2.2.2.2.2.2.2.2.1 ?_
      refine r_bipush (v := (10 : Int32)) hE dX13_macroHere_g0.2.2.2.2.2.2.2.2.2.1 (by decide) ?_
      refine r_bipush (v := (13 : Int32)) hE dX13_macroHere_g0.2.2.2.2.2.2.2.2.2.2.1 (by decide) ?_
      refine r_iload_n hE 1 dX13_macroHere_g0.2.2.2.2.2.2.2.2.2.2.2.1 rfl rfl ?_
      refine r_iadd hE dX13_macroHere_g0.2.2.2.2.2.2.2.2.2.2.2.2.1 ?_
      refine r_imul hE dX13_macroHere_g0.2.2.2.2.2.2.2.2.2.2.2.2.2.1 ?_
      refine r_aload_n hE 0 dX13_macroHere_g0.2.2.2.2.2.2.2.2.2.2.2.2.2.2.1 rfl rfl ?_
      refine mg_macroSize hE hm dX13_macroHere_g0.2.2.2.2.2.2.2.2.2.2.2.2.2.2.2 ?_
      refine r_bipush (v := (13 : Int32)) hE dX13_macroHere_g1.1 (by decide) ?_
      refine r_iload_n hE 1 dX13_macroHere_g1.2.1 rfl rfl ?_
      refine r_iadd hE dX13_macroHere_g1.2.2.1 ?_
      obtain ⟨hi, h⟩ := h
      refine ml_macroSize hE hm dX13_macroHere_g1.2.2.2.1 hi ?_
      refine m_callVi hE hm [.ref (G.1 29), .int ((10 : Int32) * ((13 : Int32) + v1)), .int (m_macroSize σ ((13 : Int32) + v1).toNatClampNeg)] [] mc_isHere (km_isHere_macroLetters hm.2.2.2.2.2.2.2.2 h) (by decide) rfl rfl (Nat.le_of_ble_eq_true rfl) dX13_macroHere_g1.2.2.2.2.1 (fun s1 r2 h => ?_)
      refine r_if_eq hE 39 dX13_macroHere_g1.2.2.2.2.2.1 (by decide) h (fun h => ?_) (fun h => ?_)
      · obtain ⟨x3, ex3⟩ : ∃ z : Int32, z = v1 + (1 : Int32) := ⟨_, rfl⟩
        have h := h x3 ex3
        refine r_iinc (v := x3) hE [(1, .int x3), (0, .ref (G.1 0))] 1 dX13_macroHere_g1.2.2.2.2.2.2.2.2.1 rfl (by rw [ex3]; rfl) hN (by decide) rfl ?_
        refine r_goto hE 2 dX13_macroHere_g1.2.2.2.2.2.2.2.2.2.1 (by decide) ?_
        refine r_pick [1, 0] rfl ?_
        exact ih _ _ h
      · refine r_iload_n hE 1 dX13_macroHere_g1.2.2.2.2.2.2.1 rfl rfl ?_
        exact m_iret hE hm hF dX13_macroHere_g1.2.2.2.2.2.2.2.1 h
def wm_macroHere (post : MS → Int32 → Prop) (σ : MS) : Prop := ∃ k : Nat, wm_macroHere_2 post k σ (0 : Int32)
set_option maxRecDepth 20000 in
theorem km_macroHere {l : Launch} {D : va_G} {cl : List vw_C} {G : gAd} {post : MS → Int32 → Prop} (hcl : mC cl) {σ : MS} (h : wm_macroHere post σ) : mMet l D cl G yX13_macroHere cX13_macroHere 2 (some .int) 2 [.ref (G.1 0)] σ (qI post) := by
  unfold wm_macroHere at h
  refine m_enter hcl (by decide +kernel) rfl [(0, .ref (G.1 0))] rfl (Nat.le_of_ble_eq_true rfl) ?_
  intro E hE hm hF
  have hN := hm.2.2.2.2.2.2.1
  refine r_iconst (v := (0 : Int32)) hE dX13_macroHere_g0.1 (by decide) ?_
  refine r_istore_n hE [(1, .int (0 : Int32)), (0, .ref (G.1 0))] dX13_macroHere_g0.2.1 rfl hN (by decide) rfl ?_
  refine r_pick [1, 0] rfl ?_
  obtain ⟨k, h⟩ := h
  exact km_macroHere_2 hE hm hF k _ _ h
/-! newName -/
def wm_newName_24 (post : MS → Prop) : Nat → MS → Int32 → Int32 → Int32 → Int32 → Int32 → Prop
  | 0, _, _, _, _, _, _ => False
  | n + 1, σ, v1, v2, v3, v4, v5 => ((v2 ≤ v5) → (vp_in v4 520 ∧ (∀ s1 : MS, s1 = m_letterMany_s σ v4.toNatClampNeg v2 → vp_in v3 26 ∧ (vp_in v3 26 ∧ (∀ s2 : MS, s2 = m_nameMany_s s1 v3.toNatClampNeg ((m_nameMany s1 v3.toNatClampNeg) + (1 : Int32)) → post s2))))) ∧ ((¬ (v2 ≤ v5)) → (vp_in (v1 + v5) 3000 ∧ (vp_in (((10 : Int32) * v4) + v5) 5200 ∧ (∀ s3 : MS, s3 = m_letters_s σ (((10 : Int32) * v4) + v5).toNatClampNeg ((m_tape σ (v1 + v5).toNatClampNeg).toInt8.toInt32) → ∀ x4 : Int32, x4 = v5 + (1 : Int32) → wm_newName_24 post n s3 v1 v2 v3 v4 x4))))
set_option maxRecDepth 20000 in
theorem km_newName_24 {E : gEnv} {l : Launch} {D : va_G} {cl : List vw_C} {G : gAd} {post : MS → Prop} (hE : gOK E cX13_newName RX13 none 1) (hm : mOK E l D cl G (qV post) 6) (hF : gFin E) : ∀ (n : Nat) (σ : MS) (v1 : Int32) (v2 : Int32) (v3 : Int32) (v4 : Int32) (v5 : Int32), wm_newName_24 post n σ v1 v2 v3 v4 v5 → GW E (mW G σ) 24 [(0, .ref (G.1 0)), (1, .int v1), (2, .int v2), (3, .int v3), (4, .int v4), (5, .int v5)] [] := by
  intro n
  induction n with
  | zero => intro σ v1 v2 v3 v4 v5 h; exact h.elim
  | succ n ih =>
    intro σ v1 v2 v3 v4 v5 h
    rw [wm_newName_24] at h
    have hN := hm.2.2.2.2.2.2.1
    refine r_iload hE 5 dX13_newName_g1.1 rfl ?_
    refine r_iload_n hE 2 dX13_newName_g1.2.1 rfl rfl ?_
    refine r_icmp_ge hE 58 dX13_newName_g1.2.2.1 (by decide) h (fun h => ?_) (fun h => ?_)
    · refine r_aload_n hE 0 dX13_newName_g2.2.2.2.1 rfl rfl ?_
      refine mg_letterMany hE hm dX13_newName_g2.2.2.2.2.1 ?_
      refine r_iload hE 4 dX13_newName_g2.2.2.2.2.2.1 rfl ?_
      refine r_iload_n hE 2 dX13_newName_g2.2.2.2.2.2.2.1 rfl rfl ?_
      obtain ⟨hi, h⟩ := h
      refine ms_letterMany hE hm dX13_newName_g2.2.2.2.2.2.2.2.1 hi h (fun s1 h => ?_)
      refine r_aload_n hE 0 dX13_newName_g2.2.2.2.2.2.2.2.2.1 rfl rfl ?_
      refine mg_nameMany hE hm dX13_newName_g2.2.2.2.2.2.2.2.2.2.1 ?_
      refine r_iload_n hE 3 dX13_newName_g2.2.2.2.2.2.2.2.2.2.2.1 rfl rfl ?_
      refine r_dup2 hE dX13_newName_g2.2.2.2.2.2.2.2.2.2.2.2.1 rfl rfl ?_
      obtain ⟨hi, h⟩ := h
      refine ml_nameMany hE hm dX13_newName_g2.2.2.2.2.2.2.2.2.2.2.2.2.1 hi ?_
      refine r_iconst (v := (1 : Int32)) hE dX13_newName_g2.2.2.2.2.2.2.2.2.2.2.2.2.2.1 (by decide) ?_
      refine r_iadd hE dX13_newName_g2.2.2.2.2.2.2.2.2.2.2.2.2.2.2.1 ?_
      obtain ⟨hi, h⟩ := h
      refine ms_nameMany hE hm dX13_newName_g2.2.2.2.2.2.2.2.2.2.2.2.2.2.2.2 hi h (fun s2 h => ?_)
      exact m_vret hE hm hF dX13_newName_g3 h
    · refine r_aload_n hE 0 dX13_newName_g1.2.2.2.1 rfl rfl ?_
      refine mg_letters hE hm dX13_newName_g1.2.2.2.2.1 ?_
      refine r_bipush (v := (10 : Int32)) hE dX13_newName_g1.2.2.2.2.2.1 (by decide) ?_
      refine r_iload hE 4 dX13_newName_g1.2.2.2.2.2.2.1 rfl ?_
      refine r_imul hE dX13_newName_g1.2.2.2.2.2.2.2.1 ?_
      refine r_iload hE 5 dX13_newName_g1.2.2.2.2.2.2.2.2.1 rfl ?_
      refine r_iadd hE dX13_newName_g1.2.2.2.2.2.2.2.2.2.1 ?_
      refine r_aload_n hE 0 dX13_newName_g1.2.2.2.2.2.2.2.2.2.2.1 rfl rfl ?_
      refine mg_tape hE hm dX13_newName_g1.2.2.2.2.2.2.2.2.2.2.2.1 ?_
      refine r_iload_n hE 1 dX13_newName_g1.2.2.2.2.2.2.2.2.2.2.2.2.1 rfl rfl ?_
      refine r_iload hE 5 dX13_newName_g1.2.2.2.2.2.2.2.2.2.2.2.2.2.1 rfl ?_
      refine r_iadd hE dX13_newName_g1.2.2.2.2.2.2.2.2.2.2.2.2.2.2.1 ?_
      obtain ⟨hi, h⟩ := h
      refine ml_tape hE hm dX13_newName_g1.2.2.2.2.2.2.2.2.2.2.2.2.2.2.2 hi ?_
      obtain ⟨hi, h⟩ := h
      refine ms_letters hE hm dX13_newName_g2.1 hi h (fun s3 h => ?_)
      obtain ⟨x4, ex4⟩ : ∃ z : Int32, z = v5 + (1 : Int32) := ⟨_, rfl⟩
      have h := h x4 ex4
      refine r_iinc (v := x4) hE [(5, .int x4), (0, .ref (G.1 0)), (1, .int v1), (2, .int v2), (3, .int v3), (4, .int v4)] 5 dX13_newName_g2.2.1 rfl (by rw [ex4]; rfl) hN (by decide) rfl ?_
      refine r_goto hE 24 dX13_newName_g2.2.2.1 (by decide) ?_
      refine r_pick [1, 2, 3, 4, 5, 0] rfl ?_
      exact ih _ _ _ _ _ _ h
def wm_newName (post : MS → Prop) (σ : MS) (a1 : Int32) (a2 : Int32) : Prop := ∀ x5 : Int32, x5 = (13 : Int32) + (m_scope σ) → vp_in x5 26 ∧ (∀ x6 : Int32, x6 = ((20 : Int32) * x5) + (m_nameMany σ x5.toNatClampNeg) → ∃ k : Nat, wm_newName_24 post k σ a1 a2 x5 x6 (0 : Int32))
set_option maxRecDepth 20000 in
theorem km_newName {l : Launch} {D : va_G} {cl : List vw_C} {G : gAd} {post : MS → Prop} (hcl : mC cl) {σ : MS} {a1 : Int32} {a2 : Int32} (h : wm_newName post σ a1 a2) : mMet l D cl G yX13_newName cX13_newName 6 none 1 [.ref (G.1 0), .int a1, .int a2] σ (qV post) := by
  unfold wm_newName at h
  refine m_enter hcl (by decide +kernel) rfl [(0, .ref (G.1 0)), (1, .int a1), (2, .int a2)] rfl (Nat.le_of_ble_eq_true rfl) ?_
  intro E hE hm hF
  have hN := hm.2.2.2.2.2.2.1
  refine r_bipush (v := (13 : Int32)) hE dX13_newName_g0.1 (by decide) ?_
  refine r_aload_n hE 0 dX13_newName_g0.2.1 rfl rfl ?_
  refine mg_scope hE hm dX13_newName_g0.2.2.1 ?_
  refine r_iadd hE dX13_newName_g0.2.2.2.1 ?_
  refine r_topi h (fun x5 ex5 h => ?_)
  refine r_istore_n hE [(3, .int x5), (0, .ref (G.1 0)), (1, .int a1), (2, .int a2)] dX13_newName_g0.2.2.2.2.1 rfl hN (by decide) rfl ?_
  refine r_bipush (v := (20 : Int32)) hE dX13_newName_g0.2.2.2.2.2.1 (by decide) ?_
  refine r_iload_n hE 0 dX13_newName_g0.2.2.2.2.2.2.1 rfl rfl ?_
  refine r_imul hE dX13_newName_g0.2.2.2.2.2.2.2.1 ?_
  refine r_aload_n hE 1 dX13_newName_g0.2.2.2.2.2.2.2.2.1 rfl rfl ?_
  refine mg_nameMany hE hm dX13_newName_g0.2.2.2.2.2.2.2.2.2.1 ?_
  refine r_iload_n hE 0 dX13_newName_g0.2.2.2.2.2.2.2.2.2.2.1 rfl rfl ?_
  obtain ⟨hi, h⟩ := h
  refine ml_nameMany hE hm dX13_newName_g0.2.2.2.2.2.2.2.2.2.2.2.1 hi ?_
  refine r_iadd hE dX13_newName_g0.2.2.2.2.2.2.2.2.2.2.2.2.1 ?_
  refine r_topi h (fun x6 ex6 h => ?_)
  refine r_istore hE [(4, .int x6), (3, .int x5), (0, .ref (G.1 0)), (1, .int a1), (2, .int a2)] dX13_newName_g0.2.2.2.2.2.2.2.2.2.2.2.2.2.1 hN (by decide) rfl ?_
  refine r_iconst (v := (0 : Int32)) hE dX13_newName_g0.2.2.2.2.2.2.2.2.2.2.2.2.2.2.1 (by decide) ?_
  refine r_istore hE [(5, .int (0 : Int32)), (4, .int x6), (3, .int x5), (0, .ref (G.1 0)), (1, .int a1), (2, .int a2)] dX13_newName_g0.2.2.2.2.2.2.2.2.2.2.2.2.2.2.2 hN (by decide) rfl ?_
  refine r_pick [3, 4, 5, 2, 1, 0] rfl ?_
  obtain ⟨k, h⟩ := h
  exact km_newName_24 hE hm hF k _ _ _ _ _ _ h
/-! clearRun -/
def wm_clearRun_57 (post : MS → Prop) : Nat → MS → Int32 → Prop
  | 0, _, _ => False
  | n + 1, σ, v1 => (((20 : Int32) ≤ v1) → (post σ)) ∧ ((¬ ((20 : Int32) ≤ v1)) → (vp_in v1 180 ∧ (∀ s1 : MS, s1 = m_held_s σ v1.toNatClampNeg (-1 : Int32) → ∀ x2 : Int32, x2 = v1 + (1 : Int32) → wm_clearRun_57 post n s1 x2)))
set_option maxRecDepth 20000 in
theorem km_clearRun_57 {E : gEnv} {l : Launch} {D : va_G} {cl : List vw_C} {G : gAd} {post : MS → Prop} (hE : gOK E cX13_clearRun RX13 none 1) (hm : mOK E l D cl G (qV post) 2) (hF : gFin E) : ∀ (n : Nat) (σ : MS) (v1 : Int32), wm_clearRun_57 post n σ v1 → GW E (mW G σ) 57 [(0, .ref (G.1 0)), (1, .int v1)] [] := by
  intro n
  induction n with
  | zero => intro σ v1 h; exact h.elim
  | succ n ih =>
    intro σ v1 h
    rw [wm_clearRun_57] at h
    have hN := hm.2.2.2.2.2.2.1
    refine r_iload_n hE 1 dX13_clearRun_g2.2.2.2.1 rfl rfl ?_
    refine r_bipush (v := (20 : Int32)) hE dX13_clearRun_g2.2.2.2.2.1 (by decide) ?_
    refine r_icmp_ge hE 76 dX13_clearRun_g2.2.2.2.2.2.1 (by decide) h (fun h => ?_) (fun h => ?_)
    · exact m_vret hE hm hF dX13_clearRun_g2.2.2.2.2.2.2.2.2.2.2.2.2.2 h
    · refine r_aload_n hE 0 dX13_clearRun_g2.2.2.2.2.2.2.1 rfl rfl ?_
      refine mg_held hE hm dX13_clearRun_g2.2.2.2.2.2.2.2.1 ?_
      refine r_iload_n hE 1 dX13_clearRun_g2.2.2.2.2.2.2.2.2.1 rfl rfl ?_
      refine r_iconst (v := (-1 : Int32)) hE dX13_clearRun_g2.2.2.2.2.2.2.2.2.2.1 (by decide) ?_
      obtain ⟨hi, h⟩ := h
      refine ms_held hE hm dX13_clearRun_g2.2.2.2.2.2.2.2.2.2.2.1 hi h (fun s1 h => ?_)
      obtain ⟨x2, ex2⟩ : ∃ z : Int32, z = v1 + (1 : Int32) := ⟨_, rfl⟩
      have h := h x2 ex2
      refine r_iinc (v := x2) hE [(1, .int x2), (0, .ref (G.1 0))] 1 dX13_clearRun_g2.2.2.2.2.2.2.2.2.2.2.2.1 rfl (by rw [ex2]; rfl) hN (by decide) rfl ?_
      refine r_goto hE 57 dX13_clearRun_g2.2.2.2.2.2.2.2.2.2.2.2.2.1 (by decide) ?_
      refine r_pick [1, 0] rfl ?_
      exact ih _ _ h
def wm_clearRun (post : MS → Prop) (σ : MS) : Prop := ∀ s3 : MS, s3 = m_things_s σ (0 : Int32) → ∀ s4 : MS, s4 = m_rows_s s3 (0 : Int32) → ∀ s5 : MS, s5 = m_steps_s s4 (0 : Int32) → ∀ s6 : MS, s6 = m_spent_s s5 (0 : Int32) → ∀ s7 : MS, s7 = m_frees_s s6 (0 : Int32) → ∀ s8 : MS, s8 = m_falls_s s7 (0 : Int32) → ∀ s9 : MS, s9 = m_drawnMany_s s8 (0 : Int32) → ∀ s10 : MS, s10 = m_statedMany_s s9 (0 : Int32) → ∀ s11 : MS, s11 = m_depth_s s10 (0 : Int32) → ∀ s12 : MS, s12 = m_failure_s s11 (0 : Int32) → ∀ s13 : MS, s13 = m_piled_s s12 (0 : Int32) → ∃ k : Nat, wm_clearRun_57 post k s13 (0 : Int32)
set_option maxRecDepth 20000 in
theorem km_clearRun {l : Launch} {D : va_G} {cl : List vw_C} {G : gAd} {post : MS → Prop} (hcl : mC cl) {σ : MS} (h : wm_clearRun post σ) : mMet l D cl G yX13_clearRun cX13_clearRun 2 none 1 [.ref (G.1 0)] σ (qV post) := by
  unfold wm_clearRun at h
  refine m_enter hcl (by decide +kernel) rfl [(0, .ref (G.1 0))] rfl (Nat.le_of_ble_eq_true rfl) ?_
  intro E hE hm hF
  have hN := hm.2.2.2.2.2.2.1
  refine r_aload_n hE 0 dX13_clearRun_g0.1 rfl rfl ?_
  refine r_iconst (v := (0 : Int32)) hE dX13_clearRun_g0.2.1 (by decide) ?_
  refine mp_things hE hm dX13_clearRun_g0.2.2.1 h (fun s3 h => ?_)
  refine r_aload_n hE 0 dX13_clearRun_g0.2.2.2.1 rfl rfl ?_
  refine r_iconst (v := (0 : Int32)) hE dX13_clearRun_g0.2.2.2.2.1 (by decide) ?_
  refine mp_rows hE hm dX13_clearRun_g0.2.2.2.2.2.1 h (fun s4 h => ?_)
  refine r_aload_n hE 0 dX13_clearRun_g0.2.2.2.2.2.2.1 rfl rfl ?_
  refine r_iconst (v := (0 : Int32)) hE dX13_clearRun_g0.2.2.2.2.2.2.2.1 (by decide) ?_
  refine mp_steps hE hm dX13_clearRun_g0.2.2.2.2.2.2.2.2.1 h (fun s5 h => ?_)
  refine r_aload_n hE 0 dX13_clearRun_g0.2.2.2.2.2.2.2.2.2.1 rfl rfl ?_
  refine r_iconst (v := (0 : Int32)) hE dX13_clearRun_g0.2.2.2.2.2.2.2.2.2.2.1 (by decide) ?_
  refine mp_spent hE hm dX13_clearRun_g0.2.2.2.2.2.2.2.2.2.2.2.1 (Or.inl rfl) h (fun s6 h => ?_)
  refine r_aload_n hE 0 dX13_clearRun_g0.2.2.2.2.2.2.2.2.2.2.2.2.1 rfl rfl ?_
  refine r_iconst (v := (0 : Int32)) hE dX13_clearRun_g0.2.2.2.2.2.2.2.2.2.2.2.2.2.1 (by decide) ?_
  refine mp_frees hE hm dX13_clearRun_g0.2.2.2.2.2.2.2.2.2.2.2.2.2.2.1 h (fun s7 h => ?_)
  refine r_aload_n hE 0 dX13_clearRun_g0.2.2.2.2.2.2.2.2.2.2.2.2.2.2.2 rfl rfl ?_
  refine r_iconst (v := (0 : Int32)) hE dX13_clearRun_g1.1 (by decide) ?_
  refine mp_falls hE hm dX13_clearRun_g1.2.1 h (fun s8 h => ?_)
  refine r_aload_n hE 0 dX13_clearRun_g1.2.2.1 rfl rfl ?_
  refine r_iconst (v := (0 : Int32)) hE dX13_clearRun_g1.2.2.2.1 (by decide) ?_
  refine mp_drawnMany hE hm dX13_clearRun_g1.2.2.2.2.1 h (fun s9 h => ?_)
  refine r_aload_n hE 0 dX13_clearRun_g1.2.2.2.2.2.1 rfl rfl ?_
  refine r_iconst (v := (0 : Int32)) hE dX13_clearRun_g1.2.2.2.2.2.2.1 (by decide) ?_
  refine mp_statedMany hE hm dX13_clearRun_g1.2.2.2.2.2.2.2.1 h (fun s10 h => ?_)
  refine r_aload_n hE 0 dX13_clearRun_g1.2.2.2.2.2.2.2.2.1 rfl rfl ?_
  refine r_iconst (v := (0 : Int32)) hE dX13_clearRun_g1.2.2.2.2.2.2.2.2.2.1 (by decide) ?_
  refine mp_depth hE hm dX13_clearRun_g1.2.2.2.2.2.2.2.2.2.2.1 h (fun s11 h => ?_)
  refine r_aload_n hE 0 dX13_clearRun_g1.2.2.2.2.2.2.2.2.2.2.2.1 rfl rfl ?_
  refine r_iconst (v := (0 : Int32)) hE dX13_clearRun_g1.2.2.2.2.2.2.2.2.2.2.2.2.1 (by decide) ?_
  refine mp_failure hE hm dX13_clearRun_g1.2.2.2.2.2.2.2.2.2.2.2.2.2.1 h (fun s12 h => ?_)
  refine r_aload_n hE 0 dX13_clearRun_g1.2.2.2.2.2.2.2.2.2.2.2.2.2.2.1 rfl rfl ?_
  refine r_iconst (v := (0 : Int32)) hE dX13_clearRun_g1.2.2.2.2.2.2.2.2.2.2.2.2.2.2.2 (by decide) ?_
  refine mp_piled hE hm dX13_clearRun_g2.1 h (fun s13 h => ?_)
  refine r_iconst (v := (0 : Int32)) hE dX13_clearRun_g2.2.1 (by decide) ?_
  refine r_istore_n hE [(1, .int (0 : Int32)), (0, .ref (G.1 0))] dX13_clearRun_g2.2.2.1 rfl hN (by decide) rfl ?_
  refine r_pick [1, 0] rfl ?_
  obtain ⟨k, h⟩ := h
  exact km_clearRun_57 hE hm hF k _ _ h
/-! moved -/
def wm_moved (post : MS → Int32 → Prop) (σ : MS) (a0 : Int32) : Prop := (((300 : Int32) ≤ a0) → (post σ (a0 - (300 : Int32)))) ∧ ((¬ ((300 : Int32) ≤ a0)) → (post σ a0))
set_option maxRecDepth 20000 in
theorem km_moved {l : Launch} {D : va_G} {cl : List vw_C} {G : gAd} {post : MS → Int32 → Prop} (hcl : mC cl) {σ : MS} {a0 : Int32} (h : wm_moved post σ a0) : mMet l D cl G yX13_moved cX13_moved 1 (some .int) 1 [.int a0] σ (qI post) := by
  unfold wm_moved at h
  refine m_enter hcl (by decide +kernel) rfl [(0, .int a0)] rfl (Nat.le_of_ble_eq_true rfl) ?_
  intro E hE hm hF
  have hN := hm.2.2.2.2.2.2.1
  refine r_iload_n hE 0 dX13_moved_g0.1 rfl rfl ?_
  refine r_sipush (v := (300 : Int32)) hE dX13_moved_g0.2.1 (by decide) ?_
  refine r_icmp_ge hE 11 dX13_moved_g0.2.2.1 (by decide) h (fun h => ?_) (fun h => ?_)
  · refine r_iload_n hE 0 dX13_moved_g0.2.2.2.2.2.1 rfl rfl ?_
    refine r_sipush (v := (300 : Int32)) hE dX13_moved_g0.2.2.2.2.2.2.1 (by decide) ?_
    refine r_isub hE dX13_moved_g0.2.2.2.2.2.2.2.1 ?_
    exact m_iret hE hm hF dX13_moved_g0.2.2.2.2.2.2.2.2 h
  · refine r_iload_n hE 0 dX13_moved_g0.2.2.2.1 rfl rfl ?_
    refine r_goto hE 16 dX13_moved_g0.2.2.2.2.1 (by decide) ?_
    exact m_iret hE hm hF dX13_moved_g0.2.2.2.2.2.2.2.2 h
/-! become -/
def wm_become_425 (post : MS → Prop) : Nat → MS → Int32 → Prop
  | 0, _, _ => False
  | n + 1, σ, v2 => (((12 : Int32) ≤ v2) → (post σ)) ∧ ((¬ ((12 : Int32) ≤ v2)) → (vp_in v2 12 ∧ (∀ s1 : MS, s1 = m_isMoved_s σ v2.toNatClampNeg (0 : Int32) → ∀ x2 : Int32, x2 = v2 + (1 : Int32) → wm_become_425 post n s1 x2)))
set_option maxRecDepth 20000 in
theorem km_become_425 {E : gEnv} {l : Launch} {D : va_G} {cl : List vw_C} {G : gAd} {post : MS → Prop} (hE : gOK E cX13_become RX13 none 2) (hm : mOK E l D cl G (qV post) 5) (hF : gFin E) : ∀ (n : Nat) (σ : MS) (v2 : Int32), wm_become_425 post n σ v2 → GW E (mW G σ) 425 [(0, .ref (G.1 0)), (2, .int v2)] [] := by
  intro n
  induction n with
  | zero => intro σ v2 h; exact h.elim
  | succ n ih =>
    intro σ v2 h
    rw [wm_become_425] at h
    have hN := hm.2.2.2.2.2.2.1
    refine r_iload_n hE 1 dX13_become_g15.2.2.2.2.2.2.1 rfl rfl ?_
    refine r_bipush (v := (12 : Int32)) hE dX13_become_g15.2.2.2.2.2.2.2.1 (by decide) ?_
    refine r_icmp_ge hE 444 dX13_become_g15.2.2.2.2.2.2.2.2.1 (by decide) h (fun h => ?_) (fun h => ?_)
    · exact m_vret hE hm hF dX13_become_g16 h
    · refine r_aload_n hE 0 dX13_become_g15.2.2.2.2.2.2.2.2.2.1 rfl rfl ?_
      refine mg_isMoved hE hm dX13_become_g15.2.2.2.2.2.2.2.2.2.2.1 ?_
      refine r_iload_n hE 1 dX13_become_g15.2.2.2.2.2.2.2.2.2.2.2.1 rfl rfl ?_
      refine r_iconst (v := (0 : Int32)) hE dX13_become_g15.2.2.2.2.2.2.2.2.2.2.2.2.1 (by decide) ?_
      obtain ⟨hi, h⟩ := h
      refine ms_isMoved hE hm dX13_become_g15.2.2.2.2.2.2.2.2.2.2.2.2.2.1 hi (Or.inl rfl) h (fun s1 h => ?_)
      obtain ⟨x2, ex2⟩ : ∃ z : Int32, z = v2 + (1 : Int32) := ⟨_, rfl⟩
      have h := h x2 ex2
      refine r_iinc (v := x2) hE [(2, .int x2), (0, .ref (G.1 0))] 1 dX13_become_g15.2.2.2.2.2.2.2.2.2.2.2.2.2.2.1 rfl (by rw [ex2]; rfl) hN (by decide) rfl ?_
      refine r_goto hE 425 dX13_become_g15.2.2.2.2.2.2.2.2.2.2.2.2.2.2.2 (by decide) ?_
      refine r_pick [1, 0] rfl ?_
      exact ih _ _ h
def wm_become_375 (post : MS → Prop) : Nat → MS → Int32 → Prop
  | 0, _, _ => False
  | n + 1, σ, v2 => (((2600 : Int32) ≤ v2) → (∀ s3 : MS, s3 = m_hasFigure_s σ (1 : Int32) → wm_clearRun (fun (s4 : MS) => ∀ s5 : MS, s5 = m_hasRun_s s4 (0 : Int32) → ∀ s6 : MS, s6 = m_sweptMany_s s5 (0 : Int32) → ∃ k : Nat, wm_become_425 post k s6 (0 : Int32)) s3)) ∧ ((¬ ((2600 : Int32) ≤ v2)) → (vp_in ((2600 : Int32) + v2) 5200 ∧ (vp_in v2 5200 ∧ (∀ s7 : MS, s7 = m_letters_s σ v2.toNatClampNeg ((m_letters σ ((2600 : Int32) + v2).toNatClampNeg).toInt8.toInt32) → ∀ x8 : Int32, x8 = v2 + (1 : Int32) → wm_become_375 post n s7 x8))))
set_option maxRecDepth 20000 in
theorem km_become_375 {E : gEnv} {l : Launch} {D : va_G} {cl : List vw_C} {G : gAd} {post : MS → Prop} (hE : gOK E cX13_become RX13 none 2) (hm : mOK E l D cl G (qV post) 5) (hF : gFin E) : ∀ (n : Nat) (σ : MS) (v2 : Int32), wm_become_375 post n σ v2 → GW E (mW G σ) 375 [(0, .ref (G.1 0)), (2, .int v2)] [] := by
  intro n
  induction n with
  | zero => intro σ v2 h; exact h.elim
  | succ n ih =>
    intro σ v2 h
    rw [wm_become_375] at h
    have hN := hm.2.2.2.2.2.2.1
    refine r_iload_n hE 1 dX13_become_g13.2.2.2.2.2.2.2.2.2.2.1 rfl rfl ?_
    refine r_sipush (v := (2600 : Int32)) hE dX13_become_g13.2.2.2.2.2.2.2.2.2.2.2.1 (by decide) ?_
    refine r_icmp_ge hE 404 dX13_become_g13.2.2.2.2.2.2.2.2.2.2.2.2.1 (by decide) h (fun h => ?_) (fun h => ?_)
    · refine r_aload_n hE 0 dX13_become_g14.2.2.2.2.2.2.2.2.2.1 rfl rfl ?_
      refine r_iconst (v := (1 : Int32)) hE dX13_become_g14.2.2.2.2.2.2.2.2.2.2.1 (by decide) ?_
      refine mp_hasFigure hE hm dX13_become_g14.2.2.2.2.2.2.2.2.2.2.2.1 (Or.inr rfl) h (fun s3 h => ?_)
      refine r_aload_n hE 0 dX13_become_g14.2.2.2.2.2.2.2.2.2.2.2.2.1 rfl rfl ?_
      refine m_callVv hE hm [] [] mc_clearRun (km_clearRun hm.2.2.2.2.2.2.2.2 h) (by decide) rfl rfl (Nat.le_of_ble_eq_true rfl) dX13_become_g14.2.2.2.2.2.2.2.2.2.2.2.2.2.1 (fun s4 h => ?_)
      refine r_aload_n hE 0 dX13_become_g14.2.2.2.2.2.2.2.2.2.2.2.2.2.2.1 rfl rfl ?_
      refine r_iconst (v := (0 : Int32)) hE dX13_become_g14.2.2.2.2.2.2.2.2.2.2.2.2.2.2.2 (by decide) ?_
      refine mp_hasRun hE hm dX13_become_g15.1 (Or.inl rfl) h (fun s5 h => ?_)
      refine r_aload_n hE 0 dX13_become_g15.2.1 rfl rfl ?_
      refine r_iconst (v := (0 : Int32)) hE dX13_become_g15.2.2.1 (by decide) ?_
      refine mp_sweptMany hE hm dX13_become_g15.2.2.2.1 h (fun s6 h => ?_)
      refine r_iconst (v := (0 : Int32)) hE dX13_become_g15.2.2.2.2.1 (by decide) ?_
      refine r_istore_n hE [(2, .int (0 : Int32)), (0, .ref (G.1 0))] dX13_become_g15.2.2.2.2.2.1 rfl hN (by decide) rfl ?_
      refine r_pick [1, 0] rfl ?_
      obtain ⟨k, h⟩ := h
      exact km_become_425 hE hm hF k _ _ h
    · refine r_aload_n hE 0 dX13_become_g13.2.2.2.2.2.2.2.2.2.2.2.2.2.1 rfl rfl ?_
      refine mg_letters hE hm dX13_become_g13.2.2.2.2.2.2.2.2.2.2.2.2.2.2.1 ?_
      refine r_iload_n hE 1 dX13_become_g13.2.2.2.2.2.2.2.2.2.2.2.2.2.2.2 rfl rfl ?_
      refine r_aload_n hE 0 dX13_become_g14.1 rfl rfl ?_
      refine mg_letters hE hm dX13_become_g14.2.1 ?_
      refine r_sipush (v := (2600 : Int32)) hE dX13_become_g14.2.2.1 (by decide) ?_
      refine r_iload_n hE 1 dX13_become_g14.2.2.2.1 rfl rfl ?_
      refine r_iadd hE dX13_become_g14.2.2.2.2.1 ?_
      obtain ⟨hi, h⟩ := h
      refine ml_letters hE hm dX13_become_g14.2.2.2.2.2.1 hi ?_
      obtain ⟨hi, h⟩ := h
      refine ms_letters hE hm dX13_become_g14.2.2.2.2.2.2.1 hi h (fun s7 h => ?_)
      obtain ⟨x8, ex8⟩ : ∃ z : Int32, z = v2 + (1 : Int32) := ⟨_, rfl⟩
      have h := h x8 ex8
      refine r_iinc (v := x8) hE [(2, .int x8), (0, .ref (G.1 0))] 1 dX13_become_g14.2.2.2.2.2.2.2.1 rfl (by rw [ex8]; rfl) hN (by decide) rfl ?_
      refine r_goto hE 375 dX13_become_g14.2.2.2.2.2.2.2.2.1 (by decide) ?_
      refine r_pick [1, 0] rfl ?_
      exact ih _ _ h
def wm_become_344 (post : MS → Prop) : Nat → MS → Int32 → Prop
  | 0, _, _ => False
  | n + 1, σ, v2 => (((260 : Int32) ≤ v2) → (∃ k : Nat, wm_become_375 post k σ (0 : Int32))) ∧ ((¬ ((260 : Int32) ≤ v2)) → (vp_in ((260 : Int32) + v2) 520 ∧ (vp_in v2 520 ∧ (∀ s9 : MS, s9 = m_letterMany_s σ v2.toNatClampNeg (m_letterMany σ ((260 : Int32) + v2).toNatClampNeg) → ∀ x10 : Int32, x10 = v2 + (1 : Int32) → wm_become_344 post n s9 x10))))
set_option maxRecDepth 20000 in
theorem km_become_344 {E : gEnv} {l : Launch} {D : va_G} {cl : List vw_C} {G : gAd} {post : MS → Prop} (hE : gOK E cX13_become RX13 none 2) (hm : mOK E l D cl G (qV post) 5) (hF : gFin E) : ∀ (n : Nat) (σ : MS) (v2 : Int32), wm_become_344 post n σ v2 → GW E (mW G σ) 344 [(0, .ref (G.1 0)), (2, .int v2)] [] := by
  intro n
  induction n with
  | zero => intro σ v2 h; exact h.elim
  | succ n ih =>
    intro σ v2 h
    rw [wm_become_344] at h
    have hN := hm.2.2.2.2.2.2.1
    refine r_iload_n hE 1 dX13_become_g12.2.2.2.2.2.2.2.2.2.1 rfl rfl ?_
    refine r_sipush (v := (260 : Int32)) hE dX13_become_g12.2.2.2.2.2.2.2.2.2.2.1 (by decide) ?_
    refine r_icmp_ge hE 373 dX13_become_g12.2.2.2.2.2.2.2.2.2.2.2.1 (by decide) h (fun h => ?_) (fun h => ?_)
    · refine r_iconst (v := (0 : Int32)) hE dX13_become_g13.2.2.2.2.2.2.2.2.1 (by decide) ?_
      refine r_istore_n hE [(2, .int (0 : Int32)), (0, .ref (G.1 0))] dX13_become_g13.2.2.2.2.2.2.2.2.2.1 rfl hN (by decide) rfl ?_
      refine r_pick [1, 0] rfl ?_
      obtain ⟨k, h⟩ := h
      exact km_become_375 hE hm hF k _ _ h
    · refine r_aload_n hE 0 dX13_become_g12.2.2.2.2.2.2.2.2.2.2.2.2.1 rfl rfl ?_
      refine mg_letterMany hE hm dX13_become_g12.2.2.2.2.2.2.2.2.2.2.2.2.2.1 ?_
      refine r_iload_n hE 1 dX13_become_g12.2.2.2.2.2.2.2.2.2.2.2.2.2.2.1 rfl rfl ?_
      refine r_aload_n hE 0 dX13_become_g12.2.2.2.2.2.2.2.2.2.2.2.2.2.2.2 rfl rfl ?_
      refine mg_letterMany hE hm dX13_become_g13.1 ?_
      refine r_sipush (v := (260 : Int32)) hE dX13_become_g13.2.1 (by decide) ?_
      refine r_iload_n hE 1 dX13_become_g13.2.2.1 rfl rfl ?_
      refine r_iadd hE dX13_become_g13.2.2.2.1 ?_
      obtain ⟨hi, h⟩ := h
      refine ml_letterMany hE hm dX13_become_g13.2.2.2.2.1 hi ?_
      obtain ⟨hi, h⟩ := h
      refine ms_letterMany hE hm dX13_become_g13.2.2.2.2.2.1 hi h (fun s9 h => ?_)
      obtain ⟨x10, ex10⟩ : ∃ z : Int32, z = v2 + (1 : Int32) := ⟨_, rfl⟩
      have h := h x10 ex10
      refine r_iinc (v := x10) hE [(2, .int x10), (0, .ref (G.1 0))] 1 dX13_become_g13.2.2.2.2.2.2.1 rfl (by rw [ex10]; rfl) hN (by decide) rfl ?_
      refine r_goto hE 344 dX13_become_g13.2.2.2.2.2.2.2.1 (by decide) ?_
      refine r_pick [1, 0] rfl ?_
      exact ih _ _ h
def wm_become_313 (post : MS → Prop) : Nat → MS → Int32 → Prop
  | 0, _, _ => False
  | n + 1, σ, v2 => (((130 : Int32) ≤ v2) → (∃ k : Nat, wm_become_344 post k σ (0 : Int32))) ∧ ((¬ ((130 : Int32) ≤ v2)) → (vp_in ((130 : Int32) + v2) 260 ∧ (vp_in v2 260 ∧ (∀ s11 : MS, s11 = m_macroLetters_s σ v2.toNatClampNeg ((m_macroLetters σ ((130 : Int32) + v2).toNatClampNeg).toInt8.toInt32) → ∀ x12 : Int32, x12 = v2 + (1 : Int32) → wm_become_313 post n s11 x12))))
set_option maxRecDepth 20000 in
theorem km_become_313 {E : gEnv} {l : Launch} {D : va_G} {cl : List vw_C} {G : gAd} {post : MS → Prop} (hE : gOK E cX13_become RX13 none 2) (hm : mOK E l D cl G (qV post) 5) (hF : gFin E) : ∀ (n : Nat) (σ : MS) (v2 : Int32), wm_become_313 post n σ v2 → GW E (mW G σ) 313 [(0, .ref (G.1 0)), (2, .int v2)] [] := by
  intro n
  induction n with
  | zero => intro σ v2 h; exact h.elim
  | succ n ih =>
    intro σ v2 h
    rw [wm_become_313] at h
    have hN := hm.2.2.2.2.2.2.1
    refine r_iload_n hE 1 dX13_become_g11.2.2.2.2.2.2.2.2.1 rfl rfl ?_
    refine r_sipush (v := (130 : Int32)) hE dX13_become_g11.2.2.2.2.2.2.2.2.2.1 (by decide) ?_
    refine r_icmp_ge hE 342 dX13_become_g11.2.2.2.2.2.2.2.2.2.2.1 (by decide) h (fun h => ?_) (fun h => ?_)
    · refine r_iconst (v := (0 : Int32)) hE dX13_become_g12.2.2.2.2.2.2.2.1 (by decide) ?_
      refine r_istore_n hE [(2, .int (0 : Int32)), (0, .ref (G.1 0))] dX13_become_g12.2.2.2.2.2.2.2.2.1 rfl hN (by decide) rfl ?_
      refine r_pick [1, 0] rfl ?_
      obtain ⟨k, h⟩ := h
      exact km_become_344 hE hm hF k _ _ h
    · refine r_aload_n hE 0 dX13_become_g11.2.2.2.2.2.2.2.2.2.2.2.1 rfl rfl ?_
      refine mg_macroLetters hE hm dX13_become_g11.2.2.2.2.2.2.2.2.2.2.2.2.1 ?_
      refine r_iload_n hE 1 dX13_become_g11.2.2.2.2.2.2.2.2.2.2.2.2.2.1 rfl rfl ?_
      refine r_aload_n hE 0 dX13_become_g11.2.2.2.2.2.2.2.2.2.2.2.2.2.2.1 rfl rfl ?_
      refine mg_macroLetters hE hm dX13_become_g11.2.2.2.2.2.2.2.2.2.2.2.2.2.2.2 ?_
      refine r_sipush (v := (130 : Int32)) hE dX13_become_g12.1 (by decide) ?_
      refine r_iload_n hE 1 dX13_become_g12.2.1 rfl rfl ?_
      refine r_iadd hE dX13_become_g12.2.2.1 ?_
      obtain ⟨hi, h⟩ := h
      refine ml_macroLetters hE hm dX13_become_g12.2.2.2.1 hi ?_
      obtain ⟨hi, h⟩ := h
      refine ms_macroLetters hE hm dX13_become_g12.2.2.2.2.1 hi h (fun s11 h => ?_)
      obtain ⟨x12, ex12⟩ : ∃ z : Int32, z = v2 + (1 : Int32) := ⟨_, rfl⟩
      have h := h x12 ex12
      refine r_iinc (v := x12) hE [(2, .int x12), (0, .ref (G.1 0))] 1 dX13_become_g12.2.2.2.2.2.1 rfl (by rw [ex12]; rfl) hN (by decide) rfl ?_
      refine r_goto hE 313 dX13_become_g12.2.2.2.2.2.2.1 (by decide) ?_
      refine r_pick [1, 0] rfl ?_
      exact ih _ _ h
def wm_become_236 (post : MS → Prop) : Nat → MS → Int32 → Prop
  | 0, _, _ => False
  | n + 1, σ, v2 => (((13 : Int32) ≤ v2) → (∃ k : Nat, wm_become_313 post k σ (0 : Int32))) ∧ ((¬ ((13 : Int32) ≤ v2)) → (vp_in ((13 : Int32) + v2) 26 ∧ (vp_in v2 26 ∧ (∀ s13 : MS, s13 = m_nameMany_s σ v2.toNatClampNeg (m_nameMany σ ((13 : Int32) + v2).toNatClampNeg) → vp_in ((13 : Int32) + v2) 26 ∧ (vp_in v2 26 ∧ (∀ s14 : MS, s14 = m_paramMany_s s13 v2.toNatClampNeg (m_paramMany s13 ((13 : Int32) + v2).toNatClampNeg) → vp_in ((13 : Int32) + v2) 26 ∧ (wm_moved (fun (s15 : MS) (r16 : Int32) => vp_in v2 26 ∧ (∀ s17 : MS, s17 = m_bodyOf_s s15 v2.toNatClampNeg r16 → vp_in ((13 : Int32) + v2) 26 ∧ (vp_in v2 26 ∧ (∀ s18 : MS, s18 = m_macroSize_s s17 v2.toNatClampNeg (m_macroSize s17 ((13 : Int32) + v2).toNatClampNeg) → ∀ x19 : Int32, x19 = v2 + (1 : Int32) → wm_become_236 post n s18 x19)))) s14 (m_bodyOf s14 ((13 : Int32) + v2).toNatClampNeg))))))))
set_option maxRecDepth 20000 in
theorem km_become_236 {E : gEnv} {l : Launch} {D : va_G} {cl : List vw_C} {G : gAd} {post : MS → Prop} (hE : gOK E cX13_become RX13 none 2) (hm : mOK E l D cl G (qV post) 5) (hF : gFin E) : ∀ (n : Nat) (σ : MS) (v2 : Int32), wm_become_236 post n σ v2 → GW E (mW G σ) 236 [(0, .ref (G.1 0)), (2, .int v2)] [] := by
  intro n
  induction n with
  | zero => intro σ v2 h; exact h.elim
  | succ n ih =>
    intro σ v2 h
    rw [wm_become_236] at h
    have hN := hm.2.2.2.2.2.2.1
    refine r_iload_n hE 1 dX13_become_g8.2.2.2.2.2.2.2.2.1 rfl rfl ?_
    refine r_bipush (v := (13 : Int32)) hE dX13_become_g8.2.2.2.2.2.2.2.2.2.1 (by decide) ?_
    refine r_icmp_ge hE 311 dX13_become_g8.2.2.2.2.2.2.2.2.2.2.1 (by decide) h (fun h => ?_) (fun h => ?_)
    · refine r_iconst (v := (0 : Int32)) hE dX13_become_g11.2.2.2.2.2.2.1 (by decide) ?_
      refine r_istore_n hE [(2, .int (0 : Int32)), (0, .ref (G.1 0))] dX13_become_g11.2.2.2.2.2.2.2.1 rfl hN (by decide) rfl ?_
      refine r_pick [1, 0] rfl ?_
      obtain ⟨k, h⟩ := h
      exact km_become_313 hE hm hF k _ _ h
    · refine r_aload_n hE 0 dX13_become_g8.2.2.2.2.2.2.2.2.2.2.2.1 rfl rfl ?_
      refine mg_nameMany hE hm dX13_become_g8.2.2.2.2.2.2.2.2.2.2.2.2.1 ?_
      refine r_iload_n hE 1 dX13_become_g8.2.2.2.2.2.2.2.2.2.2.2.2.2.1 rfl rfl ?_
      refine r_aload_n hE 0 dX13_become_g8.2.2.2.2.2.2.2.2.2.2.2.2.2.2.1 rfl rfl ?_
      refine mg_nameMany hE hm dX13_become_g8.2.2.2.2.2.2.2.2.2.2.2.2.2.2.2 ?_
      refine r_bipush (v := (13 : Int32)) hE dX13_become_g9.1 (by decide) ?_
      refine r_iload_n hE 1 dX13_become_g9.2.1 rfl rfl ?_
      refine r_iadd hE dX13_become_g9.2.2.1 ?_
      obtain ⟨hi, h⟩ := h
      refine ml_nameMany hE hm dX13_become_g9.2.2.2.1 hi ?_
      obtain ⟨hi, h⟩ := h
      refine ms_nameMany hE hm dX13_become_g9.2.2.2.2.1 hi h (fun s13 h => ?_)
      refine r_aload_n hE 0 dX13_become_g9.2.2.2.2.2.1 rfl rfl ?_
      refine mg_paramMany hE hm dX13_become_g9.2.2.2.2.2.2.1 ?_
      refine r_iload_n hE 1 dX13_become_g9.2.2.2.2.2.2.2.1 rfl rfl ?_
      refine r_aload_n hE 0 dX13_become_g9.2.2.2.2.2.2.2.2.1 rfl rfl ?_
      refine mg_paramMany hE hm dX13_become_g9.2.2.2.2.2.2.2.2.2.1 ?_
      refine r_bipush (v := (13 : Int32)) hE dX13_become_g9.2.2.2.2.2.2.2.2.2.2.1 (by decide) ?_
      refine r_iload_n hE 1 dX13_become_g9.2.2.2.2.2.2.2.2.2.2.2.1 rfl rfl ?_
      refine r_iadd hE dX13_become_g9.2.2.2.2.2.2.2.2.2.2.2.2.1 ?_
      obtain ⟨hi, h⟩ := h
      refine ml_paramMany hE hm dX13_become_g9.2.2.2.2.2.2.2.2.2.2.2.2.2.1 hi ?_
      obtain ⟨hi, h⟩ := h
      refine ms_paramMany hE hm dX13_become_g9.2.2.2.2.2.2.2.2.2.2.2.2.2.2.1 hi h (fun s14 h => ?_)
      refine r_aload_n hE 0 dX13_become_g9.2.2.2.2.2.2.2.2.2.2.2.2.2.2.2 rfl rfl ?_
      refine mg_bodyOf hE hm dX13_become_g10.1 ?_
      refine r_iload_n hE 1 dX13_become_g10.2.1 rfl rfl ?_
      refine r_aload_n hE 0 dX13_become_g10.2.2.1 rfl rfl ?_
      refine mg_bodyOf hE hm dX13_become_g10.2.2.2.1 ?_
      refine r_bipush (v := (13 : Int32)) hE dX13_become_g10.2.2.2.2.1 (by decide) ?_
      refine r_iload_n hE 1 dX13_become_g10.2.2.2.2.2.1 rfl rfl ?_
      refine r_iadd hE dX13_become_g10.2.2.2.2.2.2.1 ?_
      obtain ⟨hi, h⟩ := h
      refine ml_bodyOf hE hm dX13_become_g10.2.2.2.2.2.2.2.1 hi ?_
      refine m_callSi hE hm [.int (m_bodyOf s14 ((13 : Int32) + v2).toNatClampNeg)] [.int v2, .ref (G.1 28)] mc_moved (km_moved hm.2.2.2.2.2.2.2.2 h) (by decide) rfl rfl (Nat.le_of_ble_eq_true rfl) dX13_become_g10.2.2.2.2.2.2.2.2.1 (fun s15 r16 h => ?_)
      obtain ⟨hi, h⟩ := h
      refine ms_bodyOf hE hm dX13_become_g10.2.2.2.2.2.2.2.2.2.1 hi h (fun s17 h => ?_)
      refine r_aload_n hE 0 dX13_become_g10.2.2.2.2.2.2.2.2.2.2.1 rfl rfl ?_
      refine mg_macroSize hE hm dX13_become_g10.2.2.2.2.2.2.2.2.2.2.2.1 ?_
      refine r_iload_n hE 1 dX13_become_g10.2.2.2.2.2.2.2.2.2.2.2.2.1 rfl rfl ?_
      refine r_aload_n hE 0 dX13_become_g10.2.2.2.2.2.2.2.2.2.2.2.2.2.1 rfl rfl ?_
      refine mg_macroSize hE hm dX13_become_g10.2.2.2.2.2.2.2.2.2.2.2.2.2.2.1 ?_
      refine r_bipush (v := (13 : Int32)) hE dX13_become_g10.2.2.2.2.2.2.2.2.2.2.2.2.2.2.2 (by decide) ?_
      refine r_iload_n hE 1 dX13_become_g11.1 rfl rfl ?_
      refine r_iadd hE dX13_become_g11.2.1 ?_
      obtain ⟨hi, h⟩ := h
      refine ml_macroSize hE hm dX13_become_g11.2.2.1 hi ?_
      obtain ⟨hi, h⟩ := h
      refine ms_macroSize hE hm dX13_become_g11.2.2.2.1 hi h (fun s18 h => ?_)
      obtain ⟨x19, ex19⟩ : ∃ z : Int32, z = v2 + (1 : Int32) := ⟨_, rfl⟩
      have h := h x19 ex19
      refine r_iinc (v := x19) hE [(2, .int x19), (0, .ref (G.1 0))] 1 dX13_become_g11.2.2.2.2.1 rfl (by rw [ex19]; rfl) hN (by decide) rfl ?_
      refine r_goto hE 236 dX13_become_g11.2.2.2.2.2.1 (by decide) ?_
      refine r_pick [1, 0] rfl ?_
      exact ih _ _ h
def wm_become_126 (post : MS → Prop) (lp2 : MS → Int32 → Int32 → Prop) (σ : MS) (v1 : Int32) (v2 : Int32) (v3 : Int32) (t1 : Int32) (t2 : Int32) : Prop := vp_in t1 600 ∧ (∀ s20 : MS, s20 = m_one_s σ t1.toNatClampNeg t2 → vp_in v3 600 ∧ (wm_moved (fun (s21 : MS) (r22 : Int32) => vp_in v2 600 ∧ (∀ s23 : MS, s23 = m_two_s s21 v2.toNatClampNeg r22 → vp_in v3 600 ∧ (wm_moved (fun (s24 : MS) (r25 : Int32) => vp_in v2 600 ∧ (∀ s26 : MS, s26 = m_three_s s24 v2.toNatClampNeg r25 → vp_in v3 600 ∧ (vp_in v2 600 ∧ (∀ s27 : MS, s27 = m_byteOf_s s26 v2.toNatClampNeg (m_byteOf s26 v3.toNatClampNeg) → vp_in v3 600 ∧ (wm_moved (fun (s28 : MS) (r29 : Int32) => vp_in v2 600 ∧ (∀ s30 : MS, s30 = m_sister_s s28 v2.toNatClampNeg r29 → vp_in v3 600 ∧ (vp_in v2 600 ∧ (∀ s31 : MS, s31 = m_value_s s30 v2.toNatClampNeg (m_value s30 v3.toNatClampNeg) → ∀ x32 : Int32, x32 = v2 + (1 : Int32) → lp2 s31 v1 x32)))) s27 (m_sister s27 v3.toNatClampNeg)))))) s23 (m_three s23 v3.toNatClampNeg)))) s20 (m_two s20 v3.toNatClampNeg)))
set_option maxRecDepth 20000 in
theorem km_become_126 {E : gEnv} {l : Launch} {D : va_G} {cl : List vw_C} {G : gAd} {post : MS → Prop} (hE : gOK E cX13_become RX13 none 2) (hm : mOK E l D cl G (qV post) 5) (hF : gFin E) {lp2 : MS → Int32 → Int32 → Prop} (hl2 : ∀ (σ : MS) (v1 : Int32) (v2 : Int32), lp2 σ v1 v2 → GW E (mW G σ) 2 [(0, .ref (G.1 0)), (1, .int v1), (2, .int v2)] []) (σ : MS) (v1 : Int32) (v2 : Int32) (v3 : Int32) (t1 : Int32) (t2 : Int32) (h : wm_become_126 post lp2 σ v1 v2 v3 t1 t2) : GW E (mW G σ) 126 [(0, .ref (G.1 0)), (1, .int v1), (2, .int v2), (3, .int v3)] [.int t2, .int t1, .ref (G.1 14)] := by
  unfold wm_become_126 at h
  have hN := hm.2.2.2.2.2.2.1
  obtain ⟨hi, h⟩ := h
  refine ms_one hE hm dX13_become_g4.2.2.2.2.2.2.2.2.1 hi h (fun s20 h => ?_)
  refine r_aload_n hE 0 dX13_become_g4.2.2.2.2.2.2.2.2.2.1 rfl rfl ?_
  refine mg_two hE hm dX13_become_g4.2.2.2.2.2.2.2.2.2.2.1 ?_
  refine r_iload_n hE 2 dX13_become_g4.2.2.2.2.2.2.2.2.2.2.2.1 rfl rfl ?_
  refine r_aload_n hE 0 dX13_become_g4.2.2.2.2.2.2.2.2.2.2.2.2.1 rfl rfl ?_
  refine mg_two hE hm dX13_become_g4.2.2.2.2.2.2.2.2.2.2.2.2.2.1 ?_
  refine r_iload_n hE 3 dX13_become_g4.2.2.2.2.2.2.2.2.2.2.2.2.2.2.1 rfl rfl ?_
  obtain ⟨hi, h⟩ := h
  refine ml_two hE hm dX13_become_g4.2.2.2.2.2.2.2.2.2.2.2.2.2.2.2 hi ?_
  refine m_callSi hE hm [.int (m_two s20 v3.toNatClampNeg)] [.int v2, .ref (G.1 15)] mc_moved (km_moved hm.2.2.2.2.2.2.2.2 h) (by decide) rfl rfl (Nat.le_of_ble_eq_true rfl) dX13_become_g5.1 (fun s21 r22 h => ?_)
  obtain ⟨hi, h⟩ := h
  refine ms_two hE hm dX13_become_g5.2.1 hi h (fun s23 h => ?_)
  refine r_aload_n hE 0 dX13_become_g5.2.2.1 rfl rfl ?_
  refine mg_three hE hm dX13_become_g5.2.2.2.1 ?_
  refine r_iload_n hE 2 dX13_become_g5.2.2.2.2.1 rfl rfl ?_
  refine r_aload_n hE 0 dX13_become_g5.2.2.2.2.2.1 rfl rfl ?_
  refine mg_three hE hm dX13_become_g5.2.2.2.2.2.2.1 ?_
  refine r_iload_n hE 3 dX13_become_g5.2.2.2.2.2.2.2.1 rfl rfl ?_
  obtain ⟨hi, h⟩ := h
  refine ml_three hE hm dX13_become_g5.2.2.2.2.2.2.2.2.1 hi ?_
  refine m_callSi hE hm [.int (m_three s23 v3.toNatClampNeg)] [.int v2, .ref (G.1 16)] mc_moved (km_moved hm.2.2.2.2.2.2.2.2 h) (by decide) rfl rfl (Nat.le_of_ble_eq_true rfl) dX13_become_g5.2.2.2.2.2.2.2.2.2.1 (fun s24 r25 h => ?_)
  obtain ⟨hi, h⟩ := h
  refine ms_three hE hm dX13_become_g5.2.2.2.2.2.2.2.2.2.2.1 hi h (fun s26 h => ?_)
  refine r_aload_n hE 0 dX13_become_g5.2.2.2.2.2.2.2.2.2.2.2.1 rfl rfl ?_
  refine mg_byteOf hE hm dX13_become_g5.2.2.2.2.2.2.2.2.2.2.2.2.1 ?_
  refine r_iload_n hE 2 dX13_become_g5.2.2.2.2.2.2.2.2.2.2.2.2.2.1 rfl rfl ?_
  refine r_aload_n hE 0 dX13_become_g5.2.2.2.2.2.2.2.2.2.2.2.2.2.2.1 rfl rfl ?_
  refine mg_byteOf hE hm dX13_become_g5.2.2.2.2.2.2.2.2.2.2.2.2.2.2.2 ?_
  refine r_iload_n hE 3 dX13_become_g6.1 rfl rfl ?_
  obtain ⟨hi, h⟩ := h
  refine ml_byteOf hE hm dX13_become_g6.2.1 hi ?_
  obtain ⟨hi, h⟩ := h
  refine ms_byteOf hE hm dX13_become_g6.2.2.1 hi h (fun s27 h => ?_)
  refine r_aload_n hE 0 dX13_become_g6.2.2.2.1 rfl rfl ?_
  refine mg_sister hE hm dX13_become_g6.2.2.2.2.1 ?_
  refine r_iload_n hE 2 dX13_become_g6.2.2.2.2.2.1 rfl rfl ?_
  refine r_aload_n hE 0 dX13_become_g6.2.2.2.2.2.2.1 rfl rfl ?_
  refine mg_sister hE hm dX13_become_g6.2.2.2.2.2.2.2.1 ?_
  refine r_iload_n hE 3 dX13_become_g6.2.2.2.2.2.2.2.2.1 rfl rfl ?_
  obtain ⟨hi, h⟩ := h
  refine ml_sister hE hm dX13_become_g6.2.2.2.2.2.2.2.2.2.1 hi ?_
  refine m_callSi hE hm [.int (m_sister s27 v3.toNatClampNeg)] [.int v2, .ref (G.1 18)] mc_moved (km_moved hm.2.2.2.2.2.2.2.2 h) (by decide) rfl rfl (Nat.le_of_ble_eq_true rfl) dX13_become_g6.2.2.2.2.2.2.2.2.2.2.1 (fun s28 r29 h => ?_)
  obtain ⟨hi, h⟩ := h
  refine ms_sister hE hm dX13_become_g6.2.2.2.2.2.2.2.2.2.2.2.1 hi h (fun s30 h => ?_)
  refine r_aload_n hE 0 dX13_become_g6.2.2.2.2.2.2.2.2.2.2.2.2.1 rfl rfl ?_
  refine mg_value hE hm dX13_become_g6.2.2.2.2.2.2.2.2.2.2.2.2.2.1 ?_
  refine r_iload_n hE 2 dX13_become_g6.2.2.2.2.2.2.2.2.2.2.2.2.2.2.1 rfl rfl ?_
  refine r_aload_n hE 0 dX13_become_g6.2.2.2.2.2.2.2.2.2.2.2.2.2.2.2 rfl rfl ?_
  refine mg_value hE hm dX13_become_g7.1 ?_
  refine r_iload_n hE 3 dX13_become_g7.2.1 rfl rfl ?_
  obtain ⟨hi, h⟩ := h
  refine ml_value hE hm dX13_become_g7.2.2.1 hi ?_
  obtain ⟨hi, h⟩ := h
  refine ms_value hE hm dX13_become_g7.2.2.2.1 hi h (fun s31 h => ?_)
  obtain ⟨x32, ex32⟩ : ∃ z : Int32, z = v2 + (1 : Int32) := ⟨_, rfl⟩
  have h := h x32 ex32
  refine r_iinc (v := x32) hE [(2, .int x32), (0, .ref (G.1 0)), (1, .int v1), (3, .int v3)] 2 dX13_become_g7.2.2.2.2.1 rfl (by rw [ex32]; rfl) hN (by decide) rfl ?_
  refine r_goto hE 2 dX13_become_g7.2.2.2.2.2.1 (by decide) ?_
  refine r_pick [1, 2, 0] rfl ?_
  exact hl2 _ _ _ h
def wm_become_96 (post : MS → Prop) (lp2 : MS → Int32 → Int32 → Prop) (σ : MS) (v1 : Int32) (v2 : Int32) (v3 : Int32) (t0 : Int32) : Prop := ((t0 = (0 : Int32)) → (vp_in v3 600 ∧ (wm_moved (fun (s33 : MS) (r34 : Int32) => wm_become_126 post lp2 s33 v1 v2 v3 v2 r34) σ (m_one σ v3.toNatClampNeg)))) ∧ ((¬ (t0 = (0 : Int32))) → (vp_in v3 600 ∧ (wm_become_126 post lp2 σ v1 v2 v3 v2 (m_one σ v3.toNatClampNeg))))
set_option maxRecDepth 20000 in
theorem km_become_96 {E : gEnv} {l : Launch} {D : va_G} {cl : List vw_C} {G : gAd} {post : MS → Prop} (hE : gOK E cX13_become RX13 none 2) (hm : mOK E l D cl G (qV post) 5) (hF : gFin E) {lp2 : MS → Int32 → Int32 → Prop} (hl2 : ∀ (σ : MS) (v1 : Int32) (v2 : Int32), lp2 σ v1 v2 → GW E (mW G σ) 2 [(0, .ref (G.1 0)), (1, .int v1), (2, .int v2)] []) (σ : MS) (v1 : Int32) (v2 : Int32) (v3 : Int32) (t0 : Int32) (h : wm_become_96 post lp2 σ v1 v2 v3 t0) : GW E (mW G σ) 96 [(0, .ref (G.1 0)), (1, .int v1), (2, .int v2), (3, .int v3)] [.int t0] := by
  unfold wm_become_96 at h
  have hN := hm.2.2.2.2.2.2.1
  refine r_istore hE [(4, .int t0), (0, .ref (G.1 0)), (1, .int v1), (2, .int v2), (3, .int v3)] dX13_become_g3.2.2.2.2.2.2.2.2.1 hN (by decide) rfl ?_
  refine r_aload_n hE 1 dX13_become_g3.2.2.2.2.2.2.2.2.2.1 rfl rfl ?_
  refine mg_one hE hm dX13_become_g3.2.2.2.2.2.2.2.2.2.2.1 ?_
  refine r_iload_n hE 3 dX13_become_g3.2.2.2.2.2.2.2.2.2.2.2.1 rfl rfl ?_
  refine r_iload hE 0 dX13_become_g3.2.2.2.2.2.2.2.2.2.2.2.2.1 rfl ?_
  refine r_if_eq hE 117 dX13_become_g3.2.2.2.2.2.2.2.2.2.2.2.2.2.1 (by decide) h (fun h => ?_) (fun h => ?_)
  · refine r_aload_n hE 1 dX13_become_g4.2.2.2.1 rfl rfl ?_
    refine mg_one hE hm dX13_become_g4.2.2.2.2.1 ?_
    refine r_iload_n hE 4 dX13_become_g4.2.2.2.2.2.1 rfl rfl ?_
    obtain ⟨hi, h⟩ := h
    refine ml_one hE hm dX13_become_g4.2.2.2.2.2.2.1 hi ?_
    refine m_callSi hE hm [.int (m_one σ v3.toNatClampNeg)] [.int v2, .ref (G.1 14)] mc_moved (km_moved hm.2.2.2.2.2.2.2.2 h) (by decide) rfl rfl (Nat.le_of_ble_eq_true rfl) dX13_become_g4.2.2.2.2.2.2.2.1 (fun s33 r34 h => ?_)
    refine r_pick [1, 2, 3, 4] rfl ?_
    exact km_become_126 hE hm hF hl2 _ _ _ _ _ _ h
  · refine r_aload_n hE 1 dX13_become_g3.2.2.2.2.2.2.2.2.2.2.2.2.2.2.1 rfl rfl ?_
    refine mg_one hE hm dX13_become_g3.2.2.2.2.2.2.2.2.2.2.2.2.2.2.2 ?_
    refine r_iload_n hE 4 dX13_become_g4.1 rfl rfl ?_
    obtain ⟨hi, h⟩ := h
    refine ml_one hE hm dX13_become_g4.2.1 hi ?_
    refine r_goto hE 126 dX13_become_g4.2.2.1 (by decide) ?_
    refine r_pick [1, 2, 3, 4] rfl ?_
    exact km_become_126 hE hm hF hl2 _ _ _ _ _ _ h
def wm_become_91 (post : MS → Prop) (lp2 : MS → Int32 → Int32 → Prop) (σ : MS) (v1 : Int32) (v2 : Int32) (v3 : Int32) : Prop := wm_become_96 post lp2 σ v1 v2 v3 (1 : Int32)
set_option maxRecDepth 20000 in
theorem km_become_91 {E : gEnv} {l : Launch} {D : va_G} {cl : List vw_C} {G : gAd} {post : MS → Prop} (hE : gOK E cX13_become RX13 none 2) (hm : mOK E l D cl G (qV post) 5) (hF : gFin E) {lp2 : MS → Int32 → Int32 → Prop} (hl2 : ∀ (σ : MS) (v1 : Int32) (v2 : Int32), lp2 σ v1 v2 → GW E (mW G σ) 2 [(0, .ref (G.1 0)), (1, .int v1), (2, .int v2)] []) (σ : MS) (v1 : Int32) (v2 : Int32) (v3 : Int32) (h : wm_become_91 post lp2 σ v1 v2 v3) : GW E (mW G σ) 91 [(0, .ref (G.1 0)), (1, .int v1), (2, .int v2), (3, .int v3)] [] := by
  unfold wm_become_91 at h
  have hN := hm.2.2.2.2.2.2.1
  refine r_iconst (v := (1 : Int32)) hE dX13_become_g3.2.2.2.2.2.1 (by decide) ?_
  refine r_goto hE 96 dX13_become_g3.2.2.2.2.2.2.1 (by decide) ?_
  exact km_become_96 hE hm hF hl2 _ _ _ _ _ h
def wm_become_2 (post : MS → Prop) : Nat → MS → Int32 → Int32 → Prop
  | 0, _, _, _ => False
  | n + 1, σ, v1, v2 => (((m_readNodes σ) ≤ v2) → (∀ s35 : MS, s35 = m_nodes_s σ (m_readNodes σ) → ∀ s36 : MS, s36 = m_deeds_s s35 (m_readDeeds s35) → ∀ s37 : MS, s37 = m_macros_s s36 (m_readMacros s36) → wm_moved (fun (s38 : MS) (r39 : Int32) => ∀ s40 : MS, s40 = m_firstDeed_s s38 r39 → ∃ k : Nat, wm_become_236 post k s40 (0 : Int32)) s37 v1)) ∧ ((¬ ((m_readNodes σ) ≤ v2)) → (∀ x41 : Int32, x41 = (300 : Int32) + v2 → vp_in x41 600 ∧ (vp_in v2 600 ∧ (∀ s42 : MS, s42 = m_kind_s σ v2.toNatClampNeg (m_kind σ x41.toNatClampNeg) → vp_in x41 600 ∧ ((((m_kind s42 x41.toNatClampNeg) = (0 : Int32)) → (wm_become_91 post (fun (ys : MS) (y0 : Int32) (y1 : Int32) => wm_become_2 post n ys y0 y1) s42 v1 v2 x41)) ∧ ((¬ ((m_kind s42 x41.toNatClampNeg) = (0 : Int32))) → (vp_in x41 600 ∧ ((((m_kind s42 x41.toNatClampNeg) = (1 : Int32)) → (wm_become_91 post (fun (ys : MS) (y0 : Int32) (y1 : Int32) => wm_become_2 post n ys y0 y1) s42 v1 v2 x41)) ∧ ((¬ ((m_kind s42 x41.toNatClampNeg) = (1 : Int32))) → (vp_in x41 600 ∧ ((((m_kind s42 x41.toNatClampNeg) = (8 : Int32)) → (wm_become_91 post (fun (ys : MS) (y0 : Int32) (y1 : Int32) => wm_become_2 post n ys y0 y1) s42 v1 v2 x41)) ∧ ((¬ ((m_kind s42 x41.toNatClampNeg) = (8 : Int32))) → (vp_in x41 600 ∧ ((((m_kind s42 x41.toNatClampNeg) = (9 : Int32)) → (wm_become_91 post (fun (ys : MS) (y0 : Int32) (y1 : Int32) => wm_become_2 post n ys y0 y1) s42 v1 v2 x41)) ∧ ((¬ ((m_kind s42 x41.toNatClampNeg) = (9 : Int32))) → (vp_in x41 600 ∧ ((((m_kind s42 x41.toNatClampNeg) = (10 : Int32)) → (wm_become_91 post (fun (ys : MS) (y0 : Int32) (y1 : Int32) => wm_become_2 post n ys y0 y1) s42 v1 v2 x41)) ∧ ((¬ ((m_kind s42 x41.toNatClampNeg) = (10 : Int32))) → (vp_in x41 600 ∧ (((¬ ((m_kind s42 x41.toNatClampNeg) = (12 : Int32))) → (wm_become_96 post (fun (ys : MS) (y0 : Int32) (y1 : Int32) => wm_become_2 post n ys y0 y1) s42 v1 v2 x41 (0 : Int32))) ∧ (((m_kind s42 x41.toNatClampNeg) = (12 : Int32)) → (wm_become_91 post (fun (ys : MS) (y0 : Int32) (y1 : Int32) => wm_become_2 post n ys y0 y1) s42 v1 v2 x41))))))))))))))))))))))
set_option maxRecDepth 20000 in
theorem km_become_2 {E : gEnv} {l : Launch} {D : va_G} {cl : List vw_C} {G : gAd} {post : MS → Prop} (hE : gOK E cX13_become RX13 none 2) (hm : mOK E l D cl G (qV post) 5) (hF : gFin E) : ∀ (n : Nat) (σ : MS) (v1 : Int32) (v2 : Int32), wm_become_2 post n σ v1 v2 → GW E (mW G σ) 2 [(0, .ref (G.1 0)), (1, .int v1), (2, .int v2)] [] := by
  intro n
  induction n with
  | zero => intro σ v1 v2 h; exact h.elim
  | succ n ih =>
    intro σ v1 v2 h
    rw [wm_become_2] at h
    have hN := hm.2.2.2.2.2.2.1
    refine r_iload_n hE 2 dX13_become_g0.2.2.1 rfl rfl ?_
    refine r_aload_n hE 0 dX13_become_g0.2.2.2.1 rfl rfl ?_
    refine mg_readNodes hE hm dX13_become_g0.2.2.2.2.1 ?_
    refine r_icmp_ge hE 202 dX13_become_g0.2.2.2.2.2.1 (by decide) h (fun h => ?_) (fun h => ?_)
    · refine r_aload_n hE 0 dX13_become_g7.2.2.2.2.2.2.1 rfl rfl ?_
      refine r_aload_n hE 0 dX13_become_g7.2.2.2.2.2.2.2.1 rfl rfl ?_
      refine mg_readNodes hE hm dX13_become_g7.2.2.2.2.2.2.2.2.1 ?_
      refine mp_nodes hE hm dX13_become_g7.2.2.2.2.2.2.2.2.2.1 h (fun s35 h => ?_)
      refine r_aload_n hE 0 dX13_become_g7.2.2.2.2.2.2.2.2.2.2.1 rfl rfl ?_
      refine r_aload_n hE 0 dX13_become_g7.2.2.2.2.2.2.2.2.2.2.2.1 rfl rfl ?_
      refine mg_readDeeds hE hm dX13_become_g7.2.2.2.2.2.2.2.2.2.2.2.2.1 ?_
      refine mp_deeds hE hm dX13_become_g7.2.2.2.2.2.2.2.2.2.2.2.2.2.1 h (fun s36 h => ?_)
      refine r_aload_n hE 0 dX13_become_g7.2.2.2.2.2.2.2.2.2.2.2.2.2.2.1 rfl rfl ?_
      refine r_aload_n hE 0 dX13_become_g7.2.2.2.2.2.2.2.2.2.2.2.2.2.2.2 rfl rfl ?_
      refine mg_readMacros hE hm dX13_become_g8.1 ?_
      refine mp_macros hE hm dX13_become_g8.2.1 h (fun s37 h => ?_)
      refine r_aload_n hE 0 dX13_become_g8.2.2.1 rfl rfl ?_
      refine r_iload_n hE 1 dX13_become_g8.2.2.2.1 rfl rfl ?_
      refine m_callSi hE hm [.int v1] [.ref (G.1 0)] mc_moved (km_moved hm.2.2.2.2.2.2.2.2 h) (by decide) rfl rfl (Nat.le_of_ble_eq_true rfl) dX13_become_g8.2.2.2.2.1 (fun s38 r39 h => ?_)
      refine mp_firstDeed hE hm dX13_become_g8.2.2.2.2.2.1 h (fun s40 h => ?_)
      refine r_iconst (v := (0 : Int32)) hE dX13_become_g8.2.2.2.2.2.2.1 (by decide) ?_
      refine r_istore_n hE [(2, .int (0 : Int32)), (0, .ref (G.1 0)), (1, .int v1)] dX13_become_g8.2.2.2.2.2.2.2.1 rfl hN (by decide) rfl ?_
      refine r_pick [1, 0] rfl ?_
      obtain ⟨k, h⟩ := h
      exact km_become_236 hE hm hF k _ _ h
    · refine r_sipush (v := (300 : Int32)) hE dX13_become_g0.2.2.2.2.2.2.1 (by decide) ?_
      refine r_iload_n hE 2 dX13_become_g0.2.2.2.2.2.2.2.1 rfl rfl ?_
      refine r_iadd hE dX13_become_g0.2.2.2.2.2.2.2.2.1 ?_
      refine r_topi h (fun x41 ex41 h => ?_)
      refine r_istore_n hE [(3, .int x41), (0, .ref (G.1 0)), (1, .int v1), (2, .int v2)] dX13_become_g0.2.2.2.2.2.2.2.2.2.1 rfl hN (by decide) rfl ?_
      refine r_aload_n hE 1 dX13_become_g0.2.2.2.2.2.2.2.2.2.2.1 rfl rfl ?_
      refine mg_kind hE hm dX13_become_g0.2.2.2.2.2.2.2.2.2.2.2.1 ?_
      refine r_iload_n hE 3 dX13_become_g0.2.2.2.2.2.2.2.2.2.2.2.2.1 rfl rfl ?_
      refine r_aload_n hE 1 dX13_become_g0.2.2.2.2.2.2.2.2.2.2.2.2.2.1 rfl rfl ?_
      refine mg_kind hE hm dX13_become_g0.2.2.2.2.2.2.2.2.2.2.2.2.2.2.1 ?_
      refine r_iload_n hE 0 dX13_become_g0.2.2.2.2.2.2.2.2.2.2.2.2.2.2.2 rfl rfl ?_
      obtain ⟨hi, h⟩ := h
      refine ml_kind hE hm dX13_become_g1.1 hi ?_
      obtain ⟨hi, h⟩ := h
      refine ms_kind hE hm dX13_become_g1.2.1 hi h (fun s42 h => ?_)
      refine r_aload_n hE 1 dX13_become_g1.2.2.1 rfl rfl ?_
      refine mg_kind hE hm dX13_become_g1.2.2.2.1 ?_
      refine r_iload_n hE 0 dX13_become_g1.2.2.2.2.1 rfl rfl ?_
      obtain ⟨hi, h⟩ := h
      refine ml_kind hE hm dX13_become_g1.2.2.2.2.2.1 hi ?_
      refine r_if_eq hE 91 dX13_become_g1.2.2.2.2.2.2.1 (by decide) h (fun h => ?_) (fun h => ?_)
      · refine r_pick [1, 2, 3, 0] rfl ?_
        exact km_become_91 hE hm hF ih _ _ _ _ h
      · refine r_aload_n hE 1 dX13_become_g1.2.2.2.2.2.2.2.1 rfl rfl ?_
        refine mg_kind hE hm dX13_become_g1.2.2.2.2.2.2.2.2.1 ?_
        refine r_iload_n hE 0 dX13_become_g1.2.2.2.2.2.2.2.2.2.1 rfl rfl ?_
        obtain ⟨hi, h⟩ := h
        refine ml_kind hE hm dX13_become_g1.2.2.2.2.2.2.2.2.2.2.1 hi ?_
        refine r_iconst (v := (1 : Int32)) hE dX13_become_g1.2.2.2.2.2.2.2.2.2.2.2.1 (by decide) ?_
        refine r_icmp_eq hE 91 dX13_become_g1.2.2.2.2.2.2.2.2.2.2.2.2.1 (by decide) h (fun h => ?_) (fun h => ?_)
        · refine r_pick [1, 2, 3, 0] rfl ?_
          exact km_become_91 hE hm hF ih _ _ _ _ h
        · refine r_aload_n hE 1 dX13_become_g1.2.2.2.2.2.2.2.2.2.2.2.2.2.1 rfl rfl ?_
          refine mg_kind hE hm dX13_become_g1.2.2.2.2.2.2.2.2.2.2.2.2.2.2.1 ?_
          refine r_iload_n hE 0 dX13_become_g1.2.2.2.2.2.2.2.2.2.2.2.2.2.2.2 rfl rfl ?_
          obtain ⟨hi, h⟩ := h
          refine ml_kind hE hm dX13_become_g2.1 hi ?_
          refine r_bipush (v := (8 : Int32)) hE dX13_become_g2.2.1 (by decide) ?_
          refine r_icmp_eq hE 91 dX13_become_g2.2.2.1 (by decide) h (fun h => ?_) (fun h => ?_)
          · refine r_pick [1, 2, 3, 0] rfl ?_
            exact km_become_91 hE hm hF ih _ _ _ _ h
          · refine r_aload_n hE 1 dX13_become_g2.2.2.2.1 rfl rfl ?_
            refine mg_kind hE hm dX13_become_g2.2.2.2.2.1 ?_
            refine r_iload_n hE 0 dX13_become_g2.2.2.2.2.2.1 rfl rfl ?_
            obtain ⟨hi, h⟩ := h
            refine ml_kind hE hm dX13_become_g2.2.2.2.2.2.2.1 hi ?_
            refine r_bipush (v := (9 : Int32)) hE dX13_become_g2.2.2.2.2.2.2.2.1 (by decide) ?_
            refine r_icmp_eq hE 91 dX13_become_g2.2.2.2.2.2.2.2.2.1 (by decide) h (fun h => ?_) (fun h => ?_)
            · refine r_pick [1, 2, 3, 0] rfl ?_
              exact km_become_91 hE hm hF ih _ _ _ _ h
            · refine r_aload_n hE 1 dX13_become_g2.2.2.2.2.2.2.2.2.2.1 rfl rfl ?_
              refine mg_kind hE hm dX13_become_g2.2.2.2.2.2.2.2.2.2.2.1 ?_
              refine r_iload_n hE 0 dX13_become_g2.2.2.2.2.2.2.2.2.2.2.2.1 rfl rfl ?_
              obtain ⟨hi, h⟩ := h
              refine ml_kind hE hm dX13_become_g2.2.2.2.2.2.2.2.2.2.2.2.2.1 hi ?_
              refine r_bipush (v := (10 : Int32)) hE dX13_become_g2.2.2.2.2.2.2.2.2.2.2.2.2.2.1 (by decide) ?_
              refine r_icmp_eq hE 91 dX13_become_g2.2.2.2.2.2.2.2.2.2.2.2.2.2.2.1 (by decide) h (fun h => ?_) (fun h => ?_)
              · refine r_pick [1, 2, 3, 0] rfl ?_
                exact km_become_91 hE hm hF ih _ _ _ _ h
              · refine r_aload_n hE 1 dX13_become_g2.2.2.2.2.2.2.2.2.2.2.2.2.2.2.2 rfl rfl ?_
                refine mg_kind hE hm dX13_become_g3.1 ?_
                refine r_iload_n hE 0 dX13_become_g3.2.1 rfl rfl ?_
                obtain ⟨hi, h⟩ := h
                refine ml_kind hE hm dX13_become_g3.2.2.1 hi ?_
                refine r_bipush (v := (12 : Int32)) hE dX13_become_g3.2.2.2.1 (by decide) ?_
                refine r_icmp_ne hE 95 dX13_become_g3.2.2.2.2.1 (by decide) h (fun h => ?_) (fun h => ?_)
                · refine r_iconst (v := (0 : Int32)) hE dX13_become_g3.2.2.2.2.2.2.2.1 (by decide) ?_
                  refine r_pick [1, 2, 3, 0] rfl ?_
                  exact km_become_96 hE hm hF ih _ _ _ _ _ h
                · refine r_pick [1, 2, 3, 0] rfl ?_
                  exact km_become_91 hE hm hF ih _ _ _ _ h
def wm_become (post : MS → Prop) (σ : MS) (a1 : Int32) : Prop := ∃ k : Nat, wm_become_2 post k σ a1 (0 : Int32)
set_option maxRecDepth 20000 in
theorem km_become {l : Launch} {D : va_G} {cl : List vw_C} {G : gAd} {post : MS → Prop} (hcl : mC cl) {σ : MS} {a1 : Int32} (h : wm_become post σ a1) : mMet l D cl G yX13_become cX13_become 5 none 2 [.ref (G.1 0), .int a1] σ (qV post) := by
  unfold wm_become at h
  refine m_enter hcl (by decide +kernel) rfl [(0, .ref (G.1 0)), (1, .int a1)] rfl (Nat.le_of_ble_eq_true rfl) ?_
  intro E hE hm hF
  have hN := hm.2.2.2.2.2.2.1
  refine r_iconst (v := (0 : Int32)) hE dX13_become_g0.1 (by decide) ?_
  refine r_istore_n hE [(2, .int (0 : Int32)), (0, .ref (G.1 0)), (1, .int a1)] dX13_become_g0.2.1 rfl hN (by decide) rfl ?_
  refine r_pick [1, 2, 0] rfl ?_
  obtain ⟨k, h⟩ := h
  exact km_become_2 hE hm hF k _ _ _ h
