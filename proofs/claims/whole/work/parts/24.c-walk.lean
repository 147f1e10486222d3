/-! rk_fail -/
def wc_rk_fail (post : CS → Prop) (σ : CS) (a1 : Int32) : Prop := ((¬ ((c_rk_failure σ) = (0 : Int32))) → (post σ)) ∧ (((c_rk_failure σ) = (0 : Int32)) → (∀ s1 : CS, s1 = c_rk_failure_s σ a1 → post s1))
set_option maxRecDepth 20000 in
theorem kc_rk_fail {l : Launch} {D : va_G} {G : gAd} {post : CS → Prop} {σ : CS} {a1 : Int32} (h : wc_rk_fail post σ a1) : cMet l D G yX6_fail cX6_fail 2 none 1 [.ref (G.1 800), .int a1] σ (pV post) := by
  unfold wc_rk_fail at h
  refine c_enter (own := RX6) (by decide +kernel) rfl [(0, .ref (G.1 800)), (1, .int a1)] rfl (Nat.le_of_ble_eq_true rfl) ?_
  intro E hE hm
  have hN := hm.2.2.2.2.2.2.1
  refine r_aload_n hE 0 dX6_fail_g0.1 rfl rfl ?_
  refine cg_rk_failure hE hm fk_X6_9 dX6_fail_g0.2.1 ?_
  refine r_if_ne hE 12 dX6_fail_g0.2.2.1 (by decide) h (fun h => ?_) (fun h => ?_)
  · exact c_vret hE hm dX6_fail_g0.2.2.2.2.2.2 h
  · refine r_aload_n hE 0 dX6_fail_g0.2.2.2.1 rfl rfl ?_
    refine r_iload_n hE 1 dX6_fail_g0.2.2.2.2.1 rfl rfl ?_
    refine cp_rk_failure hE hm fk_X6_9 dX6_fail_g0.2.2.2.2.2.1 h (fun s1 h => ?_)
    exact c_vret hE hm dX6_fail_g0.2.2.2.2.2.2 h
/-! SX6_truth -/
def wc_SX6_truth (post : CS → Int64 → Prop) (σ : CS) (a0 : Int32) : Prop := ((a0 = (0 : Int32)) → (post σ (1 : Int64))) ∧ ((¬ (a0 = (0 : Int32))) → (post σ (4294967297 : Int64)))
set_option maxRecDepth 20000 in
theorem kc_SX6_truth {l : Launch} {D : va_G} {G : gAd} {post : CS → Int64 → Prop} {σ : CS} {a0 : Int32} (h : wc_SX6_truth post σ a0) : cMet l D G yX6_truth cX6_truth 1 (some .long) 1 [.int a0] σ (pL post) := by
  unfold wc_SX6_truth at h
  refine c_enter (own := RX6) (by decide +kernel) rfl [(0, .int a0)] rfl (Nat.le_of_ble_eq_true rfl) ?_
  intro E hE hm
  have hN := hm.2.2.2.2.2.2.1
  refine r_iload_n hE 0 dX6_truth_g0.1 rfl rfl ?_
  refine r_if_eq hE 10 dX6_truth_g0.2.1 (by decide) h (fun h => ?_) (fun h => ?_)
  · refine r_lconst (v := (1 : Int64)) hE dX6_truth_g0.2.2.2.2.1 (by decide) ?_
    exact c_lret hE hm dX6_truth_g0.2.2.2.2.2 h
  · refine r_ldc2 (v := (4294967297 : Int64)) hE dX6_truth_g0.2.2.1 (gTb_5 (List.mem_of_getElem? (i := 48) rfl) rfl) ?_
    refine r_goto hE 11 dX6_truth_g0.2.2.2.1 (by decide) ?_
    exact c_lret hE hm dX6_truth_g0.2.2.2.2.2 h
/-! rk_minus -/
def wc_rk_minus (post : CS → Int64 → Prop) (σ : CS) (a1 : Int64) (a3 : Int64) : Prop := wc_SX6_top (fun (s1 : CS) (r2 : Int64) => wc_SX6_bottom (fun (s3 : CS) (r4 : Int64) => wc_SX6_top (fun (s5 : CS) (r6 : Int64) => wc_SX6_bottom (fun (s7 : CS) (r8 : Int64) => wc_SX6_bottom (fun (s9 : CS) (r10 : Int64) => wc_SX6_bottom (fun (s11 : CS) (r12 : Int64) => wc_rk_reduced (fun (s13 : CS) (r14 : Int64) => post s13 r14) s11 ((r2 * r4) - (r6 * r8)) (r10 * r12)) s9 a3) s7 a1) s5 a1) s3 a3) s1 a3) σ a1
set_option maxRecDepth 20000 in
theorem kc_rk_minus {l : Launch} {D : va_G} {G : gAd} {post : CS → Int64 → Prop} {σ : CS} {a1 : Int64} {a3 : Int64} (h : wc_rk_minus post σ a1 a3) : cMet l D G yX6_minus cX6_minus 5 (some .long) 2 [.ref (G.1 800), .long a1, .long a3] σ (pL post) := by
  unfold wc_rk_minus at h
  refine c_enter (own := RX6) (by decide +kernel) rfl [(0, .ref (G.1 800)), (1, .long a1), (3, .long a3)] rfl (Nat.le_of_ble_eq_true rfl) ?_
  intro E hE hm
  have hN := hm.2.2.2.2.2.2.1
  refine r_aload_n hE 0 dX6_minus_g0.1 rfl rfl ?_
  refine r_lload_n hE 1 dX6_minus_g0.2.1 rfl rfl ?_
  refine c_callSl hE hm [.long a1] [.ref (G.1 800)] ck_X6_19 (kc_SX6_top h) (by decide) rfl rfl (Nat.le_of_ble_eq_true rfl) dX6_minus_g0.2.2.1 (fun s1 r2 h => ?_)
  refine r_lload_n hE 2 dX6_minus_g0.2.2.2.1 rfl rfl ?_
  refine c_callSl hE hm [.long a3] [.long r2, .ref (G.1 800)] ck_X6_23 (kc_SX6_bottom h) (by decide) rfl rfl (Nat.le_of_ble_eq_true rfl) dX6_minus_g0.2.2.2.2.1 (fun s3 r4 h => ?_)
  refine r_lmul hE dX6_minus_g0.2.2.2.2.2.1 ?_
  refine r_lload_n hE 2 dX6_minus_g0.2.2.2.2.2.2.1 rfl rfl ?_
  refine c_callSl hE hm [.long a3] [.long (r2 * r4), .ref (G.1 800)] ck_X6_19 (kc_SX6_top h) (by decide) rfl rfl (Nat.le_of_ble_eq_true rfl) dX6_minus_g0.2.2.2.2.2.2.2.1 (fun s5 r6 h => ?_)
  refine r_lload_n hE 1 dX6_minus_g0.2.2.2.2.2.2.2.2.1 rfl rfl ?_
  refine c_callSl hE hm [.long a1] [.long r6, .long (r2 * r4), .ref (G.1 800)] ck_X6_23 (kc_SX6_bottom h) (by decide) rfl rfl (Nat.le_of_ble_eq_true rfl) dX6_minus_g0.2.2.2.2.2.2.2.2.2.1 (fun s7 r8 h => ?_)
  refine r_lmul hE dX6_minus_g0.2.2.2.2.2.2.2.2.2.2.1 ?_
  refine r_lsub hE dX6_minus_g0.2.2.2.2.2.2.2.2.2.2.2.1 ?_
  refine r_lload_n hE 1 dX6_minus_g0.2.2.2.2.2.2.2.2.2.2.2.2.1 rfl rfl ?_
  refine c_callSl hE hm [.long a1] [.long ((r2 * r4) - (r6 * r8)), .ref (G.1 800)] ck_X6_23 (kc_SX6_bottom h) (by decide) rfl rfl (Nat.le_of_ble_eq_true rfl) dX6_minus_g0.2.2.2.2.2.2.2.2.2.2.2.2.2.1 (fun s9 r10 h => ?_)
  refine r_lload_n hE 2 dX6_minus_g0.2.2.2.2.2.2.2.2.2.2.2.2.2.2.1 rfl rfl ?_
  refine c_callSl hE hm [.long a3] [.long r10, .long ((r2 * r4) - (r6 * r8)), .ref (G.1 800)] ck_X6_23 (kc_SX6_bottom h) (by decide) rfl rfl (Nat.le_of_ble_eq_true rfl) dX6_minus_g0.2.2.2.2.2.2.2.2.2.2.2.2.2.2.2 (fun s11 r12 h => ?_)
  refine r_lmul hE dX6_minus_g1.1 ?_
  refine c_callVl hE hm [.long ((r2 * r4) - (r6 * r8)), .long (r10 * r12)] [] ck_X6_32 (cr_rk hm rfl) (kc_rk_reduced h) (by decide) rfl rfl (Nat.le_of_ble_eq_true rfl) dX6_minus_g1.2.1 (fun s13 r14 h => ?_)
  exact c_lret hE hm dX6_minus_g1.2.2 h
/-! rk_over -/
def wc_rk_over (post : CS → Int64 → Prop) (σ : CS) (a1 : Int64) (a3 : Int64) : Prop := wc_SX6_top (fun (s1 : CS) (r2 : Int64) => wc_SX6_bottom (fun (s3 : CS) (r4 : Int64) => wc_SX6_bottom (fun (s5 : CS) (r6 : Int64) => wc_SX6_top (fun (s7 : CS) (r8 : Int64) => wc_rk_reduced (fun (s9 : CS) (r10 : Int64) => post s9 r10) s7 (r2 * r4) (r6 * r8)) s5 a3) s3 a1) s1 a3) σ a1
set_option maxRecDepth 20000 in
theorem kc_rk_over {l : Launch} {D : va_G} {G : gAd} {post : CS → Int64 → Prop} {σ : CS} {a1 : Int64} {a3 : Int64} (h : wc_rk_over post σ a1 a3) : cMet l D G yX6_over cX6_over 5 (some .long) 2 [.ref (G.1 800), .long a1, .long a3] σ (pL post) := by
  unfold wc_rk_over at h
  refine c_enter (own := RX6) (by decide +kernel) rfl [(0, .ref (G.1 800)), (1, .long a1), (3, .long a3)] rfl (Nat.le_of_ble_eq_true rfl) ?_
  intro E hE hm
  have hN := hm.2.2.2.2.2.2.1
  refine r_aload_n hE 0 dX6_over_g0.1 rfl rfl ?_
  refine r_lload_n hE 1 dX6_over_g0.2.1 rfl rfl ?_
  refine c_callSl hE hm [.long a1] [.ref (G.1 800)] ck_X6_19 (kc_SX6_top h) (by decide) rfl rfl (Nat.le_of_ble_eq_true rfl) dX6_over_g0.2.2.1 (fun s1 r2 h => ?_)
  refine r_lload_n hE 2 dX6_over_g0.2.2.2.1 rfl rfl ?_
  refine c_callSl hE hm [.long a3] [.long r2, .ref (G.1 800)] ck_X6_23 (kc_SX6_bottom h) (by decide) rfl rfl (Nat.le_of_ble_eq_true rfl) dX6_over_g0.2.2.2.2.1 (fun s3 r4 h => ?_)
  refine r_lmul hE dX6_over_g0.2.2.2.2.2.1 ?_
  refine r_lload_n hE 1 dX6_over_g0.2.2.2.2.2.2.1 rfl rfl ?_
  refine c_callSl hE hm [.long a1] [.long (r2 * r4), .ref (G.1 800)] ck_X6_23 (kc_SX6_bottom h) (by decide) rfl rfl (Nat.le_of_ble_eq_true rfl) dX6_over_g0.2.2.2.2.2.2.2.1 (fun s5 r6 h => ?_)
  refine r_lload_n hE 2 dX6_over_g0.2.2.2.2.2.2.2.2.1 rfl rfl ?_
  refine c_callSl hE hm [.long a3] [.long r6, .long (r2 * r4), .ref (G.1 800)] ck_X6_19 (kc_SX6_top h) (by decide) rfl rfl (Nat.le_of_ble_eq_true rfl) dX6_over_g0.2.2.2.2.2.2.2.2.2.1 (fun s7 r8 h => ?_)
  refine r_lmul hE dX6_over_g0.2.2.2.2.2.2.2.2.2.2.1 ?_
  refine c_callVl hE hm [.long (r2 * r4), .long (r6 * r8)] [] ck_X6_32 (cr_rk hm rfl) (kc_rk_reduced h) (by decide) rfl rfl (Nat.le_of_ble_eq_true rfl) dX6_over_g0.2.2.2.2.2.2.2.2.2.2.2.1 (fun s9 r10 h => ?_)
  exact c_lret hE hm dX6_over_g0.2.2.2.2.2.2.2.2.2.2.2.2 h
/-! rk_negative -/
def wc_rk_negative (post : CS → Int64 → Prop) (σ : CS) (a1 : Int64) : Prop := wc_SX6_top (fun (s1 : CS) (r2 : Int64) => wc_SX6_bottom (fun (s3 : CS) (r4 : Int64) => wc_rk_reduced (fun (s5 : CS) (r6 : Int64) => post s5 r6) s3 (-r2) r4) s1 a1) σ a1
set_option maxRecDepth 20000 in
theorem kc_rk_negative {l : Launch} {D : va_G} {G : gAd} {post : CS → Int64 → Prop} {σ : CS} {a1 : Int64} (h : wc_rk_negative post σ a1) : cMet l D G yX6_negative cX6_negative 3 (some .long) 2 [.ref (G.1 800), .long a1] σ (pL post) := by
  unfold wc_rk_negative at h
  refine c_enter (own := RX6) (by decide +kernel) rfl [(0, .ref (G.1 800)), (1, .long a1)] rfl (Nat.le_of_ble_eq_true rfl) ?_
  intro E hE hm
  have hN := hm.2.2.2.2.2.2.1
  refine r_aload_n hE 0 dX6_negative_g0.1 rfl rfl ?_
  refine r_lload_n hE 1 dX6_negative_g0.2.1 rfl rfl ?_
  refine c_callSl hE hm [.long a1] [.ref (G.1 800)] ck_X6_19 (kc_SX6_top h) (by decide) rfl rfl (Nat.le_of_ble_eq_true rfl) dX6_negative_g0.2.2.1 (fun s1 r2 h => ?_)
  refine r_lneg hE dX6_negative_g0.2.2.2.1 ?_
  refine r_lload_n hE 1 dX6_negative_g0.2.2.2.2.1 rfl rfl ?_
  refine c_callSl hE hm [.long a1] [.long (-r2), .ref (G.1 800)] ck_X6_23 (kc_SX6_bottom h) (by decide) rfl rfl (Nat.le_of_ble_eq_true rfl) dX6_negative_g0.2.2.2.2.2.1 (fun s3 r4 h => ?_)
  refine c_callVl hE hm [.long (-r2), .long r4] [] ck_X6_32 (cr_rk hm rfl) (kc_rk_reduced h) (by decide) rfl rfl (Nat.le_of_ble_eq_true rfl) dX6_negative_g0.2.2.2.2.2.2.1 (fun s5 r6 h => ?_)
  exact c_lret hE hm dX6_negative_g0.2.2.2.2.2.2.2 h
/-! SX6_wholeRoot -/
def wc_SX6_wholeRoot_34 (post : CS → Int64 → Prop) (lp7 : CS → Int64 → Int64 → Int32 → Prop) (σ : CS) (v0 : Int64) (v2 : Int64) (v4 : Int32) : Prop := ∀ x1 : Int32, x1 = v4 >>> ((1 : Int32) &&& 31) → lp7 σ v0 v2 x1
set_option maxRecDepth 20000 in
theorem kc_SX6_wholeRoot_34 {E : gEnv} {l : Launch} {D : va_G} {G : gAd} {post : CS → Int64 → Prop} (hE : gOK E cX6_wholeRoot RX6 (some .long) 1) (hm : cOK E l D G (pL post) 5) {lp7 : CS → Int64 → Int64 → Int32 → Prop} (hl7 : ∀ (σ : CS) (v0 : Int64) (v2 : Int64) (v4 : Int32), lp7 σ v0 v2 v4 → GW E (cW G σ) 7 [(0, .long v0), (2, .long v2), (4, .int v4)] []) (σ : CS) (v0 : Int64) (v2 : Int64) (v4 : Int32) (h : wc_SX6_wholeRoot_34 post lp7 σ v0 v2 v4) : GW E (cW G σ) 34 [(0, .long v0), (2, .long v2), (4, .int v4)] [] := by
  unfold wc_SX6_wholeRoot_34 at h
  have hN := hm.2.2.2.2.2.2.1
  refine r_iload hE 2 dX6_wholeRoot_g1.2.2.2.2.2.2.2.1 rfl ?_
  refine r_iconst (v := (1 : Int32)) hE dX6_wholeRoot_g1.2.2.2.2.2.2.2.2.1 (by decide) ?_
  refine r_ishr hE dX6_wholeRoot_g1.2.2.2.2.2.2.2.2.2.1 ?_
  refine r_topi h (fun x1 ex1 h => ?_)
  refine r_istore hE [(4, .int x1), (0, .long v0), (2, .long v2)] dX6_wholeRoot_g1.2.2.2.2.2.2.2.2.2.2.1 hN (by decide) rfl ?_
  refine r_goto hE 7 dX6_wholeRoot_g1.2.2.2.2.2.2.2.2.2.2.2.1 (by decide) ?_
  refine r_pick [1, 2, 0] rfl ?_
  exact hl7 _ _ _ _ h
def wc_SX6_wholeRoot_7 (post : CS → Int64 → Prop) : Nat → CS → Int64 → Int64 → Int32 → Prop
  | 0, _, _, _, _ => False
  | n + 1, σ, v0, v2, v4 => ((v4 ≤ (0 : Int32)) → (((¬ ((lg_cmp (v2 * v2) v0) = (0 : Int32))) → (post σ (-1 : Int64))) ∧ (((lg_cmp (v2 * v2) v0) = (0 : Int32)) → (post σ v2)))) ∧ ((¬ (v4 ≤ (0 : Int32))) → ((((0 : Int32) < (lg_cmp ((v2 + (v4.toInt64)) * (v2 + (v4.toInt64))) v0)) → (wc_SX6_wholeRoot_34 post (fun (ys : CS) (y0 : Int64) (y1 : Int64) (y2 : Int32) => wc_SX6_wholeRoot_7 post n ys y0 y1 y2) σ v0 v2 v4)) ∧ ((¬ ((0 : Int32) < (lg_cmp ((v2 + (v4.toInt64)) * (v2 + (v4.toInt64))) v0))) → (∀ x2 : Int64, x2 = v2 + (v4.toInt64) → wc_SX6_wholeRoot_34 post (fun (ys : CS) (y0 : Int64) (y1 : Int64) (y2 : Int32) => wc_SX6_wholeRoot_7 post n ys y0 y1 y2) σ v0 x2 v4))))
set_option maxRecDepth 20000 in
theorem kc_SX6_wholeRoot_7 {E : gEnv} {l : Launch} {D : va_G} {G : gAd} {post : CS → Int64 → Prop} (hE : gOK E cX6_wholeRoot RX6 (some .long) 1) (hm : cOK E l D G (pL post) 5) : ∀ (n : Nat) (σ : CS) (v0 : Int64) (v2 : Int64) (v4 : Int32), wc_SX6_wholeRoot_7 post n σ v0 v2 v4 → GW E (cW G σ) 7 [(0, .long v0), (2, .long v2), (4, .int v4)] [] := by
  intro n
  induction n with
  | zero => intro σ v0 v2 v4 h; exact h.elim
  | succ n ih =>
    intro σ v0 v2 v4 h
    rw [wc_SX6_wholeRoot_7] at h
    have hN := hm.2.2.2.2.2.2.1
    refine r_iload hE 2 dX6_wholeRoot_g0.2.2.2.2.1 rfl ?_
    refine r_if_le hE 43 dX6_wholeRoot_g0.2.2.2.2.2.1 (by decide) h (fun h => ?_) (fun h => ?_)
    · refine r_lload_n hE 1 dX6_wholeRoot_g1.2.2.2.2.2.2.2.2.2.2.2.2.1 rfl rfl ?_
      refine r_lload_n hE 1 dX6_wholeRoot_g1.2.2.2.2.2.2.2.2.2.2.2.2.2.1 rfl rfl ?_
      refine r_lmul hE dX6_wholeRoot_g1.2.2.2.2.2.2.2.2.2.2.2.2.2.2.1 ?_
      refine r_lload_n hE 0 dX6_wholeRoot_g1.2.2.2.2.2.2.2.2.2.2.2.2.2.2.2 rfl rfl ?_
      refine r_lcmp hE dX6_wholeRoot_g2.1 ?_
      refine r_if_ne hE 55 dX6_wholeRoot_g2.2.1 (by decide) h (fun h => ?_) (fun h => ?_)
      · refine r_ldc2 (v := (-1 : Int64)) hE dX6_wholeRoot_g2.2.2.2.2.1 (gTb_5 (List.mem_of_getElem? (i := 151) rfl) rfl) ?_
        exact c_lret hE hm dX6_wholeRoot_g2.2.2.2.2.2 h
      · refine r_lload_n hE 1 dX6_wholeRoot_g2.2.2.1 rfl rfl ?_
        refine r_goto hE 58 dX6_wholeRoot_g2.2.2.2.1 (by decide) ?_
        exact c_lret hE hm dX6_wholeRoot_g2.2.2.2.2.2 h
    · refine r_lload_n hE 1 dX6_wholeRoot_g0.2.2.2.2.2.2.1 rfl rfl ?_
      refine r_iload hE 2 dX6_wholeRoot_g0.2.2.2.2.2.2.2.1 rfl ?_
      refine r_i2l hE dX6_wholeRoot_g0.2.2.2.2.2.2.2.2.1 ?_
      refine r_ladd hE dX6_wholeRoot_g0.2.2.2.2.2.2.2.2.2.1 ?_
      refine r_lload_n hE 1 dX6_wholeRoot_g0.2.2.2.2.2.2.2.2.2.2.1 rfl rfl ?_
      refine r_iload hE 2 dX6_wholeRoot_g0.2.2.2.2.2.2.2.2.2.2.2.1 rfl ?_
      refine r_i2l hE dX6_wholeRoot_g0.2.2.2.2.2.2.2.2.2.2.2.2.1 ?_
      refine r_ladd hE dX6_wholeRoot_g0.2.2.2.2.2.2.2.2.2.2.2.2.2.1 ?_
      refine r_lmul hE dX6_wholeRoot_g0.2.2.2.2.2.2.2.2.2.2.2.2.2.2.1 ?_
      refine r_lload_n hE 0 dX6_wholeRoot_g0.2.2.2.2.2.2.2.2.2.2.2.2.2.2.2 rfl rfl ?_
      refine r_lcmp hE dX6_wholeRoot_g1.1 ?_
      refine r_if_gt hE 34 dX6_wholeRoot_g1.2.1 (by decide) h (fun h => ?_) (fun h => ?_)
      · exact kc_SX6_wholeRoot_34 hE hm ih _ _ _ _ h
      · refine r_lload_n hE 1 dX6_wholeRoot_g1.2.2.1 rfl rfl ?_
        refine r_iload hE 2 dX6_wholeRoot_g1.2.2.2.1 rfl ?_
        refine r_i2l hE dX6_wholeRoot_g1.2.2.2.2.1 ?_
        refine r_ladd hE dX6_wholeRoot_g1.2.2.2.2.2.1 ?_
        refine r_topl h (fun x2 ex2 h => ?_)
        refine r_lstore_n hE [(2, .long x2), (0, .long v0), (4, .int v4)] dX6_wholeRoot_g1.2.2.2.2.2.2.1 rfl hN (by decide) rfl ?_
        refine r_pick [1, 0, 2] rfl ?_
        exact kc_SX6_wholeRoot_34 hE hm ih _ _ _ _ h
def wc_SX6_wholeRoot (post : CS → Int64 → Prop) (σ : CS) (a0 : Int64) : Prop := ∃ k : Nat, wc_SX6_wholeRoot_7 post k σ a0 (0 : Int64) (16384 : Int32)
set_option maxRecDepth 20000 in
theorem kc_SX6_wholeRoot {l : Launch} {D : va_G} {G : gAd} {post : CS → Int64 → Prop} {σ : CS} {a0 : Int64} (h : wc_SX6_wholeRoot post σ a0) : cMet l D G yX6_wholeRoot cX6_wholeRoot 5 (some .long) 1 [.long a0] σ (pL post) := by
  unfold wc_SX6_wholeRoot at h
  refine c_enter (own := RX6) (by decide +kernel) rfl [(0, .long a0)] rfl (Nat.le_of_ble_eq_true rfl) ?_
  intro E hE hm
  have hN := hm.2.2.2.2.2.2.1
  refine r_lconst (v := (0 : Int64)) hE dX6_wholeRoot_g0.1 (by decide) ?_
  refine r_lstore_n hE [(2, .long (0 : Int64)), (0, .long a0)] dX6_wholeRoot_g0.2.1 rfl hN (by decide) rfl ?_
  refine r_sipush (v := (16384 : Int32)) hE dX6_wholeRoot_g0.2.2.1 (by decide) ?_
  refine r_istore hE [(4, .int (16384 : Int32)), (2, .long (0 : Int64)), (0, .long a0)] dX6_wholeRoot_g0.2.2.2.1 hN (by decide) rfl ?_
  refine r_pick [2, 1, 0] rfl ?_
  obtain ⟨k, h⟩ := h
  exact kc_SX6_wholeRoot_7 hE hm k _ _ _ _ h
/-! rk_root -/
def wc_rk_root_30 (post : CS → Int64 → Prop) (σ : CS) : Prop := wc_rk_fail (fun (s1 : CS) => post s1 (1 : Int64)) σ (8 : Int32)
set_option maxRecDepth 20000 in
theorem kc_rk_root_30 {E : gEnv} {l : Launch} {D : va_G} {G : gAd} {post : CS → Int64 → Prop} (hE : gOK E cX6_root RX6 (some .long) 2) (hm : cOK E l D G (pL post) 7) (σ : CS) (h : wc_rk_root_30 post σ) : GW E (cW G σ) 30 [(0, .ref (G.1 800))] [] := by
  unfold wc_rk_root_30 at h
  have hN := hm.2.2.2.2.2.2.1
  refine r_aload_n hE 0 dX6_root_g1.1 rfl rfl ?_
  refine r_bipush (v := (8 : Int32)) hE dX6_root_g1.2.1 (by decide) ?_
  refine c_callVv hE hm [.int (8 : Int32)] [] ck_X6_43 (cr_rk hm rfl) (kc_rk_fail h) (by decide) rfl rfl (Nat.le_of_ble_eq_true rfl) dX6_root_g1.2.2.1 (fun s1 h => ?_)
  refine r_lconst (v := (1 : Int64)) hE dX6_root_g1.2.2.2.1 (by decide) ?_
  exact c_lret hE hm dX6_root_g1.2.2.2.2.1 h
def wc_rk_root (post : CS → Int64 → Prop) (σ : CS) (a1 : Int64) : Prop := wc_SX6_top (fun (s2 : CS) (r3 : Int64) => wc_SX6_wholeRoot (fun (s4 : CS) (r5 : Int64) => wc_SX6_bottom (fun (s6 : CS) (r7 : Int64) => wc_SX6_wholeRoot (fun (s8 : CS) (r9 : Int64) => (((lg_cmp r5 (0 : Int64)) < (0 : Int32)) → (wc_rk_root_30 post s8)) ∧ ((¬ ((lg_cmp r5 (0 : Int64)) < (0 : Int32))) → ((((0 : Int32) ≤ (lg_cmp r9 (1 : Int64))) → (post s8 ((r5 <<< ((32 : Int32).toInt64 &&& 63)) ||| r9))) ∧ ((¬ ((0 : Int32) ≤ (lg_cmp r9 (1 : Int64)))) → (wc_rk_root_30 post s8))))) s6 r7) s4 a1) s2 r3) σ a1
set_option maxRecDepth 20000 in
theorem kc_rk_root {l : Launch} {D : va_G} {G : gAd} {post : CS → Int64 → Prop} {σ : CS} {a1 : Int64} (h : wc_rk_root post σ a1) : cMet l D G yX6_root cX6_root 7 (some .long) 2 [.ref (G.1 800), .long a1] σ (pL post) := by
  unfold wc_rk_root at h
  refine c_enter (own := RX6) (by decide +kernel) rfl [(0, .ref (G.1 800)), (1, .long a1)] rfl (Nat.le_of_ble_eq_true rfl) ?_
  intro E hE hm
  have hN := hm.2.2.2.2.2.2.1
  refine r_lload_n hE 1 dX6_root_g0.1 rfl rfl ?_
  refine c_callSl hE hm [.long a1] [] ck_X6_19 (kc_SX6_top h) (by decide) rfl rfl (Nat.le_of_ble_eq_true rfl) dX6_root_g0.2.1 (fun s2 r3 h => ?_)
  refine c_callSl hE hm [.long r3] [] ck_X6_40 (kc_SX6_wholeRoot h) (by decide) rfl rfl (Nat.le_of_ble_eq_true rfl) dX6_root_g0.2.2.1 (fun s4 r5 h => ?_)
  refine r_lstore_n hE [(3, .long r5), (0, .ref (G.1 800)), (1, .long a1)] dX6_root_g0.2.2.2.1 rfl hN (by decide) rfl ?_
  refine r_lload_n hE 2 dX6_root_g0.2.2.2.2.1 rfl rfl ?_
  refine c_callSl hE hm [.long a1] [] ck_X6_23 (kc_SX6_bottom h) (by decide) rfl rfl (Nat.le_of_ble_eq_true rfl) dX6_root_g0.2.2.2.2.2.1 (fun s6 r7 h => ?_)
  refine c_callSl hE hm [.long r7] [] ck_X6_40 (kc_SX6_wholeRoot h) (by decide) rfl rfl (Nat.le_of_ble_eq_true rfl) dX6_root_g0.2.2.2.2.2.2.1 (fun s8 r9 h => ?_)
  refine r_lstore hE [(5, .long r9), (3, .long r5), (0, .ref (G.1 800)), (1, .long a1)] dX6_root_g0.2.2.2.2.2.2.2.1 hN (by decide) rfl ?_
  refine r_lload_n hE 1 dX6_root_g0.2.2.2.2.2.2.2.2.1 rfl rfl ?_
  refine r_lconst (v := (0 : Int64)) hE dX6_root_g0.2.2.2.2.2.2.2.2.2.1 (by decide) ?_
  refine r_lcmp hE dX6_root_g0.2.2.2.2.2.2.2.2.2.2.1 ?_
  refine r_if_lt hE 30 dX6_root_g0.2.2.2.2.2.2.2.2.2.2.2.1 (by decide) h (fun h => ?_) (fun h => ?_)
  · refine r_pick [2] rfl ?_
    exact kc_rk_root_30 hE hm _ h
  · refine r_lload hE 0 dX6_root_g0.2.2.2.2.2.2.2.2.2.2.2.2.1 rfl ?_
    refine r_lconst (v := (1 : Int64)) hE dX6_root_g0.2.2.2.2.2.2.2.2.2.2.2.2.2.1 (by decide) ?_
    refine r_lcmp hE dX6_root_g0.2.2.2.2.2.2.2.2.2.2.2.2.2.2.1 ?_
    refine r_if_ge hE 38 dX6_root_g0.2.2.2.2.2.2.2.2.2.2.2.2.2.2.2 (by decide) h (fun h => ?_) (fun h => ?_)
    · refine r_lload_n hE 1 dX6_root_g1.2.2.2.2.2.1 rfl rfl ?_
      refine r_bipush (v := (32 : Int32)) hE dX6_root_g1.2.2.2.2.2.2.1 (by decide) ?_
      refine r_lshl hE dX6_root_g1.2.2.2.2.2.2.2.1 ?_
      refine r_lload hE 0 dX6_root_g1.2.2.2.2.2.2.2.2.1 rfl ?_
      refine r_lor hE dX6_root_g1.2.2.2.2.2.2.2.2.2.1 ?_
      exact c_lret hE hm dX6_root_g1.2.2.2.2.2.2.2.2.2.2 h
    · refine r_pick [2] rfl ?_
      exact kc_rk_root_30 hE hm _ h
/-! th_clear -/
def wc_th_clear (post : CS → Prop) (σ : CS) : Prop := ∀ s1 : CS, s1 = c_th_many_s σ (0 : Int32) → post s1
set_option maxRecDepth 20000 in
theorem kc_th_clear {l : Launch} {D : va_G} {G : gAd} {post : CS → Prop} {σ : CS} (h : wc_th_clear post σ) : cMet l D G yX8_clear cX8_clear 1 none 1 [.ref (G.1 900)] σ (pV post) := by
  unfold wc_th_clear at h
  refine c_enter (own := RX8) (by decide +kernel) rfl [(0, .ref (G.1 900))] rfl (Nat.le_of_ble_eq_true rfl) ?_
  intro E hE hm
  have hN := hm.2.2.2.2.2.2.1
  refine r_aload_n hE 0 dX8_clear_g0.1 rfl rfl ?_
  refine r_iconst (v := (0 : Int32)) hE dX8_clear_g0.2.1 (by decide) ?_
  refine cp_th_many hE hm fk_X8_25 dX8_clear_g0.2.2.1 h (fun s1 h => ?_)
  exact c_vret hE hm dX8_clear_g0.2.2.2 h
/-! th_add -/
def wc_th_add (post : CS → Int32 → Prop) (σ : CS) (a1 : Int32) (a2 : Int32) : Prop := wc_SX12_inside (fun (s1 : CS) (r2 : Int32) => ((¬ (r2 = (0 : Int32))) → (vp_in (c_th_many s1) 400 ∧ (∀ s3 : CS, s3 = c_th_kinds_s s1 (c_th_many s1).toNatClampNeg a1 → vp_in (c_th_many s3) 400 ∧ (∀ s4 : CS, s4 = c_th_leaning_s s3 (c_th_many s3).toNatClampNeg a2 → ∀ s5 : CS, s5 = c_th_many_s s4 ((c_th_many s4) + (1 : Int32)) → post s5 ((c_th_many s5) - (1 : Int32)))))) ∧ ((r2 = (0 : Int32)) → (post s1 (-1 : Int32)))) σ (c_th_many σ) (400 : Int32)
set_option maxRecDepth 20000 in
theorem kc_th_add {l : Launch} {D : va_G} {G : gAd} {post : CS → Int32 → Prop} {σ : CS} {a1 : Int32} {a2 : Int32} (h : wc_th_add post σ a1 a2) : cMet l D G yX8_add cX8_add 3 (some .int) 2 [.ref (G.1 900), .int a1, .int a2] σ (pI post) := by
  unfold wc_th_add at h
  refine c_enter (own := RX8) (by decide +kernel) rfl [(0, .ref (G.1 900)), (1, .int a1), (2, .int a2)] rfl (Nat.le_of_ble_eq_true rfl) ?_
  intro E hE hm
  have hN := hm.2.2.2.2.2.2.1
  refine r_aload_n hE 0 dX8_add_g0.1 rfl rfl ?_
  refine cg_th_many hE hm fk_X8_25 dX8_add_g0.2.1 ?_
  refine r_sipush (v := (400 : Int32)) hE dX8_add_g0.2.2.1 (by decide) ?_
  refine c_callSNi hE hm [.int (c_th_many σ), .int (400 : Int32)] [] ck_X8_29 cw_X8_29 (kc_SX12_inside h) (by decide) rfl rfl (Nat.le_of_ble_eq_true rfl) dX8_add_g0.2.2.2.1 (fun s1 r2 h => ?_)
  refine r_if_ne hE 15 dX8_add_g0.2.2.2.2.1 (by decide) h (fun h => ?_) (fun h => ?_)
  · refine r_aload_n hE 0 dX8_add_g0.2.2.2.2.2.2.2.1 rfl rfl ?_
    refine cg_th_kinds hE hm fk_X8_9 dX8_add_g0.2.2.2.2.2.2.2.2.1 ?_
    refine r_aload_n hE 0 dX8_add_g0.2.2.2.2.2.2.2.2.2.1 rfl rfl ?_
    refine cg_th_many hE hm fk_X8_25 dX8_add_g0.2.2.2.2.2.2.2.2.2.2.1 ?_
    refine r_iload_n hE 1 dX8_add_g0.2.2.2.2.2.2.2.2.2.2.2.1 rfl rfl ?_
    obtain ⟨hi, h⟩ := h
    refine cs_th_kinds hE hm dX8_add_g0.2.2.2.2.2.2.2.2.2.2.2.2.1 hi h (fun s3 h => ?_)
    refine r_aload_n hE 0 dX8_add_g0.2.2.2.2.2.2.2.2.2.2.2.2.2.1 rfl rfl ?_
    refine cg_th_leaning hE hm fk_X8_15 dX8_add_g0.2.2.2.2.2.2.2.2.2.2.2.2.2.2.1 ?_
    refine r_aload_n hE 0 dX8_add_g0.2.2.2.2.2.2.2.2.2.2.2.2.2.2.2 rfl rfl ?_
    refine cg_th_many hE hm fk_X8_25 dX8_add_g1.1 ?_
    refine r_iload_n hE 2 dX8_add_g1.2.1 rfl rfl ?_
    obtain ⟨hi, h⟩ := h
    refine cs_th_leaning hE hm dX8_add_g1.2.2.1 hi h (fun s4 h => ?_)
    refine r_aload_n hE 0 dX8_add_g1.2.2.2.1 rfl rfl ?_
    refine r_dup hE dX8_add_g1.2.2.2.2.1 rfl ?_
    refine cg_th_many hE hm fk_X8_25 dX8_add_g1.2.2.2.2.2.1 ?_
    refine r_iconst (v := (1 : Int32)) hE dX8_add_g1.2.2.2.2.2.2.1 (by decide) ?_
    refine r_iadd hE dX8_add_g1.2.2.2.2.2.2.2.1 ?_
    refine cp_th_many hE hm fk_X8_25 dX8_add_g1.2.2.2.2.2.2.2.2.1 h (fun s5 h => ?_)
    refine r_aload_n hE 0 dX8_add_g1.2.2.2.2.2.2.2.2.2.1 rfl rfl ?_
    refine cg_th_many hE hm fk_X8_25 dX8_add_g1.2.2.2.2.2.2.2.2.2.2.1 ?_
    refine r_iconst (v := (1 : Int32)) hE dX8_add_g1.2.2.2.2.2.2.2.2.2.2.2.1 (by decide) ?_
    refine r_isub hE dX8_add_g1.2.2.2.2.2.2.2.2.2.2.2.2.1 ?_
    exact c_iret hE hm dX8_add_g1.2.2.2.2.2.2.2.2.2.2.2.2.2 h
  · refine r_iconst (v := (-1 : Int32)) hE dX8_add_g0.2.2.2.2.2.1 (by decide) ?_
    exact c_iret hE hm dX8_add_g0.2.2.2.2.2.2.1 h
/-! th_setPart -/
def wc_th_setPart (post : CS → Prop) (σ : CS) (a1 : Int32) (a2 : Int32) (a3 : Int64) : Prop := wc_SX12_inside (fun (s1 : CS) (r2 : Int32) => ((r2 = (0 : Int32)) → (post s1)) ∧ ((¬ (r2 = (0 : Int32))) → (wc_SX12_inside (fun (s3 : CS) (r4 : Int32) => ((r4 = (0 : Int32)) → (post s3)) ∧ ((¬ (r4 = (0 : Int32))) → (vp_in ((a1 * (7 : Int32)) + a2) 2800 ∧ (∀ s5 : CS, s5 = c_th_parts_s s3 ((a1 * (7 : Int32)) + a2).toNatClampNeg a3 → post s5)))) s1 a2 (7 : Int32)))) σ a1 (c_th_many σ)
set_option maxRecDepth 20000 in
theorem kc_th_setPart {l : Launch} {D : va_G} {G : gAd} {post : CS → Prop} {σ : CS} {a1 : Int32} {a2 : Int32} {a3 : Int64} (h : wc_th_setPart post σ a1 a2 a3) : cMet l D G yX8_setPart cX8_setPart 5 none 2 [.ref (G.1 900), .int a1, .int a2, .long a3] σ (pV post) := by
  unfold wc_th_setPart at h
  refine c_enter (own := RX8) (by decide +kernel) rfl [(0, .ref (G.1 900)), (1, .int a1), (2, .int a2), (3, .long a3)] rfl (Nat.le_of_ble_eq_true rfl) ?_
  intro E hE hm
  have hN := hm.2.2.2.2.2.2.1
  refine r_iload_n hE 1 dX8_setPart_g0.1 rfl rfl ?_
  refine r_aload_n hE 0 dX8_setPart_g0.2.1 rfl rfl ?_
  refine cg_th_many hE hm fk_X8_25 dX8_setPart_g0.2.2.1 ?_
  refine c_callSNi hE hm [.int a1, .int (c_th_many σ)] [] ck_X8_29 cw_X8_29 (kc_SX12_inside h) (by decide) rfl rfl (Nat.le_of_ble_eq_true rfl) dX8_setPart_g0.2.2.2.1 (fun s1 r2 h => ?_)
  refine r_if_eq hE 32 dX8_setPart_g0.2.2.2.2.1 (by decide) h (fun h => ?_) (fun h => ?_)
  · exact c_vret hE hm dX8_setPart_g1.2.2 h
  · refine r_iload_n hE 2 dX8_setPart_g0.2.2.2.2.2.1 rfl rfl ?_
    refine r_bipush (v := (7 : Int32)) hE dX8_setPart_g0.2.2.2.2.2.2.1 (by decide) ?_
    refine c_callSNi hE hm [.int a2, .int (7 : Int32)] [] ck_X8_29 cw_X8_29 (kc_SX12_inside h) (by decide) rfl rfl (Nat.le_of_ble_eq_true rfl) dX8_setPart_g0.2.2.2.2.2.2.2.1 (fun s3 r4 h => ?_)
    refine r_if_eq hE 32 dX8_setPart_g0.2.2.2.2.2.2.2.2.1 (by decide) h (fun h => ?_) (fun h => ?_)
    · exact c_vret hE hm dX8_setPart_g1.2.2 h
    · refine r_aload_n hE 0 dX8_setPart_g0.2.2.2.2.2.2.2.2.2.1 rfl rfl ?_
      refine cg_th_parts hE hm fk_X8_18 dX8_setPart_g0.2.2.2.2.2.2.2.2.2.2.1 ?_
      refine r_iload_n hE 1 dX8_setPart_g0.2.2.2.2.2.2.2.2.2.2.2.1 rfl rfl ?_
      refine r_bipush (v := (7 : Int32)) hE dX8_setPart_g0.2.2.2.2.2.2.2.2.2.2.2.2.1 (by decide) ?_
      refine r_imul hE dX8_setPart_g0.2.2.2.2.2.2.2.2.2.2.2.2.2.1 ?_
      refine r_iload_n hE 2 dX8_setPart_g0.2.2.2.2.2.2.2.2.2.2.2.2.2.2.1 rfl rfl ?_
      refine r_iadd hE dX8_setPart_g0.2.2.2.2.2.2.2.2.2.2.2.2.2.2.2 ?_
      refine r_lload_n hE 3 dX8_setPart_g1.1 rfl rfl ?_
      obtain ⟨hi, h⟩ := h
      refine cs_th_parts hE hm dX8_setPart_g1.2.1 hi h (fun s5 h => ?_)
      exact c_vret hE hm dX8_setPart_g1.2.2 h
/-! th_addNumber -/
def wc_th_addNumber (post : CS → Int32 → Prop) (σ : CS) (a1 : Int64) (a3 : Int32) : Prop := wc_th_add (fun (s1 : CS) (r2 : Int32) => wc_th_setPart (fun (s3 : CS) => post s3 r2) s1 r2 (0 : Int32) a1) σ (0 : Int32) a3
set_option maxRecDepth 20000 in
theorem kc_th_addNumber {l : Launch} {D : va_G} {G : gAd} {post : CS → Int32 → Prop} {σ : CS} {a1 : Int64} {a3 : Int32} (h : wc_th_addNumber post σ a1 a3) : cMet l D G yX8_addNumber cX8_addNumber 5 (some .int) 3 [.ref (G.1 900), .long a1, .int a3] σ (pI post) := by
  unfold wc_th_addNumber at h
  refine c_enter (own := RX8) (by decide +kernel) rfl [(0, .ref (G.1 900)), (1, .long a1), (3, .int a3)] rfl (Nat.le_of_ble_eq_true rfl) ?_
  intro E hE hm
  have hN := hm.2.2.2.2.2.2.1
  refine r_aload_n hE 0 dX8_addNumber_g0.1 rfl rfl ?_
  refine r_iconst (v := (0 : Int32)) hE dX8_addNumber_g0.2.1 (by decide) ?_
  refine r_iload_n hE 2 dX8_addNumber_g0.2.2.1 rfl rfl ?_
  refine c_callVi hE hm [.int (0 : Int32), .int a3] [] ck_X8_33 (cr_th hm rfl) (kc_th_add h) (by decide) rfl rfl (Nat.le_of_ble_eq_true rfl) dX8_addNumber_g0.2.2.2.1 (fun s1 r2 h => ?_)
  refine r_istore hE [(4, .int r2), (0, .ref (G.1 900)), (1, .long a1), (3, .int a3)] dX8_addNumber_g0.2.2.2.2.1 hN (by decide) rfl ?_
  refine r_aload_n hE 1 dX8_addNumber_g0.2.2.2.2.2.1 rfl rfl ?_
  refine r_iload hE 0 dX8_addNumber_g0.2.2.2.2.2.2.1 rfl ?_
  refine r_iconst (v := (0 : Int32)) hE dX8_addNumber_g0.2.2.2.2.2.2.2.1 (by decide) ?_
  refine r_lload_n hE 2 dX8_addNumber_g0.2.2.2.2.2.2.2.2.1 rfl rfl ?_
  refine c_callVv hE hm [.int r2, .int (0 : Int32), .long a1] [] ck_X8_37 (cr_th hm rfl) (kc_th_setPart h) (by decide) rfl rfl (Nat.le_of_ble_eq_true rfl) dX8_addNumber_g0.2.2.2.2.2.2.2.2.2.1 (fun s3 h => ?_)
  refine r_iload hE 0 dX8_addNumber_g0.2.2.2.2.2.2.2.2.2.2.1 rfl ?_
  exact c_iret hE hm dX8_addNumber_g0.2.2.2.2.2.2.2.2.2.2.2 h
/-! th_hold -/
def wc_th_hold (post : CS → Prop) (σ : CS) (a1 : Int32) (a2 : Int32) (a3 : Int32) : Prop := wc_SX12_inside (fun (s1 : CS) (r2 : Int32) => ((r2 = (0 : Int32)) → (post s1)) ∧ ((¬ (r2 = (0 : Int32))) → (wc_SX12_inside (fun (s3 : CS) (r4 : Int32) => ((r4 = (0 : Int32)) → (post s3)) ∧ ((¬ (r4 = (0 : Int32))) → (vp_in ((a1 * (20 : Int32)) + a2) 8000 ∧ (∀ s5 : CS, s5 = c_th_held_s s3 ((a1 * (20 : Int32)) + a2).toNatClampNeg a3 → post s5)))) s1 a2 (20 : Int32)))) σ a1 (c_th_many σ)
set_option maxRecDepth 20000 in
theorem kc_th_hold {l : Launch} {D : va_G} {G : gAd} {post : CS → Prop} {σ : CS} {a1 : Int32} {a2 : Int32} {a3 : Int32} (h : wc_th_hold post σ a1 a2 a3) : cMet l D G yX8_hold cX8_hold 4 none 2 [.ref (G.1 900), .int a1, .int a2, .int a3] σ (pV post) := by
  unfold wc_th_hold at h
  refine c_enter (own := RX8) (by decide +kernel) rfl [(0, .ref (G.1 900)), (1, .int a1), (2, .int a2), (3, .int a3)] rfl (Nat.le_of_ble_eq_true rfl) ?_
  intro E hE hm
  have hN := hm.2.2.2.2.2.2.1
  refine r_iload_n hE 1 dX8_hold_g0.1 rfl rfl ?_
  refine r_aload_n hE 0 dX8_hold_g0.2.1 rfl rfl ?_
  refine cg_th_many hE hm fk_X8_25 dX8_hold_g0.2.2.1 ?_
  refine c_callSNi hE hm [.int a1, .int (c_th_many σ)] [] ck_X8_29 cw_X8_29 (kc_SX12_inside h) (by decide) rfl rfl (Nat.le_of_ble_eq_true rfl) dX8_hold_g0.2.2.2.1 (fun s1 r2 h => ?_)
  refine r_if_eq hE 32 dX8_hold_g0.2.2.2.2.1 (by decide) h (fun h => ?_) (fun h => ?_)
  · exact c_vret hE hm dX8_hold_g1.2.2 h
  · refine r_iload_n hE 2 dX8_hold_g0.2.2.2.2.2.1 rfl rfl ?_
    refine r_bipush (v := (20 : Int32)) hE dX8_hold_g0.2.2.2.2.2.2.1 (by decide) ?_
    refine c_callSNi hE hm [.int a2, .int (20 : Int32)] [] ck_X8_29 cw_X8_29 (kc_SX12_inside h) (by decide) rfl rfl (Nat.le_of_ble_eq_true rfl) dX8_hold_g0.2.2.2.2.2.2.2.1 (fun s3 r4 h => ?_)
    refine r_if_eq hE 32 dX8_hold_g0.2.2.2.2.2.2.2.2.1 (by decide) h (fun h => ?_) (fun h => ?_)
    · exact c_vret hE hm dX8_hold_g1.2.2 h
    · refine r_aload_n hE 0 dX8_hold_g0.2.2.2.2.2.2.2.2.2.1 rfl rfl ?_
      refine cg_th_held hE hm fk_X8_22 dX8_hold_g0.2.2.2.2.2.2.2.2.2.2.1 ?_
      refine r_iload_n hE 1 dX8_hold_g0.2.2.2.2.2.2.2.2.2.2.2.1 rfl rfl ?_
      refine r_bipush (v := (20 : Int32)) hE dX8_hold_g0.2.2.2.2.2.2.2.2.2.2.2.2.1 (by decide) ?_
      refine r_imul hE dX8_hold_g0.2.2.2.2.2.2.2.2.2.2.2.2.2.1 ?_
      refine r_iload_n hE 2 dX8_hold_g0.2.2.2.2.2.2.2.2.2.2.2.2.2.2.1 rfl rfl ?_
      refine r_iadd hE dX8_hold_g0.2.2.2.2.2.2.2.2.2.2.2.2.2.2.2 ?_
      refine r_iload_n hE 3 dX8_hold_g1.1 rfl rfl ?_
      obtain ⟨hi, h⟩ := h
      refine cs_th_held hE hm dX8_hold_g1.2.1 hi h (fun s5 h => ?_)
      exact c_vret hE hm dX8_hold_g1.2.2 h
/-! th_addRow -/
def wc_th_addRow_31 (post : CS → Int32 → Prop) : Nat → CS → Int32 → Int32 → Int32 → Prop
  | 0, _, _, _, _ => False
  | n + 1, σ, v2, v3, v4 => ((v2 ≤ v4) → (post σ v3)) ∧ ((¬ (v2 ≤ v4)) → (wc_th_hold (fun (s1 : CS) => ∀ x2 : Int32, x2 = v4 + (1 : Int32) → wc_th_addRow_31 post n s1 v2 v3 x2) σ v3 v4 (-1 : Int32)))
set_option maxRecDepth 20000 in
theorem kc_th_addRow_31 {E : gEnv} {l : Launch} {D : va_G} {G : gAd} {post : CS → Int32 → Prop} (hE : gOK E cX8_addRow RX8 (some .int) 3) (hm : cOK E l D G (pI post) 5) : ∀ (n : Nat) (σ : CS) (v2 : Int32) (v3 : Int32) (v4 : Int32), wc_th_addRow_31 post n σ v2 v3 v4 → GW E (cW G σ) 31 [(0, .ref (G.1 900)), (2, .int v2), (3, .int v3), (4, .int v4)] [] := by
  intro n
  induction n with
  | zero => intro σ v2 v3 v4 h; exact h.elim
  | succ n ih =>
    intro σ v2 v3 v4 h
    rw [wc_th_addRow_31] at h
    have hN := hm.2.2.2.2.2.2.1
    refine r_iload hE 3 dX8_addRow_g1.2.2.2.1 rfl ?_
    refine r_iload_n hE 1 dX8_addRow_g1.2.2.2.2.1 rfl rfl ?_
    refine r_icmp_ge hE 51 dX8_addRow_g1.2.2.2.2.2.1 (by decide) h (fun h => ?_) (fun h => ?_)
    · refine r_iload_n hE 2 dX8_addRow_g1.2.2.2.2.2.2.2.2.2.2.2.2.2.1 rfl rfl ?_
      exact c_iret hE hm dX8_addRow_g1.2.2.2.2.2.2.2.2.2.2.2.2.2.2 h
    · refine r_aload_n hE 0 dX8_addRow_g1.2.2.2.2.2.2.1 rfl rfl ?_
      refine r_iload_n hE 2 dX8_addRow_g1.2.2.2.2.2.2.2.1 rfl rfl ?_
      refine r_iload hE 3 dX8_addRow_g1.2.2.2.2.2.2.2.2.1 rfl ?_
      refine r_iconst (v := (-1 : Int32)) hE dX8_addRow_g1.2.2.2.2.2.2.2.2.2.1 (by decide) ?_
      refine c_callVv hE hm [.int v3, .int v4, .int (-1 : Int32)] [] ck_X8_47 (cr_th hm rfl) (kc_th_hold h) (by decide) rfl rfl (Nat.le_of_ble_eq_true rfl) dX8_addRow_g1.2.2.2.2.2.2.2.2.2.2.1 (fun s1 h => ?_)
      obtain ⟨x2, ex2⟩ : ∃ z : Int32, z = v4 + (1 : Int32) := ⟨_, rfl⟩
      have h := h x2 ex2
      refine r_iinc (v := x2) hE [(4, .int x2), (0, .ref (G.1 900)), (2, .int v2), (3, .int v3)] 3 dX8_addRow_g1.2.2.2.2.2.2.2.2.2.2.2.1 rfl (by rw [ex2]; rfl) hN (by decide) rfl ?_
      refine r_goto hE 31 dX8_addRow_g1.2.2.2.2.2.2.2.2.2.2.2.2.1 (by decide) ?_
      refine r_pick [1, 2, 3, 0] rfl ?_
      exact ih _ _ _ _ h
def wc_th_addRow (post : CS → Int32 → Prop) (σ : CS) (a1 : Int32) (a2 : Int32) : Prop := wc_th_add (fun (s3 : CS) (r4 : Int32) => wc_SX6_whole (fun (s5 : CS) (r6 : Int64) => wc_th_setPart (fun (s7 : CS) => wc_SX6_whole (fun (s8 : CS) (r9 : Int64) => wc_th_setPart (fun (s10 : CS) => ∃ k : Nat, wc_th_addRow_31 post k s10 a2 r4 (0 : Int32)) s8 r4 (1 : Int32) r9) s7 a2) s5 r4 (0 : Int32) r6) s3 a1) σ (6 : Int32) (0 : Int32)
set_option maxRecDepth 20000 in
theorem kc_th_addRow {l : Launch} {D : va_G} {G : gAd} {post : CS → Int32 → Prop} {σ : CS} {a1 : Int32} {a2 : Int32} (h : wc_th_addRow post σ a1 a2) : cMet l D G yX8_addRow cX8_addRow 5 (some .int) 3 [.ref (G.1 900), .int a1, .int a2] σ (pI post) := by
  unfold wc_th_addRow at h
  refine c_enter (own := RX8) (by decide +kernel) rfl [(0, .ref (G.1 900)), (1, .int a1), (2, .int a2)] rfl (Nat.le_of_ble_eq_true rfl) ?_
  intro E hE hm
  have hN := hm.2.2.2.2.2.2.1
  refine r_aload_n hE 0 dX8_addRow_g0.1 rfl rfl ?_
  refine r_bipush (v := (6 : Int32)) hE dX8_addRow_g0.2.1 (by decide) ?_
  refine r_iconst (v := (0 : Int32)) hE dX8_addRow_g0.2.2.1 (by decide) ?_
  refine c_callVi hE hm [.int (6 : Int32), .int (0 : Int32)] [] ck_X8_33 (cr_th hm rfl) (kc_th_add h) (by decide) rfl rfl (Nat.le_of_ble_eq_true rfl) dX8_addRow_g0.2.2.2.1 (fun s3 r4 h => ?_)
  refine r_istore_n hE [(3, .int r4), (0, .ref (G.1 900)), (1, .int a1), (2, .int a2)] dX8_addRow_g0.2.2.2.2.1 rfl hN (by decide) rfl ?_
  refine r_aload_n hE 1 dX8_addRow_g0.2.2.2.2.2.1 rfl rfl ?_
  refine r_iload_n hE 0 dX8_addRow_g0.2.2.2.2.2.2.1 rfl rfl ?_
  refine r_iconst (v := (0 : Int32)) hE dX8_addRow_g0.2.2.2.2.2.2.2.1 (by decide) ?_
  refine r_iload_n hE 2 dX8_addRow_g0.2.2.2.2.2.2.2.2.1 rfl rfl ?_
  refine c_callSl hE hm [.int a1] [.int (0 : Int32), .int r4, .ref (G.1 900)] ck_X8_41 (kc_SX6_whole h) (by decide) rfl rfl (Nat.le_of_ble_eq_true rfl) dX8_addRow_g0.2.2.2.2.2.2.2.2.2.1 (fun s5 r6 h => ?_)
  refine c_callVv hE hm [.int r4, .int (0 : Int32), .long r6] [] ck_X8_37 (cr_th hm rfl) (kc_th_setPart h) (by decide) rfl rfl (Nat.le_of_ble_eq_true rfl) dX8_addRow_g0.2.2.2.2.2.2.2.2.2.2.1 (fun s7 h => ?_)
  refine r_aload_n hE 1 dX8_addRow_g0.2.2.2.2.2.2.2.2.2.2.2.1 rfl rfl ?_
  refine r_iload_n hE 0 dX8_addRow_g0.2.2.2.2.2.2.2.2.2.2.2.2.1 rfl rfl ?_
  refine r_iconst (v := (1 : Int32)) hE dX8_addRow_g0.2.2.2.2.2.2.2.2.2.2.2.2.2.1 (by decide) ?_
  refine r_iload_n hE 3 dX8_addRow_g0.2.2.2.2.2.2.2.2.2.2.2.2.2.2.1 rfl rfl ?_
  refine c_callSl hE hm [.int a2] [.int (1 : Int32), .int r4, .ref (G.1 900)] ck_X8_41 (kc_SX6_whole h) (by decide) rfl rfl (Nat.le_of_ble_eq_true rfl) dX8_addRow_g0.2.2.2.2.2.2.2.2.2.2.2.2.2.2.2 (fun s8 r9 h => ?_)
  refine c_callVv hE hm [.int r4, .int (1 : Int32), .long r9] [] ck_X8_37 (cr_th hm rfl) (kc_th_setPart h) (by decide) rfl rfl (Nat.le_of_ble_eq_true rfl) dX8_addRow_g1.1 (fun s10 h => ?_)
  refine r_iconst (v := (0 : Int32)) hE dX8_addRow_g1.2.1 (by decide) ?_
  refine r_istore hE [(4, .int (0 : Int32)), (3, .int r4), (0, .ref (G.1 900)), (1, .int a1), (2, .int a2)] dX8_addRow_g1.2.2.1 hN (by decide) rfl ?_
  refine r_pick [2, 4, 1, 0] rfl ?_
  obtain ⟨k, h⟩ := h
  exact kc_th_addRow_31 hE hm k _ _ _ _ h
/-! th_partOf -/
def wc_th_partOf_27 (post : CS → Int64 → Prop) (σ : CS) (v1 : Int32) (v2 : Int32) (t0 : Int32) : Prop := ((t0 = (0 : Int32)) → (post σ (1 : Int64))) ∧ ((¬ (t0 = (0 : Int32))) → (vp_in ((v1 * (7 : Int32)) + v2) 2800 ∧ (post σ (c_th_parts σ ((v1 * (7 : Int32)) + v2).toNatClampNeg))))
set_option maxRecDepth 20000 in
theorem kc_th_partOf_27 {E : gEnv} {l : Launch} {D : va_G} {G : gAd} {post : CS → Int64 → Prop} (hE : gOK E cX8_partOf RX8 (some .long) 1) (hm : cOK E l D G (pL post) 4) (σ : CS) (v1 : Int32) (v2 : Int32) (t0 : Int32) (h : wc_th_partOf_27 post σ v1 v2 t0) : GW E (cW G σ) 27 [(0, .ref (G.1 900)), (1, .int v1), (2, .int v2)] [.int t0] := by
  unfold wc_th_partOf_27 at h
  have hN := hm.2.2.2.2.2.2.1
  refine r_istore_n hE [(3, .int t0), (0, .ref (G.1 900)), (1, .int v1), (2, .int v2)] dX8_partOf_g0.2.2.2.2.2.2.2.2.2.2.2.2.2.2.1 rfl hN (by decide) rfl ?_
  refine r_iload_n hE 0 dX8_partOf_g0.2.2.2.2.2.2.2.2.2.2.2.2.2.2.2 rfl rfl ?_
  refine r_if_eq hE 46 dX8_partOf_g1.1 (by decide) h (fun h => ?_) (fun h => ?_)
  · refine r_lconst (v := (1 : Int64)) hE dX8_partOf_g1.2.2.2.2.2.2.2.2.2.2.1 (by decide) ?_
    exact c_lret hE hm dX8_partOf_g1.2.2.2.2.2.2.2.2.2.2.2 h
  · refine r_aload_n hE 1 dX8_partOf_g1.2.1 rfl rfl ?_
    refine cg_th_parts hE hm fk_X8_18 dX8_partOf_g1.2.2.1 ?_
    refine r_iload_n hE 2 dX8_partOf_g1.2.2.2.1 rfl rfl ?_
    refine r_bipush (v := (7 : Int32)) hE dX8_partOf_g1.2.2.2.2.1 (by decide) ?_
    refine r_imul hE dX8_partOf_g1.2.2.2.2.2.1 ?_
    refine r_iload_n hE 3 dX8_partOf_g1.2.2.2.2.2.2.1 rfl rfl ?_
    refine r_iadd hE dX8_partOf_g1.2.2.2.2.2.2.2.1 ?_
    obtain ⟨hi, h⟩ := h
    refine cl_th_parts hE hm dX8_partOf_g1.2.2.2.2.2.2.2.2.1 hi ?_
    refine r_goto hE 47 dX8_partOf_g1.2.2.2.2.2.2.2.2.2.1 (by decide) ?_
    exact c_lret hE hm dX8_partOf_g1.2.2.2.2.2.2.2.2.2.2.2 h
def wc_th_partOf_26 (post : CS → Int64 → Prop) (σ : CS) (v1 : Int32) (v2 : Int32) : Prop := wc_th_partOf_27 post σ v1 v2 (0 : Int32)
set_option maxRecDepth 20000 in
theorem kc_th_partOf_26 {E : gEnv} {l : Launch} {D : va_G} {G : gAd} {post : CS → Int64 → Prop} (hE : gOK E cX8_partOf RX8 (some .long) 1) (hm : cOK E l D G (pL post) 4) (σ : CS) (v1 : Int32) (v2 : Int32) (h : wc_th_partOf_26 post σ v1 v2) : GW E (cW G σ) 26 [(0, .ref (G.1 900)), (1, .int v1), (2, .int v2)] [] := by
  unfold wc_th_partOf_26 at h
  have hN := hm.2.2.2.2.2.2.1
  refine r_iconst (v := (0 : Int32)) hE dX8_partOf_g0.2.2.2.2.2.2.2.2.2.2.2.2.2.1 (by decide) ?_
  exact kc_th_partOf_27 hE hm _ _ _ _ h
def wc_th_partOf (post : CS → Int64 → Prop) (σ : CS) (a1 : Int32) (a2 : Int32) : Prop := ((a1 < (0 : Int32)) → (wc_th_partOf_26 post σ a1 a2)) ∧ ((¬ (a1 < (0 : Int32))) → ((((c_th_many σ) ≤ a1) → (wc_th_partOf_26 post σ a1 a2)) ∧ ((¬ ((c_th_many σ) ≤ a1)) → (((a2 < (0 : Int32)) → (wc_th_partOf_26 post σ a1 a2)) ∧ ((¬ (a2 < (0 : Int32))) → ((((7 : Int32) ≤ a2) → (wc_th_partOf_26 post σ a1 a2)) ∧ ((¬ ((7 : Int32) ≤ a2)) → (wc_th_partOf_27 post σ a1 a2 (1 : Int32)))))))))
set_option maxRecDepth 20000 in
theorem kc_th_partOf {l : Launch} {D : va_G} {G : gAd} {post : CS → Int64 → Prop} {σ : CS} {a1 : Int32} {a2 : Int32} (h : wc_th_partOf post σ a1 a2) : cMet l D G yX8_partOf cX8_partOf 4 (some .long) 1 [.ref (G.1 900), .int a1, .int a2] σ (pL post) := by
  unfold wc_th_partOf at h
  refine c_enter (own := RX8) (by decide +kernel) rfl [(0, .ref (G.1 900)), (1, .int a1), (2, .int a2)] rfl (Nat.le_of_ble_eq_true rfl) ?_
  intro E hE hm
  have hN := hm.2.2.2.2.2.2.1
  refine r_iload_n hE 1 dX8_partOf_g0.1 rfl rfl ?_
  refine r_if_lt hE 26 dX8_partOf_g0.2.1 (by decide) h (fun h => ?_) (fun h => ?_)
  · exact kc_th_partOf_26 hE hm _ _ _ h
  · refine r_iload_n hE 1 dX8_partOf_g0.2.2.1 rfl rfl ?_
    refine r_aload_n hE 0 dX8_partOf_g0.2.2.2.1 rfl rfl ?_
    refine cg_th_many hE hm fk_X8_25 dX8_partOf_g0.2.2.2.2.1 ?_
    refine r_icmp_ge hE 26 dX8_partOf_g0.2.2.2.2.2.1 (by decide) h (fun h => ?_) (fun h => ?_)
    · exact kc_th_partOf_26 hE hm _ _ _ h
    · refine r_iload_n hE 2 dX8_partOf_g0.2.2.2.2.2.2.1 rfl rfl ?_
      refine r_if_lt hE 26 dX8_partOf_g0.2.2.2.2.2.2.2.1 (by decide) h (fun h => ?_) (fun h => ?_)
      · exact kc_th_partOf_26 hE hm _ _ _ h
      · refine r_iload_n hE 2 dX8_partOf_g0.2.2.2.2.2.2.2.2.1 rfl rfl ?_
        refine r_bipush (v := (7 : Int32)) hE dX8_partOf_g0.2.2.2.2.2.2.2.2.2.1 (by decide) ?_
        refine r_icmp_ge hE 26 dX8_partOf_g0.2.2.2.2.2.2.2.2.2.2.1 (by decide) h (fun h => ?_) (fun h => ?_)
        · exact kc_th_partOf_26 hE hm _ _ _ h
        · refine r_iconst (v := (1 : Int32)) hE dX8_partOf_g0.2.2.2.2.2.2.2.2.2.2.2.1 (by decide) ?_
          refine r_goto hE 27 dX8_partOf_g0.2.2.2.2.2.2.2.2.2.2.2.2.1 (by decide) ?_
          exact kc_th_partOf_27 hE hm _ _ _ _ h
/-! th_wholeOf -/
def wc_th_wholeOf (post : CS → Int32 → Prop) (σ : CS) (a1 : Int32) (a2 : Int32) : Prop := wc_th_partOf (fun (s1 : CS) (r2 : Int64) => wc_SX6_top (fun (s3 : CS) (r4 : Int64) => post s3 (r4.toInt32)) s1 r2) σ a1 a2
set_option maxRecDepth 20000 in
theorem kc_th_wholeOf {l : Launch} {D : va_G} {G : gAd} {post : CS → Int32 → Prop} {σ : CS} {a1 : Int32} {a2 : Int32} (h : wc_th_wholeOf post σ a1 a2) : cMet l D G yX8_wholeOf cX8_wholeOf 3 (some .int) 2 [.ref (G.1 900), .int a1, .int a2] σ (pI post) := by
  unfold wc_th_wholeOf at h
  refine c_enter (own := RX8) (by decide +kernel) rfl [(0, .ref (G.1 900)), (1, .int a1), (2, .int a2)] rfl (Nat.le_of_ble_eq_true rfl) ?_
  intro E hE hm
  have hN := hm.2.2.2.2.2.2.1
  refine r_aload_n hE 0 dX8_wholeOf_g0.1 rfl rfl ?_
  refine r_iload_n hE 1 dX8_wholeOf_g0.2.1 rfl rfl ?_
  refine r_iload_n hE 2 dX8_wholeOf_g0.2.2.1 rfl rfl ?_
  refine c_callVl hE hm [.int a1, .int a2] [] ck_X8_51 (cr_th hm rfl) (kc_th_partOf h) (by decide) rfl rfl (Nat.le_of_ble_eq_true rfl) dX8_wholeOf_g0.2.2.2.1 (fun s1 r2 h => ?_)
  refine c_callSl hE hm [.long r2] [] ck_X8_55 (kc_SX6_top h) (by decide) rfl rfl (Nat.le_of_ble_eq_true rfl) dX8_wholeOf_g0.2.2.2.2.1 (fun s3 r4 h => ?_)
  refine r_l2i hE dX8_wholeOf_g0.2.2.2.2.2.1 ?_
  exact c_iret hE hm dX8_wholeOf_g0.2.2.2.2.2.2 h
/-! th_kindOf -/
def wc_th_kindOf (post : CS → Int32 → Prop) (σ : CS) (a1 : Int32) : Prop := ((a1 < (0 : Int32)) → (post σ (-1 : Int32))) ∧ ((¬ (a1 < (0 : Int32))) → ((((c_th_many σ) ≤ a1) → (post σ (-1 : Int32))) ∧ ((¬ ((c_th_many σ) ≤ a1)) → (vp_in a1 400 ∧ (post σ (c_th_kinds σ a1.toNatClampNeg))))))
set_option maxRecDepth 20000 in
theorem kc_th_kindOf {l : Launch} {D : va_G} {G : gAd} {post : CS → Int32 → Prop} {σ : CS} {a1 : Int32} (h : wc_th_kindOf post σ a1) : cMet l D G yX8_kindOf cX8_kindOf 2 (some .int) 1 [.ref (G.1 900), .int a1] σ (pI post) := by
  unfold wc_th_kindOf at h
  refine c_enter (own := RX8) (by decide +kernel) rfl [(0, .ref (G.1 900)), (1, .int a1)] rfl (Nat.le_of_ble_eq_true rfl) ?_
  intro E hE hm
  have hN := hm.2.2.2.2.2.2.1
  refine r_iload_n hE 1 dX8_kindOf_g0.1 rfl rfl ?_
  refine r_if_lt hE 21 dX8_kindOf_g0.2.1 (by decide) h (fun h => ?_) (fun h => ?_)
  · refine r_iconst (v := (-1 : Int32)) hE dX8_kindOf_g0.2.2.2.2.2.2.2.2.2.2.2.1 (by decide) ?_
    exact c_iret hE hm dX8_kindOf_g0.2.2.2.2.2.2.2.2.2.2.2.2 h
  · refine r_iload_n hE 1 dX8_kindOf_g0.2.2.1 rfl rfl ?_
    refine r_aload_n hE 0 dX8_kindOf_g0.2.2.2.1 rfl rfl ?_
    refine cg_th_many hE hm fk_X8_25 dX8_kindOf_g0.2.2.2.2.1 ?_
    refine r_icmp_ge hE 21 dX8_kindOf_g0.2.2.2.2.2.1 (by decide) h (fun h => ?_) (fun h => ?_)
    · refine r_iconst (v := (-1 : Int32)) hE dX8_kindOf_g0.2.2.2.2.2.2.2.2.2.2.2.1 (by decide) ?_
      exact c_iret hE hm dX8_kindOf_g0.2.2.2.2.2.2.2.2.2.2.2.2 h
    · refine r_aload_n hE 0 dX8_kindOf_g0.2.2.2.2.2.2.1 rfl rfl ?_
      refine cg_th_kinds hE hm fk_X8_9 dX8_kindOf_g0.2.2.2.2.2.2.2.1 ?_
      refine r_iload_n hE 1 dX8_kindOf_g0.2.2.2.2.2.2.2.2.1 rfl rfl ?_
      obtain ⟨hi, h⟩ := h
      refine cl_th_kinds hE hm dX8_kindOf_g0.2.2.2.2.2.2.2.2.2.1 hi ?_
      refine r_goto hE 22 dX8_kindOf_g0.2.2.2.2.2.2.2.2.2.2.1 (by decide) ?_
      exact c_iret hE hm dX8_kindOf_g0.2.2.2.2.2.2.2.2.2.2.2.2 h
/-! th_leaningOf -/
def wc_th_leaningOf (post : CS → Int32 → Prop) (σ : CS) (a1 : Int32) : Prop := wc_SX12_inside (fun (s1 : CS) (r2 : Int32) => ((r2 = (0 : Int32)) → (post s1 (0 : Int32))) ∧ ((¬ (r2 = (0 : Int32))) → (vp_in a1 400 ∧ (post s1 (c_th_leaning s1 a1.toNatClampNeg))))) σ a1 (c_th_many σ)
set_option maxRecDepth 20000 in
theorem kc_th_leaningOf {l : Launch} {D : va_G} {G : gAd} {post : CS → Int32 → Prop} {σ : CS} {a1 : Int32} (h : wc_th_leaningOf post σ a1) : cMet l D G yX8_leaningOf cX8_leaningOf 2 (some .int) 2 [.ref (G.1 900), .int a1] σ (pI post) := by
  unfold wc_th_leaningOf at h
  refine c_enter (own := RX8) (by decide +kernel) rfl [(0, .ref (G.1 900)), (1, .int a1)] rfl (Nat.le_of_ble_eq_true rfl) ?_
  intro E hE hm
  have hN := hm.2.2.2.2.2.2.1
  refine r_iload_n hE 1 dX8_leaningOf_g0.1 rfl rfl ?_
  refine r_aload_n hE 0 dX8_leaningOf_g0.2.1 rfl rfl ?_
  refine cg_th_many hE hm fk_X8_25 dX8_leaningOf_g0.2.2.1 ?_
  refine c_callSNi hE hm [.int a1, .int (c_th_many σ)] [] ck_X8_29 cw_X8_29 (kc_SX12_inside h) (by decide) rfl rfl (Nat.le_of_ble_eq_true rfl) dX8_leaningOf_g0.2.2.2.1 (fun s1 r2 h => ?_)
  refine r_if_eq hE 20 dX8_leaningOf_g0.2.2.2.2.1 (by decide) h (fun h => ?_) (fun h => ?_)
  · refine r_iconst (v := (0 : Int32)) hE dX8_leaningOf_g0.2.2.2.2.2.2.2.2.2.2.1 (by decide) ?_
    exact c_iret hE hm dX8_leaningOf_g0.2.2.2.2.2.2.2.2.2.2.2 h
  · refine r_aload_n hE 0 dX8_leaningOf_g0.2.2.2.2.2.1 rfl rfl ?_
    refine cg_th_leaning hE hm fk_X8_15 dX8_leaningOf_g0.2.2.2.2.2.2.1 ?_
    refine r_iload_n hE 1 dX8_leaningOf_g0.2.2.2.2.2.2.2.1 rfl rfl ?_
    obtain ⟨hi, h⟩ := h
    refine cl_th_leaning hE hm dX8_leaningOf_g0.2.2.2.2.2.2.2.2.1 hi ?_
    refine r_goto hE 21 dX8_leaningOf_g0.2.2.2.2.2.2.2.2.2.1 (by decide) ?_
    exact c_iret hE hm dX8_leaningOf_g0.2.2.2.2.2.2.2.2.2.2.2 h
/-! th_heldAt -/
def wc_th_heldAt (post : CS → Int32 → Prop) (σ : CS) (a1 : Int32) (a2 : Int32) : Prop := wc_SX12_inside (fun (s1 : CS) (r2 : Int32) => ((r2 = (0 : Int32)) → (post s1 (-1 : Int32))) ∧ ((¬ (r2 = (0 : Int32))) → (wc_SX12_inside (fun (s3 : CS) (r4 : Int32) => ((r4 = (0 : Int32)) → (post s3 (-1 : Int32))) ∧ ((¬ (r4 = (0 : Int32))) → (vp_in ((a1 * (20 : Int32)) + a2) 8000 ∧ (post s3 (c_th_held s3 ((a1 * (20 : Int32)) + a2).toNatClampNeg))))) s1 a2 (20 : Int32)))) σ a1 (c_th_many σ)
set_option maxRecDepth 20000 in
theorem kc_th_heldAt {l : Launch} {D : va_G} {G : gAd} {post : CS → Int32 → Prop} {σ : CS} {a1 : Int32} {a2 : Int32} (h : wc_th_heldAt post σ a1 a2) : cMet l D G yX8_heldAt cX8_heldAt 3 (some .int) 2 [.ref (G.1 900), .int a1, .int a2] σ (pI post) := by
  unfold wc_th_heldAt at h
  refine c_enter (own := RX8) (by decide +kernel) rfl [(0, .ref (G.1 900)), (1, .int a1), (2, .int a2)] rfl (Nat.le_of_ble_eq_true rfl) ?_
  intro E hE hm
  have hN := hm.2.2.2.2.2.2.1
  refine r_iload_n hE 1 dX8_heldAt_g0.1 rfl rfl ?_
  refine r_aload_n hE 0 dX8_heldAt_g0.2.1 rfl rfl ?_
  refine cg_th_many hE hm fk_X8_25 dX8_heldAt_g0.2.2.1 ?_
  refine c_callSNi hE hm [.int a1, .int (c_th_many σ)] [] ck_X8_29 cw_X8_29 (kc_SX12_inside h) (by decide) rfl rfl (Nat.le_of_ble_eq_true rfl) dX8_heldAt_g0.2.2.2.1 (fun s1 r2 h => ?_)
  refine r_if_eq hE 34 dX8_heldAt_g0.2.2.2.2.1 (by decide) h (fun h => ?_) (fun h => ?_)
  · refine r_iconst (v := (-1 : Int32)) hE dX8_heldAt_g1.2.2.1 (by decide) ?_
    exact c_iret hE hm dX8_heldAt_g1.2.2.2 h
  · refine r_iload_n hE 2 dX8_heldAt_g0.2.2.2.2.2.1 rfl rfl ?_
    refine r_bipush (v := (20 : Int32)) hE dX8_heldAt_g0.2.2.2.2.2.2.1 (by decide) ?_
    refine c_callSNi hE hm [.int a2, .int (20 : Int32)] [] ck_X8_29 cw_X8_29 (kc_SX12_inside h) (by decide) rfl rfl (Nat.le_of_ble_eq_true rfl) dX8_heldAt_g0.2.2.2.2.2.2.2.1 (fun s3 r4 h => ?_)
    refine r_if_eq hE 34 dX8_heldAt_g0.2.2.2.2.2.2.2.2.1 (by decide) h (fun h => ?_) (fun h => ?_)
    · refine r_iconst (v := (-1 : Int32)) hE dX8_heldAt_g1.2.2.1 (by decide) ?_
      exact c_iret hE hm dX8_heldAt_g1.2.2.2 h
    · refine r_aload_n hE 0 dX8_heldAt_g0.2.2.2.2.2.2.2.2.2.1 rfl rfl ?_
      refine cg_th_held hE hm fk_X8_22 dX8_heldAt_g0.2.2.2.2.2.2.2.2.2.2.1 ?_
      refine r_iload_n hE 1 dX8_heldAt_g0.2.2.2.2.2.2.2.2.2.2.2.1 rfl rfl ?_
      refine r_bipush (v := (20 : Int32)) hE dX8_heldAt_g0.2.2.2.2.2.2.2.2.2.2.2.2.1 (by decide) ?_
      refine r_imul hE dX8_heldAt_g0.2.2.2.2.2.2.2.2.2.2.2.2.2.1 ?_
      refine r_iload_n hE 2 dX8_heldAt_g0.2.2.2.2.2.2.2.2.2.2.2.2.2.2.1 rfl rfl ?_
      refine r_iadd hE dX8_heldAt_g0.2.2.2.2.2.2.2.2.2.2.2.2.2.2.2 ?_
      obtain ⟨hi, h⟩ := h
      refine cl_th_held hE hm dX8_heldAt_g1.1 hi ?_
      refine r_goto hE 35 dX8_heldAt_g1.2.1 (by decide) ?_
      exact c_iret hE hm dX8_heldAt_g1.2.2.2 h
/-! th_fits -/
def wc_th_fits_219 (post : CS → Int32 → Prop) (σ : CS) : Prop := post σ (1 : Int32)
set_option maxRecDepth 20000 in
theorem kc_th_fits_219 {E : gEnv} {l : Launch} {D : va_G} {G : gAd} {post : CS → Int32 → Prop} (hE : gOK E cX8_fits RX8 (some .boolean) 2) (hm : cOK E l D G (pI post) 4) (σ : CS) (h : wc_th_fits_219 post σ) : GW E (cW G σ) 219 [] [] := by
  unfold wc_th_fits_219 at h
  have hN := hm.2.2.2.2.2.2.1
  refine r_iconst (v := (1 : Int32)) hE dX8_fits_g4.2.2.2.2.2.2.2.2.2.2.2.2.1 (by decide) ?_
  refine r_goto hE 224 dX8_fits_g4.2.2.2.2.2.2.2.2.2.2.2.2.2.1 (by decide) ?_
  exact c_zret hE hm dX8_fits_g4.2.2.2.2.2.2.2.2.2.2.2.2.2.2.2 (Or.inr rfl) h
def wc_th_fits_130 (post : CS → Int32 → Prop) (σ : CS) : Prop := post σ (1 : Int32)
set_option maxRecDepth 20000 in
theorem kc_th_fits_130 {E : gEnv} {l : Launch} {D : va_G} {G : gAd} {post : CS → Int32 → Prop} (hE : gOK E cX8_fits RX8 (some .boolean) 2) (hm : cOK E l D G (pI post) 4) (σ : CS) (h : wc_th_fits_130 post σ) : GW E (cW G σ) 130 [] [] := by
  unfold wc_th_fits_130 at h
  have hN := hm.2.2.2.2.2.2.1
  refine r_iconst (v := (1 : Int32)) hE dX8_fits_g1.2.2.2.2.2.2.1 (by decide) ?_
  refine r_goto hE 135 dX8_fits_g1.2.2.2.2.2.2.2.1 (by decide) ?_
  exact c_zret hE hm dX8_fits_g1.2.2.2.2.2.2.2.2.2.1 (Or.inr rfl) h
def wc_th_fits_114 (post : CS → Int32 → Prop) (σ : CS) : Prop := post σ (1 : Int32)
set_option maxRecDepth 20000 in
theorem kc_th_fits_114 {E : gEnv} {l : Launch} {D : va_G} {G : gAd} {post : CS → Int32 → Prop} (hE : gOK E cX8_fits RX8 (some .boolean) 2) (hm : cOK E l D G (pI post) 4) (σ : CS) (h : wc_th_fits_114 post σ) : GW E (cW G σ) 114 [] [] := by
  unfold wc_th_fits_114 at h
  have hN := hm.2.2.2.2.2.2.1
  refine r_iconst (v := (1 : Int32)) hE dX8_fits_g0.2.2.2.2.2.2.2.2.2.2.2.2.1 (by decide) ?_
  refine r_goto hE 119 dX8_fits_g0.2.2.2.2.2.2.2.2.2.2.2.2.2.1 (by decide) ?_
  exact c_zret hE hm dX8_fits_g0.2.2.2.2.2.2.2.2.2.2.2.2.2.2.2 (Or.inr rfl) h
def wc_th_fits (post : CS → Int32 → Prop) (σ : CS) (a1 : Int32) (a2 : Int32) : Prop := wc_th_kindOf (fun (s1 : CS) (r2 : Int32) => (a2 = (67 : Int32) → (((¬ (r2 = (5 : Int32))) → (post s1 (0 : Int32))) ∧ ((r2 = (5 : Int32)) → (post s1 (1 : Int32))))) ∧ (¬ a2 = (67 : Int32) → ((a2 = (68 : Int32) → (post s1 (1 : Int32))) ∧ (¬ a2 = (68 : Int32) → ((a2 = (69 : Int32) → (post s1 (1 : Int32))) ∧ (¬ a2 = (69 : Int32) → ((a2 = (70 : Int32) → (((r2 = (3 : Int32)) → (wc_th_fits_219 post s1)) ∧ ((¬ (r2 = (3 : Int32))) → (((r2 = (4 : Int32)) → (wc_th_fits_219 post s1)) ∧ ((¬ (r2 = (4 : Int32))) → (((¬ (r2 = (5 : Int32))) → (post s1 (0 : Int32))) ∧ ((r2 = (5 : Int32)) → (wc_th_fits_219 post s1)))))))) ∧ (¬ a2 = (70 : Int32) → ((a2 = (71 : Int32) → (post s1 (1 : Int32))) ∧ (¬ a2 = (71 : Int32) → ((a2 = (72 : Int32) → (post s1 (1 : Int32))) ∧ (¬ a2 = (72 : Int32) → ((a2 = (73 : Int32) → (post s1 (1 : Int32))) ∧ (¬ a2 = (73 : Int32) → ((a2 = (74 : Int32) → (post s1 (1 : Int32))) ∧ (¬ a2 = (74 : Int32) → ((a2 = (75 : Int32) → (post s1 (1 : Int32))) ∧ (¬ a2 = (75 : Int32) → ((a2 = (76 : Int32) → (((r2 = (3 : Int32)) → (wc_th_fits_130 post s1)) ∧ ((¬ (r2 = (3 : Int32))) → (((¬ (r2 = (4 : Int32))) → (post s1 (0 : Int32))) ∧ ((r2 = (4 : Int32)) → (wc_th_fits_130 post s1)))))) ∧ (¬ a2 = (76 : Int32) → ((a2 = (77 : Int32) → (post s1 (1 : Int32))) ∧ (¬ a2 = (77 : Int32) → ((a2 = (78 : Int32) → (((¬ (r2 = (0 : Int32))) → (post s1 (0 : Int32))) ∧ ((r2 = (0 : Int32)) → (post s1 (1 : Int32))))) ∧ (¬ a2 = (78 : Int32) → ((a2 = (79 : Int32) → (post s1 (1 : Int32))) ∧ (¬ a2 = (79 : Int32) → ((a2 = (80 : Int32) → (((r2 = (1 : Int32)) → (wc_th_fits_114 post s1)) ∧ ((¬ (r2 = (1 : Int32))) → (((¬ (r2 = (2 : Int32))) → (post s1 (0 : Int32))) ∧ ((r2 = (2 : Int32)) → (wc_th_fits_114 post s1)))))) ∧ (¬ a2 = (80 : Int32) → ((a2 = (81 : Int32) → (post s1 (1 : Int32))) ∧ (¬ a2 = (81 : Int32) → ((a2 = (82 : Int32) → (((¬ (r2 = (6 : Int32))) → (post s1 (0 : Int32))) ∧ ((r2 = (6 : Int32)) → (post s1 (1 : Int32))))) ∧ (¬ a2 = (82 : Int32) → ((a2 = (83 : Int32) → (((¬ (r2 = (4 : Int32))) → (post s1 (0 : Int32))) ∧ ((r2 = (4 : Int32)) → (post s1 (1 : Int32))))) ∧ (¬ a2 = (83 : Int32) → ((a2 = (84 : Int32) → (post s1 (1 : Int32))) ∧ (¬ a2 = (84 : Int32) → ((a2 = (85 : Int32) → (post s1 (1 : Int32))) ∧ (¬ a2 = (85 : Int32) → ((a2 = (86 : Int32) → (post s1 (1 : Int32))) ∧ (¬ a2 = (86 : Int32) → ((a2 = (87 : Int32) → (((¬ (r2 = (0 : Int32))) → (post s1 (0 : Int32))) ∧ ((r2 = (0 : Int32)) → (wc_th_partOf (fun (s3 : CS) (r4 : Int64) => wc_SX6_bottom (fun (s5 : CS) (r6 : Int64) => ((¬ ((lg_cmp r6 (1 : Int64)) = (0 : Int32))) → (post s5 (0 : Int32))) ∧ (((lg_cmp r6 (1 : Int64)) = (0 : Int32)) → (post s5 (1 : Int32)))) s3 r4) s1 a1 (0 : Int32))))) ∧ (¬ a2 = (87 : Int32) → (post s1 (1 : Int32)))))))))))))))))))))))))))))))))))))))))))) σ a1
set_option maxRecDepth 20000 in
theorem kc_th_fits {l : Launch} {D : va_G} {G : gAd} {post : CS → Int32 → Prop} {σ : CS} {a1 : Int32} {a2 : Int32} (h : wc_th_fits post σ a1 a2) : cMet l D G yX8_fits cX8_fits 4 (some .boolean) 2 [.ref (G.1 900), .int a1, .int a2] σ (pI post) := by
  unfold wc_th_fits at h
  refine c_enter (own := RX8) (by decide +kernel) rfl [(0, .ref (G.1 900)), (1, .int a1), (2, .int a2)] rfl (Nat.le_of_ble_eq_true rfl) ?_
  intro E hE hm
  have hN := hm.2.2.2.2.2.2.1
  refine r_aload_n hE 0 dX8_fits_g0.1 rfl rfl ?_
  refine r_iload_n hE 1 dX8_fits_g0.2.1 rfl rfl ?_
  refine c_callVi hE hm [.int a1] [] ck_X8_59 (cr_th hm rfl) (kc_th_kindOf h) (by decide) rfl rfl (Nat.le_of_ble_eq_true rfl) dX8_fits_g0.2.2.1 (fun s1 r2 h => ?_)
  refine r_istore_n hE [(3, .int r2), (0, .ref (G.1 900)), (1, .int a1), (2, .int a2)] dX8_fits_g0.2.2.2.1 rfl hN (by decide) rfl ?_
  refine r_iload_n hE 3 dX8_fits_g0.2.2.2.2.1 rfl rfl ?_
  refine r_case (67 : Int32) h (fun q0 h => ?_) (fun q0 h => ?_)
  · refine r_tableAt (off := 140) hE (67 : Int32) 147 dX8_fits_g0.2.2.2.2.2.1 q0 (by decide) (by decide) (by decide) (by decide) ?_
    refine r_iload_n hE 0 dX8_fits_g2.2.1 rfl rfl ?_
    refine r_iconst (v := (5 : Int32)) hE dX8_fits_g2.2.2.1 (by decide) ?_
    refine r_icmp_ne hE 156 dX8_fits_g2.2.2.2.1 (by decide) h (fun h => ?_) (fun h => ?_)
    · refine r_iconst (v := (0 : Int32)) hE dX8_fits_g2.2.2.2.2.2.2.1 (by decide) ?_
      exact c_zret hE hm dX8_fits_g2.2.2.2.2.2.2.2.1 (Or.inl rfl) h
    · refine r_iconst (v := (1 : Int32)) hE dX8_fits_g2.2.2.2.2.1 (by decide) ?_
      refine r_goto hE 157 dX8_fits_g2.2.2.2.2.2.1 (by decide) ?_
      exact c_zret hE hm dX8_fits_g2.2.2.2.2.2.2.2.1 (Or.inr rfl) h
  · refine r_case (68 : Int32) h (fun q1 h => ?_) (fun q1 h => ?_)
    · refine r_tableAt (off := 218) hE (68 : Int32) 225 dX8_fits_g0.2.2.2.2.2.1 q1 (by decide) (by decide) (by decide) (by decide) ?_
      refine r_iconst (v := (1 : Int32)) hE dX8_fits_g5.1 (by decide) ?_
      exact c_zret hE hm dX8_fits_g5.2 (Or.inr rfl) h
    · refine r_case (69 : Int32) h (fun q2 h => ?_) (fun q2 h => ?_)
      · refine r_tableAt (off := 218) hE (69 : Int32) 225 dX8_fits_g0.2.2.2.2.2.1 q2 (by decide) (by decide) (by decide) (by decide) ?_
        refine r_iconst (v := (1 : Int32)) hE dX8_fits_g5.1 (by decide) ?_
        exact c_zret hE hm dX8_fits_g5.2 (Or.inr rfl) h
      · refine r_case (70 : Int32) h (fun q3 h => ?_) (fun q3 h => ?_)
        · refine r_tableAt (off := 197) hE (70 : Int32) 204 dX8_fits_g0.2.2.2.2.2.1 q3 (by decide) (by decide) (by decide) (by decide) ?_
          refine r_iload_n hE 0 dX8_fits_g4.2.2.2.1 rfl rfl ?_
          refine r_iconst (v := (3 : Int32)) hE dX8_fits_g4.2.2.2.2.1 (by decide) ?_
          refine r_icmp_eq hE 219 dX8_fits_g4.2.2.2.2.2.1 (by decide) h (fun h => ?_) (fun h => ?_)
          · refine r_pick [] rfl ?_
            exact kc_th_fits_219 hE hm _ h
          · refine r_iload_n hE 0 dX8_fits_g4.2.2.2.2.2.2.1 rfl rfl ?_
            refine r_iconst (v := (4 : Int32)) hE dX8_fits_g4.2.2.2.2.2.2.2.1 (by decide) ?_
            refine r_icmp_eq hE 219 dX8_fits_g4.2.2.2.2.2.2.2.2.1 (by decide) h (fun h => ?_) (fun h => ?_)
            · refine r_pick [] rfl ?_
              exact kc_th_fits_219 hE hm _ h
            · refine r_iload_n hE 0 dX8_fits_g4.2.2.2.2.2.2.2.2.2.1 rfl rfl ?_
              refine r_iconst (v := (5 : Int32)) hE dX8_fits_g4.2.2.2.2.2.2.2.2.2.2.1 (by decide) ?_
              refine r_icmp_ne hE 223 dX8_fits_g4.2.2.2.2.2.2.2.2.2.2.2.1 (by decide) h (fun h => ?_) (fun h => ?_)
              · refine r_iconst (v := (0 : Int32)) hE dX8_fits_g4.2.2.2.2.2.2.2.2.2.2.2.2.2.2.1 (by decide) ?_
                exact c_zret hE hm dX8_fits_g4.2.2.2.2.2.2.2.2.2.2.2.2.2.2.2 (Or.inl rfl) h
              · refine r_pick [] rfl ?_
                exact kc_th_fits_219 hE hm _ h
        · refine r_case (71 : Int32) h (fun q4 h => ?_) (fun q4 h => ?_)
          · refine r_tableAt (off := 218) hE (71 : Int32) 225 dX8_fits_g0.2.2.2.2.2.1 q4 (by decide) (by decide) (by decide) (by decide) ?_
            refine r_iconst (v := (1 : Int32)) hE dX8_fits_g5.1 (by decide) ?_
            exact c_zret hE hm dX8_fits_g5.2 (Or.inr rfl) h
          · refine r_case (72 : Int32) h (fun q5 h => ?_) (fun q5 h => ?_)
            · refine r_tableAt (off := 218) hE (72 : Int32) 225 dX8_fits_g0.2.2.2.2.2.1 q5 (by decide) (by decide) (by decide) (by decide) ?_
              refine r_iconst (v := (1 : Int32)) hE dX8_fits_g5.1 (by decide) ?_
              exact c_zret hE hm dX8_fits_g5.2 (Or.inr rfl) h
            · refine r_case (73 : Int32) h (fun q6 h => ?_) (fun q6 h => ?_)
              · refine r_tableAt (off := 218) hE (73 : Int32) 225 dX8_fits_g0.2.2.2.2.2.1 q6 (by decide) (by decide) (by decide) (by decide) ?_
                refine r_iconst (v := (1 : Int32)) hE dX8_fits_g5.1 (by decide) ?_
                exact c_zret hE hm dX8_fits_g5.2 (Or.inr rfl) h
              · refine r_case (74 : Int32) h (fun q7 h => ?_) (fun q7 h => ?_)
                · refine r_tableAt (off := 218) hE (74 : Int32) 225 dX8_fits_g0.2.2.2.2.2.1 q7 (by decide) (by decide) (by decide) (by decide) ?_
                  refine r_iconst (v := (1 : Int32)) hE dX8_fits_g5.1 (by decide) ?_
                  exact c_zret hE hm dX8_fits_g5.2 (Or.inr rfl) h
                · refine r_case (75 : Int32) h (fun q8 h => ?_) (fun q8 h => ?_)
                  · refine r_tableAt (off := 218) hE (75 : Int32) 225 dX8_fits_g0.2.2.2.2.2.1 q8 (by decide) (by decide) (by decide) (by decide) ?_
                    refine r_iconst (v := (1 : Int32)) hE dX8_fits_g5.1 (by decide) ?_
                    exact c_zret hE hm dX8_fits_g5.2 (Or.inr rfl) h
                  · refine r_case (76 : Int32) h (fun q9 h => ?_) (fun q9 h => ?_)
                    · refine r_tableAt (off := 113) hE (76 : Int32) 120 dX8_fits_g0.2.2.2.2.2.1 q9 (by decide) (by decide) (by decide) (by decide) ?_
                      refine r_iload_n hE 0 dX8_fits_g1.1 rfl rfl ?_
                      refine r_iconst (v := (3 : Int32)) hE dX8_fits_g1.2.1 (by decide) ?_
                      refine r_icmp_eq hE 130 dX8_fits_g1.2.2.1 (by decide) h (fun h => ?_) (fun h => ?_)
                      · refine r_pick [] rfl ?_
                        exact kc_th_fits_130 hE hm _ h
                      · refine r_iload_n hE 0 dX8_fits_g1.2.2.2.1 rfl rfl ?_
                        refine r_iconst (v := (4 : Int32)) hE dX8_fits_g1.2.2.2.2.1 (by decide) ?_
                        refine r_icmp_ne hE 134 dX8_fits_g1.2.2.2.2.2.1 (by decide) h (fun h => ?_) (fun h => ?_)
                        · refine r_iconst (v := (0 : Int32)) hE dX8_fits_g1.2.2.2.2.2.2.2.2.1 (by decide) ?_
                          exact c_zret hE hm dX8_fits_g1.2.2.2.2.2.2.2.2.2.1 (Or.inl rfl) h
                        · refine r_pick [] rfl ?_
                          exact kc_th_fits_130 hE hm _ h
                    · refine r_case (77 : Int32) h (fun q10 h => ?_) (fun q10 h => ?_)
                      · refine r_tableAt (off := 218) hE (77 : Int32) 225 dX8_fits_g0.2.2.2.2.2.1 q10 (by decide) (by decide) (by decide) (by decide) ?_
                        refine r_iconst (v := (1 : Int32)) hE dX8_fits_g5.1 (by decide) ?_
                        exact c_zret hE hm dX8_fits_g5.2 (Or.inr rfl) h
                      · refine r_case (78 : Int32) h (fun q11 h => ?_) (fun q11 h => ?_)
                        · refine r_tableAt (off := 163) hE (78 : Int32) 170 dX8_fits_g0.2.2.2.2.2.1 q11 (by decide) (by decide) (by decide) (by decide) ?_
                          refine r_iload_n hE 0 dX8_fits_g2.2.2.2.2.2.2.2.2.2.2.2.2.2.2.2 rfl rfl ?_
                          refine r_if_ne hE 178 dX8_fits_g3.1 (by decide) h (fun h => ?_) (fun h => ?_)
                          · refine r_iconst (v := (0 : Int32)) hE dX8_fits_g3.2.2.2.1 (by decide) ?_
                            exact c_zret hE hm dX8_fits_g3.2.2.2.2.1 (Or.inl rfl) h
                          · refine r_iconst (v := (1 : Int32)) hE dX8_fits_g3.2.1 (by decide) ?_
                            refine r_goto hE 179 dX8_fits_g3.2.2.1 (by decide) ?_
                            exact c_zret hE hm dX8_fits_g3.2.2.2.2.1 (Or.inr rfl) h
                        · refine r_case (79 : Int32) h (fun q12 h => ?_) (fun q12 h => ?_)
                          · refine r_tableAt (off := 218) hE (79 : Int32) 225 dX8_fits_g0.2.2.2.2.2.1 q12 (by decide) (by decide) (by decide) (by decide) ?_
                            refine r_iconst (v := (1 : Int32)) hE dX8_fits_g5.1 (by decide) ?_
                            exact c_zret hE hm dX8_fits_g5.2 (Or.inr rfl) h
                          · refine r_case (80 : Int32) h (fun q13 h => ?_) (fun q13 h => ?_)
                            · refine r_tableAt (off := 97) hE (80 : Int32) 104 dX8_fits_g0.2.2.2.2.2.1 q13 (by decide) (by decide) (by decide) (by decide) ?_
                              refine r_iload_n hE 0 dX8_fits_g0.2.2.2.2.2.2.1 rfl rfl ?_
                              refine r_iconst (v := (1 : Int32)) hE dX8_fits_g0.2.2.2.2.2.2.2.1 (by decide) ?_
                              refine r_icmp_eq hE 114 dX8_fits_g0.2.2.2.2.2.2.2.2.1 (by decide) h (fun h => ?_) (fun h => ?_)
                              · refine r_pick [] rfl ?_
                                exact kc_th_fits_114 hE hm _ h
                              · refine r_iload_n hE 0 dX8_fits_g0.2.2.2.2.2.2.2.2.2.1 rfl rfl ?_
                                refine r_iconst (v := (2 : Int32)) hE dX8_fits_g0.2.2.2.2.2.2.2.2.2.2.1 (by decide) ?_
                                refine r_icmp_ne hE 118 dX8_fits_g0.2.2.2.2.2.2.2.2.2.2.2.1 (by decide) h (fun h => ?_) (fun h => ?_)
                                · refine r_iconst (v := (0 : Int32)) hE dX8_fits_g0.2.2.2.2.2.2.2.2.2.2.2.2.2.2.1 (by decide) ?_
                                  exact c_zret hE hm dX8_fits_g0.2.2.2.2.2.2.2.2.2.2.2.2.2.2.2 (Or.inl rfl) h
                                · refine r_pick [] rfl ?_
                                  exact kc_th_fits_114 hE hm _ h
                            · refine r_case (81 : Int32) h (fun q14 h => ?_) (fun q14 h => ?_)
                              · refine r_tableAt (off := 218) hE (81 : Int32) 225 dX8_fits_g0.2.2.2.2.2.1 q14 (by decide) (by decide) (by decide) (by decide) ?_
                                refine r_iconst (v := (1 : Int32)) hE dX8_fits_g5.1 (by decide) ?_
                                exact c_zret hE hm dX8_fits_g5.2 (Or.inr rfl) h
                              · refine r_case (82 : Int32) h (fun q15 h => ?_) (fun q15 h => ?_)
                                · refine r_tableAt (off := 151) hE (82 : Int32) 158 dX8_fits_g0.2.2.2.2.2.1 q15 (by decide) (by decide) (by decide) (by decide) ?_
                                  refine r_iload_n hE 0 dX8_fits_g2.2.2.2.2.2.2.2.2.1 rfl rfl ?_
                                  refine r_bipush (v := (6 : Int32)) hE dX8_fits_g2.2.2.2.2.2.2.2.2.2.1 (by decide) ?_
                                  refine r_icmp_ne hE 168 dX8_fits_g2.2.2.2.2.2.2.2.2.2.2.1 (by decide) h (fun h => ?_) (fun h => ?_)
                                  · refine r_iconst (v := (0 : Int32)) hE dX8_fits_g2.2.2.2.2.2.2.2.2.2.2.2.2.2.1 (by decide) ?_
                                    exact c_zret hE hm dX8_fits_g2.2.2.2.2.2.2.2.2.2.2.2.2.2.2.1 (Or.inl rfl) h
                                  · refine r_iconst (v := (1 : Int32)) hE dX8_fits_g2.2.2.2.2.2.2.2.2.2.2.2.1 (by decide) ?_
                                    refine r_goto hE 169 dX8_fits_g2.2.2.2.2.2.2.2.2.2.2.2.2.1 (by decide) ?_
                                    exact c_zret hE hm dX8_fits_g2.2.2.2.2.2.2.2.2.2.2.2.2.2.2.1 (Or.inr rfl) h
                                · refine r_case (83 : Int32) h (fun q16 h => ?_) (fun q16 h => ?_)
                                  · refine r_tableAt (off := 129) hE (83 : Int32) 136 dX8_fits_g0.2.2.2.2.2.1 q16 (by decide) (by decide) (by decide) (by decide) ?_
                                    refine r_iload_n hE 0 dX8_fits_g1.2.2.2.2.2.2.2.2.2.2.1 rfl rfl ?_
                                    refine r_iconst (v := (4 : Int32)) hE dX8_fits_g1.2.2.2.2.2.2.2.2.2.2.2.1 (by decide) ?_
                                    refine r_icmp_ne hE 145 dX8_fits_g1.2.2.2.2.2.2.2.2.2.2.2.2.1 (by decide) h (fun h => ?_) (fun h => ?_)
                                    · refine r_iconst (v := (0 : Int32)) hE dX8_fits_g1.2.2.2.2.2.2.2.2.2.2.2.2.2.2.2 (by decide) ?_
                                      exact c_zret hE hm dX8_fits_g2.1 (Or.inl rfl) h
                                    · refine r_iconst (v := (1 : Int32)) hE dX8_fits_g1.2.2.2.2.2.2.2.2.2.2.2.2.2.1 (by decide) ?_
                                      refine r_goto hE 146 dX8_fits_g1.2.2.2.2.2.2.2.2.2.2.2.2.2.2.1 (by decide) ?_
                                      exact c_zret hE hm dX8_fits_g2.1 (Or.inr rfl) h
                                  · refine r_case (84 : Int32) h (fun q17 h => ?_) (fun q17 h => ?_)
                                    · refine r_tableAt (off := 218) hE (84 : Int32) 225 dX8_fits_g0.2.2.2.2.2.1 q17 (by decide) (by decide) (by decide) (by decide) ?_
                                      refine r_iconst (v := (1 : Int32)) hE dX8_fits_g5.1 (by decide) ?_
                                      exact c_zret hE hm dX8_fits_g5.2 (Or.inr rfl) h
                                    · refine r_case (85 : Int32) h (fun q18 h => ?_) (fun q18 h => ?_)
                                      · refine r_tableAt (off := 218) hE (85 : Int32) 225 dX8_fits_g0.2.2.2.2.2.1 q18 (by decide) (by decide) (by decide) (by decide) ?_
                                        refine r_iconst (v := (1 : Int32)) hE dX8_fits_g5.1 (by decide) ?_
                                        exact c_zret hE hm dX8_fits_g5.2 (Or.inr rfl) h
                                      · refine r_case (86 : Int32) h (fun q19 h => ?_) (fun q19 h => ?_)
                                        · refine r_tableAt (off := 218) hE (86 : Int32) 225 dX8_fits_g0.2.2.2.2.2.1 q19 (by decide) (by decide) (by decide) (by decide) ?_
                                          refine r_iconst (v := (1 : Int32)) hE dX8_fits_g5.1 (by decide) ?_
                                          exact c_zret hE hm dX8_fits_g5.2 (Or.inr rfl) h
                                        · refine r_case (87 : Int32) h (fun q20 h => ?_) (fun q20 h => ?_)
                                          · refine r_tableAt (off := 173) hE (87 : Int32) 180 dX8_fits_g0.2.2.2.2.2.1 q20 (by decide) (by decide) (by decide) (by decide) ?_
                                            refine r_iload_n hE 0 dX8_fits_g3.2.2.2.2.2.1 rfl rfl ?_
                                            refine r_if_ne hE 202 dX8_fits_g3.2.2.2.2.2.2.1 (by decide) h (fun h => ?_) (fun h => ?_)
                                            · refine r_iconst (v := (0 : Int32)) hE dX8_fits_g4.2.1 (by decide) ?_
                                              exact c_zret hE hm dX8_fits_g4.2.2.1 (Or.inl rfl) h
                                            · refine r_aload_n hE 1 dX8_fits_g3.2.2.2.2.2.2.2.1 rfl rfl ?_
                                              refine r_iload_n hE 2 dX8_fits_g3.2.2.2.2.2.2.2.2.1 rfl rfl ?_
                                              refine r_iconst (v := (0 : Int32)) hE dX8_fits_g3.2.2.2.2.2.2.2.2.2.1 (by decide) ?_
                                              refine c_callVl hE hm [.int a1, .int (0 : Int32)] [] ck_X8_51 (cr_th hm rfl) (kc_th_partOf h) (by decide) rfl rfl (Nat.le_of_ble_eq_true rfl) dX8_fits_g3.2.2.2.2.2.2.2.2.2.2.1 (fun s3 r4 h => ?_)
                                              refine c_callSl hE hm [.long r4] [] ck_X8_66 (kc_SX6_bottom h) (by decide) rfl rfl (Nat.le_of_ble_eq_true rfl) dX8_fits_g3.2.2.2.2.2.2.2.2.2.2.2.1 (fun s5 r6 h => ?_)
                                              refine r_lconst (v := (1 : Int64)) hE dX8_fits_g3.2.2.2.2.2.2.2.2.2.2.2.2.1 (by decide) ?_
                                              refine r_lcmp hE dX8_fits_g3.2.2.2.2.2.2.2.2.2.2.2.2.2.1 ?_
                                              refine r_if_ne hE 202 dX8_fits_g3.2.2.2.2.2.2.2.2.2.2.2.2.2.2.1 (by decide) h (fun h => ?_) (fun h => ?_)
                                              · refine r_iconst (v := (0 : Int32)) hE dX8_fits_g4.2.1 (by decide) ?_
                                                exact c_zret hE hm dX8_fits_g4.2.2.1 (Or.inl rfl) h
                                              · refine r_iconst (v := (1 : Int32)) hE dX8_fits_g3.2.2.2.2.2.2.2.2.2.2.2.2.2.2.2 (by decide) ?_
                                                refine r_goto hE 203 dX8_fits_g4.1 (by decide) ?_
                                                exact c_zret hE hm dX8_fits_g4.2.2.1 (Or.inr rfl) h
                                          · have n0 := lv_neT q0 (show (67 : Int32).toInt = 67 by decide)
                                            have n1 := lv_neT q1 (show (68 : Int32).toInt = 68 by decide)
                                            have n2 := lv_neT q2 (show (69 : Int32).toInt = 69 by decide)
                                            have n3 := lv_neT q3 (show (70 : Int32).toInt = 70 by decide)
                                            have n4 := lv_neT q4 (show (71 : Int32).toInt = 71 by decide)
                                            have n5 := lv_neT q5 (show (72 : Int32).toInt = 72 by decide)
                                            have n6 := lv_neT q6 (show (73 : Int32).toInt = 73 by decide)
                                            have n7 := lv_neT q7 (show (74 : Int32).toInt = 74 by decide)
                                            have n8 := lv_neT q8 (show (75 : Int32).toInt = 75 by decide)
                                            have n9 := lv_neT q9 (show (76 : Int32).toInt = 76 by decide)
                                            have n10 := lv_neT q10 (show (77 : Int32).toInt = 77 by decide)
                                            have n11 := lv_neT q11 (show (78 : Int32).toInt = 78 by decide)
                                            have n12 := lv_neT q12 (show (79 : Int32).toInt = 79 by decide)
                                            have n13 := lv_neT q13 (show (80 : Int32).toInt = 80 by decide)
                                            have n14 := lv_neT q14 (show (81 : Int32).toInt = 81 by decide)
                                            have n15 := lv_neT q15 (show (82 : Int32).toInt = 82 by decide)
                                            have n16 := lv_neT q16 (show (83 : Int32).toInt = 83 by decide)
                                            have n17 := lv_neT q17 (show (84 : Int32).toInt = 84 by decide)
                                            have n18 := lv_neT q18 (show (85 : Int32).toInt = 85 by decide)
                                            have n19 := lv_neT q19 (show (86 : Int32).toInt = 86 by decide)
                                            have n20 := lv_neT q20 (show (87 : Int32).toInt = 87 by decide)
                                            refine r_tableOut hE 225 dX8_fits_g0.2.2.2.2.2.1 (by omega) (by decide) ?_
                                            refine r_iconst (v := (1 : Int32)) hE dX8_fits_g5.1 (by decide) ?_
                                            exact c_zret hE hm dX8_fits_g5.2 (Or.inr rfl) h
/-! th_fitsSort -/
def wc_th_fitsSort (post : CS → Int32 → Prop) (σ : CS) (a1 : Int32) (a2 : Int32) : Prop := (a2 = (1 : Int32) → (wc_th_fits (fun (s1 : CS) (r2 : Int32) => isB r2 ∧ (post s1 r2)) σ a1 (80 : Int32))) ∧ (¬ a2 = (1 : Int32) → ((a2 = (2 : Int32) → (wc_th_fits (fun (s3 : CS) (r4 : Int32) => isB r4 ∧ (post s3 r4)) σ a1 (76 : Int32))) ∧ (¬ a2 = (2 : Int32) → ((a2 = (3 : Int32) → (wc_th_fits (fun (s5 : CS) (r6 : Int32) => isB r6 ∧ (post s5 r6)) σ a1 (78 : Int32))) ∧ (¬ a2 = (3 : Int32) → (post σ (1 : Int32)))))))
set_option maxRecDepth 20000 in
theorem kc_th_fitsSort {l : Launch} {D : va_G} {G : gAd} {post : CS → Int32 → Prop} {σ : CS} {a1 : Int32} {a2 : Int32} (h : wc_th_fitsSort post σ a1 a2) : cMet l D G yX8_fitsSort cX8_fitsSort 3 (some .boolean) 3 [.ref (G.1 900), .int a1, .int a2] σ (pI post) := by
  unfold wc_th_fitsSort at h
  refine c_enter (own := RX8) (by decide +kernel) rfl [(0, .ref (G.1 900)), (1, .int a1), (2, .int a2)] rfl (Nat.le_of_ble_eq_true rfl) ?_
  intro E hE hm
  have hN := hm.2.2.2.2.2.2.1
  refine r_iload_n hE 2 dX8_fitsSort_g0.1 rfl rfl ?_
  refine r_case (1 : Int32) h (fun q0 h => ?_) (fun q0 h => ?_)
  · refine r_tableAt (off := 27) hE (1 : Int32) 28 dX8_fitsSort_g0.2.1 q0 (by decide) (by decide) (by decide) (by decide) ?_
    refine r_aload_n hE 0 dX8_fitsSort_g0.2.2.1 rfl rfl ?_
    refine r_iload_n hE 1 dX8_fitsSort_g0.2.2.2.1 rfl rfl ?_
    refine r_bipush (v := (80 : Int32)) hE dX8_fitsSort_g0.2.2.2.2.1 (by decide) ?_
    refine c_callVi hE hm [.int a1, .int (80 : Int32)] [] ck_X8_69 (cr_th hm rfl) (kc_th_fits h) (by decide) rfl rfl (Nat.le_of_ble_eq_true rfl) dX8_fitsSort_g0.2.2.2.2.2.1 (fun s1 r2 h => ?_)
    obtain ⟨hb, h⟩ := h
    exact c_zret hE hm dX8_fitsSort_g0.2.2.2.2.2.2.1 hb h
  · refine r_case (2 : Int32) h (fun q1 h => ?_) (fun q1 h => ?_)
    · refine r_tableAt (off := 35) hE (2 : Int32) 36 dX8_fitsSort_g0.2.1 q1 (by decide) (by decide) (by decide) (by decide) ?_
      refine r_aload_n hE 0 dX8_fitsSort_g0.2.2.2.2.2.2.2.1 rfl rfl ?_
      refine r_iload_n hE 1 dX8_fitsSort_g0.2.2.2.2.2.2.2.2.1 rfl rfl ?_
      refine r_bipush (v := (76 : Int32)) hE dX8_fitsSort_g0.2.2.2.2.2.2.2.2.2.1 (by decide) ?_
      refine c_callVi hE hm [.int a1, .int (76 : Int32)] [] ck_X8_69 (cr_th hm rfl) (kc_th_fits h) (by decide) rfl rfl (Nat.le_of_ble_eq_true rfl) dX8_fitsSort_g0.2.2.2.2.2.2.2.2.2.2.1 (fun s3 r4 h => ?_)
      obtain ⟨hb, h⟩ := h
      exact c_zret hE hm dX8_fitsSort_g0.2.2.2.2.2.2.2.2.2.2.2.1 hb h
    · refine r_case (3 : Int32) h (fun q2 h => ?_) (fun q2 h => ?_)
      · refine r_tableAt (off := 43) hE (3 : Int32) 44 dX8_fitsSort_g0.2.1 q2 (by decide) (by decide) (by decide) (by decide) ?_
        refine r_aload_n hE 0 dX8_fitsSort_g0.2.2.2.2.2.2.2.2.2.2.2.2.1 rfl rfl ?_
        refine r_iload_n hE 1 dX8_fitsSort_g0.2.2.2.2.2.2.2.2.2.2.2.2.2.1 rfl rfl ?_
        refine r_bipush (v := (78 : Int32)) hE dX8_fitsSort_g0.2.2.2.2.2.2.2.2.2.2.2.2.2.2.1 (by decide) ?_
        refine c_callVi hE hm [.int a1, .int (78 : Int32)] [] ck_X8_69 (cr_th hm rfl) (kc_th_fits h) (by decide) rfl rfl (Nat.le_of_ble_eq_true rfl) dX8_fitsSort_g0.2.2.2.2.2.2.2.2.2.2.2.2.2.2.2 (fun s5 r6 h => ?_)
        obtain ⟨hb, h⟩ := h
        exact c_zret hE hm dX8_fitsSort_g1.1 hb h
      · have n0 := lv_neT q0 (show (1 : Int32).toInt = 1 by decide)
        have n1 := lv_neT q1 (show (2 : Int32).toInt = 2 by decide)
        have n2 := lv_neT q2 (show (3 : Int32).toInt = 3 by decide)
        refine r_tableOut hE 52 dX8_fitsSort_g0.2.1 (by omega) (by decide) ?_
        refine r_iconst (v := (1 : Int32)) hE dX8_fitsSort_g1.2.1 (by decide) ?_
        exact c_zret hE hm dX8_fitsSort_g1.2.2 (Or.inr rfl) h
/-! fr_clear -/
def wc_fr_clear_7 (post : CS → Prop) : Nat → CS → Int32 → Prop
  | 0, _, _ => False
  | n + 1, σ, v1 => (((12 : Int32) ≤ v1) → (post σ)) ∧ ((¬ ((12 : Int32) ≤ v1)) → (vp_in v1 12 ∧ (∀ s1 : CS, s1 = c_fr_moved_s σ v1.toNatClampNeg (0 : Int32) → ∀ x2 : Int32, x2 = v1 + (1 : Int32) → wc_fr_clear_7 post n s1 x2)))
set_option maxRecDepth 20000 in
theorem kc_fr_clear_7 {E : gEnv} {l : Launch} {D : va_G} {G : gAd} {post : CS → Prop} (hE : gOK E cX2_clear RX2 none 1) (hm : cOK E l D G (pV post) 2) : ∀ (n : Nat) (σ : CS) (v1 : Int32), wc_fr_clear_7 post n σ v1 → GW E (cW G σ) 7 [(0, .ref (G.1 1000)), (1, .int v1)] [] := by
  intro n
  induction n with
  | zero => intro σ v1 h; exact h.elim
  | succ n ih =>
    intro σ v1 h
    rw [wc_fr_clear_7] at h
    have hN := hm.2.2.2.2.2.2.1
    refine r_iload_n hE 1 dX2_clear_g0.2.2.2.2.2.1 rfl rfl ?_
    refine r_bipush (v := (12 : Int32)) hE dX2_clear_g0.2.2.2.2.2.2.1 (by decide) ?_
    refine r_icmp_ge hE 26 dX2_clear_g0.2.2.2.2.2.2.2.1 (by decide) h (fun h => ?_) (fun h => ?_)
    · exact c_vret hE hm dX2_clear_g0.2.2.2.2.2.2.2.2.2.2.2.2.2.2.2 h
    · refine r_aload_n hE 0 dX2_clear_g0.2.2.2.2.2.2.2.2.1 rfl rfl ?_
      refine cg_fr_moved hE hm fk_X2_9 dX2_clear_g0.2.2.2.2.2.2.2.2.2.1 ?_
      refine r_iload_n hE 1 dX2_clear_g0.2.2.2.2.2.2.2.2.2.2.1 rfl rfl ?_
      refine r_iconst (v := (0 : Int32)) hE dX2_clear_g0.2.2.2.2.2.2.2.2.2.2.2.1 (by decide) ?_
      obtain ⟨hi, h⟩ := h
      refine cs_fr_moved hE hm dX2_clear_g0.2.2.2.2.2.2.2.2.2.2.2.2.1 hi (Or.inl rfl) h (fun s1 h => ?_)
      obtain ⟨x2, ex2⟩ : ∃ z : Int32, z = v1 + (1 : Int32) := ⟨_, rfl⟩
      have h := h x2 ex2
      refine r_iinc (v := x2) hE [(1, .int x2), (0, .ref (G.1 1000))] 1 dX2_clear_g0.2.2.2.2.2.2.2.2.2.2.2.2.2.1 rfl (by rw [ex2]; rfl) hN (by decide) rfl ?_
      refine r_goto hE 7 dX2_clear_g0.2.2.2.2.2.2.2.2.2.2.2.2.2.2.1 (by decide) ?_
      refine r_pick [1, 0] rfl ?_
      exact ih _ _ h
def wc_fr_clear (post : CS → Prop) (σ : CS) : Prop := ∀ s3 : CS, s3 = c_fr_came_s σ (0 : Int32) → ∃ k : Nat, wc_fr_clear_7 post k s3 (0 : Int32)
set_option maxRecDepth 20000 in
theorem kc_fr_clear {l : Launch} {D : va_G} {G : gAd} {post : CS → Prop} {σ : CS} (h : wc_fr_clear post σ) : cMet l D G yX2_clear cX2_clear 2 none 1 [.ref (G.1 1000)] σ (pV post) := by
  unfold wc_fr_clear at h
  refine c_enter (own := RX2) (by decide +kernel) rfl [(0, .ref (G.1 1000))] rfl (Nat.le_of_ble_eq_true rfl) ?_
  intro E hE hm
  have hN := hm.2.2.2.2.2.2.1
  refine r_aload_n hE 0 dX2_clear_g0.1 rfl rfl ?_
  refine r_iconst (v := (0 : Int32)) hE dX2_clear_g0.2.1 (by decide) ?_
  refine cp_fr_came hE hm fk_X2_35 dX2_clear_g0.2.2.1 h (fun s3 h => ?_)
  refine r_iconst (v := (0 : Int32)) hE dX2_clear_g0.2.2.2.1 (by decide) ?_
  refine r_istore_n hE [(1, .int (0 : Int32)), (0, .ref (G.1 1000))] dX2_clear_g0.2.2.2.2.1 rfl hN (by decide) rfl ?_
  refine r_pick [1, 0] rfl ?_
  obtain ⟨k, h⟩ := h
  exact kc_fr_clear_7 hE hm k _ _ h
/-! fr_xOf -/
def wc_fr_xOf (post : CS → Int64 → Prop) (σ : CS) (a1 : Int32) : Prop := wc_SX12_inside (fun (s1 : CS) (r2 : Int32) => ((r2 = (0 : Int32)) → (post s1 (1 : Int64))) ∧ ((¬ (r2 = (0 : Int32))) → (vp_in a1 12 ∧ (post s1 (c_fr_toX s1 a1.toNatClampNeg))))) σ a1 (12 : Int32)
set_option maxRecDepth 20000 in
theorem kc_fr_xOf {l : Launch} {D : va_G} {G : gAd} {post : CS → Int64 → Prop} {σ : CS} {a1 : Int32} (h : wc_fr_xOf post σ a1) : cMet l D G yX2_xOf cX2_xOf 2 (some .long) 2 [.ref (G.1 1000), .int a1] σ (pL post) := by
  unfold wc_fr_xOf at h
  refine c_enter (own := RX2) (by decide +kernel) rfl [(0, .ref (G.1 1000)), (1, .int a1)] rfl (Nat.le_of_ble_eq_true rfl) ?_
  intro E hE hm
  have hN := hm.2.2.2.2.2.2.1
  refine r_iload_n hE 1 dX2_xOf_g0.1 rfl rfl ?_
  refine r_bipush (v := (12 : Int32)) hE dX2_xOf_g0.2.1 (by decide) ?_
  refine c_callSNi hE hm [.int a1, .int (12 : Int32)] [] ck_X2_39 cw_X2_39 (kc_SX12_inside h) (by decide) rfl rfl (Nat.le_of_ble_eq_true rfl) dX2_xOf_g0.2.2.1 (fun s1 r2 h => ?_)
  refine r_if_eq hE 18 dX2_xOf_g0.2.2.2.1 (by decide) h (fun h => ?_) (fun h => ?_)
  · refine r_lconst (v := (1 : Int64)) hE dX2_xOf_g0.2.2.2.2.2.2.2.2.2.1 (by decide) ?_
    exact c_lret hE hm dX2_xOf_g0.2.2.2.2.2.2.2.2.2.2 h
  · refine r_aload_n hE 0 dX2_xOf_g0.2.2.2.2.1 rfl rfl ?_
    refine cg_fr_toX hE hm fk_X2_15 dX2_xOf_g0.2.2.2.2.2.1 ?_
    refine r_iload_n hE 1 dX2_xOf_g0.2.2.2.2.2.2.1 rfl rfl ?_
    obtain ⟨hi, h⟩ := h
    refine cl_fr_toX hE hm dX2_xOf_g0.2.2.2.2.2.2.2.1 hi ?_
    refine r_goto hE 19 dX2_xOf_g0.2.2.2.2.2.2.2.2.1 (by decide) ?_
    exact c_lret hE hm dX2_xOf_g0.2.2.2.2.2.2.2.2.2.2 h
/-! fr_yOf -/
def wc_fr_yOf (post : CS → Int64 → Prop) (σ : CS) (a1 : Int32) : Prop := wc_SX12_inside (fun (s1 : CS) (r2 : Int32) => ((r2 = (0 : Int32)) → (post s1 (1 : Int64))) ∧ ((¬ (r2 = (0 : Int32))) → (vp_in a1 12 ∧ (post s1 (c_fr_toY s1 a1.toNatClampNeg))))) σ a1 (12 : Int32)
set_option maxRecDepth 20000 in
theorem kc_fr_yOf {l : Launch} {D : va_G} {G : gAd} {post : CS → Int64 → Prop} {σ : CS} {a1 : Int32} (h : wc_fr_yOf post σ a1) : cMet l D G yX2_yOf cX2_yOf 2 (some .long) 2 [.ref (G.1 1000), .int a1] σ (pL post) := by
  unfold wc_fr_yOf at h
  refine c_enter (own := RX2) (by decide +kernel) rfl [(0, .ref (G.1 1000)), (1, .int a1)] rfl (Nat.le_of_ble_eq_true rfl) ?_
  intro E hE hm
  have hN := hm.2.2.2.2.2.2.1
  refine r_iload_n hE 1 dX2_yOf_g0.1 rfl rfl ?_
  refine r_bipush (v := (12 : Int32)) hE dX2_yOf_g0.2.1 (by decide) ?_
  refine c_callSNi hE hm [.int a1, .int (12 : Int32)] [] ck_X2_39 cw_X2_39 (kc_SX12_inside h) (by decide) rfl rfl (Nat.le_of_ble_eq_true rfl) dX2_yOf_g0.2.2.1 (fun s1 r2 h => ?_)
  refine r_if_eq hE 18 dX2_yOf_g0.2.2.2.1 (by decide) h (fun h => ?_) (fun h => ?_)
  · refine r_lconst (v := (1 : Int64)) hE dX2_yOf_g0.2.2.2.2.2.2.2.2.2.1 (by decide) ?_
    exact c_lret hE hm dX2_yOf_g0.2.2.2.2.2.2.2.2.2.2 h
  · refine r_aload_n hE 0 dX2_yOf_g0.2.2.2.2.1 rfl rfl ?_
    refine cg_fr_toY hE hm fk_X2_19 dX2_yOf_g0.2.2.2.2.2.1 ?_
    refine r_iload_n hE 1 dX2_yOf_g0.2.2.2.2.2.2.1 rfl rfl ?_
    obtain ⟨hi, h⟩ := h
    refine cl_fr_toY hE hm dX2_yOf_g0.2.2.2.2.2.2.2.1 hi ?_
    refine r_goto hE 19 dX2_yOf_g0.2.2.2.2.2.2.2.2.1 (by decide) ?_
    exact c_lret hE hm dX2_yOf_g0.2.2.2.2.2.2.2.2.2.2 h
/-! fr_come -/
def wc_fr_come (post : CS → Prop) (σ : CS) (a1 : Int32) : Prop := wc_SX12_inside (fun (s1 : CS) (r2 : Int32) => ((r2 = (0 : Int32)) → (post s1)) ∧ ((¬ (r2 = (0 : Int32))) → (vp_in (c_fr_came s1) 12 ∧ (∀ s3 : CS, s3 = c_fr_thing_s s1 (c_fr_came s1).toNatClampNeg a1 → ∀ s4 : CS, s4 = c_fr_came_s s3 ((c_fr_came s3) + (1 : Int32)) → post s4)))) σ (c_fr_came σ) (12 : Int32)
set_option maxRecDepth 20000 in
theorem kc_fr_come {l : Launch} {D : va_G} {G : gAd} {post : CS → Prop} {σ : CS} {a1 : Int32} (h : wc_fr_come post σ a1) : cMet l D G yX2_come cX2_come 2 none 2 [.ref (G.1 1000), .int a1] σ (pV post) := by
  unfold wc_fr_come at h
  refine c_enter (own := RX2) (by decide +kernel) rfl [(0, .ref (G.1 1000)), (1, .int a1)] rfl (Nat.le_of_ble_eq_true rfl) ?_
  intro E hE hm
  have hN := hm.2.2.2.2.2.2.1
  refine r_aload_n hE 0 dX2_come_g0.1 rfl rfl ?_
  refine cg_fr_came hE hm fk_X2_35 dX2_come_g0.2.1 ?_
  refine r_bipush (v := (12 : Int32)) hE dX2_come_g0.2.2.1 (by decide) ?_
  refine c_callSNi hE hm [.int (c_fr_came σ), .int (12 : Int32)] [] ck_X2_39 cw_X2_39 (kc_SX12_inside h) (by decide) rfl rfl (Nat.le_of_ble_eq_true rfl) dX2_come_g0.2.2.2.1 (fun s1 r2 h => ?_)
  refine r_if_eq hE 32 dX2_come_g0.2.2.2.2.1 (by decide) h (fun h => ?_) (fun h => ?_)
  · exact c_vret hE hm dX2_come_g1.2 h
  · refine r_aload_n hE 0 dX2_come_g0.2.2.2.2.2.1 rfl rfl ?_
    refine cg_fr_thing hE hm fk_X2_31 dX2_come_g0.2.2.2.2.2.2.1 ?_
    refine r_aload_n hE 0 dX2_come_g0.2.2.2.2.2.2.2.1 rfl rfl ?_
    refine cg_fr_came hE hm fk_X2_35 dX2_come_g0.2.2.2.2.2.2.2.2.1 ?_
    refine r_iload_n hE 1 dX2_come_g0.2.2.2.2.2.2.2.2.2.1 rfl rfl ?_
    obtain ⟨hi, h⟩ := h
    refine cs_fr_thing hE hm dX2_come_g0.2.2.2.2.2.2.2.2.2.2.1 hi h (fun s3 h => ?_)
    refine r_aload_n hE 0 dX2_come_g0.2.2.2.2.2.2.2.2.2.2.2.1 rfl rfl ?_
    refine r_dup hE dX2_come_g0.2.2.2.2.2.2.2.2.2.2.2.2.1 rfl ?_
    refine cg_fr_came hE hm fk_X2_35 dX2_come_g0.2.2.2.2.2.2.2.2.2.2.2.2.2.1 ?_
    refine r_iconst (v := (1 : Int32)) hE dX2_come_g0.2.2.2.2.2.2.2.2.2.2.2.2.2.2.1 (by decide) ?_
    refine r_iadd hE dX2_come_g0.2.2.2.2.2.2.2.2.2.2.2.2.2.2.2 ?_
    refine cp_fr_came hE hm fk_X2_35 dX2_come_g1.1 h (fun s4 h => ?_)
    exact c_vret hE hm dX2_come_g1.2 h
/-! fr_thingAt -/
def wc_fr_thingAt (post : CS → Int32 → Prop) (σ : CS) (a1 : Int32) : Prop := wc_SX12_inside (fun (s1 : CS) (r2 : Int32) => ((r2 = (0 : Int32)) → (post s1 (-1 : Int32))) ∧ ((¬ (r2 = (0 : Int32))) → ((((12 : Int32) ≤ a1) → (post s1 (-1 : Int32))) ∧ ((¬ ((12 : Int32) ≤ a1)) → (vp_in a1 12 ∧ (post s1 (c_fr_thing s1 a1.toNatClampNeg))))))) σ a1 (c_fr_came σ)
set_option maxRecDepth 20000 in
theorem kc_fr_thingAt {l : Launch} {D : va_G} {G : gAd} {post : CS → Int32 → Prop} {σ : CS} {a1 : Int32} (h : wc_fr_thingAt post σ a1) : cMet l D G yX2_thingAt cX2_thingAt 2 (some .int) 2 [.ref (G.1 1000), .int a1] σ (pI post) := by
  unfold wc_fr_thingAt at h
  refine c_enter (own := RX2) (by decide +kernel) rfl [(0, .ref (G.1 1000)), (1, .int a1)] rfl (Nat.le_of_ble_eq_true rfl) ?_
  intro E hE hm
  have hN := hm.2.2.2.2.2.2.1
  refine r_iload_n hE 1 dX2_thingAt_g0.1 rfl rfl ?_
  refine r_aload_n hE 0 dX2_thingAt_g0.2.1 rfl rfl ?_
  refine cg_fr_came hE hm fk_X2_35 dX2_thingAt_g0.2.2.1 ?_
  refine c_callSNi hE hm [.int a1, .int (c_fr_came σ)] [] ck_X2_39 cw_X2_39 (kc_SX12_inside h) (by decide) rfl rfl (Nat.le_of_ble_eq_true rfl) dX2_thingAt_g0.2.2.2.1 (fun s1 r2 h => ?_)
  refine r_if_eq hE 26 dX2_thingAt_g0.2.2.2.2.1 (by decide) h (fun h => ?_) (fun h => ?_)
  · refine r_iconst (v := (-1 : Int32)) hE dX2_thingAt_g0.2.2.2.2.2.2.2.2.2.2.2.2.2.1 (by decide) ?_
    exact c_iret hE hm dX2_thingAt_g0.2.2.2.2.2.2.2.2.2.2.2.2.2.2 h
  · refine r_iload_n hE 1 dX2_thingAt_g0.2.2.2.2.2.1 rfl rfl ?_
    refine r_bipush (v := (12 : Int32)) hE dX2_thingAt_g0.2.2.2.2.2.2.1 (by decide) ?_
    refine r_icmp_ge hE 26 dX2_thingAt_g0.2.2.2.2.2.2.2.1 (by decide) h (fun h => ?_) (fun h => ?_)
    · refine r_iconst (v := (-1 : Int32)) hE dX2_thingAt_g0.2.2.2.2.2.2.2.2.2.2.2.2.2.1 (by decide) ?_
      exact c_iret hE hm dX2_thingAt_g0.2.2.2.2.2.2.2.2.2.2.2.2.2.2 h
    · refine r_aload_n hE 0 dX2_thingAt_g0.2.2.2.2.2.2.2.2.1 rfl rfl ?_
      refine cg_fr_thing hE hm fk_X2_31 dX2_thingAt_g0.2.2.2.2.2.2.2.2.2.1 ?_
      refine r_iload_n hE 1 dX2_thingAt_g0.2.2.2.2.2.2.2.2.2.2.1 rfl rfl ?_
      obtain ⟨hi, h⟩ := h
      refine cl_fr_thing hE hm dX2_thingAt_g0.2.2.2.2.2.2.2.2.2.2.2.1 hi ?_
      refine r_goto hE 27 dX2_thingAt_g0.2.2.2.2.2.2.2.2.2.2.2.2.1 (by decide) ?_
      exact c_iret hE hm dX2_thingAt_g0.2.2.2.2.2.2.2.2.2.2.2.2.2.2 h
/-! to_clear -/
def wc_to_clear (post : CS → Prop) (σ : CS) : Prop := ∀ s1 : CS, s1 = c_to_draws_s σ (0 : Int32) → ∀ s2 : CS, s2 = c_to_states_s s1 (0 : Int32) → ∀ s3 : CS, s3 = c_to_falls_s s2 (0 : Int32) → ∀ s4 : CS, s4 = c_to_steps_s s3 (0 : Int32) → ∀ s5 : CS, s5 = c_to_spent_s s4 (0 : Int32) → post s5
set_option maxRecDepth 20000 in
theorem kc_to_clear {l : Launch} {D : va_G} {G : gAd} {post : CS → Prop} {σ : CS} (h : wc_to_clear post σ) : cMet l D G yX9_clear cX9_clear 1 none 1 [.ref (G.1 1100)] σ (pV post) := by
  unfold wc_to_clear at h
  refine c_enter (own := RX9) (by decide +kernel) rfl [(0, .ref (G.1 1100))] rfl (Nat.le_of_ble_eq_true rfl) ?_
  intro E hE hm
  have hN := hm.2.2.2.2.2.2.1
  refine r_aload_n hE 0 dX9_clear_g0.1 rfl rfl ?_
  refine r_iconst (v := (0 : Int32)) hE dX9_clear_g0.2.1 (by decide) ?_
  refine cp_to_draws hE hm fk_X9_24 dX9_clear_g0.2.2.1 h (fun s1 h => ?_)
  refine r_aload_n hE 0 dX9_clear_g0.2.2.2.1 rfl rfl ?_
  refine r_iconst (v := (0 : Int32)) hE dX9_clear_g0.2.2.2.2.1 (by decide) ?_
  refine cp_to_states hE hm fk_X9_28 dX9_clear_g0.2.2.2.2.2.1 h (fun s2 h => ?_)
  refine r_aload_n hE 0 dX9_clear_g0.2.2.2.2.2.2.1 rfl rfl ?_
  refine r_iconst (v := (0 : Int32)) hE dX9_clear_g0.2.2.2.2.2.2.2.1 (by decide) ?_
  refine cp_to_falls hE hm fk_X9_31 dX9_clear_g0.2.2.2.2.2.2.2.2.1 h (fun s3 h => ?_)
  refine r_aload_n hE 0 dX9_clear_g0.2.2.2.2.2.2.2.2.2.1 rfl rfl ?_
  refine r_iconst (v := (0 : Int32)) hE dX9_clear_g0.2.2.2.2.2.2.2.2.2.2.1 (by decide) ?_
  refine cp_to_steps hE hm fk_X9_34 dX9_clear_g0.2.2.2.2.2.2.2.2.2.2.2.1 h (fun s4 h => ?_)
  refine r_aload_n hE 0 dX9_clear_g0.2.2.2.2.2.2.2.2.2.2.2.2.1 rfl rfl ?_
  refine r_iconst (v := (0 : Int32)) hE dX9_clear_g0.2.2.2.2.2.2.2.2.2.2.2.2.2.1 (by decide) ?_
  refine cp_to_spent hE hm fk_X9_37 dX9_clear_g0.2.2.2.2.2.2.2.2.2.2.2.2.2.2.1 (Or.inl rfl) h (fun s5 h => ?_)
  exact c_vret hE hm dX9_clear_g0.2.2.2.2.2.2.2.2.2.2.2.2.2.2.2 h
/-! to_goOn -/
def wc_to_goOn (post : CS → Int32 → Prop) (σ : CS) : Prop := (((c_to_steps σ) < (400 : Int32)) → (∀ s1 : CS, s1 = c_to_steps_s σ ((c_to_steps σ) + (1 : Int32)) → post s1 (1 : Int32))) ∧ ((¬ ((c_to_steps σ) < (400 : Int32))) → (∀ s2 : CS, s2 = c_to_spent_s σ (1 : Int32) → post s2 (0 : Int32)))
set_option maxRecDepth 20000 in
theorem kc_to_goOn {l : Launch} {D : va_G} {G : gAd} {post : CS → Int32 → Prop} {σ : CS} (h : wc_to_goOn post σ) : cMet l D G yX9_goOn cX9_goOn 1 (some .boolean) 1 [.ref (G.1 1100)] σ (pI post) := by
  unfold wc_to_goOn at h
  refine c_enter (own := RX9) (by decide +kernel) rfl [(0, .ref (G.1 1100))] rfl (Nat.le_of_ble_eq_true rfl) ?_
  intro E hE hm
  have hN := hm.2.2.2.2.2.2.1
  refine r_aload_n hE 0 dX9_goOn_g0.1 rfl rfl ?_
  refine cg_to_steps hE hm fk_X9_34 dX9_goOn_g0.2.1 ?_
  refine r_sipush (v := (400 : Int32)) hE dX9_goOn_g0.2.2.1 (by decide) ?_
  refine r_icmp_lt hE 17 dX9_goOn_g0.2.2.2.1 (by decide) h (fun h => ?_) (fun h => ?_)
  · refine r_aload_n hE 0 dX9_goOn_g0.2.2.2.2.2.2.2.2.2.1 rfl rfl ?_
    refine r_dup hE dX9_goOn_g0.2.2.2.2.2.2.2.2.2.2.1 rfl ?_
    refine cg_to_steps hE hm fk_X9_34 dX9_goOn_g0.2.2.2.2.2.2.2.2.2.2.2.1 ?_
    refine r_iconst (v := (1 : Int32)) hE dX9_goOn_g0.2.2.2.2.2.2.2.2.2.2.2.2.1 (by decide) ?_
    refine r_iadd hE dX9_goOn_g0.2.2.2.2.2.2.2.2.2.2.2.2.2.1 ?_
    refine cp_to_steps hE hm fk_X9_34 dX9_goOn_g0.2.2.2.2.2.2.2.2.2.2.2.2.2.2.1 h (fun s1 h => ?_)
    refine r_iconst (v := (1 : Int32)) hE dX9_goOn_g0.2.2.2.2.2.2.2.2.2.2.2.2.2.2.2 (by decide) ?_
    exact c_zret hE hm dX9_goOn_g1 (Or.inr rfl) h
  · refine r_aload_n hE 0 dX9_goOn_g0.2.2.2.2.1 rfl rfl ?_
    refine r_iconst (v := (1 : Int32)) hE dX9_goOn_g0.2.2.2.2.2.1 (by decide) ?_
    refine cp_to_spent hE hm fk_X9_37 dX9_goOn_g0.2.2.2.2.2.2.1 (Or.inr rfl) h (fun s2 h => ?_)
    refine r_iconst (v := (0 : Int32)) hE dX9_goOn_g0.2.2.2.2.2.2.2.1 (by decide) ?_
    exact c_zret hE hm dX9_goOn_g0.2.2.2.2.2.2.2.2.1 (Or.inl rfl) h
/-! to_isFullOf -/
def wc_to_isFullOf_28 (post : CS → Int32 → Prop) (σ : CS) : Prop := post σ (1 : Int32)
set_option maxRecDepth 20000 in
theorem kc_to_isFullOf_28 {E : gEnv} {l : Launch} {D : va_G} {G : gAd} {post : CS → Int32 → Prop} (hE : gOK E cX9_isFullOf RX9 (some .boolean) 1) (hm : cOK E l D G (pI post) 2) (σ : CS) (h : wc_to_isFullOf_28 post σ) : GW E (cW G σ) 28 [] [] := by
  unfold wc_to_isFullOf_28 at h
  have hN := hm.2.2.2.2.2.2.1
  refine r_iconst (v := (1 : Int32)) hE dX9_isFullOf_g0.2.2.2.2.2.2.2.2.2.2.2.2.2.2.1 (by decide) ?_
  refine r_goto hE 33 dX9_isFullOf_g0.2.2.2.2.2.2.2.2.2.2.2.2.2.2.2 (by decide) ?_
  exact c_zret hE hm dX9_isFullOf_g1.2 (Or.inr rfl) h
def wc_to_isFullOf_14 (post : CS → Int32 → Prop) (σ : CS) (v1 : Int32) : Prop := ((¬ (v1 = (4 : Int32))) → (post σ (0 : Int32))) ∧ ((v1 = (4 : Int32)) → ((((c_to_states σ) < (40 : Int32)) → (post σ (0 : Int32))) ∧ ((¬ ((c_to_states σ) < (40 : Int32))) → (wc_to_isFullOf_28 post σ))))
set_option maxRecDepth 20000 in
theorem kc_to_isFullOf_14 {E : gEnv} {l : Launch} {D : va_G} {G : gAd} {post : CS → Int32 → Prop} (hE : gOK E cX9_isFullOf RX9 (some .boolean) 1) (hm : cOK E l D G (pI post) 2) (σ : CS) (v1 : Int32) (h : wc_to_isFullOf_14 post σ v1) : GW E (cW G σ) 14 [(0, .ref (G.1 1100)), (1, .int v1)] [] := by
  unfold wc_to_isFullOf_14 at h
  have hN := hm.2.2.2.2.2.2.1
  refine r_iload_n hE 1 dX9_isFullOf_g0.2.2.2.2.2.2.2.1 rfl rfl ?_
  refine r_iconst (v := (4 : Int32)) hE dX9_isFullOf_g0.2.2.2.2.2.2.2.2.1 (by decide) ?_
  refine r_icmp_ne hE 32 dX9_isFullOf_g0.2.2.2.2.2.2.2.2.2.1 (by decide) h (fun h => ?_) (fun h => ?_)
  · refine r_iconst (v := (0 : Int32)) hE dX9_isFullOf_g1.1 (by decide) ?_
    exact c_zret hE hm dX9_isFullOf_g1.2 (Or.inl rfl) h
  · refine r_aload_n hE 0 dX9_isFullOf_g0.2.2.2.2.2.2.2.2.2.2.1 rfl rfl ?_
    refine cg_to_states hE hm fk_X9_28 dX9_isFullOf_g0.2.2.2.2.2.2.2.2.2.2.2.1 ?_
    refine r_bipush (v := (40 : Int32)) hE dX9_isFullOf_g0.2.2.2.2.2.2.2.2.2.2.2.2.1 (by decide) ?_
    refine r_icmp_lt hE 32 dX9_isFullOf_g0.2.2.2.2.2.2.2.2.2.2.2.2.2.1 (by decide) h (fun h => ?_) (fun h => ?_)
    · refine r_iconst (v := (0 : Int32)) hE dX9_isFullOf_g1.1 (by decide) ?_
      exact c_zret hE hm dX9_isFullOf_g1.2 (Or.inl rfl) h
    · refine r_pick [] rfl ?_
      exact kc_to_isFullOf_28 hE hm _ h
def wc_to_isFullOf (post : CS → Int32 → Prop) (σ : CS) (a1 : Int32) : Prop := ((¬ (a1 = (5 : Int32))) → (wc_to_isFullOf_14 post σ a1)) ∧ ((a1 = (5 : Int32)) → ((((40 : Int32) ≤ (c_to_draws σ)) → (wc_to_isFullOf_28 post σ)) ∧ ((¬ ((40 : Int32) ≤ (c_to_draws σ))) → (wc_to_isFullOf_14 post σ a1))))
set_option maxRecDepth 20000 in
theorem kc_to_isFullOf {l : Launch} {D : va_G} {G : gAd} {post : CS → Int32 → Prop} {σ : CS} {a1 : Int32} (h : wc_to_isFullOf post σ a1) : cMet l D G yX9_isFullOf cX9_isFullOf 2 (some .boolean) 1 [.ref (G.1 1100), .int a1] σ (pI post) := by
  unfold wc_to_isFullOf at h
  refine c_enter (own := RX9) (by decide +kernel) rfl [(0, .ref (G.1 1100)), (1, .int a1)] rfl (Nat.le_of_ble_eq_true rfl) ?_
  intro E hE hm
  have hN := hm.2.2.2.2.2.2.1
  refine r_iload_n hE 1 dX9_isFullOf_g0.1 rfl rfl ?_
  refine r_iconst (v := (5 : Int32)) hE dX9_isFullOf_g0.2.1 (by decide) ?_
  refine r_icmp_ne hE 14 dX9_isFullOf_g0.2.2.1 (by decide) h (fun h => ?_) (fun h => ?_)
  · exact kc_to_isFullOf_14 hE hm _ _ h
  · refine r_aload_n hE 0 dX9_isFullOf_g0.2.2.2.1 rfl rfl ?_
    refine cg_to_draws hE hm fk_X9_24 dX9_isFullOf_g0.2.2.2.2.1 ?_
    refine r_bipush (v := (40 : Int32)) hE dX9_isFullOf_g0.2.2.2.2.2.1 (by decide) ?_
    refine r_icmp_ge hE 28 dX9_isFullOf_g0.2.2.2.2.2.2.1 (by decide) h (fun h => ?_) (fun h => ?_)
    · refine r_pick [] rfl ?_
      exact kc_to_isFullOf_28 hE hm _ h
    · exact kc_to_isFullOf_14 hE hm _ _ h
/-! to_addDrawn -/
def wc_to_addDrawn (post : CS → Prop) (σ : CS) (a1 : Int32) : Prop := wc_SX12_inside (fun (s1 : CS) (r2 : Int32) => ((r2 = (0 : Int32)) → (post s1)) ∧ ((¬ (r2 = (0 : Int32))) → (vp_in (c_to_draws s1) 40 ∧ (∀ s3 : CS, s3 = c_to_drawn_s s1 (c_to_draws s1).toNatClampNeg a1 → ∀ s4 : CS, s4 = c_to_draws_s s3 ((c_to_draws s3) + (1 : Int32)) → post s4)))) σ (c_to_draws σ) (40 : Int32)
set_option maxRecDepth 20000 in
theorem kc_to_addDrawn {l : Launch} {D : va_G} {G : gAd} {post : CS → Prop} {σ : CS} {a1 : Int32} (h : wc_to_addDrawn post σ a1) : cMet l D G yX9_addDrawn cX9_addDrawn 2 none 2 [.ref (G.1 1100), .int a1] σ (pV post) := by
  unfold wc_to_addDrawn at h
  refine c_enter (own := RX9) (by decide +kernel) rfl [(0, .ref (G.1 1100)), (1, .int a1)] rfl (Nat.le_of_ble_eq_true rfl) ?_
  intro E hE hm
  have hN := hm.2.2.2.2.2.2.1
  refine r_aload_n hE 0 dX9_addDrawn_g0.1 rfl rfl ?_
  refine cg_to_draws hE hm fk_X9_24 dX9_addDrawn_g0.2.1 ?_
  refine r_bipush (v := (40 : Int32)) hE dX9_addDrawn_g0.2.2.1 (by decide) ?_
  refine c_callSNi hE hm [.int (c_to_draws σ), .int (40 : Int32)] [] ck_X9_41 cw_X9_41 (kc_SX12_inside h) (by decide) rfl rfl (Nat.le_of_ble_eq_true rfl) dX9_addDrawn_g0.2.2.2.1 (fun s1 r2 h => ?_)
  refine r_if_eq hE 32 dX9_addDrawn_g0.2.2.2.2.1 (by decide) h (fun h => ?_) (fun h => ?_)
  · exact c_vret hE hm dX9_addDrawn_g1.2 h
  · refine r_aload_n hE 0 dX9_addDrawn_g0.2.2.2.2.2.1 rfl rfl ?_
    refine cg_to_drawn hE hm fk_X9_9 dX9_addDrawn_g0.2.2.2.2.2.2.1 ?_
    refine r_aload_n hE 0 dX9_addDrawn_g0.2.2.2.2.2.2.2.1 rfl rfl ?_
    refine cg_to_draws hE hm fk_X9_24 dX9_addDrawn_g0.2.2.2.2.2.2.2.2.1 ?_
    refine r_iload_n hE 1 dX9_addDrawn_g0.2.2.2.2.2.2.2.2.2.1 rfl rfl ?_
    obtain ⟨hi, h⟩ := h
    refine cs_to_drawn hE hm dX9_addDrawn_g0.2.2.2.2.2.2.2.2.2.2.1 hi h (fun s3 h => ?_)
    refine r_aload_n hE 0 dX9_addDrawn_g0.2.2.2.2.2.2.2.2.2.2.2.1 rfl rfl ?_
    refine r_dup hE dX9_addDrawn_g0.2.2.2.2.2.2.2.2.2.2.2.2.1 rfl ?_
    refine cg_to_draws hE hm fk_X9_24 dX9_addDrawn_g0.2.2.2.2.2.2.2.2.2.2.2.2.2.1 ?_
    refine r_iconst (v := (1 : Int32)) hE dX9_addDrawn_g0.2.2.2.2.2.2.2.2.2.2.2.2.2.2.1 (by decide) ?_
    refine r_iadd hE dX9_addDrawn_g0.2.2.2.2.2.2.2.2.2.2.2.2.2.2.2 ?_
    refine cp_to_draws hE hm fk_X9_24 dX9_addDrawn_g1.1 h (fun s4 h => ?_)
    exact c_vret hE hm dX9_addDrawn_g1.2 h
/-! to_addStated -/
def wc_to_addStated (post : CS → Prop) (σ : CS) (a1 : Int32) : Prop := wc_SX12_inside (fun (s1 : CS) (r2 : Int32) => ((r2 = (0 : Int32)) → (post s1)) ∧ ((¬ (r2 = (0 : Int32))) → (vp_in (c_to_states s1) 40 ∧ (∀ s3 : CS, s3 = c_to_stated_s s1 (c_to_states s1).toNatClampNeg a1 → ∀ s4 : CS, s4 = c_to_states_s s3 ((c_to_states s3) + (1 : Int32)) → post s4)))) σ (c_to_states σ) (40 : Int32)
set_option maxRecDepth 20000 in
theorem kc_to_addStated {l : Launch} {D : va_G} {G : gAd} {post : CS → Prop} {σ : CS} {a1 : Int32} (h : wc_to_addStated post σ a1) : cMet l D G yX9_addStated cX9_addStated 2 none 2 [.ref (G.1 1100), .int a1] σ (pV post) := by
  unfold wc_to_addStated at h
  refine c_enter (own := RX9) (by decide +kernel) rfl [(0, .ref (G.1 1100)), (1, .int a1)] rfl (Nat.le_of_ble_eq_true rfl) ?_
  intro E hE hm
  have hN := hm.2.2.2.2.2.2.1
  refine r_aload_n hE 0 dX9_addStated_g0.1 rfl rfl ?_
  refine cg_to_states hE hm fk_X9_28 dX9_addStated_g0.2.1 ?_
  refine r_bipush (v := (40 : Int32)) hE dX9_addStated_g0.2.2.1 (by decide) ?_
  refine c_callSNi hE hm [.int (c_to_states σ), .int (40 : Int32)] [] ck_X9_41 cw_X9_41 (kc_SX12_inside h) (by decide) rfl rfl (Nat.le_of_ble_eq_true rfl) dX9_addStated_g0.2.2.2.1 (fun s1 r2 h => ?_)
  refine r_if_eq hE 32 dX9_addStated_g0.2.2.2.2.1 (by decide) h (fun h => ?_) (fun h => ?_)
  · exact c_vret hE hm dX9_addStated_g1.2 h
  · refine r_aload_n hE 0 dX9_addStated_g0.2.2.2.2.2.1 rfl rfl ?_
    refine cg_to_stated hE hm fk_X9_15 dX9_addStated_g0.2.2.2.2.2.2.1 ?_
    refine r_aload_n hE 0 dX9_addStated_g0.2.2.2.2.2.2.2.1 rfl rfl ?_
    refine cg_to_states hE hm fk_X9_28 dX9_addStated_g0.2.2.2.2.2.2.2.2.1 ?_
    refine r_iload_n hE 1 dX9_addStated_g0.2.2.2.2.2.2.2.2.2.1 rfl rfl ?_
    obtain ⟨hi, h⟩ := h
    refine cs_to_stated hE hm dX9_addStated_g0.2.2.2.2.2.2.2.2.2.2.1 hi h (fun s3 h => ?_)
    refine r_aload_n hE 0 dX9_addStated_g0.2.2.2.2.2.2.2.2.2.2.2.1 rfl rfl ?_
    refine r_dup hE dX9_addStated_g0.2.2.2.2.2.2.2.2.2.2.2.2.1 rfl ?_
    refine cg_to_states hE hm fk_X9_28 dX9_addStated_g0.2.2.2.2.2.2.2.2.2.2.2.2.2.1 ?_
    refine r_iconst (v := (1 : Int32)) hE dX9_addStated_g0.2.2.2.2.2.2.2.2.2.2.2.2.2.2.1 (by decide) ?_
    refine r_iadd hE dX9_addStated_g0.2.2.2.2.2.2.2.2.2.2.2.2.2.2.2 ?_
    refine cp_to_states hE hm fk_X9_28 dX9_addStated_g1.1 h (fun s4 h => ?_)
    exact c_vret hE hm dX9_addStated_g1.2 h
/-! to_addFall -/
def wc_to_addFall_61 (post : CS → Prop) (σ : CS) (t1 : Int32) (t2 : Int32) : Prop := isB (t1 ||| t2) ∧ (∀ s1 : CS, s1 = c_to_spent_s σ (t1 ||| t2) → post s1)
set_option maxRecDepth 20000 in
theorem kc_to_addFall_61 {E : gEnv} {l : Launch} {D : va_G} {G : gAd} {post : CS → Prop} (hE : gOK E cX9_addFall RX9 none 2) (hm : cOK E l D G (pV post) 3) (σ : CS) (t1 : Int32) (t2 : Int32) (h : wc_to_addFall_61 post σ t1 t2) : GW E (cW G σ) 61 [] [.int t2, .int t1, .ref (G.1 1100)] := by
  unfold wc_to_addFall_61 at h
  have hN := hm.2.2.2.2.2.2.1
  refine r_ior hE dX9_addFall_g2.2.1 ?_
  obtain ⟨hb, h⟩ := h
  refine cp_to_spent hE hm fk_X9_37 dX9_addFall_g2.2.2.1 hb h (fun s1 h => ?_)
  exact c_vret hE hm dX9_addFall_g2.2.2.2 h
def wc_to_addFall_42 (post : CS → Prop) (σ : CS) : Prop := (((c_to_falls σ) < (12 : Int32)) → (wc_to_addFall_61 post σ (c_to_spent σ) (0 : Int32))) ∧ ((¬ ((c_to_falls σ) < (12 : Int32))) → (wc_to_addFall_61 post σ (c_to_spent σ) (1 : Int32)))
set_option maxRecDepth 20000 in
theorem kc_to_addFall_42 {E : gEnv} {l : Launch} {D : va_G} {G : gAd} {post : CS → Prop} (hE : gOK E cX9_addFall RX9 none 2) (hm : cOK E l D G (pV post) 3) (σ : CS) (h : wc_to_addFall_42 post σ) : GW E (cW G σ) 42 [(0, .ref (G.1 1100))] [] := by
  unfold wc_to_addFall_42 at h
  have hN := hm.2.2.2.2.2.2.1
  refine r_aload_n hE 0 dX9_addFall_g1.2.2.2.2.2.2.2.1 rfl rfl ?_
  refine r_dup hE dX9_addFall_g1.2.2.2.2.2.2.2.2.1 rfl ?_
  refine cg_to_spent hE hm fk_X9_37 dX9_addFall_g1.2.2.2.2.2.2.2.2.2.1 ?_
  refine r_aload_n hE 0 dX9_addFall_g1.2.2.2.2.2.2.2.2.2.2.1 rfl rfl ?_
  refine cg_to_falls hE hm fk_X9_31 dX9_addFall_g1.2.2.2.2.2.2.2.2.2.2.2.1 ?_
  refine r_bipush (v := (12 : Int32)) hE dX9_addFall_g1.2.2.2.2.2.2.2.2.2.2.2.2.1 (by decide) ?_
  refine r_icmp_lt hE 60 dX9_addFall_g1.2.2.2.2.2.2.2.2.2.2.2.2.2.1 (by decide) h (fun h => ?_) (fun h => ?_)
  · refine r_iconst (v := (0 : Int32)) hE dX9_addFall_g2.1 (by decide) ?_
    refine r_pick [] rfl ?_
    exact kc_to_addFall_61 hE hm _ _ _ h
  · refine r_iconst (v := (1 : Int32)) hE dX9_addFall_g1.2.2.2.2.2.2.2.2.2.2.2.2.2.2.1 (by decide) ?_
    refine r_goto hE 61 dX9_addFall_g1.2.2.2.2.2.2.2.2.2.2.2.2.2.2.2 (by decide) ?_
    refine r_pick [] rfl ?_
    exact kc_to_addFall_61 hE hm _ _ _ h
def wc_to_addFall (post : CS → Prop) (σ : CS) (a1 : Int32) (a2 : Int32) : Prop := wc_SX12_inside (fun (s2 : CS) (r3 : Int32) => ((r3 = (0 : Int32)) → (wc_to_addFall_42 post s2)) ∧ ((¬ (r3 = (0 : Int32))) → (vp_in (c_to_falls s2) 12 ∧ (∀ s4 : CS, s4 = c_to_failures_s s2 (c_to_falls s2).toNatClampNeg a1 → vp_in (c_to_falls s4) 12 ∧ (∀ s5 : CS, s5 = c_to_bytes_s s4 (c_to_falls s4).toNatClampNeg a2 → ∀ s6 : CS, s6 = c_to_falls_s s5 ((c_to_falls s5) + (1 : Int32)) → wc_to_addFall_42 post s6))))) σ (c_to_falls σ) (12 : Int32)
set_option maxRecDepth 20000 in
theorem kc_to_addFall {l : Launch} {D : va_G} {G : gAd} {post : CS → Prop} {σ : CS} {a1 : Int32} {a2 : Int32} (h : wc_to_addFall post σ a1 a2) : cMet l D G yX9_addFall cX9_addFall 3 none 2 [.ref (G.1 1100), .int a1, .int a2] σ (pV post) := by
  unfold wc_to_addFall at h
  refine c_enter (own := RX9) (by decide +kernel) rfl [(0, .ref (G.1 1100)), (1, .int a1), (2, .int a2)] rfl (Nat.le_of_ble_eq_true rfl) ?_
  intro E hE hm
  have hN := hm.2.2.2.2.2.2.1
  refine r_aload_n hE 0 dX9_addFall_g0.1 rfl rfl ?_
  refine cg_to_falls hE hm fk_X9_31 dX9_addFall_g0.2.1 ?_
  refine r_bipush (v := (12 : Int32)) hE dX9_addFall_g0.2.2.1 (by decide) ?_
  refine c_callSNi hE hm [.int (c_to_falls σ), .int (12 : Int32)] [] ck_X9_41 cw_X9_41 (kc_SX12_inside h) (by decide) rfl rfl (Nat.le_of_ble_eq_true rfl) dX9_addFall_g0.2.2.2.1 (fun s2 r3 h => ?_)
  refine r_if_eq hE 42 dX9_addFall_g0.2.2.2.2.1 (by decide) h (fun h => ?_) (fun h => ?_)
  · refine r_pick [0] rfl ?_
    exact kc_to_addFall_42 hE hm _ h
  · refine r_aload_n hE 0 dX9_addFall_g0.2.2.2.2.2.1 rfl rfl ?_
    refine cg_to_failures hE hm fk_X9_18 dX9_addFall_g0.2.2.2.2.2.2.1 ?_
    refine r_aload_n hE 0 dX9_addFall_g0.2.2.2.2.2.2.2.1 rfl rfl ?_
    refine cg_to_falls hE hm fk_X9_31 dX9_addFall_g0.2.2.2.2.2.2.2.2.1 ?_
    refine r_iload_n hE 1 dX9_addFall_g0.2.2.2.2.2.2.2.2.2.1 rfl rfl ?_
    obtain ⟨hi, h⟩ := h
    refine cs_to_failures hE hm dX9_addFall_g0.2.2.2.2.2.2.2.2.2.2.1 hi h (fun s4 h => ?_)
    refine r_aload_n hE 0 dX9_addFall_g0.2.2.2.2.2.2.2.2.2.2.2.1 rfl rfl ?_
    refine cg_to_bytes hE hm fk_X9_21 dX9_addFall_g0.2.2.2.2.2.2.2.2.2.2.2.2.1 ?_
    refine r_aload_n hE 0 dX9_addFall_g0.2.2.2.2.2.2.2.2.2.2.2.2.2.1 rfl rfl ?_
    refine cg_to_falls hE hm fk_X9_31 dX9_addFall_g0.2.2.2.2.2.2.2.2.2.2.2.2.2.2.1 ?_
    refine r_iload_n hE 2 dX9_addFall_g0.2.2.2.2.2.2.2.2.2.2.2.2.2.2.2 rfl rfl ?_
    obtain ⟨hi, h⟩ := h
    refine cs_to_bytes hE hm dX9_addFall_g1.1 hi h (fun s5 h => ?_)
    refine r_aload_n hE 0 dX9_addFall_g1.2.1 rfl rfl ?_
    refine r_dup hE dX9_addFall_g1.2.2.1 rfl ?_
    refine cg_to_falls hE hm fk_X9_31 dX9_addFall_g1.2.2.2.1 ?_
    refine r_iconst (v := (1 : Int32)) hE dX9_addFall_g1.2.2.2.2.1 (by decide) ?_
    refine r_iadd hE dX9_addFall_g1.2.2.2.2.2.1 ?_
    refine cp_to_falls hE hm fk_X9_31 dX9_addFall_g1.2.2.2.2.2.2.1 h (fun s6 h => ?_)
    refine r_pick [0] rfl ?_
    exact kc_to_addFall_42 hE hm _ h
/-! to_drawnAt -/
def wc_to_drawnAt (post : CS → Int32 → Prop) (σ : CS) (a1 : Int32) : Prop := wc_SX12_inside (fun (s1 : CS) (r2 : Int32) => ((r2 = (0 : Int32)) → (post s1 (-1 : Int32))) ∧ ((¬ (r2 = (0 : Int32))) → ((((40 : Int32) ≤ a1) → (post s1 (-1 : Int32))) ∧ ((¬ ((40 : Int32) ≤ a1)) → (vp_in a1 40 ∧ (post s1 (c_to_drawn s1 a1.toNatClampNeg))))))) σ a1 (c_to_draws σ)
set_option maxRecDepth 20000 in
theorem kc_to_drawnAt {l : Launch} {D : va_G} {G : gAd} {post : CS → Int32 → Prop} {σ : CS} {a1 : Int32} (h : wc_to_drawnAt post σ a1) : cMet l D G yX9_drawnAt cX9_drawnAt 2 (some .int) 2 [.ref (G.1 1100), .int a1] σ (pI post) := by
  unfold wc_to_drawnAt at h
  refine c_enter (own := RX9) (by decide +kernel) rfl [(0, .ref (G.1 1100)), (1, .int a1)] rfl (Nat.le_of_ble_eq_true rfl) ?_
  intro E hE hm
  have hN := hm.2.2.2.2.2.2.1
  refine r_iload_n hE 1 dX9_drawnAt_g0.1 rfl rfl ?_
  refine r_aload_n hE 0 dX9_drawnAt_g0.2.1 rfl rfl ?_
  refine cg_to_draws hE hm fk_X9_24 dX9_drawnAt_g0.2.2.1 ?_
  refine c_callSNi hE hm [.int a1, .int (c_to_draws σ)] [] ck_X9_41 cw_X9_41 (kc_SX12_inside h) (by decide) rfl rfl (Nat.le_of_ble_eq_true rfl) dX9_drawnAt_g0.2.2.2.1 (fun s1 r2 h => ?_)
  refine r_if_eq hE 26 dX9_drawnAt_g0.2.2.2.2.1 (by decide) h (fun h => ?_) (fun h => ?_)
  · refine r_iconst (v := (-1 : Int32)) hE dX9_drawnAt_g0.2.2.2.2.2.2.2.2.2.2.2.2.2.1 (by decide) ?_
    exact c_iret hE hm dX9_drawnAt_g0.2.2.2.2.2.2.2.2.2.2.2.2.2.2 h
  · refine r_iload_n hE 1 dX9_drawnAt_g0.2.2.2.2.2.1 rfl rfl ?_
    refine r_bipush (v := (40 : Int32)) hE dX9_drawnAt_g0.2.2.2.2.2.2.1 (by decide) ?_
    refine r_icmp_ge hE 26 dX9_drawnAt_g0.2.2.2.2.2.2.2.1 (by decide) h (fun h => ?_) (fun h => ?_)
    · refine r_iconst (v := (-1 : Int32)) hE dX9_drawnAt_g0.2.2.2.2.2.2.2.2.2.2.2.2.2.1 (by decide) ?_
      exact c_iret hE hm dX9_drawnAt_g0.2.2.2.2.2.2.2.2.2.2.2.2.2.2 h
    · refine r_aload_n hE 0 dX9_drawnAt_g0.2.2.2.2.2.2.2.2.1 rfl rfl ?_
      refine cg_to_drawn hE hm fk_X9_9 dX9_drawnAt_g0.2.2.2.2.2.2.2.2.2.1 ?_
      refine r_iload_n hE 1 dX9_drawnAt_g0.2.2.2.2.2.2.2.2.2.2.1 rfl rfl ?_
      obtain ⟨hi, h⟩ := h
      refine cl_to_drawn hE hm dX9_drawnAt_g0.2.2.2.2.2.2.2.2.2.2.2.1 hi ?_
      refine r_goto hE 27 dX9_drawnAt_g0.2.2.2.2.2.2.2.2.2.2.2.2.1 (by decide) ?_
      exact c_iret hE hm dX9_drawnAt_g0.2.2.2.2.2.2.2.2.2.2.2.2.2.2 h
/-! to_statedAt -/
def wc_to_statedAt (post : CS → Int32 → Prop) (σ : CS) (a1 : Int32) : Prop := wc_SX12_inside (fun (s1 : CS) (r2 : Int32) => ((r2 = (0 : Int32)) → (post s1 (-1 : Int32))) ∧ ((¬ (r2 = (0 : Int32))) → ((((40 : Int32) ≤ a1) → (post s1 (-1 : Int32))) ∧ ((¬ ((40 : Int32) ≤ a1)) → (vp_in a1 40 ∧ (post s1 (c_to_stated s1 a1.toNatClampNeg))))))) σ a1 (c_to_states σ)
set_option maxRecDepth 20000 in
theorem kc_to_statedAt {l : Launch} {D : va_G} {G : gAd} {post : CS → Int32 → Prop} {σ : CS} {a1 : Int32} (h : wc_to_statedAt post σ a1) : cMet l D G yX9_statedAt cX9_statedAt 2 (some .int) 2 [.ref (G.1 1100), .int a1] σ (pI post) := by
  unfold wc_to_statedAt at h
  refine c_enter (own := RX9) (by decide +kernel) rfl [(0, .ref (G.1 1100)), (1, .int a1)] rfl (Nat.le_of_ble_eq_true rfl) ?_
  intro E hE hm
  have hN := hm.2.2.2.2.2.2.1
  refine r_iload_n hE 1 dX9_statedAt_g0.1 rfl rfl ?_
  refine r_aload_n hE 0 dX9_statedAt_g0.2.1 rfl rfl ?_
  refine cg_to_states hE hm fk_X9_28 dX9_statedAt_g0.2.2.1 ?_
  refine c_callSNi hE hm [.int a1, .int (c_to_states σ)] [] ck_X9_41 cw_X9_41 (kc_SX12_inside h) (by decide) rfl rfl (Nat.le_of_ble_eq_true rfl) dX9_statedAt_g0.2.2.2.1 (fun s1 r2 h => ?_)
  refine r_if_eq hE 26 dX9_statedAt_g0.2.2.2.2.1 (by decide) h (fun h => ?_) (fun h => ?_)
  · refine r_iconst (v := (-1 : Int32)) hE dX9_statedAt_g0.2.2.2.2.2.2.2.2.2.2.2.2.2.1 (by decide) ?_
    exact c_iret hE hm dX9_statedAt_g0.2.2.2.2.2.2.2.2.2.2.2.2.2.2 h
  · refine r_iload_n hE 1 dX9_statedAt_g0.2.2.2.2.2.1 rfl rfl ?_
    refine r_bipush (v := (40 : Int32)) hE dX9_statedAt_g0.2.2.2.2.2.2.1 (by decide) ?_
    refine r_icmp_ge hE 26 dX9_statedAt_g0.2.2.2.2.2.2.2.1 (by decide) h (fun h => ?_) (fun h => ?_)
    · refine r_iconst (v := (-1 : Int32)) hE dX9_statedAt_g0.2.2.2.2.2.2.2.2.2.2.2.2.2.1 (by decide) ?_
      exact c_iret hE hm dX9_statedAt_g0.2.2.2.2.2.2.2.2.2.2.2.2.2.2 h
    · refine r_aload_n hE 0 dX9_statedAt_g0.2.2.2.2.2.2.2.2.1 rfl rfl ?_
      refine cg_to_stated hE hm fk_X9_15 dX9_statedAt_g0.2.2.2.2.2.2.2.2.2.1 ?_
      refine r_iload_n hE 1 dX9_statedAt_g0.2.2.2.2.2.2.2.2.2.2.1 rfl rfl ?_
      obtain ⟨hi, h⟩ := h
      refine cl_to_stated hE hm dX9_statedAt_g0.2.2.2.2.2.2.2.2.2.2.2.1 hi ?_
      refine r_goto hE 27 dX9_statedAt_g0.2.2.2.2.2.2.2.2.2.2.2.2.1 (by decide) ?_
      exact c_iret hE hm dX9_statedAt_g0.2.2.2.2.2.2.2.2.2.2.2.2.2.2 h
/-! ru_hold -/
def wc_ru_hold (post : CS → Prop) (σ : CS) (a1 : Int32) (a2 : Int32) : Prop := ∀ x1 : Int32, x1 = ((c_ru_frame σ) * (20 : Int32)) + a1 → wc_SX12_inside (fun (s2 : CS) (r3 : Int32) => ((r3 = (0 : Int32)) → (post s2)) ∧ ((¬ (r3 = (0 : Int32))) → (wc_SX12_inside (fun (s4 : CS) (r5 : Int32) => ((r5 = (0 : Int32)) → (post s4)) ∧ ((¬ (r5 = (0 : Int32))) → (vp_in x1 180 ∧ (∀ s6 : CS, s6 = c_ru_holds_s s4 x1.toNatClampNeg a2 → post s6)))) s2 x1 (180 : Int32)))) σ a1 (20 : Int32)
set_option maxRecDepth 20000 in
theorem kc_ru_hold {l : Launch} {D : va_G} {G : gAd} {post : CS → Prop} {σ : CS} {a1 : Int32} {a2 : Int32} (h : wc_ru_hold post σ a1 a2) : cMet l D G yX7_hold cX7_hold 4 none 2 [.ref (G.1 1200), .int a1, .int a2] σ (pV post) := by
  unfold wc_ru_hold at h
  refine c_enter (own := RX7) (by decide +kernel) rfl [(0, .ref (G.1 1200)), (1, .int a1), (2, .int a2)] rfl (Nat.le_of_ble_eq_true rfl) ?_
  intro E hE hm
  have hN := hm.2.2.2.2.2.2.1
  refine r_aload_n hE 0 dX7_hold_g0.1 rfl rfl ?_
  refine cg_ru_frame hE hm fk_X7_41 dX7_hold_g0.2.1 ?_
  refine r_bipush (v := (20 : Int32)) hE dX7_hold_g0.2.2.1 (by decide) ?_
  refine r_imul hE dX7_hold_g0.2.2.2.1 ?_
  refine r_iload_n hE 1 dX7_hold_g0.2.2.2.2.1 rfl rfl ?_
  refine r_iadd hE dX7_hold_g0.2.2.2.2.2.1 ?_
  refine r_topi h (fun x1 ex1 h => ?_)
  refine r_istore_n hE [(3, .int x1), (0, .ref (G.1 1200)), (1, .int a1), (2, .int a2)] dX7_hold_g0.2.2.2.2.2.2.1 rfl hN (by decide) rfl ?_
  refine r_iload_n hE 2 dX7_hold_g0.2.2.2.2.2.2.2.1 rfl rfl ?_
  refine r_bipush (v := (20 : Int32)) hE dX7_hold_g0.2.2.2.2.2.2.2.2.1 (by decide) ?_
  refine c_callSNi hE hm [.int a1, .int (20 : Int32)] [] ck_X7_92 cw_X7_92 (kc_SX12_inside h) (by decide) rfl rfl (Nat.le_of_ble_eq_true rfl) dX7_hold_g0.2.2.2.2.2.2.2.2.2.1 (fun s2 r3 h => ?_)
  refine r_if_eq hE 38 dX7_hold_g0.2.2.2.2.2.2.2.2.2.2.1 (by decide) h (fun h => ?_) (fun h => ?_)
  · exact c_vret hE hm dX7_hold_g1.2.2.2.2.2.2 h
  · refine r_iload_n hE 0 dX7_hold_g0.2.2.2.2.2.2.2.2.2.2.2.1 rfl rfl ?_
    refine r_aload_n hE 1 dX7_hold_g0.2.2.2.2.2.2.2.2.2.2.2.2.1 rfl rfl ?_
    refine cg_ru_holds hE hm fk_X7_38 dX7_hold_g0.2.2.2.2.2.2.2.2.2.2.2.2.2.1 ?_
    refine cn_ru_holds hE hm dX7_hold_g0.2.2.2.2.2.2.2.2.2.2.2.2.2.2.1 ?_
    refine c_callSNi hE hm [.int x1, .int (180 : Int32)] [] ck_X7_92 cw_X7_92 (kc_SX12_inside h) (by decide) rfl rfl (Nat.le_of_ble_eq_true rfl) dX7_hold_g0.2.2.2.2.2.2.2.2.2.2.2.2.2.2.2 (fun s4 r5 h => ?_)
    refine r_if_eq hE 38 dX7_hold_g1.1 (by decide) h (fun h => ?_) (fun h => ?_)
    · exact c_vret hE hm dX7_hold_g1.2.2.2.2.2.2 h
    · refine r_aload_n hE 1 dX7_hold_g1.2.1 rfl rfl ?_
      refine cg_ru_holds hE hm fk_X7_38 dX7_hold_g1.2.2.1 ?_
      refine r_iload_n hE 0 dX7_hold_g1.2.2.2.1 rfl rfl ?_
      refine r_iload_n hE 3 dX7_hold_g1.2.2.2.2.1 rfl rfl ?_
      obtain ⟨hi, h⟩ := h
      refine cs_ru_holds hE hm dX7_hold_g1.2.2.2.2.2.1 hi h (fun s6 h => ?_)
      exact c_vret hE hm dX7_hold_g1.2.2.2.2.2.2 h
/-! ru_emptyNames -/
def wc_ru_emptyNames_2 (post : CS → Prop) : Nat → CS → Int32 → Prop
  | 0, _, _ => False
  | n + 1, σ, v1 => (((20 : Int32) ≤ v1) → (post σ)) ∧ ((¬ ((20 : Int32) ≤ v1)) → (wc_ru_hold (fun (s1 : CS) => ∀ x2 : Int32, x2 = v1 + (1 : Int32) → wc_ru_emptyNames_2 post n s1 x2) σ v1 (-1 : Int32)))
set_option maxRecDepth 20000 in
theorem kc_ru_emptyNames_2 {E : gEnv} {l : Launch} {D : va_G} {G : gAd} {post : CS → Prop} (hE : gOK E cX7_emptyNames RX7 none 3) (hm : cOK E l D G (pV post) 2) : ∀ (n : Nat) (σ : CS) (v1 : Int32), wc_ru_emptyNames_2 post n σ v1 → GW E (cW G σ) 2 [(0, .ref (G.1 1200)), (1, .int v1)] [] := by
  intro n
  induction n with
  | zero => intro σ v1 h; exact h.elim
  | succ n ih =>
    intro σ v1 h
    rw [wc_ru_emptyNames_2] at h
    have hN := hm.2.2.2.2.2.2.1
    refine r_iload_n hE 1 dX7_emptyNames_g0.2.2.1 rfl rfl ?_
    refine r_bipush (v := (20 : Int32)) hE dX7_emptyNames_g0.2.2.2.1 (by decide) ?_
    refine r_icmp_ge hE 20 dX7_emptyNames_g0.2.2.2.2.1 (by decide) h (fun h => ?_) (fun h => ?_)
    · exact c_vret hE hm dX7_emptyNames_g0.2.2.2.2.2.2.2.2.2.2.2 h
    · refine r_aload_n hE 0 dX7_emptyNames_g0.2.2.2.2.2.1 rfl rfl ?_
      refine r_iload_n hE 1 dX7_emptyNames_g0.2.2.2.2.2.2.1 rfl rfl ?_
      refine r_iconst (v := (-1 : Int32)) hE dX7_emptyNames_g0.2.2.2.2.2.2.2.1 (by decide) ?_
      refine c_callVv hE hm [.int v1, .int (-1 : Int32)] [] ck_X7_127 (cr_ru hm rfl) (kc_ru_hold h) (by decide) rfl rfl (Nat.le_of_ble_eq_true rfl) dX7_emptyNames_g0.2.2.2.2.2.2.2.2.1 (fun s1 h => ?_)
      obtain ⟨x2, ex2⟩ : ∃ z : Int32, z = v1 + (1 : Int32) := ⟨_, rfl⟩
      have h := h x2 ex2
      refine r_iinc (v := x2) hE [(1, .int x2), (0, .ref (G.1 1200))] 1 dX7_emptyNames_g0.2.2.2.2.2.2.2.2.2.1 rfl (by rw [ex2]; rfl) hN (by decide) rfl ?_
      refine r_goto hE 2 dX7_emptyNames_g0.2.2.2.2.2.2.2.2.2.2.1 (by decide) ?_
      refine r_pick [1, 0] rfl ?_
      exact ih _ _ h
def wc_ru_emptyNames (post : CS → Prop) (σ : CS) : Prop := ∃ k : Nat, wc_ru_emptyNames_2 post k σ (0 : Int32)
set_option maxRecDepth 20000 in
theorem kc_ru_emptyNames {l : Launch} {D : va_G} {G : gAd} {post : CS → Prop} {σ : CS} (h : wc_ru_emptyNames post σ) : cMet l D G yX7_emptyNames cX7_emptyNames 2 none 3 [.ref (G.1 1200)] σ (pV post) := by
  unfold wc_ru_emptyNames at h
  refine c_enter (own := RX7) (by decide +kernel) rfl [(0, .ref (G.1 1200))] rfl (Nat.le_of_ble_eq_true rfl) ?_
  intro E hE hm
  have hN := hm.2.2.2.2.2.2.1
  refine r_iconst (v := (0 : Int32)) hE dX7_emptyNames_g0.1 (by decide) ?_
  refine r_istore_n hE [(1, .int (0 : Int32)), (0, .ref (G.1 1200))] dX7_emptyNames_g0.2.1 rfl hN (by decide) rfl ?_
  refine r_pick [1, 0] rfl ?_
  obtain ⟨k, h⟩ := h
  exact kc_ru_emptyNames_2 hE hm k _ _ h
/-! ru_heldBy -/
def wc_ru_heldBy (post : CS → Int32 → Prop) (σ : CS) (a1 : Int32) : Prop := ∀ x1 : Int32, x1 = ((c_ru_frame σ) * (20 : Int32)) + a1 → wc_SX12_inside (fun (s2 : CS) (r3 : Int32) => ((r3 = (0 : Int32)) → (post s2 (-1 : Int32))) ∧ ((¬ (r3 = (0 : Int32))) → (wc_SX12_inside (fun (s4 : CS) (r5 : Int32) => ((r5 = (0 : Int32)) → (post s4 (-1 : Int32))) ∧ ((¬ (r5 = (0 : Int32))) → (vp_in x1 180 ∧ (post s4 (c_ru_holds s4 x1.toNatClampNeg))))) s2 x1 (180 : Int32)))) σ a1 (20 : Int32)
set_option maxRecDepth 20000 in
theorem kc_ru_heldBy {l : Launch} {D : va_G} {G : gAd} {post : CS → Int32 → Prop} {σ : CS} {a1 : Int32} (h : wc_ru_heldBy post σ a1) : cMet l D G yX7_heldBy cX7_heldBy 3 (some .int) 2 [.ref (G.1 1200), .int a1] σ (pI post) := by
  unfold wc_ru_heldBy at h
  refine c_enter (own := RX7) (by decide +kernel) rfl [(0, .ref (G.1 1200)), (1, .int a1)] rfl (Nat.le_of_ble_eq_true rfl) ?_
  intro E hE hm
  have hN := hm.2.2.2.2.2.2.1
  refine r_aload_n hE 0 dX7_heldBy_g0.1 rfl rfl ?_
  refine cg_ru_frame hE hm fk_X7_41 dX7_heldBy_g0.2.1 ?_
  refine r_bipush (v := (20 : Int32)) hE dX7_heldBy_g0.2.2.1 (by decide) ?_
  refine r_imul hE dX7_heldBy_g0.2.2.2.1 ?_
  refine r_iload_n hE 1 dX7_heldBy_g0.2.2.2.2.1 rfl rfl ?_
  refine r_iadd hE dX7_heldBy_g0.2.2.2.2.2.1 ?_
  refine r_topi h (fun x1 ex1 h => ?_)
  refine r_istore_n hE [(2, .int x1), (0, .ref (G.1 1200)), (1, .int a1)] dX7_heldBy_g0.2.2.2.2.2.2.1 rfl hN (by decide) rfl ?_
  refine r_iload_n hE 2 dX7_heldBy_g0.2.2.2.2.2.2.2.1 rfl rfl ?_
  refine r_bipush (v := (20 : Int32)) hE dX7_heldBy_g0.2.2.2.2.2.2.2.2.1 (by decide) ?_
  refine c_callSNi hE hm [.int a1, .int (20 : Int32)] [] ck_X7_92 cw_X7_92 (kc_SX12_inside h) (by decide) rfl rfl (Nat.le_of_ble_eq_true rfl) dX7_heldBy_g0.2.2.2.2.2.2.2.2.2.1 (fun s2 r3 h => ?_)
  refine r_if_eq hE 40 dX7_heldBy_g0.2.2.2.2.2.2.2.2.2.2.1 (by decide) h (fun h => ?_) (fun h => ?_)
  · refine r_iconst (v := (-1 : Int32)) hE dX7_heldBy_g1.2.2.2.2.2.2.1 (by decide) ?_
    exact c_iret hE hm dX7_heldBy_g1.2.2.2.2.2.2.2 h
  · refine r_iload_n hE 0 dX7_heldBy_g0.2.2.2.2.2.2.2.2.2.2.2.1 rfl rfl ?_
    refine r_aload_n hE 1 dX7_heldBy_g0.2.2.2.2.2.2.2.2.2.2.2.2.1 rfl rfl ?_
    refine cg_ru_holds hE hm fk_X7_38 dX7_heldBy_g0.2.2.2.2.2.2.2.2.2.2.2.2.2.1 ?_
    refine cn_ru_holds hE hm dX7_heldBy_g0.2.2.2.2.2.2.2.2.2.2.2.2.2.2.1 ?_
    refine c_callSNi hE hm [.int x1, .int (180 : Int32)] [] ck_X7_92 cw_X7_92 (kc_SX12_inside h) (by decide) rfl rfl (Nat.le_of_ble_eq_true rfl) dX7_heldBy_g0.2.2.2.2.2.2.2.2.2.2.2.2.2.2.2 (fun s4 r5 h => ?_)
    refine r_if_eq hE 40 dX7_heldBy_g1.1 (by decide) h (fun h => ?_) (fun h => ?_)
    · refine r_iconst (v := (-1 : Int32)) hE dX7_heldBy_g1.2.2.2.2.2.2.1 (by decide) ?_
      exact c_iret hE hm dX7_heldBy_g1.2.2.2.2.2.2.2 h
    · refine r_aload_n hE 1 dX7_heldBy_g1.2.1 rfl rfl ?_
      refine cg_ru_holds hE hm fk_X7_38 dX7_heldBy_g1.2.2.1 ?_
      refine r_iload_n hE 0 dX7_heldBy_g1.2.2.2.1 rfl rfl ?_
      obtain ⟨hi, h⟩ := h
      refine cl_ru_holds hE hm dX7_heldBy_g1.2.2.2.2.1 hi ?_
      refine r_goto hE 41 dX7_heldBy_g1.2.2.2.2.2.1 (by decide) ?_
      exact c_iret hE hm dX7_heldBy_g1.2.2.2.2.2.2.2 h
/-! ru_push -/
def wc_ru_push (post : CS → Prop) (σ : CS) (a1 : Int32) : Prop := wc_SX12_inside (fun (s1 : CS) (r2 : Int32) => ((¬ (r2 = (0 : Int32))) → (∀ s3 : CS, s3 = c_ru_top_s s1 ((c_ru_top s1) + (1 : Int32)) → vp_in (c_ru_top s3) 401 ∧ (∀ s4 : CS, s4 = c_ru_node_s s3 (c_ru_top s3).toNatClampNeg a1 → c_ru_figure s4 = 300 ∧ (wc_fg_firstOf (fun (s5 : CS) (r6 : Int32) => vp_in (c_ru_top s4) 401 ∧ (∀ s7 : CS, s7 = c_ru_cursor_s s5 (c_ru_top s4).toNatClampNeg r6 → vp_in (c_ru_top s7) 401 ∧ (∀ s8 : CS, s8 = c_ru_floor_s s7 (c_ru_top s7).toNatClampNeg (c_ru_values s7) → vp_in (c_ru_top s8) 401 ∧ (∀ s9 : CS, s9 = c_ru_inBlock_s s8 (c_ru_top s8).toNatClampNeg (0 : Int32) → vp_in (c_ru_top s9) 401 ∧ (∀ s10 : CS, s10 = c_ru_turns_s s9 (c_ru_top s9).toNatClampNeg (0 : Int32) → post s10))))) s4 a1)))) ∧ ((r2 = (0 : Int32)) → (∀ s11 : CS, s11 = c_to_spent_s s1 (1 : Int32) → post s11))) σ ((c_ru_top σ) + (1 : Int32)) (401 : Int32)
set_option maxRecDepth 20000 in
theorem kc_ru_push {l : Launch} {D : va_G} {G : gAd} {post : CS → Prop} {σ : CS} {a1 : Int32} (h : wc_ru_push post σ a1) : cMet l D G yX7_push cX7_push 2 none 2 [.ref (G.1 1200), .int a1] σ (pV post) := by
  unfold wc_ru_push at h
  refine c_enter (own := RX7) (by decide +kernel) rfl [(0, .ref (G.1 1200)), (1, .int a1)] rfl (Nat.le_of_ble_eq_true rfl) ?_
  intro E hE hm
  have hN := hm.2.2.2.2.2.2.1
  refine r_aload_n hE 0 dX7_push_g0.1 rfl rfl ?_
  refine cg_ru_top hE hm fk_X7_28 dX7_push_g0.2.1 ?_
  refine r_iconst (v := (1 : Int32)) hE dX7_push_g0.2.2.1 (by decide) ?_
  refine r_iadd hE dX7_push_g0.2.2.2.1 ?_
  refine r_sipush (v := (401 : Int32)) hE dX7_push_g0.2.2.2.2.1 (by decide) ?_
  refine c_callSNi hE hm [.int ((c_ru_top σ) + (1 : Int32)), .int (401 : Int32)] [] ck_X7_92 cw_X7_92 (kc_SX12_inside h) (by decide) rfl rfl (Nat.le_of_ble_eq_true rfl) dX7_push_g0.2.2.2.2.2.1 (fun s1 r2 h => ?_)
  refine r_if_ne hE 24 dX7_push_g0.2.2.2.2.2.2.1 (by decide) h (fun h => ?_) (fun h => ?_)
  · refine r_aload_n hE 0 dX7_push_g0.2.2.2.2.2.2.2.2.2.2.2.2.1 rfl rfl ?_
    refine r_dup hE dX7_push_g0.2.2.2.2.2.2.2.2.2.2.2.2.2.1 rfl ?_
    refine cg_ru_top hE hm fk_X7_28 dX7_push_g0.2.2.2.2.2.2.2.2.2.2.2.2.2.2.1 ?_
    refine r_iconst (v := (1 : Int32)) hE dX7_push_g0.2.2.2.2.2.2.2.2.2.2.2.2.2.2.2 (by decide) ?_
    refine r_iadd hE dX7_push_g1.1 ?_
    refine cp_ru_top hE hm fk_X7_28 dX7_push_g1.2.1 h (fun s3 h => ?_)
    refine r_aload_n hE 0 dX7_push_g1.2.2.1 rfl rfl ?_
    refine cg_ru_node hE hm fk_X7_11 dX7_push_g1.2.2.2.1 ?_
    refine r_aload_n hE 0 dX7_push_g1.2.2.2.2.1 rfl rfl ?_
    refine cg_ru_top hE hm fk_X7_28 dX7_push_g1.2.2.2.2.2.1 ?_
    refine r_iload_n hE 1 dX7_push_g1.2.2.2.2.2.2.1 rfl rfl ?_
    obtain ⟨hi, h⟩ := h
    refine cs_ru_node hE hm dX7_push_g1.2.2.2.2.2.2.2.1 hi h (fun s4 h => ?_)
    refine r_aload_n hE 0 dX7_push_g1.2.2.2.2.2.2.2.2.1 rfl rfl ?_
    refine cg_ru_cursor hE hm fk_X7_15 dX7_push_g1.2.2.2.2.2.2.2.2.2.1 ?_
    refine r_aload_n hE 0 dX7_push_g1.2.2.2.2.2.2.2.2.2.2.1 rfl rfl ?_
    refine cg_ru_top hE hm fk_X7_28 dX7_push_g1.2.2.2.2.2.2.2.2.2.2.2.1 ?_
    refine r_aload_n hE 0 dX7_push_g1.2.2.2.2.2.2.2.2.2.2.2.2.1 rfl rfl ?_
    obtain ⟨hj, h⟩ := h
    refine cg_ru_figure hE hm fk_X7_44 dX7_push_g1.2.2.2.2.2.2.2.2.2.2.2.2.2.1 hj ?_
    refine r_iload_n hE 1 dX7_push_g1.2.2.2.2.2.2.2.2.2.2.2.2.2.2.1 rfl rfl ?_
    refine c_callVi hE hm [.int a1] [.int (c_ru_top s4), .ref (G.1 1205)] ck_X7_131 (cr_fg hm rfl) (kc_fg_firstOf h) (by decide) rfl rfl (Nat.le_of_ble_eq_true rfl) dX7_push_g1.2.2.2.2.2.2.2.2.2.2.2.2.2.2.2 (fun s5 r6 h => ?_)
    obtain ⟨hi, h⟩ := h
    refine cs_ru_cursor hE hm dX7_push_g2.1 hi h (fun s7 h => ?_)
    refine r_aload_n hE 0 dX7_push_g2.2.1 rfl rfl ?_
    refine cg_ru_floor hE hm fk_X7_18 dX7_push_g2.2.2.1 ?_
    refine r_aload_n hE 0 dX7_push_g2.2.2.2.1 rfl rfl ?_
    refine cg_ru_top hE hm fk_X7_28 dX7_push_g2.2.2.2.2.1 ?_
    refine r_aload_n hE 0 dX7_push_g2.2.2.2.2.2.1 rfl rfl ?_
    refine cg_ru_values hE hm fk_X7_35 dX7_push_g2.2.2.2.2.2.2.1 ?_
    obtain ⟨hi, h⟩ := h
    refine cs_ru_floor hE hm dX7_push_g2.2.2.2.2.2.2.2.1 hi h (fun s8 h => ?_)
    refine r_aload_n hE 0 dX7_push_g2.2.2.2.2.2.2.2.2.1 rfl rfl ?_
    refine cg_ru_inBlock hE hm fk_X7_21 dX7_push_g2.2.2.2.2.2.2.2.2.2.1 ?_
    refine r_aload_n hE 0 dX7_push_g2.2.2.2.2.2.2.2.2.2.2.1 rfl rfl ?_
    refine cg_ru_top hE hm fk_X7_28 dX7_push_g2.2.2.2.2.2.2.2.2.2.2.2.1 ?_
    refine r_iconst (v := (0 : Int32)) hE dX7_push_g2.2.2.2.2.2.2.2.2.2.2.2.2.1 (by decide) ?_
    obtain ⟨hi, h⟩ := h
    refine cs_ru_inBlock hE hm dX7_push_g2.2.2.2.2.2.2.2.2.2.2.2.2.2.1 hi (Or.inl rfl) h (fun s9 h => ?_)
    refine r_aload_n hE 0 dX7_push_g2.2.2.2.2.2.2.2.2.2.2.2.2.2.2.1 rfl rfl ?_
    refine cg_ru_turns hE hm fk_X7_25 dX7_push_g2.2.2.2.2.2.2.2.2.2.2.2.2.2.2.2 ?_
    refine r_aload_n hE 0 dX7_push_g3.1 rfl rfl ?_
    refine cg_ru_top hE hm fk_X7_28 dX7_push_g3.2.1 ?_
    refine r_iconst (v := (0 : Int32)) hE dX7_push_g3.2.2.1 (by decide) ?_
    obtain ⟨hi, h⟩ := h
    refine cs_ru_turns hE hm dX7_push_g3.2.2.2.1 hi h (fun s10 h => ?_)
    exact c_vret hE hm dX7_push_g3.2.2.2.2 h
  · refine r_aload_n hE 0 dX7_push_g0.2.2.2.2.2.2.2.1 rfl rfl ?_
    refine cg_ru_told hE hm fk_X7_52 dX7_push_g0.2.2.2.2.2.2.2.2.1 ?_
    refine r_iconst (v := (1 : Int32)) hE dX7_push_g0.2.2.2.2.2.2.2.2.2.1 (by decide) ?_
    refine cp_to_spent hE hm fk_X7_96 dX7_push_g0.2.2.2.2.2.2.2.2.2.2.1 (Or.inr rfl) h (fun s11 h => ?_)
    exact c_vret hE hm dX7_push_g0.2.2.2.2.2.2.2.2.2.2.2.1 h
/-! ru_pushValue -/
def wc_ru_pushValue (post : CS → Prop) (σ : CS) (a1 : Int32) : Prop := (((c_ru_values σ) < (0 : Int32)) → (post σ)) ∧ ((¬ ((c_ru_values σ) < (0 : Int32))) → ((((401 : Int32) ≤ (c_ru_values σ)) → (post σ)) ∧ ((¬ ((401 : Int32) ≤ (c_ru_values σ))) → (vp_in (c_ru_values σ) 401 ∧ (∀ s1 : CS, s1 = c_ru_value_s σ (c_ru_values σ).toNatClampNeg a1 → ∀ s2 : CS, s2 = c_ru_values_s s1 ((c_ru_values s1) + (1 : Int32)) → post s2)))))
set_option maxRecDepth 20000 in
theorem kc_ru_pushValue {l : Launch} {D : va_G} {G : gAd} {post : CS → Prop} {σ : CS} {a1 : Int32} (h : wc_ru_pushValue post σ a1) : cMet l D G yX7_pushValue cX7_pushValue 2 none 1 [.ref (G.1 1200), .int a1] σ (pV post) := by
  unfold wc_ru_pushValue at h
  refine c_enter (own := RX7) (by decide +kernel) rfl [(0, .ref (G.1 1200)), (1, .int a1)] rfl (Nat.le_of_ble_eq_true rfl) ?_
  intro E hE hm
  have hN := hm.2.2.2.2.2.2.1
  refine r_aload_n hE 0 dX7_pushValue_g0.1 rfl rfl ?_
  refine cg_ru_values hE hm fk_X7_35 dX7_pushValue_g0.2.1 ?_
  refine r_if_lt hE 37 dX7_pushValue_g0.2.2.1 (by decide) h (fun h => ?_) (fun h => ?_)
  · exact c_vret hE hm dX7_pushValue_g1.2.2.2 h
  · refine r_aload_n hE 0 dX7_pushValue_g0.2.2.2.1 rfl rfl ?_
    refine cg_ru_values hE hm fk_X7_35 dX7_pushValue_g0.2.2.2.2.1 ?_
    refine r_sipush (v := (401 : Int32)) hE dX7_pushValue_g0.2.2.2.2.2.1 (by decide) ?_
    refine r_icmp_ge hE 37 dX7_pushValue_g0.2.2.2.2.2.2.1 (by decide) h (fun h => ?_) (fun h => ?_)
    · exact c_vret hE hm dX7_pushValue_g1.2.2.2 h
    · refine r_aload_n hE 0 dX7_pushValue_g0.2.2.2.2.2.2.2.1 rfl rfl ?_
      refine cg_ru_value hE hm fk_X7_32 dX7_pushValue_g0.2.2.2.2.2.2.2.2.1 ?_
      refine r_aload_n hE 0 dX7_pushValue_g0.2.2.2.2.2.2.2.2.2.1 rfl rfl ?_
      refine cg_ru_values hE hm fk_X7_35 dX7_pushValue_g0.2.2.2.2.2.2.2.2.2.2.1 ?_
      refine r_iload_n hE 1 dX7_pushValue_g0.2.2.2.2.2.2.2.2.2.2.2.1 rfl rfl ?_
      obtain ⟨hi, h⟩ := h
      refine cs_ru_value hE hm dX7_pushValue_g0.2.2.2.2.2.2.2.2.2.2.2.2.1 hi h (fun s1 h => ?_)
      refine r_aload_n hE 0 dX7_pushValue_g0.2.2.2.2.2.2.2.2.2.2.2.2.2.1 rfl rfl ?_
      refine r_dup hE dX7_pushValue_g0.2.2.2.2.2.2.2.2.2.2.2.2.2.2.1 rfl ?_
      refine cg_ru_values hE hm fk_X7_35 dX7_pushValue_g0.2.2.2.2.2.2.2.2.2.2.2.2.2.2.2 ?_
      refine r_iconst (v := (1 : Int32)) hE dX7_pushValue_g1.1 (by decide) ?_
      refine r_iadd hE dX7_pushValue_g1.2.1 ?_
      refine cp_ru_values hE hm fk_X7_35 dX7_pushValue_g1.2.2.1 h (fun s2 h => ?_)
      exact c_vret hE hm dX7_pushValue_g1.2.2.2 h
/-! ru_valueAt -/
def wc_ru_valueAt_28 (post : CS → Int32 → Prop) (σ : CS) (t0 : Int32) : Prop := wc_SX12_inside (fun (s1 : CS) (r2 : Int32) => ((r2 = (0 : Int32)) → (post s1 (-1 : Int32))) ∧ ((¬ (r2 = (0 : Int32))) → (vp_in t0 401 ∧ (post s1 (c_ru_value s1 t0.toNatClampNeg))))) σ t0 (c_ru_values σ)
set_option maxRecDepth 20000 in
theorem kc_ru_valueAt_28 {E : gEnv} {l : Launch} {D : va_G} {G : gAd} {post : CS → Int32 → Prop} (hE : gOK E cX7_valueAt RX7 (some .int) 2) (hm : cOK E l D G (pI post) 3) (σ : CS) (t0 : Int32) (h : wc_ru_valueAt_28 post σ t0) : GW E (cW G σ) 28 [(0, .ref (G.1 1200))] [.int t0] := by
  unfold wc_ru_valueAt_28 at h
  have hN := hm.2.2.2.2.2.2.1
  refine r_istore_n hE [(2, .int t0), (0, .ref (G.1 1200))] dX7_valueAt_g0.2.2.2.2.2.2.2.2.2.2.2.2.2.2.1 rfl hN (by decide) rfl ?_
  refine r_iload_n hE 0 dX7_valueAt_g0.2.2.2.2.2.2.2.2.2.2.2.2.2.2.2 rfl rfl ?_
  refine r_aload_n hE 1 dX7_valueAt_g1.1 rfl rfl ?_
  refine cg_ru_values hE hm fk_X7_35 dX7_valueAt_g1.2.1 ?_
  refine c_callSNi hE hm [.int t0, .int (c_ru_values σ)] [] ck_X7_92 cw_X7_92 (kc_SX12_inside h) (by decide) rfl rfl (Nat.le_of_ble_eq_true rfl) dX7_valueAt_g1.2.2.1 (fun s1 r2 h => ?_)
  refine r_if_eq hE 49 dX7_valueAt_g1.2.2.2.1 (by decide) h (fun h => ?_) (fun h => ?_)
  · refine r_iconst (v := (-1 : Int32)) hE dX7_valueAt_g1.2.2.2.2.2.2.2.2.2.1 (by decide) ?_
    exact c_iret hE hm dX7_valueAt_g1.2.2.2.2.2.2.2.2.2.2 h
  · refine r_aload_n hE 1 dX7_valueAt_g1.2.2.2.2.1 rfl rfl ?_
    refine cg_ru_value hE hm fk_X7_32 dX7_valueAt_g1.2.2.2.2.2.1 ?_
    refine r_iload_n hE 0 dX7_valueAt_g1.2.2.2.2.2.2.1 rfl rfl ?_
    obtain ⟨hi, h⟩ := h
    refine cl_ru_value hE hm dX7_valueAt_g1.2.2.2.2.2.2.2.1 hi ?_
    refine r_goto hE 50 dX7_valueAt_g1.2.2.2.2.2.2.2.2.1 (by decide) ?_
    exact c_iret hE hm dX7_valueAt_g1.2.2.2.2.2.2.2.2.2.2 h
def wc_ru_valueAt (post : CS → Int32 → Prop) (σ : CS) (a1 : Int32) : Prop := wc_SX12_inside (fun (s3 : CS) (r4 : Int32) => ((r4 = (0 : Int32)) → (wc_ru_valueAt_28 post s3 (-1 : Int32))) ∧ ((¬ (r4 = (0 : Int32))) → (vp_in (c_ru_top s3) 401 ∧ (wc_ru_valueAt_28 post s3 ((c_ru_floor s3 (c_ru_top s3).toNatClampNeg) + a1))))) σ (c_ru_top σ) (401 : Int32)
set_option maxRecDepth 20000 in
theorem kc_ru_valueAt {l : Launch} {D : va_G} {G : gAd} {post : CS → Int32 → Prop} {σ : CS} {a1 : Int32} (h : wc_ru_valueAt post σ a1) : cMet l D G yX7_valueAt cX7_valueAt 3 (some .int) 2 [.ref (G.1 1200), .int a1] σ (pI post) := by
  unfold wc_ru_valueAt at h
  refine c_enter (own := RX7) (by decide +kernel) rfl [(0, .ref (G.1 1200)), (1, .int a1)] rfl (Nat.le_of_ble_eq_true rfl) ?_
  intro E hE hm
  have hN := hm.2.2.2.2.2.2.1
  refine r_aload_n hE 0 dX7_valueAt_g0.1 rfl rfl ?_
  refine cg_ru_top hE hm fk_X7_28 dX7_valueAt_g0.2.1 ?_
  refine r_sipush (v := (401 : Int32)) hE dX7_valueAt_g0.2.2.1 (by decide) ?_
  refine c_callSNi hE hm [.int (c_ru_top σ), .int (401 : Int32)] [] ck_X7_92 cw_X7_92 (kc_SX12_inside h) (by decide) rfl rfl (Nat.le_of_ble_eq_true rfl) dX7_valueAt_g0.2.2.2.1 (fun s3 r4 h => ?_)
  refine r_if_eq hE 27 dX7_valueAt_g0.2.2.2.2.1 (by decide) h (fun h => ?_) (fun h => ?_)
  · refine r_iconst (v := (-1 : Int32)) hE dX7_valueAt_g0.2.2.2.2.2.2.2.2.2.2.2.2.2.1 (by decide) ?_
    refine r_pick [0] rfl ?_
    exact kc_ru_valueAt_28 hE hm _ _ h
  · refine r_aload_n hE 0 dX7_valueAt_g0.2.2.2.2.2.1 rfl rfl ?_
    refine cg_ru_floor hE hm fk_X7_18 dX7_valueAt_g0.2.2.2.2.2.2.1 ?_
    refine r_aload_n hE 0 dX7_valueAt_g0.2.2.2.2.2.2.2.1 rfl rfl ?_
    refine cg_ru_top hE hm fk_X7_28 dX7_valueAt_g0.2.2.2.2.2.2.2.2.1 ?_
    obtain ⟨hi, h⟩ := h
    refine cl_ru_floor hE hm dX7_valueAt_g0.2.2.2.2.2.2.2.2.2.1 hi ?_
    refine r_iload_n hE 1 dX7_valueAt_g0.2.2.2.2.2.2.2.2.2.2.1 rfl rfl ?_
    refine r_iadd hE dX7_valueAt_g0.2.2.2.2.2.2.2.2.2.2.2.1 ?_
    refine r_goto hE 28 dX7_valueAt_g0.2.2.2.2.2.2.2.2.2.2.2.2.1 (by decide) ?_
    refine r_pick [0] rfl ?_
    exact kc_ru_valueAt_28 hE hm _ _ h
/-! ru_drop -/
def wc_ru_drop (post : CS → Prop) (σ : CS) : Prop := (((c_ru_top σ) < (0 : Int32)) → (post σ)) ∧ ((¬ ((c_ru_top σ) < (0 : Int32))) → ((((401 : Int32) ≤ (c_ru_top σ)) → (post σ)) ∧ ((¬ ((401 : Int32) ≤ (c_ru_top σ))) → (vp_in (c_ru_top σ) 401 ∧ (∀ s1 : CS, s1 = c_ru_values_s σ (c_ru_floor σ (c_ru_top σ).toNatClampNeg) → ∀ s2 : CS, s2 = c_ru_top_s s1 ((c_ru_top s1) - (1 : Int32)) → post s2)))))
set_option maxRecDepth 20000 in
theorem kc_ru_drop {l : Launch} {D : va_G} {G : gAd} {post : CS → Prop} {σ : CS} (h : wc_ru_drop post σ) : cMet l D G yX7_drop cX7_drop 1 none 1 [.ref (G.1 1200)] σ (pV post) := by
  unfold wc_ru_drop at h
  refine c_enter (own := RX7) (by decide +kernel) rfl [(0, .ref (G.1 1200))] rfl (Nat.le_of_ble_eq_true rfl) ?_
  intro E hE hm
  have hN := hm.2.2.2.2.2.2.1
  refine r_aload_n hE 0 dX7_drop_g0.1 rfl rfl ?_
  refine cg_ru_top hE hm fk_X7_28 dX7_drop_g0.2.1 ?_
  refine r_if_lt hE 40 dX7_drop_g0.2.2.1 (by decide) h (fun h => ?_) (fun h => ?_)
  · exact c_vret hE hm dX7_drop_g1.2.2.2.2 h
  · refine r_aload_n hE 0 dX7_drop_g0.2.2.2.1 rfl rfl ?_
    refine cg_ru_top hE hm fk_X7_28 dX7_drop_g0.2.2.2.2.1 ?_
    refine r_sipush (v := (401 : Int32)) hE dX7_drop_g0.2.2.2.2.2.1 (by decide) ?_
    refine r_icmp_ge hE 40 dX7_drop_g0.2.2.2.2.2.2.1 (by decide) h (fun h => ?_) (fun h => ?_)
    · exact c_vret hE hm dX7_drop_g1.2.2.2.2 h
    · refine r_aload_n hE 0 dX7_drop_g0.2.2.2.2.2.2.2.1 rfl rfl ?_
      refine r_aload_n hE 0 dX7_drop_g0.2.2.2.2.2.2.2.2.1 rfl rfl ?_
      refine cg_ru_floor hE hm fk_X7_18 dX7_drop_g0.2.2.2.2.2.2.2.2.2.1 ?_
      refine r_aload_n hE 0 dX7_drop_g0.2.2.2.2.2.2.2.2.2.2.1 rfl rfl ?_
      refine cg_ru_top hE hm fk_X7_28 dX7_drop_g0.2.2.2.2.2.2.2.2.2.2.2.1 ?_
      obtain ⟨hi, h⟩ := h
      refine cl_ru_floor hE hm dX7_drop_g0.2.2.2.2.2.2.2.2.2.2.2.2.1 hi ?_
      refine cp_ru_values hE hm fk_X7_35 dX7_drop_g0.2.2.2.2.2.2.2.2.2.2.2.2.2.1 h (fun s1 h => ?_)
      refine r_aload_n hE 0 dX7_drop_g0.2.2.2.2.2.2.2.2.2.2.2.2.2.2.1 rfl rfl ?_
      refine r_dup hE dX7_drop_g0.2.2.2.2.2.2.2.2.2.2.2.2.2.2.2 rfl ?_
      refine cg_ru_top hE hm fk_X7_28 dX7_drop_g1.1 ?_
      refine r_iconst (v := (1 : Int32)) hE dX7_drop_g1.2.1 (by decide) ?_
      refine r_isub hE dX7_drop_g1.2.2.1 ?_
      refine cp_ru_top hE hm fk_X7_28 dX7_drop_g1.2.2.2.1 h (fun s2 h => ?_)
      exact c_vret hE hm dX7_drop_g1.2.2.2.2 h
/-! ru_enterBlock -/
def wc_ru_enterBlock (post : CS → Prop) (σ : CS) (a1 : Int32) : Prop := wc_SX12_inside (fun (s1 : CS) (r2 : Int32) => ((r2 = (0 : Int32)) → (post s1)) ∧ ((¬ (r2 = (0 : Int32))) → (vp_in (c_ru_top s1) 401 ∧ (∀ s3 : CS, s3 = c_ru_values_s s1 (c_ru_floor s1 (c_ru_top s1).toNatClampNeg) → vp_in (c_ru_top s3) 401 ∧ (∀ s4 : CS, s4 = c_ru_inBlock_s s3 (c_ru_top s3).toNatClampNeg (1 : Int32) → vp_in (c_ru_top s4) 401 ∧ (∀ s5 : CS, s5 = c_ru_cursor_s s4 (c_ru_top s4).toNatClampNeg a1 → post s5)))))) σ (c_ru_top σ) (401 : Int32)
set_option maxRecDepth 20000 in
theorem kc_ru_enterBlock {l : Launch} {D : va_G} {G : gAd} {post : CS → Prop} {σ : CS} {a1 : Int32} (h : wc_ru_enterBlock post σ a1) : cMet l D G yX7_enterBlock cX7_enterBlock 2 none 2 [.ref (G.1 1200), .int a1] σ (pV post) := by
  unfold wc_ru_enterBlock at h
  refine c_enter (own := RX7) (by decide +kernel) rfl [(0, .ref (G.1 1200)), (1, .int a1)] rfl (Nat.le_of_ble_eq_true rfl) ?_
  intro E hE hm
  have hN := hm.2.2.2.2.2.2.1
  refine r_aload_n hE 0 dX7_enterBlock_g0.1 rfl rfl ?_
  refine cg_ru_top hE hm fk_X7_28 dX7_enterBlock_g0.2.1 ?_
  refine r_sipush (v := (401 : Int32)) hE dX7_enterBlock_g0.2.2.1 (by decide) ?_
  refine c_callSNi hE hm [.int (c_ru_top σ), .int (401 : Int32)] [] ck_X7_92 cw_X7_92 (kc_SX12_inside h) (by decide) rfl rfl (Nat.le_of_ble_eq_true rfl) dX7_enterBlock_g0.2.2.2.1 (fun s1 r2 h => ?_)
  refine r_if_eq hE 46 dX7_enterBlock_g0.2.2.2.2.1 (by decide) h (fun h => ?_) (fun h => ?_)
  · exact c_vret hE hm dX7_enterBlock_g1.2.2.2.2.2.2.2.2 h
  · refine r_aload_n hE 0 dX7_enterBlock_g0.2.2.2.2.2.1 rfl rfl ?_
    refine r_aload_n hE 0 dX7_enterBlock_g0.2.2.2.2.2.2.1 rfl rfl ?_
    refine cg_ru_floor hE hm fk_X7_18 dX7_enterBlock_g0.2.2.2.2.2.2.2.1 ?_
    refine r_aload_n hE 0 dX7_enterBlock_g0.2.2.2.2.2.2.2.2.1 rfl rfl ?_
    refine cg_ru_top hE hm fk_X7_28 dX7_enterBlock_g0.2.2.2.2.2.2.2.2.2.1 ?_
    obtain ⟨hi, h⟩ := h
    refine cl_ru_floor hE hm dX7_enterBlock_g0.2.2.2.2.2.2.2.2.2.2.1 hi ?_
    refine cp_ru_values hE hm fk_X7_35 dX7_enterBlock_g0.2.2.2.2.2.2.2.2.2.2.2.1 h (fun s3 h => ?_)
    refine r_aload_n hE 0 dX7_enterBlock_g0.2.2.2.2.2.2.2.2.2.2.2.2.1 rfl rfl ?_
    refine cg_ru_inBlock hE hm fk_X7_21 dX7_enterBlock_g0.2.2.2.2.2.2.2.2.2.2.2.2.2.1 ?_
    refine r_aload_n hE 0 dX7_enterBlock_g0.2.2.2.2.2.2.2.2.2.2.2.2.2.2.1 rfl rfl ?_
    refine cg_ru_top hE hm fk_X7_28 dX7_enterBlock_g0.2.2.2.2.2.2.2.2.2.2.2.2.2.2.2 ?_
    refine r_iconst (v := (1 : Int32)) hE dX7_enterBlock_g1.1 (by decide) ?_
    obtain ⟨hi, h⟩ := h
    refine cs_ru_inBlock hE hm dX7_enterBlock_g1.2.1 hi (Or.inr rfl) h (fun s4 h => ?_)
    refine r_aload_n hE 0 dX7_enterBlock_g1.2.2.1 rfl rfl ?_
    refine cg_ru_cursor hE hm fk_X7_15 dX7_enterBlock_g1.2.2.2.1 ?_
    refine r_aload_n hE 0 dX7_enterBlock_g1.2.2.2.2.1 rfl rfl ?_
    refine cg_ru_top hE hm fk_X7_28 dX7_enterBlock_g1.2.2.2.2.2.1 ?_
    refine r_iload_n hE 1 dX7_enterBlock_g1.2.2.2.2.2.2.1 rfl rfl ?_
    obtain ⟨hi, h⟩ := h
    refine cs_ru_cursor hE hm dX7_enterBlock_g1.2.2.2.2.2.2.2.1 hi h (fun s5 h => ?_)
    exact c_vret hE hm dX7_enterBlock_g1.2.2.2.2.2.2.2.2 h
/-! ru_leaveMacro -/
def wc_ru_leaveMacro (post : CS → Prop) (σ : CS) (a1 : Int32) : Prop := ∀ s1 : CS, s1 = c_ru_frame_s σ ((c_ru_frame σ) - (1 : Int32)) → wc_ru_drop (fun (s2 : CS) => wc_ru_pushValue (fun (s3 : CS) => post s3) s2 a1) s1
set_option maxRecDepth 20000 in
theorem kc_ru_leaveMacro {l : Launch} {D : va_G} {G : gAd} {post : CS → Prop} {σ : CS} {a1 : Int32} (h : wc_ru_leaveMacro post σ a1) : cMet l D G yX7_leaveMacro cX7_leaveMacro 2 none 2 [.ref (G.1 1200), .int a1] σ (pV post) := by
  unfold wc_ru_leaveMacro at h
  refine c_enter (own := RX7) (by decide +kernel) rfl [(0, .ref (G.1 1200)), (1, .int a1)] rfl (Nat.le_of_ble_eq_true rfl) ?_
  intro E hE hm
  have hN := hm.2.2.2.2.2.2.1
  refine r_aload_n hE 0 dX7_leaveMacro_g0.1 rfl rfl ?_
  refine r_dup hE dX7_leaveMacro_g0.2.1 rfl ?_
  refine cg_ru_frame hE hm fk_X7_41 dX7_leaveMacro_g0.2.2.1 ?_
  refine r_iconst (v := (1 : Int32)) hE dX7_leaveMacro_g0.2.2.2.1 (by decide) ?_
  refine r_isub hE dX7_leaveMacro_g0.2.2.2.2.1 ?_
  refine cp_ru_frame hE hm fk_X7_41 dX7_leaveMacro_g0.2.2.2.2.2.1 h (fun s1 h => ?_)
  refine r_aload_n hE 0 dX7_leaveMacro_g0.2.2.2.2.2.2.1 rfl rfl ?_
  refine c_callVv hE hm [] [] ck_X7_168 (cr_ru hm rfl) (kc_ru_drop h) (by decide) rfl rfl (Nat.le_of_ble_eq_true rfl) dX7_leaveMacro_g0.2.2.2.2.2.2.2.1 (fun s2 h => ?_)
  refine r_aload_n hE 0 dX7_leaveMacro_g0.2.2.2.2.2.2.2.2.1 rfl rfl ?_
  refine r_iload_n hE 1 dX7_leaveMacro_g0.2.2.2.2.2.2.2.2.2.1 rfl rfl ?_
  refine c_callVv hE hm [.int a1] [] ck_X7_148 (cr_ru hm rfl) (kc_ru_pushValue h) (by decide) rfl rfl (Nat.le_of_ble_eq_true rfl) dX7_leaveMacro_g0.2.2.2.2.2.2.2.2.2.2.1 (fun s3 h => ?_)
  exact c_vret hE hm dX7_leaveMacro_g0.2.2.2.2.2.2.2.2.2.2.2 h
/-! ru_giveBack -/
def wc_ru_giveBack_66 (post : CS → Prop) (σ : CS) (v1 : Int32) : Prop := wc_ru_leaveMacro (fun (s1 : CS) => post s1) σ v1
set_option maxRecDepth 20000 in
theorem kc_ru_giveBack_66 {E : gEnv} {l : Launch} {D : va_G} {G : gAd} {post : CS → Prop} (hE : gOK E cX7_giveBack RX7 none 3) (hm : cOK E l D G (pV post) 2) (σ : CS) (v1 : Int32) (h : wc_ru_giveBack_66 post σ v1) : GW E (cW G σ) 66 [(0, .ref (G.1 1200)), (1, .int v1)] [] := by
  unfold wc_ru_giveBack_66 at h
  have hN := hm.2.2.2.2.2.2.1
  refine r_aload_n hE 0 dX7_giveBack_g1.2.2.2.2.2.2.2.2.2.2.2.2.2.2.2 rfl rfl ?_
  refine r_iload_n hE 1 dX7_giveBack_g2.1 rfl rfl ?_
  refine c_callVv hE hm [.int v1] [] ck_X7_210 (cr_ru hm rfl) (kc_ru_leaveMacro h) (by decide) rfl rfl (Nat.le_of_ble_eq_true rfl) dX7_giveBack_g2.2.1 (fun s1 h => ?_)
  exact c_vret hE hm dX7_giveBack_g2.2.2 h
def wc_ru_giveBack_53 (post : CS → Prop) (lp0 : CS → Int32 → Prop) (σ : CS) (v1 : Int32) : Prop := ∀ s2 : CS, s2 = c_ru_top_s σ ((c_ru_top σ) - (1 : Int32)) → lp0 s2 v1
set_option maxRecDepth 20000 in
theorem kc_ru_giveBack_53 {E : gEnv} {l : Launch} {D : va_G} {G : gAd} {post : CS → Prop} (hE : gOK E cX7_giveBack RX7 none 3) (hm : cOK E l D G (pV post) 2) {lp0 : CS → Int32 → Prop} (hl0 : ∀ (σ : CS) (v1 : Int32), lp0 σ v1 → GW E (cW G σ) 0 [(0, .ref (G.1 1200)), (1, .int v1)] []) (σ : CS) (v1 : Int32) (h : wc_ru_giveBack_53 post lp0 σ v1) : GW E (cW G σ) 53 [(0, .ref (G.1 1200)), (1, .int v1)] [] := by
  unfold wc_ru_giveBack_53 at h
  have hN := hm.2.2.2.2.2.2.1
  refine r_aload_n hE 0 dX7_giveBack_g1.2.2.2.2.2.2.2.2.1 rfl rfl ?_
  refine r_dup hE dX7_giveBack_g1.2.2.2.2.2.2.2.2.2.1 rfl ?_
  refine cg_ru_top hE hm fk_X7_28 dX7_giveBack_g1.2.2.2.2.2.2.2.2.2.2.1 ?_
  refine r_iconst (v := (1 : Int32)) hE dX7_giveBack_g1.2.2.2.2.2.2.2.2.2.2.2.1 (by decide) ?_
  refine r_isub hE dX7_giveBack_g1.2.2.2.2.2.2.2.2.2.2.2.2.1 ?_
  refine cp_ru_top hE hm fk_X7_28 dX7_giveBack_g1.2.2.2.2.2.2.2.2.2.2.2.2.2.1 h (fun s2 h => ?_)
  refine r_goto hE 0 dX7_giveBack_g1.2.2.2.2.2.2.2.2.2.2.2.2.2.2.1 (by decide) ?_
  exact hl0 _ _ h
def wc_ru_giveBack_0 (post : CS → Prop) : Nat → CS → Int32 → Prop
  | 0, _, _ => False
  | n + 1, σ, v1 => (((c_ru_top σ) ≤ (0 : Int32)) → (wc_ru_giveBack_66 post σ v1)) ∧ ((¬ ((c_ru_top σ) ≤ (0 : Int32))) → (wc_SX12_inside (fun (s3 : CS) (r4 : Int32) => ((r4 = (0 : Int32)) → (wc_ru_giveBack_53 post (fun (ys : CS) (y0 : Int32) => wc_ru_giveBack_0 post n ys y0) s3 v1)) ∧ ((¬ (r4 = (0 : Int32))) → (vp_in (c_ru_top s3) 401 ∧ ((((c_ru_inBlock s3 (c_ru_top s3).toNatClampNeg) = (0 : Int32)) → (wc_ru_giveBack_53 post (fun (ys : CS) (y0 : Int32) => wc_ru_giveBack_0 post n ys y0) s3 v1)) ∧ ((¬ ((c_ru_inBlock s3 (c_ru_top s3).toNatClampNeg) = (0 : Int32))) → (c_ru_figure s3 = 300 ∧ (vp_in (c_ru_top s3) 401 ∧ (wc_fg_typeOf (fun (s5 : CS) (r6 : Int32) => ((r6 = (11 : Int32)) → (wc_ru_giveBack_66 post s5 v1)) ∧ ((¬ (r6 = (11 : Int32))) → (wc_ru_giveBack_53 post (fun (ys : CS) (y0 : Int32) => wc_ru_giveBack_0 post n ys y0) s5 v1))) s3 (c_ru_node s3 (c_ru_top s3).toNatClampNeg))))))))) σ (c_ru_top σ) (401 : Int32)))
set_option maxRecDepth 20000 in
theorem kc_ru_giveBack_0 {E : gEnv} {l : Launch} {D : va_G} {G : gAd} {post : CS → Prop} (hE : gOK E cX7_giveBack RX7 none 3) (hm : cOK E l D G (pV post) 2) : ∀ (n : Nat) (σ : CS) (v1 : Int32), wc_ru_giveBack_0 post n σ v1 → GW E (cW G σ) 0 [(0, .ref (G.1 1200)), (1, .int v1)] [] := by
  intro n
  induction n with
  | zero => intro σ v1 h; exact h.elim
  | succ n ih =>
    intro σ v1 h
    rw [wc_ru_giveBack_0] at h
    have hN := hm.2.2.2.2.2.2.1
    refine r_aload_n hE 0 dX7_giveBack_g0.1 rfl rfl ?_
    refine cg_ru_top hE hm fk_X7_28 dX7_giveBack_g0.2.1 ?_
    refine r_if_le hE 66 dX7_giveBack_g0.2.2.1 (by decide) h (fun h => ?_) (fun h => ?_)
    · exact kc_ru_giveBack_66 hE hm _ _ h
    · refine r_aload_n hE 0 dX7_giveBack_g0.2.2.2.1 rfl rfl ?_
      refine cg_ru_top hE hm fk_X7_28 dX7_giveBack_g0.2.2.2.2.1 ?_
      refine r_sipush (v := (401 : Int32)) hE dX7_giveBack_g0.2.2.2.2.2.1 (by decide) ?_
      refine c_callSNi hE hm [.int (c_ru_top σ), .int (401 : Int32)] [] ck_X7_92 cw_X7_92 (kc_SX12_inside h) (by decide) rfl rfl (Nat.le_of_ble_eq_true rfl) dX7_giveBack_g0.2.2.2.2.2.2.1 (fun s3 r4 h => ?_)
      refine r_if_eq hE 53 dX7_giveBack_g0.2.2.2.2.2.2.2.1 (by decide) h (fun h => ?_) (fun h => ?_)
      · exact kc_ru_giveBack_53 hE hm ih _ _ h
      · refine r_aload_n hE 0 dX7_giveBack_g0.2.2.2.2.2.2.2.2.1 rfl rfl ?_
        refine cg_ru_inBlock hE hm fk_X7_21 dX7_giveBack_g0.2.2.2.2.2.2.2.2.2.1 ?_
        refine r_aload_n hE 0 dX7_giveBack_g0.2.2.2.2.2.2.2.2.2.2.1 rfl rfl ?_
        refine cg_ru_top hE hm fk_X7_28 dX7_giveBack_g0.2.2.2.2.2.2.2.2.2.2.2.1 ?_
        obtain ⟨hi, h⟩ := h
        refine cl_ru_inBlock hE hm dX7_giveBack_g0.2.2.2.2.2.2.2.2.2.2.2.2.1 hi ?_
        refine r_if_eq hE 53 dX7_giveBack_g0.2.2.2.2.2.2.2.2.2.2.2.2.2.1 (by decide) h (fun h => ?_) (fun h => ?_)
        · exact kc_ru_giveBack_53 hE hm ih _ _ h
        · refine r_aload_n hE 0 dX7_giveBack_g0.2.2.2.2.2.2.2.2.2.2.2.2.2.2.1 rfl rfl ?_
          obtain ⟨hj, h⟩ := h
          refine cg_ru_figure hE hm fk_X7_44 dX7_giveBack_g0.2.2.2.2.2.2.2.2.2.2.2.2.2.2.2 hj ?_
          refine r_aload_n hE 0 dX7_giveBack_g1.1 rfl rfl ?_
          refine cg_ru_node hE hm fk_X7_11 dX7_giveBack_g1.2.1 ?_
          refine r_aload_n hE 0 dX7_giveBack_g1.2.2.1 rfl rfl ?_
          refine cg_ru_top hE hm fk_X7_28 dX7_giveBack_g1.2.2.2.1 ?_
          obtain ⟨hi, h⟩ := h
          refine cl_ru_node hE hm dX7_giveBack_g1.2.2.2.2.1 hi ?_
          refine c_callVi hE hm [.int (c_ru_node s3 (c_ru_top s3).toNatClampNeg)] [] ck_X7_107 (cr_fg hm rfl) (kc_fg_typeOf h) (by decide) rfl rfl (Nat.le_of_ble_eq_true rfl) dX7_giveBack_g1.2.2.2.2.2.1 (fun s5 r6 h => ?_)
          refine r_bipush (v := (11 : Int32)) hE dX7_giveBack_g1.2.2.2.2.2.2.1 (by decide) ?_
          refine r_icmp_eq hE 66 dX7_giveBack_g1.2.2.2.2.2.2.2.1 (by decide) h (fun h => ?_) (fun h => ?_)
          · exact kc_ru_giveBack_66 hE hm _ _ h
          · exact kc_ru_giveBack_53 hE hm ih _ _ h
def wc_ru_giveBack (post : CS → Prop) (σ : CS) (a1 : Int32) : Prop := ∃ k : Nat, wc_ru_giveBack_0 post k σ a1
set_option maxRecDepth 20000 in
theorem kc_ru_giveBack {l : Launch} {D : va_G} {G : gAd} {post : CS → Prop} {σ : CS} {a1 : Int32} (h : wc_ru_giveBack post σ a1) : cMet l D G yX7_giveBack cX7_giveBack 2 none 3 [.ref (G.1 1200), .int a1] σ (pV post) := by
  unfold wc_ru_giveBack at h
  refine c_enter (own := RX7) (by decide +kernel) rfl [(0, .ref (G.1 1200)), (1, .int a1)] rfl (Nat.le_of_ble_eq_true rfl) ?_
  intro E hE hm
  have hN := hm.2.2.2.2.2.2.1
  obtain ⟨k, h⟩ := h
  exact kc_ru_giveBack_0 hE hm k _ _ h
/-! ru_fallDown -/
def wc_ru_fallDown_210 (post : CS → Prop) (σ : CS) : Prop := wc_ru_drop (fun (s1 : CS) => post s1) σ
set_option maxRecDepth 20000 in
theorem kc_ru_fallDown_210 {E : gEnv} {l : Launch} {D : va_G} {G : gAd} {post : CS → Prop} (hE : gOK E cX7_fallDown RX7 none 4) (hm : cOK E l D G (pV post) 3) (σ : CS) (h : wc_ru_fallDown_210 post σ) : GW E (cW G σ) 210 [(0, .ref (G.1 1200))] [] := by
  unfold wc_ru_fallDown_210 at h
  have hN := hm.2.2.2.2.2.2.1
  refine r_aload_n hE 0 dX7_fallDown_g5.2.2.1 rfl rfl ?_
  refine c_callVv hE hm [] [] ck_X7_168 (cr_ru hm rfl) (kc_ru_drop h) (by decide) rfl rfl (Nat.le_of_ble_eq_true rfl) dX7_fallDown_g5.2.2.2.1 (fun s1 h => ?_)
  exact c_vret hE hm dX7_fallDown_g5.2.2.2.2 h
def wc_ru_fallDown_90 (post : CS → Prop) (σ : CS) : Prop := vp_in (c_ru_top σ) 401 ∧ (∀ x2 : Int32, x2 = c_ru_node σ (c_ru_top σ).toNatClampNeg → c_ru_figure σ = 300 ∧ (wc_fg_typeOf (fun (s3 : CS) (r4 : Int32) => (r4 = (0 : Int32) → (c_ru_figure s3 = 300 ∧ (wc_fg_dataOf (fun (s5 : CS) (r6 : Int32) => wc_ru_hold (fun (s7 : CS) => wc_ru_drop (fun (s8 : CS) => post s8) s7) s5 r6 (-1 : Int32)) s3 x2))) ∧ (¬ r4 = (0 : Int32) → ((r4 = (1 : Int32) → (wc_ru_fallDown_210 post s3)) ∧ (¬ r4 = (1 : Int32) → ((r4 = (2 : Int32) → (c_ru_figure s3 = 300 ∧ (wc_fg_otherOf (fun (s9 : CS) (r10 : Int32) => wc_ru_enterBlock (fun (s11 : CS) => post s11) s9 r10) s3 x2))) ∧ (¬ r4 = (2 : Int32) → ((r4 = (3 : Int32) → (wc_ru_fallDown_210 post s3)) ∧ (¬ r4 = (3 : Int32) → ((r4 = (4 : Int32) → (wc_to_addStated (fun (s12 : CS) => wc_ru_drop (fun (s13 : CS) => post s13) s12) s3 (-1 : Int32))) ∧ (¬ r4 = (4 : Int32) → ((r4 = (5 : Int32) → (wc_ru_fallDown_210 post s3)) ∧ (¬ r4 = (5 : Int32) → ((r4 = (6 : Int32) → (wc_ru_giveBack (fun (s14 : CS) => post s14) s3 (-1 : Int32))) ∧ (¬ r4 = (6 : Int32) → (wc_ru_fallDown_210 post s3))))))))))))))) σ x2))
set_option maxRecDepth 20000 in
theorem kc_ru_fallDown_90 {E : gEnv} {l : Launch} {D : va_G} {G : gAd} {post : CS → Prop} (hE : gOK E cX7_fallDown RX7 none 4) (hm : cOK E l D G (pV post) 3) (σ : CS) (h : wc_ru_fallDown_90 post σ) : GW E (cW G σ) 90 [(0, .ref (G.1 1200))] [] := by
  unfold wc_ru_fallDown_90 at h
  have hN := hm.2.2.2.2.2.2.1
  refine r_aload_n hE 0 dX7_fallDown_g2.2.2.2.2.2.2.2.2.2.2.2.1 rfl rfl ?_
  refine cg_ru_node hE hm fk_X7_11 dX7_fallDown_g2.2.2.2.2.2.2.2.2.2.2.2.2.1 ?_
  refine r_aload_n hE 0 dX7_fallDown_g2.2.2.2.2.2.2.2.2.2.2.2.2.2.1 rfl rfl ?_
  refine cg_ru_top hE hm fk_X7_28 dX7_fallDown_g2.2.2.2.2.2.2.2.2.2.2.2.2.2.2.1 ?_
  obtain ⟨hi, h⟩ := h
  refine cl_ru_node hE hm dX7_fallDown_g2.2.2.2.2.2.2.2.2.2.2.2.2.2.2.2 hi ?_
  refine r_topi h (fun x2 ex2 h => ?_)
  refine r_istore_n hE [(2, .int x2), (0, .ref (G.1 1200))] dX7_fallDown_g3.1 rfl hN (by decide) rfl ?_
  refine r_aload_n hE 1 dX7_fallDown_g3.2.1 rfl rfl ?_
  obtain ⟨hj, h⟩ := h
  refine cg_ru_figure hE hm fk_X7_44 dX7_fallDown_g3.2.2.1 hj ?_
  refine r_iload_n hE 0 dX7_fallDown_g3.2.2.2.1 rfl rfl ?_
  refine c_callVi hE hm [.int x2] [] ck_X7_107 (cr_fg hm rfl) (kc_fg_typeOf h) (by decide) rfl rfl (Nat.le_of_ble_eq_true rfl) dX7_fallDown_g3.2.2.2.2.1 (fun s3 r4 h => ?_)
  refine r_case (0 : Int32) h (fun q0 h => ?_) (fun q0 h => ?_)
  · refine r_tableAt (off := 44) hE (0 : Int32) 152 dX7_fallDown_g3.2.2.2.2.2.1 q0 (by decide) (by decide) (by decide) (by decide) ?_
    refine r_aload_n hE 1 dX7_fallDown_g3.2.2.2.2.2.2.1 rfl rfl ?_
    refine r_aload_n hE 1 dX7_fallDown_g3.2.2.2.2.2.2.2.1 rfl rfl ?_
    obtain ⟨hj, h⟩ := h
    refine cg_ru_figure hE hm fk_X7_44 dX7_fallDown_g3.2.2.2.2.2.2.2.2.1 hj ?_
    refine r_iload_n hE 0 dX7_fallDown_g3.2.2.2.2.2.2.2.2.2.1 rfl rfl ?_
    refine c_callVi hE hm [.int x2] [.ref (G.1 1200)] ck_X7_110 (cr_fg hm rfl) (kc_fg_dataOf h) (by decide) rfl rfl (Nat.le_of_ble_eq_true rfl) dX7_fallDown_g3.2.2.2.2.2.2.2.2.2.2.1 (fun s5 r6 h => ?_)
    refine r_iconst (v := (-1 : Int32)) hE dX7_fallDown_g3.2.2.2.2.2.2.2.2.2.2.2.1 (by decide) ?_
    refine c_callVv hE hm [.int r6, .int (-1 : Int32)] [] ck_X7_127 (cr_ru hm rfl) (kc_ru_hold h) (by decide) rfl rfl (Nat.le_of_ble_eq_true rfl) dX7_fallDown_g3.2.2.2.2.2.2.2.2.2.2.2.2.1 (fun s7 h => ?_)
    refine r_aload_n hE 1 dX7_fallDown_g3.2.2.2.2.2.2.2.2.2.2.2.2.2.1 rfl rfl ?_
    refine c_callVv hE hm [] [] ck_X7_168 (cr_ru hm rfl) (kc_ru_drop h) (by decide) rfl rfl (Nat.le_of_ble_eq_true rfl) dX7_fallDown_g3.2.2.2.2.2.2.2.2.2.2.2.2.2.2.1 (fun s8 h => ?_)
    refine r_goto hE 214 dX7_fallDown_g3.2.2.2.2.2.2.2.2.2.2.2.2.2.2.2 (by decide) ?_
    exact c_vret hE hm dX7_fallDown_g5.2.2.2.2 h
  · refine r_case (1 : Int32) h (fun q1 h => ?_) (fun q1 h => ?_)
    · refine r_tableAt (off := 102) hE (1 : Int32) 210 dX7_fallDown_g3.2.2.2.2.2.1 q1 (by decide) (by decide) (by decide) (by decide) ?_
      refine r_pick [1] rfl ?_
      exact kc_ru_fallDown_210 hE hm _ h
    · refine r_case (2 : Int32) h (fun q2 h => ?_) (fun q2 h => ?_)
      · refine r_tableAt (off := 64) hE (2 : Int32) 172 dX7_fallDown_g3.2.2.2.2.2.1 q2 (by decide) (by decide) (by decide) (by decide) ?_
        refine r_aload_n hE 1 dX7_fallDown_g4.1 rfl rfl ?_
        refine r_aload_n hE 1 dX7_fallDown_g4.2.1 rfl rfl ?_
        obtain ⟨hj, h⟩ := h
        refine cg_ru_figure hE hm fk_X7_44 dX7_fallDown_g4.2.2.1 hj ?_
        refine r_iload_n hE 0 dX7_fallDown_g4.2.2.2.1 rfl rfl ?_
        refine c_callVi hE hm [.int x2] [.ref (G.1 1200)] ck_X7_233 (cr_fg hm rfl) (kc_fg_otherOf h) (by decide) rfl rfl (Nat.le_of_ble_eq_true rfl) dX7_fallDown_g4.2.2.2.2.1 (fun s9 r10 h => ?_)
        refine c_callVv hE hm [.int r10] [] ck_X7_219 (cr_ru hm rfl) (kc_ru_enterBlock h) (by decide) rfl rfl (Nat.le_of_ble_eq_true rfl) dX7_fallDown_g4.2.2.2.2.2.1 (fun s11 h => ?_)
        refine r_goto hE 214 dX7_fallDown_g4.2.2.2.2.2.2.1 (by decide) ?_
        exact c_vret hE hm dX7_fallDown_g5.2.2.2.2 h
      · refine r_case (3 : Int32) h (fun q3 h => ?_) (fun q3 h => ?_)
        · refine r_tableAt (off := 102) hE (3 : Int32) 210 dX7_fallDown_g3.2.2.2.2.2.1 q3 (by decide) (by decide) (by decide) (by decide) ?_
          refine r_pick [1] rfl ?_
          exact kc_ru_fallDown_210 hE hm _ h
        · refine r_case (4 : Int32) h (fun q4 h => ?_) (fun q4 h => ?_)
          · refine r_tableAt (off := 79) hE (4 : Int32) 187 dX7_fallDown_g3.2.2.2.2.2.1 q4 (by decide) (by decide) (by decide) (by decide) ?_
            refine r_aload_n hE 1 dX7_fallDown_g4.2.2.2.2.2.2.2.1 rfl rfl ?_
            refine cg_ru_told hE hm fk_X7_52 dX7_fallDown_g4.2.2.2.2.2.2.2.2.1 ?_
            refine r_iconst (v := (-1 : Int32)) hE dX7_fallDown_g4.2.2.2.2.2.2.2.2.2.1 (by decide) ?_
            refine c_callVv hE hm [.int (-1 : Int32)] [] ck_X7_239 (cr_to hm rfl) (kc_to_addStated h) (by decide) rfl rfl (Nat.le_of_ble_eq_true rfl) dX7_fallDown_g4.2.2.2.2.2.2.2.2.2.2.1 (fun s12 h => ?_)
            refine r_aload_n hE 1 dX7_fallDown_g4.2.2.2.2.2.2.2.2.2.2.2.1 rfl rfl ?_
            refine c_callVv hE hm [] [] ck_X7_168 (cr_ru hm rfl) (kc_ru_drop h) (by decide) rfl rfl (Nat.le_of_ble_eq_true rfl) dX7_fallDown_g4.2.2.2.2.2.2.2.2.2.2.2.2.1 (fun s13 h => ?_)
            refine r_goto hE 214 dX7_fallDown_g4.2.2.2.2.2.2.2.2.2.2.2.2.2.1 (by decide) ?_
            exact c_vret hE hm dX7_fallDown_g5.2.2.2.2 h
          · refine r_case (5 : Int32) h (fun q5 h => ?_) (fun q5 h => ?_)
            · refine r_tableAt (off := 102) hE (5 : Int32) 210 dX7_fallDown_g3.2.2.2.2.2.1 q5 (by decide) (by decide) (by decide) (by decide) ?_
              refine r_pick [1] rfl ?_
              exact kc_ru_fallDown_210 hE hm _ h
            · refine r_case (6 : Int32) h (fun q6 h => ?_) (fun q6 h => ?_)
              · refine r_tableAt (off := 94) hE (6 : Int32) 202 dX7_fallDown_g3.2.2.2.2.2.1 q6 (by decide) (by decide) (by decide) (by decide) ?_
                refine r_aload_n hE 1 dX7_fallDown_g4.2.2.2.2.2.2.2.2.2.2.2.2.2.2.1 rfl rfl ?_
                refine r_iconst (v := (-1 : Int32)) hE dX7_fallDown_g4.2.2.2.2.2.2.2.2.2.2.2.2.2.2.2 (by decide) ?_
                refine c_callVv hE hm [.int (-1 : Int32)] [] ck_X7_207 (cr_ru hm rfl) (kc_ru_giveBack h) (by decide) rfl rfl (Nat.le_of_ble_eq_true rfl) dX7_fallDown_g5.1 (fun s14 h => ?_)
                refine r_goto hE 214 dX7_fallDown_g5.2.1 (by decide) ?_
                exact c_vret hE hm dX7_fallDown_g5.2.2.2.2 h
              · have n0 := lv_neT q0 (show (0 : Int32).toInt = 0 by decide)
                have n1 := lv_neT q1 (show (1 : Int32).toInt = 1 by decide)
                have n2 := lv_neT q2 (show (2 : Int32).toInt = 2 by decide)
                have n3 := lv_neT q3 (show (3 : Int32).toInt = 3 by decide)
                have n4 := lv_neT q4 (show (4 : Int32).toInt = 4 by decide)
                have n5 := lv_neT q5 (show (5 : Int32).toInt = 5 by decide)
                have n6 := lv_neT q6 (show (6 : Int32).toInt = 6 by decide)
                refine r_tableOut hE 210 dX7_fallDown_g3.2.2.2.2.2.1 (by omega) (by decide) ?_
                refine r_pick [1] rfl ?_
                exact kc_ru_fallDown_210 hE hm _ h
def wc_ru_fallDown_49 (post : CS → Prop) : Nat → CS → Prop
  | 0, _ => False
  | n + 1, σ => (((c_ru_top σ) ≤ (0 : Int32)) → (wc_ru_fallDown_90 post σ)) ∧ ((¬ ((c_ru_top σ) ≤ (0 : Int32))) → (c_ru_figure σ = 300 ∧ (vp_in (c_ru_top σ) 401 ∧ (wc_fg_typeOf (fun (s15 : CS) (r16 : Int32) => ((r16 ≤ (6 : Int32)) → (wc_ru_fallDown_90 post s15)) ∧ ((¬ (r16 ≤ (6 : Int32))) → (∀ s17 : CS, s17 = c_ru_top_s s15 ((c_ru_top s15) - (1 : Int32)) → wc_ru_fallDown_49 post n s17))) σ (c_ru_node σ (c_ru_top σ).toNatClampNeg)))))
set_option maxRecDepth 20000 in
theorem kc_ru_fallDown_49 {E : gEnv} {l : Launch} {D : va_G} {G : gAd} {post : CS → Prop} (hE : gOK E cX7_fallDown RX7 none 4) (hm : cOK E l D G (pV post) 3) : ∀ (n : Nat) (σ : CS), wc_ru_fallDown_49 post n σ → GW E (cW G σ) 49 [(0, .ref (G.1 1200))] [] := by
  intro n
  induction n with
  | zero => intro σ h; exact h.elim
  | succ n ih =>
    intro σ h
    rw [wc_ru_fallDown_49] at h
    have hN := hm.2.2.2.2.2.2.1
    refine r_aload_n hE 0 dX7_fallDown_g1.2.2.2.2.2.2.2.1 rfl rfl ?_
    refine cg_ru_top hE hm fk_X7_28 dX7_fallDown_g1.2.2.2.2.2.2.2.2.1 ?_
    refine r_if_le hE 90 dX7_fallDown_g1.2.2.2.2.2.2.2.2.2.1 (by decide) h (fun h => ?_) (fun h => ?_)
    · exact kc_ru_fallDown_90 hE hm _ h
    · refine r_aload_n hE 0 dX7_fallDown_g1.2.2.2.2.2.2.2.2.2.2.1 rfl rfl ?_
      obtain ⟨hj, h⟩ := h
      refine cg_ru_figure hE hm fk_X7_44 dX7_fallDown_g1.2.2.2.2.2.2.2.2.2.2.2.1 hj ?_
      refine r_aload_n hE 0 dX7_fallDown_g1.2.2.2.2.2.2.2.2.2.2.2.2.1 rfl rfl ?_
      refine cg_ru_node hE hm fk_X7_11 dX7_fallDown_g1.2.2.2.2.2.2.2.2.2.2.2.2.2.1 ?_
      refine r_aload_n hE 0 dX7_fallDown_g1.2.2.2.2.2.2.2.2.2.2.2.2.2.2.1 rfl rfl ?_
      refine cg_ru_top hE hm fk_X7_28 dX7_fallDown_g1.2.2.2.2.2.2.2.2.2.2.2.2.2.2.2 ?_
      obtain ⟨hi, h⟩ := h
      refine cl_ru_node hE hm dX7_fallDown_g2.1 hi ?_
      refine c_callVi hE hm [.int (c_ru_node σ (c_ru_top σ).toNatClampNeg)] [] ck_X7_107 (cr_fg hm rfl) (kc_fg_typeOf h) (by decide) rfl rfl (Nat.le_of_ble_eq_true rfl) dX7_fallDown_g2.2.1 (fun s15 r16 h => ?_)
      refine r_bipush (v := (6 : Int32)) hE dX7_fallDown_g2.2.2.1 (by decide) ?_
      refine r_icmp_le hE 90 dX7_fallDown_g2.2.2.2.1 (by decide) h (fun h => ?_) (fun h => ?_)
      · exact kc_ru_fallDown_90 hE hm _ h
      · refine r_aload_n hE 0 dX7_fallDown_g2.2.2.2.2.1 rfl rfl ?_
        refine r_dup hE dX7_fallDown_g2.2.2.2.2.2.1 rfl ?_
        refine cg_ru_top hE hm fk_X7_28 dX7_fallDown_g2.2.2.2.2.2.2.1 ?_
        refine r_iconst (v := (1 : Int32)) hE dX7_fallDown_g2.2.2.2.2.2.2.2.1 (by decide) ?_
        refine r_isub hE dX7_fallDown_g2.2.2.2.2.2.2.2.2.1 ?_
        refine cp_ru_top hE hm fk_X7_28 dX7_fallDown_g2.2.2.2.2.2.2.2.2.2.1 h (fun s17 h => ?_)
        refine r_goto hE 49 dX7_fallDown_g2.2.2.2.2.2.2.2.2.2.2.1 (by decide) ?_
        exact ih _ h
def wc_ru_fallDown (post : CS → Prop) (σ : CS) (a1 : Int32) : Prop := wc_SX12_inside (fun (s18 : CS) (r19 : Int32) => ((¬ (r19 = (0 : Int32))) → (c_ru_figure s18 = 300 ∧ (vp_in (c_ru_top s18) 401 ∧ (wc_fg_atOf (fun (s20 : CS) (r21 : Int32) => wc_to_addFall (fun (s22 : CS) => (((c_to_spent s22) = (0 : Int32)) → (∃ k : Nat, wc_ru_fallDown_49 post k s22)) ∧ ((¬ ((c_to_spent s22) = (0 : Int32))) → (post s22))) s20 a1 r21) s18 (c_ru_node s18 (c_ru_top s18).toNatClampNeg))))) ∧ ((r19 = (0 : Int32)) → (post s18))) σ (c_ru_top σ) (401 : Int32)
set_option maxRecDepth 20000 in
theorem kc_ru_fallDown {l : Launch} {D : va_G} {G : gAd} {post : CS → Prop} {σ : CS} {a1 : Int32} (h : wc_ru_fallDown post σ a1) : cMet l D G yX7_fallDown cX7_fallDown 3 none 4 [.ref (G.1 1200), .int a1] σ (pV post) := by
  unfold wc_ru_fallDown at h
  refine c_enter (own := RX7) (by decide +kernel) rfl [(0, .ref (G.1 1200)), (1, .int a1)] rfl (Nat.le_of_ble_eq_true rfl) ?_
  intro E hE hm
  have hN := hm.2.2.2.2.2.2.1
  refine r_aload_n hE 0 dX7_fallDown_g0.1 rfl rfl ?_
  refine cg_ru_top hE hm fk_X7_28 dX7_fallDown_g0.2.1 ?_
  refine r_sipush (v := (401 : Int32)) hE dX7_fallDown_g0.2.2.1 (by decide) ?_
  refine c_callSNi hE hm [.int (c_ru_top σ), .int (401 : Int32)] [] ck_X7_92 cw_X7_92 (kc_SX12_inside h) (by decide) rfl rfl (Nat.le_of_ble_eq_true rfl) dX7_fallDown_g0.2.2.2.1 (fun s18 r19 h => ?_)
  refine r_if_ne hE 14 dX7_fallDown_g0.2.2.2.2.1 (by decide) h (fun h => ?_) (fun h => ?_)
  · refine r_aload_n hE 0 dX7_fallDown_g0.2.2.2.2.2.2.1 rfl rfl ?_
    refine cg_ru_told hE hm fk_X7_52 dX7_fallDown_g0.2.2.2.2.2.2.2.1 ?_
    refine r_iload_n hE 1 dX7_fallDown_g0.2.2.2.2.2.2.2.2.1 rfl rfl ?_
    refine r_aload_n hE 0 dX7_fallDown_g0.2.2.2.2.2.2.2.2.2.1 rfl rfl ?_
    obtain ⟨hj, h⟩ := h
    refine cg_ru_figure hE hm fk_X7_44 dX7_fallDown_g0.2.2.2.2.2.2.2.2.2.2.1 hj ?_
    refine r_aload_n hE 0 dX7_fallDown_g0.2.2.2.2.2.2.2.2.2.2.2.1 rfl rfl ?_
    refine cg_ru_node hE hm fk_X7_11 dX7_fallDown_g0.2.2.2.2.2.2.2.2.2.2.2.2.1 ?_
    refine r_aload_n hE 0 dX7_fallDown_g0.2.2.2.2.2.2.2.2.2.2.2.2.2.1 rfl rfl ?_
    refine cg_ru_top hE hm fk_X7_28 dX7_fallDown_g0.2.2.2.2.2.2.2.2.2.2.2.2.2.2.1 ?_
    obtain ⟨hi, h⟩ := h
    refine cl_ru_node hE hm dX7_fallDown_g0.2.2.2.2.2.2.2.2.2.2.2.2.2.2.2 hi ?_
    refine c_callVi hE hm [.int (c_ru_node s18 (c_ru_top s18).toNatClampNeg)] [.int a1, .ref (G.1 1100)] ck_X7_245 (cr_fg hm rfl) (kc_fg_atOf h) (by decide) rfl rfl (Nat.le_of_ble_eq_true rfl) dX7_fallDown_g1.1 (fun s20 r21 h => ?_)
    refine c_callVv hE hm [.int a1, .int r21] [] ck_X7_248 (cr_to hm rfl) (kc_to_addFall h) (by decide) rfl rfl (Nat.le_of_ble_eq_true rfl) dX7_fallDown_g1.2.1 (fun s22 h => ?_)
    refine r_aload_n hE 0 dX7_fallDown_g1.2.2.1 rfl rfl ?_
    refine cg_ru_told hE hm fk_X7_52 dX7_fallDown_g1.2.2.2.1 ?_
    refine cg_to_spent hE hm fk_X7_96 dX7_fallDown_g1.2.2.2.2.1 ?_
    refine r_if_eq hE 49 dX7_fallDown_g1.2.2.2.2.2.1 (by decide) h (fun h => ?_) (fun h => ?_)
    · refine r_pick [0] rfl ?_
      obtain ⟨k, h⟩ := h
      exact kc_ru_fallDown_49 hE hm k _ h
    · exact c_vret hE hm dX7_fallDown_g1.2.2.2.2.2.2.1 h
  · exact c_vret hE hm dX7_fallDown_g0.2.2.2.2.2.1 h
