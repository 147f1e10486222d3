/-! sweep -/
def wm_sweep_192 (post : MS → Int32 → Prop) (lp105 : MS → Int32 → Int32 → Int32 → Int32 → Int32 → Prop) (σ : MS) (v1 : Int32) (v4 : Int32) (v5 : Int32) (v7 : Int32) (t0 : Int32) (t1 : Int32) : Prop := ∀ x1 : Int32, x1 = t0 + t1 → ∀ x2 : Int32, x2 = v7 + (1 : Int32) → lp105 σ v1 v4 v5 x1 x2
set_option maxRecDepth 20000 in
theorem km_sweep_192 {E : gEnv} {l : Launch} {D : va_G} {cl : List vw_C} {G : gAd} {post : MS → Int32 → Prop} (hE : gOK E cX13_sweep RX13 (some .int) 13) (hm : mOK E l D cl G (qI post) 8) (hF : gFin E) {lp105 : MS → Int32 → Int32 → Int32 → Int32 → Int32 → Prop} (hl105 : ∀ (σ : MS) (v1 : Int32) (v4 : Int32) (v5 : Int32) (v6 : Int32) (v7 : Int32), lp105 σ v1 v4 v5 v6 v7 → GW E (mW G σ) 105 [(0, .ref (G.1 0)), (1, .int v1), (4, .int v4), (5, .int v5), (6, .int v6), (7, .int v7)] []) (σ : MS) (v1 : Int32) (v4 : Int32) (v5 : Int32) (v7 : Int32) (t0 : Int32) (t1 : Int32) (h : wm_sweep_192 post lp105 σ v1 v4 v5 v7 t0 t1) : GW E (mW G σ) 192 [(0, .ref (G.1 0)), (1, .int v1), (4, .int v4), (5, .int v5), (7, .int v7)] [.int t1, .int t0] := by
  unfold wm_sweep_192 at h
  have hN := hm.2.2.2.2.2.2.1
  refine r_iadd hE dX13_sweep_g6.2.2.2.2.2.2.2.2.2.2.2.2.2.2.1 ?_
  refine r_topi h (fun x1 ex1 h => ?_)
  refine r_istore hE [(6, .int x1), (0, .ref (G.1 0)), (1, .int v1), (4, .int v4), (5, .int v5), (7, .int v7)] dX13_sweep_g6.2.2.2.2.2.2.2.2.2.2.2.2.2.2.2 hN (by decide) rfl ?_
  obtain ⟨x2, ex2⟩ : ∃ z : Int32, z = v7 + (1 : Int32) := ⟨_, rfl⟩
  have h := h x2 ex2
  refine r_iinc (v := x2) hE [(7, .int x2), (6, .int x1), (0, .ref (G.1 0)), (1, .int v1), (4, .int v4), (5, .int v5)] 5 dX13_sweep_g7.1 rfl (by rw [ex2]; rfl) hN (by decide) rfl ?_
  refine r_goto hE 105 dX13_sweep_g7.2.1 (by decide) ?_
  refine r_pick [2, 3, 4, 5, 1, 0] rfl ?_
  exact hl105 _ _ _ _ _ _ h
def wm_sweep_105 (post : MS → Int32 → Prop) : Nat → MS → Int32 → Int32 → Int32 → Int32 → Int32 → Prop
  | 0, _, _, _, _, _, _ => False
  | n + 1, σ, v1, v4, v5, v6, v7 => ((v4 < v7) → (∀ s3 : MS, s3 = m_sweptMany_s σ (v4 + (1 : Int32)) → wm_lay (fun (s4 : MS) => post s4 v6) s3 (0 : Int32))) ∧ ((¬ (v4 < v7)) → (vp_in ((2 : Int32) * v7) 42 ∧ (vp_in ((2 : Int32) * v7) 42 ∧ (vp_in (((2 : Int32) * v7) + (1 : Int32)) 42 ∧ (vp_in (((2 : Int32) * v7) + (1 : Int32)) 42 ∧ (wm_place_ (fun (s5 : MS) => wm_runOnce (fun (s6 : MS) => wm_statedOr (fun (s7 : MS) (r8 : Int32) => vp_in v7 21 ∧ (∀ s9 : MS, s9 = m_swept_s s7 v7.toNatClampNeg r8 → vp_in v7 21 ∧ (((¬ ((m_swept s9 v7.toNatClampNeg) = (1 : Int32))) → (wm_sweep_192 post (fun (ys : MS) (y0 : Int32) (y1 : Int32) (y2 : Int32) (y3 : Int32) (y4 : Int32) => wm_sweep_105 post n ys y0 y1 y2 y3 y4) s9 v1 v4 v5 v7 v6 (0 : Int32))) ∧ (((m_swept s9 v7.toNatClampNeg) = (1 : Int32)) → (wm_sweep_192 post (fun (ys : MS) (y0 : Int32) (y1 : Int32) (y2 : Int32) (y3 : Int32) (y4 : Int32) => wm_sweep_105 post n ys y0 y1 y2 y3 y4) s9 v1 v4 v5 v7 v6 (1 : Int32)))))) s6 v5) s5) σ v1 (m_wayTop σ ((2 : Int32) * v7).toNatClampNeg) (m_wayBottom σ ((2 : Int32) * v7).toNatClampNeg) (m_wayTop σ (((2 : Int32) * v7) + (1 : Int32)).toNatClampNeg) (m_wayBottom σ (((2 : Int32) * v7) + (1 : Int32)).toNatClampNeg)))))))
set_option maxRecDepth 20000 in
theorem km_sweep_105 {E : gEnv} {l : Launch} {D : va_G} {cl : List vw_C} {G : gAd} {post : MS → Int32 → Prop} (hE : gOK E cX13_sweep RX13 (some .int) 13) (hm : mOK E l D cl G (qI post) 8) (hF : gFin E) : ∀ (n : Nat) (σ : MS) (v1 : Int32) (v4 : Int32) (v5 : Int32) (v6 : Int32) (v7 : Int32), wm_sweep_105 post n σ v1 v4 v5 v6 v7 → GW E (mW G σ) 105 [(0, .ref (G.1 0)), (1, .int v1), (4, .int v4), (5, .int v5), (6, .int v6), (7, .int v7)] [] := by
  intro n
  induction n with
  | zero => intro σ v1 v4 v5 v6 v7 h; exact h.elim
  | succ n ih =>
    intro σ v1 v4 v5 v6 v7 h
    rw [wm_sweep_105] at h
    have hN := hm.2.2.2.2.2.2.1
    refine r_iload hE 5 dX13_sweep_g3.2.2.2.2.2.2.2.2.2.1 rfl ?_
    refine r_iload hE 2 dX13_sweep_g3.2.2.2.2.2.2.2.2.2.2.1 rfl ?_
    refine r_icmp_gt hE 201 dX13_sweep_g3.2.2.2.2.2.2.2.2.2.2.2.1 (by decide) h (fun h => ?_) (fun h => ?_)
    · refine r_aload_n hE 0 dX13_sweep_g7.2.2.1 rfl rfl ?_
      refine r_iload hE 2 dX13_sweep_g7.2.2.2.1 rfl ?_
      refine r_iconst (v := (1 : Int32)) hE dX13_sweep_g7.2.2.2.2.1 (by decide) ?_
      refine r_iadd hE dX13_sweep_g7.2.2.2.2.2.1 ?_
      refine mp_sweptMany hE hm dX13_sweep_g7.2.2.2.2.2.2.1 h (fun s3 h => ?_)
      refine r_aload_n hE 0 dX13_sweep_g7.2.2.2.2.2.2.2.1 rfl rfl ?_
      refine r_iconst (v := (0 : Int32)) hE dX13_sweep_g7.2.2.2.2.2.2.2.2.1 (by decide) ?_
      refine m_callVv hE hm [.int (0 : Int32)] [] mc_lay (km_lay hm.2.2.2.2.2.2.2.2 h) (by decide) rfl rfl (Nat.le_of_ble_eq_true rfl) dX13_sweep_g7.2.2.2.2.2.2.2.2.2.1 (fun s4 h => ?_)
      refine r_iload hE 4 dX13_sweep_g7.2.2.2.2.2.2.2.2.2.2.1 rfl ?_
      exact m_iret hE hm hF dX13_sweep_g7.2.2.2.2.2.2.2.2.2.2.2 h
    · refine r_aload_n hE 0 dX13_sweep_g3.2.2.2.2.2.2.2.2.2.2.2.2.1 rfl rfl ?_
      refine r_iload_n hE 1 dX13_sweep_g3.2.2.2.2.2.2.2.2.2.2.2.2.2.1 rfl rfl ?_
      refine r_aload_n hE 0 dX13_sweep_g3.2.2.2.2.2.2.2.2.2.2.2.2.2.2.1 rfl rfl ?_
      refine mg_wayTop hE hm dX13_sweep_g3.2.2.2.2.2.2.2.2.2.2.2.2.2.2.2 ?_
      refine r_iconst (v := (2 : Int32)) hE dX13_sweep_g4.1 (by decide) ?_
      refine r_iload hE 5 dX13_sweep_g4.2.1 rfl ?_
      refine r_imul hE dX13_sweep_g4.2.2.1 ?_
      obtain ⟨hi, h⟩ := h
      refine ml_wayTop hE hm dX13_sweep_g4.2.2.2.1 hi ?_
      refine r_aload_n hE 0 dX13_sweep_g4.2.2.2.2.1 rfl rfl ?_
      refine mg_wayBottom hE hm dX13_sweep_g4.2.2.2.2.2.1 ?_
      refine r_iconst (v := (2 : Int32)) hE dX13_sweep_g4.2.2.2.2.2.2.1 (by decide) ?_
      refine r_iload hE 5 dX13_sweep_g4.2.2.2.2.2.2.2.1 rfl ?_
      refine r_imul hE dX13_sweep_g4.2.2.2.2.2.2.2.2.1 ?_
      obtain ⟨hi, h⟩ := h
      refine ml_wayBottom hE hm dX13_sweep_g4.2.2.2.2.2.2.2.2.2.1 hi ?_
      refine r_aload_n hE 0 dX13_sweep_g4.2.2.2.2.2.2.2.2.2.2.1 rfl rfl ?_
      refine mg_wayTop hE hm dX13_sweep_g4.2.2.2.2.2.2.2.2.2.2.2.1 ?_
      refine r_iconst (v := (2 : Int32)) hE dX13_sweep_g4.2.2.2.2.2.2.2.2.2.2.2.2.1 (by decide) ?_
      refine r_iload hE 5 dX13_sweep_g4.2.2.2.2.2.2.2.2.2.2.2.2.2.1 rfl ?_
      refine r_imul hE dX13_sweep_g4.2.2.2.2.2.2.2.2.2.2.2.2.2.2.1 ?_
      refine r_iconst (v := (1 : Int32)) hE dX13_sweep_g4.2.2.2.2.2.2.2.2.2.2.2.2.2.2.2 (by decide) ?_
      refine r_iadd hE dX13_sweep_g5.1 ?_
      obtain ⟨hi, h⟩ := h
      refine ml_wayTop hE hm dX13_sweep_g5.2.1 hi ?_
      refine r_aload_n hE 0 dX13_sweep_g5.2.2.1 rfl rfl ?_
      refine mg_wayBottom hE hm dX13_sweep_g5.2.2.2.1 ?_
      refine r_iconst (v := (2 : Int32)) hE dX13_sweep_g5.2.2.2.2.1 (by decide) ?_
      refine r_iload hE 5 dX13_sweep_g5.2.2.2.2.2.1 rfl ?_
      refine r_imul hE dX13_sweep_g5.2.2.2.2.2.2.1 ?_
      refine r_iconst (v := (1 : Int32)) hE dX13_sweep_g5.2.2.2.2.2.2.2.1 (by decide) ?_
      refine r_iadd hE dX13_sweep_g5.2.2.2.2.2.2.2.2.1 ?_
      obtain ⟨hi, h⟩ := h
      refine ml_wayBottom hE hm dX13_sweep_g5.2.2.2.2.2.2.2.2.2.1 hi ?_
      refine m_callVv hE hm [.int v1, .long (m_wayTop σ ((2 : Int32) * v7).toNatClampNeg), .long (m_wayBottom σ ((2 : Int32) * v7).toNatClampNeg), .long (m_wayTop σ (((2 : Int32) * v7) + (1 : Int32)).toNatClampNeg), .long (m_wayBottom σ (((2 : Int32) * v7) + (1 : Int32)).toNatClampNeg)] [] mc_place_ (km_place_ hm.2.2.2.2.2.2.2.2 h) (by decide) rfl rfl (Nat.le_of_ble_eq_true rfl) dX13_sweep_g5.2.2.2.2.2.2.2.2.2.2.1 (fun s5 h => ?_)
      refine r_aload_n hE 0 dX13_sweep_g5.2.2.2.2.2.2.2.2.2.2.2.1 rfl rfl ?_
      refine m_callVv hE hm [] [] mc_runOnce (km_runOnce hm.2.2.2.2.2.2.2.2 h) (by decide) rfl rfl (Nat.le_of_ble_eq_true rfl) dX13_sweep_g5.2.2.2.2.2.2.2.2.2.2.2.2.1 (fun s6 h => ?_)
      refine r_aload_n hE 0 dX13_sweep_g5.2.2.2.2.2.2.2.2.2.2.2.2.2.1 rfl rfl ?_
      refine mg_swept hE hm dX13_sweep_g5.2.2.2.2.2.2.2.2.2.2.2.2.2.2.1 ?_
      refine r_iload hE 5 dX13_sweep_g5.2.2.2.2.2.2.2.2.2.2.2.2.2.2.2 rfl ?_
      refine r_aload_n hE 0 dX13_sweep_g6.1 rfl rfl ?_
      refine r_iload hE 3 dX13_sweep_g6.2.1 rfl ?_
      refine m_callVi hE hm [.int v5] [.int v7, .ref (G.1 98)] mc_statedOr (km_statedOr hm.2.2.2.2.2.2.2.2 h) (by decide) rfl rfl (Nat.le_of_ble_eq_true rfl) dX13_sweep_g6.2.2.1 (fun s7 r8 h => ?_)
      obtain ⟨hi, h⟩ := h
      refine ms_swept hE hm dX13_sweep_g6.2.2.2.1 hi h (fun s9 h => ?_)
      refine r_iload hE 4 dX13_sweep_g6.2.2.2.2.1 rfl ?_
      refine r_aload_n hE 0 dX13_sweep_g6.2.2.2.2.2.1 rfl rfl ?_
      refine mg_swept hE hm dX13_sweep_g6.2.2.2.2.2.2.1 ?_
      refine r_iload hE 5 dX13_sweep_g6.2.2.2.2.2.2.2.1 rfl ?_
      obtain ⟨hi, h⟩ := h
      refine ml_swept hE hm dX13_sweep_g6.2.2.2.2.2.2.2.2.1 hi ?_
      refine r_iconst (v := (1 : Int32)) hE dX13_sweep_g6.2.2.2.2.2.2.2.2.2.1 (by decide) ?_
      refine r_icmp_ne hE 191 dX13_sweep_g6.2.2.2.2.2.2.2.2.2.2.1 (by decide) h (fun h => ?_) (fun h => ?_)
      · refine r_iconst (v := (0 : Int32)) hE dX13_sweep_g6.2.2.2.2.2.2.2.2.2.2.2.2.2.1 (by decide) ?_
        refine r_pick [0, 1, 2, 3, 5] rfl ?_
        exact km_sweep_192 hE hm hF ih _ _ _ _ _ _ _ h
      · refine r_iconst (v := (1 : Int32)) hE dX13_sweep_g6.2.2.2.2.2.2.2.2.2.2.2.1 (by decide) ?_
        refine r_goto hE 192 dX13_sweep_g6.2.2.2.2.2.2.2.2.2.2.2.2.1 (by decide) ?_
        refine r_pick [0, 1, 2, 3, 5] rfl ?_
        exact km_sweep_192 hE hm hF ih _ _ _ _ _ _ _ h
def wm_sweep (post : MS → Int32 → Prop) (σ : MS) (a1 : Int32) (a2 : Int32) (a3 : Int32) (a4 : Int32) (a5 : Int32) : Prop := ∀ s10 : MS, s10 = m_code_s σ (0 : Int32) → (((m_hasRun s10) = (0 : Int32)) → (post s10 (-2000000001 : Int32))) ∧ ((¬ ((m_hasRun s10) = (0 : Int32))) → (wm_in (fun (s11 : MS) (r12 : Int32) => ((¬ (r12 = (0 : Int32))) → (wm_in (fun (s13 : MS) (r14 : Int32) => ((r14 = (0 : Int32)) → (post s13 (-2000000002 : Int32))) ∧ ((¬ (r14 = (0 : Int32))) → (((a5 < (0 : Int32)) → (post s13 (-2000000002 : Int32))) ∧ ((¬ (a5 < (0 : Int32))) → (wm_findWay (fun (s15 : MS) (r16 : Int32) => ((¬ (r16 = (0 : Int32))) → (((¬ ((m_hasFigure s15) = (0 : Int32))) → ((((((m_runs s15) + a4) + (1 : Int32)) ≤ (600 : Int32)) → (wm_lay (fun (s17 : MS) => ∃ k : Nat, wm_sweep_105 post k s17 a1 a4 a5 (0 : Int32) (0 : Int32)) s15 (1 : Int32))) ∧ ((¬ ((((m_runs s15) + a4) + (1 : Int32)) ≤ (600 : Int32))) → (post s15 (-2000000004 : Int32))))) ∧ (((m_hasFigure s15) = (0 : Int32)) → (post s15 (-2000000003 : Int32))))) ∧ ((r16 = (0 : Int32)) → (post s15 (-2000000002 : Int32)))) s13 a1 a2 a3 a4))))) s11 (a4.toInt64) (0 : Int64) (20 : Int64))) ∧ ((r12 = (0 : Int32)) → (post s11 (-2000000001 : Int32)))) s10 (a1.toInt64) (0 : Int64) (((m_frees s10) - (1 : Int32)).toInt64)))
set_option maxRecDepth 20000 in
theorem km_sweep {l : Launch} {D : va_G} {cl : List vw_C} {G : gAd} {post : MS → Int32 → Prop} (hcl : mC cl) {σ : MS} {a1 : Int32} {a2 : Int32} {a3 : Int32} {a4 : Int32} {a5 : Int32} (h : wm_sweep post σ a1 a2 a3 a4 a5) : mMet l D cl G yX13_sweep cX13_sweep 8 (some .int) 13 [.ref (G.1 0), .int a1, .int a2, .int a3, .int a4, .int a5] σ (qI post) := by
  unfold wm_sweep at h
  refine m_enter hcl (by decide +kernel) rfl [(0, .ref (G.1 0)), (1, .int a1), (2, .int a2), (3, .int a3), (4, .int a4), (5, .int a5)] rfl (Nat.le_of_ble_eq_true rfl) ?_
  intro E hE hm hF
  have hN := hm.2.2.2.2.2.2.1
  refine r_aload_n hE 0 dX13_sweep_g0.1 rfl rfl ?_
  refine r_iconst (v := (0 : Int32)) hE dX13_sweep_g0.2.1 (by decide) ?_
  refine mp_code hE hm dX13_sweep_g0.2.2.1 h (fun s10 h => ?_)
  refine r_aload_n hE 0 dX13_sweep_g0.2.2.2.1 rfl rfl ?_
  refine mg_hasRun hE hm dX13_sweep_g0.2.2.2.2.1 ?_
  refine r_if_eq hE 28 dX13_sweep_g0.2.2.2.2.2.1 (by decide) h (fun h => ?_) (fun h => ?_)
  · refine r_ldcw (v := (-2000000001 : Int32)) hE dX13_sweep_g1.1 (gTb_11 (List.mem_of_getElem? (i := 186) rfl) rfl) ?_
    exact m_iret hE hm hF dX13_sweep_g1.2.1 h
  · refine r_iload_n hE 1 dX13_sweep_g0.2.2.2.2.2.2.1 rfl rfl ?_
    refine r_i2l hE dX13_sweep_g0.2.2.2.2.2.2.2.1 ?_
    refine r_lconst (v := (0 : Int64)) hE dX13_sweep_g0.2.2.2.2.2.2.2.2.1 (by decide) ?_
    refine r_aload_n hE 0 dX13_sweep_g0.2.2.2.2.2.2.2.2.2.1 rfl rfl ?_
    refine mg_frees hE hm dX13_sweep_g0.2.2.2.2.2.2.2.2.2.2.1 ?_
    refine r_iconst (v := (1 : Int32)) hE dX13_sweep_g0.2.2.2.2.2.2.2.2.2.2.2.1 (by decide) ?_
    refine r_isub hE dX13_sweep_g0.2.2.2.2.2.2.2.2.2.2.2.2.1 ?_
    refine r_i2l hE dX13_sweep_g0.2.2.2.2.2.2.2.2.2.2.2.2.2.1 ?_
    refine m_callSi hE hm [.long (a1.toInt64), .long (0 : Int64), .long (((m_frees s10) - (1 : Int32)).toInt64)] [] mc_in (km_in hm.2.2.2.2.2.2.2.2 h) (by decide) rfl rfl (Nat.le_of_ble_eq_true rfl) dX13_sweep_g0.2.2.2.2.2.2.2.2.2.2.2.2.2.2.1 (fun s11 r12 h => ?_)
    refine r_if_ne hE 32 dX13_sweep_g0.2.2.2.2.2.2.2.2.2.2.2.2.2.2.2 (by decide) h (fun h => ?_) (fun h => ?_)
    · refine r_iload hE 4 dX13_sweep_g1.2.2.1 rfl ?_
      refine r_i2l hE dX13_sweep_g1.2.2.2.1 ?_
      refine r_lconst (v := (0 : Int64)) hE dX13_sweep_g1.2.2.2.2.1 (by decide) ?_
      refine r_ldc2 (v := (20 : Int64)) hE dX13_sweep_g1.2.2.2.2.2.1 (gTb_10 (List.mem_of_getElem? (i := 188) rfl) rfl) ?_
      refine m_callSi hE hm [.long (a4.toInt64), .long (0 : Int64), .long (20 : Int64)] [] mc_in (km_in hm.2.2.2.2.2.2.2.2 h) (by decide) rfl rfl (Nat.le_of_ble_eq_true rfl) dX13_sweep_g1.2.2.2.2.2.2.1 (fun s13 r14 h => ?_)
      refine r_if_eq hE 62 dX13_sweep_g1.2.2.2.2.2.2.2.1 (by decide) h (fun h => ?_) (fun h => ?_)
      · refine r_ldc (v := (-2000000002 : Int32)) hE dX13_sweep_g2.2.1 (gTb_9 (List.mem_of_getElem? (i := 31) rfl) rfl) ?_
        exact m_iret hE hm hF dX13_sweep_g2.2.2.1 h
      · refine r_iload hE 5 dX13_sweep_g1.2.2.2.2.2.2.2.2.1 rfl ?_
        refine r_if_lt hE 62 dX13_sweep_g1.2.2.2.2.2.2.2.2.2.1 (by decide) h (fun h => ?_) (fun h => ?_)
        · refine r_ldc (v := (-2000000002 : Int32)) hE dX13_sweep_g2.2.1 (gTb_9 (List.mem_of_getElem? (i := 31) rfl) rfl) ?_
          exact m_iret hE hm hF dX13_sweep_g2.2.2.1 h
        · refine r_aload_n hE 0 dX13_sweep_g1.2.2.2.2.2.2.2.2.2.2.1 rfl rfl ?_
          refine r_iload_n hE 1 dX13_sweep_g1.2.2.2.2.2.2.2.2.2.2.2.1 rfl rfl ?_
          refine r_iload_n hE 2 dX13_sweep_g1.2.2.2.2.2.2.2.2.2.2.2.2.1 rfl rfl ?_
          refine r_iload_n hE 3 dX13_sweep_g1.2.2.2.2.2.2.2.2.2.2.2.2.2.1 rfl rfl ?_
          refine r_iload hE 4 dX13_sweep_g1.2.2.2.2.2.2.2.2.2.2.2.2.2.2.1 rfl ?_
          refine m_callVi hE hm [.int a1, .int a2, .int a3, .int a4] [] mc_findWay (km_findWay hm.2.2.2.2.2.2.2.2 h) (by decide) rfl rfl (Nat.le_of_ble_eq_true rfl) dX13_sweep_g1.2.2.2.2.2.2.2.2.2.2.2.2.2.2.2 (fun s15 r16 h => ?_)
          refine r_if_ne hE 65 dX13_sweep_g2.1 (by decide) h (fun h => ?_) (fun h => ?_)
          · refine r_aload_n hE 0 dX13_sweep_g2.2.2.2.1 rfl rfl ?_
            refine mg_hasFigure hE hm dX13_sweep_g2.2.2.2.2.1 ?_
            refine r_if_ne hE 75 dX13_sweep_g2.2.2.2.2.2.1 (by decide) h (fun h => ?_) (fun h => ?_)
            · refine r_aload_n hE 0 dX13_sweep_g2.2.2.2.2.2.2.2.2.1 rfl rfl ?_
              refine mg_runs hE hm dX13_sweep_g2.2.2.2.2.2.2.2.2.2.1 ?_
              refine r_iload hE 4 dX13_sweep_g2.2.2.2.2.2.2.2.2.2.2.1 rfl ?_
              refine r_iadd hE dX13_sweep_g2.2.2.2.2.2.2.2.2.2.2.2.1 ?_
              refine r_iconst (v := (1 : Int32)) hE dX13_sweep_g2.2.2.2.2.2.2.2.2.2.2.2.2.1 (by decide) ?_
              refine r_iadd hE dX13_sweep_g2.2.2.2.2.2.2.2.2.2.2.2.2.2.1 ?_
              refine r_sipush (v := (600 : Int32)) hE dX13_sweep_g2.2.2.2.2.2.2.2.2.2.2.2.2.2.2.1 (by decide) ?_
              refine r_icmp_le hE 94 dX13_sweep_g2.2.2.2.2.2.2.2.2.2.2.2.2.2.2.2 (by decide) h (fun h => ?_) (fun h => ?_)
              · refine r_aload_n hE 0 dX13_sweep_g3.2.2.1 rfl rfl ?_
                refine r_iconst (v := (1 : Int32)) hE dX13_sweep_g3.2.2.2.1 (by decide) ?_
                refine m_callVv hE hm [.int (1 : Int32)] [] mc_lay (km_lay hm.2.2.2.2.2.2.2.2 h) (by decide) rfl rfl (Nat.le_of_ble_eq_true rfl) dX13_sweep_g3.2.2.2.2.1 (fun s17 h => ?_)
                refine r_iconst (v := (0 : Int32)) hE dX13_sweep_g3.2.2.2.2.2.1 (by decide) ?_
                refine r_istore hE [(6, .int (0 : Int32)), (0, .ref (G.1 0)), (1, .int a1), (2, .int a2), (3, .int a3), (4, .int a4), (5, .int a5)] dX13_sweep_g3.2.2.2.2.2.2.1 hN (by decide) rfl ?_
                refine r_iconst (v := (0 : Int32)) hE dX13_sweep_g3.2.2.2.2.2.2.2.1 (by decide) ?_
                refine r_istore hE [(7, .int (0 : Int32)), (6, .int (0 : Int32)), (0, .ref (G.1 0)), (1, .int a1), (2, .int a2), (3, .int a3), (4, .int a4), (5, .int a5)] dX13_sweep_g3.2.2.2.2.2.2.2.2.1 hN (by decide) rfl ?_
                refine r_pick [2, 3, 6, 7, 1, 0] rfl ?_
                obtain ⟨k, h⟩ := h
                exact km_sweep_105 hE hm hF k _ _ _ _ _ _ h
              · refine r_ldcw (v := (-2000000004 : Int32)) hE dX13_sweep_g3.1 (gTb_10 (List.mem_of_getElem? (i := 18) rfl) rfl) ?_
                exact m_iret hE hm hF dX13_sweep_g3.2.1 h
            · refine r_ldc (v := (-2000000003 : Int32)) hE dX13_sweep_g2.2.2.2.2.2.2.1 (gTb_9 (List.mem_of_getElem? (i := 19) rfl) rfl) ?_
              exact m_iret hE hm hF dX13_sweep_g2.2.2.2.2.2.2.2.1 h
          · refine r_ldc (v := (-2000000002 : Int32)) hE dX13_sweep_g2.2.1 (gTb_9 (List.mem_of_getElem? (i := 31) rfl) rfl) ?_
            exact m_iret hE hm hF dX13_sweep_g2.2.2.1 h
    · refine r_ldcw (v := (-2000000001 : Int32)) hE dX13_sweep_g1.1 (gTb_11 (List.mem_of_getElem? (i := 186) rfl) rfl) ?_
      exact m_iret hE hm hF dX13_sweep_g1.2.1 h
/-! swept -/
def wm_swept (post : MS → Int32 → Prop) (σ : MS) (a1 : Int32) : Prop := ∀ s1 : MS, s1 = m_code_s σ (0 : Int32) → wm_in (fun (s2 : MS) (r3 : Int32) => ((r3 = (0 : Int32)) → (post s2 (-1 : Int32))) ∧ ((¬ (r3 = (0 : Int32))) → (vp_in a1 21 ∧ (post s2 (m_swept s2 a1.toNatClampNeg))))) s1 (a1.toInt64) (0 : Int64) (((m_sweptMany s1) - (1 : Int32)).toInt64)
set_option maxRecDepth 20000 in
theorem km_swept {l : Launch} {D : va_G} {cl : List vw_C} {G : gAd} {post : MS → Int32 → Prop} (hcl : mC cl) {σ : MS} {a1 : Int32} (h : wm_swept post σ a1) : mMet l D cl G yX13_swept cX13_swept 2 (some .int) 2 [.ref (G.1 0), .int a1] σ (qI post) := by
  unfold wm_swept at h
  refine m_enter hcl (by decide +kernel) rfl [(0, .ref (G.1 0)), (1, .int a1)] rfl (Nat.le_of_ble_eq_true rfl) ?_
  intro E hE hm hF
  have hN := hm.2.2.2.2.2.2.1
  refine r_aload_n hE 0 dX13_swept_g0.1 rfl rfl ?_
  refine r_iconst (v := (0 : Int32)) hE dX13_swept_g0.2.1 (by decide) ?_
  refine mp_code hE hm dX13_swept_g0.2.2.1 h (fun s1 h => ?_)
  refine r_iload_n hE 1 dX13_swept_g0.2.2.2.1 rfl rfl ?_
  refine r_i2l hE dX13_swept_g0.2.2.2.2.1 ?_
  refine r_lconst (v := (0 : Int64)) hE dX13_swept_g0.2.2.2.2.2.1 (by decide) ?_
  refine r_aload_n hE 0 dX13_swept_g0.2.2.2.2.2.2.1 rfl rfl ?_
  refine mg_sweptMany hE hm dX13_swept_g0.2.2.2.2.2.2.2.1 ?_
  refine r_iconst (v := (1 : Int32)) hE dX13_swept_g0.2.2.2.2.2.2.2.2.1 (by decide) ?_
  refine r_isub hE dX13_swept_g0.2.2.2.2.2.2.2.2.2.1 ?_
  refine r_i2l hE dX13_swept_g0.2.2.2.2.2.2.2.2.2.2.1 ?_
  refine m_callSi hE hm [.long (a1.toInt64), .long (0 : Int64), .long (((m_sweptMany s1) - (1 : Int32)).toInt64)] [] mc_in (km_in hm.2.2.2.2.2.2.2.2 h) (by decide) rfl rfl (Nat.le_of_ble_eq_true rfl) dX13_swept_g0.2.2.2.2.2.2.2.2.2.2.2.1 (fun s2 r3 h => ?_)
  refine r_if_eq hE 30 dX13_swept_g0.2.2.2.2.2.2.2.2.2.2.2.2.1 (by decide) h (fun h => ?_) (fun h => ?_)
  · refine r_iconst (v := (-1 : Int32)) hE dX13_swept_g1.2.2.1 (by decide) ?_
    exact m_iret hE hm hF dX13_swept_g1.2.2.2 h
  · refine r_aload_n hE 0 dX13_swept_g0.2.2.2.2.2.2.2.2.2.2.2.2.2.1 rfl rfl ?_
    refine mg_swept hE hm dX13_swept_g0.2.2.2.2.2.2.2.2.2.2.2.2.2.2.1 ?_
    refine r_iload_n hE 1 dX13_swept_g0.2.2.2.2.2.2.2.2.2.2.2.2.2.2.2 rfl rfl ?_
    obtain ⟨hi, h⟩ := h
    refine ml_swept hE hm dX13_swept_g1.1 hi ?_
    refine r_goto hE 31 dX13_swept_g1.2.1 (by decide) ?_
    exact m_iret hE hm hF dX13_swept_g1.2.2.2 h
/-! tried -/
def wm_tried_193 (post : MS → Int32 → Prop) (lp67 : MS → Int32 → Int32 → Int32 → Int32 → Int32 → Int32 → Prop) (σ : MS) (v2 : Int32) (v3 : Int32) (v4 : Int32) (v5 : Int32) (v7 : Int32) (t0 : Int32) : Prop := ∀ x1 : Int32, x1 = v7 + (1 : Int32) → lp67 σ v2 v3 v4 v5 t0 x1
set_option maxRecDepth 20000 in
theorem km_tried_193 {E : gEnv} {l : Launch} {D : va_G} {cl : List vw_C} {G : gAd} {post : MS → Int32 → Prop} (hE : gOK E cX13_tried RX13 (some .int) 13) (hm : mOK E l D cl G (qI post) 11) (hF : gFin E) {lp67 : MS → Int32 → Int32 → Int32 → Int32 → Int32 → Int32 → Prop} (hl67 : ∀ (σ : MS) (v2 : Int32) (v3 : Int32) (v4 : Int32) (v5 : Int32) (v6 : Int32) (v7 : Int32), lp67 σ v2 v3 v4 v5 v6 v7 → GW E (mW G σ) 67 [(0, .ref (G.1 0)), (2, .int v2), (3, .int v3), (4, .int v4), (5, .int v5), (6, .int v6), (7, .int v7)] []) (σ : MS) (v2 : Int32) (v3 : Int32) (v4 : Int32) (v5 : Int32) (v7 : Int32) (t0 : Int32) (h : wm_tried_193 post lp67 σ v2 v3 v4 v5 v7 t0) : GW E (mW G σ) 193 [(0, .ref (G.1 0)), (2, .int v2), (3, .int v3), (4, .int v4), (5, .int v5), (7, .int v7)] [.int t0] := by
  unfold wm_tried_193 at h
  have hN := hm.2.2.2.2.2.2.1
  refine r_istore hE [(6, .int t0), (0, .ref (G.1 0)), (2, .int v2), (3, .int v3), (4, .int v4), (5, .int v5), (7, .int v7)] dX13_tried_g6.2.2.2.2.2.2.2.2.1 hN (by decide) rfl ?_
  obtain ⟨x1, ex1⟩ : ∃ z : Int32, z = v7 + (1 : Int32) := ⟨_, rfl⟩
  have h := h x1 ex1
  refine r_iinc (v := x1) hE [(7, .int x1), (6, .int t0), (0, .ref (G.1 0)), (2, .int v2), (3, .int v3), (4, .int v4), (5, .int v5)] 6 dX13_tried_g6.2.2.2.2.2.2.2.2.2.1 rfl (by rw [ex1]; rfl) hN (by decide) rfl ?_
  refine r_goto hE 67 dX13_tried_g6.2.2.2.2.2.2.2.2.2.2.1 (by decide) ?_
  refine r_pick [2, 3, 4, 5, 6, 1, 0] rfl ?_
  exact hl67 _ _ _ _ _ _ _ h
def wm_tried_191 (post : MS → Int32 → Prop) (lp67 : MS → Int32 → Int32 → Int32 → Int32 → Int32 → Int32 → Prop) (σ : MS) (v2 : Int32) (v3 : Int32) (v4 : Int32) (v5 : Int32) (v6 : Int32) (v7 : Int32) : Prop := wm_tried_193 post lp67 σ v2 v3 v4 v5 v7 v6
set_option maxRecDepth 20000 in
theorem km_tried_191 {E : gEnv} {l : Launch} {D : va_G} {cl : List vw_C} {G : gAd} {post : MS → Int32 → Prop} (hE : gOK E cX13_tried RX13 (some .int) 13) (hm : mOK E l D cl G (qI post) 11) (hF : gFin E) {lp67 : MS → Int32 → Int32 → Int32 → Int32 → Int32 → Int32 → Prop} (hl67 : ∀ (σ : MS) (v2 : Int32) (v3 : Int32) (v4 : Int32) (v5 : Int32) (v6 : Int32) (v7 : Int32), lp67 σ v2 v3 v4 v5 v6 v7 → GW E (mW G σ) 67 [(0, .ref (G.1 0)), (2, .int v2), (3, .int v3), (4, .int v4), (5, .int v5), (6, .int v6), (7, .int v7)] []) (σ : MS) (v2 : Int32) (v3 : Int32) (v4 : Int32) (v5 : Int32) (v6 : Int32) (v7 : Int32) (h : wm_tried_191 post lp67 σ v2 v3 v4 v5 v6 v7) : GW E (mW G σ) 191 [(0, .ref (G.1 0)), (2, .int v2), (3, .int v3), (4, .int v4), (5, .int v5), (6, .int v6), (7, .int v7)] [] := by
  unfold wm_tried_191 at h
  have hN := hm.2.2.2.2.2.2.1
  refine r_iload hE 5 dX13_tried_g6.2.2.2.2.2.2.2.1 rfl ?_
  refine r_pick [0, 1, 2, 3, 4, 6] rfl ?_
  exact km_tried_193 hE hm hF hl67 _ _ _ _ _ _ _ h
def wm_tried_173 (post : MS → Int32 → Prop) (lp67 : MS → Int32 → Int32 → Int32 → Int32 → Int32 → Int32 → Prop) (σ : MS) (v2 : Int32) (v3 : Int32) (v4 : Int32) (v6 : Int32) (v7 : Int32) (v8 : Int32) (t0 : Int32) (t1 : Int32) : Prop := ∀ x2 : Int32, x2 = t0 + t1 → ((¬ (v8 = (0 : Int32))) → (wm_tried_191 post lp67 σ v2 v3 v4 x2 v6 v7)) ∧ ((v8 = (0 : Int32)) → ((((0 : Int32) ≤ v6) → (wm_tried_191 post lp67 σ v2 v3 v4 x2 v6 v7)) ∧ ((¬ ((0 : Int32) ≤ v6)) → (wm_tried_193 post lp67 σ v2 v3 v4 x2 v7 v7))))
set_option maxRecDepth 20000 in
theorem km_tried_173 {E : gEnv} {l : Launch} {D : va_G} {cl : List vw_C} {G : gAd} {post : MS → Int32 → Prop} (hE : gOK E cX13_tried RX13 (some .int) 13) (hm : mOK E l D cl G (qI post) 11) (hF : gFin E) {lp67 : MS → Int32 → Int32 → Int32 → Int32 → Int32 → Int32 → Prop} (hl67 : ∀ (σ : MS) (v2 : Int32) (v3 : Int32) (v4 : Int32) (v5 : Int32) (v6 : Int32) (v7 : Int32), lp67 σ v2 v3 v4 v5 v6 v7 → GW E (mW G σ) 67 [(0, .ref (G.1 0)), (2, .int v2), (3, .int v3), (4, .int v4), (5, .int v5), (6, .int v6), (7, .int v7)] []) (σ : MS) (v2 : Int32) (v3 : Int32) (v4 : Int32) (v6 : Int32) (v7 : Int32) (v8 : Int32) (t0 : Int32) (t1 : Int32) (h : wm_tried_173 post lp67 σ v2 v3 v4 v6 v7 v8 t0 t1) : GW E (mW G σ) 173 [(0, .ref (G.1 0)), (2, .int v2), (3, .int v3), (4, .int v4), (6, .int v6), (7, .int v7), (8, .int v8)] [.int t1, .int t0] := by
  unfold wm_tried_173 at h
  have hN := hm.2.2.2.2.2.2.1
  refine r_iadd hE dX13_tried_g5.2.2.2.2.2.2.2.2.2.2.2.2.2.2.2 ?_
  refine r_topi h (fun x2 ex2 h => ?_)
  refine r_istore hE [(5, .int x2), (0, .ref (G.1 0)), (2, .int v2), (3, .int v3), (4, .int v4), (6, .int v6), (7, .int v7), (8, .int v8)] dX13_tried_g6.1 hN (by decide) rfl ?_
  refine r_iload hE 7 dX13_tried_g6.2.1 rfl ?_
  refine r_if_ne hE 191 dX13_tried_g6.2.2.1 (by decide) h (fun h => ?_) (fun h => ?_)
  · refine r_pick [1, 2, 3, 4, 0, 5, 6] rfl ?_
    exact km_tried_191 hE hm hF hl67 _ _ _ _ _ _ _ h
  · refine r_iload hE 5 dX13_tried_g6.2.2.2.1 rfl ?_
    refine r_if_ge hE 191 dX13_tried_g6.2.2.2.2.1 (by decide) h (fun h => ?_) (fun h => ?_)
    · refine r_pick [1, 2, 3, 4, 0, 5, 6] rfl ?_
      exact km_tried_191 hE hm hF hl67 _ _ _ _ _ _ _ h
    · refine r_iload hE 6 dX13_tried_g6.2.2.2.2.2.1 rfl ?_
      refine r_goto hE 193 dX13_tried_g6.2.2.2.2.2.2.1 (by decide) ?_
      refine r_pick [1, 2, 3, 4, 0, 6] rfl ?_
      exact km_tried_193 hE hm hF hl67 _ _ _ _ _ _ _ h
def wm_tried_76 (post : MS → Int32 → Prop) (lp67 : MS → Int32 → Int32 → Int32 → Int32 → Int32 → Int32 → Prop) : Nat → MS → Int32 → Int32 → Int32 → Int32 → Int32 → Int32 → Int32 → Prop
  | 0, _, _, _, _, _, _, _, _ => False
  | n + 1, σ, v2, v3, v4, v5, v6, v7, v8 => (((12 : Int32) ≤ v8) → (wm_runOnce (fun (s3 : MS) => wm_statedOr (fun (s4 : MS) (r5 : Int32) => ((¬ (r5 = (1 : Int32))) → (wm_tried_173 post lp67 s4 v2 v3 v4 v6 v7 r5 v5 (0 : Int32))) ∧ ((r5 = (1 : Int32)) → (wm_tried_173 post lp67 s4 v2 v3 v4 v6 v7 r5 v5 (1 : Int32)))) s3 v3) σ)) ∧ ((¬ ((12 : Int32) ≤ v8)) → (∀ x6 : Int32, x6 = (v4 * (1103515245 : Int32)) + (12345 : Int32) → ∀ x7 : Int64, x7 = ((((x6.toUInt32 >>> ((16 : Int32).toUInt32 &&& Int32.toUInt32 31)).toInt32) - ((x6.toUInt32 >>> ((16 : Int32).toUInt32 &&& Int32.toUInt32 31)).toInt32) / (41 : Int32) * (41 : Int32)) - (20 : Int32)).toInt64 → ∀ x8 : Int32, x8 = (x6 * (1103515245 : Int32)) + (12345 : Int32) → wm_place_ (fun (s9 : MS) => ∀ x10 : Int32, x10 = v8 + (1 : Int32) → wm_tried_76 post lp67 n s9 v2 v3 x8 v5 v6 v7 x10) σ v8 x7 (1 : Int64) (((((x8.toUInt32 >>> ((16 : Int32).toUInt32 &&& Int32.toUInt32 31)).toInt32) - ((x8.toUInt32 >>> ((16 : Int32).toUInt32 &&& Int32.toUInt32 31)).toInt32) / (41 : Int32) * (41 : Int32)) - (20 : Int32)).toInt64) (1 : Int64)))
set_option maxRecDepth 20000 in
theorem km_tried_76 {E : gEnv} {l : Launch} {D : va_G} {cl : List vw_C} {G : gAd} {post : MS → Int32 → Prop} (hE : gOK E cX13_tried RX13 (some .int) 13) (hm : mOK E l D cl G (qI post) 11) (hF : gFin E) {lp67 : MS → Int32 → Int32 → Int32 → Int32 → Int32 → Int32 → Prop} (hl67 : ∀ (σ : MS) (v2 : Int32) (v3 : Int32) (v4 : Int32) (v5 : Int32) (v6 : Int32) (v7 : Int32), lp67 σ v2 v3 v4 v5 v6 v7 → GW E (mW G σ) 67 [(0, .ref (G.1 0)), (2, .int v2), (3, .int v3), (4, .int v4), (5, .int v5), (6, .int v6), (7, .int v7)] []) : ∀ (n : Nat) (σ : MS) (v2 : Int32) (v3 : Int32) (v4 : Int32) (v5 : Int32) (v6 : Int32) (v7 : Int32) (v8 : Int32), wm_tried_76 post lp67 n σ v2 v3 v4 v5 v6 v7 v8 → GW E (mW G σ) 76 [(0, .ref (G.1 0)), (2, .int v2), (3, .int v3), (4, .int v4), (5, .int v5), (6, .int v6), (7, .int v7), (8, .int v8)] [] := by
  intro n
  induction n with
  | zero => intro σ v2 v3 v4 v5 v6 v7 v8 h; exact h.elim
  | succ n ih =>
    intro σ v2 v3 v4 v5 v6 v7 v8 h
    rw [wm_tried_76] at h
    have hN := hm.2.2.2.2.2.2.1
    refine r_iload hE 7 dX13_tried_g2.2.2.2.2.2.2.2.2.2.2.1 rfl ?_
    refine r_bipush (v := (12 : Int32)) hE dX13_tried_g2.2.2.2.2.2.2.2.2.2.2.2.1 (by decide) ?_
    refine r_icmp_ge hE 149 dX13_tried_g2.2.2.2.2.2.2.2.2.2.2.2.2.1 (by decide) h (fun h => ?_) (fun h => ?_)
    · refine r_aload_n hE 0 dX13_tried_g5.2.2.1 rfl rfl ?_
      refine m_callVv hE hm [] [] mc_runOnce (km_runOnce hm.2.2.2.2.2.2.2.2 h) (by decide) rfl rfl (Nat.le_of_ble_eq_true rfl) dX13_tried_g5.2.2.2.1 (fun s3 h => ?_)
      refine r_aload_n hE 0 dX13_tried_g5.2.2.2.2.1 rfl rfl ?_
      refine r_iload_n hE 2 dX13_tried_g5.2.2.2.2.2.1 rfl rfl ?_
      refine m_callVi hE hm [.int v3] [] mc_statedOr (km_statedOr hm.2.2.2.2.2.2.2.2 h) (by decide) rfl rfl (Nat.le_of_ble_eq_true rfl) dX13_tried_g5.2.2.2.2.2.2.1 (fun s4 r5 h => ?_)
      refine r_istore hE [(8, .int r5), (0, .ref (G.1 0)), (2, .int v2), (3, .int v3), (4, .int v4), (5, .int v5), (6, .int v6), (7, .int v7)] dX13_tried_g5.2.2.2.2.2.2.2.1 hN (by decide) rfl ?_
      refine r_iload hE 5 dX13_tried_g5.2.2.2.2.2.2.2.2.1 rfl ?_
      refine r_iload hE 0 dX13_tried_g5.2.2.2.2.2.2.2.2.2.1 rfl ?_
      refine r_iconst (v := (1 : Int32)) hE dX13_tried_g5.2.2.2.2.2.2.2.2.2.2.1 (by decide) ?_
      refine r_icmp_ne hE 172 dX13_tried_g5.2.2.2.2.2.2.2.2.2.2.2.1 (by decide) h (fun h => ?_) (fun h => ?_)
      · refine r_iconst (v := (0 : Int32)) hE dX13_tried_g5.2.2.2.2.2.2.2.2.2.2.2.2.2.2.1 (by decide) ?_
        refine r_pick [1, 2, 3, 4, 6, 7, 0] rfl ?_
        exact km_tried_173 hE hm hF hl67 _ _ _ _ _ _ _ _ _ h
      · refine r_iconst (v := (1 : Int32)) hE dX13_tried_g5.2.2.2.2.2.2.2.2.2.2.2.2.1 (by decide) ?_
        refine r_goto hE 173 dX13_tried_g5.2.2.2.2.2.2.2.2.2.2.2.2.2.1 (by decide) ?_
        refine r_pick [1, 2, 3, 4, 6, 7, 0] rfl ?_
        exact km_tried_173 hE hm hF hl67 _ _ _ _ _ _ _ _ _ h
    · refine r_iload hE 3 dX13_tried_g2.2.2.2.2.2.2.2.2.2.2.2.2.2.1 rfl ?_
      refine r_ldcw (v := (1103515245 : Int32)) hE dX13_tried_g2.2.2.2.2.2.2.2.2.2.2.2.2.2.2.1 (gTb_11 (List.mem_of_getElem? (i := 207) rfl) rfl) ?_
      refine r_imul hE dX13_tried_g2.2.2.2.2.2.2.2.2.2.2.2.2.2.2.2 ?_
      refine r_sipush (v := (12345 : Int32)) hE dX13_tried_g3.1 (by decide) ?_
      refine r_iadd hE dX13_tried_g3.2.1 ?_
      refine r_topi h (fun x6 ex6 h => ?_)
      refine r_istore hE [(4, .int x6), (0, .ref (G.1 0)), (2, .int v2), (3, .int v3), (5, .int v5), (6, .int v6), (7, .int v7), (8, .int v8)] dX13_tried_g3.2.2.1 hN (by decide) rfl ?_
      refine r_iload hE 0 dX13_tried_g3.2.2.2.1 rfl ?_
      refine r_bipush (v := (16 : Int32)) hE dX13_tried_g3.2.2.2.2.1 (by decide) ?_
      refine r_iushr hE dX13_tried_g3.2.2.2.2.2.1 ?_
      refine r_bipush (v := (41 : Int32)) hE dX13_tried_g3.2.2.2.2.2.2.1 (by decide) ?_
      refine r_irem hE dX13_tried_g3.2.2.2.2.2.2.2.1 (by decide) ?_
      refine r_bipush (v := (20 : Int32)) hE dX13_tried_g3.2.2.2.2.2.2.2.2.1 (by decide) ?_
      refine r_isub hE dX13_tried_g3.2.2.2.2.2.2.2.2.2.1 ?_
      refine r_i2l hE dX13_tried_g3.2.2.2.2.2.2.2.2.2.2.1 ?_
      refine r_topl h (fun x7 ex7 h => ?_)
      refine r_lstore hE [(9, .long x7), (4, .int x6), (0, .ref (G.1 0)), (2, .int v2), (3, .int v3), (5, .int v5), (6, .int v6), (7, .int v7), (8, .int v8)] dX13_tried_g3.2.2.2.2.2.2.2.2.2.2.2.1 hN (by decide) rfl ?_
      refine r_iload hE 1 dX13_tried_g3.2.2.2.2.2.2.2.2.2.2.2.2.1 rfl ?_
      refine r_ldcw (v := (1103515245 : Int32)) hE dX13_tried_g3.2.2.2.2.2.2.2.2.2.2.2.2.2.1 (gTb_11 (List.mem_of_getElem? (i := 207) rfl) rfl) ?_
      refine r_imul hE dX13_tried_g3.2.2.2.2.2.2.2.2.2.2.2.2.2.2.1 ?_
      refine r_sipush (v := (12345 : Int32)) hE dX13_tried_g3.2.2.2.2.2.2.2.2.2.2.2.2.2.2.2 (by decide) ?_
      refine r_iadd hE dX13_tried_g4.1 ?_
      refine r_topi h (fun x8 ex8 h => ?_)
      refine r_istore hE [(4, .int x8), (9, .long x7), (0, .ref (G.1 0)), (2, .int v2), (3, .int v3), (5, .int v5), (6, .int v6), (7, .int v7), (8, .int v8)] dX13_tried_g4.2.1 hN (by decide) rfl ?_
      refine r_aload_n hE 2 dX13_tried_g4.2.2.1 rfl rfl ?_
      refine r_iload hE 8 dX13_tried_g4.2.2.2.1 rfl ?_
      refine r_lload hE 1 dX13_tried_g4.2.2.2.2.1 rfl ?_
      refine r_lconst (v := (1 : Int64)) hE dX13_tried_g4.2.2.2.2.2.1 (by decide) ?_
      refine r_iload hE 0 dX13_tried_g4.2.2.2.2.2.2.1 rfl ?_
      refine r_bipush (v := (16 : Int32)) hE dX13_tried_g4.2.2.2.2.2.2.2.1 (by decide) ?_
      refine r_iushr hE dX13_tried_g4.2.2.2.2.2.2.2.2.1 ?_
      refine r_bipush (v := (41 : Int32)) hE dX13_tried_g4.2.2.2.2.2.2.2.2.2.1 (by decide) ?_
      refine r_irem hE dX13_tried_g4.2.2.2.2.2.2.2.2.2.2.1 (by decide) ?_
      refine r_bipush (v := (20 : Int32)) hE dX13_tried_g4.2.2.2.2.2.2.2.2.2.2.2.1 (by decide) ?_
      refine r_isub hE dX13_tried_g4.2.2.2.2.2.2.2.2.2.2.2.2.1 ?_
      refine r_i2l hE dX13_tried_g4.2.2.2.2.2.2.2.2.2.2.2.2.2.1 ?_
      refine r_lconst (v := (1 : Int64)) hE dX13_tried_g4.2.2.2.2.2.2.2.2.2.2.2.2.2.2.1 (by decide) ?_
      refine m_callVv hE hm [.int v8, .long x7, .long (1 : Int64), .long (((((x8.toUInt32 >>> ((16 : Int32).toUInt32 &&& Int32.toUInt32 31)).toInt32) - ((x8.toUInt32 >>> ((16 : Int32).toUInt32 &&& Int32.toUInt32 31)).toInt32) / (41 : Int32) * (41 : Int32)) - (20 : Int32)).toInt64), .long (1 : Int64)] [] mc_place_ (km_place_ hm.2.2.2.2.2.2.2.2 h) (by decide) rfl rfl (Nat.le_of_ble_eq_true rfl) dX13_tried_g4.2.2.2.2.2.2.2.2.2.2.2.2.2.2.2 (fun s9 h => ?_)
      obtain ⟨x10, ex10⟩ : ∃ z : Int32, z = v8 + (1 : Int32) := ⟨_, rfl⟩
      have h := h x10 ex10
      refine r_iinc (v := x10) hE [(8, .int x10), (4, .int x8), (9, .long x7), (0, .ref (G.1 0)), (2, .int v2), (3, .int v3), (5, .int v5), (6, .int v6), (7, .int v7)] 8 dX13_tried_g5.1 rfl (by rw [ex10]; rfl) hN (by decide) rfl ?_
      refine r_goto hE 76 dX13_tried_g5.2.1 (by decide) ?_
      refine r_pick [3, 4, 5, 1, 6, 7, 8, 0] rfl ?_
      exact ih _ _ _ _ _ _ _ _ h
def wm_tried_67 (post : MS → Int32 → Prop) : Nat → MS → Int32 → Int32 → Int32 → Int32 → Int32 → Int32 → Prop
  | 0, _, _, _, _, _, _, _ => False
  | n + 1, σ, v2, v3, v4, v5, v6, v7 => ((v2 ≤ v7) → (wm_lay (fun (s11 : MS) => (((0 : Int32) ≤ v6) → (post s11 ((-1 : Int32) - v6))) ∧ ((¬ ((0 : Int32) ≤ v6)) → (post s11 v5))) σ (0 : Int32))) ∧ ((¬ (v2 ≤ v7)) → (∃ k : Nat, wm_tried_76 post (fun (ys : MS) (y0 : Int32) (y1 : Int32) (y2 : Int32) (y3 : Int32) (y4 : Int32) (y5 : Int32) => wm_tried_67 post n ys y0 y1 y2 y3 y4 y5) k σ v2 v3 v4 v5 v6 v7 (0 : Int32)))
set_option maxRecDepth 20000 in
theorem km_tried_67 {E : gEnv} {l : Launch} {D : va_G} {cl : List vw_C} {G : gAd} {post : MS → Int32 → Prop} (hE : gOK E cX13_tried RX13 (some .int) 13) (hm : mOK E l D cl G (qI post) 11) (hF : gFin E) : ∀ (n : Nat) (σ : MS) (v2 : Int32) (v3 : Int32) (v4 : Int32) (v5 : Int32) (v6 : Int32) (v7 : Int32), wm_tried_67 post n σ v2 v3 v4 v5 v6 v7 → GW E (mW G σ) 67 [(0, .ref (G.1 0)), (2, .int v2), (3, .int v3), (4, .int v4), (5, .int v5), (6, .int v6), (7, .int v7)] [] := by
  intro n
  induction n with
  | zero => intro σ v2 v3 v4 v5 v6 v7 h; exact h.elim
  | succ n ih =>
    intro σ v2 v3 v4 v5 v6 v7 h
    rw [wm_tried_67] at h
    have hN := hm.2.2.2.2.2.2.1
    refine r_iload hE 6 dX13_tried_g2.2.2.2.2.2.1 rfl ?_
    refine r_iload_n hE 1 dX13_tried_g2.2.2.2.2.2.2.1 rfl rfl ?_
    refine r_icmp_ge hE 201 dX13_tried_g2.2.2.2.2.2.2.2.1 (by decide) h (fun h => ?_) (fun h => ?_)
    · refine r_aload_n hE 0 dX13_tried_g6.2.2.2.2.2.2.2.2.2.2.2.1 rfl rfl ?_
      refine r_iconst (v := (0 : Int32)) hE dX13_tried_g6.2.2.2.2.2.2.2.2.2.2.2.2.1 (by decide) ?_
      refine m_callVv hE hm [.int (0 : Int32)] [] mc_lay (km_lay hm.2.2.2.2.2.2.2.2 h) (by decide) rfl rfl (Nat.le_of_ble_eq_true rfl) dX13_tried_g6.2.2.2.2.2.2.2.2.2.2.2.2.2.1 (fun s11 h => ?_)
      refine r_iload hE 5 dX13_tried_g6.2.2.2.2.2.2.2.2.2.2.2.2.2.2.1 rfl ?_
      refine r_if_ge hE 216 dX13_tried_g6.2.2.2.2.2.2.2.2.2.2.2.2.2.2.2 (by decide) h (fun h => ?_) (fun h => ?_)
      · refine r_iconst (v := (-1 : Int32)) hE dX13_tried_g7.2.2.1 (by decide) ?_
        refine r_iload hE 5 dX13_tried_g7.2.2.2.1 rfl ?_
        refine r_isub hE dX13_tried_g7.2.2.2.2.1 ?_
        exact m_iret hE hm hF dX13_tried_g7.2.2.2.2.2 h
      · refine r_iload hE 4 dX13_tried_g7.1 rfl ?_
        refine r_goto hE 220 dX13_tried_g7.2.1 (by decide) ?_
        exact m_iret hE hm hF dX13_tried_g7.2.2.2.2.2 h
    · refine r_iconst (v := (0 : Int32)) hE dX13_tried_g2.2.2.2.2.2.2.2.2.1 (by decide) ?_
      refine r_istore hE [(8, .int (0 : Int32)), (0, .ref (G.1 0)), (2, .int v2), (3, .int v3), (4, .int v4), (5, .int v5), (6, .int v6), (7, .int v7)] dX13_tried_g2.2.2.2.2.2.2.2.2.2.1 hN (by decide) rfl ?_
      refine r_pick [1, 2, 3, 4, 5, 6, 7, 0] rfl ?_
      obtain ⟨k, h⟩ := h
      exact km_tried_76 hE hm hF ih k _ _ _ _ _ _ _ _ h
def wm_tried (post : MS → Int32 → Prop) (σ : MS) (a1 : Int32) (a2 : Int32) (a3 : Int32) : Prop := ∀ s12 : MS, s12 = m_code_s σ (0 : Int32) → wm_in (fun (s13 : MS) (r14 : Int32) => ((r14 = (0 : Int32)) → (post s13 (-2000000002 : Int32))) ∧ ((¬ (r14 = (0 : Int32))) → ((((0 : Int32) ≤ a3) → (((¬ ((m_hasFigure s13) = (0 : Int32))) → (((((m_runs s13) + a2) ≤ (600 : Int32)) → (wm_lay (fun (s15 : MS) => ∃ k : Nat, wm_tried_67 post k s15 a2 a3 a1 (0 : Int32) (-1 : Int32) (0 : Int32)) s13 (1 : Int32))) ∧ ((¬ (((m_runs s13) + a2) ≤ (600 : Int32))) → (post s13 (-2000000004 : Int32))))) ∧ (((m_hasFigure s13) = (0 : Int32)) → (post s13 (-2000000003 : Int32))))) ∧ ((¬ ((0 : Int32) ≤ a3)) → (post s13 (-2000000002 : Int32)))))) s12 (a2.toInt64) (1 : Int64) (20 : Int64)
set_option maxRecDepth 20000 in
theorem km_tried {l : Launch} {D : va_G} {cl : List vw_C} {G : gAd} {post : MS → Int32 → Prop} (hcl : mC cl) {σ : MS} {a1 : Int32} {a2 : Int32} {a3 : Int32} (h : wm_tried post σ a1 a2 a3) : mMet l D cl G yX13_tried cX13_tried 11 (some .int) 13 [.ref (G.1 0), .int a1, .int a2, .int a3] σ (qI post) := by
  unfold wm_tried at h
  refine m_enter hcl (by decide +kernel) rfl [(0, .ref (G.1 0)), (1, .int a1), (2, .int a2), (3, .int a3)] rfl (Nat.le_of_ble_eq_true rfl) ?_
  intro E hE hm hF
  have hN := hm.2.2.2.2.2.2.1
  refine r_aload_n hE 0 dX13_tried_g0.1 rfl rfl ?_
  refine r_iconst (v := (0 : Int32)) hE dX13_tried_g0.2.1 (by decide) ?_
  refine mp_code hE hm dX13_tried_g0.2.2.1 h (fun s12 h => ?_)
  refine r_iload_n hE 2 dX13_tried_g0.2.2.2.1 rfl rfl ?_
  refine r_i2l hE dX13_tried_g0.2.2.2.2.1 ?_
  refine r_lconst (v := (1 : Int64)) hE dX13_tried_g0.2.2.2.2.2.1 (by decide) ?_
  refine r_ldc2 (v := (20 : Int64)) hE dX13_tried_g0.2.2.2.2.2.2.1 (gTb_10 (List.mem_of_getElem? (i := 188) rfl) rfl) ?_
  refine m_callSi hE hm [.long (a2.toInt64), .long (1 : Int64), .long (20 : Int64)] [] mc_in (km_in hm.2.2.2.2.2.2.2.2 h) (by decide) rfl rfl (Nat.le_of_ble_eq_true rfl) dX13_tried_g0.2.2.2.2.2.2.2.1 (fun s13 r14 h => ?_)
  refine r_if_eq hE 21 dX13_tried_g0.2.2.2.2.2.2.2.2.1 (by decide) h (fun h => ?_) (fun h => ?_)
  · refine r_ldc (v := (-2000000002 : Int32)) hE dX13_tried_g0.2.2.2.2.2.2.2.2.2.2.2.1 (gTb_9 (List.mem_of_getElem? (i := 31) rfl) rfl) ?_
    exact m_iret hE hm hF dX13_tried_g0.2.2.2.2.2.2.2.2.2.2.2.2.1 h
  · refine r_iload_n hE 3 dX13_tried_g0.2.2.2.2.2.2.2.2.2.1 rfl rfl ?_
    refine r_if_ge hE 24 dX13_tried_g0.2.2.2.2.2.2.2.2.2.2.1 (by decide) h (fun h => ?_) (fun h => ?_)
    · refine r_aload_n hE 0 dX13_tried_g0.2.2.2.2.2.2.2.2.2.2.2.2.2.1 rfl rfl ?_
      refine mg_hasFigure hE hm dX13_tried_g0.2.2.2.2.2.2.2.2.2.2.2.2.2.2.1 ?_
      refine r_if_ne hE 34 dX13_tried_g0.2.2.2.2.2.2.2.2.2.2.2.2.2.2.2 (by decide) h (fun h => ?_) (fun h => ?_)
      · refine r_aload_n hE 0 dX13_tried_g1.2.2.1 rfl rfl ?_
        refine mg_runs hE hm dX13_tried_g1.2.2.2.1 ?_
        refine r_iload_n hE 2 dX13_tried_g1.2.2.2.2.1 rfl rfl ?_
        refine r_iadd hE dX13_tried_g1.2.2.2.2.2.1 ?_
        refine r_sipush (v := (600 : Int32)) hE dX13_tried_g1.2.2.2.2.2.2.1 (by decide) ?_
        refine r_icmp_le hE 50 dX13_tried_g1.2.2.2.2.2.2.2.1 (by decide) h (fun h => ?_) (fun h => ?_)
        · refine r_aload_n hE 0 dX13_tried_g1.2.2.2.2.2.2.2.2.2.2.1 rfl rfl ?_
          refine r_iconst (v := (1 : Int32)) hE dX13_tried_g1.2.2.2.2.2.2.2.2.2.2.2.1 (by decide) ?_
          refine m_callVv hE hm [.int (1 : Int32)] [] mc_lay (km_lay hm.2.2.2.2.2.2.2.2 h) (by decide) rfl rfl (Nat.le_of_ble_eq_true rfl) dX13_tried_g1.2.2.2.2.2.2.2.2.2.2.2.2.1 (fun s15 h => ?_)
          refine r_iload_n hE 1 dX13_tried_g1.2.2.2.2.2.2.2.2.2.2.2.2.2.1 rfl rfl ?_
          refine r_istore hE [(4, .int a1), (0, .ref (G.1 0)), (1, .int a1), (2, .int a2), (3, .int a3)] dX13_tried_g1.2.2.2.2.2.2.2.2.2.2.2.2.2.2.1 hN (by decide) rfl ?_
          refine r_iconst (v := (0 : Int32)) hE dX13_tried_g1.2.2.2.2.2.2.2.2.2.2.2.2.2.2.2 (by decide) ?_
          refine r_istore hE [(5, .int (0 : Int32)), (4, .int a1), (0, .ref (G.1 0)), (1, .int a1), (2, .int a2), (3, .int a3)] dX13_tried_g2.1 hN (by decide) rfl ?_
          refine r_iconst (v := (-1 : Int32)) hE dX13_tried_g2.2.1 (by decide) ?_
          refine r_istore hE [(6, .int (-1 : Int32)), (5, .int (0 : Int32)), (4, .int a1), (0, .ref (G.1 0)), (1, .int a1), (2, .int a2), (3, .int a3)] dX13_tried_g2.2.2.1 hN (by decide) rfl ?_
          refine r_iconst (v := (0 : Int32)) hE dX13_tried_g2.2.2.2.1 (by decide) ?_
          refine r_istore hE [(7, .int (0 : Int32)), (6, .int (-1 : Int32)), (5, .int (0 : Int32)), (4, .int a1), (0, .ref (G.1 0)), (1, .int a1), (2, .int a2), (3, .int a3)] dX13_tried_g2.2.2.2.2.1 hN (by decide) rfl ?_
          refine r_pick [4, 6, 7, 3, 2, 1, 0] rfl ?_
          obtain ⟨k, h⟩ := h
          exact km_tried_67 hE hm hF k _ _ _ _ _ _ _ h
        · refine r_ldcw (v := (-2000000004 : Int32)) hE dX13_tried_g1.2.2.2.2.2.2.2.2.1 (gTb_10 (List.mem_of_getElem? (i := 18) rfl) rfl) ?_
          exact m_iret hE hm hF dX13_tried_g1.2.2.2.2.2.2.2.2.2.1 h
      · refine r_ldc (v := (-2000000003 : Int32)) hE dX13_tried_g1.1 (gTb_9 (List.mem_of_getElem? (i := 19) rfl) rfl) ?_
        exact m_iret hE hm hF dX13_tried_g1.2.1 h
    · refine r_ldc (v := (-2000000002 : Int32)) hE dX13_tried_g0.2.2.2.2.2.2.2.2.2.2.2.1 (gTb_9 (List.mem_of_getElem? (i := 31) rfl) rfl) ?_
      exact m_iret hE hm hF dX13_tried_g0.2.2.2.2.2.2.2.2.2.2.2.2.1 h
