/-! pr_putExp -/
def wc_pr_putExp_149 (post : CS → Prop) (lp13 : CS → Int32 → Prop) (σ : CS) (v2 : Int32) : Prop := ∀ x1 : Int32, x1 = v2 + (1 : Int32) → lp13 σ x1
set_option maxRecDepth 20000 in
theorem kc_pr_putExp_149  {E : gEnv} {l : Launch} {D : va_G} {G : gAd} {post : CS → Prop} (hE : gOK E cX4_putExp RX4 none 7) (hm : cOK E l D G (pV post) 6) (hF : gFin E) {lp13 : CS → Int32 → Prop} (hl13 : ∀ (σ : CS) (v2 : Int32), lp13 σ v2 → GW E (cW G σ) 13 [(0, .ref (G.1 700)), (2, .int v2)] []) (σ : CS) (v2 : Int32) (h : wc_pr_putExp_149 post lp13 σ v2) : GW E (cW G σ) 149 [(0, .ref (G.1 700)), (2, .int v2)] [] := by
  unfold wc_pr_putExp_149 at h
  have hN := hm.2.2.2.2.2.2.1
  obtain ⟨x1, ex1⟩ : ∃ z : Int32, z = v2 + (1 : Int32) := ⟨_, rfl⟩
  have h := h x1 ex1
  refine r_iinc (v := x1) hE [(2, .int x1), (0, .ref (G.1 700))] 1 dX4_putExp_g5.1 rfl (by rw [ex1]; rfl) hN (by decide) rfl ?_
  refine r_goto hE 13 dX4_putExp_g5.2.1 (by decide) ?_
  refine r_pick [1, 0] rfl ?_
  exact hl13 _ _ h
def wc_pr_putExp_136 (post : CS → Prop) (lp13 : CS → Int32 → Prop) (σ : CS) (v2 : Int32) (v3 : Int32) (v4 : Int32) (v5 : Int32) : Prop := wc_pr_tightness (fun (s2 : CS) (r3 : Int32) => wc_pr_begin (fun (s4 : CS) => wc_pr_putExp_149 post lp13 s4 v2) s2 v4 r3) σ v3 v5
set_option maxRecDepth 20000 in
theorem kc_pr_putExp_136  {E : gEnv} {l : Launch} {D : va_G} {G : gAd} {post : CS → Prop} (hE : gOK E cX4_putExp RX4 none 7) (hm : cOK E l D G (pV post) 6) (hF : gFin E) {lp13 : CS → Int32 → Prop} (hl13 : ∀ (σ : CS) (v2 : Int32), lp13 σ v2 → GW E (cW G σ) 13 [(0, .ref (G.1 700)), (2, .int v2)] []) (σ : CS) (v2 : Int32) (v3 : Int32) (v4 : Int32) (v5 : Int32) (h : wc_pr_putExp_136 post lp13 σ v2 v3 v4 v5) : GW E (cW G σ) 136 [(0, .ref (G.1 700)), (2, .int v2), (3, .int v3), (4, .int v4), (5, .int v5)] [] := by
  unfold wc_pr_putExp_136 at h
  have hN := hm.2.2.2.2.2.2.1
  refine r_aload_n hE 0 dX4_putExp_g4.2.2.2.2.2.2.2.2.2.1 rfl rfl ?_
  refine r_iload hE 3 dX4_putExp_g4.2.2.2.2.2.2.2.2.2.2.1 rfl ?_
  refine r_aload_n hE 0 dX4_putExp_g4.2.2.2.2.2.2.2.2.2.2.2.1 rfl rfl ?_
  refine r_iload_n hE 2 dX4_putExp_g4.2.2.2.2.2.2.2.2.2.2.2.2.1 rfl rfl ?_
  refine r_iload hE 4 dX4_putExp_g4.2.2.2.2.2.2.2.2.2.2.2.2.2.1 rfl ?_
  refine c_callVi hE hm [.int v3, .int v5] [.int v4, .ref (G.1 700)] ck_X4_165 (cr_pr hm rfl) (kc_pr_tightness h) (by decide) rfl rfl (Nat.le_of_ble_eq_true rfl) dX4_putExp_g4.2.2.2.2.2.2.2.2.2.2.2.2.2.2.1 (fun s2 r3 h => ?_)
  refine c_callVv hE hm [.int v4, .int r3] [] ck_X4_150 (cr_pr hm rfl) (kc_pr_begin h) (by decide) rfl rfl (Nat.le_of_ble_eq_true rfl) dX4_putExp_g4.2.2.2.2.2.2.2.2.2.2.2.2.2.2.2 (fun s4 h => ?_)
  refine r_pick [0, 1] rfl ?_
  exact kc_pr_putExp_149 hE hm hF hl13 _ _ h
def wc_pr_putExp_106 (post : CS → Prop) (lp13 : CS → Int32 → Prop) (σ : CS) (v2 : Int32) (v3 : Int32) (v4 : Int32) (t0 : Int32) : Prop := c_pr_figure σ = 300 ∧ (wc_fg_nextOf (fun (s5 : CS) (r6 : Int32) => vp_in (c_pr_top σ) 250 ∧ (∀ s7 : CS, s7 = c_pr_cursor_s s5 (c_pr_top σ).toNatClampNeg r6 → ((¬ (t0 = (0 : Int32))) → (wc_pr_putExp_136 post lp13 s7 v2 v3 v4 t0)) ∧ ((t0 = (0 : Int32)) → (wc_pr_putBetween (fun (s8 : CS) => wc_pr_putExp_136 post lp13 s8 v2 v3 v4 t0) s7 v3)))) σ v4)
set_option maxRecDepth 20000 in
theorem kc_pr_putExp_106  {E : gEnv} {l : Launch} {D : va_G} {G : gAd} {post : CS → Prop} (hE : gOK E cX4_putExp RX4 none 7) (hm : cOK E l D G (pV post) 6) (hF : gFin E) {lp13 : CS → Int32 → Prop} (hl13 : ∀ (σ : CS) (v2 : Int32), lp13 σ v2 → GW E (cW G σ) 13 [(0, .ref (G.1 700)), (2, .int v2)] []) (σ : CS) (v2 : Int32) (v3 : Int32) (v4 : Int32) (t0 : Int32) (h : wc_pr_putExp_106 post lp13 σ v2 v3 v4 t0) : GW E (cW G σ) 106 [(0, .ref (G.1 700)), (2, .int v2), (3, .int v3), (4, .int v4)] [.int t0] := by
  unfold wc_pr_putExp_106 at h
  have hN := hm.2.2.2.2.2.2.1
  refine r_istore hE [(5, .int t0), (0, .ref (G.1 700)), (2, .int v2), (3, .int v3), (4, .int v4)] dX4_putExp_g3.2.2.2.2.2.2.2.2.2.2.1 hN (by decide) rfl ?_
  refine r_aload_n hE 1 dX4_putExp_g3.2.2.2.2.2.2.2.2.2.2.2.1 rfl rfl ?_
  refine cg_pr_cursor hE hm fk_X4_15 dX4_putExp_g3.2.2.2.2.2.2.2.2.2.2.2.2.1 ?_
  refine r_aload_n hE 1 dX4_putExp_g3.2.2.2.2.2.2.2.2.2.2.2.2.2.1 rfl rfl ?_
  refine cg_pr_top hE hm fk_X4_22 dX4_putExp_g3.2.2.2.2.2.2.2.2.2.2.2.2.2.2.1 ?_
  refine r_aload_n hE 1 dX4_putExp_g3.2.2.2.2.2.2.2.2.2.2.2.2.2.2.2 rfl rfl ?_
  obtain ⟨hj, h⟩ := h
  refine cg_pr_figure hE hm fk_X4_26 dX4_putExp_g4.1 hj ?_
  refine r_iload hE 4 dX4_putExp_g4.2.1 rfl ?_
  refine c_callVi hE hm [.int v4] [.int (c_pr_top σ), .ref (G.1 704)] ck_X4_99 (cr_fg hm rfl) (kc_fg_nextOf h) (by decide) rfl rfl (Nat.le_of_ble_eq_true rfl) dX4_putExp_g4.2.2.1 (fun s5 r6 h => ?_)
  obtain ⟨hi, h⟩ := h
  refine cs_pr_cursor hE hm dX4_putExp_g4.2.2.2.1 hi h (fun s7 h => ?_)
  refine r_iload hE 0 dX4_putExp_g4.2.2.2.2.1 rfl ?_
  refine r_if_ne hE 136 dX4_putExp_g4.2.2.2.2.2.1 (by decide) h (fun h => ?_) (fun h => ?_)
  · refine r_pick [1, 2, 3, 4, 0] rfl ?_
    exact kc_pr_putExp_136 hE hm hF hl13 _ _ _ _ _ h
  · refine r_aload_n hE 1 dX4_putExp_g4.2.2.2.2.2.2.1 rfl rfl ?_
    refine r_iload_n hE 3 dX4_putExp_g4.2.2.2.2.2.2.2.1 rfl rfl ?_
    refine c_callVv hE hm [.int v3] [] ck_X4_162 (cr_pr hm rfl) (kc_pr_putBetween h) (by decide) rfl rfl (Nat.le_of_ble_eq_true rfl) dX4_putExp_g4.2.2.2.2.2.2.2.2.1 (fun s8 h => ?_)
    refine r_pick [1, 2, 3, 4, 0] rfl ?_
    exact kc_pr_putExp_136 hE hm hF hl13 _ _ _ _ _ h
def wc_pr_putExp_13 (post : CS → Prop) : Nat → CS → Int32 → Prop
  | 0, _, _ => False
  | n + 1, σ, v2 => (((1000000 : Int32) ≤ v2) → (post σ)) ∧ ((¬ ((1000000 : Int32) ≤ v2)) → (wc_SX12_inside (fun (s9 : CS) (r10 : Int32) => ((r10 = (0 : Int32)) → (post s9)) ∧ ((¬ (r10 = (0 : Int32))) → (vp_in (c_pr_top s9) 250 ∧ (∀ x11 : Int32, x11 = c_pr_node s9 (c_pr_top s9).toNatClampNeg → vp_in (c_pr_top s9) 250 ∧ (∀ x12 : Int32, x12 = c_pr_cursor s9 (c_pr_top s9).toNatClampNeg → ((¬ (x12 = (-1 : Int32))) → (c_pr_figure s9 = 300 ∧ (wc_fg_firstOf (fun (s13 : CS) (r14 : Int32) => ((¬ (x12 = r14)) → (wc_pr_putExp_106 post (fun (ys : CS) (y0 : Int32) => wc_pr_putExp_13 post n ys y0) s13 v2 x11 x12 (0 : Int32))) ∧ ((x12 = r14) → (wc_pr_putExp_106 post (fun (ys : CS) (y0 : Int32) => wc_pr_putExp_13 post n ys y0) s13 v2 x11 x12 (1 : Int32)))) s9 x11))) ∧ ((x12 = (-1 : Int32)) → (vp_in (c_pr_top s9) 250 ∧ (wc_pr_end (fun (s15 : CS) => ∀ s16 : CS, s16 = c_pr_top_s s15 ((c_pr_top s15) - (1 : Int32)) → wc_pr_putExp_149 post (fun (ys : CS) (y0 : Int32) => wc_pr_putExp_13 post n ys y0) s16 v2) s9 x11 (c_pr_wrapped s9 (c_pr_top s9).toNatClampNeg))))))))) σ (c_pr_top σ) (250 : Int32)))
set_option maxRecDepth 20000 in
theorem kc_pr_putExp_13  {E : gEnv} {l : Launch} {D : va_G} {G : gAd} {post : CS → Prop} (hE : gOK E cX4_putExp RX4 none 7) (hm : cOK E l D G (pV post) 6) (hF : gFin E) : ∀ (n0 : Nat) (σ : CS) (v2 : Int32), wc_pr_putExp_13 post n0 σ v2 → GW E (cW G σ) 13 [(0, .ref (G.1 700)), (2, .int v2)] [] := by
  intro n0
  induction n0 with
  | zero => intro σ v2 h; exact h.elim
  | succ n0 ih =>
    intro σ v2 h
    rw [wc_pr_putExp_13] at h
    have hN := hm.2.2.2.2.2.2.1
    refine r_iload_n hE 1 dX4_putExp_g0.2.2.2.2.2.2.2.2.2.1 rfl rfl ?_
    refine r_ldc (v := (1000000 : Int32)) hE dX4_putExp_g0.2.2.2.2.2.2.2.2.2.2.1 (gTb_6 (List.mem_of_getElem? (i := 180) rfl) rfl) ?_
    refine r_icmp_ge hE 155 dX4_putExp_g0.2.2.2.2.2.2.2.2.2.2.2.1 (by decide) h (fun h => ?_) (fun h => ?_)
    · exact c_vret hE hm hF dX4_putExp_g5.2.2 h
    · refine r_aload_n hE 0 dX4_putExp_g0.2.2.2.2.2.2.2.2.2.2.2.2.1 rfl rfl ?_
      refine cg_pr_top hE hm fk_X4_22 dX4_putExp_g0.2.2.2.2.2.2.2.2.2.2.2.2.2.1 ?_
      refine r_aload_n hE 0 dX4_putExp_g0.2.2.2.2.2.2.2.2.2.2.2.2.2.2.1 rfl rfl ?_
      refine cg_pr_node hE hm fk_X4_9 dX4_putExp_g0.2.2.2.2.2.2.2.2.2.2.2.2.2.2.2 ?_
      refine cn_pr_node hE hm dX4_putExp_g1.1 ?_
      refine c_callSNi hE hm [.int (c_pr_top σ), .int (250 : Int32)] [] ck_X4_154 cw_X4_154 (kc_SX12_inside h) (by decide) rfl rfl (Nat.le_of_ble_eq_true rfl) dX4_putExp_g1.2.1 (fun s9 r10 h => ?_)
      refine r_if_eq hE 155 dX4_putExp_g1.2.2.1 (by decide) h (fun h => ?_) (fun h => ?_)
      · exact c_vret hE hm hF dX4_putExp_g5.2.2 h
      · refine r_aload_n hE 0 dX4_putExp_g1.2.2.2.1 rfl rfl ?_
        refine cg_pr_node hE hm fk_X4_9 dX4_putExp_g1.2.2.2.2.1 ?_
        refine r_aload_n hE 0 dX4_putExp_g1.2.2.2.2.2.1 rfl rfl ?_
        refine cg_pr_top hE hm fk_X4_22 dX4_putExp_g1.2.2.2.2.2.2.1 ?_
        obtain ⟨hi, h⟩ := h
        refine cl_pr_node hE hm dX4_putExp_g1.2.2.2.2.2.2.2.1 hi ?_
        refine r_topi h (fun x11 ex11 h => ?_)
        refine r_istore_n hE [(3, .int x11), (0, .ref (G.1 700)), (2, .int v2)] dX4_putExp_g1.2.2.2.2.2.2.2.2.1 rfl hN (by decide) rfl ?_
        refine r_aload_n hE 1 dX4_putExp_g1.2.2.2.2.2.2.2.2.2.1 rfl rfl ?_
        refine cg_pr_cursor hE hm fk_X4_15 dX4_putExp_g1.2.2.2.2.2.2.2.2.2.2.1 ?_
        refine r_aload_n hE 1 dX4_putExp_g1.2.2.2.2.2.2.2.2.2.2.2.1 rfl rfl ?_
        refine cg_pr_top hE hm fk_X4_22 dX4_putExp_g1.2.2.2.2.2.2.2.2.2.2.2.2.1 ?_
        obtain ⟨hi, h⟩ := h
        refine cl_pr_cursor hE hm dX4_putExp_g1.2.2.2.2.2.2.2.2.2.2.2.2.2.1 hi ?_
        refine r_topi h (fun x12 ex12 h => ?_)
        refine r_istore hE [(4, .int x12), (3, .int x11), (0, .ref (G.1 700)), (2, .int v2)] dX4_putExp_g1.2.2.2.2.2.2.2.2.2.2.2.2.2.2.1 hN (by decide) rfl ?_
        refine r_iload hE 0 dX4_putExp_g1.2.2.2.2.2.2.2.2.2.2.2.2.2.2.2 rfl ?_
        refine r_iconst (v := (-1 : Int32)) hE dX4_putExp_g2.1 (by decide) ?_
        refine r_icmp_ne hE 88 dX4_putExp_g2.2.1 (by decide) h (fun h => ?_) (fun h => ?_)
        · refine r_iload hE 0 dX4_putExp_g3.2.1 rfl ?_
          refine r_aload_n hE 2 dX4_putExp_g3.2.2.1 rfl rfl ?_
          obtain ⟨hj, h⟩ := h
          refine cg_pr_figure hE hm fk_X4_26 dX4_putExp_g3.2.2.2.1 hj ?_
          refine r_iload_n hE 1 dX4_putExp_g3.2.2.2.2.1 rfl rfl ?_
          refine c_callVi hE hm [.int x11] [.int x12] ck_X4_110 (cr_fg hm rfl) (kc_fg_firstOf h) (by decide) rfl rfl (Nat.le_of_ble_eq_true rfl) dX4_putExp_g3.2.2.2.2.2.1 (fun s13 r14 h => ?_)
          refine r_icmp_ne hE 105 dX4_putExp_g3.2.2.2.2.2.2.1 (by decide) h (fun h => ?_) (fun h => ?_)
          · refine r_iconst (v := (0 : Int32)) hE dX4_putExp_g3.2.2.2.2.2.2.2.2.2.1 (by decide) ?_
            refine r_pick [2, 3, 1, 0] rfl ?_
            exact kc_pr_putExp_106 hE hm hF ih _ _ _ _ _ h
          · refine r_iconst (v := (1 : Int32)) hE dX4_putExp_g3.2.2.2.2.2.2.2.1 (by decide) ?_
            refine r_goto hE 106 dX4_putExp_g3.2.2.2.2.2.2.2.2.1 (by decide) ?_
            refine r_pick [2, 3, 1, 0] rfl ?_
            exact kc_pr_putExp_106 hE hm hF ih _ _ _ _ _ h
        · refine r_aload_n hE 2 dX4_putExp_g2.2.2.1 rfl rfl ?_
          refine r_iload_n hE 1 dX4_putExp_g2.2.2.2.1 rfl rfl ?_
          refine r_aload_n hE 2 dX4_putExp_g2.2.2.2.2.1 rfl rfl ?_
          refine cg_pr_wrapped hE hm fk_X4_18 dX4_putExp_g2.2.2.2.2.2.1 ?_
          refine r_aload_n hE 2 dX4_putExp_g2.2.2.2.2.2.2.1 rfl rfl ?_
          refine cg_pr_top hE hm fk_X4_22 dX4_putExp_g2.2.2.2.2.2.2.2.1 ?_
          obtain ⟨hi, h⟩ := h
          refine cl_pr_wrapped hE hm dX4_putExp_g2.2.2.2.2.2.2.2.2.1 hi ?_
          refine c_callVv hE hm [.int x11, .int (c_pr_wrapped s9 (c_pr_top s9).toNatClampNeg)] [] ck_X4_158 (cr_pr hm rfl) (kc_pr_end h) (by decide) rfl rfl (Nat.le_of_ble_eq_true rfl) dX4_putExp_g2.2.2.2.2.2.2.2.2.2.1 (fun s15 h => ?_)
          refine r_aload_n hE 2 dX4_putExp_g2.2.2.2.2.2.2.2.2.2.2.1 rfl rfl ?_
          refine r_dup hE dX4_putExp_g2.2.2.2.2.2.2.2.2.2.2.2.1 rfl ?_
          refine cg_pr_top hE hm fk_X4_22 dX4_putExp_g2.2.2.2.2.2.2.2.2.2.2.2.2.1 ?_
          refine r_iconst (v := (1 : Int32)) hE dX4_putExp_g2.2.2.2.2.2.2.2.2.2.2.2.2.2.1 (by decide) ?_
          refine r_isub hE dX4_putExp_g2.2.2.2.2.2.2.2.2.2.2.2.2.2.2.1 ?_
          refine cp_pr_top hE hm fk_X4_22 dX4_putExp_g2.2.2.2.2.2.2.2.2.2.2.2.2.2.2.2 h (fun s16 h => ?_)
          refine r_goto hE 149 dX4_putExp_g3.1 (by decide) ?_
          refine r_pick [2, 3] rfl ?_
          exact kc_pr_putExp_149 hE hm hF ih _ _ h
def wc_pr_putExp (post : CS → Prop) (σ : CS) (a1 : Int32) : Prop := ∀ s17 : CS, s17 = c_pr_top_s σ (-1 : Int32) → wc_pr_begin (fun (s18 : CS) => ∃ k : Nat, wc_pr_putExp_13 post k s18 (0 : Int32)) s17 a1 (1 : Int32)
set_option maxRecDepth 20000 in
theorem kc_pr_putExp {l : Launch} {D : va_G} {G : gAd} {post : CS → Prop} {σ : CS} {a1 : Int32} (h : wc_pr_putExp post σ a1) : cMet l D G yX4_putExp cX4_putExp 6 none 7 [.ref (G.1 700), .int a1] σ (pV post) := by
  unfold wc_pr_putExp at h
  refine c_enter (own := RX4) (by decide +kernel) rfl [(0, .ref (G.1 700)), (1, .int a1)] rfl (Nat.le_of_ble_eq_true rfl) ?_
  intro E hE hm hF
  have hN := hm.2.2.2.2.2.2.1
  refine r_aload_n hE 0 dX4_putExp_g0.1 rfl rfl ?_
  refine r_iconst (v := (-1 : Int32)) hE dX4_putExp_g0.2.1 (by decide) ?_
  refine cp_pr_top hE hm fk_X4_22 dX4_putExp_g0.2.2.1 h (fun s17 h => ?_)
  refine r_aload_n hE 0 dX4_putExp_g0.2.2.2.1 rfl rfl ?_
  refine r_iload_n hE 1 dX4_putExp_g0.2.2.2.2.1 rfl rfl ?_
  refine r_iconst (v := (1 : Int32)) hE dX4_putExp_g0.2.2.2.2.2.1 (by decide) ?_
  refine c_callVv hE hm [.int a1, .int (1 : Int32)] [] ck_X4_150 (cr_pr hm rfl) (kc_pr_begin h) (by decide) rfl rfl (Nat.le_of_ble_eq_true rfl) dX4_putExp_g0.2.2.2.2.2.2.1 (fun s18 h => ?_)
  refine r_iconst (v := (0 : Int32)) hE dX4_putExp_g0.2.2.2.2.2.2.2.1 (by decide) ?_
  refine r_istore_n hE [(2, .int (0 : Int32)), (0, .ref (G.1 700)), (1, .int a1)] dX4_putExp_g0.2.2.2.2.2.2.2.2.1 rfl hN (by decide) rfl ?_
  refine r_pick [1, 0] rfl ?_
  obtain ⟨k, h⟩ := h
  exact kc_pr_putExp_13 hE hm hF k _ _ h
/-! pr_putLine_s -/
def wc_pr_putLine_s (post : CS → Prop) (σ : CS) (a1 : Nat) (a2 : Int32) : Prop := wc_ou_putText_s (fun (s1 : CS) => wc_pr_putExp (fun (s2 : CS) => wc_ou_putText_s (fun (s3 : CS) => post s3) s2 13) s1 a2) σ a1
set_option maxRecDepth 20000 in
theorem kc_pr_putLine_s {l : Launch} {D : va_G} {G : gAd} {post : CS → Prop} {σ : CS} {a1 : Nat} {a2 : Int32} (h : wc_pr_putLine_s post σ a1 a2) : cMet l D G yX4_putLine cX4_putLine 3 none 8 [.ref (G.1 700), .ref (G.1 (5000 + a1)), .int a2] σ (pV post) := by
  unfold wc_pr_putLine_s at h
  refine c_enter (own := RX4) (by decide +kernel) rfl [(0, .ref (G.1 700)), (1, .ref (G.1 (5000 + a1))), (2, .int a2)] rfl (Nat.le_of_ble_eq_true rfl) ?_
  intro E hE hm hF
  have hN := hm.2.2.2.2.2.2.1
  refine r_aload_n hE 0 dX4_putLine_g0.1 rfl rfl ?_
  refine cg_pr_out hE hm fk_X4_30 dX4_putLine_g0.2.1 ?_
  refine r_aload_n hE 1 dX4_putLine_g0.2.2.1 rfl rfl ?_
  refine c_callVv hE hm [.ref (G.1 (5000 + a1))] [] ck_X4_58 (cr_ou hm rfl) (kc_ou_putText_s h) (by decide) rfl rfl (Nat.le_of_ble_eq_true rfl) dX4_putLine_g0.2.2.2.1 (fun s1 h => ?_)
  refine r_aload_n hE 0 dX4_putLine_g0.2.2.2.2.1 rfl rfl ?_
  refine r_iload_n hE 2 dX4_putLine_g0.2.2.2.2.2.1 rfl rfl ?_
  refine c_callVv hE hm [.int a2] [] ck_X4_117 (cr_pr hm rfl) (kc_pr_putExp h) (by decide) rfl rfl (Nat.le_of_ble_eq_true rfl) dX4_putLine_g0.2.2.2.2.2.2.1 (fun s2 h => ?_)
  refine r_aload_n hE 0 dX4_putLine_g0.2.2.2.2.2.2.2.1 rfl rfl ?_
  refine cg_pr_out hE hm fk_X4_30 dX4_putLine_g0.2.2.2.2.2.2.2.2.1 ?_
  refine ks_ldc (tx := ";\n") (i := 13) hE hm (List.mem_of_getElem? (i := 13) rfl) dX4_putLine_g0.2.2.2.2.2.2.2.2.2.1 ?_
  refine c_callVv hE hm [.ref (G.1 (5000 + 13))] [] ck_X4_58 (cr_ou hm rfl) (kc_ou_putText_s h) (by decide) rfl rfl (Nat.le_of_ble_eq_true rfl) dX4_putLine_g0.2.2.2.2.2.2.2.2.2.2.1 (fun s3 h => ?_)
  exact c_vret hE hm hF dX4_putLine_g0.2.2.2.2.2.2.2.2.2.2.2 h
/-! group X4_putBlocks -/
abbrev TY_X4_putBlocks : Type := ((CS → Prop) → CS → Int32 → Int32 → Prop) × ((CS → Prop) → CS → Int32 → Int32 → Prop) × ((CS → Prop) → CS → Int32 → Int32 → Prop)
def RH_X4_putBlocks (R : TY_X4_putBlocks) (n : Nat) : Prop := (∀ (l : Launch) (D : va_G) (G : gAd) (post : CS → Prop) (σ : CS) (a1 : Int32) (a2 : Int32), R.1 post σ a1 a2 → cMet l D G yX4_putBlocks cX4_putBlocks 4 none n [.ref (G.1 700), .int a1, .int a2] σ (pV post)) ∧ (∀ (l : Launch) (D : va_G) (G : gAd) (post : CS → Prop) (σ : CS) (a1 : Int32) (a2 : Int32), R.2.1 post σ a1 a2 → cMet l D G yX4_putDeed cX4_putDeed 3 none n [.ref (G.1 700), .int a1, .int a2] σ (pV post)) ∧ (∀ (l : Launch) (D : va_G) (G : gAd) (post : CS → Prop) (σ : CS) (a1 : Int32) (a2 : Int32), R.2.2 post σ a1 a2 → cMet l D G yX4_putDeeds cX4_putDeeds 5 none n [.ref (G.1 700), .int a1, .int a2] σ (pV post))
def wc_pr_putBlocks_117 (R : TY_X4_putBlocks) (post : CS → Prop) (σ : CS) (v2 : Int32) : Prop := wc_pr_putBlanks (fun (s1 : CS) => wc_ou_putText_s (fun (s2 : CS) => post s2) s1 22) σ v2
set_option maxRecDepth 20000 in
theorem kc_pr_putBlocks_117  {R : TY_X4_putBlocks} {n : Nat} (ih0 : RH_X4_putBlocks R n) (hn : 8 ≤ n) {E : gEnv} {l : Launch} {D : va_G} {G : gAd} {post : CS → Prop} (hE : gOK E cX4_putBlocks RX4 none (n + 1)) (hm : cOK E l D G (pV post) 4) (hF : gFin E) (σ : CS) (v2 : Int32) (h : wc_pr_putBlocks_117 R post σ v2) : GW E (cW G σ) 117 [(0, .ref (G.1 700)), (2, .int v2)] [] := by
  unfold wc_pr_putBlocks_117 at h
  have hN := hm.2.2.2.2.2.2.1
  refine r_aload_n hE 0 dX4_putBlocks_g3.2.2.2.2.2.2.2.2.2.2.2.2.2.1 rfl rfl ?_
  refine r_iload_n hE 1 dX4_putBlocks_g3.2.2.2.2.2.2.2.2.2.2.2.2.2.2.1 rfl rfl ?_
  refine c_callVv hE hm [.int v2] [] ck_X4_93 (cr_pr hm rfl) (kc_pr_putBlanks h) (by omega) rfl rfl (Nat.le_of_ble_eq_true rfl) dX4_putBlocks_g3.2.2.2.2.2.2.2.2.2.2.2.2.2.2.2 (fun s1 h => ?_)
  refine r_aload_n hE 0 dX4_putBlocks_g4.1 rfl rfl ?_
  refine cg_pr_out hE hm fk_X4_30 dX4_putBlocks_g4.2.1 ?_
  refine ks_ldc (tx := "}\n") (i := 22) hE hm (List.mem_of_getElem? (i := 22) rfl) dX4_putBlocks_g4.2.2.1 ?_
  refine c_callVv hE hm [.ref (G.1 (5000 + 22))] [] ck_X4_58 (cr_ou hm rfl) (kc_ou_putText_s h) (by omega) rfl rfl (Nat.le_of_ble_eq_true rfl) dX4_putBlocks_g4.2.2.2.1 (fun s2 h => ?_)
  exact c_vret hE hm hF dX4_putBlocks_g4.2.2.2.2 h
def wc_pr_putBlocks_33 (R : TY_X4_putBlocks) (post : CS → Prop) (σ : CS) (v1 : Int32) (v2 : Int32) (v3 : Int32) (t1 : Nat) : Prop := wc_ou_putText_s (fun (s3 : CS) => c_pr_figure s3 = 300 ∧ (wc_fg_firstOf (fun (s4 : CS) (r5 : Int32) => wc_pr_putExp (fun (s6 : CS) => wc_ou_putText_s (fun (s7 : CS) => c_pr_figure s7 = 300 ∧ (wc_fg_bodyOf (fun (s8 : CS) (r9 : Int32) => R.2.2 (fun (s10 : CS) => ((v3 = (0 : Int32)) → (wc_pr_putBlocks_117 R post s10 v2)) ∧ ((¬ (v3 = (0 : Int32))) → (c_pr_figure s10 = 300 ∧ (wc_fg_dataOf (fun (s11 : CS) (r12 : Int32) => ((¬ (r12 = (1 : Int32))) → (wc_pr_putBlocks_117 R post s11 v2)) ∧ ((r12 = (1 : Int32)) → (wc_pr_putBlanks (fun (s13 : CS) => wc_ou_putText_s (fun (s14 : CS) => c_pr_figure s14 = 300 ∧ (wc_fg_otherOf (fun (s15 : CS) (r16 : Int32) => R.2.2 (fun (s17 : CS) => wc_pr_putBlocks_117 R post s17 v2) s15 r16 (v2 + (1 : Int32))) s14 v1)) s13 21) s11 v2))) s10 v1)))) s8 r9 (v2 + (1 : Int32))) s7 v1)) s6 20) s4 r5) s3 v1)) σ t1
set_option maxRecDepth 20000 in
theorem kc_pr_putBlocks_33  {R : TY_X4_putBlocks} {n : Nat} (ih0 : RH_X4_putBlocks R n) (hn : 8 ≤ n) {E : gEnv} {l : Launch} {D : va_G} {G : gAd} {post : CS → Prop} (hE : gOK E cX4_putBlocks RX4 none (n + 1)) (hm : cOK E l D G (pV post) 4) (hF : gFin E) (σ : CS) (v1 : Int32) (v2 : Int32) (v3 : Int32) (t1 : Nat) (h : wc_pr_putBlocks_33 R post σ v1 v2 v3 t1) : GW E (cW G σ) 33 [(0, .ref (G.1 700)), (1, .int v1), (2, .int v2), (3, .int v3)] [.ref (G.1 (5000 + t1)), .ref (G.1 500)] := by
  unfold wc_pr_putBlocks_33 at h
  have hN := hm.2.2.2.2.2.2.1
  refine c_callVv hE hm [.ref (G.1 (5000 + t1))] [] ck_X4_58 (cr_ou hm rfl) (kc_ou_putText_s h) (by omega) rfl rfl (Nat.le_of_ble_eq_true rfl) dX4_putBlocks_g1.2.1 (fun s3 h => ?_)
  refine r_aload_n hE 0 dX4_putBlocks_g1.2.2.1 rfl rfl ?_
  refine r_aload_n hE 0 dX4_putBlocks_g1.2.2.2.1 rfl rfl ?_
  obtain ⟨hj, h⟩ := h
  refine cg_pr_figure hE hm fk_X4_26 dX4_putBlocks_g1.2.2.2.2.1 hj ?_
  refine r_iload_n hE 1 dX4_putBlocks_g1.2.2.2.2.2.1 rfl rfl ?_
  refine c_callVi hE hm [.int v1] [.ref (G.1 700)] ck_X4_110 (cr_fg hm rfl) (kc_fg_firstOf h) (by omega) rfl rfl (Nat.le_of_ble_eq_true rfl) dX4_putBlocks_g1.2.2.2.2.2.2.1 (fun s4 r5 h => ?_)
  refine c_callVv hE hm [.int r5] [] ck_X4_117 (cr_pr hm rfl) (kc_pr_putExp h) (by omega) rfl rfl (Nat.le_of_ble_eq_true rfl) dX4_putBlocks_g1.2.2.2.2.2.2.2.1 (fun s6 h => ?_)
  refine r_aload_n hE 0 dX4_putBlocks_g1.2.2.2.2.2.2.2.2.1 rfl rfl ?_
  refine cg_pr_out hE hm fk_X4_30 dX4_putBlocks_g1.2.2.2.2.2.2.2.2.2.1 ?_
  refine ks_ldc (tx := " {\n") (i := 20) hE hm (List.mem_of_getElem? (i := 20) rfl) dX4_putBlocks_g1.2.2.2.2.2.2.2.2.2.2.1 ?_
  refine c_callVv hE hm [.ref (G.1 (5000 + 20))] [] ck_X4_58 (cr_ou hm rfl) (kc_ou_putText_s h) (by omega) rfl rfl (Nat.le_of_ble_eq_true rfl) dX4_putBlocks_g1.2.2.2.2.2.2.2.2.2.2.2.1 (fun s7 h => ?_)
  refine r_aload_n hE 0 dX4_putBlocks_g1.2.2.2.2.2.2.2.2.2.2.2.2.1 rfl rfl ?_
  refine r_aload_n hE 0 dX4_putBlocks_g1.2.2.2.2.2.2.2.2.2.2.2.2.2.1 rfl rfl ?_
  obtain ⟨hj, h⟩ := h
  refine cg_pr_figure hE hm fk_X4_26 dX4_putBlocks_g1.2.2.2.2.2.2.2.2.2.2.2.2.2.2.1 hj ?_
  refine r_iload_n hE 1 dX4_putBlocks_g1.2.2.2.2.2.2.2.2.2.2.2.2.2.2.2 rfl rfl ?_
  refine c_callVi hE hm [.int v1] [.ref (G.1 700)] ck_X4_139 (cr_fg hm rfl) (kc_fg_bodyOf h) (by omega) rfl rfl (Nat.le_of_ble_eq_true rfl) dX4_putBlocks_g2.1 (fun s8 r9 h => ?_)
  refine r_iload_n hE 2 dX4_putBlocks_g2.2.1 rfl rfl ?_
  refine r_iconst (v := (1 : Int32)) hE dX4_putBlocks_g2.2.2.1 (by decide) ?_
  refine r_iadd hE dX4_putBlocks_g2.2.2.2.1 ?_
  refine c_callVv hE hm [.int r9, .int (v2 + (1 : Int32))] [] ck_X4_52 (cr_pr hm rfl) (ih0.2.2 _ _ _ _ _ _ _ h) (Nat.le_refl _) rfl rfl (Nat.le_of_ble_eq_true rfl) dX4_putBlocks_g2.2.2.2.2.1 (fun s10 h => ?_)
  refine r_iload_n hE 3 dX4_putBlocks_g2.2.2.2.2.2.1 rfl rfl ?_
  refine r_if_eq hE 117 dX4_putBlocks_g2.2.2.2.2.2.2.1 (by decide) h (fun h => ?_) (fun h => ?_)
  · refine r_pick [0, 2] rfl ?_
    exact kc_pr_putBlocks_117 ih0 hn hE hm hF _ _ h
  · refine r_aload_n hE 0 dX4_putBlocks_g2.2.2.2.2.2.2.2.1 rfl rfl ?_
    obtain ⟨hj, h⟩ := h
    refine cg_pr_figure hE hm fk_X4_26 dX4_putBlocks_g2.2.2.2.2.2.2.2.2.1 hj ?_
    refine r_iload_n hE 1 dX4_putBlocks_g2.2.2.2.2.2.2.2.2.2.1 rfl rfl ?_
    refine c_callVi hE hm [.int v1] [] ck_X4_142 (cr_fg hm rfl) (kc_fg_dataOf h) (by omega) rfl rfl (Nat.le_of_ble_eq_true rfl) dX4_putBlocks_g2.2.2.2.2.2.2.2.2.2.2.1 (fun s11 r12 h => ?_)
    refine r_iconst (v := (1 : Int32)) hE dX4_putBlocks_g2.2.2.2.2.2.2.2.2.2.2.2.1 (by decide) ?_
    refine r_icmp_ne hE 117 dX4_putBlocks_g2.2.2.2.2.2.2.2.2.2.2.2.2.1 (by decide) h (fun h => ?_) (fun h => ?_)
    · refine r_pick [0, 2] rfl ?_
      exact kc_pr_putBlocks_117 ih0 hn hE hm hF _ _ h
    · refine r_aload_n hE 0 dX4_putBlocks_g2.2.2.2.2.2.2.2.2.2.2.2.2.2.1 rfl rfl ?_
      refine r_iload_n hE 2 dX4_putBlocks_g2.2.2.2.2.2.2.2.2.2.2.2.2.2.2.1 rfl rfl ?_
      refine c_callVv hE hm [.int v2] [] ck_X4_93 (cr_pr hm rfl) (kc_pr_putBlanks h) (by omega) rfl rfl (Nat.le_of_ble_eq_true rfl) dX4_putBlocks_g2.2.2.2.2.2.2.2.2.2.2.2.2.2.2.2 (fun s13 h => ?_)
      refine r_aload_n hE 0 dX4_putBlocks_g3.1 rfl rfl ?_
      refine cg_pr_out hE hm fk_X4_30 dX4_putBlocks_g3.2.1 ?_
      refine ks_ldc (tx := "} else {\n") (i := 21) hE hm (List.mem_of_getElem? (i := 21) rfl) dX4_putBlocks_g3.2.2.1 ?_
      refine c_callVv hE hm [.ref (G.1 (5000 + 21))] [] ck_X4_58 (cr_ou hm rfl) (kc_ou_putText_s h) (by omega) rfl rfl (Nat.le_of_ble_eq_true rfl) dX4_putBlocks_g3.2.2.2.1 (fun s14 h => ?_)
      refine r_aload_n hE 0 dX4_putBlocks_g3.2.2.2.2.1 rfl rfl ?_
      refine r_aload_n hE 0 dX4_putBlocks_g3.2.2.2.2.2.1 rfl rfl ?_
      obtain ⟨hj, h⟩ := h
      refine cg_pr_figure hE hm fk_X4_26 dX4_putBlocks_g3.2.2.2.2.2.2.1 hj ?_
      refine r_iload_n hE 1 dX4_putBlocks_g3.2.2.2.2.2.2.2.1 rfl rfl ?_
      refine c_callVi hE hm [.int v1] [.ref (G.1 700)] ck_X4_147 (cr_fg hm rfl) (kc_fg_otherOf h) (by omega) rfl rfl (Nat.le_of_ble_eq_true rfl) dX4_putBlocks_g3.2.2.2.2.2.2.2.2.1 (fun s15 r16 h => ?_)
      refine r_iload_n hE 2 dX4_putBlocks_g3.2.2.2.2.2.2.2.2.2.1 rfl rfl ?_
      refine r_iconst (v := (1 : Int32)) hE dX4_putBlocks_g3.2.2.2.2.2.2.2.2.2.2.1 (by decide) ?_
      refine r_iadd hE dX4_putBlocks_g3.2.2.2.2.2.2.2.2.2.2.2.1 ?_
      refine c_callVv hE hm [.int r16, .int (v2 + (1 : Int32))] [] ck_X4_52 (cr_pr hm rfl) (ih0.2.2 _ _ _ _ _ _ _ h) (Nat.le_refl _) rfl rfl (Nat.le_of_ble_eq_true rfl) dX4_putBlocks_g3.2.2.2.2.2.2.2.2.2.2.2.2.1 (fun s17 h => ?_)
      refine r_pick [0, 2] rfl ?_
      exact kc_pr_putBlocks_117 ih0 hn hE hm hF _ _ h
def wc_pr_putBlocks_17 (R : TY_X4_putBlocks) (post : CS → Prop) (σ : CS) (v1 : Int32) (v2 : Int32) (t0 : Int32) : Prop := ((t0 = (0 : Int32)) → (wc_pr_putBlocks_33 R post σ v1 v2 t0 19)) ∧ ((¬ (t0 = (0 : Int32))) → (wc_pr_putBlocks_33 R post σ v1 v2 t0 18))
set_option maxRecDepth 20000 in
theorem kc_pr_putBlocks_17  {R : TY_X4_putBlocks} {n : Nat} (ih0 : RH_X4_putBlocks R n) (hn : 8 ≤ n) {E : gEnv} {l : Launch} {D : va_G} {G : gAd} {post : CS → Prop} (hE : gOK E cX4_putBlocks RX4 none (n + 1)) (hm : cOK E l D G (pV post) 4) (hF : gFin E) (σ : CS) (v1 : Int32) (v2 : Int32) (t0 : Int32) (h : wc_pr_putBlocks_17 R post σ v1 v2 t0) : GW E (cW G σ) 17 [(0, .ref (G.1 700)), (1, .int v1), (2, .int v2)] [.int t0] := by
  unfold wc_pr_putBlocks_17 at h
  have hN := hm.2.2.2.2.2.2.1
  refine r_istore_n hE [(3, .int t0), (0, .ref (G.1 700)), (1, .int v1), (2, .int v2)] dX4_putBlocks_g0.2.2.2.2.2.2.2.2.2.1 rfl hN (by decide) rfl ?_
  refine r_aload_n hE 1 dX4_putBlocks_g0.2.2.2.2.2.2.2.2.2.2.1 rfl rfl ?_
  refine cg_pr_out hE hm fk_X4_30 dX4_putBlocks_g0.2.2.2.2.2.2.2.2.2.2.2.1 ?_
  refine r_iload_n hE 0 dX4_putBlocks_g0.2.2.2.2.2.2.2.2.2.2.2.2.1 rfl rfl ?_
  refine r_if_eq hE 31 dX4_putBlocks_g0.2.2.2.2.2.2.2.2.2.2.2.2.2.1 (by decide) h (fun h => ?_) (fun h => ?_)
  · refine ks_ldc (tx := "times ") (i := 19) hE hm (List.mem_of_getElem? (i := 19) rfl) dX4_putBlocks_g1.1 ?_
    refine r_pick [1, 2, 3, 0] rfl ?_
    exact kc_pr_putBlocks_33 ih0 hn hE hm hF _ _ _ _ _ h
  · refine ks_ldc (tx := "if ") (i := 18) hE hm (List.mem_of_getElem? (i := 18) rfl) dX4_putBlocks_g0.2.2.2.2.2.2.2.2.2.2.2.2.2.2.1 ?_
    refine r_goto hE 33 dX4_putBlocks_g0.2.2.2.2.2.2.2.2.2.2.2.2.2.2.2 (by decide) ?_
    refine r_pick [1, 2, 3, 0] rfl ?_
    exact kc_pr_putBlocks_33 ih0 hn hE hm hF _ _ _ _ _ h
def wcB_pr_putBlocks (R : TY_X4_putBlocks) (post : CS → Prop) (σ : CS) (a1 : Int32) (a2 : Int32) : Prop := c_pr_figure σ = 300 ∧ (wc_fg_typeOf (fun (s18 : CS) (r19 : Int32) => ((¬ (r19 = (2 : Int32))) → (wc_pr_putBlocks_17 R post s18 a1 a2 (0 : Int32))) ∧ ((r19 = (2 : Int32)) → (wc_pr_putBlocks_17 R post s18 a1 a2 (1 : Int32)))) σ a1)
set_option maxRecDepth 20000 in
theorem kcB_pr_putBlocks {R : TY_X4_putBlocks} {n : Nat} (ih0 : RH_X4_putBlocks R n) (hn : 8 ≤ n) {l : Launch} {D : va_G} {G : gAd} {post : CS → Prop} {σ : CS} {a1 : Int32} {a2 : Int32} (h : wcB_pr_putBlocks R post σ a1 a2) : cMet l D G yX4_putBlocks cX4_putBlocks 4 none (n + 1) [.ref (G.1 700), .int a1, .int a2] σ (pV post) := by
  unfold wcB_pr_putBlocks at h
  refine c_enter (own := RX4) (by decide +kernel) rfl [(0, .ref (G.1 700)), (1, .int a1), (2, .int a2)] rfl (Nat.le_of_ble_eq_true rfl) ?_
  intro E hE hm hF
  have hN := hm.2.2.2.2.2.2.1
  refine r_aload_n hE 0 dX4_putBlocks_g0.1 rfl rfl ?_
  obtain ⟨hj, h⟩ := h
  refine cg_pr_figure hE hm fk_X4_26 dX4_putBlocks_g0.2.1 hj ?_
  refine r_iload_n hE 1 dX4_putBlocks_g0.2.2.1 rfl rfl ?_
  refine c_callVi hE hm [.int a1] [] ck_X4_102 (cr_fg hm rfl) (kc_fg_typeOf h) (by omega) rfl rfl (Nat.le_of_ble_eq_true rfl) dX4_putBlocks_g0.2.2.2.1 (fun s18 r19 h => ?_)
  refine r_iconst (v := (2 : Int32)) hE dX4_putBlocks_g0.2.2.2.2.1 (by decide) ?_
  refine r_icmp_ne hE 16 dX4_putBlocks_g0.2.2.2.2.2.1 (by decide) h (fun h => ?_) (fun h => ?_)
  · refine r_iconst (v := (0 : Int32)) hE dX4_putBlocks_g0.2.2.2.2.2.2.2.2.1 (by decide) ?_
    exact kc_pr_putBlocks_17 ih0 hn hE hm hF _ _ _ _ h
  · refine r_iconst (v := (1 : Int32)) hE dX4_putBlocks_g0.2.2.2.2.2.2.1 (by decide) ?_
    refine r_goto hE 17 dX4_putBlocks_g0.2.2.2.2.2.2.2.1 (by decide) ?_
    exact kc_pr_putBlocks_17 ih0 hn hE hm hF _ _ _ _ h
def wc_pr_putDeed_189 (R : TY_X4_putBlocks) (post : CS → Prop) (σ : CS) (v1 : Int32) (v2 : Int32) : Prop := R.1 (fun (s1 : CS) => post s1) σ v1 v2
set_option maxRecDepth 20000 in
theorem kc_pr_putDeed_189  {R : TY_X4_putBlocks} {n : Nat} (ih0 : RH_X4_putBlocks R n) (hn : 8 ≤ n) {E : gEnv} {l : Launch} {D : va_G} {G : gAd} {post : CS → Prop} (hE : gOK E cX4_putDeed RX4 none (n + 1)) (hm : cOK E l D G (pV post) 3) (hF : gFin E) (σ : CS) (v1 : Int32) (v2 : Int32) (h : wc_pr_putDeed_189 R post σ v1 v2) : GW E (cW G σ) 189 [(0, .ref (G.1 700)), (1, .int v1), (2, .int v2)] [] := by
  unfold wc_pr_putDeed_189 at h
  have hN := hm.2.2.2.2.2.2.1
  refine r_aload_n hE 0 dX4_putDeed_g4.2.2.2.2.2.2.1 rfl rfl ?_
  refine r_iload_n hE 1 dX4_putDeed_g4.2.2.2.2.2.2.2.1 rfl rfl ?_
  refine r_iload_n hE 2 dX4_putDeed_g4.2.2.2.2.2.2.2.2.1 rfl rfl ?_
  refine c_callVv hE hm [.int v1, .int v2] [] ck_X4_128 (cr_pr hm rfl) (ih0.1 _ _ _ _ _ _ _ h) (Nat.le_refl _) rfl rfl (Nat.le_of_ble_eq_true rfl) dX4_putDeed_g4.2.2.2.2.2.2.2.2.2.1 (fun s1 h => ?_)
  exact c_vret hE hm hF dX4_putDeed_g4.2.2.2.2.2.2.2.2.2.2 h
def wcB_pr_putDeed (R : TY_X4_putBlocks) (post : CS → Prop) (σ : CS) (a1 : Int32) (a2 : Int32) : Prop := c_pr_figure σ = 300 ∧ (wc_fg_typeOf (fun (s2 : CS) (r3 : Int32) => (r3 = (0 : Int32) → (c_pr_figure s2 = 300 ∧ (wc_fg_atOf (fun (s4 : CS) (r5 : Int32) => wc_pr_putWord (fun (s6 : CS) => c_pr_figure s6 = 300 ∧ (wc_fg_firstOf (fun (s7 : CS) (r8 : Int32) => wc_pr_putLine_s (fun (s9 : CS) => post s9) s7 12 r8) s6 a1)) s4 r5) s2 a1))) ∧ (¬ r3 = (0 : Int32) → ((r3 = (1 : Int32) → (c_pr_figure s2 = 300 ∧ (wc_fg_atOf (fun (s10 : CS) (r11 : Int32) => wc_pr_putWord (fun (s12 : CS) => wc_ou_put (fun (s13 : CS) => c_pr_figure s13 = 300 ∧ (wc_fg_firstOf (fun (s14 : CS) (r15 : Int32) => wc_pr_putExp (fun (s16 : CS) => c_pr_figure s16 = 300 ∧ (c_pr_figure s16 = 300 ∧ (wc_fg_firstOf (fun (s17 : CS) (r18 : Int32) => wc_fg_nextOf (fun (s19 : CS) (r20 : Int32) => wc_pr_putLine_s (fun (s21 : CS) => post s21) s19 14 r20) s17 r18) s16 a1))) s14 r15) s13 a1)) s12 (91 : Int32)) s10 r11) s2 a1))) ∧ (¬ r3 = (1 : Int32) → ((r3 = (2 : Int32) → (wc_pr_putDeed_189 R post s2 a1 a2)) ∧ (¬ r3 = (2 : Int32) → ((r3 = (3 : Int32) → (wc_pr_putDeed_189 R post s2 a1 a2)) ∧ (¬ r3 = (3 : Int32) → ((r3 = (4 : Int32) → (c_pr_figure s2 = 300 ∧ (wc_fg_firstOf (fun (s22 : CS) (r23 : Int32) => wc_pr_putLine_s (fun (s24 : CS) => post s24) s22 15 r23) s2 a1))) ∧ (¬ r3 = (4 : Int32) → ((r3 = (5 : Int32) → (c_pr_figure s2 = 300 ∧ (wc_fg_firstOf (fun (s25 : CS) (r26 : Int32) => wc_pr_putLine_s (fun (s27 : CS) => post s27) s25 16 r26) s2 a1))) ∧ (¬ r3 = (5 : Int32) → ((r3 = (6 : Int32) → (c_pr_figure s2 = 300 ∧ (wc_fg_firstOf (fun (s28 : CS) (r29 : Int32) => wc_pr_putLine_s (fun (s30 : CS) => post s30) s28 17 r29) s2 a1))) ∧ (¬ r3 = (6 : Int32) → (wc_pr_putDeed_189 R post s2 a1 a2))))))))))))))) σ a1)
set_option maxRecDepth 20000 in
theorem kcB_pr_putDeed {R : TY_X4_putBlocks} {n : Nat} (ih0 : RH_X4_putBlocks R n) (hn : 8 ≤ n) {l : Launch} {D : va_G} {G : gAd} {post : CS → Prop} {σ : CS} {a1 : Int32} {a2 : Int32} (h : wcB_pr_putDeed R post σ a1 a2) : cMet l D G yX4_putDeed cX4_putDeed 3 none (n + 1) [.ref (G.1 700), .int a1, .int a2] σ (pV post) := by
  unfold wcB_pr_putDeed at h
  refine c_enter (own := RX4) (by decide +kernel) rfl [(0, .ref (G.1 700)), (1, .int a1), (2, .int a2)] rfl (Nat.le_of_ble_eq_true rfl) ?_
  intro E hE hm hF
  have hN := hm.2.2.2.2.2.2.1
  refine r_aload_n hE 0 dX4_putDeed_g0.1 rfl rfl ?_
  obtain ⟨hj, h⟩ := h
  refine cg_pr_figure hE hm fk_X4_26 dX4_putDeed_g0.2.1 hj ?_
  refine r_iload_n hE 1 dX4_putDeed_g0.2.2.1 rfl rfl ?_
  refine c_callVi hE hm [.int a1] [] ck_X4_102 (cr_fg hm rfl) (kc_fg_typeOf h) (by omega) rfl rfl (Nat.le_of_ble_eq_true rfl) dX4_putDeed_g0.2.2.2.1 (fun s2 r3 h => ?_)
  refine r_case (0 : Int32) h (fun q0 h => ?_) (fun q0 h => ?_)
  · refine r_tableAt (off := 44) hE (0 : Int32) 52 dX4_putDeed_g0.2.2.2.2.1 q0 (by decide) (by decide) (by decide) (by decide) ?_
    refine r_aload_n hE 0 dX4_putDeed_g0.2.2.2.2.2.1 rfl rfl ?_
    refine r_aload_n hE 0 dX4_putDeed_g0.2.2.2.2.2.2.1 rfl rfl ?_
    obtain ⟨hj, h⟩ := h
    refine cg_pr_figure hE hm fk_X4_26 dX4_putDeed_g0.2.2.2.2.2.2.2.1 hj ?_
    refine r_iload_n hE 1 dX4_putDeed_g0.2.2.2.2.2.2.2.2.1 rfl rfl ?_
    refine c_callVi hE hm [.int a1] [.ref (G.1 700)] ck_X4_105 (cr_fg hm rfl) (kc_fg_atOf h) (by omega) rfl rfl (Nat.le_of_ble_eq_true rfl) dX4_putDeed_g0.2.2.2.2.2.2.2.2.2.1 (fun s4 r5 h => ?_)
    refine c_callVv hE hm [.int r5] [] ck_X4_70 (cr_pr hm rfl) (kc_pr_putWord h) (by omega) rfl rfl (Nat.le_of_ble_eq_true rfl) dX4_putDeed_g0.2.2.2.2.2.2.2.2.2.2.1 (fun s6 h => ?_)
    refine r_aload_n hE 0 dX4_putDeed_g0.2.2.2.2.2.2.2.2.2.2.2.1 rfl rfl ?_
    refine ks_ldc (tx := " = ") (i := 12) hE hm (List.mem_of_getElem? (i := 12) rfl) dX4_putDeed_g0.2.2.2.2.2.2.2.2.2.2.2.2.1 ?_
    refine r_aload_n hE 0 dX4_putDeed_g0.2.2.2.2.2.2.2.2.2.2.2.2.2.1 rfl rfl ?_
    obtain ⟨hj, h⟩ := h
    refine cg_pr_figure hE hm fk_X4_26 dX4_putDeed_g0.2.2.2.2.2.2.2.2.2.2.2.2.2.2.1 hj ?_
    refine r_iload_n hE 1 dX4_putDeed_g0.2.2.2.2.2.2.2.2.2.2.2.2.2.2.2 rfl rfl ?_
    refine c_callVi hE hm [.int a1] [.ref (G.1 (5000 + 12)), .ref (G.1 700)] ck_X4_110 (cr_fg hm rfl) (kc_fg_firstOf h) (by omega) rfl rfl (Nat.le_of_ble_eq_true rfl) dX4_putDeed_g1.1 (fun s7 r8 h => ?_)
    refine c_callVv hE hm [.ref (G.1 (5000 + 12)), .int r8] [] ck_X4_113 (cr_pr hm rfl) (kc_pr_putLine_s h) (by omega) rfl rfl (Nat.le_of_ble_eq_true rfl) dX4_putDeed_g1.2.1 (fun s9 h => ?_)
    refine r_goto hE 195 dX4_putDeed_g1.2.2.1 (by decide) ?_
    exact c_vret hE hm hF dX4_putDeed_g4.2.2.2.2.2.2.2.2.2.2 h
  · refine r_case (1 : Int32) h (fun q1 h => ?_) (fun q1 h => ?_)
    · refine r_tableAt (off := 73) hE (1 : Int32) 81 dX4_putDeed_g0.2.2.2.2.1 q1 (by decide) (by decide) (by decide) (by decide) ?_
      refine r_aload_n hE 0 dX4_putDeed_g1.2.2.2.1 rfl rfl ?_
      refine r_aload_n hE 0 dX4_putDeed_g1.2.2.2.2.1 rfl rfl ?_
      obtain ⟨hj, h⟩ := h
      refine cg_pr_figure hE hm fk_X4_26 dX4_putDeed_g1.2.2.2.2.2.1 hj ?_
      refine r_iload_n hE 1 dX4_putDeed_g1.2.2.2.2.2.2.1 rfl rfl ?_
      refine c_callVi hE hm [.int a1] [.ref (G.1 700)] ck_X4_105 (cr_fg hm rfl) (kc_fg_atOf h) (by omega) rfl rfl (Nat.le_of_ble_eq_true rfl) dX4_putDeed_g1.2.2.2.2.2.2.2.1 (fun s10 r11 h => ?_)
      refine c_callVv hE hm [.int r11] [] ck_X4_70 (cr_pr hm rfl) (kc_pr_putWord h) (by omega) rfl rfl (Nat.le_of_ble_eq_true rfl) dX4_putDeed_g1.2.2.2.2.2.2.2.2.1 (fun s12 h => ?_)
      refine r_aload_n hE 0 dX4_putDeed_g1.2.2.2.2.2.2.2.2.2.1 rfl rfl ?_
      refine cg_pr_out hE hm fk_X4_30 dX4_putDeed_g1.2.2.2.2.2.2.2.2.2.2.1 ?_
      refine r_bipush (v := (91 : Int32)) hE dX4_putDeed_g1.2.2.2.2.2.2.2.2.2.2.2.1 (by decide) ?_
      refine c_callVv hE hm [.int (91 : Int32)] [] ck_X4_73 (cr_ou hm rfl) (kc_ou_put h) (by omega) rfl rfl (Nat.le_of_ble_eq_true rfl) dX4_putDeed_g1.2.2.2.2.2.2.2.2.2.2.2.2.1 (fun s13 h => ?_)
      refine r_aload_n hE 0 dX4_putDeed_g1.2.2.2.2.2.2.2.2.2.2.2.2.2.1 rfl rfl ?_
      refine r_aload_n hE 0 dX4_putDeed_g1.2.2.2.2.2.2.2.2.2.2.2.2.2.2.1 rfl rfl ?_
      obtain ⟨hj, h⟩ := h
      refine cg_pr_figure hE hm fk_X4_26 dX4_putDeed_g1.2.2.2.2.2.2.2.2.2.2.2.2.2.2.2 hj ?_
      refine r_iload_n hE 1 dX4_putDeed_g2.1 rfl rfl ?_
      refine c_callVi hE hm [.int a1] [.ref (G.1 700)] ck_X4_110 (cr_fg hm rfl) (kc_fg_firstOf h) (by omega) rfl rfl (Nat.le_of_ble_eq_true rfl) dX4_putDeed_g2.2.1 (fun s14 r15 h => ?_)
      refine c_callVv hE hm [.int r15] [] ck_X4_117 (cr_pr hm rfl) (kc_pr_putExp h) (by omega) rfl rfl (Nat.le_of_ble_eq_true rfl) dX4_putDeed_g2.2.2.1 (fun s16 h => ?_)
      refine r_aload_n hE 0 dX4_putDeed_g2.2.2.2.1 rfl rfl ?_
      refine ks_ldc (tx := "] = ") (i := 14) hE hm (List.mem_of_getElem? (i := 14) rfl) dX4_putDeed_g2.2.2.2.2.1 ?_
      refine r_aload_n hE 0 dX4_putDeed_g2.2.2.2.2.2.1 rfl rfl ?_
      obtain ⟨hj, h⟩ := h
      refine cg_pr_figure hE hm fk_X4_26 dX4_putDeed_g2.2.2.2.2.2.2.1 hj ?_
      refine r_aload_n hE 0 dX4_putDeed_g2.2.2.2.2.2.2.2.1 rfl rfl ?_
      obtain ⟨hj, h⟩ := h
      refine cg_pr_figure hE hm fk_X4_26 dX4_putDeed_g2.2.2.2.2.2.2.2.2.1 hj ?_
      refine r_iload_n hE 1 dX4_putDeed_g2.2.2.2.2.2.2.2.2.2.1 rfl rfl ?_
      refine c_callVi hE hm [.int a1] [.ref (G.1 300), .ref (G.1 (5000 + 14)), .ref (G.1 700)] ck_X4_110 (cr_fg hm rfl) (kc_fg_firstOf h) (by omega) rfl rfl (Nat.le_of_ble_eq_true rfl) dX4_putDeed_g2.2.2.2.2.2.2.2.2.2.2.1 (fun s17 r18 h => ?_)
      refine c_callVi hE hm [.int r18] [.ref (G.1 (5000 + 14)), .ref (G.1 700)] ck_X4_99 (cr_fg hm rfl) (kc_fg_nextOf h) (by omega) rfl rfl (Nat.le_of_ble_eq_true rfl) dX4_putDeed_g2.2.2.2.2.2.2.2.2.2.2.2.1 (fun s19 r20 h => ?_)
      refine c_callVv hE hm [.ref (G.1 (5000 + 14)), .int r20] [] ck_X4_113 (cr_pr hm rfl) (kc_pr_putLine_s h) (by omega) rfl rfl (Nat.le_of_ble_eq_true rfl) dX4_putDeed_g2.2.2.2.2.2.2.2.2.2.2.2.2.1 (fun s21 h => ?_)
      refine r_goto hE 195 dX4_putDeed_g2.2.2.2.2.2.2.2.2.2.2.2.2.2.1 (by decide) ?_
      exact c_vret hE hm hF dX4_putDeed_g4.2.2.2.2.2.2.2.2.2.2 h
    · refine r_case (2 : Int32) h (fun q2 h => ?_) (fun q2 h => ?_)
      · refine r_tableAt (off := 181) hE (2 : Int32) 189 dX4_putDeed_g0.2.2.2.2.1 q2 (by decide) (by decide) (by decide) (by decide) ?_
        exact kc_pr_putDeed_189 ih0 hn hE hm hF _ _ _ h
      · refine r_case (3 : Int32) h (fun q3 h => ?_) (fun q3 h => ?_)
        · refine r_tableAt (off := 181) hE (3 : Int32) 189 dX4_putDeed_g0.2.2.2.2.1 q3 (by decide) (by decide) (by decide) (by decide) ?_
          exact kc_pr_putDeed_189 ih0 hn hE hm hF _ _ _ h
        · refine r_case (4 : Int32) h (fun q4 h => ?_) (fun q4 h => ?_)
          · refine r_tableAt (off := 130) hE (4 : Int32) 138 dX4_putDeed_g0.2.2.2.2.1 q4 (by decide) (by decide) (by decide) (by decide) ?_
            refine r_aload_n hE 0 dX4_putDeed_g2.2.2.2.2.2.2.2.2.2.2.2.2.2.2.1 rfl rfl ?_
            refine ks_ldc (tx := "state ") (i := 15) hE hm (List.mem_of_getElem? (i := 15) rfl) dX4_putDeed_g2.2.2.2.2.2.2.2.2.2.2.2.2.2.2.2 ?_
            refine r_aload_n hE 0 dX4_putDeed_g3.1 rfl rfl ?_
            obtain ⟨hj, h⟩ := h
            refine cg_pr_figure hE hm fk_X4_26 dX4_putDeed_g3.2.1 hj ?_
            refine r_iload_n hE 1 dX4_putDeed_g3.2.2.1 rfl rfl ?_
            refine c_callVi hE hm [.int a1] [.ref (G.1 (5000 + 15)), .ref (G.1 700)] ck_X4_110 (cr_fg hm rfl) (kc_fg_firstOf h) (by omega) rfl rfl (Nat.le_of_ble_eq_true rfl) dX4_putDeed_g3.2.2.2.1 (fun s22 r23 h => ?_)
            refine c_callVv hE hm [.ref (G.1 (5000 + 15)), .int r23] [] ck_X4_113 (cr_pr hm rfl) (kc_pr_putLine_s h) (by omega) rfl rfl (Nat.le_of_ble_eq_true rfl) dX4_putDeed_g3.2.2.2.2.1 (fun s24 h => ?_)
            refine r_goto hE 195 dX4_putDeed_g3.2.2.2.2.2.1 (by decide) ?_
            exact c_vret hE hm hF dX4_putDeed_g4.2.2.2.2.2.2.2.2.2.2 h
          · refine r_case (5 : Int32) h (fun q5 h => ?_) (fun q5 h => ?_)
            · refine r_tableAt (off := 147) hE (5 : Int32) 155 dX4_putDeed_g0.2.2.2.2.1 q5 (by decide) (by decide) (by decide) (by decide) ?_
              refine r_aload_n hE 0 dX4_putDeed_g3.2.2.2.2.2.2.1 rfl rfl ?_
              refine ks_ldc (tx := "draw ") (i := 16) hE hm (List.mem_of_getElem? (i := 16) rfl) dX4_putDeed_g3.2.2.2.2.2.2.2.1 ?_
              refine r_aload_n hE 0 dX4_putDeed_g3.2.2.2.2.2.2.2.2.1 rfl rfl ?_
              obtain ⟨hj, h⟩ := h
              refine cg_pr_figure hE hm fk_X4_26 dX4_putDeed_g3.2.2.2.2.2.2.2.2.2.1 hj ?_
              refine r_iload_n hE 1 dX4_putDeed_g3.2.2.2.2.2.2.2.2.2.2.1 rfl rfl ?_
              refine c_callVi hE hm [.int a1] [.ref (G.1 (5000 + 16)), .ref (G.1 700)] ck_X4_110 (cr_fg hm rfl) (kc_fg_firstOf h) (by omega) rfl rfl (Nat.le_of_ble_eq_true rfl) dX4_putDeed_g3.2.2.2.2.2.2.2.2.2.2.2.1 (fun s25 r26 h => ?_)
              refine c_callVv hE hm [.ref (G.1 (5000 + 16)), .int r26] [] ck_X4_113 (cr_pr hm rfl) (kc_pr_putLine_s h) (by omega) rfl rfl (Nat.le_of_ble_eq_true rfl) dX4_putDeed_g3.2.2.2.2.2.2.2.2.2.2.2.2.1 (fun s27 h => ?_)
              refine r_goto hE 195 dX4_putDeed_g3.2.2.2.2.2.2.2.2.2.2.2.2.2.1 (by decide) ?_
              exact c_vret hE hm hF dX4_putDeed_g4.2.2.2.2.2.2.2.2.2.2 h
            · refine r_case (6 : Int32) h (fun q6 h => ?_) (fun q6 h => ?_)
              · refine r_tableAt (off := 164) hE (6 : Int32) 172 dX4_putDeed_g0.2.2.2.2.1 q6 (by decide) (by decide) (by decide) (by decide) ?_
                refine r_aload_n hE 0 dX4_putDeed_g3.2.2.2.2.2.2.2.2.2.2.2.2.2.2.1 rfl rfl ?_
                refine ks_ldc (tx := "give ") (i := 17) hE hm (List.mem_of_getElem? (i := 17) rfl) dX4_putDeed_g3.2.2.2.2.2.2.2.2.2.2.2.2.2.2.2 ?_
                refine r_aload_n hE 0 dX4_putDeed_g4.1 rfl rfl ?_
                obtain ⟨hj, h⟩ := h
                refine cg_pr_figure hE hm fk_X4_26 dX4_putDeed_g4.2.1 hj ?_
                refine r_iload_n hE 1 dX4_putDeed_g4.2.2.1 rfl rfl ?_
                refine c_callVi hE hm [.int a1] [.ref (G.1 (5000 + 17)), .ref (G.1 700)] ck_X4_110 (cr_fg hm rfl) (kc_fg_firstOf h) (by omega) rfl rfl (Nat.le_of_ble_eq_true rfl) dX4_putDeed_g4.2.2.2.1 (fun s28 r29 h => ?_)
                refine c_callVv hE hm [.ref (G.1 (5000 + 17)), .int r29] [] ck_X4_113 (cr_pr hm rfl) (kc_pr_putLine_s h) (by omega) rfl rfl (Nat.le_of_ble_eq_true rfl) dX4_putDeed_g4.2.2.2.2.1 (fun s30 h => ?_)
                refine r_goto hE 195 dX4_putDeed_g4.2.2.2.2.2.1 (by decide) ?_
                exact c_vret hE hm hF dX4_putDeed_g4.2.2.2.2.2.2.2.2.2.2 h
              · have n0 := lv_neT q0 (show (0 : Int32).toInt = 0 by decide)
                have n1 := lv_neT q1 (show (1 : Int32).toInt = 1 by decide)
                have n2 := lv_neT q2 (show (2 : Int32).toInt = 2 by decide)
                have n3 := lv_neT q3 (show (3 : Int32).toInt = 3 by decide)
                have n4 := lv_neT q4 (show (4 : Int32).toInt = 4 by decide)
                have n5 := lv_neT q5 (show (5 : Int32).toInt = 5 by decide)
                have n6 := lv_neT q6 (show (6 : Int32).toInt = 6 by decide)
                refine r_tableOut hE 189 dX4_putDeed_g0.2.2.2.2.1 (by omega) (by decide) ?_
                exact kc_pr_putDeed_189 ih0 hn hE hm hF _ _ _ h
def wc_pr_putDeeds_12 (R : TY_X4_putBlocks) (post : CS → Prop) : Nat → CS → Int32 → Int32 → Int32 → Prop
  | 0, _, _, _, _ => False
  | n + 1, σ, v2, v3, v4 => (((250 : Int32) ≤ v4) → (post σ)) ∧ ((¬ ((250 : Int32) ≤ v4)) → (((v3 = (-1 : Int32)) → (post σ)) ∧ ((¬ (v3 = (-1 : Int32))) → (wc_pr_putBlanks (fun (s1 : CS) => R.2.1 (fun (s2 : CS) => c_pr_figure s2 = 300 ∧ (wc_fg_nextOf (fun (s3 : CS) (r4 : Int32) => ∀ x5 : Int32, x5 = v4 + (1 : Int32) → wc_pr_putDeeds_12 R post n s3 v2 r4 x5) s2 v3)) s1 v3 v2) σ v2))))
set_option maxRecDepth 20000 in
theorem kc_pr_putDeeds_12  {R : TY_X4_putBlocks} {n : Nat} (ih0 : RH_X4_putBlocks R n) (hn : 8 ≤ n) {E : gEnv} {l : Launch} {D : va_G} {G : gAd} {post : CS → Prop} (hE : gOK E cX4_putDeeds RX4 none (n + 1)) (hm : cOK E l D G (pV post) 5) (hF : gFin E) : ∀ (n0 : Nat) (σ : CS) (v2 : Int32) (v3 : Int32) (v4 : Int32), wc_pr_putDeeds_12 R post n0 σ v2 v3 v4 → GW E (cW G σ) 12 [(0, .ref (G.1 700)), (2, .int v2), (3, .int v3), (4, .int v4)] [] := by
  intro n0
  induction n0 with
  | zero => intro σ v2 v3 v4 h; exact h.elim
  | succ n0 ih =>
    intro σ v2 v3 v4 h
    rw [wc_pr_putDeeds_12] at h
    have hN := hm.2.2.2.2.2.2.1
    refine r_iload hE 3 dX4_putDeeds_g0.2.2.2.2.2.2.2.2.1 rfl ?_
    refine r_sipush (v := (250 : Int32)) hE dX4_putDeeds_g0.2.2.2.2.2.2.2.2.2.1 (by decide) ?_
    refine r_icmp_ge hE 51 dX4_putDeeds_g0.2.2.2.2.2.2.2.2.2.2.1 (by decide) h (fun h => ?_) (fun h => ?_)
    · exact c_vret hE hm hF dX4_putDeeds_g1.2.2.2.2.2.2.2.2.2.2.2.2 h
    · refine r_iload_n hE 2 dX4_putDeeds_g0.2.2.2.2.2.2.2.2.2.2.2.1 rfl rfl ?_
      refine r_iconst (v := (-1 : Int32)) hE dX4_putDeeds_g0.2.2.2.2.2.2.2.2.2.2.2.2.1 (by decide) ?_
      refine r_icmp_eq hE 51 dX4_putDeeds_g0.2.2.2.2.2.2.2.2.2.2.2.2.2.1 (by decide) h (fun h => ?_) (fun h => ?_)
      · exact c_vret hE hm hF dX4_putDeeds_g1.2.2.2.2.2.2.2.2.2.2.2.2 h
      · refine r_aload_n hE 0 dX4_putDeeds_g0.2.2.2.2.2.2.2.2.2.2.2.2.2.2.1 rfl rfl ?_
        refine r_iload_n hE 1 dX4_putDeeds_g0.2.2.2.2.2.2.2.2.2.2.2.2.2.2.2 rfl rfl ?_
        refine c_callVv hE hm [.int v2] [] ck_X4_93 (cr_pr hm rfl) (kc_pr_putBlanks h) (by omega) rfl rfl (Nat.le_of_ble_eq_true rfl) dX4_putDeeds_g1.1 (fun s1 h => ?_)
        refine r_aload_n hE 0 dX4_putDeeds_g1.2.1 rfl rfl ?_
        refine r_iload_n hE 2 dX4_putDeeds_g1.2.2.1 rfl rfl ?_
        refine r_iload_n hE 1 dX4_putDeeds_g1.2.2.2.1 rfl rfl ?_
        refine c_callVv hE hm [.int v3, .int v2] [] ck_X4_96 (cr_pr hm rfl) (ih0.2.1 _ _ _ _ _ _ _ h) (Nat.le_refl _) rfl rfl (Nat.le_of_ble_eq_true rfl) dX4_putDeeds_g1.2.2.2.2.1 (fun s2 h => ?_)
        refine r_aload_n hE 0 dX4_putDeeds_g1.2.2.2.2.2.1 rfl rfl ?_
        obtain ⟨hj, h⟩ := h
        refine cg_pr_figure hE hm fk_X4_26 dX4_putDeeds_g1.2.2.2.2.2.2.1 hj ?_
        refine r_iload_n hE 2 dX4_putDeeds_g1.2.2.2.2.2.2.2.1 rfl rfl ?_
        refine c_callVi hE hm [.int v3] [] ck_X4_99 (cr_fg hm rfl) (kc_fg_nextOf h) (by omega) rfl rfl (Nat.le_of_ble_eq_true rfl) dX4_putDeeds_g1.2.2.2.2.2.2.2.2.1 (fun s3 r4 h => ?_)
        refine r_istore_n hE [(3, .int r4), (0, .ref (G.1 700)), (2, .int v2), (4, .int v4)] dX4_putDeeds_g1.2.2.2.2.2.2.2.2.2.1 rfl hN (by decide) rfl ?_
        obtain ⟨x5, ex5⟩ : ∃ z : Int32, z = v4 + (1 : Int32) := ⟨_, rfl⟩
        have h := h x5 ex5
        refine r_iinc (v := x5) hE [(4, .int x5), (3, .int r4), (0, .ref (G.1 700)), (2, .int v2)] 3 dX4_putDeeds_g1.2.2.2.2.2.2.2.2.2.2.1 rfl (by rw [ex5]; rfl) hN (by decide) rfl ?_
        refine r_goto hE 12 dX4_putDeeds_g1.2.2.2.2.2.2.2.2.2.2.2.1 (by decide) ?_
        refine r_pick [2, 3, 1, 0] rfl ?_
        exact ih _ _ _ _ h
def wcB_pr_putDeeds (R : TY_X4_putBlocks) (post : CS → Prop) (σ : CS) (a1 : Int32) (a2 : Int32) : Prop := ((a2 ≤ (10 : Int32)) → (∃ k : Nat, wc_pr_putDeeds_12 R post k σ a2 a1 (0 : Int32))) ∧ ((¬ (a2 ≤ (10 : Int32))) → (post σ))
set_option maxRecDepth 20000 in
theorem kcB_pr_putDeeds {R : TY_X4_putBlocks} {n : Nat} (ih0 : RH_X4_putBlocks R n) (hn : 8 ≤ n) {l : Launch} {D : va_G} {G : gAd} {post : CS → Prop} {σ : CS} {a1 : Int32} {a2 : Int32} (h : wcB_pr_putDeeds R post σ a1 a2) : cMet l D G yX4_putDeeds cX4_putDeeds 5 none (n + 1) [.ref (G.1 700), .int a1, .int a2] σ (pV post) := by
  unfold wcB_pr_putDeeds at h
  refine c_enter (own := RX4) (by decide +kernel) rfl [(0, .ref (G.1 700)), (1, .int a1), (2, .int a2)] rfl (Nat.le_of_ble_eq_true rfl) ?_
  intro E hE hm hF
  have hN := hm.2.2.2.2.2.2.1
  refine r_iload_n hE 2 dX4_putDeeds_g0.1 rfl rfl ?_
  refine r_bipush (v := (10 : Int32)) hE dX4_putDeeds_g0.2.1 (by decide) ?_
  refine r_icmp_le hE 7 dX4_putDeeds_g0.2.2.1 (by decide) h (fun h => ?_) (fun h => ?_)
  · refine r_iload_n hE 1 dX4_putDeeds_g0.2.2.2.2.1 rfl rfl ?_
    refine r_istore_n hE [(3, .int a1), (0, .ref (G.1 700)), (1, .int a1), (2, .int a2)] dX4_putDeeds_g0.2.2.2.2.2.1 rfl hN (by decide) rfl ?_
    refine r_iconst (v := (0 : Int32)) hE dX4_putDeeds_g0.2.2.2.2.2.2.1 (by decide) ?_
    refine r_istore hE [(4, .int (0 : Int32)), (3, .int a1), (0, .ref (G.1 700)), (1, .int a1), (2, .int a2)] dX4_putDeeds_g0.2.2.2.2.2.2.2.1 hN (by decide) rfl ?_
    refine r_pick [2, 4, 1, 0] rfl ?_
    obtain ⟨k, h⟩ := h
    exact kc_pr_putDeeds_12 ih0 hn hE hm hF k _ _ _ _ h
  · exact c_vret hE hm hF dX4_putDeeds_g0.2.2.2.1 h
def wr_X4_putBlocks : Nat → TY_X4_putBlocks
  | 0 => (fun _ _ _ _ => False, fun _ _ _ _ => False, fun _ _ _ _ => False)
  | n + 1 => (fun post σ a1 a2 => wcB_pr_putBlocks (wr_X4_putBlocks n) post σ a1 a2, fun post σ a1 a2 => wcB_pr_putDeed (wr_X4_putBlocks n) post σ a1 a2, fun post σ a1 a2 => wcB_pr_putDeeds (wr_X4_putBlocks n) post σ a1 a2)
theorem kr_X4_putBlocks : ∀ d : Nat, RH_X4_putBlocks (wr_X4_putBlocks d) (8 + d) := by
  intro d
  induction d with
  | zero => exact ⟨fun _ _ _ _ _ _ _ h => h.elim, fun _ _ _ _ _ _ _ h => h.elim, fun _ _ _ _ _ _ _ h => h.elim⟩
  | succ d ih => exact ⟨fun _ _ _ _ _ _ _ h => kcB_pr_putBlocks ih (Nat.le_add_right _ _) h, fun _ _ _ _ _ _ _ h => kcB_pr_putDeed ih (Nat.le_add_right _ _) h, fun _ _ _ _ _ _ _ h => kcB_pr_putDeeds ih (Nat.le_add_right _ _) h⟩
def wc_pr_putBlocks (post : CS → Prop) (σ : CS) (a1 : Int32) (a2 : Int32) : Prop := (wr_X4_putBlocks 100).1 post σ a1 a2
theorem kc_pr_putBlocks {l : Launch} {D : va_G} {G : gAd} {post : CS → Prop} {σ : CS} {a1 : Int32} {a2 : Int32} (h : wc_pr_putBlocks post σ a1 a2) : cMet l D G yX4_putBlocks cX4_putBlocks 4 none 108 [.ref (G.1 700), .int a1, .int a2] σ (pV post) := (kr_X4_putBlocks 100).1 _ _ _ _ _ _ _ h
def wc_pr_putDeed (post : CS → Prop) (σ : CS) (a1 : Int32) (a2 : Int32) : Prop := (wr_X4_putBlocks 100).2.1 post σ a1 a2
theorem kc_pr_putDeed {l : Launch} {D : va_G} {G : gAd} {post : CS → Prop} {σ : CS} {a1 : Int32} {a2 : Int32} (h : wc_pr_putDeed post σ a1 a2) : cMet l D G yX4_putDeed cX4_putDeed 3 none 108 [.ref (G.1 700), .int a1, .int a2] σ (pV post) := (kr_X4_putBlocks 100).2.1 _ _ _ _ _ _ _ h
def wc_pr_putDeeds (post : CS → Prop) (σ : CS) (a1 : Int32) (a2 : Int32) : Prop := (wr_X4_putBlocks 100).2.2 post σ a1 a2
theorem kc_pr_putDeeds {l : Launch} {D : va_G} {G : gAd} {post : CS → Prop} {σ : CS} {a1 : Int32} {a2 : Int32} (h : wc_pr_putDeeds post σ a1 a2) : cMet l D G yX4_putDeeds cX4_putDeeds 5 none 108 [.ref (G.1 700), .int a1, .int a2] σ (pV post) := (kr_X4_putBlocks 100).2.2 _ _ _ _ _ _ _ h
/-! fg_macroAtOf -/
def wc_fg_macroAtOf (post : CS → Int32 → Prop) (σ : CS) (a1 : Int32) : Prop := wc_SX12_inside (fun (s1 : CS) (r2 : Int32) => ((r2 = (0 : Int32)) → (post s1 (-1 : Int32))) ∧ ((¬ (r2 = (0 : Int32))) → (vp_in a1 12 ∧ (post s1 (c_fg_macroAt s1 a1.toNatClampNeg))))) σ a1 (c_fg_macros σ)
set_option maxRecDepth 20000 in
theorem kc_fg_macroAtOf {l : Launch} {D : va_G} {G : gAd} {post : CS → Int32 → Prop} {σ : CS} {a1 : Int32} (h : wc_fg_macroAtOf post σ a1) : cMet l D G yX1_macroAtOf cX1_macroAtOf 2 (some .int) 2 [.ref (G.1 300), .int a1] σ (pI post) := by
  unfold wc_fg_macroAtOf at h
  refine c_enter (own := RX1) (by decide +kernel) rfl [(0, .ref (G.1 300)), (1, .int a1)] rfl (Nat.le_of_ble_eq_true rfl) ?_
  intro E hE hm hF
  have hN := hm.2.2.2.2.2.2.1
  refine r_iload_n hE 1 dX1_macroAtOf_g0.1 rfl rfl ?_
  refine r_aload_n hE 0 dX1_macroAtOf_g0.2.1 rfl rfl ?_
  refine cg_fg_macros hE hm fk_X1_65 dX1_macroAtOf_g0.2.2.1 ?_
  refine c_callSNi hE hm [.int a1, .int (c_fg_macros σ)] [] ck_X1_74 cw_X1_74 (kc_SX12_inside h) (by decide) rfl rfl (Nat.le_of_ble_eq_true rfl) dX1_macroAtOf_g0.2.2.2.1 (fun s1 r2 h => ?_)
  refine r_if_eq hE 20 dX1_macroAtOf_g0.2.2.2.2.1 (by decide) h (fun h => ?_) (fun h => ?_)
  · refine r_iconst (v := (-1 : Int32)) hE dX1_macroAtOf_g0.2.2.2.2.2.2.2.2.2.2.1 (by decide) ?_
    exact c_iret hE hm hF dX1_macroAtOf_g0.2.2.2.2.2.2.2.2.2.2.2 h
  · refine r_aload_n hE 0 dX1_macroAtOf_g0.2.2.2.2.2.1 rfl rfl ?_
    refine cg_fg_macroAt hE hm fk_X1_59 dX1_macroAtOf_g0.2.2.2.2.2.2.1 ?_
    refine r_iload_n hE 1 dX1_macroAtOf_g0.2.2.2.2.2.2.2.1 rfl rfl ?_
    obtain ⟨hi, h⟩ := h
    refine cl_fg_macroAt hE hm dX1_macroAtOf_g0.2.2.2.2.2.2.2.2.1 hi ?_
    refine r_goto hE 21 dX1_macroAtOf_g0.2.2.2.2.2.2.2.2.2.1 (by decide) ?_
    exact c_iret hE hm hF dX1_macroAtOf_g0.2.2.2.2.2.2.2.2.2.2.2 h
/-! fg_paramAt -/
def wc_fg_paramAt (post : CS → Int32 → Prop) (σ : CS) (a1 : Int32) (a2 : Int32) : Prop := wc_SX12_inside (fun (s1 : CS) (r2 : Int32) => ((r2 = (0 : Int32)) → (post s1 (-1 : Int32))) ∧ ((¬ (r2 = (0 : Int32))) → (wc_SX12_inside (fun (s3 : CS) (r4 : Int32) => ((r4 = (0 : Int32)) → (post s3 (-1 : Int32))) ∧ ((¬ (r4 = (0 : Int32))) → (vp_in ((a1 * (20 : Int32)) + a2) 260 ∧ (post s3 (c_fg_nameAt s3 ((a1 * (20 : Int32)) + a2).toNatClampNeg))))) s1 a2 (20 : Int32)))) σ a1 (12 : Int32)
set_option maxRecDepth 20000 in
theorem kc_fg_paramAt {l : Launch} {D : va_G} {G : gAd} {post : CS → Int32 → Prop} {σ : CS} {a1 : Int32} {a2 : Int32} (h : wc_fg_paramAt post σ a1 a2) : cMet l D G yX1_paramAt cX1_paramAt 3 (some .int) 2 [.ref (G.1 300), .int a1, .int a2] σ (pI post) := by
  unfold wc_fg_paramAt at h
  refine c_enter (own := RX1) (by decide +kernel) rfl [(0, .ref (G.1 300)), (1, .int a1), (2, .int a2)] rfl (Nat.le_of_ble_eq_true rfl) ?_
  intro E hE hm hF
  have hN := hm.2.2.2.2.2.2.1
  refine r_iload_n hE 1 dX1_paramAt_g0.1 rfl rfl ?_
  refine r_bipush (v := (12 : Int32)) hE dX1_paramAt_g0.2.1 (by decide) ?_
  refine c_callSNi hE hm [.int a1, .int (12 : Int32)] [] ck_X1_74 cw_X1_74 (kc_SX12_inside h) (by decide) rfl rfl (Nat.le_of_ble_eq_true rfl) dX1_paramAt_g0.2.2.1 (fun s1 r2 h => ?_)
  refine r_if_eq hE 32 dX1_paramAt_g0.2.2.2.1 (by decide) h (fun h => ?_) (fun h => ?_)
  · refine r_iconst (v := (-1 : Int32)) hE dX1_paramAt_g1.2.1 (by decide) ?_
    exact c_iret hE hm hF dX1_paramAt_g1.2.2 h
  · refine r_iload_n hE 2 dX1_paramAt_g0.2.2.2.2.1 rfl rfl ?_
    refine r_bipush (v := (20 : Int32)) hE dX1_paramAt_g0.2.2.2.2.2.1 (by decide) ?_
    refine c_callSNi hE hm [.int a2, .int (20 : Int32)] [] ck_X1_74 cw_X1_74 (kc_SX12_inside h) (by decide) rfl rfl (Nat.le_of_ble_eq_true rfl) dX1_paramAt_g0.2.2.2.2.2.2.1 (fun s3 r4 h => ?_)
    refine r_if_eq hE 32 dX1_paramAt_g0.2.2.2.2.2.2.2.1 (by decide) h (fun h => ?_) (fun h => ?_)
    · refine r_iconst (v := (-1 : Int32)) hE dX1_paramAt_g1.2.1 (by decide) ?_
      exact c_iret hE hm hF dX1_paramAt_g1.2.2 h
    · refine r_aload_n hE 0 dX1_paramAt_g0.2.2.2.2.2.2.2.2.1 rfl rfl ?_
      refine cg_fg_nameAt hE hm fk_X1_50 dX1_paramAt_g0.2.2.2.2.2.2.2.2.2.1 ?_
      refine r_iload_n hE 1 dX1_paramAt_g0.2.2.2.2.2.2.2.2.2.2.1 rfl rfl ?_
      refine r_bipush (v := (20 : Int32)) hE dX1_paramAt_g0.2.2.2.2.2.2.2.2.2.2.2.1 (by decide) ?_
      refine r_imul hE dX1_paramAt_g0.2.2.2.2.2.2.2.2.2.2.2.2.1 ?_
      refine r_iload_n hE 2 dX1_paramAt_g0.2.2.2.2.2.2.2.2.2.2.2.2.2.1 rfl rfl ?_
      refine r_iadd hE dX1_paramAt_g0.2.2.2.2.2.2.2.2.2.2.2.2.2.2.1 ?_
      obtain ⟨hi, h⟩ := h
      refine cl_fg_nameAt hE hm dX1_paramAt_g0.2.2.2.2.2.2.2.2.2.2.2.2.2.2.2 hi ?_
      refine r_goto hE 33 dX1_paramAt_g1.1 (by decide) ?_
      exact c_iret hE hm hF dX1_paramAt_g1.2.2 h
/-! pr_putHeader -/
def wc_pr_putHeader_57 (post : CS → Prop) (lp32 : CS → Int32 → Int32 → Prop) (σ : CS) (v1 : Int32) (v2 : Int32) : Prop := c_pr_figure σ = 300 ∧ (wc_fg_paramAt (fun (s1 : CS) (r2 : Int32) => wc_pr_putWord (fun (s3 : CS) => ∀ x4 : Int32, x4 = v2 + (1 : Int32) → lp32 s3 v1 x4) s1 r2) σ v1 v2)
set_option maxRecDepth 20000 in
theorem kc_pr_putHeader_57  {E : gEnv} {l : Launch} {D : va_G} {G : gAd} {post : CS → Prop} (hE : gOK E cX4_putHeader RX4 none 6) (hm : cOK E l D G (pV post) 3) (hF : gFin E) {lp32 : CS → Int32 → Int32 → Prop} (hl32 : ∀ (σ : CS) (v1 : Int32) (v2 : Int32), lp32 σ v1 v2 → GW E (cW G σ) 32 [(0, .ref (G.1 700)), (1, .int v1), (2, .int v2)] []) (σ : CS) (v1 : Int32) (v2 : Int32) (h : wc_pr_putHeader_57 post lp32 σ v1 v2) : GW E (cW G σ) 57 [(0, .ref (G.1 700)), (1, .int v1), (2, .int v2)] [] := by
  unfold wc_pr_putHeader_57 at h
  have hN := hm.2.2.2.2.2.2.1
  refine r_aload_n hE 0 dX4_putHeader_g1.2.2.2.2.2.2.2.2.2.2.2.2.1 rfl rfl ?_
  refine r_aload_n hE 0 dX4_putHeader_g1.2.2.2.2.2.2.2.2.2.2.2.2.2.1 rfl rfl ?_
  obtain ⟨hj, h⟩ := h
  refine cg_pr_figure hE hm fk_X4_26 dX4_putHeader_g1.2.2.2.2.2.2.2.2.2.2.2.2.2.2.1 hj ?_
  refine r_iload_n hE 1 dX4_putHeader_g1.2.2.2.2.2.2.2.2.2.2.2.2.2.2.2 rfl rfl ?_
  refine r_iload_n hE 2 dX4_putHeader_g2.1 rfl rfl ?_
  refine c_callVi hE hm [.int v1, .int v2] [.ref (G.1 700)] ck_X4_82 (cr_fg hm rfl) (kc_fg_paramAt h) (by decide) rfl rfl (Nat.le_of_ble_eq_true rfl) dX4_putHeader_g2.2.1 (fun s1 r2 h => ?_)
  refine c_callVv hE hm [.int r2] [] ck_X4_70 (cr_pr hm rfl) (kc_pr_putWord h) (by decide) rfl rfl (Nat.le_of_ble_eq_true rfl) dX4_putHeader_g2.2.2.1 (fun s3 h => ?_)
  obtain ⟨x4, ex4⟩ : ∃ z : Int32, z = v2 + (1 : Int32) := ⟨_, rfl⟩
  have h := h x4 ex4
  refine r_iinc (v := x4) hE [(2, .int x4), (0, .ref (G.1 700)), (1, .int v1)] 2 dX4_putHeader_g2.2.2.2.1 rfl (by rw [ex4]; rfl) hN (by decide) rfl ?_
  refine r_goto hE 32 dX4_putHeader_g2.2.2.2.2.1 (by decide) ?_
  refine r_pick [1, 2, 0] rfl ?_
  exact hl32 _ _ _ h
def wc_pr_putHeader_32 (post : CS → Prop) : Nat → CS → Int32 → Int32 → Prop
  | 0, _, _, _ => False
  | n + 1, σ, v1, v2 => c_pr_figure σ = 300 ∧ (wc_fg_paramsOf (fun (s5 : CS) (r6 : Int32) => ((r6 ≤ v2) → (wc_ou_putText_s (fun (s7 : CS) => post s7) s5 10)) ∧ ((¬ (r6 ≤ v2)) → (((v2 ≤ (0 : Int32)) → (wc_pr_putHeader_57 post (fun (ys : CS) (y0 : Int32) (y1 : Int32) => wc_pr_putHeader_32 post n ys y0 y1) s5 v1 v2)) ∧ ((¬ (v2 ≤ (0 : Int32))) → (wc_ou_putText_s (fun (s8 : CS) => wc_pr_putHeader_57 post (fun (ys : CS) (y0 : Int32) (y1 : Int32) => wc_pr_putHeader_32 post n ys y0 y1) s8 v1 v2) s5 9))))) σ v1)
set_option maxRecDepth 20000 in
theorem kc_pr_putHeader_32  {E : gEnv} {l : Launch} {D : va_G} {G : gAd} {post : CS → Prop} (hE : gOK E cX4_putHeader RX4 none 6) (hm : cOK E l D G (pV post) 3) (hF : gFin E) : ∀ (n0 : Nat) (σ : CS) (v1 : Int32) (v2 : Int32), wc_pr_putHeader_32 post n0 σ v1 v2 → GW E (cW G σ) 32 [(0, .ref (G.1 700)), (1, .int v1), (2, .int v2)] [] := by
  intro n0
  induction n0 with
  | zero => intro σ v1 v2 h; exact h.elim
  | succ n0 ih =>
    intro σ v1 v2 h
    rw [wc_pr_putHeader_32] at h
    have hN := hm.2.2.2.2.2.2.1
    refine r_iload_n hE 2 dX4_putHeader_g1.1 rfl rfl ?_
    refine r_aload_n hE 0 dX4_putHeader_g1.2.1 rfl rfl ?_
    obtain ⟨hj, h⟩ := h
    refine cg_pr_figure hE hm fk_X4_26 dX4_putHeader_g1.2.2.1 hj ?_
    refine r_iload_n hE 1 dX4_putHeader_g1.2.2.2.1 rfl rfl ?_
    refine c_callVi hE hm [.int v1] [.int v2] ck_X4_77 (cr_fg hm rfl) (kc_fg_paramsOf h) (by decide) rfl rfl (Nat.le_of_ble_eq_true rfl) dX4_putHeader_g1.2.2.2.2.1 (fun s5 r6 h => ?_)
    refine r_icmp_ge hE 76 dX4_putHeader_g1.2.2.2.2.2.1 (by decide) h (fun h => ?_) (fun h => ?_)
    · refine r_aload_n hE 0 dX4_putHeader_g2.2.2.2.2.2.1 rfl rfl ?_
      refine cg_pr_out hE hm fk_X4_30 dX4_putHeader_g2.2.2.2.2.2.2.1 ?_
      refine ks_ldc (tx := ") {\n") (i := 10) hE hm (List.mem_of_getElem? (i := 10) rfl) dX4_putHeader_g2.2.2.2.2.2.2.2.1 ?_
      refine c_callVv hE hm [.ref (G.1 (5000 + 10))] [] ck_X4_58 (cr_ou hm rfl) (kc_ou_putText_s h) (by decide) rfl rfl (Nat.le_of_ble_eq_true rfl) dX4_putHeader_g2.2.2.2.2.2.2.2.2.1 (fun s7 h => ?_)
      exact c_vret hE hm hF dX4_putHeader_g2.2.2.2.2.2.2.2.2.2 h
    · refine r_iload_n hE 2 dX4_putHeader_g1.2.2.2.2.2.2.1 rfl rfl ?_
      refine r_if_le hE 57 dX4_putHeader_g1.2.2.2.2.2.2.2.1 (by decide) h (fun h => ?_) (fun h => ?_)
      · exact kc_pr_putHeader_57 hE hm hF ih _ _ _ h
      · refine r_aload_n hE 0 dX4_putHeader_g1.2.2.2.2.2.2.2.2.1 rfl rfl ?_
        refine cg_pr_out hE hm fk_X4_30 dX4_putHeader_g1.2.2.2.2.2.2.2.2.2.1 ?_
        refine ks_ldc (tx := ", ") (i := 9) hE hm (List.mem_of_getElem? (i := 9) rfl) dX4_putHeader_g1.2.2.2.2.2.2.2.2.2.2.1 ?_
        refine c_callVv hE hm [.ref (G.1 (5000 + 9))] [] ck_X4_58 (cr_ou hm rfl) (kc_ou_putText_s h) (by decide) rfl rfl (Nat.le_of_ble_eq_true rfl) dX4_putHeader_g1.2.2.2.2.2.2.2.2.2.2.2.1 (fun s8 h => ?_)
        exact kc_pr_putHeader_57 hE hm hF ih _ _ _ h
def wc_pr_putHeader (post : CS → Prop) (σ : CS) (a1 : Int32) : Prop := wc_ou_putText_s (fun (s9 : CS) => c_pr_figure s9 = 300 ∧ (wc_fg_macroAtOf (fun (s10 : CS) (r11 : Int32) => wc_pr_putWord (fun (s12 : CS) => wc_ou_put (fun (s13 : CS) => ∃ k : Nat, wc_pr_putHeader_32 post k s13 a1 (0 : Int32)) s12 (40 : Int32)) s10 r11) s9 a1)) σ 8
set_option maxRecDepth 20000 in
theorem kc_pr_putHeader {l : Launch} {D : va_G} {G : gAd} {post : CS → Prop} {σ : CS} {a1 : Int32} (h : wc_pr_putHeader post σ a1) : cMet l D G yX4_putHeader cX4_putHeader 3 none 6 [.ref (G.1 700), .int a1] σ (pV post) := by
  unfold wc_pr_putHeader at h
  refine c_enter (own := RX4) (by decide +kernel) rfl [(0, .ref (G.1 700)), (1, .int a1)] rfl (Nat.le_of_ble_eq_true rfl) ?_
  intro E hE hm hF
  have hN := hm.2.2.2.2.2.2.1
  refine r_aload_n hE 0 dX4_putHeader_g0.1 rfl rfl ?_
  refine cg_pr_out hE hm fk_X4_30 dX4_putHeader_g0.2.1 ?_
  refine ks_ldc (tx := "macro ") (i := 8) hE hm (List.mem_of_getElem? (i := 8) rfl) dX4_putHeader_g0.2.2.1 ?_
  refine c_callVv hE hm [.ref (G.1 (5000 + 8))] [] ck_X4_58 (cr_ou hm rfl) (kc_ou_putText_s h) (by decide) rfl rfl (Nat.le_of_ble_eq_true rfl) dX4_putHeader_g0.2.2.2.1 (fun s9 h => ?_)
  refine r_aload_n hE 0 dX4_putHeader_g0.2.2.2.2.1 rfl rfl ?_
  refine r_aload_n hE 0 dX4_putHeader_g0.2.2.2.2.2.1 rfl rfl ?_
  obtain ⟨hj, h⟩ := h
  refine cg_pr_figure hE hm fk_X4_26 dX4_putHeader_g0.2.2.2.2.2.2.1 hj ?_
  refine r_iload_n hE 1 dX4_putHeader_g0.2.2.2.2.2.2.2.1 rfl rfl ?_
  refine c_callVi hE hm [.int a1] [.ref (G.1 700)] ck_X4_67 (cr_fg hm rfl) (kc_fg_macroAtOf h) (by decide) rfl rfl (Nat.le_of_ble_eq_true rfl) dX4_putHeader_g0.2.2.2.2.2.2.2.2.1 (fun s10 r11 h => ?_)
  refine c_callVv hE hm [.int r11] [] ck_X4_70 (cr_pr hm rfl) (kc_pr_putWord h) (by decide) rfl rfl (Nat.le_of_ble_eq_true rfl) dX4_putHeader_g0.2.2.2.2.2.2.2.2.2.1 (fun s12 h => ?_)
  refine r_aload_n hE 0 dX4_putHeader_g0.2.2.2.2.2.2.2.2.2.2.1 rfl rfl ?_
  refine cg_pr_out hE hm fk_X4_30 dX4_putHeader_g0.2.2.2.2.2.2.2.2.2.2.2.1 ?_
  refine r_bipush (v := (40 : Int32)) hE dX4_putHeader_g0.2.2.2.2.2.2.2.2.2.2.2.2.1 (by decide) ?_
  refine c_callVv hE hm [.int (40 : Int32)] [] ck_X4_73 (cr_ou hm rfl) (kc_ou_put h) (by decide) rfl rfl (Nat.le_of_ble_eq_true rfl) dX4_putHeader_g0.2.2.2.2.2.2.2.2.2.2.2.2.2.1 (fun s13 h => ?_)
  refine r_iconst (v := (0 : Int32)) hE dX4_putHeader_g0.2.2.2.2.2.2.2.2.2.2.2.2.2.2.1 (by decide) ?_
  refine r_istore_n hE [(2, .int (0 : Int32)), (0, .ref (G.1 700)), (1, .int a1)] dX4_putHeader_g0.2.2.2.2.2.2.2.2.2.2.2.2.2.2.2 rfl hN (by decide) rfl ?_
  refine r_pick [1, 2, 0] rfl ?_
  obtain ⟨k, h⟩ := h
  exact kc_pr_putHeader_32 hE hm hF k _ _ _ h
/-! pr_putFigure_fg -/
def wc_pr_putFigure_fg_14 (post : CS → Prop) : Nat → CS → Int32 → Prop
  | 0, _, _ => False
  | n + 1, σ, v2 => c_pr_figure σ = 300 ∧ ((((c_fg_macros σ) ≤ v2) → (c_pr_figure σ = 300 ∧ (wc_pr_putDeeds (fun (s1 : CS) => post s1) σ (c_fg_firstDeed σ) (0 : Int32)))) ∧ ((¬ ((c_fg_macros σ) ≤ v2)) → (wc_pr_putHeader (fun (s2 : CS) => c_pr_figure s2 = 300 ∧ (wc_fg_macroBodyOf (fun (s3 : CS) (r4 : Int32) => wc_pr_putDeeds (fun (s5 : CS) => wc_ou_putText_s (fun (s6 : CS) => ∀ x7 : Int32, x7 = v2 + (1 : Int32) → wc_pr_putFigure_fg_14 post n s6 x7) s5 22) s3 r4 (1 : Int32)) s2 v2)) σ v2)))
set_option maxRecDepth 20000 in
theorem kc_pr_putFigure_fg_14  {E : gEnv} {l : Launch} {D : va_G} {G : gAd} {post : CS → Prop} (hE : gOK E cX4_putFigure RX4 none 109) (hm : cOK E l D G (pV post) 3) (hF : gFin E) : ∀ (n0 : Nat) (σ : CS) (v2 : Int32), wc_pr_putFigure_fg_14 post n0 σ v2 → GW E (cW G σ) 14 [(0, .ref (G.1 700)), (2, .int v2)] [] := by
  intro n0
  induction n0 with
  | zero => intro σ v2 h; exact h.elim
  | succ n0 ih =>
    intro σ v2 h
    rw [wc_pr_putFigure_fg_14] at h
    have hN := hm.2.2.2.2.2.2.1
    refine r_iload_n hE 1 dX4_putFigure_g0.2.2.2.2.2.2.2.2.1 rfl rfl ?_
    refine r_aload_n hE 0 dX4_putFigure_g0.2.2.2.2.2.2.2.2.2.1 rfl rfl ?_
    obtain ⟨hj, h⟩ := h
    refine cg_pr_figure hE hm fk_X4_26 dX4_putFigure_g0.2.2.2.2.2.2.2.2.2.2.1 hj ?_
    refine cg_fg_macros hE hm fk_X4_39 dX4_putFigure_g0.2.2.2.2.2.2.2.2.2.2.2.1 ?_
    refine r_icmp_ge hE 58 dX4_putFigure_g0.2.2.2.2.2.2.2.2.2.2.2.2.1 (by decide) h (fun h => ?_) (fun h => ?_)
    · refine r_aload_n hE 0 dX4_putFigure_g1.2.2.2.2.2.2.2.2.2.2.2.2.2.1 rfl rfl ?_
      refine r_aload_n hE 0 dX4_putFigure_g1.2.2.2.2.2.2.2.2.2.2.2.2.2.2.1 rfl rfl ?_
      obtain ⟨hj, h⟩ := h
      refine cg_pr_figure hE hm fk_X4_26 dX4_putFigure_g1.2.2.2.2.2.2.2.2.2.2.2.2.2.2.2 hj ?_
      refine cg_fg_firstDeed hE hm fk_X4_62 dX4_putFigure_g2.1 ?_
      refine r_iconst (v := (0 : Int32)) hE dX4_putFigure_g2.2.1 (by decide) ?_
      refine c_callVv hE hm [.int (c_fg_firstDeed σ), .int (0 : Int32)] [] ck_X4_52 (cr_pr hm rfl) (kc_pr_putDeeds h) (by decide) rfl rfl (Nat.le_of_ble_eq_true rfl) dX4_putFigure_g2.2.2.1 (fun s1 h => ?_)
      exact c_vret hE hm hF dX4_putFigure_g2.2.2.2 h
    · refine r_aload_n hE 0 dX4_putFigure_g0.2.2.2.2.2.2.2.2.2.2.2.2.2.1 rfl rfl ?_
      refine r_iload_n hE 1 dX4_putFigure_g0.2.2.2.2.2.2.2.2.2.2.2.2.2.2.1 rfl rfl ?_
      refine c_callVv hE hm [.int v2] [] ck_X4_44 (cr_pr hm rfl) (kc_pr_putHeader h) (by decide) rfl rfl (Nat.le_of_ble_eq_true rfl) dX4_putFigure_g0.2.2.2.2.2.2.2.2.2.2.2.2.2.2.2 (fun s2 h => ?_)
      refine r_aload_n hE 0 dX4_putFigure_g1.1 rfl rfl ?_
      refine r_aload_n hE 0 dX4_putFigure_g1.2.1 rfl rfl ?_
      obtain ⟨hj, h⟩ := h
      refine cg_pr_figure hE hm fk_X4_26 dX4_putFigure_g1.2.2.1 hj ?_
      refine r_iload_n hE 1 dX4_putFigure_g1.2.2.2.1 rfl rfl ?_
      refine c_callVi hE hm [.int v2] [.ref (G.1 700)] ck_X4_48 (cr_fg hm rfl) (kc_fg_macroBodyOf h) (by decide) rfl rfl (Nat.le_of_ble_eq_true rfl) dX4_putFigure_g1.2.2.2.2.1 (fun s3 r4 h => ?_)
      refine r_iconst (v := (1 : Int32)) hE dX4_putFigure_g1.2.2.2.2.2.1 (by decide) ?_
      refine c_callVv hE hm [.int r4, .int (1 : Int32)] [] ck_X4_52 (cr_pr hm rfl) (kc_pr_putDeeds h) (by decide) rfl rfl (Nat.le_of_ble_eq_true rfl) dX4_putFigure_g1.2.2.2.2.2.2.1 (fun s5 h => ?_)
      refine r_aload_n hE 0 dX4_putFigure_g1.2.2.2.2.2.2.2.1 rfl rfl ?_
      refine cg_pr_out hE hm fk_X4_30 dX4_putFigure_g1.2.2.2.2.2.2.2.2.1 ?_
      refine ks_ldc (tx := "}\n") (i := 22) hE hm (List.mem_of_getElem? (i := 22) rfl) dX4_putFigure_g1.2.2.2.2.2.2.2.2.2.1 ?_
      refine c_callVv hE hm [.ref (G.1 (5000 + 22))] [] ck_X4_58 (cr_ou hm rfl) (kc_ou_putText_s h) (by decide) rfl rfl (Nat.le_of_ble_eq_true rfl) dX4_putFigure_g1.2.2.2.2.2.2.2.2.2.2.1 (fun s6 h => ?_)
      obtain ⟨x7, ex7⟩ : ∃ z : Int32, z = v2 + (1 : Int32) := ⟨_, rfl⟩
      have h := h x7 ex7
      refine r_iinc (v := x7) hE [(2, .int x7), (0, .ref (G.1 700))] 1 dX4_putFigure_g1.2.2.2.2.2.2.2.2.2.2.2.1 rfl (by rw [ex7]; rfl) hN (by decide) rfl ?_
      refine r_goto hE 14 dX4_putFigure_g1.2.2.2.2.2.2.2.2.2.2.2.2.1 (by decide) ?_
      refine r_pick [1, 0] rfl ?_
      exact ih _ _ h
def wc_pr_putFigure_fg (post : CS → Prop) (σ : CS) : Prop := ∀ s8 : CS, s8 = c_pr_figure_s σ 300 → wc_ou_clear (fun (s9 : CS) => ∃ k : Nat, wc_pr_putFigure_fg_14 post k s9 (0 : Int32)) s8
set_option maxRecDepth 20000 in
theorem kc_pr_putFigure_fg {l : Launch} {D : va_G} {G : gAd} {post : CS → Prop} {σ : CS} (h : wc_pr_putFigure_fg post σ) : cMet l D G yX4_putFigure cX4_putFigure 3 none 109 [.ref (G.1 700), .ref (G.1 300)] σ (pV post) := by
  unfold wc_pr_putFigure_fg at h
  refine c_enter (own := RX4) (by decide +kernel) rfl [(0, .ref (G.1 700)), (1, .ref (G.1 300))] rfl (Nat.le_of_ble_eq_true rfl) ?_
  intro E hE hm hF
  have hN := hm.2.2.2.2.2.2.1
  refine r_aload_n hE 0 dX4_putFigure_g0.1 rfl rfl ?_
  refine r_aload_n hE 1 dX4_putFigure_g0.2.1 rfl rfl ?_
  refine cp_pr_figure hE hm fk_X4_26 dX4_putFigure_g0.2.2.1 h (fun s8 h => ?_)
  refine r_aload_n hE 0 dX4_putFigure_g0.2.2.2.1 rfl rfl ?_
  refine cg_pr_out hE hm fk_X4_30 dX4_putFigure_g0.2.2.2.2.1 ?_
  refine c_callVv hE hm [] [] ck_X4_34 (cr_ou hm rfl) (kc_ou_clear h) (by decide) rfl rfl (Nat.le_of_ble_eq_true rfl) dX4_putFigure_g0.2.2.2.2.2.1 (fun s9 h => ?_)
  refine r_iconst (v := (0 : Int32)) hE dX4_putFigure_g0.2.2.2.2.2.2.1 (by decide) ?_
  refine r_istore_n hE [(2, .int (0 : Int32)), (0, .ref (G.1 700)), (1, .ref (G.1 300))] dX4_putFigure_g0.2.2.2.2.2.2.2.1 rfl hN (by decide) rfl ?_
  refine r_pick [1, 0] rfl ?_
  obtain ⟨k, h⟩ := h
  exact kc_pr_putFigure_fg_14 hE hm hF k _ _ h
/-! ft_print -/
def wc_ft_print (post : CS → Int32 → Prop) (σ : CS) : Prop := ((¬ ((c_ft_hasFigure σ) = (0 : Int32))) → (c_ft_figure σ = 300 ∧ (wc_pr_putFigure_fg (fun (s1 : CS) => post s1 (c_ou_length s1)) σ))) ∧ (((c_ft_hasFigure σ) = (0 : Int32)) → (post σ (-2000000003 : Int32)))
set_option maxRecDepth 20000 in
theorem kc_ft_print {l : Launch} {D : va_G} {G : gAd} {post : CS → Int32 → Prop} {σ : CS} (h : wc_ft_print post σ) : cMet l D G yX12_print cX12_print 1 (some .int) 110 [.ref (G.1 200)] σ (pI post) := by
  unfold wc_ft_print at h
  refine c_enter (own := RX12) (by decide +kernel) rfl [(0, .ref (G.1 200))] rfl (Nat.le_of_ble_eq_true rfl) ?_
  intro E hE hm hF
  have hN := hm.2.2.2.2.2.2.1
  refine r_aload_n hE 0 dX12_print_g0.1 rfl rfl ?_
  refine cg_ft_hasFigure hE hm fk_X12_34 dX12_print_g0.2.1 ?_
  refine r_if_ne hE 10 dX12_print_g0.2.2.1 (by decide) h (fun h => ?_) (fun h => ?_)
  · refine r_aload_n hE 0 dX12_print_g0.2.2.2.2.2.1 rfl rfl ?_
    refine cg_ft_printer hE hm fk_X12_55 dX12_print_g0.2.2.2.2.2.2.1 ?_
    refine r_aload_n hE 0 dX12_print_g0.2.2.2.2.2.2.2.1 rfl rfl ?_
    obtain ⟨hj, h⟩ := h
    refine cg_ft_figure hE hm fk_X12_27 dX12_print_g0.2.2.2.2.2.2.2.2.1 hj ?_
    refine c_callVv hE hm [.ref (G.1 300)] [] ck_X12_239 (cr_pr hm rfl) (kc_pr_putFigure_fg h) (by decide) rfl rfl (Nat.le_of_ble_eq_true rfl) dX12_print_g0.2.2.2.2.2.2.2.2.2.1 (fun s1 h => ?_)
    refine r_aload_n hE 0 dX12_print_g0.2.2.2.2.2.2.2.2.2.2.1 rfl rfl ?_
    refine cg_ft_out hE hm fk_X12_20 dX12_print_g0.2.2.2.2.2.2.2.2.2.2.2.1 ?_
    refine cg_ou_length hE hm fk_X12_192 dX12_print_g0.2.2.2.2.2.2.2.2.2.2.2.2.1 ?_
    exact c_iret hE hm hF dX12_print_g0.2.2.2.2.2.2.2.2.2.2.2.2.2 h
  · refine r_ldc (v := (-2000000003 : Int32)) hE dX12_print_g0.2.2.2.1 (gTb_2 (List.mem_of_getElem? (i := 200) rfl) rfl) ?_
    exact c_iret hE hm hF dX12_print_g0.2.2.2.2.1 h
/-! ou_putFraction -/
def wc_ou_putFraction (post : CS → Prop) (σ : CS) (a1 : Int64) : Prop := wc_SX6_top (fun (s1 : CS) (r2 : Int64) => wc_ou_putWhole (fun (s3 : CS) => wc_SX6_bottom (fun (s4 : CS) (r5 : Int64) => (((lg_cmp r5 (1 : Int64)) = (0 : Int32)) → (post s4)) ∧ ((¬ ((lg_cmp r5 (1 : Int64)) = (0 : Int32))) → (wc_ou_put (fun (s6 : CS) => wc_SX6_bottom (fun (s7 : CS) (r8 : Int64) => wc_ou_putWhole (fun (s9 : CS) => post s9) s7 r8) s6 a1) s4 (47 : Int32)))) s3 a1) s1 r2) σ a1
set_option maxRecDepth 20000 in
theorem kc_ou_putFraction {l : Launch} {D : va_G} {G : gAd} {post : CS → Prop} {σ : CS} {a1 : Int64} (h : wc_ou_putFraction post σ a1) : cMet l D G yX3_putFraction cX3_putFraction 3 none 3 [.ref (G.1 500), .long a1] σ (pV post) := by
  unfold wc_ou_putFraction at h
  refine c_enter (own := RX3) (by decide +kernel) rfl [(0, .ref (G.1 500)), (1, .long a1)] rfl (Nat.le_of_ble_eq_true rfl) ?_
  intro E hE hm hF
  have hN := hm.2.2.2.2.2.2.1
  refine r_aload_n hE 0 dX3_putFraction_g0.1 rfl rfl ?_
  refine r_lload_n hE 1 dX3_putFraction_g0.2.1 rfl rfl ?_
  refine c_callSl hE hm [.long a1] [.ref (G.1 500)] ck_X3_40 (kc_SX6_top h) (by decide) rfl rfl (Nat.le_of_ble_eq_true rfl) dX3_putFraction_g0.2.2.1 (fun s1 r2 h => ?_)
  refine c_callVv hE hm [.long r2] [] ck_X3_46 (cr_ou hm rfl) (kc_ou_putWhole h) (by decide) rfl rfl (Nat.le_of_ble_eq_true rfl) dX3_putFraction_g0.2.2.2.1 (fun s3 h => ?_)
  refine r_lload_n hE 1 dX3_putFraction_g0.2.2.2.2.1 rfl rfl ?_
  refine c_callSl hE hm [.long a1] [] ck_X3_50 (kc_SX6_bottom h) (by decide) rfl rfl (Nat.le_of_ble_eq_true rfl) dX3_putFraction_g0.2.2.2.2.2.1 (fun s4 r5 h => ?_)
  refine r_lconst (v := (1 : Int64)) hE dX3_putFraction_g0.2.2.2.2.2.2.1 (by decide) ?_
  refine r_lcmp hE dX3_putFraction_g0.2.2.2.2.2.2.2.1 ?_
  refine r_if_eq hE 31 dX3_putFraction_g0.2.2.2.2.2.2.2.2.1 (by decide) h (fun h => ?_) (fun h => ?_)
  · exact c_vret hE hm hF dX3_putFraction_g1 h
  · refine r_aload_n hE 0 dX3_putFraction_g0.2.2.2.2.2.2.2.2.2.1 rfl rfl ?_
    refine r_bipush (v := (47 : Int32)) hE dX3_putFraction_g0.2.2.2.2.2.2.2.2.2.2.1 (by decide) ?_
    refine c_callVv hE hm [.int (47 : Int32)] [] ck_X3_36 (cr_ou hm rfl) (kc_ou_put h) (by decide) rfl rfl (Nat.le_of_ble_eq_true rfl) dX3_putFraction_g0.2.2.2.2.2.2.2.2.2.2.2.1 (fun s6 h => ?_)
    refine r_aload_n hE 0 dX3_putFraction_g0.2.2.2.2.2.2.2.2.2.2.2.2.1 rfl rfl ?_
    refine r_lload_n hE 1 dX3_putFraction_g0.2.2.2.2.2.2.2.2.2.2.2.2.2.1 rfl rfl ?_
    refine c_callSl hE hm [.long a1] [.ref (G.1 500)] ck_X3_50 (kc_SX6_bottom h) (by decide) rfl rfl (Nat.le_of_ble_eq_true rfl) dX3_putFraction_g0.2.2.2.2.2.2.2.2.2.2.2.2.2.2.1 (fun s7 r8 h => ?_)
    refine c_callVv hE hm [.long r8] [] ck_X3_46 (cr_ou hm rfl) (kc_ou_putWhole h) (by decide) rfl rfl (Nat.le_of_ble_eq_true rfl) dX3_putFraction_g0.2.2.2.2.2.2.2.2.2.2.2.2.2.2.2 (fun s9 h => ?_)
    exact c_vret hE hm hF dX3_putFraction_g1 h
/-! ft_writeParts -/
def wc_ft_writeParts_33 (post : CS → Prop) (lp11 : CS → Int32 → Int32 → Int32 → Int32 → Prop) (σ : CS) (v1 : Int32) (v3 : Int32) (v4 : Int32) (v5 : Int32) : Prop := wc_th_partOf (fun (s1 : CS) (r2 : Int64) => wc_ou_putFraction (fun (s3 : CS) => ∀ x4 : Int32, x4 = v5 + (1 : Int32) → lp11 s3 v1 v3 v4 x4) s1 r2) σ v1 v5
set_option maxRecDepth 20000 in
theorem kc_ft_writeParts_33  {E : gEnv} {l : Launch} {D : va_G} {G : gAd} {post : CS → Prop} (hE : gOK E cX12_writeParts RX12 none 6) (hm : cOK E l D G (pV post) 6) (hF : gFin E) {lp11 : CS → Int32 → Int32 → Int32 → Int32 → Prop} (hl11 : ∀ (σ : CS) (v1 : Int32) (v3 : Int32) (v4 : Int32) (v5 : Int32), lp11 σ v1 v3 v4 v5 → GW E (cW G σ) 11 [(0, .ref (G.1 200)), (1, .int v1), (3, .int v3), (4, .int v4), (5, .int v5)] []) (σ : CS) (v1 : Int32) (v3 : Int32) (v4 : Int32) (v5 : Int32) (h : wc_ft_writeParts_33 post lp11 σ v1 v3 v4 v5) : GW E (cW G σ) 33 [(0, .ref (G.1 200)), (1, .int v1), (3, .int v3), (4, .int v4), (5, .int v5)] [] := by
  unfold wc_ft_writeParts_33 at h
  have hN := hm.2.2.2.2.2.2.1
  refine r_aload_n hE 0 dX12_writeParts_g0.2.2.2.2.2.2.2.2.2.2.2.2.2.2.2 rfl rfl ?_
  refine cg_ft_out hE hm fk_X12_20 dX12_writeParts_g1.1 ?_
  refine r_aload_n hE 0 dX12_writeParts_g1.2.1 rfl rfl ?_
  refine cg_ft_things hE hm fk_X12_69 dX12_writeParts_g1.2.2.1 ?_
  refine r_iload_n hE 1 dX12_writeParts_g1.2.2.2.1 rfl rfl ?_
  refine r_iload hE 4 dX12_writeParts_g1.2.2.2.2.1 rfl ?_
  refine c_callVl hE hm [.int v1, .int v5] [.ref (G.1 500)] ck_X12_213 (cr_th hm rfl) (kc_th_partOf h) (by decide) rfl rfl (Nat.le_of_ble_eq_true rfl) dX12_writeParts_g1.2.2.2.2.2.1 (fun s1 r2 h => ?_)
  refine c_callVv hE hm [.long r2] [] ck_X12_243 (cr_ou hm rfl) (kc_ou_putFraction h) (by decide) rfl rfl (Nat.le_of_ble_eq_true rfl) dX12_writeParts_g1.2.2.2.2.2.2.1 (fun s3 h => ?_)
  obtain ⟨x4, ex4⟩ : ∃ z : Int32, z = v5 + (1 : Int32) := ⟨_, rfl⟩
  have h := h x4 ex4
  refine r_iinc (v := x4) hE [(5, .int x4), (0, .ref (G.1 200)), (1, .int v1), (3, .int v3), (4, .int v4)] 4 dX12_writeParts_g1.2.2.2.2.2.2.2.1 rfl (by rw [ex4]; rfl) hN (by decide) rfl ?_
  refine r_goto hE 11 dX12_writeParts_g1.2.2.2.2.2.2.2.2.1 (by decide) ?_
  refine r_pick [1, 2, 3, 4, 0] rfl ?_
  exact hl11 _ _ _ _ _ h
def wc_ft_writeParts_11 (post : CS → Prop) : Nat → CS → Int32 → Int32 → Int32 → Int32 → Prop
  | 0, _, _, _, _, _ => False
  | n + 1, σ, v1, v3, v4, v5 => ((v4 ≤ v5) → (wc_ou_put (fun (s5 : CS) => post s5) σ v3)) ∧ ((¬ (v4 ≤ v5)) → (((v5 ≤ (0 : Int32)) → (wc_ft_writeParts_33 post (fun (ys : CS) (y0 : Int32) (y1 : Int32) (y2 : Int32) (y3 : Int32) => wc_ft_writeParts_11 post n ys y0 y1 y2 y3) σ v1 v3 v4 v5)) ∧ ((¬ (v5 ≤ (0 : Int32))) → (wc_ou_putText_s (fun (s6 : CS) => wc_ft_writeParts_33 post (fun (ys : CS) (y0 : Int32) (y1 : Int32) (y2 : Int32) (y3 : Int32) => wc_ft_writeParts_11 post n ys y0 y1 y2 y3) s6 v1 v3 v4 v5) σ 26))))
set_option maxRecDepth 20000 in
theorem kc_ft_writeParts_11  {E : gEnv} {l : Launch} {D : va_G} {G : gAd} {post : CS → Prop} (hE : gOK E cX12_writeParts RX12 none 6) (hm : cOK E l D G (pV post) 6) (hF : gFin E) : ∀ (n0 : Nat) (σ : CS) (v1 : Int32) (v3 : Int32) (v4 : Int32) (v5 : Int32), wc_ft_writeParts_11 post n0 σ v1 v3 v4 v5 → GW E (cW G σ) 11 [(0, .ref (G.1 200)), (1, .int v1), (3, .int v3), (4, .int v4), (5, .int v5)] [] := by
  intro n0
  induction n0 with
  | zero => intro σ v1 v3 v4 v5 h; exact h.elim
  | succ n0 ih =>
    intro σ v1 v3 v4 v5 h
    rw [wc_ft_writeParts_11] at h
    have hN := hm.2.2.2.2.2.2.1
    refine r_iload hE 4 dX12_writeParts_g0.2.2.2.2.2.2.1 rfl ?_
    refine r_iload hE 3 dX12_writeParts_g0.2.2.2.2.2.2.2.1 rfl ?_
    refine r_icmp_ge hE 56 dX12_writeParts_g0.2.2.2.2.2.2.2.2.1 (by decide) h (fun h => ?_) (fun h => ?_)
    · refine r_aload_n hE 0 dX12_writeParts_g1.2.2.2.2.2.2.2.2.2.1 rfl rfl ?_
      refine cg_ft_out hE hm fk_X12_20 dX12_writeParts_g1.2.2.2.2.2.2.2.2.2.2.1 ?_
      refine r_iload_n hE 2 dX12_writeParts_g1.2.2.2.2.2.2.2.2.2.2.2.1 rfl rfl ?_
      refine c_callVv hE hm [.int v3] [] ck_X12_251 (cr_ou hm rfl) (kc_ou_put h) (by decide) rfl rfl (Nat.le_of_ble_eq_true rfl) dX12_writeParts_g1.2.2.2.2.2.2.2.2.2.2.2.2.1 (fun s5 h => ?_)
      exact c_vret hE hm hF dX12_writeParts_g1.2.2.2.2.2.2.2.2.2.2.2.2.2 h
    · refine r_iload hE 4 dX12_writeParts_g0.2.2.2.2.2.2.2.2.2.1 rfl ?_
      refine r_if_le hE 33 dX12_writeParts_g0.2.2.2.2.2.2.2.2.2.2.1 (by decide) h (fun h => ?_) (fun h => ?_)
      · exact kc_ft_writeParts_33 hE hm hF ih _ _ _ _ _ h
      · refine r_aload_n hE 0 dX12_writeParts_g0.2.2.2.2.2.2.2.2.2.2.2.1 rfl rfl ?_
        refine cg_ft_out hE hm fk_X12_20 dX12_writeParts_g0.2.2.2.2.2.2.2.2.2.2.2.2.1 ?_
        refine ks_ldcw (tx := ", ") (i := 26) hE hm (List.mem_of_getElem? (i := 26) rfl) dX12_writeParts_g0.2.2.2.2.2.2.2.2.2.2.2.2.2.1 ?_
        refine c_callVv hE hm [.ref (G.1 (5000 + 26))] [] ck_X12_292 (cr_ou hm rfl) (kc_ou_putText_s h) (by decide) rfl rfl (Nat.le_of_ble_eq_true rfl) dX12_writeParts_g0.2.2.2.2.2.2.2.2.2.2.2.2.2.2.1 (fun s6 h => ?_)
        exact kc_ft_writeParts_33 hE hm hF ih _ _ _ _ _ h
def wc_ft_writeParts (post : CS → Prop) (σ : CS) (a1 : Int32) (a2 : Int32) (a3 : Int32) (a4 : Int32) : Prop := wc_ou_put (fun (s7 : CS) => ∃ k : Nat, wc_ft_writeParts_11 post k s7 a1 a3 a4 (0 : Int32)) σ a2
set_option maxRecDepth 20000 in
theorem kc_ft_writeParts {l : Launch} {D : va_G} {G : gAd} {post : CS → Prop} {σ : CS} {a1 : Int32} {a2 : Int32} {a3 : Int32} {a4 : Int32} (h : wc_ft_writeParts post σ a1 a2 a3 a4) : cMet l D G yX12_writeParts cX12_writeParts 6 none 6 [.ref (G.1 200), .int a1, .int a2, .int a3, .int a4] σ (pV post) := by
  unfold wc_ft_writeParts at h
  refine c_enter (own := RX12) (by decide +kernel) rfl [(0, .ref (G.1 200)), (1, .int a1), (2, .int a2), (3, .int a3), (4, .int a4)] rfl (Nat.le_of_ble_eq_true rfl) ?_
  intro E hE hm hF
  have hN := hm.2.2.2.2.2.2.1
  refine r_aload_n hE 0 dX12_writeParts_g0.1 rfl rfl ?_
  refine cg_ft_out hE hm fk_X12_20 dX12_writeParts_g0.2.1 ?_
  refine r_iload_n hE 2 dX12_writeParts_g0.2.2.1 rfl rfl ?_
  refine c_callVv hE hm [.int a2] [] ck_X12_251 (cr_ou hm rfl) (kc_ou_put h) (by decide) rfl rfl (Nat.le_of_ble_eq_true rfl) dX12_writeParts_g0.2.2.2.1 (fun s7 h => ?_)
  refine r_iconst (v := (0 : Int32)) hE dX12_writeParts_g0.2.2.2.2.1 (by decide) ?_
  refine r_istore hE [(5, .int (0 : Int32)), (0, .ref (G.1 200)), (1, .int a1), (2, .int a2), (3, .int a3), (4, .int a4)] dX12_writeParts_g0.2.2.2.2.2.1 hN (by decide) rfl ?_
  refine r_pick [1, 2, 4, 5, 0] rfl ?_
  obtain ⟨k, h⟩ := h
  exact kc_ft_writeParts_11 hE hm hF k _ _ _ _ _ h
/-! ft_write -/
def wc_ft_write_107 (post : CS → Int32 → Prop) (postX : CS → Prop) (σ : CS) (v2 : Int32) : Prop := wc_ft_writeParts (fun (s1 : CS) => post s1 (c_ou_length s1)) σ v2 (40 : Int32) (41 : Int32) (2 : Int32)
set_option maxRecDepth 20000 in
theorem kc_ft_write_107  {E : gEnv} {l : Launch} {D : va_G} {G : gAd} {post : CS → Int32 → Prop} {postX : CS → Prop} (hE : gOK E cX12_write RX12 (some .int) 7) (hm : cOK E l D G (pI post) 3) (hF : gFinX E (cQX G postX)) (hl0 : l.stackTraces = false) (σ : CS) (v2 : Int32) (h : wc_ft_write_107 post postX σ v2) : GW E (cW G σ) 107 [(0, .ref (G.1 200)), (2, .int v2)] [] := by
  unfold wc_ft_write_107 at h
  have hN := hm.2.2.2.2.2.2.1
  refine r_aload_n hE 0 dX12_write_g2.2.1 rfl rfl ?_
  refine r_iload_n hE 1 dX12_write_g2.2.2.1 rfl rfl ?_
  refine r_bipush (v := (40 : Int32)) hE dX12_write_g2.2.2.2.1 (by decide) ?_
  refine r_bipush (v := (41 : Int32)) hE dX12_write_g2.2.2.2.2.1 (by decide) ?_
  refine r_iconst (v := (2 : Int32)) hE dX12_write_g2.2.2.2.2.2.1 (by decide) ?_
  refine c_callVv hE hm [.int v2, .int (40 : Int32), .int (41 : Int32), .int (2 : Int32)] [] ck_X12_247 (cr_ft hm rfl) (kc_ft_writeParts h) (by decide) rfl rfl (Nat.le_of_ble_eq_true rfl) dX12_write_g2.2.2.2.2.2.2.1 (fun s1 h => ?_)
  refine r_goto hE 180 dX12_write_g2.2.2.2.2.2.2.2.1 (by decide) ?_
  refine r_aload_n hE 0 dX12_write_g4.2.2.2.2.2.2.1 rfl rfl ?_
  refine cg_ft_out hE hm fk_X12_20 dX12_write_g4.2.2.2.2.2.2.2.1 ?_
  refine cg_ou_length hE hm fk_X12_192 dX12_write_g4.2.2.2.2.2.2.2.2.1 ?_
  exact cx_iret hE hm hF dX12_write_g4.2.2.2.2.2.2.2.2.2 h
def wc_ft_write_120 (post : CS → Int32 → Prop) (postX : CS → Prop) (σ : CS) (v2 : Int32) : Prop := wc_ft_writeParts (fun (s2 : CS) => post s2 (c_ou_length s2)) σ v2 (91 : Int32) (93 : Int32) (3 : Int32)
set_option maxRecDepth 20000 in
theorem kc_ft_write_120  {E : gEnv} {l : Launch} {D : va_G} {G : gAd} {post : CS → Int32 → Prop} {postX : CS → Prop} (hE : gOK E cX12_write RX12 (some .int) 7) (hm : cOK E l D G (pI post) 3) (hF : gFinX E (cQX G postX)) (hl0 : l.stackTraces = false) (σ : CS) (v2 : Int32) (h : wc_ft_write_120 post postX σ v2) : GW E (cW G σ) 120 [(0, .ref (G.1 200)), (2, .int v2)] [] := by
  unfold wc_ft_write_120 at h
  have hN := hm.2.2.2.2.2.2.1
  refine r_aload_n hE 0 dX12_write_g2.2.2.2.2.2.2.2.2.1 rfl rfl ?_
  refine r_iload_n hE 1 dX12_write_g2.2.2.2.2.2.2.2.2.2.1 rfl rfl ?_
  refine r_bipush (v := (91 : Int32)) hE dX12_write_g2.2.2.2.2.2.2.2.2.2.2.1 (by decide) ?_
  refine r_bipush (v := (93 : Int32)) hE dX12_write_g2.2.2.2.2.2.2.2.2.2.2.2.1 (by decide) ?_
  refine r_iconst (v := (3 : Int32)) hE dX12_write_g2.2.2.2.2.2.2.2.2.2.2.2.2.1 (by decide) ?_
  refine c_callVv hE hm [.int v2, .int (91 : Int32), .int (93 : Int32), .int (3 : Int32)] [] ck_X12_247 (cr_ft hm rfl) (kc_ft_writeParts h) (by decide) rfl rfl (Nat.le_of_ble_eq_true rfl) dX12_write_g2.2.2.2.2.2.2.2.2.2.2.2.2.2.1 (fun s2 h => ?_)
  refine r_goto hE 180 dX12_write_g2.2.2.2.2.2.2.2.2.2.2.2.2.2.2.1 (by decide) ?_
  refine r_aload_n hE 0 dX12_write_g4.2.2.2.2.2.2.1 rfl rfl ?_
  refine cg_ft_out hE hm fk_X12_20 dX12_write_g4.2.2.2.2.2.2.2.1 ?_
  refine cg_ou_length hE hm fk_X12_192 dX12_write_g4.2.2.2.2.2.2.2.2.1 ?_
  exact cx_iret hE hm hF dX12_write_g4.2.2.2.2.2.2.2.2.2 h
def wc_ft_write (post : CS → Int32 → Prop) (postX : CS → Prop) (σ : CS) (a1 : Int32) : Prop := wc_SX12_inside (fun (s3 : CS) (r4 : Int32) => ((¬ (r4 = (0 : Int32))) → (wc_to_drawnAt (fun (s5 : CS) (r6 : Int32) => wc_ou_clear (fun (s7 : CS) => wc_th_kindOf (fun (s8 : CS) (r9 : Int32) => (r9 = (0 : Int32) → (wc_th_partOf (fun (s10 : CS) (r11 : Int64) => wc_ou_putFraction (fun (s12 : CS) => post s12 (c_ou_length s12)) s10 r11) s8 r6 (0 : Int32))) ∧ (¬ r9 = (0 : Int32) → ((r9 = (1 : Int32) → (wc_ft_write_107 post postX s8 r6)) ∧ (¬ r9 = (1 : Int32) → ((r9 = (2 : Int32) → (wc_ft_write_107 post postX s8 r6)) ∧ (¬ r9 = (2 : Int32) → ((r9 = (3 : Int32) → (wc_ft_write_120 post postX s8 r6)) ∧ (¬ r9 = (3 : Int32) → ((r9 = (4 : Int32) → (wc_ft_write_120 post postX s8 r6)) ∧ (¬ r9 = (4 : Int32) → ((r9 = (5 : Int32) → (wc_ft_writeParts (fun (s13 : CS) => post s13 (c_ou_length s13)) s8 r6 (60 : Int32) (62 : Int32) (3 : Int32))) ∧ (¬ r9 = (5 : Int32) → (wc_ou_put (fun (s14 : CS) => wc_th_partOf (fun (s15 : CS) (r16 : Int64) => wc_ou_putFraction (fun (s17 : CS) => wc_ou_put (fun (s18 : CS) => post s18 (c_ou_length s18)) s17 (125 : Int32)) s15 r16) s14 r6 (1 : Int32)) s8 (123 : Int32)))))))))))))) s7 r6) s5) s3 a1)) ∧ ((r4 = (0 : Int32)) → (postX s3))) σ a1 (c_to_draws σ)
set_option maxRecDepth 20000 in
theorem kc_ft_write {l : Launch} {D : va_G} {G : gAd} {post : CS → Int32 → Prop} {postX : CS → Prop} (hl0 : l.stackTraces = false) {σ : CS} {a1 : Int32} (h : wc_ft_write post postX σ a1) : cMetX l D G yX12_write cX12_write 3 (some .int) 7 [.ref (G.1 200), .int a1] σ (pI post) postX := by
  unfold wc_ft_write at h
  refine c_enterX (own := RX12) (by decide +kernel) rfl [(0, .ref (G.1 200)), (1, .int a1)] rfl (Nat.le_of_ble_eq_true rfl) ?_
  intro E hE hm hF
  have hN := hm.2.2.2.2.2.2.1
  refine r_iload_n hE 1 dX12_write_g0.1 rfl rfl ?_
  refine r_aload_n hE 0 dX12_write_g0.2.1 rfl rfl ?_
  refine cg_ft_told hE hm fk_X12_83 dX12_write_g0.2.2.1 ?_
  refine cg_to_draws hE hm fk_X12_177 dX12_write_g0.2.2.2.1 ?_
  refine c_callSi hE hm [.int a1, .int (c_to_draws σ)] [] ck_X12_145 (kc_SX12_inside h) (by decide) rfl rfl (Nat.le_of_ble_eq_true rfl) dX12_write_g0.2.2.2.2.1 (fun s3 r4 h => ?_)
  refine r_if_ne hE 24 dX12_write_g0.2.2.2.2.2.1 (by decide) h (fun h => ?_) (fun h => ?_)
  · refine r_aload_n hE 0 dX12_write_g0.2.2.2.2.2.2.2.2.2.2.2.1 rfl rfl ?_
    refine cg_ft_told hE hm fk_X12_83 dX12_write_g0.2.2.2.2.2.2.2.2.2.2.2.2.1 ?_
    refine r_iload_n hE 1 dX12_write_g0.2.2.2.2.2.2.2.2.2.2.2.2.2.1 rfl rfl ?_
    refine c_callVi hE hm [.int a1] [] ck_X12_202 (cr_to hm rfl) (kc_to_drawnAt h) (by decide) rfl rfl (Nat.le_of_ble_eq_true rfl) dX12_write_g0.2.2.2.2.2.2.2.2.2.2.2.2.2.2.1 (fun s5 r6 h => ?_)
    refine r_istore_n hE [(2, .int r6), (0, .ref (G.1 200)), (1, .int a1)] dX12_write_g0.2.2.2.2.2.2.2.2.2.2.2.2.2.2.2 rfl hN (by decide) rfl ?_
    refine r_aload_n hE 1 dX12_write_g1.1 rfl rfl ?_
    refine cg_ft_out hE hm fk_X12_20 dX12_write_g1.2.1 ?_
    refine c_callVv hE hm [] [] ck_X12_242 (cr_ou hm rfl) (kc_ou_clear h) (by decide) rfl rfl (Nat.le_of_ble_eq_true rfl) dX12_write_g1.2.2.1 (fun s7 h => ?_)
    refine r_aload_n hE 1 dX12_write_g1.2.2.2.1 rfl rfl ?_
    refine cg_ft_things hE hm fk_X12_69 dX12_write_g1.2.2.2.2.1 ?_
    refine r_iload_n hE 0 dX12_write_g1.2.2.2.2.2.1 rfl rfl ?_
    refine c_callVi hE hm [.int r6] [] ck_X12_205 (cr_th hm rfl) (kc_th_kindOf h) (by decide) rfl rfl (Nat.le_of_ble_eq_true rfl) dX12_write_g1.2.2.2.2.2.2.1 (fun s8 r9 h => ?_)
    refine r_case (0 : Int32) h (fun q0 h => ?_) (fun q0 h => ?_)
    · refine r_tableAt (off := 40) hE (0 : Int32) 88 dX12_write_g1.2.2.2.2.2.2.2.1 q0 (by decide) (by decide) (by decide) (by decide) ?_
      refine r_aload_n hE 1 dX12_write_g1.2.2.2.2.2.2.2.2.1 rfl rfl ?_
      refine cg_ft_out hE hm fk_X12_20 dX12_write_g1.2.2.2.2.2.2.2.2.2.1 ?_
      refine r_aload_n hE 1 dX12_write_g1.2.2.2.2.2.2.2.2.2.2.1 rfl rfl ?_
      refine cg_ft_things hE hm fk_X12_69 dX12_write_g1.2.2.2.2.2.2.2.2.2.2.2.1 ?_
      refine r_iload_n hE 0 dX12_write_g1.2.2.2.2.2.2.2.2.2.2.2.2.1 rfl rfl ?_
      refine r_iconst (v := (0 : Int32)) hE dX12_write_g1.2.2.2.2.2.2.2.2.2.2.2.2.2.1 (by decide) ?_
      refine c_callVl hE hm [.int r6, .int (0 : Int32)] [.ref (G.1 500)] ck_X12_213 (cr_th hm rfl) (kc_th_partOf h) (by decide) rfl rfl (Nat.le_of_ble_eq_true rfl) dX12_write_g1.2.2.2.2.2.2.2.2.2.2.2.2.2.2.1 (fun s10 r11 h => ?_)
      refine c_callVv hE hm [.long r11] [] ck_X12_243 (cr_ou hm rfl) (kc_ou_putFraction h) (by decide) rfl rfl (Nat.le_of_ble_eq_true rfl) dX12_write_g1.2.2.2.2.2.2.2.2.2.2.2.2.2.2.2 (fun s12 h => ?_)
      refine r_goto hE 180 dX12_write_g2.1 (by decide) ?_
      refine r_aload_n hE 1 dX12_write_g4.2.2.2.2.2.2.1 rfl rfl ?_
      refine cg_ft_out hE hm fk_X12_20 dX12_write_g4.2.2.2.2.2.2.2.1 ?_
      refine cg_ou_length hE hm fk_X12_192 dX12_write_g4.2.2.2.2.2.2.2.2.1 ?_
      exact cx_iret hE hm hF dX12_write_g4.2.2.2.2.2.2.2.2.2 h
    · refine r_case (1 : Int32) h (fun q1 h => ?_) (fun q1 h => ?_)
      · refine r_tableAt (off := 59) hE (1 : Int32) 107 dX12_write_g1.2.2.2.2.2.2.2.1 q1 (by decide) (by decide) (by decide) (by decide) ?_
        refine r_pick [1, 0] rfl ?_
        exact kc_ft_write_107 hE hm hF hl0 _ _ h
      · refine r_case (2 : Int32) h (fun q2 h => ?_) (fun q2 h => ?_)
        · refine r_tableAt (off := 59) hE (2 : Int32) 107 dX12_write_g1.2.2.2.2.2.2.2.1 q2 (by decide) (by decide) (by decide) (by decide) ?_
          refine r_pick [1, 0] rfl ?_
          exact kc_ft_write_107 hE hm hF hl0 _ _ h
        · refine r_case (3 : Int32) h (fun q3 h => ?_) (fun q3 h => ?_)
          · refine r_tableAt (off := 72) hE (3 : Int32) 120 dX12_write_g1.2.2.2.2.2.2.2.1 q3 (by decide) (by decide) (by decide) (by decide) ?_
            refine r_pick [1, 0] rfl ?_
            exact kc_ft_write_120 hE hm hF hl0 _ _ h
          · refine r_case (4 : Int32) h (fun q4 h => ?_) (fun q4 h => ?_)
            · refine r_tableAt (off := 72) hE (4 : Int32) 120 dX12_write_g1.2.2.2.2.2.2.2.1 q4 (by decide) (by decide) (by decide) (by decide) ?_
              refine r_pick [1, 0] rfl ?_
              exact kc_ft_write_120 hE hm hF hl0 _ _ h
            · refine r_case (5 : Int32) h (fun q5 h => ?_) (fun q5 h => ?_)
              · refine r_tableAt (off := 85) hE (5 : Int32) 133 dX12_write_g1.2.2.2.2.2.2.2.1 q5 (by decide) (by decide) (by decide) (by decide) ?_
                refine r_aload_n hE 1 dX12_write_g2.2.2.2.2.2.2.2.2.2.2.2.2.2.2.2 rfl rfl ?_
                refine r_iload_n hE 0 dX12_write_g3.1 rfl rfl ?_
                refine r_bipush (v := (60 : Int32)) hE dX12_write_g3.2.1 (by decide) ?_
                refine r_bipush (v := (62 : Int32)) hE dX12_write_g3.2.2.1 (by decide) ?_
                refine r_iconst (v := (3 : Int32)) hE dX12_write_g3.2.2.2.1 (by decide) ?_
                refine c_callVv hE hm [.int r6, .int (60 : Int32), .int (62 : Int32), .int (3 : Int32)] [] ck_X12_247 (cr_ft hm rfl) (kc_ft_writeParts h) (by decide) rfl rfl (Nat.le_of_ble_eq_true rfl) dX12_write_g3.2.2.2.2.1 (fun s13 h => ?_)
                refine r_goto hE 180 dX12_write_g3.2.2.2.2.2.1 (by decide) ?_
                refine r_aload_n hE 1 dX12_write_g4.2.2.2.2.2.2.1 rfl rfl ?_
                refine cg_ft_out hE hm fk_X12_20 dX12_write_g4.2.2.2.2.2.2.2.1 ?_
                refine cg_ou_length hE hm fk_X12_192 dX12_write_g4.2.2.2.2.2.2.2.2.1 ?_
                exact cx_iret hE hm hF dX12_write_g4.2.2.2.2.2.2.2.2.2 h
              · have n0 := lv_neT q0 (show (0 : Int32).toInt = 0 by decide)
                have n1 := lv_neT q1 (show (1 : Int32).toInt = 1 by decide)
                have n2 := lv_neT q2 (show (2 : Int32).toInt = 2 by decide)
                have n3 := lv_neT q3 (show (3 : Int32).toInt = 3 by decide)
                have n4 := lv_neT q4 (show (4 : Int32).toInt = 4 by decide)
                have n5 := lv_neT q5 (show (5 : Int32).toInt = 5 by decide)
                refine r_tableOut hE 146 dX12_write_g1.2.2.2.2.2.2.2.1 (by omega) (by decide) ?_
                refine r_aload_n hE 1 dX12_write_g3.2.2.2.2.2.2.1 rfl rfl ?_
                refine cg_ft_out hE hm fk_X12_20 dX12_write_g3.2.2.2.2.2.2.2.1 ?_
                refine r_bipush (v := (123 : Int32)) hE dX12_write_g3.2.2.2.2.2.2.2.2.1 (by decide) ?_
                refine c_callVv hE hm [.int (123 : Int32)] [] ck_X12_251 (cr_ou hm rfl) (kc_ou_put h) (by decide) rfl rfl (Nat.le_of_ble_eq_true rfl) dX12_write_g3.2.2.2.2.2.2.2.2.2.1 (fun s14 h => ?_)
                refine r_aload_n hE 1 dX12_write_g3.2.2.2.2.2.2.2.2.2.2.1 rfl rfl ?_
                refine cg_ft_out hE hm fk_X12_20 dX12_write_g3.2.2.2.2.2.2.2.2.2.2.2.1 ?_
                refine r_aload_n hE 1 dX12_write_g3.2.2.2.2.2.2.2.2.2.2.2.2.1 rfl rfl ?_
                refine cg_ft_things hE hm fk_X12_69 dX12_write_g3.2.2.2.2.2.2.2.2.2.2.2.2.2.1 ?_
                refine r_iload_n hE 0 dX12_write_g3.2.2.2.2.2.2.2.2.2.2.2.2.2.2.1 rfl rfl ?_
                refine r_iconst (v := (1 : Int32)) hE dX12_write_g3.2.2.2.2.2.2.2.2.2.2.2.2.2.2.2 (by decide) ?_
                refine c_callVl hE hm [.int r6, .int (1 : Int32)] [.ref (G.1 500)] ck_X12_213 (cr_th hm rfl) (kc_th_partOf h) (by decide) rfl rfl (Nat.le_of_ble_eq_true rfl) dX12_write_g4.1 (fun s15 r16 h => ?_)
                refine c_callVv hE hm [.long r16] [] ck_X12_243 (cr_ou hm rfl) (kc_ou_putFraction h) (by decide) rfl rfl (Nat.le_of_ble_eq_true rfl) dX12_write_g4.2.1 (fun s17 h => ?_)
                refine r_aload_n hE 1 dX12_write_g4.2.2.1 rfl rfl ?_
                refine cg_ft_out hE hm fk_X12_20 dX12_write_g4.2.2.2.1 ?_
                refine r_bipush (v := (125 : Int32)) hE dX12_write_g4.2.2.2.2.1 (by decide) ?_
                refine c_callVv hE hm [.int (125 : Int32)] [] ck_X12_251 (cr_ou hm rfl) (kc_ou_put h) (by decide) rfl rfl (Nat.le_of_ble_eq_true rfl) dX12_write_g4.2.2.2.2.2.1 (fun s18 h => ?_)
                refine r_aload_n hE 1 dX12_write_g4.2.2.2.2.2.2.1 rfl rfl ?_
                refine cg_ft_out hE hm fk_X12_20 dX12_write_g4.2.2.2.2.2.2.2.1 ?_
                refine cg_ou_length hE hm fk_X12_192 dX12_write_g4.2.2.2.2.2.2.2.2.1 ?_
                exact cx_iret hE hm hF dX12_write_g4.2.2.2.2.2.2.2.2.2 h
  · exact cx_throw (tx := "no such DRAWN THING") (i := 23) hE hm hF hl0 (List.mem_of_getElem? (i := 23) rfl) (by decide) dX12_write_g0.2.2.2.2.2.2.1 dX12_write_g0.2.2.2.2.2.2.2.1 dX12_write_g0.2.2.2.2.2.2.2.2.1 dX12_write_g0.2.2.2.2.2.2.2.2.2.1 dX12_write_g0.2.2.2.2.2.2.2.2.2.2.1 h
/-! ou_byteAt -/
def wc_ou_byteAt (post : CS → Int32 → Prop) (σ : CS) (a1 : Int32) : Prop := wc_SX12_inside (fun (s1 : CS) (r2 : Int32) => ((r2 = (0 : Int32)) → (post s1 (-1 : Int32))) ∧ ((¬ (r2 = (0 : Int32))) → ((((16000 : Int32) ≤ a1) → (post s1 (-1 : Int32))) ∧ ((¬ ((16000 : Int32) ≤ a1)) → (vp_in a1 16000 ∧ (post s1 ((c_ou_bytes s1 a1.toNatClampNeg) &&& (255 : Int32)))))))) σ a1 (c_ou_length σ)
set_option maxRecDepth 20000 in
theorem kc_ou_byteAt {l : Launch} {D : va_G} {G : gAd} {post : CS → Int32 → Prop} {σ : CS} {a1 : Int32} (h : wc_ou_byteAt post σ a1) : cMet l D G yX3_byteAt cX3_byteAt 2 (some .int) 2 [.ref (G.1 500), .int a1] σ (pI post) := by
  unfold wc_ou_byteAt at h
  refine c_enter (own := RX3) (by decide +kernel) rfl [(0, .ref (G.1 500)), (1, .int a1)] rfl (Nat.le_of_ble_eq_true rfl) ?_
  intro E hE hm hF
  have hN := hm.2.2.2.2.2.2.1
  refine r_iload_n hE 1 dX3_byteAt_g0.1 rfl rfl ?_
  refine r_aload_n hE 0 dX3_byteAt_g0.2.1 rfl rfl ?_
  refine cg_ou_length hE hm fk_X3_19 dX3_byteAt_g0.2.2.1 ?_
  refine c_callSNi hE hm [.int a1, .int (c_ou_length σ)] [] ck_X3_23 cw_X3_23 (kc_SX12_inside h) (by decide) rfl rfl (Nat.le_of_ble_eq_true rfl) dX3_byteAt_g0.2.2.2.1 (fun s1 r2 h => ?_)
  refine r_if_eq hE 33 dX3_byteAt_g0.2.2.2.2.1 (by decide) h (fun h => ?_) (fun h => ?_)
  · refine r_iconst (v := (-1 : Int32)) hE dX3_byteAt_g1.2.1 (by decide) ?_
    exact c_iret hE hm hF dX3_byteAt_g1.2.2 h
  · refine r_iload_n hE 1 dX3_byteAt_g0.2.2.2.2.2.1 rfl rfl ?_
    refine r_aload_n hE 0 dX3_byteAt_g0.2.2.2.2.2.2.1 rfl rfl ?_
    refine cg_ou_bytes hE hm fk_X3_9 dX3_byteAt_g0.2.2.2.2.2.2.2.1 ?_
    refine cn_ou_bytes hE hm dX3_byteAt_g0.2.2.2.2.2.2.2.2.1 ?_
    refine r_icmp_ge hE 33 dX3_byteAt_g0.2.2.2.2.2.2.2.2.2.1 (by decide) h (fun h => ?_) (fun h => ?_)
    · refine r_iconst (v := (-1 : Int32)) hE dX3_byteAt_g1.2.1 (by decide) ?_
      exact c_iret hE hm hF dX3_byteAt_g1.2.2 h
    · refine r_aload_n hE 0 dX3_byteAt_g0.2.2.2.2.2.2.2.2.2.2.1 rfl rfl ?_
      refine cg_ou_bytes hE hm fk_X3_9 dX3_byteAt_g0.2.2.2.2.2.2.2.2.2.2.2.1 ?_
      refine r_iload_n hE 1 dX3_byteAt_g0.2.2.2.2.2.2.2.2.2.2.2.2.1 rfl rfl ?_
      obtain ⟨hi, h⟩ := h
      refine cl_ou_bytes hE hm dX3_byteAt_g0.2.2.2.2.2.2.2.2.2.2.2.2.2.1 hi ?_
      refine r_sipush (v := (255 : Int32)) hE dX3_byteAt_g0.2.2.2.2.2.2.2.2.2.2.2.2.2.2.1 (by decide) ?_
      refine r_iand hE dX3_byteAt_g0.2.2.2.2.2.2.2.2.2.2.2.2.2.2.2 ?_
      refine r_goto hE 34 dX3_byteAt_g1.1 (by decide) ?_
      exact c_iret hE hm hF dX3_byteAt_g1.2.2 h
/-! ft_out -/
def wc_ft_out (post : CS → Int32 → Prop) (postX : CS → Prop) (σ : CS) (a1 : Int32) : Prop := wc_SX12_inside (fun (s1 : CS) (r2 : Int32) => ((¬ (r2 = (0 : Int32))) → (wc_ou_byteAt (fun (s3 : CS) (r4 : Int32) => post s3 r4) s1 a1)) ∧ ((r2 = (0 : Int32)) → (postX s1))) σ a1 (c_ou_length σ)
set_option maxRecDepth 20000 in
theorem kc_ft_out {l : Launch} {D : va_G} {G : gAd} {post : CS → Int32 → Prop} {postX : CS → Prop} (hl0 : l.stackTraces = false) {σ : CS} {a1 : Int32} (h : wc_ft_out post postX σ a1) : cMetX l D G yX12_out cX12_out 2 (some .int) 6 [.ref (G.1 200), .int a1] σ (pI post) postX := by
  unfold wc_ft_out at h
  refine c_enterX (own := RX12) (by decide +kernel) rfl [(0, .ref (G.1 200)), (1, .int a1)] rfl (Nat.le_of_ble_eq_true rfl) ?_
  intro E hE hm hF
  have hN := hm.2.2.2.2.2.2.1
  refine r_iload_n hE 1 dX12_out_g0.1 rfl rfl ?_
  refine r_aload_n hE 0 dX12_out_g0.2.1 rfl rfl ?_
  refine cg_ft_out hE hm fk_X12_20 dX12_out_g0.2.2.1 ?_
  refine cg_ou_length hE hm fk_X12_192 dX12_out_g0.2.2.2.1 ?_
  refine c_callSi hE hm [.int a1, .int (c_ou_length σ)] [] ck_X12_145 (kc_SX12_inside h) (by decide) rfl rfl (Nat.le_of_ble_eq_true rfl) dX12_out_g0.2.2.2.2.1 (fun s1 r2 h => ?_)
  refine r_if_ne hE 24 dX12_out_g0.2.2.2.2.2.1 (by decide) h (fun h => ?_) (fun h => ?_)
  · refine r_aload_n hE 0 dX12_out_g0.2.2.2.2.2.2.2.2.2.2.2.1 rfl rfl ?_
    refine cg_ft_out hE hm fk_X12_20 dX12_out_g0.2.2.2.2.2.2.2.2.2.2.2.2.1 ?_
    refine r_iload_n hE 1 dX12_out_g0.2.2.2.2.2.2.2.2.2.2.2.2.2.1 rfl rfl ?_
    refine c_callVi hE hm [.int a1] [] ck_X12_257 (cr_ou hm rfl) (kc_ou_byteAt h) (by decide) rfl rfl (Nat.le_of_ble_eq_true rfl) dX12_out_g0.2.2.2.2.2.2.2.2.2.2.2.2.2.2.1 (fun s3 r4 h => ?_)
    exact cx_iret hE hm hF dX12_out_g0.2.2.2.2.2.2.2.2.2.2.2.2.2.2.2 h
  · exact cx_throw (tx := "THE OUT has no such byte") (i := 27) hE hm hF hl0 (List.mem_of_getElem? (i := 27) rfl) (by decide) dX12_out_g0.2.2.2.2.2.2.1 dX12_out_g0.2.2.2.2.2.2.2.1 dX12_out_g0.2.2.2.2.2.2.2.2.1 dX12_out_g0.2.2.2.2.2.2.2.2.2.1 dX12_out_g0.2.2.2.2.2.2.2.2.2.2.1 h
/-! ft_back -/
def wc_ft_back (post : CS → Int32 → Prop) (σ : CS) : Prop := (((c_ou_length σ) ≤ (3000 : Int32)) → (¬ (0 : Int32) < 0 ∧ ¬ (0 : Int32) < 0 ∧ ¬ (c_ou_length σ) < 0 ∧ (0 : Int32).toNatClampNeg + (c_ou_length σ).toNatClampNeg ≤ 16000 ∧ (0 : Int32).toNatClampNeg + (c_ou_length σ).toNatClampNeg ≤ 3000 ∧ (∀ i, i < (c_ou_length σ).toNatClampNeg → fits .byte (.int (c_ou_bytes σ ((0 : Int32).toNatClampNeg + i))) = true) ∧ ∀ s1 : CS, s1 = c_ft_tape_w σ (va_cpy (c_ou_bytes σ) (c_ft_tape σ) (0 : Int32).toNatClampNeg (0 : Int32).toNatClampNeg (c_ou_length σ).toNatClampNeg) → ∀ s2 : CS, s2 = c_ft_tapeLength_s s1 (c_ou_length s1) → post s2 (c_ft_tapeLength s2))) ∧ ((¬ ((c_ou_length σ) ≤ (3000 : Int32))) → (post σ (-2000000003 : Int32)))
set_option maxRecDepth 20000 in
theorem kc_ft_back {l : Launch} {D : va_G} {G : gAd} {post : CS → Int32 → Prop} {σ : CS} (h : wc_ft_back post σ) : cMet l D G yX12_back cX12_back 1 (some .int) 3 [.ref (G.1 200)] σ (pI post) := by
  unfold wc_ft_back at h
  refine c_enter (own := RX12) (by decide +kernel) rfl [(0, .ref (G.1 200))] rfl (Nat.le_of_ble_eq_true rfl) ?_
  intro E hE hm hF
  have hN := hm.2.2.2.2.2.2.1
  refine r_aload_n hE 0 dX12_back_g0.1 rfl rfl ?_
  refine cg_ft_out hE hm fk_X12_20 dX12_back_g0.2.1 ?_
  refine cg_ou_length hE hm fk_X12_192 dX12_back_g0.2.2.1 ?_
  refine r_sipush (v := (3000 : Int32)) hE dX12_back_g0.2.2.2.1 (by decide) ?_
  refine r_icmp_le hE 16 dX12_back_g0.2.2.2.2.1 (by decide) h (fun h => ?_) (fun h => ?_)
  · refine r_aload_n hE 0 dX12_back_g0.2.2.2.2.2.2.2.1 rfl rfl ?_
    refine cg_ft_out hE hm fk_X12_20 dX12_back_g0.2.2.2.2.2.2.2.2.1 ?_
    refine cg_ou_bytes hE hm fk_X12_260 dX12_back_g0.2.2.2.2.2.2.2.2.2.1 ?_
    refine r_iconst (v := (0 : Int32)) hE dX12_back_g0.2.2.2.2.2.2.2.2.2.2.1 (by decide) ?_
    refine r_aload_n hE 0 dX12_back_g0.2.2.2.2.2.2.2.2.2.2.2.1 rfl rfl ?_
    refine cg_ft_tape hE hm fk_X12_9 dX12_back_g0.2.2.2.2.2.2.2.2.2.2.2.2.1 ?_
    refine r_iconst (v := (0 : Int32)) hE dX12_back_g0.2.2.2.2.2.2.2.2.2.2.2.2.2.1 (by decide) ?_
    refine r_aload_n hE 0 dX12_back_g0.2.2.2.2.2.2.2.2.2.2.2.2.2.2.1 rfl rfl ?_
    refine cg_ft_out hE hm fk_X12_20 dX12_back_g0.2.2.2.2.2.2.2.2.2.2.2.2.2.2.2 ?_
    refine cg_ou_length hE hm fk_X12_192 dX12_back_g1.1 ?_
    refine kcp_ou_ft hE hm (gTb_6 (List.mem_of_getElem? (i := 214) rfl) rfl) (gTb_2 (List.mem_of_getElem? (i := 223) rfl) rfl) (gTb_2 (List.mem_of_getElem? (i := 222) rfl) rfl) (gTb_1 (List.mem_of_getElem? (i := 13) rfl) rfl) (by decide) (Nat.le_of_ble_eq_true rfl) dX12_back_g1.2.1 h (fun s1 h => ?_)
    refine r_aload_n hE 0 dX12_back_g1.2.2.1 rfl rfl ?_
    refine r_aload_n hE 0 dX12_back_g1.2.2.2.1 rfl rfl ?_
    refine cg_ft_out hE hm fk_X12_20 dX12_back_g1.2.2.2.2.1 ?_
    refine cg_ou_length hE hm fk_X12_192 dX12_back_g1.2.2.2.2.2.1 ?_
    refine cp_ft_tapeLength hE hm fk_X12_13 dX12_back_g1.2.2.2.2.2.2.1 h (fun s2 h => ?_)
    refine r_aload_n hE 0 dX12_back_g1.2.2.2.2.2.2.2.1 rfl rfl ?_
    refine cg_ft_tapeLength hE hm fk_X12_13 dX12_back_g1.2.2.2.2.2.2.2.2.1 ?_
    exact c_iret hE hm hF dX12_back_g1.2.2.2.2.2.2.2.2.2 h
  · refine r_ldc (v := (-2000000003 : Int32)) hE dX12_back_g0.2.2.2.2.2.1 (gTb_2 (List.mem_of_getElem? (i := 200) rfl) rfl) ?_
    exact c_iret hE hm hF dX12_back_g0.2.2.2.2.2.2.1 h
/-! ft_further -/
def wc_ft_further (post : CS → Int64 → Prop) (σ : CS) (a1 : Int64) (a3 : Int32) (a4 : Int32) : Prop := wc_rk_begin (fun (s1 : CS) => wc_SX6_whole (fun (s2 : CS) (r3 : Int64) => wc_SX6_whole (fun (s4 : CS) (r5 : Int64) => wc_rk_times (fun (s6 : CS) (r7 : Int64) => wc_rk_plus (fun (s8 : CS) (r9 : Int64) => post s8 r9) s6 a1 r7) s4 r3 r5) s2 a3) s1 a4) σ
set_option maxRecDepth 20000 in
theorem kc_ft_further {l : Launch} {D : va_G} {G : gAd} {post : CS → Int64 → Prop} {σ : CS} {a1 : Int64} {a3 : Int32} {a4 : Int32} (h : wc_ft_further post σ a1 a3 a4) : cMet l D G yX12_further cX12_further 5 (some .long) 3 [.ref (G.1 200), .long a1, .int a3, .int a4] σ (pL post) := by
  unfold wc_ft_further at h
  refine c_enter (own := RX12) (by decide +kernel) rfl [(0, .ref (G.1 200)), (1, .long a1), (3, .int a3), (4, .int a4)] rfl (Nat.le_of_ble_eq_true rfl) ?_
  intro E hE hm hF
  have hN := hm.2.2.2.2.2.2.1
  refine r_aload_n hE 0 dX12_further_g0.1 rfl rfl ?_
  refine cg_ft_reckoner hE hm fk_X12_62 dX12_further_g0.2.1 ?_
  refine c_callVv hE hm [] [] ck_X12_149 (cr_rk hm rfl) (kc_rk_begin h) (by decide) rfl rfl (Nat.le_of_ble_eq_true rfl) dX12_further_g0.2.2.1 (fun s1 h => ?_)
  refine r_aload_n hE 0 dX12_further_g0.2.2.2.1 rfl rfl ?_
  refine cg_ft_reckoner hE hm fk_X12_62 dX12_further_g0.2.2.2.2.1 ?_
  refine r_lload_n hE 1 dX12_further_g0.2.2.2.2.2.1 rfl rfl ?_
  refine r_aload_n hE 0 dX12_further_g0.2.2.2.2.2.2.1 rfl rfl ?_
  refine cg_ft_reckoner hE hm fk_X12_62 dX12_further_g0.2.2.2.2.2.2.2.1 ?_
  refine r_iload hE 3 dX12_further_g0.2.2.2.2.2.2.2.2.1 rfl ?_
  refine c_callSl hE hm [.int a4] [.ref (G.1 800), .long a1, .ref (G.1 800)] ck_X12_295 (kc_SX6_whole h) (by decide) rfl rfl (Nat.le_of_ble_eq_true rfl) dX12_further_g0.2.2.2.2.2.2.2.2.2.1 (fun s2 r3 h => ?_)
  refine r_iload_n hE 2 dX12_further_g0.2.2.2.2.2.2.2.2.2.2.1 rfl rfl ?_
  refine c_callSl hE hm [.int a3] [.long r3, .ref (G.1 800), .long a1, .ref (G.1 800)] ck_X12_295 (kc_SX6_whole h) (by decide) rfl rfl (Nat.le_of_ble_eq_true rfl) dX12_further_g0.2.2.2.2.2.2.2.2.2.2.2.1 (fun s4 r5 h => ?_)
  refine c_callVl hE hm [.long r3, .long r5] [.long a1, .ref (G.1 800)] ck_X12_299 (cr_rk hm rfl) (kc_rk_times h) (by decide) rfl rfl (Nat.le_of_ble_eq_true rfl) dX12_further_g0.2.2.2.2.2.2.2.2.2.2.2.2.1 (fun s6 r7 h => ?_)
  refine c_callVl hE hm [.long a1, .long r7] [] ck_X12_302 (cr_rk hm rfl) (kc_rk_plus h) (by decide) rfl rfl (Nat.le_of_ble_eq_true rfl) dX12_further_g0.2.2.2.2.2.2.2.2.2.2.2.2.2.1 (fun s8 r9 h => ?_)
  exact c_lret hE hm hF dX12_further_g0.2.2.2.2.2.2.2.2.2.2.2.2.2.2 h
/-! ft_strays -/
def wc_ft_strays_3 (post : CS → Int32 → Prop) : Nat → CS → Int64 → Int32 → Int32 → Int32 → Prop
  | 0, _, _, _, _, _ => False
  | n + 1, σ, v1, v3, v4, v5 => ((v4 < v5) → (post σ (0 : Int32))) ∧ ((¬ (v4 < v5)) → (wc_ft_further (fun (s1 : CS) (r2 : Int64) => (((c_rk_failure s1) = (0 : Int32)) → (∀ x3 : Int32, x3 = v5 + (1 : Int32) → wc_ft_strays_3 post n s1 v1 v3 v4 x3)) ∧ ((¬ ((c_rk_failure s1) = (0 : Int32))) → (post s1 (1 : Int32)))) σ v1 v3 v5))
set_option maxRecDepth 20000 in
theorem kc_ft_strays_3  {E : gEnv} {l : Launch} {D : va_G} {G : gAd} {post : CS → Int32 → Prop} (hE : gOK E cX12_strays RX12 (some .boolean) 4) (hm : cOK E l D G (pI post) 6) (hF : gFin E) : ∀ (n0 : Nat) (σ : CS) (v1 : Int64) (v3 : Int32) (v4 : Int32) (v5 : Int32), wc_ft_strays_3 post n0 σ v1 v3 v4 v5 → GW E (cW G σ) 3 [(0, .ref (G.1 200)), (1, .long v1), (3, .int v3), (4, .int v4), (5, .int v5)] [] := by
  intro n0
  induction n0 with
  | zero => intro σ v1 v3 v4 v5 h; exact h.elim
  | succ n0 ih =>
    intro σ v1 v3 v4 v5 h
    rw [wc_ft_strays_3] at h
    have hN := hm.2.2.2.2.2.2.1
    refine r_iload hE 4 dX12_strays_g0.2.2.1 rfl ?_
    refine r_iload hE 3 dX12_strays_g0.2.2.2.1 rfl ?_
    refine r_icmp_gt hE 37 dX12_strays_g0.2.2.2.2.1 (by decide) h (fun h => ?_) (fun h => ?_)
    · refine r_iconst (v := (0 : Int32)) hE dX12_strays_g1.2.2.2.1 (by decide) ?_
      exact c_zret hE hm hF dX12_strays_g1.2.2.2.2 (Or.inl rfl) h
    · refine r_aload_n hE 0 dX12_strays_g0.2.2.2.2.2.1 rfl rfl ?_
      refine r_lload_n hE 1 dX12_strays_g0.2.2.2.2.2.2.1 rfl rfl ?_
      refine r_iload_n hE 2 dX12_strays_g0.2.2.2.2.2.2.2.1 rfl rfl ?_
      refine r_iload hE 4 dX12_strays_g0.2.2.2.2.2.2.2.2.1 rfl ?_
      refine c_callVl hE hm [.long v1, .int v3, .int v5] [] ck_X12_280 (cr_ft hm rfl) (kc_ft_further h) (by decide) rfl rfl (Nat.le_of_ble_eq_true rfl) dX12_strays_g0.2.2.2.2.2.2.2.2.2.1 (fun s1 r2 h => ?_)
      refine r_pop2 hE dX12_strays_g0.2.2.2.2.2.2.2.2.2.2.1 rfl ?_
      refine r_aload_n hE 0 dX12_strays_g0.2.2.2.2.2.2.2.2.2.2.2.1 rfl rfl ?_
      refine cg_ft_reckoner hE hm fk_X12_62 dX12_strays_g0.2.2.2.2.2.2.2.2.2.2.2.2.1 ?_
      refine cg_rk_failure hE hm fk_X12_156 dX12_strays_g0.2.2.2.2.2.2.2.2.2.2.2.2.2.1 ?_
      refine r_if_eq hE 31 dX12_strays_g0.2.2.2.2.2.2.2.2.2.2.2.2.2.2.1 (by decide) h (fun h => ?_) (fun h => ?_)
      · obtain ⟨x3, ex3⟩ : ∃ z : Int32, z = v5 + (1 : Int32) := ⟨_, rfl⟩
        have h := h x3 ex3
        refine r_iinc (v := x3) hE [(5, .int x3), (0, .ref (G.1 200)), (1, .long v1), (3, .int v3), (4, .int v4)] 4 dX12_strays_g1.2.1 rfl (by rw [ex3]; rfl) hN (by decide) rfl ?_
        refine r_goto hE 3 dX12_strays_g1.2.2.1 (by decide) ?_
        refine r_pick [1, 2, 3, 4, 0] rfl ?_
        exact ih _ _ _ _ _ h
      · refine r_iconst (v := (1 : Int32)) hE dX12_strays_g0.2.2.2.2.2.2.2.2.2.2.2.2.2.2.2 (by decide) ?_
        exact c_zret hE hm hF dX12_strays_g1.1 (Or.inr rfl) h
def wc_ft_strays (post : CS → Int32 → Prop) (σ : CS) (a1 : Int64) (a3 : Int32) (a4 : Int32) : Prop := ∃ k : Nat, wc_ft_strays_3 post k σ a1 a3 a4 (0 : Int32)
set_option maxRecDepth 20000 in
theorem kc_ft_strays {l : Launch} {D : va_G} {G : gAd} {post : CS → Int32 → Prop} {σ : CS} {a1 : Int64} {a3 : Int32} {a4 : Int32} (h : wc_ft_strays post σ a1 a3 a4) : cMet l D G yX12_strays cX12_strays 6 (some .boolean) 4 [.ref (G.1 200), .long a1, .int a3, .int a4] σ (pI post) := by
  unfold wc_ft_strays at h
  refine c_enter (own := RX12) (by decide +kernel) rfl [(0, .ref (G.1 200)), (1, .long a1), (3, .int a3), (4, .int a4)] rfl (Nat.le_of_ble_eq_true rfl) ?_
  intro E hE hm hF
  have hN := hm.2.2.2.2.2.2.1
  refine r_iconst (v := (0 : Int32)) hE dX12_strays_g0.1 (by decide) ?_
  refine r_istore hE [(5, .int (0 : Int32)), (0, .ref (G.1 200)), (1, .long a1), (3, .int a3), (4, .int a4)] dX12_strays_g0.2.1 hN (by decide) rfl ?_
  refine r_pick [1, 2, 3, 4, 0] rfl ?_
  obtain ⟨k, h⟩ := h
  exact kc_ft_strays_3 hE hm hF k _ _ _ _ _ h
/-! fr_remember -/
def wc_fr_remember_2 (post : CS → Prop) : Nat → CS → Int32 → Prop
  | 0, _, _ => False
  | n + 1, σ, v1 => (((12 : Int32) ≤ v1) → (post σ)) ∧ ((¬ ((12 : Int32) ≤ v1)) → (vp_in v1 12 ∧ (vp_in v1 12 ∧ (isB (c_fr_moved σ v1.toNatClampNeg) ∧ (∀ s1 : CS, s1 = c_fr_wasMoved_s σ v1.toNatClampNeg (c_fr_moved σ v1.toNatClampNeg) → vp_in v1 12 ∧ (vp_in v1 12 ∧ (∀ s2 : CS, s2 = c_fr_wasX_s s1 v1.toNatClampNeg (c_fr_toX s1 v1.toNatClampNeg) → vp_in v1 12 ∧ (vp_in v1 12 ∧ (∀ s3 : CS, s3 = c_fr_wasY_s s2 v1.toNatClampNeg (c_fr_toY s2 v1.toNatClampNeg) → ∀ x4 : Int32, x4 = v1 + (1 : Int32) → wc_fr_remember_2 post n s3 x4)))))))))
set_option maxRecDepth 20000 in
theorem kc_fr_remember_2  {E : gEnv} {l : Launch} {D : va_G} {G : gAd} {post : CS → Prop} (hE : gOK E cX2_remember RX2 none 1) (hm : cOK E l D G (pV post) 2) (hF : gFin E) : ∀ (n0 : Nat) (σ : CS) (v1 : Int32), wc_fr_remember_2 post n0 σ v1 → GW E (cW G σ) 2 [(0, .ref (G.1 1000)), (1, .int v1)] [] := by
  intro n0
  induction n0 with
  | zero => intro σ v1 h; exact h.elim
  | succ n0 ih =>
    intro σ v1 h
    rw [wc_fr_remember_2] at h
    have hN := hm.2.2.2.2.2.2.1
    refine r_iload_n hE 1 dX2_remember_g0.2.2.1 rfl rfl ?_
    refine r_bipush (v := (12 : Int32)) hE dX2_remember_g0.2.2.2.1 (by decide) ?_
    refine r_icmp_ge hE 50 dX2_remember_g0.2.2.2.2.1 (by decide) h (fun h => ?_) (fun h => ?_)
    · exact c_vret hE hm hF dX2_remember_g1.2.2.2.2.2.2.2.2.2.2.2.2.2.2.2 h
    · refine r_aload_n hE 0 dX2_remember_g0.2.2.2.2.2.1 rfl rfl ?_
      refine cg_fr_wasMoved hE hm fk_X2_22 dX2_remember_g0.2.2.2.2.2.2.1 ?_
      refine r_iload_n hE 1 dX2_remember_g0.2.2.2.2.2.2.2.1 rfl rfl ?_
      refine r_aload_n hE 0 dX2_remember_g0.2.2.2.2.2.2.2.2.1 rfl rfl ?_
      refine cg_fr_moved hE hm fk_X2_9 dX2_remember_g0.2.2.2.2.2.2.2.2.2.1 ?_
      refine r_iload_n hE 1 dX2_remember_g0.2.2.2.2.2.2.2.2.2.2.1 rfl rfl ?_
      obtain ⟨hi, h⟩ := h
      refine cl_fr_moved hE hm dX2_remember_g0.2.2.2.2.2.2.2.2.2.2.2.1 hi ?_
      obtain ⟨hi, h⟩ := h
      obtain ⟨hb, h⟩ := h
      refine cs_fr_wasMoved hE hm dX2_remember_g0.2.2.2.2.2.2.2.2.2.2.2.2.1 hi hb h (fun s1 h => ?_)
      refine r_aload_n hE 0 dX2_remember_g0.2.2.2.2.2.2.2.2.2.2.2.2.2.1 rfl rfl ?_
      refine cg_fr_wasX hE hm fk_X2_25 dX2_remember_g0.2.2.2.2.2.2.2.2.2.2.2.2.2.2.1 ?_
      refine r_iload_n hE 1 dX2_remember_g0.2.2.2.2.2.2.2.2.2.2.2.2.2.2.2 rfl rfl ?_
      refine r_aload_n hE 0 dX2_remember_g1.1 rfl rfl ?_
      refine cg_fr_toX hE hm fk_X2_15 dX2_remember_g1.2.1 ?_
      refine r_iload_n hE 1 dX2_remember_g1.2.2.1 rfl rfl ?_
      obtain ⟨hi, h⟩ := h
      refine cl_fr_toX hE hm dX2_remember_g1.2.2.2.1 hi ?_
      obtain ⟨hi, h⟩ := h
      refine cs_fr_wasX hE hm dX2_remember_g1.2.2.2.2.1 hi h (fun s2 h => ?_)
      refine r_aload_n hE 0 dX2_remember_g1.2.2.2.2.2.1 rfl rfl ?_
      refine cg_fr_wasY hE hm fk_X2_28 dX2_remember_g1.2.2.2.2.2.2.1 ?_
      refine r_iload_n hE 1 dX2_remember_g1.2.2.2.2.2.2.2.1 rfl rfl ?_
      refine r_aload_n hE 0 dX2_remember_g1.2.2.2.2.2.2.2.2.1 rfl rfl ?_
      refine cg_fr_toY hE hm fk_X2_19 dX2_remember_g1.2.2.2.2.2.2.2.2.2.1 ?_
      refine r_iload_n hE 1 dX2_remember_g1.2.2.2.2.2.2.2.2.2.2.1 rfl rfl ?_
      obtain ⟨hi, h⟩ := h
      refine cl_fr_toY hE hm dX2_remember_g1.2.2.2.2.2.2.2.2.2.2.2.1 hi ?_
      obtain ⟨hi, h⟩ := h
      refine cs_fr_wasY hE hm dX2_remember_g1.2.2.2.2.2.2.2.2.2.2.2.2.1 hi h (fun s3 h => ?_)
      obtain ⟨x4, ex4⟩ : ∃ z : Int32, z = v1 + (1 : Int32) := ⟨_, rfl⟩
      have h := h x4 ex4
      refine r_iinc (v := x4) hE [(1, .int x4), (0, .ref (G.1 1000))] 1 dX2_remember_g1.2.2.2.2.2.2.2.2.2.2.2.2.2.1 rfl (by rw [ex4]; rfl) hN (by decide) rfl ?_
      refine r_goto hE 2 dX2_remember_g1.2.2.2.2.2.2.2.2.2.2.2.2.2.2.1 (by decide) ?_
      refine r_pick [1, 0] rfl ?_
      exact ih _ _ h
def wc_fr_remember (post : CS → Prop) (σ : CS) : Prop := ∃ k : Nat, wc_fr_remember_2 post k σ (0 : Int32)
set_option maxRecDepth 20000 in
theorem kc_fr_remember {l : Launch} {D : va_G} {G : gAd} {post : CS → Prop} {σ : CS} (h : wc_fr_remember post σ) : cMet l D G yX2_remember cX2_remember 2 none 1 [.ref (G.1 1000)] σ (pV post) := by
  unfold wc_fr_remember at h
  refine c_enter (own := RX2) (by decide +kernel) rfl [(0, .ref (G.1 1000))] rfl (Nat.le_of_ble_eq_true rfl) ?_
  intro E hE hm hF
  have hN := hm.2.2.2.2.2.2.1
  refine r_iconst (v := (0 : Int32)) hE dX2_remember_g0.1 (by decide) ?_
  refine r_istore_n hE [(1, .int (0 : Int32)), (0, .ref (G.1 1000))] dX2_remember_g0.2.1 rfl hN (by decide) rfl ?_
  refine r_pick [1, 0] rfl ?_
  obtain ⟨k, h⟩ := h
  exact kc_fr_remember_2 hE hm hF k _ _ h
/-! fr_restore -/
def wc_fr_restore_2 (post : CS → Prop) : Nat → CS → Int32 → Prop
  | 0, _, _ => False
  | n + 1, σ, v1 => (((12 : Int32) ≤ v1) → (post σ)) ∧ ((¬ ((12 : Int32) ≤ v1)) → (vp_in v1 12 ∧ (vp_in v1 12 ∧ (isB (c_fr_wasMoved σ v1.toNatClampNeg) ∧ (∀ s1 : CS, s1 = c_fr_moved_s σ v1.toNatClampNeg (c_fr_wasMoved σ v1.toNatClampNeg) → vp_in v1 12 ∧ (vp_in v1 12 ∧ (∀ s2 : CS, s2 = c_fr_toX_s s1 v1.toNatClampNeg (c_fr_wasX s1 v1.toNatClampNeg) → vp_in v1 12 ∧ (vp_in v1 12 ∧ (∀ s3 : CS, s3 = c_fr_toY_s s2 v1.toNatClampNeg (c_fr_wasY s2 v1.toNatClampNeg) → ∀ x4 : Int32, x4 = v1 + (1 : Int32) → wc_fr_restore_2 post n s3 x4)))))))))
set_option maxRecDepth 20000 in
theorem kc_fr_restore_2  {E : gEnv} {l : Launch} {D : va_G} {G : gAd} {post : CS → Prop} (hE : gOK E cX2_restore RX2 none 1) (hm : cOK E l D G (pV post) 2) (hF : gFin E) : ∀ (n0 : Nat) (σ : CS) (v1 : Int32), wc_fr_restore_2 post n0 σ v1 → GW E (cW G σ) 2 [(0, .ref (G.1 1000)), (1, .int v1)] [] := by
  intro n0
  induction n0 with
  | zero => intro σ v1 h; exact h.elim
  | succ n0 ih =>
    intro σ v1 h
    rw [wc_fr_restore_2] at h
    have hN := hm.2.2.2.2.2.2.1
    refine r_iload_n hE 1 dX2_restore_g0.2.2.1 rfl rfl ?_
    refine r_bipush (v := (12 : Int32)) hE dX2_restore_g0.2.2.2.1 (by decide) ?_
    refine r_icmp_ge hE 50 dX2_restore_g0.2.2.2.2.1 (by decide) h (fun h => ?_) (fun h => ?_)
    · exact c_vret hE hm hF dX2_restore_g1.2.2.2.2.2.2.2.2.2.2.2.2.2.2.2 h
    · refine r_aload_n hE 0 dX2_restore_g0.2.2.2.2.2.1 rfl rfl ?_
      refine cg_fr_moved hE hm fk_X2_9 dX2_restore_g0.2.2.2.2.2.2.1 ?_
      refine r_iload_n hE 1 dX2_restore_g0.2.2.2.2.2.2.2.1 rfl rfl ?_
      refine r_aload_n hE 0 dX2_restore_g0.2.2.2.2.2.2.2.2.1 rfl rfl ?_
      refine cg_fr_wasMoved hE hm fk_X2_22 dX2_restore_g0.2.2.2.2.2.2.2.2.2.1 ?_
      refine r_iload_n hE 1 dX2_restore_g0.2.2.2.2.2.2.2.2.2.2.1 rfl rfl ?_
      obtain ⟨hi, h⟩ := h
      refine cl_fr_wasMoved hE hm dX2_restore_g0.2.2.2.2.2.2.2.2.2.2.2.1 hi ?_
      obtain ⟨hi, h⟩ := h
      obtain ⟨hb, h⟩ := h
      refine cs_fr_moved hE hm dX2_restore_g0.2.2.2.2.2.2.2.2.2.2.2.2.1 hi hb h (fun s1 h => ?_)
      refine r_aload_n hE 0 dX2_restore_g0.2.2.2.2.2.2.2.2.2.2.2.2.2.1 rfl rfl ?_
      refine cg_fr_toX hE hm fk_X2_15 dX2_restore_g0.2.2.2.2.2.2.2.2.2.2.2.2.2.2.1 ?_
      refine r_iload_n hE 1 dX2_restore_g0.2.2.2.2.2.2.2.2.2.2.2.2.2.2.2 rfl rfl ?_
      refine r_aload_n hE 0 dX2_restore_g1.1 rfl rfl ?_
      refine cg_fr_wasX hE hm fk_X2_25 dX2_restore_g1.2.1 ?_
      refine r_iload_n hE 1 dX2_restore_g1.2.2.1 rfl rfl ?_
      obtain ⟨hi, h⟩ := h
      refine cl_fr_wasX hE hm dX2_restore_g1.2.2.2.1 hi ?_
      obtain ⟨hi, h⟩ := h
      refine cs_fr_toX hE hm dX2_restore_g1.2.2.2.2.1 hi h (fun s2 h => ?_)
      refine r_aload_n hE 0 dX2_restore_g1.2.2.2.2.2.1 rfl rfl ?_
      refine cg_fr_toY hE hm fk_X2_19 dX2_restore_g1.2.2.2.2.2.2.1 ?_
      refine r_iload_n hE 1 dX2_restore_g1.2.2.2.2.2.2.2.1 rfl rfl ?_
      refine r_aload_n hE 0 dX2_restore_g1.2.2.2.2.2.2.2.2.1 rfl rfl ?_
      refine cg_fr_wasY hE hm fk_X2_28 dX2_restore_g1.2.2.2.2.2.2.2.2.2.1 ?_
      refine r_iload_n hE 1 dX2_restore_g1.2.2.2.2.2.2.2.2.2.2.1 rfl rfl ?_
      obtain ⟨hi, h⟩ := h
      refine cl_fr_wasY hE hm dX2_restore_g1.2.2.2.2.2.2.2.2.2.2.2.1 hi ?_
      obtain ⟨hi, h⟩ := h
      refine cs_fr_toY hE hm dX2_restore_g1.2.2.2.2.2.2.2.2.2.2.2.2.1 hi h (fun s3 h => ?_)
      obtain ⟨x4, ex4⟩ : ∃ z : Int32, z = v1 + (1 : Int32) := ⟨_, rfl⟩
      have h := h x4 ex4
      refine r_iinc (v := x4) hE [(1, .int x4), (0, .ref (G.1 1000))] 1 dX2_restore_g1.2.2.2.2.2.2.2.2.2.2.2.2.2.1 rfl (by rw [ex4]; rfl) hN (by decide) rfl ?_
      refine r_goto hE 2 dX2_restore_g1.2.2.2.2.2.2.2.2.2.2.2.2.2.2.1 (by decide) ?_
      refine r_pick [1, 0] rfl ?_
      exact ih _ _ h
def wc_fr_restore (post : CS → Prop) (σ : CS) : Prop := ∃ k : Nat, wc_fr_restore_2 post k σ (0 : Int32)
set_option maxRecDepth 20000 in
theorem kc_fr_restore {l : Launch} {D : va_G} {G : gAd} {post : CS → Prop} {σ : CS} (h : wc_fr_restore post σ) : cMet l D G yX2_restore cX2_restore 2 none 1 [.ref (G.1 1000)] σ (pV post) := by
  unfold wc_fr_restore at h
  refine c_enter (own := RX2) (by decide +kernel) rfl [(0, .ref (G.1 1000))] rfl (Nat.le_of_ble_eq_true rfl) ?_
  intro E hE hm hF
  have hN := hm.2.2.2.2.2.2.1
  refine r_iconst (v := (0 : Int32)) hE dX2_restore_g0.1 (by decide) ?_
  refine r_istore_n hE [(1, .int (0 : Int32)), (0, .ref (G.1 1000))] dX2_restore_g0.2.1 rfl hN (by decide) rfl ?_
  refine r_pick [1, 0] rfl ?_
  obtain ⟨k, h⟩ := h
  exact kc_fr_restore_2 hE hm hF k _ _ h
/-! fr_thingAt -/
def wc_fr_thingAt (post : CS → Int32 → Prop) (σ : CS) (a1 : Int32) : Prop := wc_SX12_inside (fun (s1 : CS) (r2 : Int32) => ((r2 = (0 : Int32)) → (post s1 (-1 : Int32))) ∧ ((¬ (r2 = (0 : Int32))) → ((((12 : Int32) ≤ a1) → (post s1 (-1 : Int32))) ∧ ((¬ ((12 : Int32) ≤ a1)) → (vp_in a1 12 ∧ (post s1 (c_fr_thing s1 a1.toNatClampNeg))))))) σ a1 (c_fr_came σ)
set_option maxRecDepth 20000 in
theorem kc_fr_thingAt {l : Launch} {D : va_G} {G : gAd} {post : CS → Int32 → Prop} {σ : CS} {a1 : Int32} (h : wc_fr_thingAt post σ a1) : cMet l D G yX2_thingAt cX2_thingAt 2 (some .int) 2 [.ref (G.1 1000), .int a1] σ (pI post) := by
  unfold wc_fr_thingAt at h
  refine c_enter (own := RX2) (by decide +kernel) rfl [(0, .ref (G.1 1000)), (1, .int a1)] rfl (Nat.le_of_ble_eq_true rfl) ?_
  intro E hE hm hF
  have hN := hm.2.2.2.2.2.2.1
  refine r_iload_n hE 1 dX2_thingAt_g0.1 rfl rfl ?_
  refine r_aload_n hE 0 dX2_thingAt_g0.2.1 rfl rfl ?_
  refine cg_fr_came hE hm fk_X2_35 dX2_thingAt_g0.2.2.1 ?_
  refine c_callSNi hE hm [.int a1, .int (c_fr_came σ)] [] ck_X2_39 cw_X2_39 (kc_SX12_inside h) (by decide) rfl rfl (Nat.le_of_ble_eq_true rfl) dX2_thingAt_g0.2.2.2.1 (fun s1 r2 h => ?_)
  refine r_if_eq hE 26 dX2_thingAt_g0.2.2.2.2.1 (by decide) h (fun h => ?_) (fun h => ?_)
  · refine r_iconst (v := (-1 : Int32)) hE dX2_thingAt_g0.2.2.2.2.2.2.2.2.2.2.2.2.2.1 (by decide) ?_
    exact c_iret hE hm hF dX2_thingAt_g0.2.2.2.2.2.2.2.2.2.2.2.2.2.2 h
  · refine r_iload_n hE 1 dX2_thingAt_g0.2.2.2.2.2.1 rfl rfl ?_
    refine r_bipush (v := (12 : Int32)) hE dX2_thingAt_g0.2.2.2.2.2.2.1 (by decide) ?_
    refine r_icmp_ge hE 26 dX2_thingAt_g0.2.2.2.2.2.2.2.1 (by decide) h (fun h => ?_) (fun h => ?_)
    · refine r_iconst (v := (-1 : Int32)) hE dX2_thingAt_g0.2.2.2.2.2.2.2.2.2.2.2.2.2.1 (by decide) ?_
      exact c_iret hE hm hF dX2_thingAt_g0.2.2.2.2.2.2.2.2.2.2.2.2.2.2 h
    · refine r_aload_n hE 0 dX2_thingAt_g0.2.2.2.2.2.2.2.2.1 rfl rfl ?_
      refine cg_fr_thing hE hm fk_X2_31 dX2_thingAt_g0.2.2.2.2.2.2.2.2.2.1 ?_
      refine r_iload_n hE 1 dX2_thingAt_g0.2.2.2.2.2.2.2.2.2.2.1 rfl rfl ?_
      obtain ⟨hi, h⟩ := h
      refine cl_fr_thing hE hm dX2_thingAt_g0.2.2.2.2.2.2.2.2.2.2.2.1 hi ?_
      refine r_goto hE 27 dX2_thingAt_g0.2.2.2.2.2.2.2.2.2.2.2.2.1 (by decide) ?_
      exact c_iret hE hm hF dX2_thingAt_g0.2.2.2.2.2.2.2.2.2.2.2.2.2.2 h
/-! ft_sweep -/
def wc_ft_sweep_254 (post : CS → Int32 → Prop) (σ : CS) (v10 : Int32) : Prop := wc_fr_restore (fun (s1 : CS) => post s1 v10) σ
set_option maxRecDepth 20000 in
theorem kc_ft_sweep_254  {E : gEnv} {l : Launch} {D : va_G} {G : gAd} {post : CS → Int32 → Prop} (hE : gOK E cX12_sweep RX12 (some .int) 8) (hm : cOK E l D G (pI post) 12) (hF : gFin E) (σ : CS) (v10 : Int32) (h : wc_ft_sweep_254 post σ v10) : GW E (cW G σ) 254 [(0, .ref (G.1 200)), (10, .int v10)] [] := by
  unfold wc_ft_sweep_254 at h
  have hN := hm.2.2.2.2.2.2.1
  refine r_aload_n hE 0 dX12_sweep_g8.2.1 rfl rfl ?_
  refine cg_ft_frees hE hm fk_X12_76 dX12_sweep_g8.2.2.1 ?_
  refine c_callVv hE hm [] [] ck_X12_284 (cr_fr hm rfl) (kc_fr_restore h) (by decide) rfl rfl (Nat.le_of_ble_eq_true rfl) dX12_sweep_g8.2.2.2.1 (fun s1 h => ?_)
  refine r_iload hE 1 dX12_sweep_g8.2.2.2.2.1 rfl ?_
  exact c_iret hE hm hF dX12_sweep_g8.2.2.2.2.2 h
def wc_ft_sweep_245 (post : CS → Int32 → Prop) (lp147 : CS → Int32 → Int32 → Int32 → Int32 → Int32 → Int64 → Int64 → Int32 → Int32 → Prop) (σ : CS) (v1 : Int32) (v2 : Int32) (v3 : Int32) (v4 : Int32) (v5 : Int32) (v6 : Int64) (v8 : Int64) (v11 : Int32) (t0 : Int32) (t1 : Int32) : Prop := ∀ x2 : Int32, x2 = t0 + t1 → ∀ x3 : Int32, x3 = v11 + (1 : Int32) → lp147 σ v1 v2 v3 v4 v5 v6 v8 x2 x3
set_option maxRecDepth 20000 in
theorem kc_ft_sweep_245  {E : gEnv} {l : Launch} {D : va_G} {G : gAd} {post : CS → Int32 → Prop} (hE : gOK E cX12_sweep RX12 (some .int) 8) (hm : cOK E l D G (pI post) 12) (hF : gFin E) {lp147 : CS → Int32 → Int32 → Int32 → Int32 → Int32 → Int64 → Int64 → Int32 → Int32 → Prop} (hl147 : ∀ (σ : CS) (v1 : Int32) (v2 : Int32) (v3 : Int32) (v4 : Int32) (v5 : Int32) (v6 : Int64) (v8 : Int64) (v10 : Int32) (v11 : Int32), lp147 σ v1 v2 v3 v4 v5 v6 v8 v10 v11 → GW E (cW G σ) 147 [(0, .ref (G.1 200)), (1, .int v1), (2, .int v2), (3, .int v3), (4, .int v4), (5, .int v5), (6, .long v6), (8, .long v8), (10, .int v10), (11, .int v11)] []) (σ : CS) (v1 : Int32) (v2 : Int32) (v3 : Int32) (v4 : Int32) (v5 : Int32) (v6 : Int64) (v8 : Int64) (v11 : Int32) (t0 : Int32) (t1 : Int32) (h : wc_ft_sweep_245 post lp147 σ v1 v2 v3 v4 v5 v6 v8 v11 t0 t1) : GW E (cW G σ) 245 [(0, .ref (G.1 200)), (1, .int v1), (2, .int v2), (3, .int v3), (4, .int v4), (5, .int v5), (6, .long v6), (8, .long v8), (11, .int v11)] [.int t1, .int t0] := by
  unfold wc_ft_sweep_245 at h
  have hN := hm.2.2.2.2.2.2.1
  refine r_iadd hE dX12_sweep_g7.2.2.2.2.2.2.2.2.2.2.2.2.2.1 ?_
  refine r_topi h (fun x2 ex2 h => ?_)
  refine r_istore hE [(10, .int x2), (0, .ref (G.1 200)), (1, .int v1), (2, .int v2), (3, .int v3), (4, .int v4), (5, .int v5), (6, .long v6), (8, .long v8), (11, .int v11)] dX12_sweep_g7.2.2.2.2.2.2.2.2.2.2.2.2.2.2.1 hN (by decide) rfl ?_
  obtain ⟨x3, ex3⟩ : ∃ z : Int32, z = v11 + (1 : Int32) := ⟨_, rfl⟩
  have h := h x3 ex3
  refine r_iinc (v := x3) hE [(11, .int x3), (10, .int x2), (0, .ref (G.1 200)), (1, .int v1), (2, .int v2), (3, .int v3), (4, .int v4), (5, .int v5), (6, .long v6), (8, .long v8)] 9 dX12_sweep_g7.2.2.2.2.2.2.2.2.2.2.2.2.2.2.2 rfl (by rw [ex3]; rfl) hN (by decide) rfl ?_
  refine r_goto hE 147 dX12_sweep_g8.1 (by decide) ?_
  refine r_pick [2, 3, 4, 5, 6, 7, 8, 9, 1, 0] rfl ?_
  exact hl147 _ _ _ _ _ _ _ _ _ _ h
def wc_ft_sweep_147 (post : CS → Int32 → Prop) : Nat → CS → Int32 → Int32 → Int32 → Int32 → Int32 → Int64 → Int64 → Int32 → Int32 → Prop
  | 0, _, _, _, _, _, _, _, _, _, _ => False
  | n + 1, σ, v1, v2, v3, v4, v5, v6, v8, v10, v11 => ((v4 < v11) → (wc_ft_sweep_254 post σ v10)) ∧ ((¬ (v4 < v11)) → ((((21 : Int32) ≤ v11) → (wc_ft_sweep_254 post σ v10)) ∧ ((¬ ((21 : Int32) ≤ v11)) → (wc_ft_further (fun (s4 : CS) (r5 : Int64) => wc_ft_further (fun (s6 : CS) (r7 : Int64) => wc_fr_moveTo (fun (s8 : CS) => ∀ s9 : CS, s9 = c_ft_runs_s s8 ((c_ft_runs s8) + (1 : Int32)) → c_ft_figure s9 = 300 ∧ (wc_ru_work_fg (fun (s10 : CS) => wc_to_statedAt (fun (s11 : CS) (r12 : Int32) => vp_in v11 21 ∧ (∀ s13 : CS, s13 = c_ft_sweeping_s s11 v11.toNatClampNeg r12 → vp_in v11 21 ∧ (((¬ ((c_ft_sweeping s13 v11.toNatClampNeg) = (1 : Int32))) → (wc_ft_sweep_245 post (fun (ys : CS) (y0 : Int32) (y1 : Int32) (y2 : Int32) (y3 : Int32) (y4 : Int32) (y5 : Int64) (y6 : Int64) (y7 : Int32) (y8 : Int32) => wc_ft_sweep_147 post n ys y0 y1 y2 y3 y4 y5 y6 y7 y8) s13 v1 v2 v3 v4 v5 v6 v8 v11 v10 (0 : Int32))) ∧ (((c_ft_sweeping s13 v11.toNatClampNeg) = (1 : Int32)) → (wc_ft_sweep_245 post (fun (ys : CS) (y0 : Int32) (y1 : Int32) (y2 : Int32) (y3 : Int32) (y4 : Int32) (y5 : Int64) (y6 : Int64) (y7 : Int32) (y8 : Int32) => wc_ft_sweep_147 post n ys y0 y1 y2 y3 y4 y5 y6 y7 y8) s13 v1 v2 v3 v4 v5 v6 v8 v11 v10 (1 : Int32)))))) s10 v5) s9)) s6 v1 r5 r7) s4 v8 v3 v11) σ v6 v2 v11))))
set_option maxRecDepth 20000 in
theorem kc_ft_sweep_147  {E : gEnv} {l : Launch} {D : va_G} {G : gAd} {post : CS → Int32 → Prop} (hE : gOK E cX12_sweep RX12 (some .int) 8) (hm : cOK E l D G (pI post) 12) (hF : gFin E) : ∀ (n0 : Nat) (σ : CS) (v1 : Int32) (v2 : Int32) (v3 : Int32) (v4 : Int32) (v5 : Int32) (v6 : Int64) (v8 : Int64) (v10 : Int32) (v11 : Int32), wc_ft_sweep_147 post n0 σ v1 v2 v3 v4 v5 v6 v8 v10 v11 → GW E (cW G σ) 147 [(0, .ref (G.1 200)), (1, .int v1), (2, .int v2), (3, .int v3), (4, .int v4), (5, .int v5), (6, .long v6), (8, .long v8), (10, .int v10), (11, .int v11)] [] := by
  intro n0
  induction n0 with
  | zero => intro σ v1 v2 v3 v4 v5 v6 v8 v10 v11 h; exact h.elim
  | succ n0 ih =>
    intro σ v1 v2 v3 v4 v5 v6 v8 v10 v11 h
    rw [wc_ft_sweep_147] at h
    have hN := hm.2.2.2.2.2.2.1
    refine r_iload hE 9 dX12_sweep_g4.2.2.2.2.2.2.2.2.2.2.1 rfl ?_
    refine r_iload hE 4 dX12_sweep_g4.2.2.2.2.2.2.2.2.2.2.2.1 rfl ?_
    refine r_icmp_gt hE 254 dX12_sweep_g4.2.2.2.2.2.2.2.2.2.2.2.2.1 (by decide) h (fun h => ?_) (fun h => ?_)
    · refine r_pick [0, 8] rfl ?_
      exact kc_ft_sweep_254 hE hm hF _ _ h
    · refine r_iload hE 9 dX12_sweep_g4.2.2.2.2.2.2.2.2.2.2.2.2.2.1 rfl ?_
      refine r_aload_n hE 0 dX12_sweep_g4.2.2.2.2.2.2.2.2.2.2.2.2.2.2.1 rfl rfl ?_
      refine cg_ft_sweeping hE hm fk_X12_104 dX12_sweep_g4.2.2.2.2.2.2.2.2.2.2.2.2.2.2.2 ?_
      refine cn_ft_sweeping hE hm dX12_sweep_g5.1 ?_
      refine r_icmp_ge hE 254 dX12_sweep_g5.2.1 (by decide) h (fun h => ?_) (fun h => ?_)
      · refine r_pick [0, 8] rfl ?_
        exact kc_ft_sweep_254 hE hm hF _ _ h
      · refine r_aload_n hE 0 dX12_sweep_g5.2.2.1 rfl rfl ?_
        refine cg_ft_frees hE hm fk_X12_76 dX12_sweep_g5.2.2.2.1 ?_
        refine r_iload_n hE 1 dX12_sweep_g5.2.2.2.2.1 rfl rfl ?_
        refine r_aload_n hE 0 dX12_sweep_g5.2.2.2.2.2.1 rfl rfl ?_
        refine r_lload hE 6 dX12_sweep_g5.2.2.2.2.2.2.1 rfl ?_
        refine r_iload_n hE 2 dX12_sweep_g5.2.2.2.2.2.2.2.1 rfl rfl ?_
        refine r_iload hE 9 dX12_sweep_g5.2.2.2.2.2.2.2.2.1 rfl ?_
        refine c_callVl hE hm [.long v6, .int v2, .int v11] [.int v1, .ref (G.1 1000)] ck_X12_280 (cr_ft hm rfl) (kc_ft_further h) (by decide) rfl rfl (Nat.le_of_ble_eq_true rfl) dX12_sweep_g5.2.2.2.2.2.2.2.2.2.1 (fun s4 r5 h => ?_)
        refine r_aload_n hE 0 dX12_sweep_g5.2.2.2.2.2.2.2.2.2.2.1 rfl rfl ?_
        refine r_lload hE 7 dX12_sweep_g5.2.2.2.2.2.2.2.2.2.2.2.1 rfl ?_
        refine r_iload_n hE 3 dX12_sweep_g5.2.2.2.2.2.2.2.2.2.2.2.2.1 rfl rfl ?_
        refine r_iload hE 9 dX12_sweep_g5.2.2.2.2.2.2.2.2.2.2.2.2.2.1 rfl ?_
        refine c_callVl hE hm [.long v8, .int v3, .int v11] [.long r5, .int v1, .ref (G.1 1000)] ck_X12_280 (cr_ft hm rfl) (kc_ft_further h) (by decide) rfl rfl (Nat.le_of_ble_eq_true rfl) dX12_sweep_g5.2.2.2.2.2.2.2.2.2.2.2.2.2.2.1 (fun s6 r7 h => ?_)
        refine c_callVv hE hm [.int v1, .long r5, .long r7] [] ck_X12_159 (cr_fr hm rfl) (kc_fr_moveTo h) (by decide) rfl rfl (Nat.le_of_ble_eq_true rfl) dX12_sweep_g5.2.2.2.2.2.2.2.2.2.2.2.2.2.2.2 (fun s8 h => ?_)
        refine r_aload_n hE 0 dX12_sweep_g6.1 rfl rfl ?_
        refine r_dup hE dX12_sweep_g6.2.1 rfl ?_
        refine cg_ft_runs hE hm fk_X12_101 dX12_sweep_g6.2.2.1 ?_
        refine r_iconst (v := (1 : Int32)) hE dX12_sweep_g6.2.2.2.1 (by decide) ?_
        refine r_iadd hE dX12_sweep_g6.2.2.2.2.1 ?_
        refine cp_ft_runs hE hm fk_X12_101 dX12_sweep_g6.2.2.2.2.2.1 h (fun s9 h => ?_)
        refine r_aload_n hE 0 dX12_sweep_g6.2.2.2.2.2.2.1 rfl rfl ?_
        refine cg_ft_runner hE hm fk_X12_97 dX12_sweep_g6.2.2.2.2.2.2.2.1 ?_
        refine r_aload_n hE 0 dX12_sweep_g6.2.2.2.2.2.2.2.2.1 rfl rfl ?_
        obtain ⟨hj, h⟩ := h
        refine cg_ft_figure hE hm fk_X12_27 dX12_sweep_g6.2.2.2.2.2.2.2.2.2.1 hj ?_
        refine c_callVv hE hm [.ref (G.1 300)] [] ck_X12_171 (cr_ru hm rfl) (kc_ru_work_fg h) (by decide) rfl rfl (Nat.le_of_ble_eq_true rfl) dX12_sweep_g6.2.2.2.2.2.2.2.2.2.2.1 (fun s10 h => ?_)
        refine r_aload_n hE 0 dX12_sweep_g6.2.2.2.2.2.2.2.2.2.2.2.1 rfl rfl ?_
        refine cg_ft_sweeping hE hm fk_X12_104 dX12_sweep_g6.2.2.2.2.2.2.2.2.2.2.2.2.1 ?_
        refine r_iload hE 9 dX12_sweep_g6.2.2.2.2.2.2.2.2.2.2.2.2.2.1 rfl ?_
        refine r_aload_n hE 0 dX12_sweep_g6.2.2.2.2.2.2.2.2.2.2.2.2.2.2.1 rfl rfl ?_
        refine cg_ft_told hE hm fk_X12_83 dX12_sweep_g6.2.2.2.2.2.2.2.2.2.2.2.2.2.2.2 ?_
        refine r_iload hE 5 dX12_sweep_g7.1 rfl ?_
        refine c_callVi hE hm [.int v5] [.int v11, .ref (G.1 216)] ck_X12_229 (cr_to hm rfl) (kc_to_statedAt h) (by decide) rfl rfl (Nat.le_of_ble_eq_true rfl) dX12_sweep_g7.2.1 (fun s11 r12 h => ?_)
        obtain ⟨hi, h⟩ := h
        refine cs_ft_sweeping hE hm dX12_sweep_g7.2.2.1 hi h (fun s13 h => ?_)
        refine r_iload hE 8 dX12_sweep_g7.2.2.2.1 rfl ?_
        refine r_aload_n hE 0 dX12_sweep_g7.2.2.2.2.1 rfl rfl ?_
        refine cg_ft_sweeping hE hm fk_X12_104 dX12_sweep_g7.2.2.2.2.2.1 ?_
        refine r_iload hE 9 dX12_sweep_g7.2.2.2.2.2.2.1 rfl ?_
        obtain ⟨hi, h⟩ := h
        refine cl_ft_sweeping hE hm dX12_sweep_g7.2.2.2.2.2.2.2.1 hi ?_
        refine r_iconst (v := (1 : Int32)) hE dX12_sweep_g7.2.2.2.2.2.2.2.2.1 (by decide) ?_
        refine r_icmp_ne hE 244 dX12_sweep_g7.2.2.2.2.2.2.2.2.2.1 (by decide) h (fun h => ?_) (fun h => ?_)
        · refine r_iconst (v := (0 : Int32)) hE dX12_sweep_g7.2.2.2.2.2.2.2.2.2.2.2.2.1 (by decide) ?_
          refine r_pick [0, 1, 2, 3, 4, 5, 6, 7, 9] rfl ?_
          exact kc_ft_sweep_245 hE hm hF ih _ _ _ _ _ _ _ _ _ _ _ h
        · refine r_iconst (v := (1 : Int32)) hE dX12_sweep_g7.2.2.2.2.2.2.2.2.2.2.1 (by decide) ?_
          refine r_goto hE 245 dX12_sweep_g7.2.2.2.2.2.2.2.2.2.2.2.1 (by decide) ?_
          refine r_pick [0, 1, 2, 3, 4, 5, 6, 7, 9] rfl ?_
          exact kc_ft_sweep_245 hE hm hF ih _ _ _ _ _ _ _ _ _ _ _ h
def wc_ft_sweep (post : CS → Int32 → Prop) (σ : CS) (a1 : Int32) (a2 : Int32) (a3 : Int32) (a4 : Int32) (a5 : Int32) : Prop := wc_SX12_inside (fun (s14 : CS) (r15 : Int32) => ((¬ (r15 = (0 : Int32))) → (wc_fr_thingAt (fun (s16 : CS) (r17 : Int32) => wc_th_partOf (fun (s18 : CS) (r19 : Int64) => wc_fr_thingAt (fun (s20 : CS) (r21 : Int32) => wc_th_partOf (fun (s22 : CS) (r23 : Int64) => ((a4 < (0 : Int32)) → (post s22 (-2000000002 : Int32))) ∧ ((¬ (a4 < (0 : Int32))) → ((((20 : Int32) < a4) → (post s22 (-2000000002 : Int32))) ∧ ((¬ ((20 : Int32) < a4)) → (((a5 < (0 : Int32)) → (post s22 (-2000000002 : Int32))) ∧ ((¬ (a5 < (0 : Int32))) → (wc_ft_strays (fun (s24 : CS) (r25 : Int32) => ((¬ (r25 = (0 : Int32))) → (post s24 (-2000000002 : Int32))) ∧ ((r25 = (0 : Int32)) → (wc_ft_strays (fun (s26 : CS) (r27 : Int32) => ((r27 = (0 : Int32)) → (((¬ ((c_ft_hasFigure s26) = (0 : Int32))) → ((((((c_ft_runs s26) + a4) + (1 : Int32)) ≤ (600 : Int32)) → (wc_fr_remember (fun (s28 : CS) => ∀ s29 : CS, s29 = c_ft_sweepingMany_s s28 (a4 + (1 : Int32)) → ∃ k : Nat, wc_ft_sweep_147 post k s29 a1 a2 a3 a4 a5 r19 r23 (0 : Int32) (0 : Int32)) s26)) ∧ ((¬ ((((c_ft_runs s26) + a4) + (1 : Int32)) ≤ (600 : Int32))) → (post s26 (-2000000004 : Int32))))) ∧ (((c_ft_hasFigure s26) = (0 : Int32)) → (post s26 (-2000000003 : Int32))))) ∧ ((¬ (r27 = (0 : Int32))) → (post s26 (-2000000002 : Int32)))) s24 r23 a3 a4))) s22 r19 a2 a4))))))) s20 r21 (1 : Int32)) s18 a1) s16 r17 (0 : Int32)) s14 a1)) ∧ ((r15 = (0 : Int32)) → (post s14 (-2000000001 : Int32)))) σ a1 (c_fr_came σ)
set_option maxRecDepth 20000 in
theorem kc_ft_sweep {l : Launch} {D : va_G} {G : gAd} {post : CS → Int32 → Prop} {σ : CS} {a1 : Int32} {a2 : Int32} {a3 : Int32} {a4 : Int32} {a5 : Int32} (h : wc_ft_sweep post σ a1 a2 a3 a4 a5) : cMet l D G yX12_sweep cX12_sweep 12 (some .int) 8 [.ref (G.1 200), .int a1, .int a2, .int a3, .int a4, .int a5] σ (pI post) := by
  unfold wc_ft_sweep at h
  refine c_enter (own := RX12) (by decide +kernel) rfl [(0, .ref (G.1 200)), (1, .int a1), (2, .int a2), (3, .int a3), (4, .int a4), (5, .int a5)] rfl (Nat.le_of_ble_eq_true rfl) ?_
  intro E hE hm hF
  have hN := hm.2.2.2.2.2.2.1
  refine r_iload_n hE 1 dX12_sweep_g0.1 rfl rfl ?_
  refine r_aload_n hE 0 dX12_sweep_g0.2.1 rfl rfl ?_
  refine cg_ft_frees hE hm fk_X12_76 dX12_sweep_g0.2.2.1 ?_
  refine cg_fr_came hE hm fk_X12_186 dX12_sweep_g0.2.2.2.1 ?_
  refine c_callSi hE hm [.int a1, .int (c_fr_came σ)] [] ck_X12_145 (kc_SX12_inside h) (by decide) rfl rfl (Nat.le_of_ble_eq_true rfl) dX12_sweep_g0.2.2.2.2.1 (fun s14 r15 h => ?_)
  refine r_if_ne hE 18 dX12_sweep_g0.2.2.2.2.2.1 (by decide) h (fun h => ?_) (fun h => ?_)
  · refine r_aload_n hE 0 dX12_sweep_g0.2.2.2.2.2.2.2.2.1 rfl rfl ?_
    refine cg_ft_things hE hm fk_X12_69 dX12_sweep_g0.2.2.2.2.2.2.2.2.2.1 ?_
    refine r_aload_n hE 0 dX12_sweep_g0.2.2.2.2.2.2.2.2.2.2.1 rfl rfl ?_
    refine cg_ft_frees hE hm fk_X12_76 dX12_sweep_g0.2.2.2.2.2.2.2.2.2.2.2.1 ?_
    refine r_iload_n hE 1 dX12_sweep_g0.2.2.2.2.2.2.2.2.2.2.2.2.1 rfl rfl ?_
    refine c_callVi hE hm [.int a1] [.ref (G.1 900)] ck_X12_270 (cr_fr hm rfl) (kc_fr_thingAt h) (by decide) rfl rfl (Nat.le_of_ble_eq_true rfl) dX12_sweep_g0.2.2.2.2.2.2.2.2.2.2.2.2.2.1 (fun s16 r17 h => ?_)
    refine r_iconst (v := (0 : Int32)) hE dX12_sweep_g0.2.2.2.2.2.2.2.2.2.2.2.2.2.2.1 (by decide) ?_
    refine c_callVl hE hm [.int r17, .int (0 : Int32)] [] ck_X12_213 (cr_th hm rfl) (kc_th_partOf h) (by decide) rfl rfl (Nat.le_of_ble_eq_true rfl) dX12_sweep_g0.2.2.2.2.2.2.2.2.2.2.2.2.2.2.2 (fun s18 r19 h => ?_)
    refine r_lstore hE [(6, .long r19), (0, .ref (G.1 200)), (1, .int a1), (2, .int a2), (3, .int a3), (4, .int a4), (5, .int a5)] dX12_sweep_g1.1 hN (by decide) rfl ?_
    refine r_aload_n hE 1 dX12_sweep_g1.2.1 rfl rfl ?_
    refine cg_ft_things hE hm fk_X12_69 dX12_sweep_g1.2.2.1 ?_
    refine r_aload_n hE 1 dX12_sweep_g1.2.2.2.1 rfl rfl ?_
    refine cg_ft_frees hE hm fk_X12_76 dX12_sweep_g1.2.2.2.2.1 ?_
    refine r_iload_n hE 2 dX12_sweep_g1.2.2.2.2.2.1 rfl rfl ?_
    refine c_callVi hE hm [.int a1] [.ref (G.1 900)] ck_X12_270 (cr_fr hm rfl) (kc_fr_thingAt h) (by decide) rfl rfl (Nat.le_of_ble_eq_true rfl) dX12_sweep_g1.2.2.2.2.2.2.1 (fun s20 r21 h => ?_)
    refine r_iconst (v := (1 : Int32)) hE dX12_sweep_g1.2.2.2.2.2.2.2.1 (by decide) ?_
    refine c_callVl hE hm [.int r21, .int (1 : Int32)] [] ck_X12_213 (cr_th hm rfl) (kc_th_partOf h) (by decide) rfl rfl (Nat.le_of_ble_eq_true rfl) dX12_sweep_g1.2.2.2.2.2.2.2.2.1 (fun s22 r23 h => ?_)
    refine r_lstore hE [(8, .long r23), (6, .long r19), (0, .ref (G.1 200)), (1, .int a1), (2, .int a2), (3, .int a3), (4, .int a4), (5, .int a5)] dX12_sweep_g1.2.2.2.2.2.2.2.2.2.1 hN (by decide) rfl ?_
    refine r_iload hE 6 dX12_sweep_g1.2.2.2.2.2.2.2.2.2.2.1 rfl ?_
    refine r_if_lt hE 95 dX12_sweep_g1.2.2.2.2.2.2.2.2.2.2.2.1 (by decide) h (fun h => ?_) (fun h => ?_)
    · refine r_ldc (v := (-2000000002 : Int32)) hE dX12_sweep_g2.2.2.2.2.2.2.2.2.2.2.2.2.2.1 (gTb_2 (List.mem_of_getElem? (i := 212) rfl) rfl) ?_
      exact c_iret hE hm hF dX12_sweep_g2.2.2.2.2.2.2.2.2.2.2.2.2.2.2.1 h
    · refine r_iload hE 6 dX12_sweep_g1.2.2.2.2.2.2.2.2.2.2.2.2.1 rfl ?_
      refine r_bipush (v := (20 : Int32)) hE dX12_sweep_g1.2.2.2.2.2.2.2.2.2.2.2.2.2.1 (by decide) ?_
      refine r_icmp_gt hE 95 dX12_sweep_g1.2.2.2.2.2.2.2.2.2.2.2.2.2.2.1 (by decide) h (fun h => ?_) (fun h => ?_)
      · refine r_ldc (v := (-2000000002 : Int32)) hE dX12_sweep_g2.2.2.2.2.2.2.2.2.2.2.2.2.2.1 (gTb_2 (List.mem_of_getElem? (i := 212) rfl) rfl) ?_
        exact c_iret hE hm hF dX12_sweep_g2.2.2.2.2.2.2.2.2.2.2.2.2.2.2.1 h
      · refine r_iload hE 7 dX12_sweep_g1.2.2.2.2.2.2.2.2.2.2.2.2.2.2.2 rfl ?_
        refine r_if_lt hE 95 dX12_sweep_g2.1 (by decide) h (fun h => ?_) (fun h => ?_)
        · refine r_ldc (v := (-2000000002 : Int32)) hE dX12_sweep_g2.2.2.2.2.2.2.2.2.2.2.2.2.2.1 (gTb_2 (List.mem_of_getElem? (i := 212) rfl) rfl) ?_
          exact c_iret hE hm hF dX12_sweep_g2.2.2.2.2.2.2.2.2.2.2.2.2.2.2.1 h
        · refine r_aload_n hE 2 dX12_sweep_g2.2.1 rfl rfl ?_
          refine r_lload hE 1 dX12_sweep_g2.2.2.1 rfl ?_
          refine r_iload_n hE 4 dX12_sweep_g2.2.2.2.1 rfl rfl ?_
          refine r_iload hE 6 dX12_sweep_g2.2.2.2.2.1 rfl ?_
          refine c_callVi hE hm [.long r19, .int a2, .int a4] [] ck_X12_273 (cr_ft hm rfl) (kc_ft_strays h) (by decide) rfl rfl (Nat.le_of_ble_eq_true rfl) dX12_sweep_g2.2.2.2.2.2.1 (fun s24 r25 h => ?_)
          refine r_if_ne hE 95 dX12_sweep_g2.2.2.2.2.2.2.1 (by decide) h (fun h => ?_) (fun h => ?_)
          · refine r_ldc (v := (-2000000002 : Int32)) hE dX12_sweep_g2.2.2.2.2.2.2.2.2.2.2.2.2.2.1 (gTb_2 (List.mem_of_getElem? (i := 212) rfl) rfl) ?_
            exact c_iret hE hm hF dX12_sweep_g2.2.2.2.2.2.2.2.2.2.2.2.2.2.2.1 h
          · refine r_aload_n hE 2 dX12_sweep_g2.2.2.2.2.2.2.2.1 rfl rfl ?_
            refine r_lload hE 0 dX12_sweep_g2.2.2.2.2.2.2.2.2.1 rfl ?_
            refine r_iload_n hE 5 dX12_sweep_g2.2.2.2.2.2.2.2.2.2.1 rfl rfl ?_
            refine r_iload hE 6 dX12_sweep_g2.2.2.2.2.2.2.2.2.2.2.1 rfl ?_
            refine c_callVi hE hm [.long r23, .int a3, .int a4] [] ck_X12_273 (cr_ft hm rfl) (kc_ft_strays h) (by decide) rfl rfl (Nat.le_of_ble_eq_true rfl) dX12_sweep_g2.2.2.2.2.2.2.2.2.2.2.2.1 (fun s26 r27 h => ?_)
            refine r_if_eq hE 98 dX12_sweep_g2.2.2.2.2.2.2.2.2.2.2.2.2.1 (by decide) h (fun h => ?_) (fun h => ?_)
            · refine r_aload_n hE 2 dX12_sweep_g2.2.2.2.2.2.2.2.2.2.2.2.2.2.2.2 rfl rfl ?_
              refine cg_ft_hasFigure hE hm fk_X12_34 dX12_sweep_g3.1 ?_
              refine r_if_ne hE 108 dX12_sweep_g3.2.1 (by decide) h (fun h => ?_) (fun h => ?_)
              · refine r_aload_n hE 2 dX12_sweep_g3.2.2.2.2.1 rfl rfl ?_
                refine cg_ft_runs hE hm fk_X12_101 dX12_sweep_g3.2.2.2.2.2.1 ?_
                refine r_iload hE 6 dX12_sweep_g3.2.2.2.2.2.2.1 rfl ?_
                refine r_iadd hE dX12_sweep_g3.2.2.2.2.2.2.2.1 ?_
                refine r_iconst (v := (1 : Int32)) hE dX12_sweep_g3.2.2.2.2.2.2.2.2.1 (by decide) ?_
                refine r_iadd hE dX12_sweep_g3.2.2.2.2.2.2.2.2.2.1 ?_
                refine r_sipush (v := (600 : Int32)) hE dX12_sweep_g3.2.2.2.2.2.2.2.2.2.2.1 (by decide) ?_
                refine r_icmp_le hE 126 dX12_sweep_g3.2.2.2.2.2.2.2.2.2.2.2.1 (by decide) h (fun h => ?_) (fun h => ?_)
                · refine r_aload_n hE 2 dX12_sweep_g3.2.2.2.2.2.2.2.2.2.2.2.2.2.2.1 rfl rfl ?_
                  refine cg_ft_frees hE hm fk_X12_76 dX12_sweep_g3.2.2.2.2.2.2.2.2.2.2.2.2.2.2.2 ?_
                  refine c_callVv hE hm [] [] ck_X12_277 (cr_fr hm rfl) (kc_fr_remember h) (by decide) rfl rfl (Nat.le_of_ble_eq_true rfl) dX12_sweep_g4.1 (fun s28 h => ?_)
                  refine r_iconst (v := (0 : Int32)) hE dX12_sweep_g4.2.1 (by decide) ?_
                  refine r_istore hE [(10, .int (0 : Int32)), (8, .long r23), (6, .long r19), (0, .ref (G.1 200)), (1, .int a1), (2, .int a2), (3, .int a3), (4, .int a4), (5, .int a5)] dX12_sweep_g4.2.2.1 hN (by decide) rfl ?_
                  refine r_aload_n hE 3 dX12_sweep_g4.2.2.2.1 rfl rfl ?_
                  refine r_iload hE 7 dX12_sweep_g4.2.2.2.2.1 rfl ?_
                  refine r_iconst (v := (1 : Int32)) hE dX12_sweep_g4.2.2.2.2.2.1 (by decide) ?_
                  refine r_iadd hE dX12_sweep_g4.2.2.2.2.2.2.1 ?_
                  refine cp_ft_sweepingMany hE hm fk_X12_108 dX12_sweep_g4.2.2.2.2.2.2.2.1 h (fun s29 h => ?_)
                  refine r_iconst (v := (0 : Int32)) hE dX12_sweep_g4.2.2.2.2.2.2.2.2.1 (by decide) ?_
                  refine r_istore hE [(11, .int (0 : Int32)), (10, .int (0 : Int32)), (8, .long r23), (6, .long r19), (0, .ref (G.1 200)), (1, .int a1), (2, .int a2), (3, .int a3), (4, .int a4), (5, .int a5)] dX12_sweep_g4.2.2.2.2.2.2.2.2.2.1 hN (by decide) rfl ?_
                  refine r_pick [4, 5, 6, 7, 8, 9, 3, 2, 1, 0] rfl ?_
                  obtain ⟨k, h⟩ := h
                  exact kc_ft_sweep_147 hE hm hF k _ _ _ _ _ _ _ _ _ _ h
                · refine r_ldc (v := (-2000000004 : Int32)) hE dX12_sweep_g3.2.2.2.2.2.2.2.2.2.2.2.2.1 (gTb_4 (List.mem_of_getElem? (i := 108) rfl) rfl) ?_
                  exact c_iret hE hm hF dX12_sweep_g3.2.2.2.2.2.2.2.2.2.2.2.2.2.1 h
              · refine r_ldc (v := (-2000000003 : Int32)) hE dX12_sweep_g3.2.2.1 (gTb_2 (List.mem_of_getElem? (i := 200) rfl) rfl) ?_
                exact c_iret hE hm hF dX12_sweep_g3.2.2.2.1 h
            · refine r_ldc (v := (-2000000002 : Int32)) hE dX12_sweep_g2.2.2.2.2.2.2.2.2.2.2.2.2.2.1 (gTb_2 (List.mem_of_getElem? (i := 212) rfl) rfl) ?_
              exact c_iret hE hm hF dX12_sweep_g2.2.2.2.2.2.2.2.2.2.2.2.2.2.2.1 h
  · refine r_ldcw (v := (-2000000001 : Int32)) hE dX12_sweep_g0.2.2.2.2.2.2.1 (gTb_6 (List.mem_of_getElem? (i := 219) rfl) rfl) ?_
    exact c_iret hE hm hF dX12_sweep_g0.2.2.2.2.2.2.2.1 h
/-! ft_swept -/
def wc_ft_swept (post : CS → Int32 → Prop) (σ : CS) (a1 : Int32) : Prop := wc_SX12_inside (fun (s1 : CS) (r2 : Int32) => ((r2 = (0 : Int32)) → (post s1 (-1 : Int32))) ∧ ((¬ (r2 = (0 : Int32))) → ((((21 : Int32) ≤ a1) → (post s1 (-1 : Int32))) ∧ ((¬ ((21 : Int32) ≤ a1)) → (vp_in a1 21 ∧ (post s1 (c_ft_sweeping s1 a1.toNatClampNeg))))))) σ a1 (c_ft_sweepingMany σ)
set_option maxRecDepth 20000 in
theorem kc_ft_swept {l : Launch} {D : va_G} {G : gAd} {post : CS → Int32 → Prop} {σ : CS} {a1 : Int32} (h : wc_ft_swept post σ a1) : cMet l D G yX12_swept cX12_swept 2 (some .int) 2 [.ref (G.1 200), .int a1] σ (pI post) := by
  unfold wc_ft_swept at h
  refine c_enter (own := RX12) (by decide +kernel) rfl [(0, .ref (G.1 200)), (1, .int a1)] rfl (Nat.le_of_ble_eq_true rfl) ?_
  intro E hE hm hF
  have hN := hm.2.2.2.2.2.2.1
  refine r_iload_n hE 1 dX12_swept_g0.1 rfl rfl ?_
  refine r_aload_n hE 0 dX12_swept_g0.2.1 rfl rfl ?_
  refine cg_ft_sweepingMany hE hm fk_X12_108 dX12_swept_g0.2.2.1 ?_
  refine c_callSi hE hm [.int a1, .int (c_ft_sweepingMany σ)] [] ck_X12_145 (kc_SX12_inside h) (by decide) rfl rfl (Nat.le_of_ble_eq_true rfl) dX12_swept_g0.2.2.2.1 (fun s1 r2 h => ?_)
  refine r_if_eq hE 29 dX12_swept_g0.2.2.2.2.1 (by decide) h (fun h => ?_) (fun h => ?_)
  · refine r_iconst (v := (-1 : Int32)) hE dX12_swept_g0.2.2.2.2.2.2.2.2.2.2.2.2.2.2.2 (by decide) ?_
    exact c_iret hE hm hF dX12_swept_g1 h
  · refine r_iload_n hE 1 dX12_swept_g0.2.2.2.2.2.1 rfl rfl ?_
    refine r_aload_n hE 0 dX12_swept_g0.2.2.2.2.2.2.1 rfl rfl ?_
    refine cg_ft_sweeping hE hm fk_X12_104 dX12_swept_g0.2.2.2.2.2.2.2.1 ?_
    refine cn_ft_sweeping hE hm dX12_swept_g0.2.2.2.2.2.2.2.2.1 ?_
    refine r_icmp_ge hE 29 dX12_swept_g0.2.2.2.2.2.2.2.2.2.1 (by decide) h (fun h => ?_) (fun h => ?_)
    · refine r_iconst (v := (-1 : Int32)) hE dX12_swept_g0.2.2.2.2.2.2.2.2.2.2.2.2.2.2.2 (by decide) ?_
      exact c_iret hE hm hF dX12_swept_g1 h
    · refine r_aload_n hE 0 dX12_swept_g0.2.2.2.2.2.2.2.2.2.2.1 rfl rfl ?_
      refine cg_ft_sweeping hE hm fk_X12_104 dX12_swept_g0.2.2.2.2.2.2.2.2.2.2.2.1 ?_
      refine r_iload_n hE 1 dX12_swept_g0.2.2.2.2.2.2.2.2.2.2.2.2.1 rfl rfl ?_
      obtain ⟨hi, h⟩ := h
      refine cl_ft_sweeping hE hm dX12_swept_g0.2.2.2.2.2.2.2.2.2.2.2.2.2.1 hi ?_
      refine r_goto hE 30 dX12_swept_g0.2.2.2.2.2.2.2.2.2.2.2.2.2.2.1 (by decide) ?_
      exact c_iret hE hm hF dX12_swept_g1 h
/-! fr_scatter -/
def wc_fr_scatter_4 (post : CS → Int32 → Prop) : Nat → CS → Int32 → Int32 → Prop
  | 0, _, _, _ => False
  | n + 1, σ, v2, v3 => (((12 : Int32) ≤ v3) → (post σ v2)) ∧ ((¬ ((12 : Int32) ≤ v3)) → (∀ x1 : Int32, x1 = (v2 * (1103515245 : Int32)) + (12345 : Int32) → wc_SX6_whole (fun (s2 : CS) (r3 : Int64) => ∀ x4 : Int32, x4 = (x1 * (1103515245 : Int32)) + (12345 : Int32) → wc_SX6_whole (fun (s5 : CS) (r6 : Int64) => wc_fr_moveTo (fun (s7 : CS) => ∀ x8 : Int32, x8 = v3 + (1 : Int32) → wc_fr_scatter_4 post n s7 x4 x8) s5 v3 r3 r6) s2 ((((x4.toUInt32 >>> ((16 : Int32).toUInt32 &&& Int32.toUInt32 31)).toInt32) - ((x4.toUInt32 >>> ((16 : Int32).toUInt32 &&& Int32.toUInt32 31)).toInt32) / (41 : Int32) * (41 : Int32)) - (20 : Int32))) σ ((((x1.toUInt32 >>> ((16 : Int32).toUInt32 &&& Int32.toUInt32 31)).toInt32) - ((x1.toUInt32 >>> ((16 : Int32).toUInt32 &&& Int32.toUInt32 31)).toInt32) / (41 : Int32) * (41 : Int32)) - (20 : Int32))))
set_option maxRecDepth 20000 in
theorem kc_fr_scatter_4  {E : gEnv} {l : Launch} {D : va_G} {G : gAd} {post : CS → Int32 → Prop} (hE : gOK E cX2_scatter RX2 (some .int) 3) (hm : cOK E l D G (pI post) 6) (hF : gFin E) : ∀ (n0 : Nat) (σ : CS) (v2 : Int32) (v3 : Int32), wc_fr_scatter_4 post n0 σ v2 v3 → GW E (cW G σ) 4 [(0, .ref (G.1 1000)), (2, .int v2), (3, .int v3)] [] := by
  intro n0
  induction n0 with
  | zero => intro σ v2 v3 h; exact h.elim
  | succ n0 ih =>
    intro σ v2 v3 h
    rw [wc_fr_scatter_4] at h
    have hN := hm.2.2.2.2.2.2.1
    refine r_iload_n hE 2 dX2_scatter_g0.2.2.2.2.1 rfl rfl ?_
    refine r_bipush (v := (12 : Int32)) hE dX2_scatter_g0.2.2.2.2.2.1 (by decide) ?_
    refine r_icmp_ge hE 69 dX2_scatter_g0.2.2.2.2.2.2.1 (by decide) h (fun h => ?_) (fun h => ?_)
    · refine r_iload_n hE 1 dX2_scatter_g2.2.2.2.2.2.2.2.2.2.2.1 rfl rfl ?_
      exact c_iret hE hm hF dX2_scatter_g2.2.2.2.2.2.2.2.2.2.2.2 h
    · refine r_iload_n hE 1 dX2_scatter_g0.2.2.2.2.2.2.2.1 rfl rfl ?_
      refine r_ldc (v := (1103515245 : Int32)) hE dX2_scatter_g0.2.2.2.2.2.2.2.2.1 (gTb_7 (List.mem_of_getElem? (i := 20) rfl) rfl) ?_
      refine r_imul hE dX2_scatter_g0.2.2.2.2.2.2.2.2.2.1 ?_
      refine r_sipush (v := (12345 : Int32)) hE dX2_scatter_g0.2.2.2.2.2.2.2.2.2.2.1 (by decide) ?_
      refine r_iadd hE dX2_scatter_g0.2.2.2.2.2.2.2.2.2.2.2.1 ?_
      refine r_topi h (fun x1 ex1 h => ?_)
      refine r_istore_n hE [(2, .int x1), (0, .ref (G.1 1000)), (3, .int v3)] dX2_scatter_g0.2.2.2.2.2.2.2.2.2.2.2.2.1 rfl hN (by decide) rfl ?_
      refine r_iload_n hE 0 dX2_scatter_g0.2.2.2.2.2.2.2.2.2.2.2.2.2.1 rfl rfl ?_
      refine r_bipush (v := (16 : Int32)) hE dX2_scatter_g0.2.2.2.2.2.2.2.2.2.2.2.2.2.2.1 (by decide) ?_
      refine r_iushr hE dX2_scatter_g0.2.2.2.2.2.2.2.2.2.2.2.2.2.2.2 ?_
      refine r_bipush (v := (41 : Int32)) hE dX2_scatter_g1.1 (by decide) ?_
      refine r_irem hE dX2_scatter_g1.2.1 (by decide) ?_
      refine r_bipush (v := (20 : Int32)) hE dX2_scatter_g1.2.2.1 (by decide) ?_
      refine r_isub hE dX2_scatter_g1.2.2.2.1 ?_
      refine c_callSl hE hm [.int ((((x1.toUInt32 >>> ((16 : Int32).toUInt32 &&& Int32.toUInt32 31)).toInt32) - ((x1.toUInt32 >>> ((16 : Int32).toUInt32 &&& Int32.toUInt32 31)).toInt32) / (41 : Int32) * (41 : Int32)) - (20 : Int32))] [] ck_X2_46 (kc_SX6_whole h) (by decide) rfl rfl (Nat.le_of_ble_eq_true rfl) dX2_scatter_g1.2.2.2.2.1 (fun s2 r3 h => ?_)
      refine r_lstore hE [(4, .long r3), (2, .int x1), (0, .ref (G.1 1000)), (3, .int v3)] dX2_scatter_g1.2.2.2.2.2.1 hN (by decide) rfl ?_
      refine r_iload_n hE 1 dX2_scatter_g1.2.2.2.2.2.2.1 rfl rfl ?_
      refine r_ldc (v := (1103515245 : Int32)) hE dX2_scatter_g1.2.2.2.2.2.2.2.1 (gTb_7 (List.mem_of_getElem? (i := 20) rfl) rfl) ?_
      refine r_imul hE dX2_scatter_g1.2.2.2.2.2.2.2.2.1 ?_
      refine r_sipush (v := (12345 : Int32)) hE dX2_scatter_g1.2.2.2.2.2.2.2.2.2.1 (by decide) ?_
      refine r_iadd hE dX2_scatter_g1.2.2.2.2.2.2.2.2.2.2.1 ?_
      refine r_topi h (fun x4 ex4 h => ?_)
      refine r_istore_n hE [(2, .int x4), (4, .long r3), (0, .ref (G.1 1000)), (3, .int v3)] dX2_scatter_g1.2.2.2.2.2.2.2.2.2.2.2.1 rfl hN (by decide) rfl ?_
      refine r_aload_n hE 2 dX2_scatter_g1.2.2.2.2.2.2.2.2.2.2.2.2.1 rfl rfl ?_
      refine r_iload_n hE 3 dX2_scatter_g1.2.2.2.2.2.2.2.2.2.2.2.2.2.1 rfl rfl ?_
      refine r_lload hE 1 dX2_scatter_g1.2.2.2.2.2.2.2.2.2.2.2.2.2.2.1 rfl ?_
      refine r_iload_n hE 0 dX2_scatter_g1.2.2.2.2.2.2.2.2.2.2.2.2.2.2.2 rfl rfl ?_
      refine r_bipush (v := (16 : Int32)) hE dX2_scatter_g2.1 (by decide) ?_
      refine r_iushr hE dX2_scatter_g2.2.1 ?_
      refine r_bipush (v := (41 : Int32)) hE dX2_scatter_g2.2.2.1 (by decide) ?_
      refine r_irem hE dX2_scatter_g2.2.2.2.1 (by decide) ?_
      refine r_bipush (v := (20 : Int32)) hE dX2_scatter_g2.2.2.2.2.1 (by decide) ?_
      refine r_isub hE dX2_scatter_g2.2.2.2.2.2.1 ?_
      refine c_callSl hE hm [.int ((((x4.toUInt32 >>> ((16 : Int32).toUInt32 &&& Int32.toUInt32 31)).toInt32) - ((x4.toUInt32 >>> ((16 : Int32).toUInt32 &&& Int32.toUInt32 31)).toInt32) / (41 : Int32) * (41 : Int32)) - (20 : Int32))] [.long r3, .int v3, .ref (G.1 1000)] ck_X2_46 (kc_SX6_whole h) (by decide) rfl rfl (Nat.le_of_ble_eq_true rfl) dX2_scatter_g2.2.2.2.2.2.2.1 (fun s5 r6 h => ?_)
      refine c_callVv hE hm [.int v3, .long r3, .long r6] [] ck_X2_50 (cr_fr hm rfl) (kc_fr_moveTo h) (by decide) rfl rfl (Nat.le_of_ble_eq_true rfl) dX2_scatter_g2.2.2.2.2.2.2.2.1 (fun s7 h => ?_)
      obtain ⟨x8, ex8⟩ : ∃ z : Int32, z = v3 + (1 : Int32) := ⟨_, rfl⟩
      have h := h x8 ex8
      refine r_iinc (v := x8) hE [(3, .int x8), (2, .int x4), (4, .long r3), (0, .ref (G.1 1000))] 3 dX2_scatter_g2.2.2.2.2.2.2.2.2.1 rfl (by rw [ex8]; rfl) hN (by decide) rfl ?_
      refine r_goto hE 4 dX2_scatter_g2.2.2.2.2.2.2.2.2.2.1 (by decide) ?_
      refine r_pick [3, 1, 0] rfl ?_
      exact ih _ _ _ h
def wc_fr_scatter (post : CS → Int32 → Prop) (σ : CS) (a1 : Int32) : Prop := ∃ k : Nat, wc_fr_scatter_4 post k σ a1 (0 : Int32)
set_option maxRecDepth 20000 in
theorem kc_fr_scatter {l : Launch} {D : va_G} {G : gAd} {post : CS → Int32 → Prop} {σ : CS} {a1 : Int32} (h : wc_fr_scatter post σ a1) : cMet l D G yX2_scatter cX2_scatter 6 (some .int) 3 [.ref (G.1 1000), .int a1] σ (pI post) := by
  unfold wc_fr_scatter at h
  refine c_enter (own := RX2) (by decide +kernel) rfl [(0, .ref (G.1 1000)), (1, .int a1)] rfl (Nat.le_of_ble_eq_true rfl) ?_
  intro E hE hm hF
  have hN := hm.2.2.2.2.2.2.1
  refine r_iload_n hE 1 dX2_scatter_g0.1 rfl rfl ?_
  refine r_istore_n hE [(2, .int a1), (0, .ref (G.1 1000)), (1, .int a1)] dX2_scatter_g0.2.1 rfl hN (by decide) rfl ?_
  refine r_iconst (v := (0 : Int32)) hE dX2_scatter_g0.2.2.1 (by decide) ?_
  refine r_istore_n hE [(3, .int (0 : Int32)), (2, .int a1), (0, .ref (G.1 1000)), (1, .int a1)] dX2_scatter_g0.2.2.2.1 rfl hN (by decide) rfl ?_
  refine r_pick [2, 1, 0] rfl ?_
  obtain ⟨k, h⟩ := h
  exact kc_fr_scatter_4 hE hm hF k _ _ _ h
/-! ft_tried -/
def wc_ft_tried_141 (post : CS → Int32 → Prop) (lp62 : CS → Int32 → Int32 → Int32 → Int32 → Int32 → Int32 → Prop) (σ : CS) (v2 : Int32) (v3 : Int32) (v4 : Int32) (v5 : Int32) (v6 : Int32) (v7 : Int32) : Prop := ∀ x1 : Int32, x1 = v7 + (1 : Int32) → lp62 σ v2 v3 v4 v5 v6 x1
set_option maxRecDepth 20000 in
theorem kc_ft_tried_141  {E : gEnv} {l : Launch} {D : va_G} {G : gAd} {post : CS → Int32 → Prop} (hE : gOK E cX12_tried RX12 (some .int) 8) (hm : cOK E l D G (pI post) 9) (hF : gFin E) {lp62 : CS → Int32 → Int32 → Int32 → Int32 → Int32 → Int32 → Prop} (hl62 : ∀ (σ : CS) (v2 : Int32) (v3 : Int32) (v4 : Int32) (v5 : Int32) (v6 : Int32) (v7 : Int32), lp62 σ v2 v3 v4 v5 v6 v7 → GW E (cW G σ) 62 [(0, .ref (G.1 200)), (2, .int v2), (3, .int v3), (4, .int v4), (5, .int v5), (6, .int v6), (7, .int v7)] []) (σ : CS) (v2 : Int32) (v3 : Int32) (v4 : Int32) (v5 : Int32) (v6 : Int32) (v7 : Int32) (h : wc_ft_tried_141 post lp62 σ v2 v3 v4 v5 v6 v7) : GW E (cW G σ) 141 [(0, .ref (G.1 200)), (2, .int v2), (3, .int v3), (4, .int v4), (5, .int v5), (6, .int v6), (7, .int v7)] [] := by
  unfold wc_ft_tried_141 at h
  have hN := hm.2.2.2.2.2.2.1
  obtain ⟨x1, ex1⟩ : ∃ z : Int32, z = v7 + (1 : Int32) := ⟨_, rfl⟩
  have h := h x1 ex1
  refine r_iinc (v := x1) hE [(7, .int x1), (0, .ref (G.1 200)), (2, .int v2), (3, .int v3), (4, .int v4), (5, .int v5), (6, .int v6)] 6 dX12_tried_g4.2.2.2.2.2.2.2.2.2.2.1 rfl (by rw [ex1]; rfl) hN (by decide) rfl ?_
  refine r_goto hE 62 dX12_tried_g4.2.2.2.2.2.2.2.2.2.2.2.1 (by decide) ?_
  refine r_pick [1, 2, 3, 4, 5, 6, 0] rfl ?_
  exact hl62 _ _ _ _ _ _ _ h
def wc_ft_tried_123 (post : CS → Int32 → Prop) (lp62 : CS → Int32 → Int32 → Int32 → Int32 → Int32 → Int32 → Prop) (σ : CS) (v2 : Int32) (v3 : Int32) (v4 : Int32) (v6 : Int32) (v7 : Int32) (v8 : Int32) (t0 : Int32) (t1 : Int32) : Prop := ∀ x2 : Int32, x2 = t0 + t1 → ((¬ (v8 = (0 : Int32))) → (wc_ft_tried_141 post lp62 σ v2 v3 v4 x2 v6 v7)) ∧ ((v8 = (0 : Int32)) → (((¬ (v6 = (-1 : Int32))) → (wc_ft_tried_141 post lp62 σ v2 v3 v4 x2 v6 v7)) ∧ ((v6 = (-1 : Int32)) → (wc_ft_tried_141 post lp62 σ v2 v3 v4 x2 v7 v7))))
set_option maxRecDepth 20000 in
theorem kc_ft_tried_123  {E : gEnv} {l : Launch} {D : va_G} {G : gAd} {post : CS → Int32 → Prop} (hE : gOK E cX12_tried RX12 (some .int) 8) (hm : cOK E l D G (pI post) 9) (hF : gFin E) {lp62 : CS → Int32 → Int32 → Int32 → Int32 → Int32 → Int32 → Prop} (hl62 : ∀ (σ : CS) (v2 : Int32) (v3 : Int32) (v4 : Int32) (v5 : Int32) (v6 : Int32) (v7 : Int32), lp62 σ v2 v3 v4 v5 v6 v7 → GW E (cW G σ) 62 [(0, .ref (G.1 200)), (2, .int v2), (3, .int v3), (4, .int v4), (5, .int v5), (6, .int v6), (7, .int v7)] []) (σ : CS) (v2 : Int32) (v3 : Int32) (v4 : Int32) (v6 : Int32) (v7 : Int32) (v8 : Int32) (t0 : Int32) (t1 : Int32) (h : wc_ft_tried_123 post lp62 σ v2 v3 v4 v6 v7 v8 t0 t1) : GW E (cW G σ) 123 [(0, .ref (G.1 200)), (2, .int v2), (3, .int v3), (4, .int v4), (6, .int v6), (7, .int v7), (8, .int v8)] [.int t1, .int t0] := by
  unfold wc_ft_tried_123 at h
  have hN := hm.2.2.2.2.2.2.1
  refine r_iadd hE dX12_tried_g4.2.1 ?_
  refine r_topi h (fun x2 ex2 h => ?_)
  refine r_istore hE [(5, .int x2), (0, .ref (G.1 200)), (2, .int v2), (3, .int v3), (4, .int v4), (6, .int v6), (7, .int v7), (8, .int v8)] dX12_tried_g4.2.2.1 hN (by decide) rfl ?_
  refine r_iload hE 7 dX12_tried_g4.2.2.2.1 rfl ?_
  refine r_if_ne hE 141 dX12_tried_g4.2.2.2.2.1 (by decide) h (fun h => ?_) (fun h => ?_)
  · refine r_pick [1, 2, 3, 4, 0, 5, 6] rfl ?_
    exact kc_ft_tried_141 hE hm hF hl62 _ _ _ _ _ _ _ h
  · refine r_iload hE 5 dX12_tried_g4.2.2.2.2.2.1 rfl ?_
    refine r_iconst (v := (-1 : Int32)) hE dX12_tried_g4.2.2.2.2.2.2.1 (by decide) ?_
    refine r_icmp_ne hE 141 dX12_tried_g4.2.2.2.2.2.2.2.1 (by decide) h (fun h => ?_) (fun h => ?_)
    · refine r_pick [1, 2, 3, 4, 0, 5, 6] rfl ?_
      exact kc_ft_tried_141 hE hm hF hl62 _ _ _ _ _ _ _ h
    · refine r_iload hE 6 dX12_tried_g4.2.2.2.2.2.2.2.2.1 rfl ?_
      refine r_istore hE [(6, .int v7), (5, .int x2), (0, .ref (G.1 200)), (2, .int v2), (3, .int v3), (4, .int v4), (7, .int v7), (8, .int v8)] dX12_tried_g4.2.2.2.2.2.2.2.2.2.1 hN (by decide) rfl ?_
      refine r_pick [2, 3, 4, 5, 1, 0, 6] rfl ?_
      exact kc_ft_tried_141 hE hm hF hl62 _ _ _ _ _ _ _ h
def wc_ft_tried_62 (post : CS → Int32 → Prop) : Nat → CS → Int32 → Int32 → Int32 → Int32 → Int32 → Int32 → Prop
  | 0, _, _, _, _, _, _, _ => False
  | n + 1, σ, v2, v3, v4, v5, v6, v7 => ((v2 ≤ v7) → (wc_fr_restore (fun (s3 : CS) => ((¬ (v6 = (-1 : Int32))) → (post s3 ((-1 : Int32) - v6))) ∧ ((v6 = (-1 : Int32)) → (post s3 v5))) σ)) ∧ ((¬ (v2 ≤ v7)) → (wc_fr_scatter (fun (s4 : CS) (r5 : Int32) => ∀ s6 : CS, s6 = c_ft_runs_s s4 ((c_ft_runs s4) + (1 : Int32)) → c_ft_figure s6 = 300 ∧ (wc_ru_work_fg (fun (s7 : CS) => wc_to_statedAt (fun (s8 : CS) (r9 : Int32) => ((¬ (r9 = (1 : Int32))) → (wc_ft_tried_123 post (fun (ys : CS) (y0 : Int32) (y1 : Int32) (y2 : Int32) (y3 : Int32) (y4 : Int32) (y5 : Int32) => wc_ft_tried_62 post n ys y0 y1 y2 y3 y4 y5) s8 v2 v3 r5 v6 v7 r9 v5 (0 : Int32))) ∧ ((r9 = (1 : Int32)) → (wc_ft_tried_123 post (fun (ys : CS) (y0 : Int32) (y1 : Int32) (y2 : Int32) (y3 : Int32) (y4 : Int32) (y5 : Int32) => wc_ft_tried_62 post n ys y0 y1 y2 y3 y4 y5) s8 v2 v3 r5 v6 v7 r9 v5 (1 : Int32)))) s7 v3) s6)) σ v4))
set_option maxRecDepth 20000 in
theorem kc_ft_tried_62  {E : gEnv} {l : Launch} {D : va_G} {G : gAd} {post : CS → Int32 → Prop} (hE : gOK E cX12_tried RX12 (some .int) 8) (hm : cOK E l D G (pI post) 9) (hF : gFin E) : ∀ (n0 : Nat) (σ : CS) (v2 : Int32) (v3 : Int32) (v4 : Int32) (v5 : Int32) (v6 : Int32) (v7 : Int32), wc_ft_tried_62 post n0 σ v2 v3 v4 v5 v6 v7 → GW E (cW G σ) 62 [(0, .ref (G.1 200)), (2, .int v2), (3, .int v3), (4, .int v4), (5, .int v5), (6, .int v6), (7, .int v7)] [] := by
  intro n0
  induction n0 with
  | zero => intro σ v2 v3 v4 v5 v6 v7 h; exact h.elim
  | succ n0 ih =>
    intro σ v2 v3 v4 v5 v6 v7 h
    rw [wc_ft_tried_62] at h
    have hN := hm.2.2.2.2.2.2.1
    refine r_iload hE 6 dX12_tried_g2.2.2.1 rfl ?_
    refine r_iload_n hE 1 dX12_tried_g2.2.2.2.1 rfl rfl ?_
    refine r_icmp_ge hE 147 dX12_tried_g2.2.2.2.2.1 (by decide) h (fun h => ?_) (fun h => ?_)
    · refine r_aload_n hE 0 dX12_tried_g4.2.2.2.2.2.2.2.2.2.2.2.2.1 rfl rfl ?_
      refine cg_ft_frees hE hm fk_X12_76 dX12_tried_g4.2.2.2.2.2.2.2.2.2.2.2.2.2.1 ?_
      refine c_callVv hE hm [] [] ck_X12_284 (cr_fr hm rfl) (kc_fr_restore h) (by decide) rfl rfl (Nat.le_of_ble_eq_true rfl) dX12_tried_g4.2.2.2.2.2.2.2.2.2.2.2.2.2.2.1 (fun s3 h => ?_)
      refine r_iload hE 5 dX12_tried_g4.2.2.2.2.2.2.2.2.2.2.2.2.2.2.2 rfl ?_
      refine r_iconst (v := (-1 : Int32)) hE dX12_tried_g5.1 (by decide) ?_
      refine r_icmp_ne hE 165 dX12_tried_g5.2.1 (by decide) h (fun h => ?_) (fun h => ?_)
      · refine r_iconst (v := (-1 : Int32)) hE dX12_tried_g5.2.2.2.2.1 (by decide) ?_
        refine r_iload hE 5 dX12_tried_g5.2.2.2.2.2.1 rfl ?_
        refine r_isub hE dX12_tried_g5.2.2.2.2.2.2.1 ?_
        exact c_iret hE hm hF dX12_tried_g5.2.2.2.2.2.2.2 h
      · refine r_iload hE 4 dX12_tried_g5.2.2.1 rfl ?_
        refine r_goto hE 169 dX12_tried_g5.2.2.2.1 (by decide) ?_
        exact c_iret hE hm hF dX12_tried_g5.2.2.2.2.2.2.2 h
    · refine r_aload_n hE 0 dX12_tried_g2.2.2.2.2.2.1 rfl rfl ?_
      refine cg_ft_frees hE hm fk_X12_76 dX12_tried_g2.2.2.2.2.2.2.1 ?_
      refine r_iload hE 3 dX12_tried_g2.2.2.2.2.2.2.2.1 rfl ?_
      refine c_callVi hE hm [.int v4] [] ck_X12_287 (cr_fr hm rfl) (kc_fr_scatter h) (by decide) rfl rfl (Nat.le_of_ble_eq_true rfl) dX12_tried_g2.2.2.2.2.2.2.2.2.1 (fun s4 r5 h => ?_)
      refine r_istore hE [(4, .int r5), (0, .ref (G.1 200)), (2, .int v2), (3, .int v3), (5, .int v5), (6, .int v6), (7, .int v7)] dX12_tried_g2.2.2.2.2.2.2.2.2.2.1 hN (by decide) rfl ?_
      refine r_aload_n hE 1 dX12_tried_g2.2.2.2.2.2.2.2.2.2.2.1 rfl rfl ?_
      refine r_dup hE dX12_tried_g2.2.2.2.2.2.2.2.2.2.2.2.1 rfl ?_
      refine cg_ft_runs hE hm fk_X12_101 dX12_tried_g2.2.2.2.2.2.2.2.2.2.2.2.2.1 ?_
      refine r_iconst (v := (1 : Int32)) hE dX12_tried_g2.2.2.2.2.2.2.2.2.2.2.2.2.2.1 (by decide) ?_
      refine r_iadd hE dX12_tried_g2.2.2.2.2.2.2.2.2.2.2.2.2.2.2.1 ?_
      refine cp_ft_runs hE hm fk_X12_101 dX12_tried_g2.2.2.2.2.2.2.2.2.2.2.2.2.2.2.2 h (fun s6 h => ?_)
      refine r_aload_n hE 1 dX12_tried_g3.1 rfl rfl ?_
      refine cg_ft_runner hE hm fk_X12_97 dX12_tried_g3.2.1 ?_
      refine r_aload_n hE 1 dX12_tried_g3.2.2.1 rfl rfl ?_
      obtain ⟨hj, h⟩ := h
      refine cg_ft_figure hE hm fk_X12_27 dX12_tried_g3.2.2.2.1 hj ?_
      refine c_callVv hE hm [.ref (G.1 300)] [] ck_X12_171 (cr_ru hm rfl) (kc_ru_work_fg h) (by decide) rfl rfl (Nat.le_of_ble_eq_true rfl) dX12_tried_g3.2.2.2.2.1 (fun s7 h => ?_)
      refine r_aload_n hE 1 dX12_tried_g3.2.2.2.2.2.1 rfl rfl ?_
      refine cg_ft_told hE hm fk_X12_83 dX12_tried_g3.2.2.2.2.2.2.1 ?_
      refine r_iload_n hE 3 dX12_tried_g3.2.2.2.2.2.2.2.1 rfl rfl ?_
      refine c_callVi hE hm [.int v3] [] ck_X12_229 (cr_to hm rfl) (kc_to_statedAt h) (by decide) rfl rfl (Nat.le_of_ble_eq_true rfl) dX12_tried_g3.2.2.2.2.2.2.2.2.1 (fun s8 r9 h => ?_)
      refine r_istore hE [(8, .int r9), (4, .int r5), (0, .ref (G.1 200)), (2, .int v2), (3, .int v3), (5, .int v5), (6, .int v6), (7, .int v7)] dX12_tried_g3.2.2.2.2.2.2.2.2.2.1 hN (by decide) rfl ?_
      refine r_iload hE 5 dX12_tried_g3.2.2.2.2.2.2.2.2.2.2.1 rfl ?_
      refine r_iload hE 0 dX12_tried_g3.2.2.2.2.2.2.2.2.2.2.2.1 rfl ?_
      refine r_iconst (v := (1 : Int32)) hE dX12_tried_g3.2.2.2.2.2.2.2.2.2.2.2.2.1 (by decide) ?_
      refine r_icmp_ne hE 122 dX12_tried_g3.2.2.2.2.2.2.2.2.2.2.2.2.2.1 (by decide) h (fun h => ?_) (fun h => ?_)
      · refine r_iconst (v := (0 : Int32)) hE dX12_tried_g4.1 (by decide) ?_
        refine r_pick [2, 3, 4, 1, 6, 7, 0] rfl ?_
        exact kc_ft_tried_123 hE hm hF ih _ _ _ _ _ _ _ _ _ h
      · refine r_iconst (v := (1 : Int32)) hE dX12_tried_g3.2.2.2.2.2.2.2.2.2.2.2.2.2.2.1 (by decide) ?_
        refine r_goto hE 123 dX12_tried_g3.2.2.2.2.2.2.2.2.2.2.2.2.2.2.2 (by decide) ?_
        refine r_pick [2, 3, 4, 1, 6, 7, 0] rfl ?_
        exact kc_ft_tried_123 hE hm hF ih _ _ _ _ _ _ _ _ _ h
def wc_ft_tried (post : CS → Int32 → Prop) (σ : CS) (a1 : Int32) (a2 : Int32) (a3 : Int32) : Prop := ((a2 < (1 : Int32)) → (post σ (-2000000002 : Int32))) ∧ ((¬ (a2 < (1 : Int32))) → ((((20 : Int32) < a2) → (post σ (-2000000002 : Int32))) ∧ ((¬ ((20 : Int32) < a2)) → ((((0 : Int32) ≤ a3) → (((¬ ((c_ft_hasFigure σ) = (0 : Int32))) → (((((c_ft_runs σ) + a2) ≤ (600 : Int32)) → (wc_fr_remember (fun (s10 : CS) => ∃ k : Nat, wc_ft_tried_62 post k s10 a2 a3 a1 (0 : Int32) (-1 : Int32) (0 : Int32)) σ)) ∧ ((¬ (((c_ft_runs σ) + a2) ≤ (600 : Int32))) → (post σ (-2000000004 : Int32))))) ∧ (((c_ft_hasFigure σ) = (0 : Int32)) → (post σ (-2000000003 : Int32))))) ∧ ((¬ ((0 : Int32) ≤ a3)) → (post σ (-2000000002 : Int32)))))))
set_option maxRecDepth 20000 in
theorem kc_ft_tried {l : Launch} {D : va_G} {G : gAd} {post : CS → Int32 → Prop} {σ : CS} {a1 : Int32} {a2 : Int32} {a3 : Int32} (h : wc_ft_tried post σ a1 a2 a3) : cMet l D G yX12_tried cX12_tried 9 (some .int) 8 [.ref (G.1 200), .int a1, .int a2, .int a3] σ (pI post) := by
  unfold wc_ft_tried at h
  refine c_enter (own := RX12) (by decide +kernel) rfl [(0, .ref (G.1 200)), (1, .int a1), (2, .int a2), (3, .int a3)] rfl (Nat.le_of_ble_eq_true rfl) ?_
  intro E hE hm hF
  have hN := hm.2.2.2.2.2.2.1
  refine r_iload_n hE 2 dX12_tried_g0.1 rfl rfl ?_
  refine r_iconst (v := (1 : Int32)) hE dX12_tried_g0.2.1 (by decide) ?_
  refine r_icmp_lt hE 15 dX12_tried_g0.2.2.1 (by decide) h (fun h => ?_) (fun h => ?_)
  · refine r_ldc (v := (-2000000002 : Int32)) hE dX12_tried_g0.2.2.2.2.2.2.2.2.1 (gTb_2 (List.mem_of_getElem? (i := 212) rfl) rfl) ?_
    exact c_iret hE hm hF dX12_tried_g0.2.2.2.2.2.2.2.2.2.1 h
  · refine r_iload_n hE 2 dX12_tried_g0.2.2.2.1 rfl rfl ?_
    refine r_bipush (v := (20 : Int32)) hE dX12_tried_g0.2.2.2.2.1 (by decide) ?_
    refine r_icmp_gt hE 15 dX12_tried_g0.2.2.2.2.2.1 (by decide) h (fun h => ?_) (fun h => ?_)
    · refine r_ldc (v := (-2000000002 : Int32)) hE dX12_tried_g0.2.2.2.2.2.2.2.2.1 (gTb_2 (List.mem_of_getElem? (i := 212) rfl) rfl) ?_
      exact c_iret hE hm hF dX12_tried_g0.2.2.2.2.2.2.2.2.2.1 h
    · refine r_iload_n hE 3 dX12_tried_g0.2.2.2.2.2.2.1 rfl rfl ?_
      refine r_if_ge hE 18 dX12_tried_g0.2.2.2.2.2.2.2.1 (by decide) h (fun h => ?_) (fun h => ?_)
      · refine r_aload_n hE 0 dX12_tried_g0.2.2.2.2.2.2.2.2.2.2.1 rfl rfl ?_
        refine cg_ft_hasFigure hE hm fk_X12_34 dX12_tried_g0.2.2.2.2.2.2.2.2.2.2.2.1 ?_
        refine r_if_ne hE 28 dX12_tried_g0.2.2.2.2.2.2.2.2.2.2.2.2.1 (by decide) h (fun h => ?_) (fun h => ?_)
        · refine r_aload_n hE 0 dX12_tried_g0.2.2.2.2.2.2.2.2.2.2.2.2.2.2.2 rfl rfl ?_
          refine cg_ft_runs hE hm fk_X12_101 dX12_tried_g1.1 ?_
          refine r_iload_n hE 2 dX12_tried_g1.2.1 rfl rfl ?_
          refine r_iadd hE dX12_tried_g1.2.2.1 ?_
          refine r_sipush (v := (600 : Int32)) hE dX12_tried_g1.2.2.2.1 (by decide) ?_
          refine r_icmp_le hE 43 dX12_tried_g1.2.2.2.2.1 (by decide) h (fun h => ?_) (fun h => ?_)
          · refine r_aload_n hE 0 dX12_tried_g1.2.2.2.2.2.2.2.1 rfl rfl ?_
            refine cg_ft_frees hE hm fk_X12_76 dX12_tried_g1.2.2.2.2.2.2.2.2.1 ?_
            refine c_callVv hE hm [] [] ck_X12_277 (cr_fr hm rfl) (kc_fr_remember h) (by decide) rfl rfl (Nat.le_of_ble_eq_true rfl) dX12_tried_g1.2.2.2.2.2.2.2.2.2.1 (fun s10 h => ?_)
            refine r_iload_n hE 1 dX12_tried_g1.2.2.2.2.2.2.2.2.2.2.1 rfl rfl ?_
            refine r_istore hE [(4, .int a1), (0, .ref (G.1 200)), (1, .int a1), (2, .int a2), (3, .int a3)] dX12_tried_g1.2.2.2.2.2.2.2.2.2.2.2.1 hN (by decide) rfl ?_
            refine r_iconst (v := (0 : Int32)) hE dX12_tried_g1.2.2.2.2.2.2.2.2.2.2.2.2.1 (by decide) ?_
            refine r_istore hE [(5, .int (0 : Int32)), (4, .int a1), (0, .ref (G.1 200)), (1, .int a1), (2, .int a2), (3, .int a3)] dX12_tried_g1.2.2.2.2.2.2.2.2.2.2.2.2.2.1 hN (by decide) rfl ?_
            refine r_iconst (v := (-1 : Int32)) hE dX12_tried_g1.2.2.2.2.2.2.2.2.2.2.2.2.2.2.1 (by decide) ?_
            refine r_istore hE [(6, .int (-1 : Int32)), (5, .int (0 : Int32)), (4, .int a1), (0, .ref (G.1 200)), (1, .int a1), (2, .int a2), (3, .int a3)] dX12_tried_g1.2.2.2.2.2.2.2.2.2.2.2.2.2.2.2 hN (by decide) rfl ?_
            refine r_iconst (v := (0 : Int32)) hE dX12_tried_g2.1 (by decide) ?_
            refine r_istore hE [(7, .int (0 : Int32)), (6, .int (-1 : Int32)), (5, .int (0 : Int32)), (4, .int a1), (0, .ref (G.1 200)), (1, .int a1), (2, .int a2), (3, .int a3)] dX12_tried_g2.2.1 hN (by decide) rfl ?_
            refine r_pick [4, 6, 7, 3, 2, 1, 0] rfl ?_
            obtain ⟨k, h⟩ := h
            exact kc_ft_tried_62 hE hm hF k _ _ _ _ _ _ _ h
          · refine r_ldc (v := (-2000000004 : Int32)) hE dX12_tried_g1.2.2.2.2.2.1 (gTb_4 (List.mem_of_getElem? (i := 108) rfl) rfl) ?_
            exact c_iret hE hm hF dX12_tried_g1.2.2.2.2.2.2.1 h
        · refine r_ldc (v := (-2000000003 : Int32)) hE dX12_tried_g0.2.2.2.2.2.2.2.2.2.2.2.2.2.1 (gTb_2 (List.mem_of_getElem? (i := 200) rfl) rfl) ?_
          exact c_iret hE hm hF dX12_tried_g0.2.2.2.2.2.2.2.2.2.2.2.2.2.2.1 h
      · refine r_ldc (v := (-2000000002 : Int32)) hE dX12_tried_g0.2.2.2.2.2.2.2.2.1 (gTb_2 (List.mem_of_getElem? (i := 212) rfl) rfl) ?_
        exact c_iret hE hm hF dX12_tried_g0.2.2.2.2.2.2.2.2.2.1 h
