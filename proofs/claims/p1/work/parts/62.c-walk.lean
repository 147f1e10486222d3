/-! rd_params -/
def wc_rd_params_16 (post : CS → Prop) : Nat → CS → Int32 → Prop
  | 0, _, _ => False
  | n + 1, σ, v1 => (((3000 : Int32) ≤ v1) → (post σ)) ∧ ((¬ ((3000 : Int32) ≤ v1)) → (wc_rd_isSign (fun (s1 : CS) (r2 : Int32) => ((r2 = (0 : Int32)) → (post s1)) ∧ ((¬ (r2 = (0 : Int32))) → (wc_rd_next (fun (s3 : CS) => wc_rd_param (fun (s4 : CS) => ∀ x5 : Int32, x5 = v1 + (1 : Int32) → wc_rd_params_16 post n s4 x5) s3) s1))) σ (44 : Int32)))
set_option maxRecDepth 20000 in
theorem kc_rd_params_16  {E : gEnv} {l : Launch} {D : va_G} {G : gAd} {post : CS → Prop} (hE : gOK E cX5_params RX5 none 8) (hm : cOK E l D G (pV post) 2) (hF : gFin E) : ∀ (n0 : Nat) (σ : CS) (v1 : Int32), wc_rd_params_16 post n0 σ v1 → GW E (cW G σ) 16 [(0, .ref (G.1 600)), (1, .int v1)] [] := by
  intro n0
  induction n0 with
  | zero => intro σ v1 h; exact h.elim
  | succ n0 ih =>
    intro σ v1 h
    rw [wc_rd_params_16] at h
    have hN := hm.2.2.2.2.2.2.1
    refine r_iload_n hE 1 dX5_params_g0.2.2.2.2.2.2.2.2.2.1 rfl rfl ?_
    refine r_sipush (v := (3000 : Int32)) hE dX5_params_g0.2.2.2.2.2.2.2.2.2.2.1 (by decide) ?_
    refine r_icmp_ge hE 46 dX5_params_g0.2.2.2.2.2.2.2.2.2.2.2.1 (by decide) h (fun h => ?_) (fun h => ?_)
    · exact c_vret hE hm hF dX5_params_g1.2.2.2.2.2.2 h
    · refine r_aload_n hE 0 dX5_params_g0.2.2.2.2.2.2.2.2.2.2.2.2.1 rfl rfl ?_
      refine r_bipush (v := (44 : Int32)) hE dX5_params_g0.2.2.2.2.2.2.2.2.2.2.2.2.2.1 (by decide) ?_
      refine c_callVi hE hm [.int (44 : Int32)] [] ck_X5_88 (cr_rd hm rfl) (kc_rd_isSign h) (by decide) rfl rfl (Nat.le_of_ble_eq_true rfl) dX5_params_g0.2.2.2.2.2.2.2.2.2.2.2.2.2.2.1 (fun s1 r2 h => ?_)
      refine r_if_eq hE 46 dX5_params_g0.2.2.2.2.2.2.2.2.2.2.2.2.2.2.2 (by decide) h (fun h => ?_) (fun h => ?_)
      · exact c_vret hE hm hF dX5_params_g1.2.2.2.2.2.2 h
      · refine r_aload_n hE 0 dX5_params_g1.1 rfl rfl ?_
        refine c_callVv hE hm [] [] ck_X5_40 (cr_rd hm rfl) (kc_rd_next h) (by decide) rfl rfl (Nat.le_of_ble_eq_true rfl) dX5_params_g1.2.1 (fun s3 h => ?_)
        refine r_aload_n hE 0 dX5_params_g1.2.2.1 rfl rfl ?_
        refine c_callVv hE hm [] [] ck_X5_143 (cr_rd hm rfl) (kc_rd_param h) (by decide) rfl rfl (Nat.le_of_ble_eq_true rfl) dX5_params_g1.2.2.2.1 (fun s4 h => ?_)
        obtain ⟨x5, ex5⟩ : ∃ z : Int32, z = v1 + (1 : Int32) := ⟨_, rfl⟩
        have h := h x5 ex5
        refine r_iinc (v := x5) hE [(1, .int x5), (0, .ref (G.1 600))] 1 dX5_params_g1.2.2.2.2.1 rfl (by rw [ex5]; rfl) hN (by decide) rfl ?_
        refine r_goto hE 16 dX5_params_g1.2.2.2.2.2.1 (by decide) ?_
        refine r_pick [1, 0] rfl ?_
        exact ih _ _ h
def wc_rd_params (post : CS → Prop) (σ : CS) : Prop := wc_rd_isSign (fun (s6 : CS) (r7 : Int32) => ((r7 = (0 : Int32)) → (wc_rd_param (fun (s8 : CS) => ∃ k : Nat, wc_rd_params_16 post k s8 (0 : Int32)) s6)) ∧ ((¬ (r7 = (0 : Int32))) → (post s6))) σ (41 : Int32)
set_option maxRecDepth 20000 in
theorem kc_rd_params {l : Launch} {D : va_G} {G : gAd} {post : CS → Prop} {σ : CS} (h : wc_rd_params post σ) : cMet l D G yX5_params cX5_params 2 none 8 [.ref (G.1 600)] σ (pV post) := by
  unfold wc_rd_params at h
  refine c_enter (own := RX5) (by decide +kernel) rfl [(0, .ref (G.1 600))] rfl (Nat.le_of_ble_eq_true rfl) ?_
  intro E hE hm hF
  have hN := hm.2.2.2.2.2.2.1
  refine r_aload_n hE 0 dX5_params_g0.1 rfl rfl ?_
  refine r_bipush (v := (41 : Int32)) hE dX5_params_g0.2.1 (by decide) ?_
  refine c_callVi hE hm [.int (41 : Int32)] [] ck_X5_88 (cr_rd hm rfl) (kc_rd_isSign h) (by decide) rfl rfl (Nat.le_of_ble_eq_true rfl) dX5_params_g0.2.2.1 (fun s6 r7 h => ?_)
  refine r_if_eq hE 10 dX5_params_g0.2.2.2.1 (by decide) h (fun h => ?_) (fun h => ?_)
  · refine r_aload_n hE 0 dX5_params_g0.2.2.2.2.2.1 rfl rfl ?_
    refine c_callVv hE hm [] [] ck_X5_143 (cr_rd hm rfl) (kc_rd_param h) (by decide) rfl rfl (Nat.le_of_ble_eq_true rfl) dX5_params_g0.2.2.2.2.2.2.1 (fun s8 h => ?_)
    refine r_iconst (v := (0 : Int32)) hE dX5_params_g0.2.2.2.2.2.2.2.1 (by decide) ?_
    refine r_istore_n hE [(1, .int (0 : Int32)), (0, .ref (G.1 600))] dX5_params_g0.2.2.2.2.2.2.2.2.1 rfl hN (by decide) rfl ?_
    refine r_pick [1, 0] rfl ?_
    obtain ⟨k, h⟩ := h
    exact kc_rd_params_16 hE hm hF k _ _ h
  · exact c_vret hE hm hF dX5_params_g0.2.2.2.2.1 h
/-! rd_header -/
def wc_rd_header_79 (post : CS → Int32 → Prop) (σ : CS) (v1 : Int32) : Prop := wc_rd_noteFault (fun (s1 : CS) => post s1 v1) σ (4 : Int32) (c_rd_at σ)
set_option maxRecDepth 20000 in
theorem kc_rd_header_79  {E : gEnv} {l : Launch} {D : va_G} {G : gAd} {post : CS → Int32 → Prop} (hE : gOK E cX5_header RX5 (some .int) 9) (hm : cOK E l D G (pI post) 2) (hF : gFin E) (σ : CS) (v1 : Int32) (h : wc_rd_header_79 post σ v1) : GW E (cW G σ) 79 [(0, .ref (G.1 600)), (1, .int v1)] [] := by
  unfold wc_rd_header_79 at h
  have hN := hm.2.2.2.2.2.2.1
  refine r_aload_n hE 0 dX5_header_g2.2.2.2.2.2.2.1 rfl rfl ?_
  refine r_iconst (v := (4 : Int32)) hE dX5_header_g2.2.2.2.2.2.2.2.1 (by decide) ?_
  refine r_aload_n hE 0 dX5_header_g2.2.2.2.2.2.2.2.2.1 rfl rfl ?_
  refine cg_rd_at hE hm fk_X5_9 dX5_header_g2.2.2.2.2.2.2.2.2.2.1 ?_
  refine c_callVv hE hm [.int (4 : Int32), .int (c_rd_at σ)] [] ck_X5_71 (cr_rd hm rfl) (kc_rd_noteFault h) (by decide) rfl rfl (Nat.le_of_ble_eq_true rfl) dX5_header_g2.2.2.2.2.2.2.2.2.2.2.1 (fun s1 h => ?_)
  refine r_goto hE 133 dX5_header_g2.2.2.2.2.2.2.2.2.2.2.2.1 (by decide) ?_
  refine r_iload_n hE 1 dX5_header_g4.1 rfl rfl ?_
  exact c_iret hE hm hF dX5_header_g4.2 h
def wc_rd_header (post : CS → Int32 → Prop) (σ : CS) : Prop := wc_rd_next (fun (s2 : CS) => ∀ x3 : Int32, x3 = c_rd_at s2 → wc_rd_isName (fun (s4 : CS) (r5 : Int32) => ((¬ (r5 = (0 : Int32))) → (c_rd_figure s4 = 400 ∧ ((((c_sp_macros s4) < (12 : Int32)) → (c_rd_figure s4 = 400 ∧ (wc_SX5_toolNumber_sp (fun (s6 : CS) (r7 : Int32) => ((¬ (r7 = (-1 : Int32))) → (wc_rd_header_79 post s6 x3)) ∧ ((r7 = (-1 : Int32)) → (c_rd_figure s6 = 400 ∧ (wc_sp_macroNumber (fun (s8 : CS) (r9 : Int32) => ((r9 = (-1 : Int32)) → (c_rd_figure s8 = 400 ∧ (∀ s10 : CS, s10 = c_rd_scope_s s8 (c_sp_macros s8) → wc_rd_next (fun (s11 : CS) => wc_rd_want (fun (s12 : CS) => wc_rd_params (fun (s13 : CS) => wc_rd_want (fun (s14 : CS) => c_rd_figure s14 = 400 ∧ (wc_sp_endHeader (fun (s15 : CS) => post s15 x3) s14 (c_rd_scope s14))) s13 (41 : Int32)) s12) s11 (40 : Int32)) s10))) ∧ ((¬ (r9 = (-1 : Int32))) → (wc_rd_header_79 post s8 x3))) s6 x3)))) s4 x3))) ∧ ((¬ ((c_sp_macros s4) < (12 : Int32))) → (wc_rd_noteFault (fun (s16 : CS) => post s16 x3) s4 (3 : Int32) (c_rd_at s4)))))) ∧ ((r5 = (0 : Int32)) → (wc_rd_misplaced (fun (s17 : CS) (r18 : Int32) => wc_rd_noteFault (fun (s19 : CS) => post s19 x3) s17 r18 (c_rd_at s17)) s4))) s2) σ
set_option maxRecDepth 20000 in
theorem kc_rd_header {l : Launch} {D : va_G} {G : gAd} {post : CS → Int32 → Prop} {σ : CS} (h : wc_rd_header post σ) : cMet l D G yX5_header cX5_header 2 (some .int) 9 [.ref (G.1 600)] σ (pI post) := by
  unfold wc_rd_header at h
  refine c_enter (own := RX5) (by decide +kernel) rfl [(0, .ref (G.1 600))] rfl (Nat.le_of_ble_eq_true rfl) ?_
  intro E hE hm hF
  have hN := hm.2.2.2.2.2.2.1
  refine r_aload_n hE 0 dX5_header_g0.1 rfl rfl ?_
  refine c_callVv hE hm [] [] ck_X5_40 (cr_rd hm rfl) (kc_rd_next h) (by decide) rfl rfl (Nat.le_of_ble_eq_true rfl) dX5_header_g0.2.1 (fun s2 h => ?_)
  refine r_aload_n hE 0 dX5_header_g0.2.2.1 rfl rfl ?_
  refine cg_rd_at hE hm fk_X5_9 dX5_header_g0.2.2.2.1 ?_
  refine r_topi h (fun x3 ex3 h => ?_)
  refine r_istore_n hE [(1, .int x3), (0, .ref (G.1 600))] dX5_header_g0.2.2.2.2.1 rfl hN (by decide) rfl ?_
  refine r_aload_n hE 1 dX5_header_g0.2.2.2.2.2.1 rfl rfl ?_
  refine c_callVi hE hm [] [] ck_X5_118 (cr_rd hm rfl) (kc_rd_isName h) (by decide) rfl rfl (Nat.le_of_ble_eq_true rfl) dX5_header_g0.2.2.2.2.2.2.1 (fun s4 r5 h => ?_)
  refine r_if_ne hE 31 dX5_header_g0.2.2.2.2.2.2.2.1 (by decide) h (fun h => ?_) (fun h => ?_)
  · refine r_aload_n hE 1 dX5_header_g0.2.2.2.2.2.2.2.2.2.2.2.2.2.2.2 rfl rfl ?_
    obtain ⟨hj, h⟩ := h
    refine cg_rd_figure hE hm fk_X5_36 dX5_header_g1.1 hj ?_
    refine cg_sp_macros hE hm fk_X5_122 dX5_header_g1.2.1 ?_
    refine r_bipush (v := (12 : Int32)) hE dX5_header_g1.2.2.1 (by decide) ?_
    refine r_icmp_lt hE 55 dX5_header_g1.2.2.2.1 (by decide) h (fun h => ?_) (fun h => ?_)
    · refine r_aload_n hE 1 dX5_header_g1.2.2.2.2.2.2.2.2.2.2.1 rfl rfl ?_
      obtain ⟨hj, h⟩ := h
      refine cg_rd_figure hE hm fk_X5_36 dX5_header_g1.2.2.2.2.2.2.2.2.2.2.2.1 hj ?_
      refine r_iload_n hE 0 dX5_header_g1.2.2.2.2.2.2.2.2.2.2.2.2.1 rfl rfl ?_
      refine c_callSi hE hm [.ref (G.1 400), .int x3] [] ck_X5_125 (kc_SX5_toolNumber_sp h) (by decide) rfl rfl (Nat.le_of_ble_eq_true rfl) dX5_header_g1.2.2.2.2.2.2.2.2.2.2.2.2.2.1 (fun s6 r7 h => ?_)
      refine r_iconst (v := (-1 : Int32)) hE dX5_header_g1.2.2.2.2.2.2.2.2.2.2.2.2.2.2.1 (by decide) ?_
      refine r_icmp_ne hE 79 dX5_header_g1.2.2.2.2.2.2.2.2.2.2.2.2.2.2.2 (by decide) h (fun h => ?_) (fun h => ?_)
      · refine r_pick [1, 0] rfl ?_
        exact kc_rd_header_79 hE hm hF _ _ h
      · refine r_aload_n hE 1 dX5_header_g2.1 rfl rfl ?_
        obtain ⟨hj, h⟩ := h
        refine cg_rd_figure hE hm fk_X5_36 dX5_header_g2.2.1 hj ?_
        refine r_iload_n hE 0 dX5_header_g2.2.2.1 rfl rfl ?_
        refine c_callVi hE hm [.int x3] [] ck_X5_129 (cr_sp hm rfl) (kc_sp_macroNumber h) (by decide) rfl rfl (Nat.le_of_ble_eq_true rfl) dX5_header_g2.2.2.2.1 (fun s8 r9 h => ?_)
        refine r_iconst (v := (-1 : Int32)) hE dX5_header_g2.2.2.2.2.1 (by decide) ?_
        refine r_icmp_eq hE 91 dX5_header_g2.2.2.2.2.2.1 (by decide) h (fun h => ?_) (fun h => ?_)
        · refine r_aload_n hE 1 dX5_header_g2.2.2.2.2.2.2.2.2.2.2.2.2.1 rfl rfl ?_
          refine r_aload_n hE 1 dX5_header_g2.2.2.2.2.2.2.2.2.2.2.2.2.2.1 rfl rfl ?_
          obtain ⟨hj, h⟩ := h
          refine cg_rd_figure hE hm fk_X5_36 dX5_header_g2.2.2.2.2.2.2.2.2.2.2.2.2.2.2.1 hj ?_
          refine cg_sp_macros hE hm fk_X5_122 dX5_header_g2.2.2.2.2.2.2.2.2.2.2.2.2.2.2.2 ?_
          refine cp_rd_scope hE hm fk_X5_24 dX5_header_g3.1 h (fun s10 h => ?_)
          refine r_aload_n hE 1 dX5_header_g3.2.1 rfl rfl ?_
          refine c_callVv hE hm [] [] ck_X5_40 (cr_rd hm rfl) (kc_rd_next h) (by decide) rfl rfl (Nat.le_of_ble_eq_true rfl) dX5_header_g3.2.2.1 (fun s11 h => ?_)
          refine r_aload_n hE 1 dX5_header_g3.2.2.2.1 rfl rfl ?_
          refine r_bipush (v := (40 : Int32)) hE dX5_header_g3.2.2.2.2.1 (by decide) ?_
          refine c_callVv hE hm [.int (40 : Int32)] [] ck_X5_132 (cr_rd hm rfl) (kc_rd_want h) (by decide) rfl rfl (Nat.le_of_ble_eq_true rfl) dX5_header_g3.2.2.2.2.2.1 (fun s12 h => ?_)
          refine r_aload_n hE 1 dX5_header_g3.2.2.2.2.2.2.1 rfl rfl ?_
          refine c_callVv hE hm [] [] ck_X5_136 (cr_rd hm rfl) (kc_rd_params h) (by decide) rfl rfl (Nat.le_of_ble_eq_true rfl) dX5_header_g3.2.2.2.2.2.2.2.1 (fun s13 h => ?_)
          refine r_aload_n hE 1 dX5_header_g3.2.2.2.2.2.2.2.2.1 rfl rfl ?_
          refine r_bipush (v := (41 : Int32)) hE dX5_header_g3.2.2.2.2.2.2.2.2.2.1 (by decide) ?_
          refine c_callVv hE hm [.int (41 : Int32)] [] ck_X5_132 (cr_rd hm rfl) (kc_rd_want h) (by decide) rfl rfl (Nat.le_of_ble_eq_true rfl) dX5_header_g3.2.2.2.2.2.2.2.2.2.2.1 (fun s14 h => ?_)
          refine r_aload_n hE 1 dX5_header_g3.2.2.2.2.2.2.2.2.2.2.2.1 rfl rfl ?_
          obtain ⟨hj, h⟩ := h
          refine cg_rd_figure hE hm fk_X5_36 dX5_header_g3.2.2.2.2.2.2.2.2.2.2.2.2.1 hj ?_
          refine r_aload_n hE 1 dX5_header_g3.2.2.2.2.2.2.2.2.2.2.2.2.2.1 rfl rfl ?_
          refine cg_rd_scope hE hm fk_X5_24 dX5_header_g3.2.2.2.2.2.2.2.2.2.2.2.2.2.2.1 ?_
          refine c_callVv hE hm [.int (c_rd_scope s14)] [] ck_X5_139 (cr_sp hm rfl) (kc_sp_endHeader h) (by decide) rfl rfl (Nat.le_of_ble_eq_true rfl) dX5_header_g3.2.2.2.2.2.2.2.2.2.2.2.2.2.2.2 (fun s15 h => ?_)
          refine r_iload_n hE 0 dX5_header_g4.1 rfl rfl ?_
          exact c_iret hE hm hF dX5_header_g4.2 h
        · refine r_pick [1, 0] rfl ?_
          exact kc_rd_header_79 hE hm hF _ _ h
    · refine r_aload_n hE 1 dX5_header_g1.2.2.2.2.1 rfl rfl ?_
      refine r_iconst (v := (3 : Int32)) hE dX5_header_g1.2.2.2.2.2.1 (by decide) ?_
      refine r_aload_n hE 1 dX5_header_g1.2.2.2.2.2.2.1 rfl rfl ?_
      refine cg_rd_at hE hm fk_X5_9 dX5_header_g1.2.2.2.2.2.2.2.1 ?_
      refine c_callVv hE hm [.int (3 : Int32), .int (c_rd_at s4)] [] ck_X5_71 (cr_rd hm rfl) (kc_rd_noteFault h) (by decide) rfl rfl (Nat.le_of_ble_eq_true rfl) dX5_header_g1.2.2.2.2.2.2.2.2.1 (fun s16 h => ?_)
      refine r_goto hE 133 dX5_header_g1.2.2.2.2.2.2.2.2.2.1 (by decide) ?_
      refine r_iload_n hE 0 dX5_header_g4.1 rfl rfl ?_
      exact c_iret hE hm hF dX5_header_g4.2 h
  · refine r_aload_n hE 1 dX5_header_g0.2.2.2.2.2.2.2.2.1 rfl rfl ?_
    refine r_aload_n hE 1 dX5_header_g0.2.2.2.2.2.2.2.2.2.1 rfl rfl ?_
    refine c_callVi hE hm [] [.ref (G.1 600)] ck_X5_68 (cr_rd hm rfl) (kc_rd_misplaced h) (by decide) rfl rfl (Nat.le_of_ble_eq_true rfl) dX5_header_g0.2.2.2.2.2.2.2.2.2.2.1 (fun s17 r18 h => ?_)
    refine r_aload_n hE 1 dX5_header_g0.2.2.2.2.2.2.2.2.2.2.2.1 rfl rfl ?_
    refine cg_rd_at hE hm fk_X5_9 dX5_header_g0.2.2.2.2.2.2.2.2.2.2.2.2.1 ?_
    refine c_callVv hE hm [.int r18, .int (c_rd_at s17)] [] ck_X5_71 (cr_rd hm rfl) (kc_rd_noteFault h) (by decide) rfl rfl (Nat.le_of_ble_eq_true rfl) dX5_header_g0.2.2.2.2.2.2.2.2.2.2.2.2.2.1 (fun s19 h => ?_)
    refine r_goto hE 133 dX5_header_g0.2.2.2.2.2.2.2.2.2.2.2.2.2.2.1 (by decide) ?_
    refine r_iload_n hE 0 dX5_header_g4.1 rfl rfl ?_
    exact c_iret hE hm hF dX5_header_g4.2 h
/-! rd_take_sp -/
def wc_rd_take_sp_96 (post : CS → Int32 → Prop) (σ : CS) : Prop := ∀ s1 : CS, s1 = c_rd_scope_s σ (12 : Int32) → c_rd_figure s1 = 400 ∧ (wc_rd_deeds (fun (s2 : CS) (r3 : Int32) => ∀ s4 : CS, s4 = c_sp_firstDeed_s s2 r3 → (((c_rd_kind s4) = (0 : Int32)) → (post s4 (c_rd_fault s4))) ∧ ((¬ ((c_rd_kind s4) = (0 : Int32))) → (wc_rd_misplaced (fun (s5 : CS) (r6 : Int32) => wc_rd_noteFault (fun (s7 : CS) => post s7 (c_rd_fault s7)) s5 r6 (c_rd_at s5)) s4))) s1)
set_option maxRecDepth 20000 in
theorem kc_rd_take_sp_96  {E : gEnv} {l : Launch} {D : va_G} {G : gAd} {post : CS → Int32 → Prop} (hE : gOK E cX5_take RX5 (some .int) 408) (hm : cOK E l D G (pI post) 5) (hF : gFin E) (σ : CS) (h : wc_rd_take_sp_96 post σ) : GW E (cW G σ) 96 [(0, .ref (G.1 600))] [] := by
  unfold wc_rd_take_sp_96 at h
  have hN := hm.2.2.2.2.2.2.1
  refine r_aload_n hE 0 dX5_take_g3.2.1 rfl rfl ?_
  refine r_bipush (v := (12 : Int32)) hE dX5_take_g3.2.2.1 (by decide) ?_
  refine cp_rd_scope hE hm fk_X5_24 dX5_take_g3.2.2.2.1 h (fun s1 h => ?_)
  refine r_aload_n hE 0 dX5_take_g3.2.2.2.2.1 rfl rfl ?_
  obtain ⟨hj, h⟩ := h
  refine cg_rd_figure hE hm fk_X5_36 dX5_take_g3.2.2.2.2.2.1 hj ?_
  refine r_aload_n hE 0 dX5_take_g3.2.2.2.2.2.2.1 rfl rfl ?_
  refine c_callVi hE hm [] [.ref (G.1 400)] ck_X5_62 (cr_rd hm rfl) (kc_rd_deeds h) (by decide) rfl rfl (Nat.le_of_ble_eq_true rfl) dX5_take_g3.2.2.2.2.2.2.2.1 (fun s2 r3 h => ?_)
  refine cp_sp_firstDeed hE hm fk_X5_65 dX5_take_g3.2.2.2.2.2.2.2.2.1 h (fun s4 h => ?_)
  refine r_aload_n hE 0 dX5_take_g3.2.2.2.2.2.2.2.2.2.1 rfl rfl ?_
  refine cg_rd_kind hE hm fk_X5_18 dX5_take_g3.2.2.2.2.2.2.2.2.2.2.1 ?_
  refine r_if_eq hE 132 dX5_take_g3.2.2.2.2.2.2.2.2.2.2.2.1 (by decide) h (fun h => ?_) (fun h => ?_)
  · refine r_aload_n hE 0 dX5_take_g4.2.2.1 rfl rfl ?_
    refine cg_rd_fault hE hm fk_X5_30 dX5_take_g4.2.2.2.1 ?_
    exact c_iret hE hm hF dX5_take_g4.2.2.2.2 h
  · refine r_aload_n hE 0 dX5_take_g3.2.2.2.2.2.2.2.2.2.2.2.2.1 rfl rfl ?_
    refine r_aload_n hE 0 dX5_take_g3.2.2.2.2.2.2.2.2.2.2.2.2.2.1 rfl rfl ?_
    refine c_callVi hE hm [] [.ref (G.1 600)] ck_X5_68 (cr_rd hm rfl) (kc_rd_misplaced h) (by decide) rfl rfl (Nat.le_of_ble_eq_true rfl) dX5_take_g3.2.2.2.2.2.2.2.2.2.2.2.2.2.2.1 (fun s5 r6 h => ?_)
    refine r_aload_n hE 0 dX5_take_g3.2.2.2.2.2.2.2.2.2.2.2.2.2.2.2 rfl rfl ?_
    refine cg_rd_at hE hm fk_X5_9 dX5_take_g4.1 ?_
    refine c_callVv hE hm [.int r6, .int (c_rd_at s5)] [] ck_X5_71 (cr_rd hm rfl) (kc_rd_noteFault h) (by decide) rfl rfl (Nat.le_of_ble_eq_true rfl) dX5_take_g4.2.1 (fun s7 h => ?_)
    refine r_aload_n hE 0 dX5_take_g4.2.2.1 rfl rfl ?_
    refine cg_rd_fault hE hm fk_X5_30 dX5_take_g4.2.2.2.1 ?_
    exact c_iret hE hm hF dX5_take_g4.2.2.2.2 h
def wc_rd_take_sp_90 (post : CS → Int32 → Prop) (lp31 : CS → Int32 → Prop) (σ : CS) (v2 : Int32) : Prop := ∀ x8 : Int32, x8 = v2 + (1 : Int32) → lp31 σ x8
set_option maxRecDepth 20000 in
theorem kc_rd_take_sp_90  {E : gEnv} {l : Launch} {D : va_G} {G : gAd} {post : CS → Int32 → Prop} (hE : gOK E cX5_take RX5 (some .int) 408) (hm : cOK E l D G (pI post) 5) (hF : gFin E) {lp31 : CS → Int32 → Prop} (hl31 : ∀ (σ : CS) (v2 : Int32), lp31 σ v2 → GW E (cW G σ) 31 [(0, .ref (G.1 600)), (2, .int v2)] []) (σ : CS) (v2 : Int32) (h : wc_rd_take_sp_90 post lp31 σ v2) : GW E (cW G σ) 90 [(0, .ref (G.1 600)), (2, .int v2)] [] := by
  unfold wc_rd_take_sp_90 at h
  have hN := hm.2.2.2.2.2.2.1
  obtain ⟨x8, ex8⟩ : ∃ z : Int32, z = v2 + (1 : Int32) := ⟨_, rfl⟩
  have h := h x8 ex8
  refine r_iinc (v := x8) hE [(2, .int x8), (0, .ref (G.1 600))] 1 dX5_take_g2.2.2.2.2.2.2.2.2.2.2.2.2.2.2.2 rfl (by rw [ex8]; rfl) hN (by decide) rfl ?_
  refine r_goto hE 31 dX5_take_g3.1 (by decide) ?_
  refine r_pick [1, 0] rfl ?_
  exact hl31 _ _ h
def wc_rd_take_sp_31 (post : CS → Int32 → Prop) : Nat → CS → Int32 → Prop
  | 0, _, _ => False
  | n + 1, σ, v2 => (((3000 : Int32) ≤ v2) → (wc_rd_take_sp_96 post σ)) ∧ ((¬ ((3000 : Int32) ≤ v2)) → (((¬ ((c_rd_kind σ) = (2 : Int32))) → (wc_rd_take_sp_96 post σ)) ∧ (((c_rd_kind σ) = (2 : Int32)) → (c_rd_figure σ = 400 ∧ (wc_sp_isWord_s (fun (s9 : CS) (r10 : Int32) => ((r10 = (0 : Int32)) → (wc_rd_take_sp_96 post s9)) ∧ ((¬ (r10 = (0 : Int32))) → (wc_rd_header (fun (s11 : CS) (r12 : Int32) => wc_rd_block (fun (s13 : CS) (r14 : Int32) => ((¬ ((c_rd_fault s13) = (0 : Int32))) → (wc_rd_take_sp_90 post (fun (ys : CS) (y0 : Int32) => wc_rd_take_sp_31 post n ys y0) s13 v2)) ∧ (((c_rd_fault s13) = (0 : Int32)) → (c_rd_figure s13 = 400 ∧ (wc_sp_endMacro (fun (s15 : CS) => wc_rd_take_sp_90 post (fun (ys : CS) (y0 : Int32) => wc_rd_take_sp_31 post n ys y0) s15 v2) s13 r12 r14)))) s11) s9))) σ (c_rd_at σ) 1)))))
set_option maxRecDepth 20000 in
theorem kc_rd_take_sp_31  {E : gEnv} {l : Launch} {D : va_G} {G : gAd} {post : CS → Int32 → Prop} (hE : gOK E cX5_take RX5 (some .int) 408) (hm : cOK E l D G (pI post) 5) (hF : gFin E) : ∀ (n0 : Nat) (σ : CS) (v2 : Int32), wc_rd_take_sp_31 post n0 σ v2 → GW E (cW G σ) 31 [(0, .ref (G.1 600)), (2, .int v2)] [] := by
  intro n0
  induction n0 with
  | zero => intro σ v2 h; exact h.elim
  | succ n0 ih =>
    intro σ v2 h
    rw [wc_rd_take_sp_31] at h
    have hN := hm.2.2.2.2.2.2.1
    refine r_iload_n hE 1 dX5_take_g1.2.2.2.1 rfl rfl ?_
    refine r_sipush (v := (3000 : Int32)) hE dX5_take_g1.2.2.2.2.1 (by decide) ?_
    refine r_icmp_ge hE 96 dX5_take_g1.2.2.2.2.2.1 (by decide) h (fun h => ?_) (fun h => ?_)
    · refine r_pick [0] rfl ?_
      exact kc_rd_take_sp_96 hE hm hF _ h
    · refine r_aload_n hE 0 dX5_take_g1.2.2.2.2.2.2.1 rfl rfl ?_
      refine cg_rd_kind hE hm fk_X5_18 dX5_take_g1.2.2.2.2.2.2.2.1 ?_
      refine r_iconst (v := (2 : Int32)) hE dX5_take_g1.2.2.2.2.2.2.2.2.1 (by decide) ?_
      refine r_icmp_ne hE 96 dX5_take_g1.2.2.2.2.2.2.2.2.2.1 (by decide) h (fun h => ?_) (fun h => ?_)
      · refine r_pick [0] rfl ?_
        exact kc_rd_take_sp_96 hE hm hF _ h
      · refine r_aload_n hE 0 dX5_take_g1.2.2.2.2.2.2.2.2.2.2.1 rfl rfl ?_
        obtain ⟨hj, h⟩ := h
        refine cg_rd_figure hE hm fk_X5_36 dX5_take_g1.2.2.2.2.2.2.2.2.2.2.2.1 hj ?_
        refine r_aload_n hE 0 dX5_take_g1.2.2.2.2.2.2.2.2.2.2.2.2.1 rfl rfl ?_
        refine cg_rd_at hE hm fk_X5_9 dX5_take_g1.2.2.2.2.2.2.2.2.2.2.2.2.2.1 ?_
        refine ks_ldc (tx := "macro") (i := 1) hE hm (List.mem_of_getElem? (i := 1) rfl) dX5_take_g1.2.2.2.2.2.2.2.2.2.2.2.2.2.2.1 ?_
        refine c_callVi hE hm [.int (c_rd_at σ), .ref (G.1 (5000 + 1))] [] ck_X5_45 (cr_sp hm rfl) (kc_sp_isWord_s h) (by decide) rfl rfl (Nat.le_of_ble_eq_true rfl) dX5_take_g1.2.2.2.2.2.2.2.2.2.2.2.2.2.2.2 (fun s9 r10 h => ?_)
        refine r_if_eq hE 96 dX5_take_g2.1 (by decide) h (fun h => ?_) (fun h => ?_)
        · refine r_pick [0] rfl ?_
          exact kc_rd_take_sp_96 hE hm hF _ h
        · refine r_aload_n hE 0 dX5_take_g2.2.1 rfl rfl ?_
          refine c_callVi hE hm [] [] ck_X5_51 (cr_rd hm rfl) (kc_rd_header h) (by decide) rfl rfl (Nat.le_of_ble_eq_true rfl) dX5_take_g2.2.2.1 (fun s11 r12 h => ?_)
          refine r_istore_n hE [(3, .int r12), (0, .ref (G.1 600)), (2, .int v2)] dX5_take_g2.2.2.2.1 rfl hN (by decide) rfl ?_
          refine r_aload_n hE 1 dX5_take_g2.2.2.2.2.1 rfl rfl ?_
          refine c_callVi hE hm [] [] ck_X5_55 (cr_rd hm rfl) (kc_rd_block h) (by decide) rfl rfl (Nat.le_of_ble_eq_true rfl) dX5_take_g2.2.2.2.2.2.1 (fun s13 r14 h => ?_)
          refine r_istore hE [(4, .int r14), (3, .int r12), (0, .ref (G.1 600)), (2, .int v2)] dX5_take_g2.2.2.2.2.2.2.1 hN (by decide) rfl ?_
          refine r_aload_n hE 2 dX5_take_g2.2.2.2.2.2.2.2.1 rfl rfl ?_
          refine cg_rd_fault hE hm fk_X5_30 dX5_take_g2.2.2.2.2.2.2.2.2.1 ?_
          refine r_if_ne hE 90 dX5_take_g2.2.2.2.2.2.2.2.2.2.1 (by decide) h (fun h => ?_) (fun h => ?_)
          · refine r_pick [2, 3] rfl ?_
            exact kc_rd_take_sp_90 hE hm hF ih _ _ h
          · refine r_aload_n hE 2 dX5_take_g2.2.2.2.2.2.2.2.2.2.2.1 rfl rfl ?_
            obtain ⟨hj, h⟩ := h
            refine cg_rd_figure hE hm fk_X5_36 dX5_take_g2.2.2.2.2.2.2.2.2.2.2.2.1 hj ?_
            refine r_iload_n hE 1 dX5_take_g2.2.2.2.2.2.2.2.2.2.2.2.2.1 rfl rfl ?_
            refine r_iload hE 0 dX5_take_g2.2.2.2.2.2.2.2.2.2.2.2.2.2.1 rfl ?_
            refine c_callVv hE hm [.int r12, .int r14] [] ck_X5_58 (cr_sp hm rfl) (kc_sp_endMacro h) (by decide) rfl rfl (Nat.le_of_ble_eq_true rfl) dX5_take_g2.2.2.2.2.2.2.2.2.2.2.2.2.2.2.1 (fun s15 h => ?_)
            refine r_pick [2, 3] rfl ?_
            exact kc_rd_take_sp_90 hE hm hF ih _ _ h
def wc_rd_take_sp (post : CS → Int32 → Prop) (σ : CS) : Prop := ∀ s16 : CS, s16 = c_rd_figure_s σ 400 → ∀ s17 : CS, s17 = c_rd_end_s s16 (0 : Int32) → ∀ s18 : CS, s18 = c_rd_depth_s s17 (0 : Int32) → ∀ s19 : CS, s19 = c_rd_fault_s s18 (0 : Int32) → ∀ s20 : CS, s20 = c_rd_faultAt_s s19 (-1 : Int32) → wc_rd_next (fun (s21 : CS) => ∃ k : Nat, wc_rd_take_sp_31 post k s21 (0 : Int32)) s20
set_option maxRecDepth 20000 in
theorem kc_rd_take_sp {l : Launch} {D : va_G} {G : gAd} {post : CS → Int32 → Prop} {σ : CS} (h : wc_rd_take_sp post σ) : cMet l D G yX5_take cX5_take 5 (some .int) 408 [.ref (G.1 600), .ref (G.1 400)] σ (pI post) := by
  unfold wc_rd_take_sp at h
  refine c_enter (own := RX5) (by decide +kernel) rfl [(0, .ref (G.1 600)), (1, .ref (G.1 400))] rfl (Nat.le_of_ble_eq_true rfl) ?_
  intro E hE hm hF
  have hN := hm.2.2.2.2.2.2.1
  refine r_aload_n hE 0 dX5_take_g0.1 rfl rfl ?_
  refine r_aload_n hE 1 dX5_take_g0.2.1 rfl rfl ?_
  refine cp_rd_figure hE hm fk_X5_36 dX5_take_g0.2.2.1 h (fun s16 h => ?_)
  refine r_aload_n hE 0 dX5_take_g0.2.2.2.1 rfl rfl ?_
  refine r_iconst (v := (0 : Int32)) hE dX5_take_g0.2.2.2.2.1 (by decide) ?_
  refine cp_rd_end hE hm fk_X5_15 dX5_take_g0.2.2.2.2.2.1 h (fun s17 h => ?_)
  refine r_aload_n hE 0 dX5_take_g0.2.2.2.2.2.2.1 rfl rfl ?_
  refine r_iconst (v := (0 : Int32)) hE dX5_take_g0.2.2.2.2.2.2.2.1 (by decide) ?_
  refine cp_rd_depth hE hm fk_X5_27 dX5_take_g0.2.2.2.2.2.2.2.2.1 h (fun s18 h => ?_)
  refine r_aload_n hE 0 dX5_take_g0.2.2.2.2.2.2.2.2.2.1 rfl rfl ?_
  refine r_iconst (v := (0 : Int32)) hE dX5_take_g0.2.2.2.2.2.2.2.2.2.2.1 (by decide) ?_
  refine cp_rd_fault hE hm fk_X5_30 dX5_take_g0.2.2.2.2.2.2.2.2.2.2.2.1 h (fun s19 h => ?_)
  refine r_aload_n hE 0 dX5_take_g0.2.2.2.2.2.2.2.2.2.2.2.2.1 rfl rfl ?_
  refine r_iconst (v := (-1 : Int32)) hE dX5_take_g0.2.2.2.2.2.2.2.2.2.2.2.2.2.1 (by decide) ?_
  refine cp_rd_faultAt hE hm fk_X5_33 dX5_take_g0.2.2.2.2.2.2.2.2.2.2.2.2.2.2.1 h (fun s20 h => ?_)
  refine r_aload_n hE 0 dX5_take_g0.2.2.2.2.2.2.2.2.2.2.2.2.2.2.2 rfl rfl ?_
  refine c_callVv hE hm [] [] ck_X5_40 (cr_rd hm rfl) (kc_rd_next h) (by decide) rfl rfl (Nat.le_of_ble_eq_true rfl) dX5_take_g1.1 (fun s21 h => ?_)
  refine r_iconst (v := (0 : Int32)) hE dX5_take_g1.2.1 (by decide) ?_
  refine r_istore_n hE [(2, .int (0 : Int32)), (0, .ref (G.1 600)), (1, .ref (G.1 400))] dX5_take_g1.2.2.1 rfl hN (by decide) rfl ?_
  refine r_pick [1, 0] rfl ?_
  obtain ⟨k, h⟩ := h
  exact kc_rd_take_sp_31 hE hm hF k _ _ h
/-! th_clear -/
def wc_th_clear (post : CS → Prop) (σ : CS) : Prop := ∀ s1 : CS, s1 = c_th_many_s σ (0 : Int32) → post s1
set_option maxRecDepth 20000 in
theorem kc_th_clear {l : Launch} {D : va_G} {G : gAd} {post : CS → Prop} {σ : CS} (h : wc_th_clear post σ) : cMet l D G yX8_clear cX8_clear 1 none 1 [.ref (G.1 900)] σ (pV post) := by
  unfold wc_th_clear at h
  refine c_enter (own := RX8) (by decide +kernel) rfl [(0, .ref (G.1 900))] rfl (Nat.le_of_ble_eq_true rfl) ?_
  intro E hE hm hF
  have hN := hm.2.2.2.2.2.2.1
  refine r_aload_n hE 0 dX8_clear_g0.1 rfl rfl ?_
  refine r_iconst (v := (0 : Int32)) hE dX8_clear_g0.2.1 (by decide) ?_
  refine cp_th_many hE hm fk_X8_25 dX8_clear_g0.2.2.1 h (fun s1 h => ?_)
  exact c_vret hE hm hF dX8_clear_g0.2.2.2 h
/-! to_clear -/
def wc_to_clear (post : CS → Prop) (σ : CS) : Prop := ∀ s1 : CS, s1 = c_to_draws_s σ (0 : Int32) → ∀ s2 : CS, s2 = c_to_states_s s1 (0 : Int32) → ∀ s3 : CS, s3 = c_to_falls_s s2 (0 : Int32) → ∀ s4 : CS, s4 = c_to_steps_s s3 (0 : Int32) → ∀ s5 : CS, s5 = c_to_spent_s s4 (0 : Int32) → post s5
set_option maxRecDepth 20000 in
theorem kc_to_clear {l : Launch} {D : va_G} {G : gAd} {post : CS → Prop} {σ : CS} (h : wc_to_clear post σ) : cMet l D G yX9_clear cX9_clear 1 none 1 [.ref (G.1 1100)] σ (pV post) := by
  unfold wc_to_clear at h
  refine c_enter (own := RX9) (by decide +kernel) rfl [(0, .ref (G.1 1100))] rfl (Nat.le_of_ble_eq_true rfl) ?_
  intro E hE hm hF
  have hN := hm.2.2.2.2.2.2.1
  refine r_aload_n hE 0 dX9_clear_g0.1 rfl rfl ?_
  refine r_iconst (v := (0 : Int32)) hE dX9_clear_g0.2.1 (by decide) ?_
  refine cp_to_draws hE hm fk_X9_24 dX9_clear_g0.2.2.1 h (fun s1 h => ?_)
  refine r_aload_n hE 0 dX9_clear_g0.2.2.2.1 rfl rfl ?_
  refine r_iconst (v := (0 : Int32)) hE dX9_clear_g0.2.2.2.2.1 (by decide) ?_
  refine cp_to_states hE hm fk_X9_28 dX9_clear_g0.2.2.2.2.2.1 h (fun s2 h => ?_)
  refine r_aload_n hE 0 dX9_clear_g0.2.2.2.2.2.2.1 rfl rfl ?_
  refine r_iconst (v := (0 : Int32)) hE dX9_clear_g0.2.2.2.2.2.2.2.1 (by decide) ?_
  refine cp_to_falls hE hm fk_X9_31 dX9_clear_g0.2.2.2.2.2.2.2.2.1 h (fun s3 h => ?_)
  refine r_aload_n hE 0 dX9_clear_g0.2.2.2.2.2.2.2.2.2.1 rfl rfl ?_
  refine r_iconst (v := (0 : Int32)) hE dX9_clear_g0.2.2.2.2.2.2.2.2.2.2.1 (by decide) ?_
  refine cp_to_steps hE hm fk_X9_34 dX9_clear_g0.2.2.2.2.2.2.2.2.2.2.2.1 h (fun s4 h => ?_)
  refine r_aload_n hE 0 dX9_clear_g0.2.2.2.2.2.2.2.2.2.2.2.2.1 rfl rfl ?_
  refine r_iconst (v := (0 : Int32)) hE dX9_clear_g0.2.2.2.2.2.2.2.2.2.2.2.2.2.1 (by decide) ?_
  refine cp_to_spent hE hm fk_X9_37 dX9_clear_g0.2.2.2.2.2.2.2.2.2.2.2.2.2.2.1 (Or.inl rfl) h (fun s5 h => ?_)
  exact c_vret hE hm hF dX9_clear_g0.2.2.2.2.2.2.2.2.2.2.2.2.2.2.2 h
/-! ft_read -/
def wc_ft_read (post : CS → Int32 → Prop) (σ : CS) : Prop := c_ft_spare σ = 400 ∧ (wc_sp_clear_ft_tape (fun (s1 : CS) => ∀ s2 : CS, s2 = c_ft_tapeLength_s s1 (0 : Int32) → c_ft_spare s2 = 400 ∧ (wc_rd_take_sp (fun (s3 : CS) (r4 : Int32) => ∀ s5 : CS, s5 = c_ft_faultPlace_s s3 (c_rd_faultAt s3) → ((r4 = (0 : Int32)) → (c_ft_figure s5 = 300 ∧ (c_ft_spare s5 = 400 ∧ (∀ s6 : CS, s6 = c_ft_figure_s s5 400 → ∀ s7 : CS, s7 = c_ft_spare_s s6 300 → ∀ s8 : CS, s8 = c_ft_hasFigure_s s7 (1 : Int32) → wc_to_clear (fun (s9 : CS) => wc_th_clear (fun (s10 : CS) => wc_fr_clear (fun (s11 : CS) => ∀ s12 : CS, s12 = c_ft_sweepingMany_s s11 (0 : Int32) → c_ft_figure s12 = 400 ∧ (post s12 (c_sp_nodes s12))) s10) s9) s8)))) ∧ ((¬ (r4 = (0 : Int32))) → (post s5 (-r4)))) s2)) σ (c_ft_tapeLength σ))
set_option maxRecDepth 20000 in
theorem kc_ft_read {l : Launch} {D : va_G} {G : gAd} {post : CS → Int32 → Prop} {σ : CS} (h : wc_ft_read post σ) : cMet l D G yX12_read cX12_read 3 (some .int) 409 [.ref (G.1 200)] σ (pI post) := by
  unfold wc_ft_read at h
  refine c_enter (own := RX12) (by decide +kernel) rfl [(0, .ref (G.1 200))] rfl (Nat.le_of_ble_eq_true rfl) ?_
  intro E hE hm hF
  have hN := hm.2.2.2.2.2.2.1
  refine r_aload_n hE 0 dX12_read_g0.1 rfl rfl ?_
  obtain ⟨hj, h⟩ := h
  refine cg_ft_spare hE hm fk_X12_31 dX12_read_g0.2.1 hj ?_
  refine r_aload_n hE 0 dX12_read_g0.2.2.1 rfl rfl ?_
  refine cg_ft_tape hE hm fk_X12_9 dX12_read_g0.2.2.2.1 ?_
  refine r_aload_n hE 0 dX12_read_g0.2.2.2.2.1 rfl rfl ?_
  refine cg_ft_tapeLength hE hm fk_X12_13 dX12_read_g0.2.2.2.2.2.1 ?_
  refine c_callVv hE hm [.ref (G.1 201), .int (c_ft_tapeLength σ)] [] ck_X12_117 (cr_sp hm rfl) (kc_sp_clear_ft_tape h) (by decide) rfl rfl (Nat.le_of_ble_eq_true rfl) dX12_read_g0.2.2.2.2.2.2.1 (fun s1 h => ?_)
  refine r_aload_n hE 0 dX12_read_g0.2.2.2.2.2.2.2.1 rfl rfl ?_
  refine r_iconst (v := (0 : Int32)) hE dX12_read_g0.2.2.2.2.2.2.2.2.1 (by decide) ?_
  refine cp_ft_tapeLength hE hm fk_X12_13 dX12_read_g0.2.2.2.2.2.2.2.2.2.1 h (fun s2 h => ?_)
  refine r_aload_n hE 0 dX12_read_g0.2.2.2.2.2.2.2.2.2.2.1 rfl rfl ?_
  refine cg_ft_reader hE hm fk_X12_46 dX12_read_g0.2.2.2.2.2.2.2.2.2.2.2.1 ?_
  refine r_aload_n hE 0 dX12_read_g0.2.2.2.2.2.2.2.2.2.2.2.2.1 rfl rfl ?_
  obtain ⟨hj, h⟩ := h
  refine cg_ft_spare hE hm fk_X12_31 dX12_read_g0.2.2.2.2.2.2.2.2.2.2.2.2.2.1 hj ?_
  refine c_callVi hE hm [.ref (G.1 400)] [] ck_X12_121 (cr_rd hm rfl) (kc_rd_take_sp h) (by decide) rfl rfl (Nat.le_of_ble_eq_true rfl) dX12_read_g0.2.2.2.2.2.2.2.2.2.2.2.2.2.2.1 (fun s3 r4 h => ?_)
  refine r_istore_n hE [(1, .int r4), (0, .ref (G.1 200))] dX12_read_g0.2.2.2.2.2.2.2.2.2.2.2.2.2.2.2 rfl hN (by decide) rfl ?_
  refine r_aload_n hE 1 dX12_read_g1.1 rfl rfl ?_
  refine r_aload_n hE 1 dX12_read_g1.2.1 rfl rfl ?_
  refine cg_ft_reader hE hm fk_X12_46 dX12_read_g1.2.2.1 ?_
  refine cg_rd_faultAt hE hm fk_X12_125 dX12_read_g1.2.2.2.1 ?_
  refine cp_ft_faultPlace hE hm fk_X12_38 dX12_read_g1.2.2.2.2.1 h (fun s5 h => ?_)
  refine r_iload_n hE 0 dX12_read_g1.2.2.2.2.2.1 rfl rfl ?_
  refine r_if_eq hE 50 dX12_read_g1.2.2.2.2.2.2.1 (by decide) h (fun h => ?_) (fun h => ?_)
  · refine r_aload_n hE 1 dX12_read_g1.2.2.2.2.2.2.2.2.2.2.1 rfl rfl ?_
    obtain ⟨hj, h⟩ := h
    refine cg_ft_figure hE hm fk_X12_27 dX12_read_g1.2.2.2.2.2.2.2.2.2.2.2.1 hj ?_
    refine r_astore_n hE [(2, .ref (G.1 300)), (1, .int r4), (0, .ref (G.1 200))] dX12_read_g1.2.2.2.2.2.2.2.2.2.2.2.2.1 rfl hN (by decide) rfl ?_
    refine r_aload_n hE 2 dX12_read_g1.2.2.2.2.2.2.2.2.2.2.2.2.2.1 rfl rfl ?_
    refine r_aload_n hE 2 dX12_read_g1.2.2.2.2.2.2.2.2.2.2.2.2.2.2.1 rfl rfl ?_
    obtain ⟨hj, h⟩ := h
    refine cg_ft_spare hE hm fk_X12_31 dX12_read_g1.2.2.2.2.2.2.2.2.2.2.2.2.2.2.2 hj ?_
    refine cp_ft_figure hE hm fk_X12_27 dX12_read_g2.1 h (fun s6 h => ?_)
    refine r_aload_n hE 2 dX12_read_g2.2.1 rfl rfl ?_
    refine r_aload_n hE 0 dX12_read_g2.2.2.1 rfl rfl ?_
    refine cp_ft_spare hE hm fk_X12_31 dX12_read_g2.2.2.2.1 h (fun s7 h => ?_)
    refine r_aload_n hE 2 dX12_read_g2.2.2.2.2.1 rfl rfl ?_
    refine r_iconst (v := (1 : Int32)) hE dX12_read_g2.2.2.2.2.2.1 (by decide) ?_
    refine cp_ft_hasFigure hE hm fk_X12_34 dX12_read_g2.2.2.2.2.2.2.1 (Or.inr rfl) h (fun s8 h => ?_)
    refine r_aload_n hE 2 dX12_read_g2.2.2.2.2.2.2.2.1 rfl rfl ?_
    refine cg_ft_told hE hm fk_X12_83 dX12_read_g2.2.2.2.2.2.2.2.2.1 ?_
    refine c_callVv hE hm [] [] ck_X12_128 (cr_to hm rfl) (kc_to_clear h) (by decide) rfl rfl (Nat.le_of_ble_eq_true rfl) dX12_read_g2.2.2.2.2.2.2.2.2.2.1 (fun s9 h => ?_)
    refine r_aload_n hE 2 dX12_read_g2.2.2.2.2.2.2.2.2.2.2.1 rfl rfl ?_
    refine cg_ft_things hE hm fk_X12_69 dX12_read_g2.2.2.2.2.2.2.2.2.2.2.2.1 ?_
    refine c_callVv hE hm [] [] ck_X12_130 (cr_th hm rfl) (kc_th_clear h) (by decide) rfl rfl (Nat.le_of_ble_eq_true rfl) dX12_read_g2.2.2.2.2.2.2.2.2.2.2.2.2.1 (fun s10 h => ?_)
    refine r_aload_n hE 2 dX12_read_g2.2.2.2.2.2.2.2.2.2.2.2.2.2.1 rfl rfl ?_
    refine cg_ft_frees hE hm fk_X12_76 dX12_read_g2.2.2.2.2.2.2.2.2.2.2.2.2.2.2.1 ?_
    refine c_callVv hE hm [] [] ck_X12_131 (cr_fr hm rfl) (kc_fr_clear h) (by decide) rfl rfl (Nat.le_of_ble_eq_true rfl) dX12_read_g2.2.2.2.2.2.2.2.2.2.2.2.2.2.2.2 (fun s11 h => ?_)
    refine r_aload_n hE 2 dX12_read_g3.1 rfl rfl ?_
    refine r_iconst (v := (0 : Int32)) hE dX12_read_g3.2.1 (by decide) ?_
    refine cp_ft_sweepingMany hE hm fk_X12_108 dX12_read_g3.2.2.1 h (fun s12 h => ?_)
    refine r_aload_n hE 2 dX12_read_g3.2.2.2.1 rfl rfl ?_
    obtain ⟨hj, h⟩ := h
    refine cg_ft_figure hE hm fk_X12_27 dX12_read_g3.2.2.2.2.1 hj ?_
    refine cg_sp_nodes hE hm fk_X12_132 dX12_read_g3.2.2.2.2.2.1 ?_
    exact c_iret hE hm hF dX12_read_g3.2.2.2.2.2.2 h
  · refine r_iload_n hE 0 dX12_read_g1.2.2.2.2.2.2.2.1 rfl rfl ?_
    refine r_ineg hE dX12_read_g1.2.2.2.2.2.2.2.2.1 ?_
    exact c_iret hE hm hF dX12_read_g1.2.2.2.2.2.2.2.2.2.1 h
/-! ft_place -/
def wc_ft_place (post : CS → Int32 → Prop) (σ : CS) : Prop := post σ (c_ft_faultPlace σ)
set_option maxRecDepth 20000 in
theorem kc_ft_place {l : Launch} {D : va_G} {G : gAd} {post : CS → Int32 → Prop} {σ : CS} (h : wc_ft_place post σ) : cMet l D G yX12_place cX12_place 1 (some .int) 1 [.ref (G.1 200)] σ (pI post) := by
  unfold wc_ft_place at h
  refine c_enter (own := RX12) (by decide +kernel) rfl [(0, .ref (G.1 200))] rfl (Nat.le_of_ble_eq_true rfl) ?_
  intro E hE hm hF
  have hN := hm.2.2.2.2.2.2.1
  refine r_aload_n hE 0 dX12_place_g0.1 rfl rfl ?_
  refine cg_ft_faultPlace hE hm fk_X12_38 dX12_place_g0.2.1 ?_
  exact c_iret hE hm hF dX12_place_g0.2.2 h
/-! fg_namesIn -/
def wc_fg_namesIn (post : CS → Int32 → Prop) (σ : CS) (a1 : Int32) : Prop := wc_SX12_inside (fun (s1 : CS) (r2 : Int32) => ((r2 = (0 : Int32)) → (post s1 (0 : Int32))) ∧ ((¬ (r2 = (0 : Int32))) → (vp_in a1 13 ∧ (post s1 (c_fg_names s1 a1.toNatClampNeg))))) σ a1 (13 : Int32)
set_option maxRecDepth 20000 in
theorem kc_fg_namesIn {l : Launch} {D : va_G} {G : gAd} {post : CS → Int32 → Prop} {σ : CS} {a1 : Int32} (h : wc_fg_namesIn post σ a1) : cMet l D G yX1_namesIn cX1_namesIn 2 (some .int) 2 [.ref (G.1 300), .int a1] σ (pI post) := by
  unfold wc_fg_namesIn at h
  refine c_enter (own := RX1) (by decide +kernel) rfl [(0, .ref (G.1 300)), (1, .int a1)] rfl (Nat.le_of_ble_eq_true rfl) ?_
  intro E hE hm hF
  have hN := hm.2.2.2.2.2.2.1
  refine r_iload_n hE 1 dX1_namesIn_g0.1 rfl rfl ?_
  refine r_aload_n hE 0 dX1_namesIn_g0.2.1 rfl rfl ?_
  refine cg_fg_names hE hm fk_X1_53 dX1_namesIn_g0.2.2.1 ?_
  refine cn_fg_names hE hm dX1_namesIn_g0.2.2.2.1 ?_
  refine c_callSNi hE hm [.int a1, .int (13 : Int32)] [] ck_X1_74 cw_X1_74 (kc_SX12_inside h) (by decide) rfl rfl (Nat.le_of_ble_eq_true rfl) dX1_namesIn_g0.2.2.2.2.1 (fun s1 r2 h => ?_)
  refine r_if_eq hE 21 dX1_namesIn_g0.2.2.2.2.2.1 (by decide) h (fun h => ?_) (fun h => ?_)
  · refine r_iconst (v := (0 : Int32)) hE dX1_namesIn_g0.2.2.2.2.2.2.2.2.2.2.2.1 (by decide) ?_
    exact c_iret hE hm hF dX1_namesIn_g0.2.2.2.2.2.2.2.2.2.2.2.2 h
  · refine r_aload_n hE 0 dX1_namesIn_g0.2.2.2.2.2.2.1 rfl rfl ?_
    refine cg_fg_names hE hm fk_X1_53 dX1_namesIn_g0.2.2.2.2.2.2.2.1 ?_
    refine r_iload_n hE 1 dX1_namesIn_g0.2.2.2.2.2.2.2.2.1 rfl rfl ?_
    obtain ⟨hi, h⟩ := h
    refine cl_fg_names hE hm dX1_namesIn_g0.2.2.2.2.2.2.2.2.2.1 hi ?_
    refine r_goto hE 22 dX1_namesIn_g0.2.2.2.2.2.2.2.2.2.2.1 (by decide) ?_
    exact c_iret hE hm hF dX1_namesIn_g0.2.2.2.2.2.2.2.2.2.2.2.2 h
/-! ft_about -/
def wc_ft_about (post : CS → Int32 → Prop) (σ : CS) (a1 : Int32) : Prop := ((a1 < (0 : Int32)) → (post σ (-2000000002 : Int32))) ∧ ((¬ (a1 < (0 : Int32))) → (((a1 ≤ (3 : Int32)) → (((¬ ((c_ft_hasFigure σ) = (0 : Int32))) → ((a1 = (0 : Int32) → (c_ft_figure σ = 300 ∧ (post σ (c_fg_macros σ)))) ∧ (¬ a1 = (0 : Int32) → ((a1 = (1 : Int32) → (c_ft_figure σ = 300 ∧ (post σ (c_fg_nodes σ)))) ∧ (¬ a1 = (1 : Int32) → ((a1 = (2 : Int32) → (c_ft_figure σ = 300 ∧ (post σ (c_fg_deeds σ)))) ∧ (¬ a1 = (2 : Int32) → (c_ft_figure σ = 300 ∧ (wc_fg_namesIn (fun (s1 : CS) (r2 : Int32) => post s1 r2) σ (12 : Int32)))))))))) ∧ (((c_ft_hasFigure σ) = (0 : Int32)) → (post σ (-2000000003 : Int32))))) ∧ ((¬ (a1 ≤ (3 : Int32))) → (post σ (-2000000002 : Int32)))))
set_option maxRecDepth 20000 in
theorem kc_ft_about {l : Launch} {D : va_G} {G : gAd} {post : CS → Int32 → Prop} {σ : CS} {a1 : Int32} (h : wc_ft_about post σ a1) : cMet l D G yX12_about cX12_about 2 (some .int) 3 [.ref (G.1 200), .int a1] σ (pI post) := by
  unfold wc_ft_about at h
  refine c_enter (own := RX12) (by decide +kernel) rfl [(0, .ref (G.1 200)), (1, .int a1)] rfl (Nat.le_of_ble_eq_true rfl) ?_
  intro E hE hm hF
  have hN := hm.2.2.2.2.2.2.1
  refine r_iload_n hE 1 dX12_about_g0.1 rfl rfl ?_
  refine r_if_lt hE 9 dX12_about_g0.2.1 (by decide) h (fun h => ?_) (fun h => ?_)
  · refine r_ldc (v := (-2000000002 : Int32)) hE dX12_about_g0.2.2.2.2.2.1 (gTb_2 (List.mem_of_getElem? (i := 212) rfl) rfl) ?_
    exact c_iret hE hm hF dX12_about_g0.2.2.2.2.2.2.1 h
  · refine r_iload_n hE 1 dX12_about_g0.2.2.1 rfl rfl ?_
    refine r_iconst (v := (3 : Int32)) hE dX12_about_g0.2.2.2.1 (by decide) ?_
    refine r_icmp_le hE 12 dX12_about_g0.2.2.2.2.1 (by decide) h (fun h => ?_) (fun h => ?_)
    · refine r_aload_n hE 0 dX12_about_g0.2.2.2.2.2.2.2.1 rfl rfl ?_
      refine cg_ft_hasFigure hE hm fk_X12_34 dX12_about_g0.2.2.2.2.2.2.2.2.1 ?_
      refine r_if_ne hE 22 dX12_about_g0.2.2.2.2.2.2.2.2.2.1 (by decide) h (fun h => ?_) (fun h => ?_)
      · refine r_iload_n hE 1 dX12_about_g0.2.2.2.2.2.2.2.2.2.2.2.2.1 rfl rfl ?_
        refine r_case (0 : Int32) h (fun q0 h => ?_) (fun q0 h => ?_)
        · refine r_tableAt (off := 25) hE (0 : Int32) 48 dX12_about_g0.2.2.2.2.2.2.2.2.2.2.2.2.2.1 q0 (by decide) (by decide) (by decide) (by decide) ?_
          refine r_aload_n hE 0 dX12_about_g0.2.2.2.2.2.2.2.2.2.2.2.2.2.2.1 rfl rfl ?_
          obtain ⟨hj, h⟩ := h
          refine cg_ft_figure hE hm fk_X12_27 dX12_about_g0.2.2.2.2.2.2.2.2.2.2.2.2.2.2.2 hj ?_
          refine cg_fg_macros hE hm fk_X12_135 dX12_about_g1.1 ?_
          exact c_iret hE hm hF dX12_about_g1.2.1 h
        · refine r_case (1 : Int32) h (fun q1 h => ?_) (fun q1 h => ?_)
          · refine r_tableAt (off := 33) hE (1 : Int32) 56 dX12_about_g0.2.2.2.2.2.2.2.2.2.2.2.2.2.1 q1 (by decide) (by decide) (by decide) (by decide) ?_
            refine r_aload_n hE 0 dX12_about_g1.2.2.1 rfl rfl ?_
            obtain ⟨hj, h⟩ := h
            refine cg_ft_figure hE hm fk_X12_27 dX12_about_g1.2.2.2.1 hj ?_
            refine cg_fg_nodes hE hm fk_X12_132 dX12_about_g1.2.2.2.2.1 ?_
            exact c_iret hE hm hF dX12_about_g1.2.2.2.2.2.1 h
          · refine r_case (2 : Int32) h (fun q2 h => ?_) (fun q2 h => ?_)
            · refine r_tableAt (off := 41) hE (2 : Int32) 64 dX12_about_g0.2.2.2.2.2.2.2.2.2.2.2.2.2.1 q2 (by decide) (by decide) (by decide) (by decide) ?_
              refine r_aload_n hE 0 dX12_about_g1.2.2.2.2.2.2.1 rfl rfl ?_
              obtain ⟨hj, h⟩ := h
              refine cg_ft_figure hE hm fk_X12_27 dX12_about_g1.2.2.2.2.2.2.2.1 hj ?_
              refine cg_fg_deeds hE hm fk_X12_138 dX12_about_g1.2.2.2.2.2.2.2.2.1 ?_
              exact c_iret hE hm hF dX12_about_g1.2.2.2.2.2.2.2.2.2.1 h
            · have n0 := lv_neT q0 (show (0 : Int32).toInt = 0 by decide)
              have n1 := lv_neT q1 (show (1 : Int32).toInt = 1 by decide)
              have n2 := lv_neT q2 (show (2 : Int32).toInt = 2 by decide)
              refine r_tableOut hE 72 dX12_about_g0.2.2.2.2.2.2.2.2.2.2.2.2.2.1 (by omega) (by decide) ?_
              refine r_aload_n hE 0 dX12_about_g1.2.2.2.2.2.2.2.2.2.2.1 rfl rfl ?_
              obtain ⟨hj, h⟩ := h
              refine cg_ft_figure hE hm fk_X12_27 dX12_about_g1.2.2.2.2.2.2.2.2.2.2.2.1 hj ?_
              refine r_bipush (v := (12 : Int32)) hE dX12_about_g1.2.2.2.2.2.2.2.2.2.2.2.2.1 (by decide) ?_
              refine c_callVi hE hm [.int (12 : Int32)] [] ck_X12_141 (cr_fg hm rfl) (kc_fg_namesIn h) (by decide) rfl rfl (Nat.le_of_ble_eq_true rfl) dX12_about_g1.2.2.2.2.2.2.2.2.2.2.2.2.2.1 (fun s1 r2 h => ?_)
              exact c_iret hE hm hF dX12_about_g1.2.2.2.2.2.2.2.2.2.2.2.2.2.2 h
      · refine r_ldc (v := (-2000000003 : Int32)) hE dX12_about_g0.2.2.2.2.2.2.2.2.2.2.1 (gTb_2 (List.mem_of_getElem? (i := 200) rfl) rfl) ?_
        exact c_iret hE hm hF dX12_about_g0.2.2.2.2.2.2.2.2.2.2.2.1 h
    · refine r_ldc (v := (-2000000002 : Int32)) hE dX12_about_g0.2.2.2.2.2.1 (gTb_2 (List.mem_of_getElem? (i := 212) rfl) rfl) ?_
      exact c_iret hE hm hF dX12_about_g0.2.2.2.2.2.2.1 h
/-! fr_moveTo -/
def wc_fr_moveTo (post : CS → Prop) (σ : CS) (a1 : Int32) (a2 : Int64) (a4 : Int64) : Prop := wc_SX12_inside (fun (s1 : CS) (r2 : Int32) => ((r2 = (0 : Int32)) → (post s1)) ∧ ((¬ (r2 = (0 : Int32))) → (vp_in a1 12 ∧ (∀ s3 : CS, s3 = c_fr_moved_s s1 a1.toNatClampNeg (1 : Int32) → vp_in a1 12 ∧ (∀ s4 : CS, s4 = c_fr_toX_s s3 a1.toNatClampNeg a2 → vp_in a1 12 ∧ (∀ s5 : CS, s5 = c_fr_toY_s s4 a1.toNatClampNeg a4 → post s5)))))) σ a1 (12 : Int32)
set_option maxRecDepth 20000 in
theorem kc_fr_moveTo {l : Launch} {D : va_G} {G : gAd} {post : CS → Prop} {σ : CS} {a1 : Int32} {a2 : Int64} {a4 : Int64} (h : wc_fr_moveTo post σ a1 a2 a4) : cMet l D G yX2_moveTo cX2_moveTo 6 none 2 [.ref (G.1 1000), .int a1, .long a2, .long a4] σ (pV post) := by
  unfold wc_fr_moveTo at h
  refine c_enter (own := RX2) (by decide +kernel) rfl [(0, .ref (G.1 1000)), (1, .int a1), (2, .long a2), (4, .long a4)] rfl (Nat.le_of_ble_eq_true rfl) ?_
  intro E hE hm hF
  have hN := hm.2.2.2.2.2.2.1
  refine r_iload_n hE 1 dX2_moveTo_g0.1 rfl rfl ?_
  refine r_bipush (v := (12 : Int32)) hE dX2_moveTo_g0.2.1 (by decide) ?_
  refine c_callSNi hE hm [.int a1, .int (12 : Int32)] [] ck_X2_39 cw_X2_39 (kc_SX12_inside h) (by decide) rfl rfl (Nat.le_of_ble_eq_true rfl) dX2_moveTo_g0.2.2.1 (fun s1 r2 h => ?_)
  refine r_if_eq hE 31 dX2_moveTo_g0.2.2.2.1 (by decide) h (fun h => ?_) (fun h => ?_)
  · exact c_vret hE hm hF dX2_moveTo_g1.2.2.2 h
  · refine r_aload_n hE 0 dX2_moveTo_g0.2.2.2.2.1 rfl rfl ?_
    refine cg_fr_moved hE hm fk_X2_9 dX2_moveTo_g0.2.2.2.2.2.1 ?_
    refine r_iload_n hE 1 dX2_moveTo_g0.2.2.2.2.2.2.1 rfl rfl ?_
    refine r_iconst (v := (1 : Int32)) hE dX2_moveTo_g0.2.2.2.2.2.2.2.1 (by decide) ?_
    obtain ⟨hi, h⟩ := h
    refine cs_fr_moved hE hm dX2_moveTo_g0.2.2.2.2.2.2.2.2.1 hi (Or.inr rfl) h (fun s3 h => ?_)
    refine r_aload_n hE 0 dX2_moveTo_g0.2.2.2.2.2.2.2.2.2.1 rfl rfl ?_
    refine cg_fr_toX hE hm fk_X2_15 dX2_moveTo_g0.2.2.2.2.2.2.2.2.2.2.1 ?_
    refine r_iload_n hE 1 dX2_moveTo_g0.2.2.2.2.2.2.2.2.2.2.2.1 rfl rfl ?_
    refine r_lload_n hE 2 dX2_moveTo_g0.2.2.2.2.2.2.2.2.2.2.2.2.1 rfl rfl ?_
    obtain ⟨hi, h⟩ := h
    refine cs_fr_toX hE hm dX2_moveTo_g0.2.2.2.2.2.2.2.2.2.2.2.2.2.1 hi h (fun s4 h => ?_)
    refine r_aload_n hE 0 dX2_moveTo_g0.2.2.2.2.2.2.2.2.2.2.2.2.2.2.1 rfl rfl ?_
    refine cg_fr_toY hE hm fk_X2_19 dX2_moveTo_g0.2.2.2.2.2.2.2.2.2.2.2.2.2.2.2 ?_
    refine r_iload_n hE 1 dX2_moveTo_g1.1 rfl rfl ?_
    refine r_lload hE 3 dX2_moveTo_g1.2.1 rfl ?_
    obtain ⟨hi, h⟩ := h
    refine cs_fr_toY hE hm dX2_moveTo_g1.2.2.1 hi h (fun s5 h => ?_)
    exact c_vret hE hm hF dX2_moveTo_g1.2.2.2 h
/-! rk_begin -/
def wc_rk_begin (post : CS → Prop) (σ : CS) : Prop := ∀ s1 : CS, s1 = c_rk_failure_s σ (0 : Int32) → post s1
set_option maxRecDepth 20000 in
theorem kc_rk_begin {l : Launch} {D : va_G} {G : gAd} {post : CS → Prop} {σ : CS} (h : wc_rk_begin post σ) : cMet l D G yX6_begin cX6_begin 1 none 1 [.ref (G.1 800)] σ (pV post) := by
  unfold wc_rk_begin at h
  refine c_enter (own := RX6) (by decide +kernel) rfl [(0, .ref (G.1 800))] rfl (Nat.le_of_ble_eq_true rfl) ?_
  intro E hE hm hF
  have hN := hm.2.2.2.2.2.2.1
  refine r_aload_n hE 0 dX6_begin_g0.1 rfl rfl ?_
  refine r_iconst (v := (0 : Int32)) hE dX6_begin_g0.2.1 (by decide) ?_
  refine cp_rk_failure hE hm fk_X6_9 dX6_begin_g0.2.2.1 h (fun s1 h => ?_)
  exact c_vret hE hm hF dX6_begin_g0.2.2.2 h
/-! rk_reduced -/
def wc_rk_reduced_150 (post : CS → Int64 → Prop) (σ : CS) : Prop := ∀ s1 : CS, s1 = c_rk_failure_s σ (7 : Int32) → post s1 (1 : Int64)
set_option maxRecDepth 20000 in
theorem kc_rk_reduced_150  {E : gEnv} {l : Launch} {D : va_G} {G : gAd} {post : CS → Int64 → Prop} (hE : gOK E cX6_reduced RX6 (some .long) 1) (hm : cOK E l D G (pL post) 13) (hF : gFin E) (σ : CS) (h : wc_rk_reduced_150 post σ) : GW E (cW G σ) 150 [(0, .ref (G.1 800))] [] := by
  unfold wc_rk_reduced_150 at h
  have hN := hm.2.2.2.2.2.2.1
  refine r_aload_n hE 0 dX6_reduced_g5.2.2.2.1 rfl rfl ?_
  refine r_bipush (v := (7 : Int32)) hE dX6_reduced_g5.2.2.2.2.1 (by decide) ?_
  refine cp_rk_failure hE hm fk_X6_9 dX6_reduced_g5.2.2.2.2.2.1 h (fun s1 h => ?_)
  refine r_lconst (v := (1 : Int64)) hE dX6_reduced_g5.2.2.2.2.2.2.1 (by decide) ?_
  exact c_lret hE hm hF dX6_reduced_g5.2.2.2.2.2.2.2.1 h
def wc_rk_reduced_102 (post : CS → Int64 → Prop) (σ : CS) (v1 : Int64) (v3 : Int64) (v5 : Int64) : Prop := ((¬ ((lg_cmp v5 (0 : Int64)) = (0 : Int32))) → (¬ v5 = 0 ∧ (∀ x2 : Int64, x2 = v1 / v5 → ¬ v5 = 0 ∧ (∀ x3 : Int64, x3 = v3 / v5 → (((0 : Int32) < (lg_cmp x2 (1000000000 : Int64))) → (wc_rk_reduced_150 post σ)) ∧ ((¬ ((0 : Int32) < (lg_cmp x2 (1000000000 : Int64)))) → ((((lg_cmp x2 (-1000000000 : Int64)) < (0 : Int32)) → (wc_rk_reduced_150 post σ)) ∧ ((¬ ((lg_cmp x2 (-1000000000 : Int64)) < (0 : Int32))) → ((((lg_cmp x3 (1000000000 : Int64)) ≤ (0 : Int32)) → (post σ ((x2 <<< ((32 : Int32).toInt64 &&& 63)) ||| x3))) ∧ ((¬ ((lg_cmp x3 (1000000000 : Int64)) ≤ (0 : Int32))) → (wc_rk_reduced_150 post σ)))))))))) ∧ (((lg_cmp v5 (0 : Int64)) = (0 : Int32)) → (post σ (1 : Int64)))
set_option maxRecDepth 20000 in
theorem kc_rk_reduced_102  {E : gEnv} {l : Launch} {D : va_G} {G : gAd} {post : CS → Int64 → Prop} (hE : gOK E cX6_reduced RX6 (some .long) 1) (hm : cOK E l D G (pL post) 13) (hF : gFin E) (σ : CS) (v1 : Int64) (v3 : Int64) (v5 : Int64) (h : wc_rk_reduced_102 post σ v1 v3 v5) : GW E (cW G σ) 102 [(0, .ref (G.1 800)), (1, .long v1), (3, .long v3), (5, .long v5)] [] := by
  unfold wc_rk_reduced_102 at h
  have hN := hm.2.2.2.2.2.2.1
  refine r_lload hE 3 dX6_reduced_g3.2.2.2.2.2.2.2.2.2.1 rfl ?_
  refine r_lconst (v := (0 : Int64)) hE dX6_reduced_g3.2.2.2.2.2.2.2.2.2.2.1 (by decide) ?_
  refine r_lcmp hE dX6_reduced_g3.2.2.2.2.2.2.2.2.2.2.2.1 ?_
  refine r_if_ne hE 111 dX6_reduced_g3.2.2.2.2.2.2.2.2.2.2.2.2.1 (by decide) h (fun h => ?_) (fun h => ?_)
  · refine r_lload_n hE 1 dX6_reduced_g3.2.2.2.2.2.2.2.2.2.2.2.2.2.2.2 rfl rfl ?_
    refine r_lload hE 3 dX6_reduced_g4.1 rfl ?_
    obtain ⟨hz, h⟩ := h
    refine r_ldiv hE dX6_reduced_g4.2.1 hz ?_
    refine r_topl h (fun x2 ex2 h => ?_)
    refine r_lstore hE [(9, .long x2), (0, .ref (G.1 800)), (1, .long v1), (3, .long v3), (5, .long v5)] dX6_reduced_g4.2.2.1 hN (by decide) rfl ?_
    refine r_lload_n hE 3 dX6_reduced_g4.2.2.2.1 rfl rfl ?_
    refine r_lload hE 4 dX6_reduced_g4.2.2.2.2.1 rfl ?_
    obtain ⟨hz, h⟩ := h
    refine r_ldiv hE dX6_reduced_g4.2.2.2.2.2.1 hz ?_
    refine r_topl h (fun x3 ex3 h => ?_)
    refine r_lstore hE [(11, .long x3), (9, .long x2), (0, .ref (G.1 800)), (1, .long v1), (3, .long v3), (5, .long v5)] dX6_reduced_g4.2.2.2.2.2.2.1 hN (by decide) rfl ?_
    refine r_lload hE 1 dX6_reduced_g4.2.2.2.2.2.2.2.1 rfl ?_
    refine r_ldc2 (v := (1000000000 : Int64)) hE dX6_reduced_g4.2.2.2.2.2.2.2.2.1 (gTb_4 (List.mem_of_getElem? (i := 85) rfl) rfl) ?_
    refine r_lcmp hE dX6_reduced_g4.2.2.2.2.2.2.2.2.2.1 ?_
    refine r_if_gt hE 150 dX6_reduced_g4.2.2.2.2.2.2.2.2.2.2.1 (by decide) h (fun h => ?_) (fun h => ?_)
    · refine r_pick [2] rfl ?_
      exact kc_rk_reduced_150 hE hm hF _ h
    · refine r_lload hE 1 dX6_reduced_g4.2.2.2.2.2.2.2.2.2.2.2.1 rfl ?_
      refine r_ldc2 (v := (-1000000000 : Int64)) hE dX6_reduced_g4.2.2.2.2.2.2.2.2.2.2.2.2.1 (gTb_4 (List.mem_of_getElem? (i := 86) rfl) rfl) ?_
      refine r_lcmp hE dX6_reduced_g4.2.2.2.2.2.2.2.2.2.2.2.2.2.1 ?_
      refine r_if_lt hE 150 dX6_reduced_g4.2.2.2.2.2.2.2.2.2.2.2.2.2.2.1 (by decide) h (fun h => ?_) (fun h => ?_)
      · refine r_pick [2] rfl ?_
        exact kc_rk_reduced_150 hE hm hF _ h
      · refine r_lload hE 0 dX6_reduced_g4.2.2.2.2.2.2.2.2.2.2.2.2.2.2.2 rfl ?_
        refine r_ldc2 (v := (1000000000 : Int64)) hE dX6_reduced_g5.1 (gTb_4 (List.mem_of_getElem? (i := 85) rfl) rfl) ?_
        refine r_lcmp hE dX6_reduced_g5.2.1 ?_
        refine r_if_le hE 158 dX6_reduced_g5.2.2.1 (by decide) h (fun h => ?_) (fun h => ?_)
        · refine r_lload hE 1 dX6_reduced_g5.2.2.2.2.2.2.2.2.1 rfl ?_
          refine r_bipush (v := (32 : Int32)) hE dX6_reduced_g5.2.2.2.2.2.2.2.2.2.1 (by decide) ?_
          refine r_lshl hE dX6_reduced_g5.2.2.2.2.2.2.2.2.2.2.1 ?_
          refine r_lload hE 0 dX6_reduced_g5.2.2.2.2.2.2.2.2.2.2.2.1 rfl ?_
          refine r_lor hE dX6_reduced_g5.2.2.2.2.2.2.2.2.2.2.2.2.1 ?_
          exact c_lret hE hm hF dX6_reduced_g5.2.2.2.2.2.2.2.2.2.2.2.2.2 h
        · refine r_pick [2] rfl ?_
          exact kc_rk_reduced_150 hE hm hF _ h
  · refine r_lconst (v := (1 : Int64)) hE dX6_reduced_g3.2.2.2.2.2.2.2.2.2.2.2.2.2.1 (by decide) ?_
    exact c_lret hE hm hF dX6_reduced_g3.2.2.2.2.2.2.2.2.2.2.2.2.2.2.1 h
def wc_rk_reduced_94 (post : CS → Int64 → Prop) (σ : CS) (v1 : Int64) (v3 : Int64) (v5 : Int64) (t0 : Int32) (t1 : Int32) : Prop := ((t0 = t1) → (wc_rk_reduced_102 post σ v1 v3 v5)) ∧ ((¬ (t0 = t1)) → (∀ x4 : Int64, x4 = -v5 → wc_rk_reduced_102 post σ v1 v3 x4))
set_option maxRecDepth 20000 in
theorem kc_rk_reduced_94  {E : gEnv} {l : Launch} {D : va_G} {G : gAd} {post : CS → Int64 → Prop} (hE : gOK E cX6_reduced RX6 (some .long) 1) (hm : cOK E l D G (pL post) 13) (hF : gFin E) (σ : CS) (v1 : Int64) (v3 : Int64) (v5 : Int64) (t0 : Int32) (t1 : Int32) (h : wc_rk_reduced_94 post σ v1 v3 v5 t0 t1) : GW E (cW G σ) 94 [(0, .ref (G.1 800)), (1, .long v1), (3, .long v3), (5, .long v5)] [.int t1, .int t0] := by
  unfold wc_rk_reduced_94 at h
  have hN := hm.2.2.2.2.2.2.1
  refine r_icmp_eq hE 102 dX6_reduced_g3.2.2.2.2.2.1 (by decide) h (fun h => ?_) (fun h => ?_)
  · exact kc_rk_reduced_102 hE hm hF _ _ _ _ h
  · refine r_lload hE 3 dX6_reduced_g3.2.2.2.2.2.2.1 rfl ?_
    refine r_lneg hE dX6_reduced_g3.2.2.2.2.2.2.2.1 ?_
    refine r_topl h (fun x4 ex4 h => ?_)
    refine r_lstore hE [(5, .long x4), (0, .ref (G.1 800)), (1, .long v1), (3, .long v3)] dX6_reduced_g3.2.2.2.2.2.2.2.2.1 hN (by decide) rfl ?_
    refine r_pick [1, 2, 3, 0] rfl ?_
    exact kc_rk_reduced_102 hE hm hF _ _ _ _ h
def wc_rk_reduced_83 (post : CS → Int64 → Prop) (σ : CS) (v1 : Int64) (v3 : Int64) (v5 : Int64) (t0 : Int32) : Prop := (((0 : Int32) ≤ (lg_cmp v3 (0 : Int64))) → (wc_rk_reduced_94 post σ v1 v3 v5 t0 (0 : Int32))) ∧ ((¬ ((0 : Int32) ≤ (lg_cmp v3 (0 : Int64)))) → (wc_rk_reduced_94 post σ v1 v3 v5 t0 (1 : Int32)))
set_option maxRecDepth 20000 in
theorem kc_rk_reduced_83  {E : gEnv} {l : Launch} {D : va_G} {G : gAd} {post : CS → Int64 → Prop} (hE : gOK E cX6_reduced RX6 (some .long) 1) (hm : cOK E l D G (pL post) 13) (hF : gFin E) (σ : CS) (v1 : Int64) (v3 : Int64) (v5 : Int64) (t0 : Int32) (h : wc_rk_reduced_83 post σ v1 v3 v5 t0) : GW E (cW G σ) 83 [(0, .ref (G.1 800)), (1, .long v1), (3, .long v3), (5, .long v5)] [.int t0] := by
  unfold wc_rk_reduced_83 at h
  have hN := hm.2.2.2.2.2.2.1
  refine r_lload_n hE 2 dX6_reduced_g2.2.2.2.2.2.2.2.2.2.2.2.2.2.2.1 rfl rfl ?_
  refine r_lconst (v := (0 : Int64)) hE dX6_reduced_g2.2.2.2.2.2.2.2.2.2.2.2.2.2.2.2 (by decide) ?_
  refine r_lcmp hE dX6_reduced_g3.1 ?_
  refine r_if_ge hE 93 dX6_reduced_g3.2.1 (by decide) h (fun h => ?_) (fun h => ?_)
  · refine r_iconst (v := (0 : Int32)) hE dX6_reduced_g3.2.2.2.2.1 (by decide) ?_
    exact kc_rk_reduced_94 hE hm hF _ _ _ _ _ _ h
  · refine r_iconst (v := (1 : Int32)) hE dX6_reduced_g3.2.2.1 (by decide) ?_
    refine r_goto hE 94 dX6_reduced_g3.2.2.2.1 (by decide) ?_
    exact kc_rk_reduced_94 hE hm hF _ _ _ _ _ _ h
def wc_rk_reduced_71 (post : CS → Int64 → Prop) (σ : CS) (v1 : Int64) (v3 : Int64) (v5 : Int64) : Prop := (((0 : Int32) ≤ (lg_cmp v5 (0 : Int64))) → (wc_rk_reduced_83 post σ v1 v3 v5 (0 : Int32))) ∧ ((¬ ((0 : Int32) ≤ (lg_cmp v5 (0 : Int64)))) → (wc_rk_reduced_83 post σ v1 v3 v5 (1 : Int32)))
set_option maxRecDepth 20000 in
theorem kc_rk_reduced_71  {E : gEnv} {l : Launch} {D : va_G} {G : gAd} {post : CS → Int64 → Prop} (hE : gOK E cX6_reduced RX6 (some .long) 1) (hm : cOK E l D G (pL post) 13) (hF : gFin E) (σ : CS) (v1 : Int64) (v3 : Int64) (v5 : Int64) (h : wc_rk_reduced_71 post σ v1 v3 v5) : GW E (cW G σ) 71 [(0, .ref (G.1 800)), (1, .long v1), (3, .long v3), (5, .long v5)] [] := by
  unfold wc_rk_reduced_71 at h
  have hN := hm.2.2.2.2.2.2.1
  refine r_lload hE 3 dX6_reduced_g2.2.2.2.2.2.2.2.1 rfl ?_
  refine r_lconst (v := (0 : Int64)) hE dX6_reduced_g2.2.2.2.2.2.2.2.2.1 (by decide) ?_
  refine r_lcmp hE dX6_reduced_g2.2.2.2.2.2.2.2.2.2.1 ?_
  refine r_if_ge hE 82 dX6_reduced_g2.2.2.2.2.2.2.2.2.2.2.1 (by decide) h (fun h => ?_) (fun h => ?_)
  · refine r_iconst (v := (0 : Int32)) hE dX6_reduced_g2.2.2.2.2.2.2.2.2.2.2.2.2.2.1 (by decide) ?_
    exact kc_rk_reduced_83 hE hm hF _ _ _ _ _ h
  · refine r_iconst (v := (1 : Int32)) hE dX6_reduced_g2.2.2.2.2.2.2.2.2.2.2.2.1 (by decide) ?_
    refine r_goto hE 83 dX6_reduced_g2.2.2.2.2.2.2.2.2.2.2.2.2.1 (by decide) ?_
    exact kc_rk_reduced_83 hE hm hF _ _ _ _ _ h
def wc_rk_reduced_35 (post : CS → Int64 → Prop) : Nat → CS → Int64 → Int64 → Int64 → Int64 → Int32 → Prop
  | 0, _, _, _, _, _, _ => False
  | n + 1, σ, v1, v3, v5, v7, v9 => (((200 : Int32) ≤ v9) → (wc_rk_reduced_71 post σ v1 v3 v5)) ∧ ((¬ ((200 : Int32) ≤ v9)) → ((((lg_cmp v7 (0 : Int64)) = (0 : Int32)) → (wc_rk_reduced_71 post σ v1 v3 v5)) ∧ ((¬ ((lg_cmp v7 (0 : Int64)) = (0 : Int32))) → (¬ v7 = 0 ∧ (∀ x5 : Int64, x5 = v5 - v5 / v7 * v7 → ∀ x6 : Int32, x6 = v9 + (1 : Int32) → wc_rk_reduced_35 post n σ v1 v3 v7 x5 x6)))))
set_option maxRecDepth 20000 in
theorem kc_rk_reduced_35  {E : gEnv} {l : Launch} {D : va_G} {G : gAd} {post : CS → Int64 → Prop} (hE : gOK E cX6_reduced RX6 (some .long) 1) (hm : cOK E l D G (pL post) 13) (hF : gFin E) : ∀ (n0 : Nat) (σ : CS) (v1 : Int64) (v3 : Int64) (v5 : Int64) (v7 : Int64) (v9 : Int32), wc_rk_reduced_35 post n0 σ v1 v3 v5 v7 v9 → GW E (cW G σ) 35 [(0, .ref (G.1 800)), (1, .long v1), (3, .long v3), (5, .long v5), (7, .long v7), (9, .int v9)] [] := by
  intro n0
  induction n0 with
  | zero => intro σ v1 v3 v5 v7 v9 h; exact h.elim
  | succ n0 ih =>
    intro σ v1 v3 v5 v7 v9 h
    rw [wc_rk_reduced_35] at h
    have hN := hm.2.2.2.2.2.2.1
    refine r_iload hE 5 dX6_reduced_g1.2.2.2.2.2.2.1 rfl ?_
    refine r_sipush (v := (200 : Int32)) hE dX6_reduced_g1.2.2.2.2.2.2.2.1 (by decide) ?_
    refine r_icmp_ge hE 71 dX6_reduced_g1.2.2.2.2.2.2.2.2.1 (by decide) h (fun h => ?_) (fun h => ?_)
    · refine r_pick [0, 1, 2, 3] rfl ?_
      exact kc_rk_reduced_71 hE hm hF _ _ _ _ h
    · refine r_lload hE 4 dX6_reduced_g1.2.2.2.2.2.2.2.2.2.1 rfl ?_
      refine r_lconst (v := (0 : Int64)) hE dX6_reduced_g1.2.2.2.2.2.2.2.2.2.2.1 (by decide) ?_
      refine r_lcmp hE dX6_reduced_g1.2.2.2.2.2.2.2.2.2.2.2.1 ?_
      refine r_if_eq hE 71 dX6_reduced_g1.2.2.2.2.2.2.2.2.2.2.2.2.1 (by decide) h (fun h => ?_) (fun h => ?_)
      · refine r_pick [0, 1, 2, 3] rfl ?_
        exact kc_rk_reduced_71 hE hm hF _ _ _ _ h
      · refine r_lload hE 3 dX6_reduced_g1.2.2.2.2.2.2.2.2.2.2.2.2.2.1 rfl ?_
        refine r_lload hE 4 dX6_reduced_g1.2.2.2.2.2.2.2.2.2.2.2.2.2.2.1 rfl ?_
        obtain ⟨hz, h⟩ := h
        refine r_lrem hE dX6_reduced_g1.2.2.2.2.2.2.2.2.2.2.2.2.2.2.2 hz ?_
        refine r_topl h (fun x5 ex5 h => ?_)
        refine r_lstore hE [(10, .long x5), (0, .ref (G.1 800)), (1, .long v1), (3, .long v3), (5, .long v5), (7, .long v7), (9, .int v9)] dX6_reduced_g2.1 hN (by decide) rfl ?_
        refine r_lload hE 5 dX6_reduced_g2.2.1 rfl ?_
        refine r_lstore hE [(5, .long v7), (10, .long x5), (0, .ref (G.1 800)), (1, .long v1), (3, .long v3), (7, .long v7), (9, .int v9)] dX6_reduced_g2.2.2.1 hN (by decide) rfl ?_
        refine r_lload hE 1 dX6_reduced_g2.2.2.2.1 rfl ?_
        refine r_lstore hE [(7, .long x5), (5, .long v7), (10, .long x5), (0, .ref (G.1 800)), (1, .long v1), (3, .long v3), (9, .int v9)] dX6_reduced_g2.2.2.2.2.1 hN (by decide) rfl ?_
        obtain ⟨x6, ex6⟩ : ∃ z : Int32, z = v9 + (1 : Int32) := ⟨_, rfl⟩
        have h := h x6 ex6
        refine r_iinc (v := x6) hE [(9, .int x6), (7, .long x5), (5, .long v7), (10, .long x5), (0, .ref (G.1 800)), (1, .long v1), (3, .long v3)] 6 dX6_reduced_g2.2.2.2.2.2.1 rfl (by rw [ex6]; rfl) hN (by decide) rfl ?_
        refine r_goto hE 35 dX6_reduced_g2.2.2.2.2.2.2.1 (by decide) ?_
        refine r_pick [4, 5, 6, 2, 1, 0] rfl ?_
        exact ih _ _ _ _ _ _ h
def wc_rk_reduced (post : CS → Int64 → Prop) (σ : CS) (a1 : Int64) (a3 : Int64) : Prop := (((c_rk_failure σ) = (0 : Int32)) → (((¬ ((lg_cmp a3 (0 : Int64)) = (0 : Int32))) → (¬ a3 = 0 ∧ (∀ x7 : Int64, x7 = a1 - a1 / a3 * a3 → ∃ k : Nat, wc_rk_reduced_35 post k σ a1 a3 a3 x7 (0 : Int32)))) ∧ (((lg_cmp a3 (0 : Int64)) = (0 : Int32)) → (∀ s8 : CS, s8 = c_rk_failure_s σ (6 : Int32) → post s8 (1 : Int64))))) ∧ ((¬ ((c_rk_failure σ) = (0 : Int32))) → (post σ (1 : Int64)))
set_option maxRecDepth 20000 in
theorem kc_rk_reduced {l : Launch} {D : va_G} {G : gAd} {post : CS → Int64 → Prop} {σ : CS} {a1 : Int64} {a3 : Int64} (h : wc_rk_reduced post σ a1 a3) : cMet l D G yX6_reduced cX6_reduced 13 (some .long) 1 [.ref (G.1 800), .long a1, .long a3] σ (pL post) := by
  unfold wc_rk_reduced at h
  refine c_enter (own := RX6) (by decide +kernel) rfl [(0, .ref (G.1 800)), (1, .long a1), (3, .long a3)] rfl (Nat.le_of_ble_eq_true rfl) ?_
  intro E hE hm hF
  have hN := hm.2.2.2.2.2.2.1
  refine r_aload_n hE 0 dX6_reduced_g0.1 rfl rfl ?_
  refine cg_rk_failure hE hm fk_X6_9 dX6_reduced_g0.2.1 ?_
  refine r_if_eq hE 9 dX6_reduced_g0.2.2.1 (by decide) h (fun h => ?_) (fun h => ?_)
  · refine r_lload_n hE 2 dX6_reduced_g0.2.2.2.2.2.1 rfl rfl ?_
    refine r_lconst (v := (0 : Int64)) hE dX6_reduced_g0.2.2.2.2.2.2.1 (by decide) ?_
    refine r_lcmp hE dX6_reduced_g0.2.2.2.2.2.2.2.1 ?_
    refine r_if_ne hE 23 dX6_reduced_g0.2.2.2.2.2.2.2.2.1 (by decide) h (fun h => ?_) (fun h => ?_)
    · refine r_lload_n hE 2 dX6_reduced_g0.2.2.2.2.2.2.2.2.2.2.2.2.2.2.1 rfl rfl ?_
      refine r_lstore hE [(5, .long a3), (0, .ref (G.1 800)), (1, .long a1), (3, .long a3)] dX6_reduced_g0.2.2.2.2.2.2.2.2.2.2.2.2.2.2.2 hN (by decide) rfl ?_
      refine r_lload_n hE 2 dX6_reduced_g1.1 rfl rfl ?_
      refine r_lload hE 0 dX6_reduced_g1.2.1 rfl ?_
      obtain ⟨hz, h⟩ := h
      refine r_lrem hE dX6_reduced_g1.2.2.1 hz ?_
      refine r_topl h (fun x7 ex7 h => ?_)
      refine r_lstore hE [(7, .long x7), (5, .long a3), (0, .ref (G.1 800)), (1, .long a1), (3, .long a3)] dX6_reduced_g1.2.2.2.1 hN (by decide) rfl ?_
      refine r_iconst (v := (0 : Int32)) hE dX6_reduced_g1.2.2.2.2.1 (by decide) ?_
      refine r_istore hE [(9, .int (0 : Int32)), (7, .long x7), (5, .long a3), (0, .ref (G.1 800)), (1, .long a1), (3, .long a3)] dX6_reduced_g1.2.2.2.2.2.1 hN (by decide) rfl ?_
      refine r_pick [3, 4, 5, 2, 1, 0] rfl ?_
      obtain ⟨k, h⟩ := h
      exact kc_rk_reduced_35 hE hm hF k _ _ _ _ _ _ h
    · refine r_aload_n hE 0 dX6_reduced_g0.2.2.2.2.2.2.2.2.2.1 rfl rfl ?_
      refine r_bipush (v := (6 : Int32)) hE dX6_reduced_g0.2.2.2.2.2.2.2.2.2.2.1 (by decide) ?_
      refine cp_rk_failure hE hm fk_X6_9 dX6_reduced_g0.2.2.2.2.2.2.2.2.2.2.2.1 h (fun s8 h => ?_)
      refine r_lconst (v := (1 : Int64)) hE dX6_reduced_g0.2.2.2.2.2.2.2.2.2.2.2.2.1 (by decide) ?_
      exact c_lret hE hm hF dX6_reduced_g0.2.2.2.2.2.2.2.2.2.2.2.2.2.1 h
  · refine r_lconst (v := (1 : Int64)) hE dX6_reduced_g0.2.2.2.1 (by decide) ?_
    exact c_lret hE hm hF dX6_reduced_g0.2.2.2.2.1 h
/-! ft_move -/
def wc_ft_move (post : CS → Int32 → Prop) (σ : CS) (a1 : Int32) (a2 : Int32) (a3 : Int32) (a4 : Int32) : Prop := wc_SX12_inside (fun (s1 : CS) (r2 : Int32) => ((r2 = (0 : Int32)) → (post s1 (-2000000002 : Int32))) ∧ ((¬ (r2 = (0 : Int32))) → (((¬ (a4 = (0 : Int32))) → (wc_rk_begin (fun (s3 : CS) => wc_rk_reduced (fun (s4 : CS) (r5 : Int64) => wc_rk_reduced (fun (s6 : CS) (r7 : Int64) => (((c_rk_failure s6) = (0 : Int32)) → (((¬ ((c_ft_hasFigure s6) = (0 : Int32))) → (wc_fr_moveTo (fun (s8 : CS) => post s8 (1 : Int32)) s6 a1 r5 r7)) ∧ (((c_ft_hasFigure s6) = (0 : Int32)) → (post s6 (-2000000003 : Int32))))) ∧ ((¬ ((c_rk_failure s6) = (0 : Int32))) → (post s6 (-2000000002 : Int32)))) s4 (a3.toInt64) (a4.toInt64)) s3 (a2.toInt64) (a4.toInt64)) s1)) ∧ ((a4 = (0 : Int32)) → (post s1 (-2000000002 : Int32)))))) σ a1 (12 : Int32)
set_option maxRecDepth 20000 in
theorem kc_ft_move {l : Launch} {D : va_G} {G : gAd} {post : CS → Int32 → Prop} {σ : CS} {a1 : Int32} {a2 : Int32} {a3 : Int32} {a4 : Int32} (h : wc_ft_move post σ a1 a2 a3 a4) : cMet l D G yX12_move cX12_move 9 (some .int) 3 [.ref (G.1 200), .int a1, .int a2, .int a3, .int a4] σ (pI post) := by
  unfold wc_ft_move at h
  refine c_enter (own := RX12) (by decide +kernel) rfl [(0, .ref (G.1 200)), (1, .int a1), (2, .int a2), (3, .int a3), (4, .int a4)] rfl (Nat.le_of_ble_eq_true rfl) ?_
  intro E hE hm hF
  have hN := hm.2.2.2.2.2.2.1
  refine r_iload_n hE 1 dX12_move_g0.1 rfl rfl ?_
  refine r_bipush (v := (12 : Int32)) hE dX12_move_g0.2.1 (by decide) ?_
  refine c_callSi hE hm [.int a1, .int (12 : Int32)] [] ck_X12_145 (kc_SX12_inside h) (by decide) rfl rfl (Nat.le_of_ble_eq_true rfl) dX12_move_g0.2.2.1 (fun s1 r2 h => ?_)
  refine r_if_eq hE 14 dX12_move_g0.2.2.2.1 (by decide) h (fun h => ?_) (fun h => ?_)
  · refine r_ldc (v := (-2000000002 : Int32)) hE dX12_move_g0.2.2.2.2.2.2.1 (gTb_2 (List.mem_of_getElem? (i := 212) rfl) rfl) ?_
    exact c_iret hE hm hF dX12_move_g0.2.2.2.2.2.2.2.1 h
  · refine r_iload hE 4 dX12_move_g0.2.2.2.2.1 rfl ?_
    refine r_if_ne hE 17 dX12_move_g0.2.2.2.2.2.1 (by decide) h (fun h => ?_) (fun h => ?_)
    · refine r_aload_n hE 0 dX12_move_g0.2.2.2.2.2.2.2.2.1 rfl rfl ?_
      refine cg_ft_reckoner hE hm fk_X12_62 dX12_move_g0.2.2.2.2.2.2.2.2.2.1 ?_
      refine c_callVv hE hm [] [] ck_X12_149 (cr_rk hm rfl) (kc_rk_begin h) (by decide) rfl rfl (Nat.le_of_ble_eq_true rfl) dX12_move_g0.2.2.2.2.2.2.2.2.2.2.1 (fun s3 h => ?_)
      refine r_aload_n hE 0 dX12_move_g0.2.2.2.2.2.2.2.2.2.2.2.1 rfl rfl ?_
      refine cg_ft_reckoner hE hm fk_X12_62 dX12_move_g0.2.2.2.2.2.2.2.2.2.2.2.2.1 ?_
      refine r_iload_n hE 2 dX12_move_g0.2.2.2.2.2.2.2.2.2.2.2.2.2.1 rfl rfl ?_
      refine r_i2l hE dX12_move_g0.2.2.2.2.2.2.2.2.2.2.2.2.2.2.1 ?_
      refine r_iload hE 4 dX12_move_g0.2.2.2.2.2.2.2.2.2.2.2.2.2.2.2 rfl ?_
      refine r_i2l hE dX12_move_g1.1 ?_
      refine c_callVl hE hm [.long (a2.toInt64), .long (a4.toInt64)] [] ck_X12_152 (cr_rk hm rfl) (kc_rk_reduced h) (by decide) rfl rfl (Nat.le_of_ble_eq_true rfl) dX12_move_g1.2.1 (fun s4 r5 h => ?_)
      refine r_lstore hE [(5, .long r5), (0, .ref (G.1 200)), (1, .int a1), (2, .int a2), (3, .int a3), (4, .int a4)] dX12_move_g1.2.2.1 hN (by decide) rfl ?_
      refine r_aload_n hE 1 dX12_move_g1.2.2.2.1 rfl rfl ?_
      refine cg_ft_reckoner hE hm fk_X12_62 dX12_move_g1.2.2.2.2.1 ?_
      refine r_iload_n hE 4 dX12_move_g1.2.2.2.2.2.1 rfl rfl ?_
      refine r_i2l hE dX12_move_g1.2.2.2.2.2.2.1 ?_
      refine r_iload hE 5 dX12_move_g1.2.2.2.2.2.2.2.1 rfl ?_
      refine r_i2l hE dX12_move_g1.2.2.2.2.2.2.2.2.1 ?_
      refine c_callVl hE hm [.long (a3.toInt64), .long (a4.toInt64)] [] ck_X12_152 (cr_rk hm rfl) (kc_rk_reduced h) (by decide) rfl rfl (Nat.le_of_ble_eq_true rfl) dX12_move_g1.2.2.2.2.2.2.2.2.2.1 (fun s6 r7 h => ?_)
      refine r_lstore hE [(7, .long r7), (5, .long r5), (0, .ref (G.1 200)), (1, .int a1), (2, .int a2), (3, .int a3), (4, .int a4)] dX12_move_g1.2.2.2.2.2.2.2.2.2.2.1 hN (by decide) rfl ?_
      refine r_aload_n hE 2 dX12_move_g1.2.2.2.2.2.2.2.2.2.2.2.1 rfl rfl ?_
      refine cg_ft_reckoner hE hm fk_X12_62 dX12_move_g1.2.2.2.2.2.2.2.2.2.2.2.2.1 ?_
      refine cg_rk_failure hE hm fk_X12_156 dX12_move_g1.2.2.2.2.2.2.2.2.2.2.2.2.2.1 ?_
      refine r_if_eq hE 65 dX12_move_g1.2.2.2.2.2.2.2.2.2.2.2.2.2.2.1 (by decide) h (fun h => ?_) (fun h => ?_)
      · refine r_aload_n hE 2 dX12_move_g2.2.1 rfl rfl ?_
        refine cg_ft_hasFigure hE hm fk_X12_34 dX12_move_g2.2.2.1 ?_
        refine r_if_ne hE 75 dX12_move_g2.2.2.2.1 (by decide) h (fun h => ?_) (fun h => ?_)
        · refine r_aload_n hE 2 dX12_move_g2.2.2.2.2.2.2.1 rfl rfl ?_
          refine cg_ft_frees hE hm fk_X12_76 dX12_move_g2.2.2.2.2.2.2.2.1 ?_
          refine r_iload_n hE 3 dX12_move_g2.2.2.2.2.2.2.2.2.1 rfl rfl ?_
          refine r_lload hE 1 dX12_move_g2.2.2.2.2.2.2.2.2.2.1 rfl ?_
          refine r_lload hE 0 dX12_move_g2.2.2.2.2.2.2.2.2.2.2.1 rfl ?_
          refine c_callVv hE hm [.int a1, .long r5, .long r7] [] ck_X12_159 (cr_fr hm rfl) (kc_fr_moveTo h) (by decide) rfl rfl (Nat.le_of_ble_eq_true rfl) dX12_move_g2.2.2.2.2.2.2.2.2.2.2.2.1 (fun s8 h => ?_)
          refine r_iconst (v := (1 : Int32)) hE dX12_move_g2.2.2.2.2.2.2.2.2.2.2.2.2.1 (by decide) ?_
          exact c_iret hE hm hF dX12_move_g2.2.2.2.2.2.2.2.2.2.2.2.2.2 h
        · refine r_ldc (v := (-2000000003 : Int32)) hE dX12_move_g2.2.2.2.2.1 (gTb_2 (List.mem_of_getElem? (i := 200) rfl) rfl) ?_
          exact c_iret hE hm hF dX12_move_g2.2.2.2.2.2.1 h
      · refine r_ldc (v := (-2000000002 : Int32)) hE dX12_move_g1.2.2.2.2.2.2.2.2.2.2.2.2.2.2.2 (gTb_2 (List.mem_of_getElem? (i := 212) rfl) rfl) ?_
        exact c_iret hE hm hF dX12_move_g2.1 h
    · refine r_ldc (v := (-2000000002 : Int32)) hE dX12_move_g0.2.2.2.2.2.2.1 (gTb_2 (List.mem_of_getElem? (i := 212) rfl) rfl) ?_
      exact c_iret hE hm hF dX12_move_g0.2.2.2.2.2.2.2.1 h
/-! fr_isMoved -/
def wc_fr_isMoved (post : CS → Int32 → Prop) (σ : CS) (a1 : Int32) : Prop := wc_SX12_inside (fun (s1 : CS) (r2 : Int32) => ((r2 = (0 : Int32)) → (post s1 (0 : Int32))) ∧ ((¬ (r2 = (0 : Int32))) → (vp_in a1 12 ∧ ((((c_fr_moved s1 a1.toNatClampNeg) = (0 : Int32)) → (post s1 (0 : Int32))) ∧ ((¬ ((c_fr_moved s1 a1.toNatClampNeg) = (0 : Int32))) → (post s1 (1 : Int32))))))) σ a1 (12 : Int32)
set_option maxRecDepth 20000 in
theorem kc_fr_isMoved {l : Launch} {D : va_G} {G : gAd} {post : CS → Int32 → Prop} {σ : CS} {a1 : Int32} (h : wc_fr_isMoved post σ a1) : cMet l D G yX2_isMoved cX2_isMoved 2 (some .boolean) 2 [.ref (G.1 1000), .int a1] σ (pI post) := by
  unfold wc_fr_isMoved at h
  refine c_enter (own := RX2) (by decide +kernel) rfl [(0, .ref (G.1 1000)), (1, .int a1)] rfl (Nat.le_of_ble_eq_true rfl) ?_
  intro E hE hm hF
  have hN := hm.2.2.2.2.2.2.1
  refine r_iload_n hE 1 dX2_isMoved_g0.1 rfl rfl ?_
  refine r_bipush (v := (12 : Int32)) hE dX2_isMoved_g0.2.1 (by decide) ?_
  refine c_callSNi hE hm [.int a1, .int (12 : Int32)] [] ck_X2_39 cw_X2_39 (kc_SX12_inside h) (by decide) rfl rfl (Nat.le_of_ble_eq_true rfl) dX2_isMoved_g0.2.2.1 (fun s1 r2 h => ?_)
  refine r_if_eq hE 22 dX2_isMoved_g0.2.2.2.1 (by decide) h (fun h => ?_) (fun h => ?_)
  · refine r_iconst (v := (0 : Int32)) hE dX2_isMoved_g0.2.2.2.2.2.2.2.2.2.2.2.1 (by decide) ?_
    exact c_zret hE hm hF dX2_isMoved_g0.2.2.2.2.2.2.2.2.2.2.2.2 (Or.inl rfl) h
  · refine r_aload_n hE 0 dX2_isMoved_g0.2.2.2.2.1 rfl rfl ?_
    refine cg_fr_moved hE hm fk_X2_9 dX2_isMoved_g0.2.2.2.2.2.1 ?_
    refine r_iload_n hE 1 dX2_isMoved_g0.2.2.2.2.2.2.1 rfl rfl ?_
    obtain ⟨hi, h⟩ := h
    refine cl_fr_moved hE hm dX2_isMoved_g0.2.2.2.2.2.2.2.1 hi ?_
    refine r_if_eq hE 22 dX2_isMoved_g0.2.2.2.2.2.2.2.2.1 (by decide) h (fun h => ?_) (fun h => ?_)
    · refine r_iconst (v := (0 : Int32)) hE dX2_isMoved_g0.2.2.2.2.2.2.2.2.2.2.2.1 (by decide) ?_
      exact c_zret hE hm hF dX2_isMoved_g0.2.2.2.2.2.2.2.2.2.2.2.2 (Or.inl rfl) h
    · refine r_iconst (v := (1 : Int32)) hE dX2_isMoved_g0.2.2.2.2.2.2.2.2.2.1 (by decide) ?_
      refine r_goto hE 23 dX2_isMoved_g0.2.2.2.2.2.2.2.2.2.2.1 (by decide) ?_
      exact c_zret hE hm hF dX2_isMoved_g0.2.2.2.2.2.2.2.2.2.2.2.2 (Or.inr rfl) h
/-! fr_loosen -/
def wc_fr_loosen (post : CS → Prop) (σ : CS) (a1 : Int32) : Prop := wc_SX12_inside (fun (s1 : CS) (r2 : Int32) => ((r2 = (0 : Int32)) → (post s1)) ∧ ((¬ (r2 = (0 : Int32))) → (vp_in a1 12 ∧ (∀ s3 : CS, s3 = c_fr_moved_s s1 a1.toNatClampNeg (0 : Int32) → post s3)))) σ a1 (12 : Int32)
set_option maxRecDepth 20000 in
theorem kc_fr_loosen {l : Launch} {D : va_G} {G : gAd} {post : CS → Prop} {σ : CS} {a1 : Int32} (h : wc_fr_loosen post σ a1) : cMet l D G yX2_loosen cX2_loosen 2 none 2 [.ref (G.1 1000), .int a1] σ (pV post) := by
  unfold wc_fr_loosen at h
  refine c_enter (own := RX2) (by decide +kernel) rfl [(0, .ref (G.1 1000)), (1, .int a1)] rfl (Nat.le_of_ble_eq_true rfl) ?_
  intro E hE hm hF
  have hN := hm.2.2.2.2.2.2.1
  refine r_iload_n hE 1 dX2_loosen_g0.1 rfl rfl ?_
  refine r_bipush (v := (12 : Int32)) hE dX2_loosen_g0.2.1 (by decide) ?_
  refine c_callSNi hE hm [.int a1, .int (12 : Int32)] [] ck_X2_39 cw_X2_39 (kc_SX12_inside h) (by decide) rfl rfl (Nat.le_of_ble_eq_true rfl) dX2_loosen_g0.2.2.1 (fun s1 r2 h => ?_)
  refine r_if_eq hE 16 dX2_loosen_g0.2.2.2.1 (by decide) h (fun h => ?_) (fun h => ?_)
  · exact c_vret hE hm hF dX2_loosen_g0.2.2.2.2.2.2.2.2.2 h
  · refine r_aload_n hE 0 dX2_loosen_g0.2.2.2.2.1 rfl rfl ?_
    refine cg_fr_moved hE hm fk_X2_9 dX2_loosen_g0.2.2.2.2.2.1 ?_
    refine r_iload_n hE 1 dX2_loosen_g0.2.2.2.2.2.2.1 rfl rfl ?_
    refine r_iconst (v := (0 : Int32)) hE dX2_loosen_g0.2.2.2.2.2.2.2.1 (by decide) ?_
    obtain ⟨hi, h⟩ := h
    refine cs_fr_moved hE hm dX2_loosen_g0.2.2.2.2.2.2.2.2.1 hi (Or.inl rfl) h (fun s3 h => ?_)
    exact c_vret hE hm hF dX2_loosen_g0.2.2.2.2.2.2.2.2.2 h
/-! ft_loose -/
def wc_ft_loose_38 (post : CS → Int32 → Prop) (σ : CS) (v1 : Int32) (t0 : Int32) : Prop := wc_fr_loosen (fun (s1 : CS) => post s1 t0) σ v1
set_option maxRecDepth 20000 in
theorem kc_ft_loose_38  {E : gEnv} {l : Launch} {D : va_G} {G : gAd} {post : CS → Int32 → Prop} (hE : gOK E cX12_loose RX12 (some .int) 3) (hm : cOK E l D G (pI post) 3) (hF : gFin E) (σ : CS) (v1 : Int32) (t0 : Int32) (h : wc_ft_loose_38 post σ v1 t0) : GW E (cW G σ) 38 [(0, .ref (G.1 200)), (1, .int v1)] [.int t0] := by
  unfold wc_ft_loose_38 at h
  have hN := hm.2.2.2.2.2.2.1
  refine r_istore_n hE [(2, .int t0), (0, .ref (G.1 200)), (1, .int v1)] dX12_loose_g1.2.2.2.1 rfl hN (by decide) rfl ?_
  refine r_aload_n hE 1 dX12_loose_g1.2.2.2.2.1 rfl rfl ?_
  refine cg_ft_frees hE hm fk_X12_76 dX12_loose_g1.2.2.2.2.2.1 ?_
  refine r_iload_n hE 2 dX12_loose_g1.2.2.2.2.2.2.1 rfl rfl ?_
  refine c_callVv hE hm [.int v1] [] ck_X12_167 (cr_fr hm rfl) (kc_fr_loosen h) (by decide) rfl rfl (Nat.le_of_ble_eq_true rfl) dX12_loose_g1.2.2.2.2.2.2.2.1 (fun s1 h => ?_)
  refine r_iload_n hE 0 dX12_loose_g1.2.2.2.2.2.2.2.2.1 rfl rfl ?_
  exact c_iret hE hm hF dX12_loose_g1.2.2.2.2.2.2.2.2.2 h
def wc_ft_loose (post : CS → Int32 → Prop) (σ : CS) (a1 : Int32) : Prop := wc_SX12_inside (fun (s2 : CS) (r3 : Int32) => ((¬ (r3 = (0 : Int32))) → (((¬ ((c_ft_hasFigure s2) = (0 : Int32))) → (wc_fr_isMoved (fun (s4 : CS) (r5 : Int32) => ((r5 = (0 : Int32)) → (wc_ft_loose_38 post s4 a1 (0 : Int32))) ∧ ((¬ (r5 = (0 : Int32))) → (wc_ft_loose_38 post s4 a1 (1 : Int32)))) s2 a1)) ∧ (((c_ft_hasFigure s2) = (0 : Int32)) → (post s2 (-2000000003 : Int32))))) ∧ ((r3 = (0 : Int32)) → (post s2 (-2000000002 : Int32)))) σ a1 (12 : Int32)
set_option maxRecDepth 20000 in
theorem kc_ft_loose {l : Launch} {D : va_G} {G : gAd} {post : CS → Int32 → Prop} {σ : CS} {a1 : Int32} (h : wc_ft_loose post σ a1) : cMet l D G yX12_loose cX12_loose 3 (some .int) 3 [.ref (G.1 200), .int a1] σ (pI post) := by
  unfold wc_ft_loose at h
  refine c_enter (own := RX12) (by decide +kernel) rfl [(0, .ref (G.1 200)), (1, .int a1)] rfl (Nat.le_of_ble_eq_true rfl) ?_
  intro E hE hm hF
  have hN := hm.2.2.2.2.2.2.1
  refine r_iload_n hE 1 dX12_loose_g0.1 rfl rfl ?_
  refine r_bipush (v := (12 : Int32)) hE dX12_loose_g0.2.1 (by decide) ?_
  refine c_callSi hE hm [.int a1, .int (12 : Int32)] [] ck_X12_145 (kc_SX12_inside h) (by decide) rfl rfl (Nat.le_of_ble_eq_true rfl) dX12_loose_g0.2.2.1 (fun s2 r3 h => ?_)
  refine r_if_ne hE 12 dX12_loose_g0.2.2.2.1 (by decide) h (fun h => ?_) (fun h => ?_)
  · refine r_aload_n hE 0 dX12_loose_g0.2.2.2.2.2.2.1 rfl rfl ?_
    refine cg_ft_hasFigure hE hm fk_X12_34 dX12_loose_g0.2.2.2.2.2.2.2.1 ?_
    refine r_if_ne hE 22 dX12_loose_g0.2.2.2.2.2.2.2.2.1 (by decide) h (fun h => ?_) (fun h => ?_)
    · refine r_aload_n hE 0 dX12_loose_g0.2.2.2.2.2.2.2.2.2.2.2.1 rfl rfl ?_
      refine cg_ft_frees hE hm fk_X12_76 dX12_loose_g0.2.2.2.2.2.2.2.2.2.2.2.2.1 ?_
      refine r_iload_n hE 1 dX12_loose_g0.2.2.2.2.2.2.2.2.2.2.2.2.2.1 rfl rfl ?_
      refine c_callVi hE hm [.int a1] [] ck_X12_163 (cr_fr hm rfl) (kc_fr_isMoved h) (by decide) rfl rfl (Nat.le_of_ble_eq_true rfl) dX12_loose_g0.2.2.2.2.2.2.2.2.2.2.2.2.2.2.1 (fun s4 r5 h => ?_)
      refine r_if_eq hE 37 dX12_loose_g0.2.2.2.2.2.2.2.2.2.2.2.2.2.2.2 (by decide) h (fun h => ?_) (fun h => ?_)
      · refine r_iconst (v := (0 : Int32)) hE dX12_loose_g1.2.2.1 (by decide) ?_
        exact kc_ft_loose_38 hE hm hF _ _ _ h
      · refine r_iconst (v := (1 : Int32)) hE dX12_loose_g1.1 (by decide) ?_
        refine r_goto hE 38 dX12_loose_g1.2.1 (by decide) ?_
        exact kc_ft_loose_38 hE hm hF _ _ _ h
    · refine r_ldc (v := (-2000000003 : Int32)) hE dX12_loose_g0.2.2.2.2.2.2.2.2.2.1 (gTb_2 (List.mem_of_getElem? (i := 200) rfl) rfl) ?_
      exact c_iret hE hm hF dX12_loose_g0.2.2.2.2.2.2.2.2.2.2.1 h
  · refine r_ldc (v := (-2000000002 : Int32)) hE dX12_loose_g0.2.2.2.2.1 (gTb_2 (List.mem_of_getElem? (i := 212) rfl) rfl) ?_
    exact c_iret hE hm hF dX12_loose_g0.2.2.2.2.2.1 h
/-! fg_dataOf -/
def wc_fg_dataOf (post : CS → Int32 → Prop) (σ : CS) (a1 : Int32) : Prop := ((a1 < (0 : Int32)) → (post σ (-1 : Int32))) ∧ ((¬ (a1 < (0 : Int32))) → ((((c_fg_nodes σ) ≤ a1) → (post σ (-1 : Int32))) ∧ ((¬ ((c_fg_nodes σ) ≤ a1)) → (vp_in a1 250 ∧ (post σ (c_fg_data σ a1.toNatClampNeg))))))
set_option maxRecDepth 20000 in
theorem kc_fg_dataOf {l : Launch} {D : va_G} {G : gAd} {post : CS → Int32 → Prop} {σ : CS} {a1 : Int32} (h : wc_fg_dataOf post σ a1) : cMet l D G yX1_dataOf cX1_dataOf 2 (some .int) 1 [.ref (G.1 300), .int a1] σ (pI post) := by
  unfold wc_fg_dataOf at h
  refine c_enter (own := RX1) (by decide +kernel) rfl [(0, .ref (G.1 300)), (1, .int a1)] rfl (Nat.le_of_ble_eq_true rfl) ?_
  intro E hE hm hF
  have hN := hm.2.2.2.2.2.2.1
  refine r_iload_n hE 1 dX1_dataOf_g0.1 rfl rfl ?_
  refine r_if_lt hE 21 dX1_dataOf_g0.2.1 (by decide) h (fun h => ?_) (fun h => ?_)
  · refine r_iconst (v := (-1 : Int32)) hE dX1_dataOf_g0.2.2.2.2.2.2.2.2.2.2.2.1 (by decide) ?_
    exact c_iret hE hm hF dX1_dataOf_g0.2.2.2.2.2.2.2.2.2.2.2.2 h
  · refine r_iload_n hE 1 dX1_dataOf_g0.2.2.1 rfl rfl ?_
    refine r_aload_n hE 0 dX1_dataOf_g0.2.2.2.1 rfl rfl ?_
    refine cg_fg_nodes hE hm fk_X1_41 dX1_dataOf_g0.2.2.2.2.1 ?_
    refine r_icmp_ge hE 21 dX1_dataOf_g0.2.2.2.2.2.1 (by decide) h (fun h => ?_) (fun h => ?_)
    · refine r_iconst (v := (-1 : Int32)) hE dX1_dataOf_g0.2.2.2.2.2.2.2.2.2.2.2.1 (by decide) ?_
      exact c_iret hE hm hF dX1_dataOf_g0.2.2.2.2.2.2.2.2.2.2.2.2 h
    · refine r_aload_n hE 0 dX1_dataOf_g0.2.2.2.2.2.2.1 rfl rfl ?_
      refine cg_fg_data hE hm fk_X1_26 dX1_dataOf_g0.2.2.2.2.2.2.2.1 ?_
      refine r_iload_n hE 1 dX1_dataOf_g0.2.2.2.2.2.2.2.2.1 rfl rfl ?_
      obtain ⟨hi, h⟩ := h
      refine cl_fg_data hE hm dX1_dataOf_g0.2.2.2.2.2.2.2.2.2.1 hi ?_
      refine r_goto hE 22 dX1_dataOf_g0.2.2.2.2.2.2.2.2.2.2.1 (by decide) ?_
      exact c_iret hE hm hF dX1_dataOf_g0.2.2.2.2.2.2.2.2.2.2.2.2 h
/-! fg_nextOf -/
def wc_fg_nextOf (post : CS → Int32 → Prop) (σ : CS) (a1 : Int32) : Prop := ((a1 < (0 : Int32)) → (post σ (-1 : Int32))) ∧ ((¬ (a1 < (0 : Int32))) → ((((c_fg_nodes σ) ≤ a1) → (post σ (-1 : Int32))) ∧ ((¬ ((c_fg_nodes σ) ≤ a1)) → (vp_in a1 250 ∧ (post σ (c_fg_next σ a1.toNatClampNeg))))))
set_option maxRecDepth 20000 in
theorem kc_fg_nextOf {l : Launch} {D : va_G} {G : gAd} {post : CS → Int32 → Prop} {σ : CS} {a1 : Int32} (h : wc_fg_nextOf post σ a1) : cMet l D G yX1_nextOf cX1_nextOf 2 (some .int) 1 [.ref (G.1 300), .int a1] σ (pI post) := by
  unfold wc_fg_nextOf at h
  refine c_enter (own := RX1) (by decide +kernel) rfl [(0, .ref (G.1 300)), (1, .int a1)] rfl (Nat.le_of_ble_eq_true rfl) ?_
  intro E hE hm hF
  have hN := hm.2.2.2.2.2.2.1
  refine r_iload_n hE 1 dX1_nextOf_g0.1 rfl rfl ?_
  refine r_if_lt hE 21 dX1_nextOf_g0.2.1 (by decide) h (fun h => ?_) (fun h => ?_)
  · refine r_iconst (v := (-1 : Int32)) hE dX1_nextOf_g0.2.2.2.2.2.2.2.2.2.2.2.1 (by decide) ?_
    exact c_iret hE hm hF dX1_nextOf_g0.2.2.2.2.2.2.2.2.2.2.2.2 h
  · refine r_iload_n hE 1 dX1_nextOf_g0.2.2.1 rfl rfl ?_
    refine r_aload_n hE 0 dX1_nextOf_g0.2.2.2.1 rfl rfl ?_
    refine cg_fg_nodes hE hm fk_X1_41 dX1_nextOf_g0.2.2.2.2.1 ?_
    refine r_icmp_ge hE 21 dX1_nextOf_g0.2.2.2.2.2.1 (by decide) h (fun h => ?_) (fun h => ?_)
    · refine r_iconst (v := (-1 : Int32)) hE dX1_nextOf_g0.2.2.2.2.2.2.2.2.2.2.2.1 (by decide) ?_
      exact c_iret hE hm hF dX1_nextOf_g0.2.2.2.2.2.2.2.2.2.2.2.2 h
    · refine r_aload_n hE 0 dX1_nextOf_g0.2.2.2.2.2.2.1 rfl rfl ?_
      refine cg_fg_next hE hm fk_X1_32 dX1_nextOf_g0.2.2.2.2.2.2.2.1 ?_
      refine r_iload_n hE 1 dX1_nextOf_g0.2.2.2.2.2.2.2.2.1 rfl rfl ?_
      obtain ⟨hi, h⟩ := h
      refine cl_fg_next hE hm dX1_nextOf_g0.2.2.2.2.2.2.2.2.2.1 hi ?_
      refine r_goto hE 22 dX1_nextOf_g0.2.2.2.2.2.2.2.2.2.2.1 (by decide) ?_
      exact c_iret hE hm hF dX1_nextOf_g0.2.2.2.2.2.2.2.2.2.2.2.2 h
/-! fg_typeOf -/
def wc_fg_typeOf (post : CS → Int32 → Prop) (σ : CS) (a1 : Int32) : Prop := ((a1 < (0 : Int32)) → (post σ (-1 : Int32))) ∧ ((¬ (a1 < (0 : Int32))) → ((((c_fg_nodes σ) ≤ a1) → (post σ (-1 : Int32))) ∧ ((¬ ((c_fg_nodes σ) ≤ a1)) → (vp_in a1 250 ∧ (post σ (c_fg_type σ a1.toNatClampNeg))))))
set_option maxRecDepth 20000 in
theorem kc_fg_typeOf {l : Launch} {D : va_G} {G : gAd} {post : CS → Int32 → Prop} {σ : CS} {a1 : Int32} (h : wc_fg_typeOf post σ a1) : cMet l D G yX1_typeOf cX1_typeOf 2 (some .int) 1 [.ref (G.1 300), .int a1] σ (pI post) := by
  unfold wc_fg_typeOf at h
  refine c_enter (own := RX1) (by decide +kernel) rfl [(0, .ref (G.1 300)), (1, .int a1)] rfl (Nat.le_of_ble_eq_true rfl) ?_
  intro E hE hm hF
  have hN := hm.2.2.2.2.2.2.1
  refine r_iload_n hE 1 dX1_typeOf_g0.1 rfl rfl ?_
  refine r_if_lt hE 21 dX1_typeOf_g0.2.1 (by decide) h (fun h => ?_) (fun h => ?_)
  · refine r_iconst (v := (-1 : Int32)) hE dX1_typeOf_g0.2.2.2.2.2.2.2.2.2.2.2.1 (by decide) ?_
    exact c_iret hE hm hF dX1_typeOf_g0.2.2.2.2.2.2.2.2.2.2.2.2 h
  · refine r_iload_n hE 1 dX1_typeOf_g0.2.2.1 rfl rfl ?_
    refine r_aload_n hE 0 dX1_typeOf_g0.2.2.2.1 rfl rfl ?_
    refine cg_fg_nodes hE hm fk_X1_41 dX1_typeOf_g0.2.2.2.2.1 ?_
    refine r_icmp_ge hE 21 dX1_typeOf_g0.2.2.2.2.2.1 (by decide) h (fun h => ?_) (fun h => ?_)
    · refine r_iconst (v := (-1 : Int32)) hE dX1_typeOf_g0.2.2.2.2.2.2.2.2.2.2.2.1 (by decide) ?_
      exact c_iret hE hm hF dX1_typeOf_g0.2.2.2.2.2.2.2.2.2.2.2.2 h
    · refine r_aload_n hE 0 dX1_typeOf_g0.2.2.2.2.2.2.1 rfl rfl ?_
      refine cg_fg_type hE hm fk_X1_19 dX1_typeOf_g0.2.2.2.2.2.2.2.1 ?_
      refine r_iload_n hE 1 dX1_typeOf_g0.2.2.2.2.2.2.2.2.1 rfl rfl ?_
      obtain ⟨hi, h⟩ := h
      refine cl_fg_type hE hm dX1_typeOf_g0.2.2.2.2.2.2.2.2.2.1 hi ?_
      refine r_goto hE 22 dX1_typeOf_g0.2.2.2.2.2.2.2.2.2.2.1 (by decide) ?_
      exact c_iret hE hm hF dX1_typeOf_g0.2.2.2.2.2.2.2.2.2.2.2.2 h
/-! rk_fail -/
def wc_rk_fail (post : CS → Prop) (σ : CS) (a1 : Int32) : Prop := ((¬ ((c_rk_failure σ) = (0 : Int32))) → (post σ)) ∧ (((c_rk_failure σ) = (0 : Int32)) → (∀ s1 : CS, s1 = c_rk_failure_s σ a1 → post s1))
set_option maxRecDepth 20000 in
theorem kc_rk_fail {l : Launch} {D : va_G} {G : gAd} {post : CS → Prop} {σ : CS} {a1 : Int32} (h : wc_rk_fail post σ a1) : cMet l D G yX6_fail cX6_fail 2 none 1 [.ref (G.1 800), .int a1] σ (pV post) := by
  unfold wc_rk_fail at h
  refine c_enter (own := RX6) (by decide +kernel) rfl [(0, .ref (G.1 800)), (1, .int a1)] rfl (Nat.le_of_ble_eq_true rfl) ?_
  intro E hE hm hF
  have hN := hm.2.2.2.2.2.2.1
  refine r_aload_n hE 0 dX6_fail_g0.1 rfl rfl ?_
  refine cg_rk_failure hE hm fk_X6_9 dX6_fail_g0.2.1 ?_
  refine r_if_ne hE 12 dX6_fail_g0.2.2.1 (by decide) h (fun h => ?_) (fun h => ?_)
  · exact c_vret hE hm hF dX6_fail_g0.2.2.2.2.2.2 h
  · refine r_aload_n hE 0 dX6_fail_g0.2.2.2.1 rfl rfl ?_
    refine r_iload_n hE 1 dX6_fail_g0.2.2.2.2.1 rfl rfl ?_
    refine cp_rk_failure hE hm fk_X6_9 dX6_fail_g0.2.2.2.2.2.1 h (fun s1 h => ?_)
    exact c_vret hE hm hF dX6_fail_g0.2.2.2.2.2.2 h
/-! SX6_bottom -/
def wc_SX6_bottom (post : CS → Int64 → Prop) (σ : CS) (a0 : Int64) : Prop := post σ (a0 &&& (4294967295 : Int64))
set_option maxRecDepth 20000 in
theorem kc_SX6_bottom {l : Launch} {D : va_G} {G : gAd} {post : CS → Int64 → Prop} {σ : CS} {a0 : Int64} (h : wc_SX6_bottom post σ a0) : cMet l D G yX6_bottom cX6_bottom 2 (some .long) 1 [.long a0] σ (pL post) := by
  unfold wc_SX6_bottom at h
  refine c_enter (own := RX6) (by decide +kernel) rfl [(0, .long a0)] rfl (Nat.le_of_ble_eq_true rfl) ?_
  intro E hE hm hF
  have hN := hm.2.2.2.2.2.2.1
  refine r_lload_n hE 0 dX6_bottom_g0.1 rfl rfl ?_
  refine r_ldc2 (v := (4294967295 : Int64)) hE dX6_bottom_g0.2.1 (gTb_5 (List.mem_of_getElem? (i := 10) rfl) rfl) ?_
  refine r_land hE dX6_bottom_g0.2.2.1 ?_
  exact c_lret hE hm hF dX6_bottom_g0.2.2.2 h
/-! th_kindOf -/
def wc_th_kindOf (post : CS → Int32 → Prop) (σ : CS) (a1 : Int32) : Prop := ((a1 < (0 : Int32)) → (post σ (-1 : Int32))) ∧ ((¬ (a1 < (0 : Int32))) → ((((c_th_many σ) ≤ a1) → (post σ (-1 : Int32))) ∧ ((¬ ((c_th_many σ) ≤ a1)) → (vp_in a1 400 ∧ (post σ (c_th_kinds σ a1.toNatClampNeg))))))
set_option maxRecDepth 20000 in
theorem kc_th_kindOf {l : Launch} {D : va_G} {G : gAd} {post : CS → Int32 → Prop} {σ : CS} {a1 : Int32} (h : wc_th_kindOf post σ a1) : cMet l D G yX8_kindOf cX8_kindOf 2 (some .int) 1 [.ref (G.1 900), .int a1] σ (pI post) := by
  unfold wc_th_kindOf at h
  refine c_enter (own := RX8) (by decide +kernel) rfl [(0, .ref (G.1 900)), (1, .int a1)] rfl (Nat.le_of_ble_eq_true rfl) ?_
  intro E hE hm hF
  have hN := hm.2.2.2.2.2.2.1
  refine r_iload_n hE 1 dX8_kindOf_g0.1 rfl rfl ?_
  refine r_if_lt hE 21 dX8_kindOf_g0.2.1 (by decide) h (fun h => ?_) (fun h => ?_)
  · refine r_iconst (v := (-1 : Int32)) hE dX8_kindOf_g0.2.2.2.2.2.2.2.2.2.2.2.1 (by decide) ?_
    exact c_iret hE hm hF dX8_kindOf_g0.2.2.2.2.2.2.2.2.2.2.2.2 h
  · refine r_iload_n hE 1 dX8_kindOf_g0.2.2.1 rfl rfl ?_
    refine r_aload_n hE 0 dX8_kindOf_g0.2.2.2.1 rfl rfl ?_
    refine cg_th_many hE hm fk_X8_25 dX8_kindOf_g0.2.2.2.2.1 ?_
    refine r_icmp_ge hE 21 dX8_kindOf_g0.2.2.2.2.2.1 (by decide) h (fun h => ?_) (fun h => ?_)
    · refine r_iconst (v := (-1 : Int32)) hE dX8_kindOf_g0.2.2.2.2.2.2.2.2.2.2.2.1 (by decide) ?_
      exact c_iret hE hm hF dX8_kindOf_g0.2.2.2.2.2.2.2.2.2.2.2.2 h
    · refine r_aload_n hE 0 dX8_kindOf_g0.2.2.2.2.2.2.1 rfl rfl ?_
      refine cg_th_kinds hE hm fk_X8_9 dX8_kindOf_g0.2.2.2.2.2.2.2.1 ?_
      refine r_iload_n hE 1 dX8_kindOf_g0.2.2.2.2.2.2.2.2.1 rfl rfl ?_
      obtain ⟨hi, h⟩ := h
      refine cl_th_kinds hE hm dX8_kindOf_g0.2.2.2.2.2.2.2.2.2.1 hi ?_
      refine r_goto hE 22 dX8_kindOf_g0.2.2.2.2.2.2.2.2.2.2.1 (by decide) ?_
      exact c_iret hE hm hF dX8_kindOf_g0.2.2.2.2.2.2.2.2.2.2.2.2 h
/-! th_partOf -/
def wc_th_partOf_27 (post : CS → Int64 → Prop) (σ : CS) (v1 : Int32) (v2 : Int32) (t0 : Int32) : Prop := ((t0 = (0 : Int32)) → (post σ (1 : Int64))) ∧ ((¬ (t0 = (0 : Int32))) → (vp_in ((v1 * (7 : Int32)) + v2) 2800 ∧ (post σ (c_th_parts σ ((v1 * (7 : Int32)) + v2).toNatClampNeg))))
set_option maxRecDepth 20000 in
theorem kc_th_partOf_27  {E : gEnv} {l : Launch} {D : va_G} {G : gAd} {post : CS → Int64 → Prop} (hE : gOK E cX8_partOf RX8 (some .long) 1) (hm : cOK E l D G (pL post) 4) (hF : gFin E) (σ : CS) (v1 : Int32) (v2 : Int32) (t0 : Int32) (h : wc_th_partOf_27 post σ v1 v2 t0) : GW E (cW G σ) 27 [(0, .ref (G.1 900)), (1, .int v1), (2, .int v2)] [.int t0] := by
  unfold wc_th_partOf_27 at h
  have hN := hm.2.2.2.2.2.2.1
  refine r_istore_n hE [(3, .int t0), (0, .ref (G.1 900)), (1, .int v1), (2, .int v2)] dX8_partOf_g0.2.2.2.2.2.2.2.2.2.2.2.2.2.2.1 rfl hN (by decide) rfl ?_
  refine r_iload_n hE 0 dX8_partOf_g0.2.2.2.2.2.2.2.2.2.2.2.2.2.2.2 rfl rfl ?_
  refine r_if_eq hE 46 dX8_partOf_g1.1 (by decide) h (fun h => ?_) (fun h => ?_)
  · refine r_lconst (v := (1 : Int64)) hE dX8_partOf_g1.2.2.2.2.2.2.2.2.2.2.1 (by decide) ?_
    exact c_lret hE hm hF dX8_partOf_g1.2.2.2.2.2.2.2.2.2.2.2 h
  · refine r_aload_n hE 1 dX8_partOf_g1.2.1 rfl rfl ?_
    refine cg_th_parts hE hm fk_X8_18 dX8_partOf_g1.2.2.1 ?_
    refine r_iload_n hE 2 dX8_partOf_g1.2.2.2.1 rfl rfl ?_
    refine r_bipush (v := (7 : Int32)) hE dX8_partOf_g1.2.2.2.2.1 (by decide) ?_
    refine r_imul hE dX8_partOf_g1.2.2.2.2.2.1 ?_
    refine r_iload_n hE 3 dX8_partOf_g1.2.2.2.2.2.2.1 rfl rfl ?_
    refine r_iadd hE dX8_partOf_g1.2.2.2.2.2.2.2.1 ?_
    obtain ⟨hi, h⟩ := h
    refine cl_th_parts hE hm dX8_partOf_g1.2.2.2.2.2.2.2.2.1 hi ?_
    refine r_goto hE 47 dX8_partOf_g1.2.2.2.2.2.2.2.2.2.1 (by decide) ?_
    exact c_lret hE hm hF dX8_partOf_g1.2.2.2.2.2.2.2.2.2.2.2 h
def wc_th_partOf_26 (post : CS → Int64 → Prop) (σ : CS) (v1 : Int32) (v2 : Int32) : Prop := wc_th_partOf_27 post σ v1 v2 (0 : Int32)
set_option maxRecDepth 20000 in
theorem kc_th_partOf_26  {E : gEnv} {l : Launch} {D : va_G} {G : gAd} {post : CS → Int64 → Prop} (hE : gOK E cX8_partOf RX8 (some .long) 1) (hm : cOK E l D G (pL post) 4) (hF : gFin E) (σ : CS) (v1 : Int32) (v2 : Int32) (h : wc_th_partOf_26 post σ v1 v2) : GW E (cW G σ) 26 [(0, .ref (G.1 900)), (1, .int v1), (2, .int v2)] [] := by
  unfold wc_th_partOf_26 at h
  have hN := hm.2.2.2.2.2.2.1
  refine r_iconst (v := (0 : Int32)) hE dX8_partOf_g0.2.2.2.2.2.2.2.2.2.2.2.2.2.1 (by decide) ?_
  exact kc_th_partOf_27 hE hm hF _ _ _ _ h
def wc_th_partOf (post : CS → Int64 → Prop) (σ : CS) (a1 : Int32) (a2 : Int32) : Prop := ((a1 < (0 : Int32)) → (wc_th_partOf_26 post σ a1 a2)) ∧ ((¬ (a1 < (0 : Int32))) → ((((c_th_many σ) ≤ a1) → (wc_th_partOf_26 post σ a1 a2)) ∧ ((¬ ((c_th_many σ) ≤ a1)) → (((a2 < (0 : Int32)) → (wc_th_partOf_26 post σ a1 a2)) ∧ ((¬ (a2 < (0 : Int32))) → ((((7 : Int32) ≤ a2) → (wc_th_partOf_26 post σ a1 a2)) ∧ ((¬ ((7 : Int32) ≤ a2)) → (wc_th_partOf_27 post σ a1 a2 (1 : Int32)))))))))
set_option maxRecDepth 20000 in
theorem kc_th_partOf {l : Launch} {D : va_G} {G : gAd} {post : CS → Int64 → Prop} {σ : CS} {a1 : Int32} {a2 : Int32} (h : wc_th_partOf post σ a1 a2) : cMet l D G yX8_partOf cX8_partOf 4 (some .long) 1 [.ref (G.1 900), .int a1, .int a2] σ (pL post) := by
  unfold wc_th_partOf at h
  refine c_enter (own := RX8) (by decide +kernel) rfl [(0, .ref (G.1 900)), (1, .int a1), (2, .int a2)] rfl (Nat.le_of_ble_eq_true rfl) ?_
  intro E hE hm hF
  have hN := hm.2.2.2.2.2.2.1
  refine r_iload_n hE 1 dX8_partOf_g0.1 rfl rfl ?_
  refine r_if_lt hE 26 dX8_partOf_g0.2.1 (by decide) h (fun h => ?_) (fun h => ?_)
  · exact kc_th_partOf_26 hE hm hF _ _ _ h
  · refine r_iload_n hE 1 dX8_partOf_g0.2.2.1 rfl rfl ?_
    refine r_aload_n hE 0 dX8_partOf_g0.2.2.2.1 rfl rfl ?_
    refine cg_th_many hE hm fk_X8_25 dX8_partOf_g0.2.2.2.2.1 ?_
    refine r_icmp_ge hE 26 dX8_partOf_g0.2.2.2.2.2.1 (by decide) h (fun h => ?_) (fun h => ?_)
    · exact kc_th_partOf_26 hE hm hF _ _ _ h
    · refine r_iload_n hE 2 dX8_partOf_g0.2.2.2.2.2.2.1 rfl rfl ?_
      refine r_if_lt hE 26 dX8_partOf_g0.2.2.2.2.2.2.2.1 (by decide) h (fun h => ?_) (fun h => ?_)
      · exact kc_th_partOf_26 hE hm hF _ _ _ h
      · refine r_iload_n hE 2 dX8_partOf_g0.2.2.2.2.2.2.2.2.1 rfl rfl ?_
        refine r_bipush (v := (7 : Int32)) hE dX8_partOf_g0.2.2.2.2.2.2.2.2.2.1 (by decide) ?_
        refine r_icmp_ge hE 26 dX8_partOf_g0.2.2.2.2.2.2.2.2.2.2.1 (by decide) h (fun h => ?_) (fun h => ?_)
        · exact kc_th_partOf_26 hE hm hF _ _ _ h
        · refine r_iconst (v := (1 : Int32)) hE dX8_partOf_g0.2.2.2.2.2.2.2.2.2.2.2.1 (by decide) ?_
          refine r_goto hE 27 dX8_partOf_g0.2.2.2.2.2.2.2.2.2.2.2.2.1 (by decide) ?_
          exact kc_th_partOf_27 hE hm hF _ _ _ _ h
/-! th_fits -/
def wc_th_fits_219 (post : CS → Int32 → Prop) (σ : CS) : Prop := post σ (1 : Int32)
set_option maxRecDepth 20000 in
theorem kc_th_fits_219  {E : gEnv} {l : Launch} {D : va_G} {G : gAd} {post : CS → Int32 → Prop} (hE : gOK E cX8_fits RX8 (some .boolean) 2) (hm : cOK E l D G (pI post) 4) (hF : gFin E) (σ : CS) (h : wc_th_fits_219 post σ) : GW E (cW G σ) 219 [] [] := by
  unfold wc_th_fits_219 at h
  have hN := hm.2.2.2.2.2.2.1
  refine r_iconst (v := (1 : Int32)) hE dX8_fits_g4.2.2.2.2.2.2.2.2.2.2.2.2.1 (by decide) ?_
  refine r_goto hE 224 dX8_fits_g4.2.2.2.2.2.2.2.2.2.2.2.2.2.1 (by decide) ?_
  exact c_zret hE hm hF dX8_fits_g4.2.2.2.2.2.2.2.2.2.2.2.2.2.2.2 (Or.inr rfl) h
def wc_th_fits_130 (post : CS → Int32 → Prop) (σ : CS) : Prop := post σ (1 : Int32)
set_option maxRecDepth 20000 in
theorem kc_th_fits_130  {E : gEnv} {l : Launch} {D : va_G} {G : gAd} {post : CS → Int32 → Prop} (hE : gOK E cX8_fits RX8 (some .boolean) 2) (hm : cOK E l D G (pI post) 4) (hF : gFin E) (σ : CS) (h : wc_th_fits_130 post σ) : GW E (cW G σ) 130 [] [] := by
  unfold wc_th_fits_130 at h
  have hN := hm.2.2.2.2.2.2.1
  refine r_iconst (v := (1 : Int32)) hE dX8_fits_g1.2.2.2.2.2.2.1 (by decide) ?_
  refine r_goto hE 135 dX8_fits_g1.2.2.2.2.2.2.2.1 (by decide) ?_
  exact c_zret hE hm hF dX8_fits_g1.2.2.2.2.2.2.2.2.2.1 (Or.inr rfl) h
def wc_th_fits_114 (post : CS → Int32 → Prop) (σ : CS) : Prop := post σ (1 : Int32)
set_option maxRecDepth 20000 in
theorem kc_th_fits_114  {E : gEnv} {l : Launch} {D : va_G} {G : gAd} {post : CS → Int32 → Prop} (hE : gOK E cX8_fits RX8 (some .boolean) 2) (hm : cOK E l D G (pI post) 4) (hF : gFin E) (σ : CS) (h : wc_th_fits_114 post σ) : GW E (cW G σ) 114 [] [] := by
  unfold wc_th_fits_114 at h
  have hN := hm.2.2.2.2.2.2.1
  refine r_iconst (v := (1 : Int32)) hE dX8_fits_g0.2.2.2.2.2.2.2.2.2.2.2.2.1 (by decide) ?_
  refine r_goto hE 119 dX8_fits_g0.2.2.2.2.2.2.2.2.2.2.2.2.2.1 (by decide) ?_
  exact c_zret hE hm hF dX8_fits_g0.2.2.2.2.2.2.2.2.2.2.2.2.2.2.2 (Or.inr rfl) h
def wc_th_fits (post : CS → Int32 → Prop) (σ : CS) (a1 : Int32) (a2 : Int32) : Prop := wc_th_kindOf (fun (s1 : CS) (r2 : Int32) => (a2 = (67 : Int32) → (((¬ (r2 = (5 : Int32))) → (post s1 (0 : Int32))) ∧ ((r2 = (5 : Int32)) → (post s1 (1 : Int32))))) ∧ (¬ a2 = (67 : Int32) → ((a2 = (68 : Int32) → (post s1 (1 : Int32))) ∧ (¬ a2 = (68 : Int32) → ((a2 = (69 : Int32) → (post s1 (1 : Int32))) ∧ (¬ a2 = (69 : Int32) → ((a2 = (70 : Int32) → (((r2 = (3 : Int32)) → (wc_th_fits_219 post s1)) ∧ ((¬ (r2 = (3 : Int32))) → (((r2 = (4 : Int32)) → (wc_th_fits_219 post s1)) ∧ ((¬ (r2 = (4 : Int32))) → (((¬ (r2 = (5 : Int32))) → (post s1 (0 : Int32))) ∧ ((r2 = (5 : Int32)) → (wc_th_fits_219 post s1)))))))) ∧ (¬ a2 = (70 : Int32) → ((a2 = (71 : Int32) → (post s1 (1 : Int32))) ∧ (¬ a2 = (71 : Int32) → ((a2 = (72 : Int32) → (post s1 (1 : Int32))) ∧ (¬ a2 = (72 : Int32) → ((a2 = (73 : Int32) → (post s1 (1 : Int32))) ∧ (¬ a2 = (73 : Int32) → ((a2 = (74 : Int32) → (post s1 (1 : Int32))) ∧ (¬ a2 = (74 : Int32) → ((a2 = (75 : Int32) → (post s1 (1 : Int32))) ∧ (¬ a2 = (75 : Int32) → ((a2 = (76 : Int32) → (((r2 = (3 : Int32)) → (wc_th_fits_130 post s1)) ∧ ((¬ (r2 = (3 : Int32))) → (((¬ (r2 = (4 : Int32))) → (post s1 (0 : Int32))) ∧ ((r2 = (4 : Int32)) → (wc_th_fits_130 post s1)))))) ∧ (¬ a2 = (76 : Int32) → ((a2 = (77 : Int32) → (post s1 (1 : Int32))) ∧ (¬ a2 = (77 : Int32) → ((a2 = (78 : Int32) → (((¬ (r2 = (0 : Int32))) → (post s1 (0 : Int32))) ∧ ((r2 = (0 : Int32)) → (post s1 (1 : Int32))))) ∧ (¬ a2 = (78 : Int32) → ((a2 = (79 : Int32) → (post s1 (1 : Int32))) ∧ (¬ a2 = (79 : Int32) → ((a2 = (80 : Int32) → (((r2 = (1 : Int32)) → (wc_th_fits_114 post s1)) ∧ ((¬ (r2 = (1 : Int32))) → (((¬ (r2 = (2 : Int32))) → (post s1 (0 : Int32))) ∧ ((r2 = (2 : Int32)) → (wc_th_fits_114 post s1)))))) ∧ (¬ a2 = (80 : Int32) → ((a2 = (81 : Int32) → (post s1 (1 : Int32))) ∧ (¬ a2 = (81 : Int32) → ((a2 = (82 : Int32) → (((¬ (r2 = (6 : Int32))) → (post s1 (0 : Int32))) ∧ ((r2 = (6 : Int32)) → (post s1 (1 : Int32))))) ∧ (¬ a2 = (82 : Int32) → ((a2 = (83 : Int32) → (((¬ (r2 = (4 : Int32))) → (post s1 (0 : Int32))) ∧ ((r2 = (4 : Int32)) → (post s1 (1 : Int32))))) ∧ (¬ a2 = (83 : Int32) → ((a2 = (84 : Int32) → (post s1 (1 : Int32))) ∧ (¬ a2 = (84 : Int32) → ((a2 = (85 : Int32) → (post s1 (1 : Int32))) ∧ (¬ a2 = (85 : Int32) → ((a2 = (86 : Int32) → (post s1 (1 : Int32))) ∧ (¬ a2 = (86 : Int32) → ((a2 = (87 : Int32) → (((¬ (r2 = (0 : Int32))) → (post s1 (0 : Int32))) ∧ ((r2 = (0 : Int32)) → (wc_th_partOf (fun (s3 : CS) (r4 : Int64) => wc_SX6_bottom (fun (s5 : CS) (r6 : Int64) => ((¬ ((lg_cmp r6 (1 : Int64)) = (0 : Int32))) → (post s5 (0 : Int32))) ∧ (((lg_cmp r6 (1 : Int64)) = (0 : Int32)) → (post s5 (1 : Int32)))) s3 r4) s1 a1 (0 : Int32))))) ∧ (¬ a2 = (87 : Int32) → (post s1 (1 : Int32)))))))))))))))))))))))))))))))))))))))))))) σ a1
set_option maxRecDepth 20000 in
theorem kc_th_fits {l : Launch} {D : va_G} {G : gAd} {post : CS → Int32 → Prop} {σ : CS} {a1 : Int32} {a2 : Int32} (h : wc_th_fits post σ a1 a2) : cMet l D G yX8_fits cX8_fits 4 (some .boolean) 2 [.ref (G.1 900), .int a1, .int a2] σ (pI post) := by
  unfold wc_th_fits at h
  refine c_enter (own := RX8) (by decide +kernel) rfl [(0, .ref (G.1 900)), (1, .int a1), (2, .int a2)] rfl (Nat.le_of_ble_eq_true rfl) ?_
  intro E hE hm hF
  have hN := hm.2.2.2.2.2.2.1
  refine r_aload_n hE 0 dX8_fits_g0.1 rfl rfl ?_
  refine r_iload_n hE 1 dX8_fits_g0.2.1 rfl rfl ?_
  refine c_callVi hE hm [.int a1] [] ck_X8_59 (cr_th hm rfl) (kc_th_kindOf h) (by decide) rfl rfl (Nat.le_of_ble_eq_true rfl) dX8_fits_g0.2.2.1 (fun s1 r2 h => ?_)
  refine r_istore_n hE [(3, .int r2), (0, .ref (G.1 900)), (1, .int a1), (2, .int a2)] dX8_fits_g0.2.2.2.1 rfl hN (by decide) rfl ?_
  refine r_iload_n hE 3 dX8_fits_g0.2.2.2.2.1 rfl rfl ?_
  refine r_case (67 : Int32) h (fun q0 h => ?_) (fun q0 h => ?_)
  · refine r_tableAt (off := 140) hE (67 : Int32) 147 dX8_fits_g0.2.2.2.2.2.1 q0 (by decide) (by decide) (by decide) (by decide) ?_
    refine r_iload_n hE 0 dX8_fits_g2.2.1 rfl rfl ?_
    refine r_iconst (v := (5 : Int32)) hE dX8_fits_g2.2.2.1 (by decide) ?_
    refine r_icmp_ne hE 156 dX8_fits_g2.2.2.2.1 (by decide) h (fun h => ?_) (fun h => ?_)
    · refine r_iconst (v := (0 : Int32)) hE dX8_fits_g2.2.2.2.2.2.2.1 (by decide) ?_
      exact c_zret hE hm hF dX8_fits_g2.2.2.2.2.2.2.2.1 (Or.inl rfl) h
    · refine r_iconst (v := (1 : Int32)) hE dX8_fits_g2.2.2.2.2.1 (by decide) ?_
      refine r_goto hE 157 dX8_fits_g2.2.2.2.2.2.1 (by decide) ?_
      exact c_zret hE hm hF dX8_fits_g2.2.2.2.2.2.2.2.1 (Or.inr rfl) h
  · refine r_case (68 : Int32) h (fun q1 h => ?_) (fun q1 h => ?_)
    · refine r_tableAt (off := 218) hE (68 : Int32) 225 dX8_fits_g0.2.2.2.2.2.1 q1 (by decide) (by decide) (by decide) (by decide) ?_
      refine r_iconst (v := (1 : Int32)) hE dX8_fits_g5.1 (by decide) ?_
      exact c_zret hE hm hF dX8_fits_g5.2 (Or.inr rfl) h
    · refine r_case (69 : Int32) h (fun q2 h => ?_) (fun q2 h => ?_)
      · refine r_tableAt (off := 218) hE (69 : Int32) 225 dX8_fits_g0.2.2.2.2.2.1 q2 (by decide) (by decide) (by decide) (by decide) ?_
        refine r_iconst (v := (1 : Int32)) hE dX8_fits_g5.1 (by decide) ?_
        exact c_zret hE hm hF dX8_fits_g5.2 (Or.inr rfl) h
      · refine r_case (70 : Int32) h (fun q3 h => ?_) (fun q3 h => ?_)
        · refine r_tableAt (off := 197) hE (70 : Int32) 204 dX8_fits_g0.2.2.2.2.2.1 q3 (by decide) (by decide) (by decide) (by decide) ?_
          refine r_iload_n hE 0 dX8_fits_g4.2.2.2.1 rfl rfl ?_
          refine r_iconst (v := (3 : Int32)) hE dX8_fits_g4.2.2.2.2.1 (by decide) ?_
          refine r_icmp_eq hE 219 dX8_fits_g4.2.2.2.2.2.1 (by decide) h (fun h => ?_) (fun h => ?_)
          · refine r_pick [] rfl ?_
            exact kc_th_fits_219 hE hm hF _ h
          · refine r_iload_n hE 0 dX8_fits_g4.2.2.2.2.2.2.1 rfl rfl ?_
            refine r_iconst (v := (4 : Int32)) hE dX8_fits_g4.2.2.2.2.2.2.2.1 (by decide) ?_
            refine r_icmp_eq hE 219 dX8_fits_g4.2.2.2.2.2.2.2.2.1 (by decide) h (fun h => ?_) (fun h => ?_)
            · refine r_pick [] rfl ?_
              exact kc_th_fits_219 hE hm hF _ h
            · refine r_iload_n hE 0 dX8_fits_g4.2.2.2.2.2.2.2.2.2.1 rfl rfl ?_
              refine r_iconst (v := (5 : Int32)) hE dX8_fits_g4.2.2.2.2.2.2.2.2.2.2.1 (by decide) ?_
              refine r_icmp_ne hE 223 dX8_fits_g4.2.2.2.2.2.2.2.2.2.2.2.1 (by decide) h (fun h => ?_) (fun h => ?_)
              · refine r_iconst (v := (0 : Int32)) hE dX8_fits_g4.2.2.2.2.2.2.2.2.2.2.2.2.2.2.1 (by decide) ?_
                exact c_zret hE hm hF dX8_fits_g4.2.2.2.2.2.2.2.2.2.2.2.2.2.2.2 (Or.inl rfl) h
              · refine r_pick [] rfl ?_
                exact kc_th_fits_219 hE hm hF _ h
        · refine r_case (71 : Int32) h (fun q4 h => ?_) (fun q4 h => ?_)
          · refine r_tableAt (off := 218) hE (71 : Int32) 225 dX8_fits_g0.2.2.2.2.2.1 q4 (by decide) (by decide) (by decide) (by decide) ?_
            refine r_iconst (v := (1 : Int32)) hE dX8_fits_g5.1 (by decide) ?_
            exact c_zret hE hm hF dX8_fits_g5.2 (Or.inr rfl) h
          · refine r_case (72 : Int32) h (fun q5 h => ?_) (fun q5 h => ?_)
            · refine r_tableAt (off := 218) hE (72 : Int32) 225 dX8_fits_g0.2.2.2.2.2.1 q5 (by decide) (by decide) (by decide) (by decide) ?_
              refine r_iconst (v := (1 : Int32)) hE dX8_fits_g5.1 (by decide) ?_
              exact c_zret hE hm hF dX8_fits_g5.2 (Or.inr rfl) h
            · refine r_case (73 : Int32) h (fun q6 h => ?_) (fun q6 h => ?_)
              · refine r_tableAt (off := 218) hE (73 : Int32) 225 dX8_fits_g0.2.2.2.2.2.1 q6 (by decide) (by decide) (by decide) (by decide) ?_
                refine r_iconst (v := (1 : Int32)) hE dX8_fits_g5.1 (by decide) ?_
                exact c_zret hE hm hF dX8_fits_g5.2 (Or.inr rfl) h
              · refine r_case (74 : Int32) h (fun q7 h => ?_) (fun q7 h => ?_)
                · refine r_tableAt (off := 218) hE (74 : Int32) 225 dX8_fits_g0.2.2.2.2.2.1 q7 (by decide) (by decide) (by decide) (by decide) ?_
                  refine r_iconst (v := (1 : Int32)) hE dX8_fits_g5.1 (by decide) ?_
                  exact c_zret hE hm hF dX8_fits_g5.2 (Or.inr rfl) h
                · refine r_case (75 : Int32) h (fun q8 h => ?_) (fun q8 h => ?_)
                  · refine r_tableAt (off := 218) hE (75 : Int32) 225 dX8_fits_g0.2.2.2.2.2.1 q8 (by decide) (by decide) (by decide) (by decide) ?_
                    refine r_iconst (v := (1 : Int32)) hE dX8_fits_g5.1 (by decide) ?_
                    exact c_zret hE hm hF dX8_fits_g5.2 (Or.inr rfl) h
                  · refine r_case (76 : Int32) h (fun q9 h => ?_) (fun q9 h => ?_)
                    · refine r_tableAt (off := 113) hE (76 : Int32) 120 dX8_fits_g0.2.2.2.2.2.1 q9 (by decide) (by decide) (by decide) (by decide) ?_
                      refine r_iload_n hE 0 dX8_fits_g1.1 rfl rfl ?_
                      refine r_iconst (v := (3 : Int32)) hE dX8_fits_g1.2.1 (by decide) ?_
                      refine r_icmp_eq hE 130 dX8_fits_g1.2.2.1 (by decide) h (fun h => ?_) (fun h => ?_)
                      · refine r_pick [] rfl ?_
                        exact kc_th_fits_130 hE hm hF _ h
                      · refine r_iload_n hE 0 dX8_fits_g1.2.2.2.1 rfl rfl ?_
                        refine r_iconst (v := (4 : Int32)) hE dX8_fits_g1.2.2.2.2.1 (by decide) ?_
                        refine r_icmp_ne hE 134 dX8_fits_g1.2.2.2.2.2.1 (by decide) h (fun h => ?_) (fun h => ?_)
                        · refine r_iconst (v := (0 : Int32)) hE dX8_fits_g1.2.2.2.2.2.2.2.2.1 (by decide) ?_
                          exact c_zret hE hm hF dX8_fits_g1.2.2.2.2.2.2.2.2.2.1 (Or.inl rfl) h
                        · refine r_pick [] rfl ?_
                          exact kc_th_fits_130 hE hm hF _ h
                    · refine r_case (77 : Int32) h (fun q10 h => ?_) (fun q10 h => ?_)
                      · refine r_tableAt (off := 218) hE (77 : Int32) 225 dX8_fits_g0.2.2.2.2.2.1 q10 (by decide) (by decide) (by decide) (by decide) ?_
                        refine r_iconst (v := (1 : Int32)) hE dX8_fits_g5.1 (by decide) ?_
                        exact c_zret hE hm hF dX8_fits_g5.2 (Or.inr rfl) h
                      · refine r_case (78 : Int32) h (fun q11 h => ?_) (fun q11 h => ?_)
                        · refine r_tableAt (off := 163) hE (78 : Int32) 170 dX8_fits_g0.2.2.2.2.2.1 q11 (by decide) (by decide) (by decide) (by decide) ?_
                          refine r_iload_n hE 0 dX8_fits_g2.2.2.2.2.2.2.2.2.2.2.2.2.2.2.2 rfl rfl ?_
                          refine r_if_ne hE 178 dX8_fits_g3.1 (by decide) h (fun h => ?_) (fun h => ?_)
                          · refine r_iconst (v := (0 : Int32)) hE dX8_fits_g3.2.2.2.1 (by decide) ?_
                            exact c_zret hE hm hF dX8_fits_g3.2.2.2.2.1 (Or.inl rfl) h
                          · refine r_iconst (v := (1 : Int32)) hE dX8_fits_g3.2.1 (by decide) ?_
                            refine r_goto hE 179 dX8_fits_g3.2.2.1 (by decide) ?_
                            exact c_zret hE hm hF dX8_fits_g3.2.2.2.2.1 (Or.inr rfl) h
                        · refine r_case (79 : Int32) h (fun q12 h => ?_) (fun q12 h => ?_)
                          · refine r_tableAt (off := 218) hE (79 : Int32) 225 dX8_fits_g0.2.2.2.2.2.1 q12 (by decide) (by decide) (by decide) (by decide) ?_
                            refine r_iconst (v := (1 : Int32)) hE dX8_fits_g5.1 (by decide) ?_
                            exact c_zret hE hm hF dX8_fits_g5.2 (Or.inr rfl) h
                          · refine r_case (80 : Int32) h (fun q13 h => ?_) (fun q13 h => ?_)
                            · refine r_tableAt (off := 97) hE (80 : Int32) 104 dX8_fits_g0.2.2.2.2.2.1 q13 (by decide) (by decide) (by decide) (by decide) ?_
                              refine r_iload_n hE 0 dX8_fits_g0.2.2.2.2.2.2.1 rfl rfl ?_
                              refine r_iconst (v := (1 : Int32)) hE dX8_fits_g0.2.2.2.2.2.2.2.1 (by decide) ?_
                              refine r_icmp_eq hE 114 dX8_fits_g0.2.2.2.2.2.2.2.2.1 (by decide) h (fun h => ?_) (fun h => ?_)
                              · refine r_pick [] rfl ?_
                                exact kc_th_fits_114 hE hm hF _ h
                              · refine r_iload_n hE 0 dX8_fits_g0.2.2.2.2.2.2.2.2.2.1 rfl rfl ?_
                                refine r_iconst (v := (2 : Int32)) hE dX8_fits_g0.2.2.2.2.2.2.2.2.2.2.1 (by decide) ?_
                                refine r_icmp_ne hE 118 dX8_fits_g0.2.2.2.2.2.2.2.2.2.2.2.1 (by decide) h (fun h => ?_) (fun h => ?_)
                                · refine r_iconst (v := (0 : Int32)) hE dX8_fits_g0.2.2.2.2.2.2.2.2.2.2.2.2.2.2.1 (by decide) ?_
                                  exact c_zret hE hm hF dX8_fits_g0.2.2.2.2.2.2.2.2.2.2.2.2.2.2.2 (Or.inl rfl) h
                                · refine r_pick [] rfl ?_
                                  exact kc_th_fits_114 hE hm hF _ h
                            · refine r_case (81 : Int32) h (fun q14 h => ?_) (fun q14 h => ?_)
                              · refine r_tableAt (off := 218) hE (81 : Int32) 225 dX8_fits_g0.2.2.2.2.2.1 q14 (by decide) (by decide) (by decide) (by decide) ?_
                                refine r_iconst (v := (1 : Int32)) hE dX8_fits_g5.1 (by decide) ?_
                                exact c_zret hE hm hF dX8_fits_g5.2 (Or.inr rfl) h
                              · refine r_case (82 : Int32) h (fun q15 h => ?_) (fun q15 h => ?_)
                                · refine r_tableAt (off := 151) hE (82 : Int32) 158 dX8_fits_g0.2.2.2.2.2.1 q15 (by decide) (by decide) (by decide) (by decide) ?_
                                  refine r_iload_n hE 0 dX8_fits_g2.2.2.2.2.2.2.2.2.1 rfl rfl ?_
                                  refine r_bipush (v := (6 : Int32)) hE dX8_fits_g2.2.2.2.2.2.2.2.2.2.1 (by decide) ?_
                                  refine r_icmp_ne hE 168 dX8_fits_g2.2.2.2.2.2.2.2.2.2.2.1 (by decide) h (fun h => ?_) (fun h => ?_)
                                  · refine r_iconst (v := (0 : Int32)) hE dX8_fits_g2.2.2.2.2.2.2.2.2.2.2.2.2.2.1 (by decide) ?_
                                    exact c_zret hE hm hF dX8_fits_g2.2.2.2.2.2.2.2.2.2.2.2.2.2.2.1 (Or.inl rfl) h
                                  · refine r_iconst (v := (1 : Int32)) hE dX8_fits_g2.2.2.2.2.2.2.2.2.2.2.2.1 (by decide) ?_
                                    refine r_goto hE 169 dX8_fits_g2.2.2.2.2.2.2.2.2.2.2.2.2.1 (by decide) ?_
                                    exact c_zret hE hm hF dX8_fits_g2.2.2.2.2.2.2.2.2.2.2.2.2.2.2.1 (Or.inr rfl) h
                                · refine r_case (83 : Int32) h (fun q16 h => ?_) (fun q16 h => ?_)
                                  · refine r_tableAt (off := 129) hE (83 : Int32) 136 dX8_fits_g0.2.2.2.2.2.1 q16 (by decide) (by decide) (by decide) (by decide) ?_
                                    refine r_iload_n hE 0 dX8_fits_g1.2.2.2.2.2.2.2.2.2.2.1 rfl rfl ?_
                                    refine r_iconst (v := (4 : Int32)) hE dX8_fits_g1.2.2.2.2.2.2.2.2.2.2.2.1 (by decide) ?_
                                    refine r_icmp_ne hE 145 dX8_fits_g1.2.2.2.2.2.2.2.2.2.2.2.2.1 (by decide) h (fun h => ?_) (fun h => ?_)
                                    · refine r_iconst (v := (0 : Int32)) hE dX8_fits_g1.2.2.2.2.2.2.2.2.2.2.2.2.2.2.2 (by decide) ?_
                                      exact c_zret hE hm hF dX8_fits_g2.1 (Or.inl rfl) h
                                    · refine r_iconst (v := (1 : Int32)) hE dX8_fits_g1.2.2.2.2.2.2.2.2.2.2.2.2.2.1 (by decide) ?_
                                      refine r_goto hE 146 dX8_fits_g1.2.2.2.2.2.2.2.2.2.2.2.2.2.2.1 (by decide) ?_
                                      exact c_zret hE hm hF dX8_fits_g2.1 (Or.inr rfl) h
                                  · refine r_case (84 : Int32) h (fun q17 h => ?_) (fun q17 h => ?_)
                                    · refine r_tableAt (off := 218) hE (84 : Int32) 225 dX8_fits_g0.2.2.2.2.2.1 q17 (by decide) (by decide) (by decide) (by decide) ?_
                                      refine r_iconst (v := (1 : Int32)) hE dX8_fits_g5.1 (by decide) ?_
                                      exact c_zret hE hm hF dX8_fits_g5.2 (Or.inr rfl) h
                                    · refine r_case (85 : Int32) h (fun q18 h => ?_) (fun q18 h => ?_)
                                      · refine r_tableAt (off := 218) hE (85 : Int32) 225 dX8_fits_g0.2.2.2.2.2.1 q18 (by decide) (by decide) (by decide) (by decide) ?_
                                        refine r_iconst (v := (1 : Int32)) hE dX8_fits_g5.1 (by decide) ?_
                                        exact c_zret hE hm hF dX8_fits_g5.2 (Or.inr rfl) h
                                      · refine r_case (86 : Int32) h (fun q19 h => ?_) (fun q19 h => ?_)
                                        · refine r_tableAt (off := 218) hE (86 : Int32) 225 dX8_fits_g0.2.2.2.2.2.1 q19 (by decide) (by decide) (by decide) (by decide) ?_
                                          refine r_iconst (v := (1 : Int32)) hE dX8_fits_g5.1 (by decide) ?_
                                          exact c_zret hE hm hF dX8_fits_g5.2 (Or.inr rfl) h
                                        · refine r_case (87 : Int32) h (fun q20 h => ?_) (fun q20 h => ?_)
                                          · refine r_tableAt (off := 173) hE (87 : Int32) 180 dX8_fits_g0.2.2.2.2.2.1 q20 (by decide) (by decide) (by decide) (by decide) ?_
                                            refine r_iload_n hE 0 dX8_fits_g3.2.2.2.2.2.1 rfl rfl ?_
                                            refine r_if_ne hE 202 dX8_fits_g3.2.2.2.2.2.2.1 (by decide) h (fun h => ?_) (fun h => ?_)
                                            · refine r_iconst (v := (0 : Int32)) hE dX8_fits_g4.2.1 (by decide) ?_
                                              exact c_zret hE hm hF dX8_fits_g4.2.2.1 (Or.inl rfl) h
                                            · refine r_aload_n hE 1 dX8_fits_g3.2.2.2.2.2.2.2.1 rfl rfl ?_
                                              refine r_iload_n hE 2 dX8_fits_g3.2.2.2.2.2.2.2.2.1 rfl rfl ?_
                                              refine r_iconst (v := (0 : Int32)) hE dX8_fits_g3.2.2.2.2.2.2.2.2.2.1 (by decide) ?_
                                              refine c_callVl hE hm [.int a1, .int (0 : Int32)] [] ck_X8_51 (cr_th hm rfl) (kc_th_partOf h) (by decide) rfl rfl (Nat.le_of_ble_eq_true rfl) dX8_fits_g3.2.2.2.2.2.2.2.2.2.2.1 (fun s3 r4 h => ?_)
                                              refine c_callSl hE hm [.long r4] [] ck_X8_66 (kc_SX6_bottom h) (by decide) rfl rfl (Nat.le_of_ble_eq_true rfl) dX8_fits_g3.2.2.2.2.2.2.2.2.2.2.2.1 (fun s5 r6 h => ?_)
                                              refine r_lconst (v := (1 : Int64)) hE dX8_fits_g3.2.2.2.2.2.2.2.2.2.2.2.2.1 (by decide) ?_
                                              refine r_lcmp hE dX8_fits_g3.2.2.2.2.2.2.2.2.2.2.2.2.2.1 ?_
                                              refine r_if_ne hE 202 dX8_fits_g3.2.2.2.2.2.2.2.2.2.2.2.2.2.2.1 (by decide) h (fun h => ?_) (fun h => ?_)
                                              · refine r_iconst (v := (0 : Int32)) hE dX8_fits_g4.2.1 (by decide) ?_
                                                exact c_zret hE hm hF dX8_fits_g4.2.2.1 (Or.inl rfl) h
                                              · refine r_iconst (v := (1 : Int32)) hE dX8_fits_g3.2.2.2.2.2.2.2.2.2.2.2.2.2.2.2 (by decide) ?_
                                                refine r_goto hE 203 dX8_fits_g4.1 (by decide) ?_
                                                exact c_zret hE hm hF dX8_fits_g4.2.2.1 (Or.inr rfl) h
                                          · have n0 := lv_neT q0 (show (67 : Int32).toInt = 67 by decide)
                                            have n1 := lv_neT q1 (show (68 : Int32).toInt = 68 by decide)
                                            have n2 := lv_neT q2 (show (69 : Int32).toInt = 69 by decide)
                                            have n3 := lv_neT q3 (show (70 : Int32).toInt = 70 by decide)
                                            have n4 := lv_neT q4 (show (71 : Int32).toInt = 71 by decide)
                                            have n5 := lv_neT q5 (show (72 : Int32).toInt = 72 by decide)
                                            have n6 := lv_neT q6 (show (73 : Int32).toInt = 73 by decide)
                                            have n7 := lv_neT q7 (show (74 : Int32).toInt = 74 by decide)
                                            have n8 := lv_neT q8 (show (75 : Int32).toInt = 75 by decide)
                                            have n9 := lv_neT q9 (show (76 : Int32).toInt = 76 by decide)
                                            have n10 := lv_neT q10 (show (77 : Int32).toInt = 77 by decide)
                                            have n11 := lv_neT q11 (show (78 : Int32).toInt = 78 by decide)
                                            have n12 := lv_neT q12 (show (79 : Int32).toInt = 79 by decide)
                                            have n13 := lv_neT q13 (show (80 : Int32).toInt = 80 by decide)
                                            have n14 := lv_neT q14 (show (81 : Int32).toInt = 81 by decide)
                                            have n15 := lv_neT q15 (show (82 : Int32).toInt = 82 by decide)
                                            have n16 := lv_neT q16 (show (83 : Int32).toInt = 83 by decide)
                                            have n17 := lv_neT q17 (show (84 : Int32).toInt = 84 by decide)
                                            have n18 := lv_neT q18 (show (85 : Int32).toInt = 85 by decide)
                                            have n19 := lv_neT q19 (show (86 : Int32).toInt = 86 by decide)
                                            have n20 := lv_neT q20 (show (87 : Int32).toInt = 87 by decide)
                                            refine r_tableOut hE 225 dX8_fits_g0.2.2.2.2.2.1 (by omega) (by decide) ?_
                                            refine r_iconst (v := (1 : Int32)) hE dX8_fits_g5.1 (by decide) ?_
                                            exact c_zret hE hm hF dX8_fits_g5.2 (Or.inr rfl) h
/-! wo_ask -/
def wc_wo_ask_22 (post : CS → Prop) (σ : CS) (v1 : Int32) (v2 : Int32) : Prop := wc_th_fits (fun (s1 : CS) (r2 : Int32) => ((¬ (r2 = (0 : Int32))) → (post s1)) ∧ ((r2 = (0 : Int32)) → (wc_rk_fail (fun (s3 : CS) => post s3) s1 (2 : Int32)))) σ v1 v2
set_option maxRecDepth 20000 in
theorem kc_wo_ask_22  {E : gEnv} {l : Launch} {D : va_G} {G : gAd} {post : CS → Prop} (hE : gOK E cX11_ask RX11 none 3) (hm : cOK E l D G (pV post) 3) (hF : gFin E) (σ : CS) (v1 : Int32) (v2 : Int32) (h : wc_wo_ask_22 post σ v1 v2) : GW E (cW G σ) 22 [(0, .ref (G.1 1300)), (1, .int v1), (2, .int v2)] [] := by
  unfold wc_wo_ask_22 at h
  have hN := hm.2.2.2.2.2.2.1
  refine r_aload_n hE 0 dX11_ask_g0.2.2.2.2.2.2.2.2.2.2.2.1 rfl rfl ?_
  refine cg_wo_things hE hm fk_X11_40 dX11_ask_g0.2.2.2.2.2.2.2.2.2.2.2.2.1 ?_
  refine r_iload_n hE 1 dX11_ask_g0.2.2.2.2.2.2.2.2.2.2.2.2.2.1 rfl rfl ?_
  refine r_iload_n hE 2 dX11_ask_g0.2.2.2.2.2.2.2.2.2.2.2.2.2.2.1 rfl rfl ?_
  refine c_callVi hE hm [.int v1, .int v2] [] ck_X11_52 (cr_th hm rfl) (kc_th_fits h) (by decide) rfl rfl (Nat.le_of_ble_eq_true rfl) dX11_ask_g0.2.2.2.2.2.2.2.2.2.2.2.2.2.2.2 (fun s1 r2 h => ?_)
  refine r_if_ne hE 42 dX11_ask_g1.1 (by decide) h (fun h => ?_) (fun h => ?_)
  · exact c_vret hE hm hF dX11_ask_g1.2.2.2.2.2 h
  · refine r_aload_n hE 0 dX11_ask_g1.2.1 rfl rfl ?_
    refine cg_wo_reckoner hE hm fk_X11_36 dX11_ask_g1.2.2.1 ?_
    refine r_iconst (v := (2 : Int32)) hE dX11_ask_g1.2.2.2.1 (by decide) ?_
    refine c_callVv hE hm [.int (2 : Int32)] [] ck_X11_48 (cr_rk hm rfl) (kc_rk_fail h) (by decide) rfl rfl (Nat.le_of_ble_eq_true rfl) dX11_ask_g1.2.2.2.2.1 (fun s3 h => ?_)
    exact c_vret hE hm hF dX11_ask_g1.2.2.2.2.2 h
def wc_wo_ask (post : CS → Prop) (σ : CS) (a1 : Int32) (a2 : Int32) : Prop := ((¬ (a1 = (-1 : Int32))) → (wc_wo_ask_22 post σ a1 a2)) ∧ ((a1 = (-1 : Int32)) → (((a2 = (69 : Int32)) → (wc_wo_ask_22 post σ a1 a2)) ∧ ((¬ (a2 = (69 : Int32))) → (wc_rk_fail (fun (s4 : CS) => post s4) σ (1 : Int32)))))
set_option maxRecDepth 20000 in
theorem kc_wo_ask {l : Launch} {D : va_G} {G : gAd} {post : CS → Prop} {σ : CS} {a1 : Int32} {a2 : Int32} (h : wc_wo_ask post σ a1 a2) : cMet l D G yX11_ask cX11_ask 3 none 3 [.ref (G.1 1300), .int a1, .int a2] σ (pV post) := by
  unfold wc_wo_ask at h
  refine c_enter (own := RX11) (by decide +kernel) rfl [(0, .ref (G.1 1300)), (1, .int a1), (2, .int a2)] rfl (Nat.le_of_ble_eq_true rfl) ?_
  intro E hE hm hF
  have hN := hm.2.2.2.2.2.2.1
  refine r_iload_n hE 1 dX11_ask_g0.1 rfl rfl ?_
  refine r_iconst (v := (-1 : Int32)) hE dX11_ask_g0.2.1 (by decide) ?_
  refine r_icmp_ne hE 22 dX11_ask_g0.2.2.1 (by decide) h (fun h => ?_) (fun h => ?_)
  · exact kc_wo_ask_22 hE hm hF _ _ _ h
  · refine r_iload_n hE 2 dX11_ask_g0.2.2.2.1 rfl rfl ?_
    refine r_bipush (v := (69 : Int32)) hE dX11_ask_g0.2.2.2.2.1 (by decide) ?_
    refine r_icmp_eq hE 22 dX11_ask_g0.2.2.2.2.2.1 (by decide) h (fun h => ?_) (fun h => ?_)
    · exact kc_wo_ask_22 hE hm hF _ _ _ h
    · refine r_aload_n hE 0 dX11_ask_g0.2.2.2.2.2.2.1 rfl rfl ?_
      refine cg_wo_reckoner hE hm fk_X11_36 dX11_ask_g0.2.2.2.2.2.2.2.1 ?_
      refine r_iconst (v := (1 : Int32)) hE dX11_ask_g0.2.2.2.2.2.2.2.2.1 (by decide) ?_
      refine c_callVv hE hm [.int (1 : Int32)] [] ck_X11_48 (cr_rk hm rfl) (kc_rk_fail h) (by decide) rfl rfl (Nat.le_of_ble_eq_true rfl) dX11_ask_g0.2.2.2.2.2.2.2.2.2.1 (fun s4 h => ?_)
      refine r_goto hE 42 dX11_ask_g0.2.2.2.2.2.2.2.2.2.2.1 (by decide) ?_
      exact c_vret hE hm hF dX11_ask_g1.2.2.2.2.2 h
/-! wo_given -/
def wc_wo_given (post : CS → Int64 → Prop) (σ : CS) (a1 : Int32) (a2 : Int32) : Prop := wc_SX12_inside (fun (s1 : CS) (r2 : Int32) => ((r2 = (0 : Int32)) → (post s1 (1 : Int64))) ∧ ((¬ (r2 = (0 : Int32))) → (vp_in a1 3 ∧ (wc_th_partOf (fun (s3 : CS) (r4 : Int64) => post s3 r4) s1 (c_wo_arguments s1 a1.toNatClampNeg) a2)))) σ a1 (3 : Int32)
set_option maxRecDepth 20000 in
theorem kc_wo_given {l : Launch} {D : va_G} {G : gAd} {post : CS → Int64 → Prop} {σ : CS} {a1 : Int32} {a2 : Int32} (h : wc_wo_given post σ a1 a2) : cMet l D G yX11_given cX11_given 3 (some .long) 2 [.ref (G.1 1300), .int a1, .int a2] σ (pL post) := by
  unfold wc_wo_given at h
  refine c_enter (own := RX11) (by decide +kernel) rfl [(0, .ref (G.1 1300)), (1, .int a1), (2, .int a2)] rfl (Nat.le_of_ble_eq_true rfl) ?_
  intro E hE hm hF
  have hN := hm.2.2.2.2.2.2.1
  refine r_iload_n hE 1 dX11_given_g0.1 rfl rfl ?_
  refine r_aload_n hE 0 dX11_given_g0.2.1 rfl rfl ?_
  refine cg_wo_arguments hE hm fk_X11_9 dX11_given_g0.2.2.1 ?_
  refine cn_wo_arguments hE hm dX11_given_g0.2.2.2.1 ?_
  refine c_callSNi hE hm [.int a1, .int (3 : Int32)] [] ck_X11_69 cw_X11_69 (kc_SX12_inside h) (by decide) rfl rfl (Nat.le_of_ble_eq_true rfl) dX11_given_g0.2.2.2.2.1 (fun s1 r2 h => ?_)
  refine r_if_eq hE 29 dX11_given_g0.2.2.2.2.2.1 (by decide) h (fun h => ?_) (fun h => ?_)
  · refine r_lconst (v := (1 : Int64)) hE dX11_given_g0.2.2.2.2.2.2.2.2.2.2.2.2.2.2.2 (by decide) ?_
    exact c_lret hE hm hF dX11_given_g1 h
  · refine r_aload_n hE 0 dX11_given_g0.2.2.2.2.2.2.1 rfl rfl ?_
    refine cg_wo_things hE hm fk_X11_40 dX11_given_g0.2.2.2.2.2.2.2.1 ?_
    refine r_aload_n hE 0 dX11_given_g0.2.2.2.2.2.2.2.2.1 rfl rfl ?_
    refine cg_wo_arguments hE hm fk_X11_9 dX11_given_g0.2.2.2.2.2.2.2.2.2.1 ?_
    refine r_iload_n hE 1 dX11_given_g0.2.2.2.2.2.2.2.2.2.2.1 rfl rfl ?_
    obtain ⟨hi, h⟩ := h
    refine cl_wo_arguments hE hm dX11_given_g0.2.2.2.2.2.2.2.2.2.2.2.1 hi ?_
    refine r_iload_n hE 2 dX11_given_g0.2.2.2.2.2.2.2.2.2.2.2.2.1 rfl rfl ?_
    refine c_callVl hE hm [.int (c_wo_arguments s1 a1.toNatClampNeg), .int a2] [] ck_X11_73 (cr_th hm rfl) (kc_th_partOf h) (by decide) rfl rfl (Nat.le_of_ble_eq_true rfl) dX11_given_g0.2.2.2.2.2.2.2.2.2.2.2.2.2.1 (fun s3 r4 h => ?_)
    refine r_goto hE 30 dX11_given_g0.2.2.2.2.2.2.2.2.2.2.2.2.2.2.1 (by decide) ?_
    exact c_lret hE hm hF dX11_given_g1 h
/-! SX6_top -/
def wc_SX6_top (post : CS → Int64 → Prop) (σ : CS) (a0 : Int64) : Prop := post σ (a0 >>> ((32 : Int32).toInt64 &&& 63))
set_option maxRecDepth 20000 in
theorem kc_SX6_top {l : Launch} {D : va_G} {G : gAd} {post : CS → Int64 → Prop} {σ : CS} {a0 : Int64} (h : wc_SX6_top post σ a0) : cMet l D G yX6_top cX6_top 2 (some .long) 1 [.long a0] σ (pL post) := by
  unfold wc_SX6_top at h
  refine c_enter (own := RX6) (by decide +kernel) rfl [(0, .long a0)] rfl (Nat.le_of_ble_eq_true rfl) ?_
  intro E hE hm hF
  have hN := hm.2.2.2.2.2.2.1
  refine r_lload_n hE 0 dX6_top_g0.1 rfl rfl ?_
  refine r_bipush (v := (32 : Int32)) hE dX6_top_g0.2.1 (by decide) ?_
  refine r_lshr hE dX6_top_g0.2.2.1 ?_
  exact c_lret hE hm hF dX6_top_g0.2.2.2 h
/-! rk_minus -/
def wc_rk_minus (post : CS → Int64 → Prop) (σ : CS) (a1 : Int64) (a3 : Int64) : Prop := wc_SX6_top (fun (s1 : CS) (r2 : Int64) => wc_SX6_bottom (fun (s3 : CS) (r4 : Int64) => wc_SX6_top (fun (s5 : CS) (r6 : Int64) => wc_SX6_bottom (fun (s7 : CS) (r8 : Int64) => wc_SX6_bottom (fun (s9 : CS) (r10 : Int64) => wc_SX6_bottom (fun (s11 : CS) (r12 : Int64) => wc_rk_reduced (fun (s13 : CS) (r14 : Int64) => post s13 r14) s11 ((r2 * r4) - (r6 * r8)) (r10 * r12)) s9 a3) s7 a1) s5 a1) s3 a3) s1 a3) σ a1
set_option maxRecDepth 20000 in
theorem kc_rk_minus {l : Launch} {D : va_G} {G : gAd} {post : CS → Int64 → Prop} {σ : CS} {a1 : Int64} {a3 : Int64} (h : wc_rk_minus post σ a1 a3) : cMet l D G yX6_minus cX6_minus 5 (some .long) 2 [.ref (G.1 800), .long a1, .long a3] σ (pL post) := by
  unfold wc_rk_minus at h
  refine c_enter (own := RX6) (by decide +kernel) rfl [(0, .ref (G.1 800)), (1, .long a1), (3, .long a3)] rfl (Nat.le_of_ble_eq_true rfl) ?_
  intro E hE hm hF
  have hN := hm.2.2.2.2.2.2.1
  refine r_aload_n hE 0 dX6_minus_g0.1 rfl rfl ?_
  refine r_lload_n hE 1 dX6_minus_g0.2.1 rfl rfl ?_
  refine c_callSl hE hm [.long a1] [.ref (G.1 800)] ck_X6_19 (kc_SX6_top h) (by decide) rfl rfl (Nat.le_of_ble_eq_true rfl) dX6_minus_g0.2.2.1 (fun s1 r2 h => ?_)
  refine r_lload_n hE 2 dX6_minus_g0.2.2.2.1 rfl rfl ?_
  refine c_callSl hE hm [.long a3] [.long r2, .ref (G.1 800)] ck_X6_23 (kc_SX6_bottom h) (by decide) rfl rfl (Nat.le_of_ble_eq_true rfl) dX6_minus_g0.2.2.2.2.1 (fun s3 r4 h => ?_)
  refine r_lmul hE dX6_minus_g0.2.2.2.2.2.1 ?_
  refine r_lload_n hE 2 dX6_minus_g0.2.2.2.2.2.2.1 rfl rfl ?_
  refine c_callSl hE hm [.long a3] [.long (r2 * r4), .ref (G.1 800)] ck_X6_19 (kc_SX6_top h) (by decide) rfl rfl (Nat.le_of_ble_eq_true rfl) dX6_minus_g0.2.2.2.2.2.2.2.1 (fun s5 r6 h => ?_)
  refine r_lload_n hE 1 dX6_minus_g0.2.2.2.2.2.2.2.2.1 rfl rfl ?_
  refine c_callSl hE hm [.long a1] [.long r6, .long (r2 * r4), .ref (G.1 800)] ck_X6_23 (kc_SX6_bottom h) (by decide) rfl rfl (Nat.le_of_ble_eq_true rfl) dX6_minus_g0.2.2.2.2.2.2.2.2.2.1 (fun s7 r8 h => ?_)
  refine r_lmul hE dX6_minus_g0.2.2.2.2.2.2.2.2.2.2.1 ?_
  refine r_lsub hE dX6_minus_g0.2.2.2.2.2.2.2.2.2.2.2.1 ?_
  refine r_lload_n hE 1 dX6_minus_g0.2.2.2.2.2.2.2.2.2.2.2.2.1 rfl rfl ?_
  refine c_callSl hE hm [.long a1] [.long ((r2 * r4) - (r6 * r8)), .ref (G.1 800)] ck_X6_23 (kc_SX6_bottom h) (by decide) rfl rfl (Nat.le_of_ble_eq_true rfl) dX6_minus_g0.2.2.2.2.2.2.2.2.2.2.2.2.2.1 (fun s9 r10 h => ?_)
  refine r_lload_n hE 2 dX6_minus_g0.2.2.2.2.2.2.2.2.2.2.2.2.2.2.1 rfl rfl ?_
  refine c_callSl hE hm [.long a3] [.long r10, .long ((r2 * r4) - (r6 * r8)), .ref (G.1 800)] ck_X6_23 (kc_SX6_bottom h) (by decide) rfl rfl (Nat.le_of_ble_eq_true rfl) dX6_minus_g0.2.2.2.2.2.2.2.2.2.2.2.2.2.2.2 (fun s11 r12 h => ?_)
  refine r_lmul hE dX6_minus_g1.1 ?_
  refine c_callVl hE hm [.long ((r2 * r4) - (r6 * r8)), .long (r10 * r12)] [] ck_X6_32 (cr_rk hm rfl) (kc_rk_reduced h) (by decide) rfl rfl (Nat.le_of_ble_eq_true rfl) dX6_minus_g1.2.1 (fun s13 r14 h => ?_)
  exact c_lret hE hm hF dX6_minus_g1.2.2 h
/-! rk_plus -/
def wc_rk_plus (post : CS → Int64 → Prop) (σ : CS) (a1 : Int64) (a3 : Int64) : Prop := wc_SX6_top (fun (s1 : CS) (r2 : Int64) => wc_SX6_bottom (fun (s3 : CS) (r4 : Int64) => wc_SX6_top (fun (s5 : CS) (r6 : Int64) => wc_SX6_bottom (fun (s7 : CS) (r8 : Int64) => wc_SX6_bottom (fun (s9 : CS) (r10 : Int64) => wc_SX6_bottom (fun (s11 : CS) (r12 : Int64) => wc_rk_reduced (fun (s13 : CS) (r14 : Int64) => post s13 r14) s11 ((r2 * r4) + (r6 * r8)) (r10 * r12)) s9 a3) s7 a1) s5 a1) s3 a3) s1 a3) σ a1
set_option maxRecDepth 20000 in
theorem kc_rk_plus {l : Launch} {D : va_G} {G : gAd} {post : CS → Int64 → Prop} {σ : CS} {a1 : Int64} {a3 : Int64} (h : wc_rk_plus post σ a1 a3) : cMet l D G yX6_plus cX6_plus 5 (some .long) 2 [.ref (G.1 800), .long a1, .long a3] σ (pL post) := by
  unfold wc_rk_plus at h
  refine c_enter (own := RX6) (by decide +kernel) rfl [(0, .ref (G.1 800)), (1, .long a1), (3, .long a3)] rfl (Nat.le_of_ble_eq_true rfl) ?_
  intro E hE hm hF
  have hN := hm.2.2.2.2.2.2.1
  refine r_aload_n hE 0 dX6_plus_g0.1 rfl rfl ?_
  refine r_lload_n hE 1 dX6_plus_g0.2.1 rfl rfl ?_
  refine c_callSl hE hm [.long a1] [.ref (G.1 800)] ck_X6_19 (kc_SX6_top h) (by decide) rfl rfl (Nat.le_of_ble_eq_true rfl) dX6_plus_g0.2.2.1 (fun s1 r2 h => ?_)
  refine r_lload_n hE 2 dX6_plus_g0.2.2.2.1 rfl rfl ?_
  refine c_callSl hE hm [.long a3] [.long r2, .ref (G.1 800)] ck_X6_23 (kc_SX6_bottom h) (by decide) rfl rfl (Nat.le_of_ble_eq_true rfl) dX6_plus_g0.2.2.2.2.1 (fun s3 r4 h => ?_)
  refine r_lmul hE dX6_plus_g0.2.2.2.2.2.1 ?_
  refine r_lload_n hE 2 dX6_plus_g0.2.2.2.2.2.2.1 rfl rfl ?_
  refine c_callSl hE hm [.long a3] [.long (r2 * r4), .ref (G.1 800)] ck_X6_19 (kc_SX6_top h) (by decide) rfl rfl (Nat.le_of_ble_eq_true rfl) dX6_plus_g0.2.2.2.2.2.2.2.1 (fun s5 r6 h => ?_)
  refine r_lload_n hE 1 dX6_plus_g0.2.2.2.2.2.2.2.2.1 rfl rfl ?_
  refine c_callSl hE hm [.long a1] [.long r6, .long (r2 * r4), .ref (G.1 800)] ck_X6_23 (kc_SX6_bottom h) (by decide) rfl rfl (Nat.le_of_ble_eq_true rfl) dX6_plus_g0.2.2.2.2.2.2.2.2.2.1 (fun s7 r8 h => ?_)
  refine r_lmul hE dX6_plus_g0.2.2.2.2.2.2.2.2.2.2.1 ?_
  refine r_ladd hE dX6_plus_g0.2.2.2.2.2.2.2.2.2.2.2.1 ?_
  refine r_lload_n hE 1 dX6_plus_g0.2.2.2.2.2.2.2.2.2.2.2.2.1 rfl rfl ?_
  refine c_callSl hE hm [.long a1] [.long ((r2 * r4) + (r6 * r8)), .ref (G.1 800)] ck_X6_23 (kc_SX6_bottom h) (by decide) rfl rfl (Nat.le_of_ble_eq_true rfl) dX6_plus_g0.2.2.2.2.2.2.2.2.2.2.2.2.2.1 (fun s9 r10 h => ?_)
  refine r_lload_n hE 2 dX6_plus_g0.2.2.2.2.2.2.2.2.2.2.2.2.2.2.1 rfl rfl ?_
  refine c_callSl hE hm [.long a3] [.long r10, .long ((r2 * r4) + (r6 * r8)), .ref (G.1 800)] ck_X6_23 (kc_SX6_bottom h) (by decide) rfl rfl (Nat.le_of_ble_eq_true rfl) dX6_plus_g0.2.2.2.2.2.2.2.2.2.2.2.2.2.2.2 (fun s11 r12 h => ?_)
  refine r_lmul hE dX6_plus_g1.1 ?_
  refine c_callVl hE hm [.long ((r2 * r4) + (r6 * r8)), .long (r10 * r12)] [] ck_X6_32 (cr_rk hm rfl) (kc_rk_reduced h) (by decide) rfl rfl (Nat.le_of_ble_eq_true rfl) dX6_plus_g1.2.1 (fun s13 r14 h => ?_)
  exact c_lret hE hm hF dX6_plus_g1.2.2 h
/-! rk_times -/
def wc_rk_times (post : CS → Int64 → Prop) (σ : CS) (a1 : Int64) (a3 : Int64) : Prop := wc_SX6_top (fun (s1 : CS) (r2 : Int64) => wc_SX6_top (fun (s3 : CS) (r4 : Int64) => wc_SX6_bottom (fun (s5 : CS) (r6 : Int64) => wc_SX6_bottom (fun (s7 : CS) (r8 : Int64) => wc_rk_reduced (fun (s9 : CS) (r10 : Int64) => post s9 r10) s7 (r2 * r4) (r6 * r8)) s5 a3) s3 a1) s1 a3) σ a1
set_option maxRecDepth 20000 in
theorem kc_rk_times {l : Launch} {D : va_G} {G : gAd} {post : CS → Int64 → Prop} {σ : CS} {a1 : Int64} {a3 : Int64} (h : wc_rk_times post σ a1 a3) : cMet l D G yX6_times cX6_times 5 (some .long) 2 [.ref (G.1 800), .long a1, .long a3] σ (pL post) := by
  unfold wc_rk_times at h
  refine c_enter (own := RX6) (by decide +kernel) rfl [(0, .ref (G.1 800)), (1, .long a1), (3, .long a3)] rfl (Nat.le_of_ble_eq_true rfl) ?_
  intro E hE hm hF
  have hN := hm.2.2.2.2.2.2.1
  refine r_aload_n hE 0 dX6_times_g0.1 rfl rfl ?_
  refine r_lload_n hE 1 dX6_times_g0.2.1 rfl rfl ?_
  refine c_callSl hE hm [.long a1] [.ref (G.1 800)] ck_X6_19 (kc_SX6_top h) (by decide) rfl rfl (Nat.le_of_ble_eq_true rfl) dX6_times_g0.2.2.1 (fun s1 r2 h => ?_)
  refine r_lload_n hE 2 dX6_times_g0.2.2.2.1 rfl rfl ?_
  refine c_callSl hE hm [.long a3] [.long r2, .ref (G.1 800)] ck_X6_19 (kc_SX6_top h) (by decide) rfl rfl (Nat.le_of_ble_eq_true rfl) dX6_times_g0.2.2.2.2.1 (fun s3 r4 h => ?_)
  refine r_lmul hE dX6_times_g0.2.2.2.2.2.1 ?_
  refine r_lload_n hE 1 dX6_times_g0.2.2.2.2.2.2.1 rfl rfl ?_
  refine c_callSl hE hm [.long a1] [.long (r2 * r4), .ref (G.1 800)] ck_X6_23 (kc_SX6_bottom h) (by decide) rfl rfl (Nat.le_of_ble_eq_true rfl) dX6_times_g0.2.2.2.2.2.2.2.1 (fun s5 r6 h => ?_)
  refine r_lload_n hE 2 dX6_times_g0.2.2.2.2.2.2.2.2.1 rfl rfl ?_
  refine c_callSl hE hm [.long a3] [.long r6, .long (r2 * r4), .ref (G.1 800)] ck_X6_23 (kc_SX6_bottom h) (by decide) rfl rfl (Nat.le_of_ble_eq_true rfl) dX6_times_g0.2.2.2.2.2.2.2.2.2.1 (fun s7 r8 h => ?_)
  refine r_lmul hE dX6_times_g0.2.2.2.2.2.2.2.2.2.2.1 ?_
  refine c_callVl hE hm [.long (r2 * r4), .long (r6 * r8)] [] ck_X6_32 (cr_rk hm rfl) (kc_rk_reduced h) (by decide) rfl rfl (Nat.le_of_ble_eq_true rfl) dX6_times_g0.2.2.2.2.2.2.2.2.2.2.2.1 (fun s9 r10 h => ?_)
  exact c_lret hE hm hF dX6_times_g0.2.2.2.2.2.2.2.2.2.2.2.2 h
/-! wo_dist -/
def wc_wo_dist (post : CS → Int64 → Prop) (σ : CS) (a1 : Int64) (a3 : Int64) (a5 : Int64) (a7 : Int64) : Prop := wc_rk_minus (fun (s1 : CS) (r2 : Int64) => wc_rk_times (fun (s3 : CS) (r4 : Int64) => wc_rk_minus (fun (s5 : CS) (r6 : Int64) => wc_rk_times (fun (s7 : CS) (r8 : Int64) => wc_rk_plus (fun (s9 : CS) (r10 : Int64) => post s9 r10) s7 r4 r8) s5 r6 r6) s3 a3 a7) s1 r2 r2) σ a1 a5
set_option maxRecDepth 20000 in
theorem kc_wo_dist {l : Launch} {D : va_G} {G : gAd} {post : CS → Int64 → Prop} {σ : CS} {a1 : Int64} {a3 : Int64} {a5 : Int64} {a7 : Int64} (h : wc_wo_dist post σ a1 a3 a5 a7) : cMet l D G yX11_dist cX11_dist 15 (some .long) 3 [.ref (G.1 1300), .long a1, .long a3, .long a5, .long a7] σ (pL post) := by
  unfold wc_wo_dist at h
  refine c_enter (own := RX11) (by decide +kernel) rfl [(0, .ref (G.1 1300)), (1, .long a1), (3, .long a3), (5, .long a5), (7, .long a7)] rfl (Nat.le_of_ble_eq_true rfl) ?_
  intro E hE hm hF
  have hN := hm.2.2.2.2.2.2.1
  refine r_aload_n hE 0 dX11_dist_g0.1 rfl rfl ?_
  refine cg_wo_reckoner hE hm fk_X11_36 dX11_dist_g0.2.1 ?_
  refine r_lload_n hE 1 dX11_dist_g0.2.2.1 rfl rfl ?_
  refine r_lload hE 3 dX11_dist_g0.2.2.2.1 rfl ?_
  refine c_callVl hE hm [.long a1, .long a5] [] ck_X11_226 (cr_rk hm rfl) (kc_rk_minus h) (by decide) rfl rfl (Nat.le_of_ble_eq_true rfl) dX11_dist_g0.2.2.2.2.1 (fun s1 r2 h => ?_)
  refine r_lstore hE [(9, .long r2), (0, .ref (G.1 1300)), (1, .long a1), (3, .long a3), (5, .long a5), (7, .long a7)] dX11_dist_g0.2.2.2.2.2.1 hN (by decide) rfl ?_
  refine r_aload_n hE 1 dX11_dist_g0.2.2.2.2.2.2.1 rfl rfl ?_
  refine cg_wo_reckoner hE hm fk_X11_36 dX11_dist_g0.2.2.2.2.2.2.2.1 ?_
  refine r_lload hE 0 dX11_dist_g0.2.2.2.2.2.2.2.2.1 rfl ?_
  refine r_lload hE 0 dX11_dist_g0.2.2.2.2.2.2.2.2.2.1 rfl ?_
  refine c_callVl hE hm [.long r2, .long r2] [] ck_X11_236 (cr_rk hm rfl) (kc_rk_times h) (by decide) rfl rfl (Nat.le_of_ble_eq_true rfl) dX11_dist_g0.2.2.2.2.2.2.2.2.2.2.1 (fun s3 r4 h => ?_)
  refine r_lstore hE [(11, .long r4), (9, .long r2), (0, .ref (G.1 1300)), (1, .long a1), (3, .long a3), (5, .long a5), (7, .long a7)] dX11_dist_g0.2.2.2.2.2.2.2.2.2.2.2.1 hN (by decide) rfl ?_
  refine r_aload_n hE 2 dX11_dist_g0.2.2.2.2.2.2.2.2.2.2.2.2.1 rfl rfl ?_
  refine cg_wo_reckoner hE hm fk_X11_36 dX11_dist_g0.2.2.2.2.2.2.2.2.2.2.2.2.2.1 ?_
  refine r_lload_n hE 4 dX11_dist_g0.2.2.2.2.2.2.2.2.2.2.2.2.2.2.1 rfl rfl ?_
  refine r_lload hE 6 dX11_dist_g0.2.2.2.2.2.2.2.2.2.2.2.2.2.2.2 rfl ?_
  refine c_callVl hE hm [.long a3, .long a7] [] ck_X11_226 (cr_rk hm rfl) (kc_rk_minus h) (by decide) rfl rfl (Nat.le_of_ble_eq_true rfl) dX11_dist_g1.1 (fun s5 r6 h => ?_)
  refine r_lstore hE [(13, .long r6), (11, .long r4), (9, .long r2), (0, .ref (G.1 1300)), (1, .long a1), (3, .long a3), (5, .long a5), (7, .long a7)] dX11_dist_g1.2.1 hN (by decide) rfl ?_
  refine r_aload_n hE 3 dX11_dist_g1.2.2.1 rfl rfl ?_
  refine cg_wo_reckoner hE hm fk_X11_36 dX11_dist_g1.2.2.2.1 ?_
  refine r_lload hE 1 dX11_dist_g1.2.2.2.2.1 rfl ?_
  refine r_aload_n hE 3 dX11_dist_g1.2.2.2.2.2.1 rfl rfl ?_
  refine cg_wo_reckoner hE hm fk_X11_36 dX11_dist_g1.2.2.2.2.2.2.1 ?_
  refine r_lload hE 0 dX11_dist_g1.2.2.2.2.2.2.2.1 rfl ?_
  refine r_lload hE 0 dX11_dist_g1.2.2.2.2.2.2.2.2.1 rfl ?_
  refine c_callVl hE hm [.long r6, .long r6] [.long r4, .ref (G.1 800)] ck_X11_236 (cr_rk hm rfl) (kc_rk_times h) (by decide) rfl rfl (Nat.le_of_ble_eq_true rfl) dX11_dist_g1.2.2.2.2.2.2.2.2.2.1 (fun s7 r8 h => ?_)
  refine c_callVl hE hm [.long r4, .long r8] [] ck_X11_239 (cr_rk hm rfl) (kc_rk_plus h) (by decide) rfl rfl (Nat.le_of_ble_eq_true rfl) dX11_dist_g1.2.2.2.2.2.2.2.2.2.2.1 (fun s9 r10 h => ?_)
  exact c_lret hE hm hF dX11_dist_g1.2.2.2.2.2.2.2.2.2.2.2 h
/-! wo_makeCircle_t -/
def wc_wo_makeCircle_t (post : CS → Prop) (σ : CS) (a1 : Nat) : Prop := wc_wo_given (fun (s1 : CS) (r2 : Int64) => ∀ s3 : CS, s3 = c_wo_x_s s1 r2 → wc_wo_given (fun (s4 : CS) (r5 : Int64) => ∀ s6 : CS, s6 = c_wo_y_s s4 r5 → a1 < 39 ∧ ((¬ a1 = 24 → (wc_wo_given (fun (s7 : CS) (r8 : Int64) => ∀ s9 : CS, s9 = c_wo_square_s s7 r8 → wc_SX6_top (fun (s10 : CS) (r11 : Int64) => (((0 : Int32) ≤ (lg_cmp r11 (0 : Int64))) → (post s10)) ∧ ((¬ ((0 : Int32) ≤ (lg_cmp r11 (0 : Int64)))) → (wc_rk_fail (fun (s12 : CS) => post s12) s10 (8 : Int32)))) s9 (c_wo_square s9)) s6 (1 : Int32) (0 : Int32))) ∧ (a1 = 24 → (wc_wo_given (fun (s13 : CS) (r14 : Int64) => wc_wo_given (fun (s15 : CS) (r16 : Int64) => wc_wo_dist (fun (s17 : CS) (r18 : Int64) => ∀ s19 : CS, s19 = c_wo_square_s s17 r18 → post s19) s15 (c_wo_x s6) (c_wo_y s6) r14 r16) s13 (1 : Int32) (1 : Int32)) s6 (1 : Int32) (0 : Int32))))) s3 (0 : Int32) (1 : Int32)) σ (0 : Int32) (0 : Int32)
set_option maxRecDepth 20000 in
theorem kc_wo_makeCircle_t {l : Launch} {D : va_G} {G : gAd} {post : CS → Prop} {σ : CS} {a1 : Nat} (h : wc_wo_makeCircle_t post σ a1) : cMet l D G yX11_makeCircle cX11_makeCircle 2 none 4 [.ref (G.1 1300), .ref (G.1 (7000 + a1))] σ (pV post) := by
  unfold wc_wo_makeCircle_t at h
  refine c_enter (own := RX11) (by decide +kernel) rfl [(0, .ref (G.1 1300)), (1, .ref (G.1 (7000 + a1)))] rfl (Nat.le_of_ble_eq_true rfl) ?_
  intro E hE hm hF
  have hN := hm.2.2.2.2.2.2.1
  refine r_aload_n hE 0 dX11_makeCircle_g0.1 rfl rfl ?_
  refine r_aload_n hE 0 dX11_makeCircle_g0.2.1 rfl rfl ?_
  refine r_iconst (v := (0 : Int32)) hE dX11_makeCircle_g0.2.2.1 (by decide) ?_
  refine r_iconst (v := (0 : Int32)) hE dX11_makeCircle_g0.2.2.2.1 (by decide) ?_
  refine c_callVl hE hm [.int (0 : Int32), .int (0 : Int32)] [.ref (G.1 1300)] ck_X11_126 (cr_wo hm rfl) (kc_wo_given h) (by decide) rfl rfl (Nat.le_of_ble_eq_true rfl) dX11_makeCircle_g0.2.2.2.2.1 (fun s1 r2 h => ?_)
  refine cp_wo_x hE hm fk_X11_17 dX11_makeCircle_g0.2.2.2.2.2.1 h (fun s3 h => ?_)
  refine r_aload_n hE 0 dX11_makeCircle_g0.2.2.2.2.2.2.1 rfl rfl ?_
  refine r_aload_n hE 0 dX11_makeCircle_g0.2.2.2.2.2.2.2.1 rfl rfl ?_
  refine r_iconst (v := (0 : Int32)) hE dX11_makeCircle_g0.2.2.2.2.2.2.2.2.1 (by decide) ?_
  refine r_iconst (v := (1 : Int32)) hE dX11_makeCircle_g0.2.2.2.2.2.2.2.2.2.1 (by decide) ?_
  refine c_callVl hE hm [.int (0 : Int32), .int (1 : Int32)] [.ref (G.1 1300)] ck_X11_126 (cr_wo hm rfl) (kc_wo_given h) (by decide) rfl rfl (Nat.le_of_ble_eq_true rfl) dX11_makeCircle_g0.2.2.2.2.2.2.2.2.2.2.1 (fun s4 r5 h => ?_)
  refine cp_wo_y hE hm fk_X11_21 dX11_makeCircle_g0.2.2.2.2.2.2.2.2.2.2.2.1 h (fun s6 h => ?_)
  refine r_aload_n hE 1 dX11_makeCircle_g0.2.2.2.2.2.2.2.2.2.2.2.2.1 rfl rfl ?_
  refine kz_tool (n := "CIRCLE") (t := 24) hE hm (List.mem_of_getElem? (i := 3) rfl) fk_X11_291 dX11_makeCircle_g0.2.2.2.2.2.2.2.2.2.2.2.2.2.1 ?_
  obtain ⟨hx, h⟩ := h
  refine kt_acmp hE hm hx (by decide) 56 dX11_makeCircle_g0.2.2.2.2.2.2.2.2.2.2.2.2.2.2.1 (by decide) h (fun h => ?_) (fun h => ?_)
  · refine r_aload_n hE 0 dX11_makeCircle_g2.1 rfl rfl ?_
    refine r_aload_n hE 0 dX11_makeCircle_g2.2.1 rfl rfl ?_
    refine r_iconst (v := (1 : Int32)) hE dX11_makeCircle_g2.2.2.1 (by decide) ?_
    refine r_iconst (v := (0 : Int32)) hE dX11_makeCircle_g2.2.2.2.1 (by decide) ?_
    refine c_callVl hE hm [.int (1 : Int32), .int (0 : Int32)] [.ref (G.1 1300)] ck_X11_126 (cr_wo hm rfl) (kc_wo_given h) (by decide) rfl rfl (Nat.le_of_ble_eq_true rfl) dX11_makeCircle_g2.2.2.2.2.1 (fun s7 r8 h => ?_)
    refine cp_wo_square hE hm fk_X11_33 dX11_makeCircle_g2.2.2.2.2.2.1 h (fun s9 h => ?_)
    refine r_aload_n hE 0 dX11_makeCircle_g2.2.2.2.2.2.2.1 rfl rfl ?_
    refine cg_wo_square hE hm fk_X11_33 dX11_makeCircle_g2.2.2.2.2.2.2.2.1 ?_
    refine c_callSl hE hm [.long (c_wo_square s9)] [] ck_X11_175 (kc_SX6_top h) (by decide) rfl rfl (Nat.le_of_ble_eq_true rfl) dX11_makeCircle_g2.2.2.2.2.2.2.2.2.1 (fun s10 r11 h => ?_)
    refine r_lconst (v := (0 : Int64)) hE dX11_makeCircle_g2.2.2.2.2.2.2.2.2.2.1 (by decide) ?_
    refine r_lcmp hE dX11_makeCircle_g2.2.2.2.2.2.2.2.2.2.2.1 ?_
    refine r_if_ge hE 87 dX11_makeCircle_g2.2.2.2.2.2.2.2.2.2.2.2.1 (by decide) h (fun h => ?_) (fun h => ?_)
    · exact c_vret hE hm hF dX11_makeCircle_g3 h
    · refine r_aload_n hE 0 dX11_makeCircle_g2.2.2.2.2.2.2.2.2.2.2.2.2.1 rfl rfl ?_
      refine cg_wo_reckoner hE hm fk_X11_36 dX11_makeCircle_g2.2.2.2.2.2.2.2.2.2.2.2.2.2.1 ?_
      refine r_bipush (v := (8 : Int32)) hE dX11_makeCircle_g2.2.2.2.2.2.2.2.2.2.2.2.2.2.2.1 (by decide) ?_
      refine c_callVv hE hm [.int (8 : Int32)] [] ck_X11_48 (cr_rk hm rfl) (kc_rk_fail h) (by decide) rfl rfl (Nat.le_of_ble_eq_true rfl) dX11_makeCircle_g2.2.2.2.2.2.2.2.2.2.2.2.2.2.2.2 (fun s12 h => ?_)
      exact c_vret hE hm hF dX11_makeCircle_g3 h
  · refine r_aload_n hE 0 dX11_makeCircle_g0.2.2.2.2.2.2.2.2.2.2.2.2.2.2.2 rfl rfl ?_
    refine r_aload_n hE 0 dX11_makeCircle_g1.1 rfl rfl ?_
    refine r_aload_n hE 0 dX11_makeCircle_g1.2.1 rfl rfl ?_
    refine cg_wo_x hE hm fk_X11_17 dX11_makeCircle_g1.2.2.1 ?_
    refine r_aload_n hE 0 dX11_makeCircle_g1.2.2.2.1 rfl rfl ?_
    refine cg_wo_y hE hm fk_X11_21 dX11_makeCircle_g1.2.2.2.2.1 ?_
    refine r_aload_n hE 0 dX11_makeCircle_g1.2.2.2.2.2.1 rfl rfl ?_
    refine r_iconst (v := (1 : Int32)) hE dX11_makeCircle_g1.2.2.2.2.2.2.1 (by decide) ?_
    refine r_iconst (v := (0 : Int32)) hE dX11_makeCircle_g1.2.2.2.2.2.2.2.1 (by decide) ?_
    refine c_callVl hE hm [.int (1 : Int32), .int (0 : Int32)] [.long (c_wo_y s6), .long (c_wo_x s6), .ref (G.1 1300), .ref (G.1 1300)] ck_X11_126 (cr_wo hm rfl) (kc_wo_given h) (by decide) rfl rfl (Nat.le_of_ble_eq_true rfl) dX11_makeCircle_g1.2.2.2.2.2.2.2.2.1 (fun s13 r14 h => ?_)
    refine r_aload_n hE 0 dX11_makeCircle_g1.2.2.2.2.2.2.2.2.2.1 rfl rfl ?_
    refine r_iconst (v := (1 : Int32)) hE dX11_makeCircle_g1.2.2.2.2.2.2.2.2.2.2.1 (by decide) ?_
    refine r_iconst (v := (1 : Int32)) hE dX11_makeCircle_g1.2.2.2.2.2.2.2.2.2.2.2.1 (by decide) ?_
    refine c_callVl hE hm [.int (1 : Int32), .int (1 : Int32)] [.long r14, .long (c_wo_y s6), .long (c_wo_x s6), .ref (G.1 1300), .ref (G.1 1300)] ck_X11_126 (cr_wo hm rfl) (kc_wo_given h) (by decide) rfl rfl (Nat.le_of_ble_eq_true rfl) dX11_makeCircle_g1.2.2.2.2.2.2.2.2.2.2.2.2.1 (fun s15 r16 h => ?_)
    refine c_callVl hE hm [.long (c_wo_x s6), .long (c_wo_y s6), .long r14, .long r16] [.ref (G.1 1300)] ck_X11_218 (cr_wo hm rfl) (kc_wo_dist h) (by decide) rfl rfl (Nat.le_of_ble_eq_true rfl) dX11_makeCircle_g1.2.2.2.2.2.2.2.2.2.2.2.2.2.1 (fun s17 r18 h => ?_)
    refine cp_wo_square hE hm fk_X11_33 dX11_makeCircle_g1.2.2.2.2.2.2.2.2.2.2.2.2.2.2.1 h (fun s19 h => ?_)
    exact c_vret hE hm hF dX11_makeCircle_g1.2.2.2.2.2.2.2.2.2.2.2.2.2.2.2 h
/-! tSJx29ce0_ordinal_8abf5 -/
def wc_tSJx29ce0_ordinal_8abf5 (post : CS → Int32 → Prop) (σ : CS) (a0 : Nat) : Prop := a0 < 39 ∧ (post σ (nI a0))
set_option maxRecDepth 20000 in
theorem kc_tSJx29ce0_ordinal_8abf5 {l : Launch} {D : va_G} {G : gAd} {post : CS → Int32 → Prop} {σ : CS} {a0 : Nat} (h : wc_tSJx29ce0_ordinal_8abf5 post σ a0) : cMet l D G yJx29ce0_ordinal_8abf5 cJx29ce0_ordinal_8abf5 1 (some .int) 1 [.ref (G.1 (7000 + a0))] σ (pI post) := by
  unfold wc_tSJx29ce0_ordinal_8abf5 at h
  refine c_enter (own := RJx29ce0) (by decide +kernel) rfl [(0, .ref (G.1 (7000 + a0)))] rfl (Nat.le_of_ble_eq_true rfl) ?_
  intro E hE hm hF
  have hN := hm.2.2.2.2.2.2.1
  refine r_aload_n hE 0 dJx29ce0_ordinal_8abf5_g0.1 rfl rfl ?_
  obtain ⟨hx, h⟩ := h
  refine kt_ordinal hE hm hx fk_Jx29ce0_7 dJx29ce0_ordinal_8abf5_g0.2.1 ?_
  exact c_iret hE hm hF dJx29ce0_ordinal_8abf5_g0.2.2 h
/-! rk_over -/
def wc_rk_over (post : CS → Int64 → Prop) (σ : CS) (a1 : Int64) (a3 : Int64) : Prop := wc_SX6_top (fun (s1 : CS) (r2 : Int64) => wc_SX6_bottom (fun (s3 : CS) (r4 : Int64) => wc_SX6_bottom (fun (s5 : CS) (r6 : Int64) => wc_SX6_top (fun (s7 : CS) (r8 : Int64) => wc_rk_reduced (fun (s9 : CS) (r10 : Int64) => post s9 r10) s7 (r2 * r4) (r6 * r8)) s5 a3) s3 a1) s1 a3) σ a1
set_option maxRecDepth 20000 in
theorem kc_rk_over {l : Launch} {D : va_G} {G : gAd} {post : CS → Int64 → Prop} {σ : CS} {a1 : Int64} {a3 : Int64} (h : wc_rk_over post σ a1 a3) : cMet l D G yX6_over cX6_over 5 (some .long) 2 [.ref (G.1 800), .long a1, .long a3] σ (pL post) := by
  unfold wc_rk_over at h
  refine c_enter (own := RX6) (by decide +kernel) rfl [(0, .ref (G.1 800)), (1, .long a1), (3, .long a3)] rfl (Nat.le_of_ble_eq_true rfl) ?_
  intro E hE hm hF
  have hN := hm.2.2.2.2.2.2.1
  refine r_aload_n hE 0 dX6_over_g0.1 rfl rfl ?_
  refine r_lload_n hE 1 dX6_over_g0.2.1 rfl rfl ?_
  refine c_callSl hE hm [.long a1] [.ref (G.1 800)] ck_X6_19 (kc_SX6_top h) (by decide) rfl rfl (Nat.le_of_ble_eq_true rfl) dX6_over_g0.2.2.1 (fun s1 r2 h => ?_)
  refine r_lload_n hE 2 dX6_over_g0.2.2.2.1 rfl rfl ?_
  refine c_callSl hE hm [.long a3] [.long r2, .ref (G.1 800)] ck_X6_23 (kc_SX6_bottom h) (by decide) rfl rfl (Nat.le_of_ble_eq_true rfl) dX6_over_g0.2.2.2.2.1 (fun s3 r4 h => ?_)
  refine r_lmul hE dX6_over_g0.2.2.2.2.2.1 ?_
  refine r_lload_n hE 1 dX6_over_g0.2.2.2.2.2.2.1 rfl rfl ?_
  refine c_callSl hE hm [.long a1] [.long (r2 * r4), .ref (G.1 800)] ck_X6_23 (kc_SX6_bottom h) (by decide) rfl rfl (Nat.le_of_ble_eq_true rfl) dX6_over_g0.2.2.2.2.2.2.2.1 (fun s5 r6 h => ?_)
  refine r_lload_n hE 2 dX6_over_g0.2.2.2.2.2.2.2.2.1 rfl rfl ?_
  refine c_callSl hE hm [.long a3] [.long r6, .long (r2 * r4), .ref (G.1 800)] ck_X6_19 (kc_SX6_top h) (by decide) rfl rfl (Nat.le_of_ble_eq_true rfl) dX6_over_g0.2.2.2.2.2.2.2.2.2.1 (fun s7 r8 h => ?_)
  refine r_lmul hE dX6_over_g0.2.2.2.2.2.2.2.2.2.2.1 ?_
  refine c_callVl hE hm [.long (r2 * r4), .long (r6 * r8)] [] ck_X6_32 (cr_rk hm rfl) (kc_rk_reduced h) (by decide) rfl rfl (Nat.le_of_ble_eq_true rfl) dX6_over_g0.2.2.2.2.2.2.2.2.2.2.2.1 (fun s9 r10 h => ?_)
  exact c_lret hE hm hF dX6_over_g0.2.2.2.2.2.2.2.2.2.2.2.2 h
/-! wo_middle -/
def wc_wo_middle (post : CS → Prop) (σ : CS) (a1 : Int64) (a3 : Int64) (a5 : Int64) (a7 : Int64) : Prop := wc_rk_plus (fun (s1 : CS) (r2 : Int64) => wc_rk_over (fun (s3 : CS) (r4 : Int64) => ∀ s5 : CS, s5 = c_wo_x_s s3 r4 → wc_rk_plus (fun (s6 : CS) (r7 : Int64) => wc_rk_over (fun (s8 : CS) (r9 : Int64) => ∀ s10 : CS, s10 = c_wo_y_s s8 r9 → post s10) s6 r7 (8589934593 : Int64)) s5 a3 a7) s1 r2 (8589934593 : Int64)) σ a1 a5
set_option maxRecDepth 20000 in
theorem kc_wo_middle {l : Launch} {D : va_G} {G : gAd} {post : CS → Prop} {σ : CS} {a1 : Int64} {a3 : Int64} {a5 : Int64} {a7 : Int64} (h : wc_wo_middle post σ a1 a3 a5 a7) : cMet l D G yX11_middle cX11_middle 9 none 3 [.ref (G.1 1300), .long a1, .long a3, .long a5, .long a7] σ (pV post) := by
  unfold wc_wo_middle at h
  refine c_enter (own := RX11) (by decide +kernel) rfl [(0, .ref (G.1 1300)), (1, .long a1), (3, .long a3), (5, .long a5), (7, .long a7)] rfl (Nat.le_of_ble_eq_true rfl) ?_
  intro E hE hm hF
  have hN := hm.2.2.2.2.2.2.1
  refine r_aload_n hE 0 dX11_middle_g0.1 rfl rfl ?_
  refine r_aload_n hE 0 dX11_middle_g0.2.1 rfl rfl ?_
  refine cg_wo_reckoner hE hm fk_X11_36 dX11_middle_g0.2.2.1 ?_
  refine r_aload_n hE 0 dX11_middle_g0.2.2.2.1 rfl rfl ?_
  refine cg_wo_reckoner hE hm fk_X11_36 dX11_middle_g0.2.2.2.2.1 ?_
  refine r_lload_n hE 1 dX11_middle_g0.2.2.2.2.2.1 rfl rfl ?_
  refine r_lload hE 3 dX11_middle_g0.2.2.2.2.2.2.1 rfl ?_
  refine c_callVl hE hm [.long a1, .long a5] [.ref (G.1 800), .ref (G.1 1300)] ck_X11_239 (cr_rk hm rfl) (kc_rk_plus h) (by decide) rfl rfl (Nat.le_of_ble_eq_true rfl) dX11_middle_g0.2.2.2.2.2.2.2.1 (fun s1 r2 h => ?_)
  refine r_ldc2 (v := (8589934593 : Int64)) hE dX11_middle_g0.2.2.2.2.2.2.2.2.1 (gTb_5 (List.mem_of_getElem? (i := 118) rfl) rfl) ?_
  refine c_callVl hE hm [.long r2, .long (8589934593 : Int64)] [.ref (G.1 1300)] ck_X11_204 (cr_rk hm rfl) (kc_rk_over h) (by decide) rfl rfl (Nat.le_of_ble_eq_true rfl) dX11_middle_g0.2.2.2.2.2.2.2.2.2.1 (fun s3 r4 h => ?_)
  refine cp_wo_x hE hm fk_X11_17 dX11_middle_g0.2.2.2.2.2.2.2.2.2.2.1 h (fun s5 h => ?_)
  refine r_aload_n hE 0 dX11_middle_g0.2.2.2.2.2.2.2.2.2.2.2.1 rfl rfl ?_
  refine r_aload_n hE 0 dX11_middle_g0.2.2.2.2.2.2.2.2.2.2.2.2.1 rfl rfl ?_
  refine cg_wo_reckoner hE hm fk_X11_36 dX11_middle_g0.2.2.2.2.2.2.2.2.2.2.2.2.2.1 ?_
  refine r_aload_n hE 0 dX11_middle_g0.2.2.2.2.2.2.2.2.2.2.2.2.2.2.1 rfl rfl ?_
  refine cg_wo_reckoner hE hm fk_X11_36 dX11_middle_g0.2.2.2.2.2.2.2.2.2.2.2.2.2.2.2 ?_
  refine r_lload_n hE 2 dX11_middle_g1.1 rfl rfl ?_
  refine r_lload hE 4 dX11_middle_g1.2.1 rfl ?_
  refine c_callVl hE hm [.long a3, .long a7] [.ref (G.1 800), .ref (G.1 1300)] ck_X11_239 (cr_rk hm rfl) (kc_rk_plus h) (by decide) rfl rfl (Nat.le_of_ble_eq_true rfl) dX11_middle_g1.2.2.1 (fun s6 r7 h => ?_)
  refine r_ldc2 (v := (8589934593 : Int64)) hE dX11_middle_g1.2.2.2.1 (gTb_5 (List.mem_of_getElem? (i := 118) rfl) rfl) ?_
  refine c_callVl hE hm [.long r7, .long (8589934593 : Int64)] [.ref (G.1 1300)] ck_X11_204 (cr_rk hm rfl) (kc_rk_over h) (by decide) rfl rfl (Nat.le_of_ble_eq_true rfl) dX11_middle_g1.2.2.2.2.1 (fun s8 r9 h => ?_)
  refine cp_wo_y hE hm fk_X11_21 dX11_middle_g1.2.2.2.2.2.1 h (fun s10 h => ?_)
  exact c_vret hE hm hF dX11_middle_g1.2.2.2.2.2.2 h
/-! wo_normal -/
def wc_wo_normal_20 (post : CS → Prop) (σ : CS) (t0 : Int64) : Prop := wc_rk_over (fun (s1 : CS) (r2 : Int64) => ∀ s3 : CS, s3 = c_wo_a_s s1 r2 → wc_rk_over (fun (s4 : CS) (r5 : Int64) => ∀ s6 : CS, s6 = c_wo_b_s s4 r5 → wc_rk_over (fun (s7 : CS) (r8 : Int64) => ∀ s9 : CS, s9 = c_wo_c_s s7 r8 → post s9) s6 (c_wo_c s6) t0) s3 (c_wo_b s3) t0) σ (c_wo_a σ) t0
set_option maxRecDepth 20000 in
theorem kc_wo_normal_20  {E : gEnv} {l : Launch} {D : va_G} {G : gAd} {post : CS → Prop} (hE : gOK E cX11_normal RX11 none 3) (hm : cOK E l D G (pV post) 3) (hF : gFin E) (σ : CS) (t0 : Int64) (h : wc_wo_normal_20 post σ t0) : GW E (cW G σ) 20 [(0, .ref (G.1 1300))] [.long t0] := by
  unfold wc_wo_normal_20 at h
  have hN := hm.2.2.2.2.2.2.1
  refine r_lstore_n hE [(1, .long t0), (0, .ref (G.1 1300))] dX11_normal_g0.2.2.2.2.2.2.2.2.2.2.1 rfl hN (by decide) rfl ?_
  refine r_aload_n hE 1 dX11_normal_g0.2.2.2.2.2.2.2.2.2.2.2.1 rfl rfl ?_
  refine r_aload_n hE 1 dX11_normal_g0.2.2.2.2.2.2.2.2.2.2.2.2.1 rfl rfl ?_
  refine cg_wo_reckoner hE hm fk_X11_36 dX11_normal_g0.2.2.2.2.2.2.2.2.2.2.2.2.2.1 ?_
  refine r_aload_n hE 1 dX11_normal_g0.2.2.2.2.2.2.2.2.2.2.2.2.2.2.1 rfl rfl ?_
  refine cg_wo_a hE hm fk_X11_24 dX11_normal_g0.2.2.2.2.2.2.2.2.2.2.2.2.2.2.2 ?_
  refine r_lload_n hE 0 dX11_normal_g1.1 rfl rfl ?_
  refine c_callVl hE hm [.long (c_wo_a σ), .long t0] [.ref (G.1 1300)] ck_X11_204 (cr_rk hm rfl) (kc_rk_over h) (by decide) rfl rfl (Nat.le_of_ble_eq_true rfl) dX11_normal_g1.2.1 (fun s1 r2 h => ?_)
  refine cp_wo_a hE hm fk_X11_24 dX11_normal_g1.2.2.1 h (fun s3 h => ?_)
  refine r_aload_n hE 1 dX11_normal_g1.2.2.2.1 rfl rfl ?_
  refine r_aload_n hE 1 dX11_normal_g1.2.2.2.2.1 rfl rfl ?_
  refine cg_wo_reckoner hE hm fk_X11_36 dX11_normal_g1.2.2.2.2.2.1 ?_
  refine r_aload_n hE 1 dX11_normal_g1.2.2.2.2.2.2.1 rfl rfl ?_
  refine cg_wo_b hE hm fk_X11_27 dX11_normal_g1.2.2.2.2.2.2.2.1 ?_
  refine r_lload_n hE 0 dX11_normal_g1.2.2.2.2.2.2.2.2.1 rfl rfl ?_
  refine c_callVl hE hm [.long (c_wo_b s3), .long t0] [.ref (G.1 1300)] ck_X11_204 (cr_rk hm rfl) (kc_rk_over h) (by decide) rfl rfl (Nat.le_of_ble_eq_true rfl) dX11_normal_g1.2.2.2.2.2.2.2.2.2.1 (fun s4 r5 h => ?_)
  refine cp_wo_b hE hm fk_X11_27 dX11_normal_g1.2.2.2.2.2.2.2.2.2.2.1 h (fun s6 h => ?_)
  refine r_aload_n hE 1 dX11_normal_g1.2.2.2.2.2.2.2.2.2.2.2.1 rfl rfl ?_
  refine r_aload_n hE 1 dX11_normal_g1.2.2.2.2.2.2.2.2.2.2.2.2.1 rfl rfl ?_
  refine cg_wo_reckoner hE hm fk_X11_36 dX11_normal_g1.2.2.2.2.2.2.2.2.2.2.2.2.2.1 ?_
  refine r_aload_n hE 1 dX11_normal_g1.2.2.2.2.2.2.2.2.2.2.2.2.2.2.1 rfl rfl ?_
  refine cg_wo_c hE hm fk_X11_30 dX11_normal_g1.2.2.2.2.2.2.2.2.2.2.2.2.2.2.2 ?_
  refine r_lload_n hE 0 dX11_normal_g2.1 rfl rfl ?_
  refine c_callVl hE hm [.long (c_wo_c s6), .long t0] [.ref (G.1 1300)] ck_X11_204 (cr_rk hm rfl) (kc_rk_over h) (by decide) rfl rfl (Nat.le_of_ble_eq_true rfl) dX11_normal_g2.2.1 (fun s7 r8 h => ?_)
  refine cp_wo_c hE hm fk_X11_30 dX11_normal_g2.2.2.1 h (fun s9 h => ?_)
  exact c_vret hE hm hF dX11_normal_g2.2.2.2 h
def wc_wo_normal (post : CS → Prop) (σ : CS) : Prop := (((lg_cmp (c_wo_a σ) (1 : Int64)) = (0 : Int32)) → (wc_wo_normal_20 post σ (c_wo_b σ))) ∧ ((¬ ((lg_cmp (c_wo_a σ) (1 : Int64)) = (0 : Int32))) → (wc_wo_normal_20 post σ (c_wo_a σ)))
set_option maxRecDepth 20000 in
theorem kc_wo_normal {l : Launch} {D : va_G} {G : gAd} {post : CS → Prop} {σ : CS} (h : wc_wo_normal post σ) : cMet l D G yX11_normal cX11_normal 3 none 3 [.ref (G.1 1300)] σ (pV post) := by
  unfold wc_wo_normal at h
  refine c_enter (own := RX11) (by decide +kernel) rfl [(0, .ref (G.1 1300))] rfl (Nat.le_of_ble_eq_true rfl) ?_
  intro E hE hm hF
  have hN := hm.2.2.2.2.2.2.1
  refine r_aload_n hE 0 dX11_normal_g0.1 rfl rfl ?_
  refine cg_wo_a hE hm fk_X11_24 dX11_normal_g0.2.1 ?_
  refine r_lconst (v := (1 : Int64)) hE dX11_normal_g0.2.2.1 (by decide) ?_
  refine r_lcmp hE dX11_normal_g0.2.2.2.1 ?_
  refine r_if_eq hE 16 dX11_normal_g0.2.2.2.2.1 (by decide) h (fun h => ?_) (fun h => ?_)
  · refine r_aload_n hE 0 dX11_normal_g0.2.2.2.2.2.2.2.2.1 rfl rfl ?_
    refine cg_wo_b hE hm fk_X11_27 dX11_normal_g0.2.2.2.2.2.2.2.2.2.1 ?_
    exact kc_wo_normal_20 hE hm hF _ _ h
  · refine r_aload_n hE 0 dX11_normal_g0.2.2.2.2.2.1 rfl rfl ?_
    refine cg_wo_a hE hm fk_X11_24 dX11_normal_g0.2.2.2.2.2.2.1 ?_
    refine r_goto hE 20 dX11_normal_g0.2.2.2.2.2.2.2.1 (by decide) ?_
    exact kc_wo_normal_20 hE hm hF _ _ h
/-! rk_negative -/
def wc_rk_negative (post : CS → Int64 → Prop) (σ : CS) (a1 : Int64) : Prop := wc_SX6_top (fun (s1 : CS) (r2 : Int64) => wc_SX6_bottom (fun (s3 : CS) (r4 : Int64) => wc_rk_reduced (fun (s5 : CS) (r6 : Int64) => post s5 r6) s3 (-r2) r4) s1 a1) σ a1
set_option maxRecDepth 20000 in
theorem kc_rk_negative {l : Launch} {D : va_G} {G : gAd} {post : CS → Int64 → Prop} {σ : CS} {a1 : Int64} (h : wc_rk_negative post σ a1) : cMet l D G yX6_negative cX6_negative 3 (some .long) 2 [.ref (G.1 800), .long a1] σ (pL post) := by
  unfold wc_rk_negative at h
  refine c_enter (own := RX6) (by decide +kernel) rfl [(0, .ref (G.1 800)), (1, .long a1)] rfl (Nat.le_of_ble_eq_true rfl) ?_
  intro E hE hm hF
  have hN := hm.2.2.2.2.2.2.1
  refine r_aload_n hE 0 dX6_negative_g0.1 rfl rfl ?_
  refine r_lload_n hE 1 dX6_negative_g0.2.1 rfl rfl ?_
  refine c_callSl hE hm [.long a1] [.ref (G.1 800)] ck_X6_19 (kc_SX6_top h) (by decide) rfl rfl (Nat.le_of_ble_eq_true rfl) dX6_negative_g0.2.2.1 (fun s1 r2 h => ?_)
  refine r_lneg hE dX6_negative_g0.2.2.2.1 ?_
  refine r_lload_n hE 1 dX6_negative_g0.2.2.2.2.1 rfl rfl ?_
  refine c_callSl hE hm [.long a1] [.long (-r2), .ref (G.1 800)] ck_X6_23 (kc_SX6_bottom h) (by decide) rfl rfl (Nat.le_of_ble_eq_true rfl) dX6_negative_g0.2.2.2.2.2.1 (fun s3 r4 h => ?_)
  refine c_callVl hE hm [.long (-r2), .long r4] [] ck_X6_32 (cr_rk hm rfl) (kc_rk_reduced h) (by decide) rfl rfl (Nat.le_of_ble_eq_true rfl) dX6_negative_g0.2.2.2.2.2.2.1 (fun s5 r6 h => ?_)
  exact c_lret hE hm hF dX6_negative_g0.2.2.2.2.2.2.2 h
