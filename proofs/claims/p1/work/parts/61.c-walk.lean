/-! sp_macroNumber -/
def wc_sp_macroNumber_2 (post : CS → Int32 → Prop) : Nat → CS → Int32 → Int32 → Prop
  | 0, _, _, _ => False
  | n + 1, σ, v1, v2 => (((c_sp_macros σ) ≤ v2) → (post σ (-1 : Int32))) ∧ ((¬ ((c_sp_macros σ) ≤ v2)) → ((((12 : Int32) ≤ v2) → (post σ (-1 : Int32))) ∧ ((¬ ((12 : Int32) ≤ v2)) → (vp_in v2 12 ∧ (wc_sp_sameWord (fun (s1 : CS) (r2 : Int32) => ((r2 = (0 : Int32)) → (∀ x3 : Int32, x3 = v2 + (1 : Int32) → wc_sp_macroNumber_2 post n s1 v1 x3)) ∧ ((¬ (r2 = (0 : Int32))) → (post s1 v2))) σ (c_sp_macroAt σ v2.toNatClampNeg) v1)))))
set_option maxRecDepth 20000 in
theorem kc_sp_macroNumber_2  {E : gEnv} {l : Launch} {D : va_G} {G : gAd} {post : CS → Int32 → Prop} (hE : gOK E cX1_macroNumber RX1 (some .int) 3) (hm : cOK E l D G (pI post) 3) (hF : gFin E) : ∀ (n0 : Nat) (σ : CS) (v1 : Int32) (v2 : Int32), wc_sp_macroNumber_2 post n0 σ v1 v2 → GW E (cW G σ) 2 [(0, .ref (G.1 400)), (1, .int v1), (2, .int v2)] [] := by
  intro n0
  induction n0 with
  | zero => intro σ v1 v2 h; exact h.elim
  | succ n0 ih =>
    intro σ v1 v2 h
    rw [wc_sp_macroNumber_2] at h
    have hN := hm.2.2.2.2.2.2.1
    refine r_iload_n hE 2 dX1_macroNumber_g0.2.2.1 rfl rfl ?_
    refine r_aload_n hE 0 dX1_macroNumber_g0.2.2.2.1 rfl rfl ?_
    refine cg_sp_macros hE hm fk_X1_65 dX1_macroNumber_g0.2.2.2.2.1 ?_
    refine r_icmp_ge hE 38 dX1_macroNumber_g0.2.2.2.2.2.1 (by decide) h (fun h => ?_) (fun h => ?_)
    · refine r_iconst (v := (-1 : Int32)) hE dX1_macroNumber_g1.2.2.2.2.2.1 (by decide) ?_
      exact c_iret hE hm hF dX1_macroNumber_g1.2.2.2.2.2.2 h
    · refine r_iload_n hE 2 dX1_macroNumber_g0.2.2.2.2.2.2.1 rfl rfl ?_
      refine r_bipush (v := (12 : Int32)) hE dX1_macroNumber_g0.2.2.2.2.2.2.2.1 (by decide) ?_
      refine r_icmp_ge hE 38 dX1_macroNumber_g0.2.2.2.2.2.2.2.2.1 (by decide) h (fun h => ?_) (fun h => ?_)
      · refine r_iconst (v := (-1 : Int32)) hE dX1_macroNumber_g1.2.2.2.2.2.1 (by decide) ?_
        exact c_iret hE hm hF dX1_macroNumber_g1.2.2.2.2.2.2 h
      · refine r_aload_n hE 0 dX1_macroNumber_g0.2.2.2.2.2.2.2.2.2.1 rfl rfl ?_
        refine r_aload_n hE 0 dX1_macroNumber_g0.2.2.2.2.2.2.2.2.2.2.1 rfl rfl ?_
        refine cg_sp_macroAt hE hm fk_X1_59 dX1_macroNumber_g0.2.2.2.2.2.2.2.2.2.2.2.1 ?_
        refine r_iload_n hE 2 dX1_macroNumber_g0.2.2.2.2.2.2.2.2.2.2.2.2.1 rfl rfl ?_
        obtain ⟨hi, h⟩ := h
        refine cl_sp_macroAt hE hm dX1_macroNumber_g0.2.2.2.2.2.2.2.2.2.2.2.2.2.1 hi ?_
        refine r_iload_n hE 1 dX1_macroNumber_g0.2.2.2.2.2.2.2.2.2.2.2.2.2.2.1 rfl rfl ?_
        refine c_callVi hE hm [.int (c_sp_macroAt σ v2.toNatClampNeg), .int v1] [] ck_X1_82 (cr_sp hm rfl) (kc_sp_sameWord h) (by decide) rfl rfl (Nat.le_of_ble_eq_true rfl) dX1_macroNumber_g0.2.2.2.2.2.2.2.2.2.2.2.2.2.2.2 (fun s1 r2 h => ?_)
        refine r_if_eq hE 32 dX1_macroNumber_g1.1 (by decide) h (fun h => ?_) (fun h => ?_)
        · obtain ⟨x3, ex3⟩ : ∃ z : Int32, z = v2 + (1 : Int32) := ⟨_, rfl⟩
          have h := h x3 ex3
          refine r_iinc (v := x3) hE [(2, .int x3), (0, .ref (G.1 400)), (1, .int v1)] 2 dX1_macroNumber_g1.2.2.2.1 rfl (by rw [ex3]; rfl) hN (by decide) rfl ?_
          refine r_goto hE 2 dX1_macroNumber_g1.2.2.2.2.1 (by decide) ?_
          refine r_pick [1, 2, 0] rfl ?_
          exact ih _ _ _ h
        · refine r_iload_n hE 2 dX1_macroNumber_g1.2.1 rfl rfl ?_
          exact c_iret hE hm hF dX1_macroNumber_g1.2.2.1 h
def wc_sp_macroNumber (post : CS → Int32 → Prop) (σ : CS) (a1 : Int32) : Prop := ∃ k : Nat, wc_sp_macroNumber_2 post k σ a1 (0 : Int32)
set_option maxRecDepth 20000 in
theorem kc_sp_macroNumber {l : Launch} {D : va_G} {G : gAd} {post : CS → Int32 → Prop} {σ : CS} {a1 : Int32} (h : wc_sp_macroNumber post σ a1) : cMet l D G yX1_macroNumber cX1_macroNumber 3 (some .int) 3 [.ref (G.1 400), .int a1] σ (pI post) := by
  unfold wc_sp_macroNumber at h
  refine c_enter (own := RX1) (by decide +kernel) rfl [(0, .ref (G.1 400)), (1, .int a1)] rfl (Nat.le_of_ble_eq_true rfl) ?_
  intro E hE hm hF
  have hN := hm.2.2.2.2.2.2.1
  refine r_iconst (v := (0 : Int32)) hE dX1_macroNumber_g0.1 (by decide) ?_
  refine r_istore_n hE [(2, .int (0 : Int32)), (0, .ref (G.1 400)), (1, .int a1)] dX1_macroNumber_g0.2.1 rfl hN (by decide) rfl ?_
  refine r_pick [1, 2, 0] rfl ?_
  obtain ⟨k, h⟩ := h
  exact kc_sp_macroNumber_2 hE hm hF k _ _ _ h
/-! sp_paramsOf -/
def wc_sp_paramsOf (post : CS → Int32 → Prop) (σ : CS) (a1 : Int32) : Prop := wc_SX12_inside (fun (s1 : CS) (r2 : Int32) => ((r2 = (0 : Int32)) → (post s1 (0 : Int32))) ∧ ((¬ (r2 = (0 : Int32))) → (vp_in a1 12 ∧ (post s1 (c_sp_params s1 a1.toNatClampNeg))))) σ a1 (c_sp_macros σ)
set_option maxRecDepth 20000 in
theorem kc_sp_paramsOf {l : Launch} {D : va_G} {G : gAd} {post : CS → Int32 → Prop} {σ : CS} {a1 : Int32} (h : wc_sp_paramsOf post σ a1) : cMet l D G yX1_paramsOf cX1_paramsOf 2 (some .int) 2 [.ref (G.1 400), .int a1] σ (pI post) := by
  unfold wc_sp_paramsOf at h
  refine c_enter (own := RX1) (by decide +kernel) rfl [(0, .ref (G.1 400)), (1, .int a1)] rfl (Nat.le_of_ble_eq_true rfl) ?_
  intro E hE hm hF
  have hN := hm.2.2.2.2.2.2.1
  refine r_iload_n hE 1 dX1_paramsOf_g0.1 rfl rfl ?_
  refine r_aload_n hE 0 dX1_paramsOf_g0.2.1 rfl rfl ?_
  refine cg_sp_macros hE hm fk_X1_65 dX1_paramsOf_g0.2.2.1 ?_
  refine c_callSNi hE hm [.int a1, .int (c_sp_macros σ)] [] ck_X1_74 cw_X1_74 (kc_SX12_inside h) (by decide) rfl rfl (Nat.le_of_ble_eq_true rfl) dX1_paramsOf_g0.2.2.2.1 (fun s1 r2 h => ?_)
  refine r_if_eq hE 20 dX1_paramsOf_g0.2.2.2.2.1 (by decide) h (fun h => ?_) (fun h => ?_)
  · refine r_iconst (v := (0 : Int32)) hE dX1_paramsOf_g0.2.2.2.2.2.2.2.2.2.2.1 (by decide) ?_
    exact c_iret hE hm hF dX1_paramsOf_g0.2.2.2.2.2.2.2.2.2.2.2 h
  · refine r_aload_n hE 0 dX1_paramsOf_g0.2.2.2.2.2.1 rfl rfl ?_
    refine cg_sp_params hE hm fk_X1_56 dX1_paramsOf_g0.2.2.2.2.2.2.1 ?_
    refine r_iload_n hE 1 dX1_paramsOf_g0.2.2.2.2.2.2.2.1 rfl rfl ?_
    obtain ⟨hi, h⟩ := h
    refine cl_sp_params hE hm dX1_paramsOf_g0.2.2.2.2.2.2.2.2.1 hi ?_
    refine r_goto hE 21 dX1_paramsOf_g0.2.2.2.2.2.2.2.2.2.1 (by decide) ?_
    exact c_iret hE hm hF dX1_paramsOf_g0.2.2.2.2.2.2.2.2.2.2.2 h
/-! rd_open -/
def wc_rd_open (post : CS → Prop) (σ : CS) (a1 : Int32) : Prop := wc_rd_isSign (fun (s1 : CS) (r2 : Int32) => ((¬ (r2 = (0 : Int32))) → ((((c_rd_depth s1) < (10 : Int32)) → (∀ s3 : CS, s3 = c_rd_depth_s s1 ((c_rd_depth s1) + (1 : Int32)) → wc_rd_next (fun (s4 : CS) => post s4) s3)) ∧ ((¬ ((c_rd_depth s1) < (10 : Int32))) → (wc_rd_noteFault (fun (s5 : CS) => post s5) s1 (3 : Int32) (c_rd_at s1))))) ∧ ((r2 = (0 : Int32)) → (wc_rd_misplaced (fun (s6 : CS) (r7 : Int32) => wc_rd_noteFault (fun (s8 : CS) => post s8) s6 r7 (c_rd_at s6)) s1))) σ a1
set_option maxRecDepth 20000 in
theorem kc_rd_open {l : Launch} {D : va_G} {G : gAd} {post : CS → Prop} {σ : CS} {a1 : Int32} (h : wc_rd_open post σ a1) : cMet l D G yX5_open cX5_open 2 none 6 [.ref (G.1 600), .int a1] σ (pV post) := by
  unfold wc_rd_open at h
  refine c_enter (own := RX5) (by decide +kernel) rfl [(0, .ref (G.1 600)), (1, .int a1)] rfl (Nat.le_of_ble_eq_true rfl) ?_
  intro E hE hm hF
  have hN := hm.2.2.2.2.2.2.1
  refine r_aload_n hE 0 dX5_open_g0.1 rfl rfl ?_
  refine r_iload_n hE 1 dX5_open_g0.2.1 rfl rfl ?_
  refine c_callVi hE hm [.int a1] [] ck_X5_88 (cr_rd hm rfl) (kc_rd_isSign h) (by decide) rfl rfl (Nat.le_of_ble_eq_true rfl) dX5_open_g0.2.2.1 (fun s1 r2 h => ?_)
  refine r_if_ne hE 23 dX5_open_g0.2.2.2.1 (by decide) h (fun h => ?_) (fun h => ?_)
  · refine r_aload_n hE 0 dX5_open_g0.2.2.2.2.2.2.2.2.2.2.2.1 rfl rfl ?_
    refine cg_rd_depth hE hm fk_X5_27 dX5_open_g0.2.2.2.2.2.2.2.2.2.2.2.2.1 ?_
    refine r_bipush (v := (10 : Int32)) hE dX5_open_g0.2.2.2.2.2.2.2.2.2.2.2.2.2.1 (by decide) ?_
    refine r_icmp_lt hE 44 dX5_open_g0.2.2.2.2.2.2.2.2.2.2.2.2.2.2.1 (by decide) h (fun h => ?_) (fun h => ?_)
    · refine r_aload_n hE 0 dX5_open_g1.2.2.2.2.2.1 rfl rfl ?_
      refine r_dup hE dX5_open_g1.2.2.2.2.2.2.1 rfl ?_
      refine cg_rd_depth hE hm fk_X5_27 dX5_open_g1.2.2.2.2.2.2.2.1 ?_
      refine r_iconst (v := (1 : Int32)) hE dX5_open_g1.2.2.2.2.2.2.2.2.1 (by decide) ?_
      refine r_iadd hE dX5_open_g1.2.2.2.2.2.2.2.2.2.1 ?_
      refine cp_rd_depth hE hm fk_X5_27 dX5_open_g1.2.2.2.2.2.2.2.2.2.2.1 h (fun s3 h => ?_)
      refine r_aload_n hE 0 dX5_open_g1.2.2.2.2.2.2.2.2.2.2.2.1 rfl rfl ?_
      refine c_callVv hE hm [] [] ck_X5_40 (cr_rd hm rfl) (kc_rd_next h) (by decide) rfl rfl (Nat.le_of_ble_eq_true rfl) dX5_open_g1.2.2.2.2.2.2.2.2.2.2.2.2.1 (fun s4 h => ?_)
      exact c_vret hE hm hF dX5_open_g1.2.2.2.2.2.2.2.2.2.2.2.2.2 h
    · refine r_aload_n hE 0 dX5_open_g0.2.2.2.2.2.2.2.2.2.2.2.2.2.2.2 rfl rfl ?_
      refine r_iconst (v := (3 : Int32)) hE dX5_open_g1.1 (by decide) ?_
      refine r_aload_n hE 0 dX5_open_g1.2.1 rfl rfl ?_
      refine cg_rd_at hE hm fk_X5_9 dX5_open_g1.2.2.1 ?_
      refine c_callVv hE hm [.int (3 : Int32), .int (c_rd_at s1)] [] ck_X5_71 (cr_rd hm rfl) (kc_rd_noteFault h) (by decide) rfl rfl (Nat.le_of_ble_eq_true rfl) dX5_open_g1.2.2.2.1 (fun s5 h => ?_)
      refine r_goto hE 58 dX5_open_g1.2.2.2.2.1 (by decide) ?_
      exact c_vret hE hm hF dX5_open_g1.2.2.2.2.2.2.2.2.2.2.2.2.2 h
  · refine r_aload_n hE 0 dX5_open_g0.2.2.2.2.1 rfl rfl ?_
    refine r_aload_n hE 0 dX5_open_g0.2.2.2.2.2.1 rfl rfl ?_
    refine c_callVi hE hm [] [.ref (G.1 600)] ck_X5_68 (cr_rd hm rfl) (kc_rd_misplaced h) (by decide) rfl rfl (Nat.le_of_ble_eq_true rfl) dX5_open_g0.2.2.2.2.2.2.1 (fun s6 r7 h => ?_)
    refine r_aload_n hE 0 dX5_open_g0.2.2.2.2.2.2.2.1 rfl rfl ?_
    refine cg_rd_at hE hm fk_X5_9 dX5_open_g0.2.2.2.2.2.2.2.2.1 ?_
    refine c_callVv hE hm [.int r7, .int (c_rd_at s6)] [] ck_X5_71 (cr_rd hm rfl) (kc_rd_noteFault h) (by decide) rfl rfl (Nat.le_of_ble_eq_true rfl) dX5_open_g0.2.2.2.2.2.2.2.2.2.1 (fun s8 h => ?_)
    refine r_goto hE 58 dX5_open_g0.2.2.2.2.2.2.2.2.2.2.1 (by decide) ?_
    exact c_vret hE hm hF dX5_open_g1.2.2.2.2.2.2.2.2.2.2.2.2.2 h
/-! SX5_toolNumber_sp -/
def wc_SX5_toolNumber_sp_2 (post : CS → Int32 → Prop) : Nat → CS → Int32 → Int32 → Prop
  | 0, _, _, _ => False
  | n + 1, σ, v1, v2 => (((39 : Int32) ≤ v2) → (post σ (-1 : Int32))) ∧ ((¬ ((39 : Int32) ≤ v2)) → (vp_in v2 39 ∧ ((v2.toNatClampNeg) < 39 ∧ (wc_sp_isWord_s (fun (s1 : CS) (r2 : Int32) => ((r2 = (0 : Int32)) → (∀ x3 : Int32, x3 = v2 + (1 : Int32) → wc_SX5_toolNumber_sp_2 post n s1 v1 x3)) ∧ ((¬ (r2 = (0 : Int32))) → (post s1 v2))) σ v1 (tWord.getD (v2.toNatClampNeg) 0)))))
set_option maxRecDepth 20000 in
theorem kc_SX5_toolNumber_sp_2  {E : gEnv} {l : Launch} {D : va_G} {G : gAd} {post : CS → Int32 → Prop} (hE : gOK E cX5_toolNumber RX5 (some .int) 6) (hm : cOK E l D G (pI post) 3) (hF : gFin E) : ∀ (n0 : Nat) (σ : CS) (v1 : Int32) (v2 : Int32), wc_SX5_toolNumber_sp_2 post n0 σ v1 v2 → GW E (cW G σ) 2 [(0, .ref (G.1 400)), (1, .int v1), (2, .int v2)] [] := by
  intro n0
  induction n0 with
  | zero => intro σ v1 v2 h; exact h.elim
  | succ n0 ih =>
    intro σ v1 v2 h
    rw [wc_SX5_toolNumber_sp_2] at h
    have hN := hm.2.2.2.2.2.2.1
    refine r_iload_n hE 2 dX5_toolNumber_g0.2.2.1 rfl rfl ?_
    refine kz_tools hE hm cw_X5_108 dX5_toolNumber_g0.2.2.2.1 ?_
    refine kl_tools hE hm dX5_toolNumber_g0.2.2.2.2.1 ?_
    refine r_icmp_ge hE 34 dX5_toolNumber_g0.2.2.2.2.2.1 (by decide) h (fun h => ?_) (fun h => ?_)
    · refine r_iconst (v := (-1 : Int32)) hE dX5_toolNumber_g1.2.2.1 (by decide) ?_
      exact c_iret hE hm hF dX5_toolNumber_g1.2.2.2 h
    · refine r_aload_n hE 0 dX5_toolNumber_g0.2.2.2.2.2.2.1 rfl rfl ?_
      refine r_iload_n hE 1 dX5_toolNumber_g0.2.2.2.2.2.2.2.1 rfl rfl ?_
      refine kz_tools hE hm cw_X5_108 dX5_toolNumber_g0.2.2.2.2.2.2.2.2.1 ?_
      refine r_iload_n hE 2 dX5_toolNumber_g0.2.2.2.2.2.2.2.2.2.1 rfl rfl ?_
      obtain ⟨hi, h⟩ := h
      refine ka_tools hE hm hi dX5_toolNumber_g0.2.2.2.2.2.2.2.2.2.2.1 ?_
      obtain ⟨hx, h⟩ := h
      refine kt_word hE hm hx fk_X5_112 dX5_toolNumber_g0.2.2.2.2.2.2.2.2.2.2.2.1 ?_
      refine c_callVi hE hm [.int v1, .ref (G.1 (5000 + (tWord.getD (v2.toNatClampNeg) 0)))] [] ck_X5_45 (cr_sp hm rfl) (kc_sp_isWord_s h) (by decide) rfl rfl (Nat.le_of_ble_eq_true rfl) dX5_toolNumber_g0.2.2.2.2.2.2.2.2.2.2.2.2.1 (fun s1 r2 h => ?_)
      refine r_if_eq hE 28 dX5_toolNumber_g0.2.2.2.2.2.2.2.2.2.2.2.2.2.1 (by decide) h (fun h => ?_) (fun h => ?_)
      · obtain ⟨x3, ex3⟩ : ∃ z : Int32, z = v2 + (1 : Int32) := ⟨_, rfl⟩
        have h := h x3 ex3
        refine r_iinc (v := x3) hE [(2, .int x3), (0, .ref (G.1 400)), (1, .int v1)] 2 dX5_toolNumber_g1.1 rfl (by rw [ex3]; rfl) hN (by decide) rfl ?_
        refine r_goto hE 2 dX5_toolNumber_g1.2.1 (by decide) ?_
        refine r_pick [1, 2, 0] rfl ?_
        exact ih _ _ _ h
      · refine r_iload_n hE 2 dX5_toolNumber_g0.2.2.2.2.2.2.2.2.2.2.2.2.2.2.1 rfl rfl ?_
        exact c_iret hE hm hF dX5_toolNumber_g0.2.2.2.2.2.2.2.2.2.2.2.2.2.2.2 h
def wc_SX5_toolNumber_sp (post : CS → Int32 → Prop) (σ : CS) (a1 : Int32) : Prop := ∃ k : Nat, wc_SX5_toolNumber_sp_2 post k σ a1 (0 : Int32)
set_option maxRecDepth 20000 in
theorem kc_SX5_toolNumber_sp {l : Launch} {D : va_G} {G : gAd} {post : CS → Int32 → Prop} {σ : CS} {a1 : Int32} (h : wc_SX5_toolNumber_sp post σ a1) : cMet l D G yX5_toolNumber cX5_toolNumber 3 (some .int) 6 [.ref (G.1 400), .int a1] σ (pI post) := by
  unfold wc_SX5_toolNumber_sp at h
  refine c_enter (own := RX5) (by decide +kernel) rfl [(0, .ref (G.1 400)), (1, .int a1)] rfl (Nat.le_of_ble_eq_true rfl) ?_
  intro E hE hm hF
  have hN := hm.2.2.2.2.2.2.1
  refine r_iconst (v := (0 : Int32)) hE dX5_toolNumber_g0.1 (by decide) ?_
  refine r_istore_n hE [(2, .int (0 : Int32)), (0, .ref (G.1 400)), (1, .int a1)] dX5_toolNumber_g0.2.1 rfl hN (by decide) rfl ?_
  refine r_pick [1, 2, 0] rfl ?_
  obtain ⟨k, h⟩ := h
  exact kc_SX5_toolNumber_sp_2 hE hm hF k _ _ _ h
/-! group X5_arguments -/
abbrev TY_X5_arguments : Type := ((CS → Int32 → Prop) → CS → Int32 → Prop) × ((CS → Int32 → Prop) → CS → Int32 → Int32 → Prop) × ((CS → Int32 → Prop) → CS → Prop) × ((CS → Int32 → Prop) → CS → Prop) × ((CS → Int32 → Prop) → CS → Int32 → Int32 → Prop) × ((CS → Int32 → Prop) → CS → Prop) × ((CS → Int32 → Prop) → CS → Prop) × ((CS → Int32 → Prop) → CS → Prop) × ((CS → Int32 → Prop) → CS → Prop)
def RH_X5_arguments (R : TY_X5_arguments) (n : Nat) : Prop := (∀ (l : Launch) (D : va_G) (G : gAd) (post : CS → Int32 → Prop) (σ : CS) (a1 : Int32), R.1 post σ a1 → cMet l D G yX5_arguments cX5_arguments 6 (some .int) n [.ref (G.1 600), .int a1] σ (pI post)) ∧ (∀ (l : Launch) (D : va_G) (G : gAd) (post : CS → Int32 → Prop) (σ : CS) (a1 : Int32) (a2 : Int32), R.2.1 post σ a1 a2 → cMet l D G yX5_called cX5_called 7 (some .int) n [.ref (G.1 600), .int a1, .int a2] σ (pI post)) ∧ (∀ (l : Launch) (D : va_G) (G : gAd) (post : CS → Int32 → Prop) (σ : CS), R.2.2.1 post σ → cMet l D G yX5_core cX5_core 2 (some .int) n [.ref (G.1 600)] σ (pI post)) ∧ (∀ (l : Launch) (D : va_G) (G : gAd) (post : CS → Int32 → Prop) (σ : CS), R.2.2.2.1 post σ → cMet l D G yX5_exp cX5_exp 2 (some .int) n [.ref (G.1 600)] σ (pI post)) ∧ (∀ (l : Launch) (D : va_G) (G : gAd) (post : CS → Int32 → Prop) (σ : CS) (a1 : Int32) (a2 : Int32), R.2.2.2.2.1 post σ a1 a2 → cMet l D G yX5_joined cX5_joined 4 (some .int) n [.ref (G.1 600), .int a1, .int a2] σ (pI post)) ∧ (∀ (l : Launch) (D : va_G) (G : gAd) (post : CS → Int32 → Prop) (σ : CS), R.2.2.2.2.2.1 post σ → cMet l D G yX5_named cX5_named 4 (some .int) n [.ref (G.1 600)] σ (pI post)) ∧ (∀ (l : Launch) (D : va_G) (G : gAd) (post : CS → Int32 → Prop) (σ : CS), R.2.2.2.2.2.2.1 post σ → cMet l D G yX5_one cX5_one 5 (some .int) n [.ref (G.1 600)] σ (pI post)) ∧ (∀ (l : Launch) (D : va_G) (G : gAd) (post : CS → Int32 → Prop) (σ : CS), R.2.2.2.2.2.2.2.1 post σ → cMet l D G yX5_sum cX5_sum 3 (some .int) n [.ref (G.1 600)] σ (pI post)) ∧ (∀ (l : Launch) (D : va_G) (G : gAd) (post : CS → Int32 → Prop) (σ : CS), R.2.2.2.2.2.2.2.2 post σ → cMet l D G yX5_term cX5_term 3 (some .int) n [.ref (G.1 600)] σ (pI post))
def wc_rd_arguments_30 (R : TY_X5_arguments) (post : CS → Int32 → Prop) : Nat → CS → Int32 → Int32 → Int32 → Prop
  | 0, _, _, _, _ => False
  | n + 1, σ, v2, v3, v4 => (((3000 : Int32) ≤ v4) → (post σ v3)) ∧ ((¬ ((3000 : Int32) ≤ v4)) → (wc_rd_isSign (fun (s1 : CS) (r2 : Int32) => ((r2 = (0 : Int32)) → (post s1 v3)) ∧ ((¬ (r2 = (0 : Int32))) → (wc_rd_next (fun (s3 : CS) => R.2.2.2.1 (fun (s4 : CS) (r5 : Int32) => c_rd_figure s4 = 400 ∧ (wc_sp_follow (fun (s6 : CS) => ∀ x7 : Int32, x7 = v3 + (1 : Int32) → ∀ x8 : Int32, x8 = v4 + (1 : Int32) → wc_rd_arguments_30 R post n s6 r5 x7 x8) s4 v2 r5)) s3) s1))) σ (44 : Int32)))
set_option maxRecDepth 20000 in
theorem kc_rd_arguments_30  {R : TY_X5_arguments} {n : Nat} (ih0 : RH_X5_arguments R n) (hn : 6 ≤ n) {E : gEnv} {l : Launch} {D : va_G} {G : gAd} {post : CS → Int32 → Prop} (hE : gOK E cX5_arguments RX5 (some .int) (n + 1)) (hm : cOK E l D G (pI post) 6) (hF : gFin E) : ∀ (n0 : Nat) (σ : CS) (v2 : Int32) (v3 : Int32) (v4 : Int32), wc_rd_arguments_30 R post n0 σ v2 v3 v4 → GW E (cW G σ) 30 [(0, .ref (G.1 600)), (2, .int v2), (3, .int v3), (4, .int v4)] [] := by
  intro n0
  induction n0 with
  | zero => intro σ v2 v3 v4 h; exact h.elim
  | succ n0 ih =>
    intro σ v2 v3 v4 h
    rw [wc_rd_arguments_30] at h
    have hN := hm.2.2.2.2.2.2.1
    refine r_iload hE 3 dX5_arguments_g1.2.2.1 rfl ?_
    refine r_sipush (v := (3000 : Int32)) hE dX5_arguments_g1.2.2.2.1 (by decide) ?_
    refine r_icmp_ge hE 79 dX5_arguments_g1.2.2.2.2.1 (by decide) h (fun h => ?_) (fun h => ?_)
    · refine r_iload_n hE 2 dX5_arguments_g2.2.2.2.2.2.2.2.2.1 rfl rfl ?_
      exact c_iret hE hm hF dX5_arguments_g2.2.2.2.2.2.2.2.2.2 h
    · refine r_aload_n hE 0 dX5_arguments_g1.2.2.2.2.2.1 rfl rfl ?_
      refine r_bipush (v := (44 : Int32)) hE dX5_arguments_g1.2.2.2.2.2.2.1 (by decide) ?_
      refine c_callVi hE hm [.int (44 : Int32)] [] ck_X5_88 (cr_rd hm rfl) (kc_rd_isSign h) (by omega) rfl rfl (Nat.le_of_ble_eq_true rfl) dX5_arguments_g1.2.2.2.2.2.2.2.1 (fun s1 r2 h => ?_)
      refine r_if_eq hE 79 dX5_arguments_g1.2.2.2.2.2.2.2.2.1 (by decide) h (fun h => ?_) (fun h => ?_)
      · refine r_iload_n hE 2 dX5_arguments_g2.2.2.2.2.2.2.2.2.1 rfl rfl ?_
        exact c_iret hE hm hF dX5_arguments_g2.2.2.2.2.2.2.2.2.2 h
      · refine r_aload_n hE 0 dX5_arguments_g1.2.2.2.2.2.2.2.2.2.1 rfl rfl ?_
        refine c_callVv hE hm [] [] ck_X5_40 (cr_rd hm rfl) (kc_rd_next h) (by omega) rfl rfl (Nat.le_of_ble_eq_true rfl) dX5_arguments_g1.2.2.2.2.2.2.2.2.2.2.1 (fun s3 h => ?_)
        refine r_aload_n hE 0 dX5_arguments_g1.2.2.2.2.2.2.2.2.2.2.2.1 rfl rfl ?_
        refine c_callVi hE hm [] [] ck_X5_177 (cr_rd hm rfl) (ih0.2.2.2.1 _ _ _ _ _ h) (Nat.le_refl _) rfl rfl (Nat.le_of_ble_eq_true rfl) dX5_arguments_g1.2.2.2.2.2.2.2.2.2.2.2.2.1 (fun s4 r5 h => ?_)
        refine r_istore hE [(5, .int r5), (0, .ref (G.1 600)), (2, .int v2), (3, .int v3), (4, .int v4)] dX5_arguments_g1.2.2.2.2.2.2.2.2.2.2.2.2.2.1 hN (by decide) rfl ?_
        refine r_aload_n hE 1 dX5_arguments_g1.2.2.2.2.2.2.2.2.2.2.2.2.2.2.1 rfl rfl ?_
        obtain ⟨hj, h⟩ := h
        refine cg_rd_figure hE hm fk_X5_36 dX5_arguments_g1.2.2.2.2.2.2.2.2.2.2.2.2.2.2.2 hj ?_
        refine r_iload_n hE 2 dX5_arguments_g2.1 rfl rfl ?_
        refine r_iload hE 0 dX5_arguments_g2.2.1 rfl ?_
        refine c_callVv hE hm [.int v2, .int r5] [] ck_X5_165 (cr_sp hm rfl) (kc_sp_follow h) (by omega) rfl rfl (Nat.le_of_ble_eq_true rfl) dX5_arguments_g2.2.2.1 (fun s6 h => ?_)
        refine r_iload hE 0 dX5_arguments_g2.2.2.2.1 rfl ?_
        refine r_istore_n hE [(2, .int r5), (5, .int r5), (0, .ref (G.1 600)), (3, .int v3), (4, .int v4)] dX5_arguments_g2.2.2.2.2.1 rfl hN (by decide) rfl ?_
        obtain ⟨x7, ex7⟩ : ∃ z : Int32, z = v3 + (1 : Int32) := ⟨_, rfl⟩
        have h := h x7 ex7
        refine r_iinc (v := x7) hE [(3, .int x7), (2, .int r5), (5, .int r5), (0, .ref (G.1 600)), (4, .int v4)] 3 dX5_arguments_g2.2.2.2.2.2.1 rfl (by rw [ex7]; rfl) hN (by decide) rfl ?_
        obtain ⟨x8, ex8⟩ : ∃ z : Int32, z = v4 + (1 : Int32) := ⟨_, rfl⟩
        have h := h x8 ex8
        refine r_iinc (v := x8) hE [(4, .int x8), (3, .int x7), (2, .int r5), (5, .int r5), (0, .ref (G.1 600))] 4 dX5_arguments_g2.2.2.2.2.2.2.1 rfl (by rw [ex8]; rfl) hN (by decide) rfl ?_
        refine r_goto hE 30 dX5_arguments_g2.2.2.2.2.2.2.2.1 (by decide) ?_
        refine r_pick [4, 2, 1, 0] rfl ?_
        exact ih _ _ _ _ h
def wcB_rd_arguments (R : TY_X5_arguments) (post : CS → Int32 → Prop) (σ : CS) (a1 : Int32) : Prop := wc_rd_isSign (fun (s9 : CS) (r10 : Int32) => ((r10 = (0 : Int32)) → (R.2.2.2.1 (fun (s11 : CS) (r12 : Int32) => c_rd_figure s11 = 400 ∧ (wc_sp_hang (fun (s13 : CS) => ∃ k : Nat, wc_rd_arguments_30 R post k s13 r12 (1 : Int32) (0 : Int32)) s11 a1 r12)) s9)) ∧ ((¬ (r10 = (0 : Int32))) → (post s9 (0 : Int32)))) σ (41 : Int32)
set_option maxRecDepth 20000 in
theorem kcB_rd_arguments {R : TY_X5_arguments} {n : Nat} (ih0 : RH_X5_arguments R n) (hn : 6 ≤ n) {l : Launch} {D : va_G} {G : gAd} {post : CS → Int32 → Prop} {σ : CS} {a1 : Int32} (h : wcB_rd_arguments R post σ a1) : cMet l D G yX5_arguments cX5_arguments 6 (some .int) (n + 1) [.ref (G.1 600), .int a1] σ (pI post) := by
  unfold wcB_rd_arguments at h
  refine c_enter (own := RX5) (by decide +kernel) rfl [(0, .ref (G.1 600)), (1, .int a1)] rfl (Nat.le_of_ble_eq_true rfl) ?_
  intro E hE hm hF
  have hN := hm.2.2.2.2.2.2.1
  refine r_aload_n hE 0 dX5_arguments_g0.1 rfl rfl ?_
  refine r_bipush (v := (41 : Int32)) hE dX5_arguments_g0.2.1 (by decide) ?_
  refine c_callVi hE hm [.int (41 : Int32)] [] ck_X5_88 (cr_rd hm rfl) (kc_rd_isSign h) (by omega) rfl rfl (Nat.le_of_ble_eq_true rfl) dX5_arguments_g0.2.2.1 (fun s9 r10 h => ?_)
  refine r_if_eq hE 11 dX5_arguments_g0.2.2.2.1 (by decide) h (fun h => ?_) (fun h => ?_)
  · refine r_aload_n hE 0 dX5_arguments_g0.2.2.2.2.2.2.1 rfl rfl ?_
    refine c_callVi hE hm [] [] ck_X5_177 (cr_rd hm rfl) (ih0.2.2.2.1 _ _ _ _ _ h) (Nat.le_refl _) rfl rfl (Nat.le_of_ble_eq_true rfl) dX5_arguments_g0.2.2.2.2.2.2.2.1 (fun s11 r12 h => ?_)
    refine r_istore_n hE [(2, .int r12), (0, .ref (G.1 600)), (1, .int a1)] dX5_arguments_g0.2.2.2.2.2.2.2.2.1 rfl hN (by decide) rfl ?_
    refine r_aload_n hE 1 dX5_arguments_g0.2.2.2.2.2.2.2.2.2.1 rfl rfl ?_
    obtain ⟨hj, h⟩ := h
    refine cg_rd_figure hE hm fk_X5_36 dX5_arguments_g0.2.2.2.2.2.2.2.2.2.2.1 hj ?_
    refine r_iload_n hE 2 dX5_arguments_g0.2.2.2.2.2.2.2.2.2.2.2.1 rfl rfl ?_
    refine r_iload_n hE 0 dX5_arguments_g0.2.2.2.2.2.2.2.2.2.2.2.2.1 rfl rfl ?_
    refine c_callVv hE hm [.int a1, .int r12] [] ck_X5_180 (cr_sp hm rfl) (kc_sp_hang h) (by omega) rfl rfl (Nat.le_of_ble_eq_true rfl) dX5_arguments_g0.2.2.2.2.2.2.2.2.2.2.2.2.2.1 (fun s13 h => ?_)
    refine r_iconst (v := (1 : Int32)) hE dX5_arguments_g0.2.2.2.2.2.2.2.2.2.2.2.2.2.2.1 (by decide) ?_
    refine r_istore_n hE [(3, .int (1 : Int32)), (2, .int r12), (0, .ref (G.1 600)), (1, .int a1)] dX5_arguments_g0.2.2.2.2.2.2.2.2.2.2.2.2.2.2.2 rfl hN (by decide) rfl ?_
    refine r_iconst (v := (0 : Int32)) hE dX5_arguments_g1.1 (by decide) ?_
    refine r_istore hE [(4, .int (0 : Int32)), (3, .int (1 : Int32)), (2, .int r12), (0, .ref (G.1 600)), (1, .int a1)] dX5_arguments_g1.2.1 hN (by decide) rfl ?_
    refine r_pick [3, 2, 1, 0] rfl ?_
    obtain ⟨k, h⟩ := h
    exact kc_rd_arguments_30 ih0 hn hE hm hF k _ _ _ _ h
  · refine r_iconst (v := (0 : Int32)) hE dX5_arguments_g0.2.2.2.2.1 (by decide) ?_
    exact c_iret hE hm hF dX5_arguments_g0.2.2.2.2.2.1 h
def wc_rd_called_98 (R : TY_X5_arguments) (post : CS → Int32 → Prop) (σ : CS) (v1 : Int32) (v2 : Int32) (v5 : Int32) : Prop := wc_rd_open (fun (s1 : CS) => R.1 (fun (s2 : CS) (r3 : Int32) => wc_rd_close (fun (s4 : CS) => ((r3 = v5) → (post s4 v1)) ∧ ((¬ (r3 = v5)) → (wc_rd_noteFault (fun (s5 : CS) => post s5 v1) s4 (6 : Int32) v2))) s2 (41 : Int32)) s1 v1) σ (40 : Int32)
set_option maxRecDepth 20000 in
theorem kc_rd_called_98  {R : TY_X5_arguments} {n : Nat} (ih0 : RH_X5_arguments R n) (hn : 6 ≤ n) {E : gEnv} {l : Launch} {D : va_G} {G : gAd} {post : CS → Int32 → Prop} (hE : gOK E cX5_called RX5 (some .int) (n + 1)) (hm : cOK E l D G (pI post) 7) (hF : gFin E) (σ : CS) (v1 : Int32) (v2 : Int32) (v5 : Int32) (h : wc_rd_called_98 R post σ v1 v2 v5) : GW E (cW G σ) 98 [(0, .ref (G.1 600)), (1, .int v1), (2, .int v2), (5, .int v5)] [] := by
  unfold wc_rd_called_98 at h
  have hN := hm.2.2.2.2.2.2.1
  refine r_aload_n hE 0 dX5_called_g3.2.1 rfl rfl ?_
  refine r_bipush (v := (40 : Int32)) hE dX5_called_g3.2.2.1 (by decide) ?_
  refine c_callVv hE hm [.int (40 : Int32)] [] ck_X5_156 (cr_rd hm rfl) (kc_rd_open h) (by omega) rfl rfl (Nat.le_of_ble_eq_true rfl) dX5_called_g3.2.2.2.1 (fun s1 h => ?_)
  refine r_aload_n hE 0 dX5_called_g3.2.2.2.2.1 rfl rfl ?_
  refine r_iload_n hE 1 dX5_called_g3.2.2.2.2.2.1 rfl rfl ?_
  refine c_callVi hE hm [.int v1] [] ck_X5_232 (cr_rd hm rfl) (ih0.1 _ _ _ _ _ _ h) (Nat.le_refl _) rfl rfl (Nat.le_of_ble_eq_true rfl) dX5_called_g3.2.2.2.2.2.2.1 (fun s2 r3 h => ?_)
  refine r_istore hE [(6, .int r3), (0, .ref (G.1 600)), (1, .int v1), (2, .int v2), (5, .int v5)] dX5_called_g3.2.2.2.2.2.2.2.1 hN (by decide) rfl ?_
  refine r_aload_n hE 1 dX5_called_g3.2.2.2.2.2.2.2.2.1 rfl rfl ?_
  refine r_bipush (v := (41 : Int32)) hE dX5_called_g3.2.2.2.2.2.2.2.2.2.1 (by decide) ?_
  refine c_callVv hE hm [.int (41 : Int32)] [] ck_X5_159 (cr_rd hm rfl) (kc_rd_close h) (by omega) rfl rfl (Nat.le_of_ble_eq_true rfl) dX5_called_g3.2.2.2.2.2.2.2.2.2.2.1 (fun s4 h => ?_)
  refine r_iload hE 0 dX5_called_g3.2.2.2.2.2.2.2.2.2.2.2.1 rfl ?_
  refine r_iload hE 4 dX5_called_g3.2.2.2.2.2.2.2.2.2.2.2.2.1 rfl ?_
  refine r_icmp_eq hE 131 dX5_called_g3.2.2.2.2.2.2.2.2.2.2.2.2.2.1 (by decide) h (fun h => ?_) (fun h => ?_)
  · refine r_iload_n hE 2 dX5_called_g4.2.2.1 rfl rfl ?_
    exact c_iret hE hm hF dX5_called_g4.2.2.2 h
  · refine r_aload_n hE 1 dX5_called_g3.2.2.2.2.2.2.2.2.2.2.2.2.2.2.1 rfl rfl ?_
    refine r_bipush (v := (6 : Int32)) hE dX5_called_g3.2.2.2.2.2.2.2.2.2.2.2.2.2.2.2 (by decide) ?_
    refine r_iload_n hE 3 dX5_called_g4.1 rfl rfl ?_
    refine c_callVv hE hm [.int (6 : Int32), .int v2] [] ck_X5_71 (cr_rd hm rfl) (kc_rd_noteFault h) (by omega) rfl rfl (Nat.le_of_ble_eq_true rfl) dX5_called_g4.2.1 (fun s5 h => ?_)
    refine r_iload_n hE 2 dX5_called_g4.2.2.1 rfl rfl ?_
    exact c_iret hE hm hF dX5_called_g4.2.2.2 h
def wcB_rd_called (R : TY_X5_arguments) (post : CS → Int32 → Prop) (σ : CS) (a1 : Int32) (a2 : Int32) : Prop := c_rd_figure σ = 400 ∧ (wc_sp_macroNumber (fun (s6 : CS) (r7 : Int32) => c_rd_figure s6 = 400 ∧ (wc_SX5_toolNumber_sp (fun (s8 : CS) (r9 : Int32) => ((r7 = (-1 : Int32)) → (wc_SX12_inside (fun (s10 : CS) (r11 : Int32) => ((r11 = (0 : Int32)) → (wc_rd_noteFault (fun (s12 : CS) => wc_rd_called_98 R post s12 a1 a2 (0 : Int32)) s10 (5 : Int32) a2)) ∧ ((¬ (r11 = (0 : Int32))) → (c_rd_figure s10 = 400 ∧ (wc_sp_become (fun (s13 : CS) => vp_in r9 39 ∧ ((r9.toNatClampNeg) < 39 ∧ ((tWant.getD (r9.toNatClampNeg) 0) < 87 ∧ (wc_sSJ0_length_8abf5 (fun (s14 : CS) (r15 : Int32) => wc_rd_called_98 R post s14 a1 a2 r15) s13 (tWant.getD (r9.toNatClampNeg) 0))))) s10 a1 (10 : Int32) r9)))) s8 r9 (39 : Int32))) ∧ ((¬ (r7 = (-1 : Int32))) → (c_rd_figure s8 = 400 ∧ (wc_sp_become (fun (s16 : CS) => c_rd_figure s16 = 400 ∧ (wc_sp_paramsOf (fun (s17 : CS) (r18 : Int32) => wc_rd_called_98 R post s17 a1 a2 r18) s16 r7)) s8 a1 (11 : Int32) r7)))) s6 a2)) σ a2)
set_option maxRecDepth 20000 in
theorem kcB_rd_called {R : TY_X5_arguments} {n : Nat} (ih0 : RH_X5_arguments R n) (hn : 6 ≤ n) {l : Launch} {D : va_G} {G : gAd} {post : CS → Int32 → Prop} {σ : CS} {a1 : Int32} {a2 : Int32} (h : wcB_rd_called R post σ a1 a2) : cMet l D G yX5_called cX5_called 7 (some .int) (n + 1) [.ref (G.1 600), .int a1, .int a2] σ (pI post) := by
  unfold wcB_rd_called at h
  refine c_enter (own := RX5) (by decide +kernel) rfl [(0, .ref (G.1 600)), (1, .int a1), (2, .int a2)] rfl (Nat.le_of_ble_eq_true rfl) ?_
  intro E hE hm hF
  have hN := hm.2.2.2.2.2.2.1
  refine r_aload_n hE 0 dX5_called_g0.1 rfl rfl ?_
  obtain ⟨hj, h⟩ := h
  refine cg_rd_figure hE hm fk_X5_36 dX5_called_g0.2.1 hj ?_
  refine r_iload_n hE 2 dX5_called_g0.2.2.1 rfl rfl ?_
  refine c_callVi hE hm [.int a2] [] ck_X5_129 (cr_sp hm rfl) (kc_sp_macroNumber h) (by omega) rfl rfl (Nat.le_of_ble_eq_true rfl) dX5_called_g0.2.2.2.1 (fun s6 r7 h => ?_)
  refine r_istore_n hE [(3, .int r7), (0, .ref (G.1 600)), (1, .int a1), (2, .int a2)] dX5_called_g0.2.2.2.2.1 rfl hN (by decide) rfl ?_
  refine r_aload_n hE 1 dX5_called_g0.2.2.2.2.2.1 rfl rfl ?_
  obtain ⟨hj, h⟩ := h
  refine cg_rd_figure hE hm fk_X5_36 dX5_called_g0.2.2.2.2.2.2.1 hj ?_
  refine r_iload_n hE 3 dX5_called_g0.2.2.2.2.2.2.2.1 rfl rfl ?_
  refine c_callSi hE hm [.ref (G.1 400), .int a2] [] ck_X5_125 (kc_SX5_toolNumber_sp h) (by omega) rfl rfl (Nat.le_of_ble_eq_true rfl) dX5_called_g0.2.2.2.2.2.2.2.2.1 (fun s8 r9 h => ?_)
  refine r_istore hE [(4, .int r9), (3, .int r7), (0, .ref (G.1 600)), (1, .int a1), (2, .int a2)] dX5_called_g0.2.2.2.2.2.2.2.2.2.1 hN (by decide) rfl ?_
  refine r_iconst (v := (0 : Int32)) hE dX5_called_g0.2.2.2.2.2.2.2.2.2.2.1 (by decide) ?_
  refine r_istore hE [(5, .int (0 : Int32)), (4, .int r9), (3, .int r7), (0, .ref (G.1 600)), (1, .int a1), (2, .int a2)] dX5_called_g0.2.2.2.2.2.2.2.2.2.2.2.1 hN (by decide) rfl ?_
  refine r_iload_n hE 2 dX5_called_g0.2.2.2.2.2.2.2.2.2.2.2.2.1 rfl rfl ?_
  refine r_iconst (v := (-1 : Int32)) hE dX5_called_g0.2.2.2.2.2.2.2.2.2.2.2.2.2.1 (by decide) ?_
  refine r_icmp_eq hE 51 dX5_called_g0.2.2.2.2.2.2.2.2.2.2.2.2.2.2.1 (by decide) h (fun h => ?_) (fun h => ?_)
  · refine r_iload hE 1 dX5_called_g1.2.2.2.2.2.2.2.2.2.2.2.1 rfl ?_
    refine kz_tools hE hm cw_X5_108 dX5_called_g1.2.2.2.2.2.2.2.2.2.2.2.2.1 ?_
    refine kl_tools hE hm dX5_called_g1.2.2.2.2.2.2.2.2.2.2.2.2.2.1 ?_
    refine c_callSNi hE hm [.int r9, .int (39 : Int32)] [] ck_X5_223 cw_X5_223 (kc_SX12_inside h) (by omega) rfl rfl (Nat.le_of_ble_eq_true rfl) dX5_called_g1.2.2.2.2.2.2.2.2.2.2.2.2.2.2.1 (fun s10 r11 h => ?_)
    refine r_if_eq hE 92 dX5_called_g1.2.2.2.2.2.2.2.2.2.2.2.2.2.2.2 (by decide) h (fun h => ?_) (fun h => ?_)
    · refine r_aload_n hE 3 dX5_called_g2.2.2.2.2.2.2.2.2.2.2.2.2.2.1 rfl rfl ?_
      refine r_iconst (v := (5 : Int32)) hE dX5_called_g2.2.2.2.2.2.2.2.2.2.2.2.2.2.2.1 (by decide) ?_
      refine r_iload_n hE 5 dX5_called_g2.2.2.2.2.2.2.2.2.2.2.2.2.2.2.2 rfl rfl ?_
      refine c_callVv hE hm [.int (5 : Int32), .int a2] [] ck_X5_71 (cr_rd hm rfl) (kc_rd_noteFault h) (by omega) rfl rfl (Nat.le_of_ble_eq_true rfl) dX5_called_g3.1 (fun s12 h => ?_)
      refine r_pick [3, 4, 5, 0] rfl ?_
      exact kc_rd_called_98 ih0 hn hE hm hF _ _ _ _ h
    · refine r_aload_n hE 3 dX5_called_g2.1 rfl rfl ?_
      obtain ⟨hj, h⟩ := h
      refine cg_rd_figure hE hm fk_X5_36 dX5_called_g2.2.1 hj ?_
      refine r_iload_n hE 4 dX5_called_g2.2.2.1 rfl rfl ?_
      refine r_bipush (v := (10 : Int32)) hE dX5_called_g2.2.2.2.1 (by decide) ?_
      refine r_iload hE 1 dX5_called_g2.2.2.2.2.1 rfl ?_
      refine c_callVv hE hm [.int a1, .int (10 : Int32), .int r9] [] ck_X5_192 (cr_sp hm rfl) (kc_sp_become h) (by omega) rfl rfl (Nat.le_of_ble_eq_true rfl) dX5_called_g2.2.2.2.2.2.1 (fun s13 h => ?_)
      refine kz_tools hE hm cw_X5_108 dX5_called_g2.2.2.2.2.2.2.1 ?_
      refine r_iload hE 1 dX5_called_g2.2.2.2.2.2.2.2.1 rfl ?_
      obtain ⟨hi, h⟩ := h
      refine ka_tools hE hm hi dX5_called_g2.2.2.2.2.2.2.2.2.1 ?_
      obtain ⟨hx, h⟩ := h
      refine kt_wants hE hm hx fk_X5_227 dX5_called_g2.2.2.2.2.2.2.2.2.2.1 ?_
      obtain ⟨hx, h⟩ := h
      refine c_callKi hE hm [] [] ck_X5_230 ((c_z hE hm).2.2.1 _ hx).1 (kc_sSJ0_length_8abf5 h) (by omega) rfl rfl (Nat.le_of_ble_eq_true rfl) dX5_called_g2.2.2.2.2.2.2.2.2.2.2.1 (fun s14 r15 h => ?_)
      refine r_istore hE [(5, .int r15), (4, .int r9), (3, .int r7), (0, .ref (G.1 600)), (1, .int a1), (2, .int a2)] dX5_called_g2.2.2.2.2.2.2.2.2.2.2.2.1 hN (by decide) rfl ?_
      refine r_goto hE 98 dX5_called_g2.2.2.2.2.2.2.2.2.2.2.2.2.1 (by decide) ?_
      refine r_pick [3, 4, 5, 0] rfl ?_
      exact kc_rd_called_98 ih0 hn hE hm hF _ _ _ _ h
  · refine r_aload_n hE 3 dX5_called_g0.2.2.2.2.2.2.2.2.2.2.2.2.2.2.2 rfl rfl ?_
    obtain ⟨hj, h⟩ := h
    refine cg_rd_figure hE hm fk_X5_36 dX5_called_g1.1 hj ?_
    refine r_iload_n hE 4 dX5_called_g1.2.1 rfl rfl ?_
    refine r_bipush (v := (11 : Int32)) hE dX5_called_g1.2.2.1 (by decide) ?_
    refine r_iload_n hE 2 dX5_called_g1.2.2.2.1 rfl rfl ?_
    refine c_callVv hE hm [.int a1, .int (11 : Int32), .int r7] [] ck_X5_192 (cr_sp hm rfl) (kc_sp_become h) (by omega) rfl rfl (Nat.le_of_ble_eq_true rfl) dX5_called_g1.2.2.2.2.1 (fun s16 h => ?_)
    refine r_aload_n hE 3 dX5_called_g1.2.2.2.2.2.1 rfl rfl ?_
    obtain ⟨hj, h⟩ := h
    refine cg_rd_figure hE hm fk_X5_36 dX5_called_g1.2.2.2.2.2.2.1 hj ?_
    refine r_iload_n hE 2 dX5_called_g1.2.2.2.2.2.2.2.1 rfl rfl ?_
    refine c_callVi hE hm [.int r7] [] ck_X5_220 (cr_sp hm rfl) (kc_sp_paramsOf h) (by omega) rfl rfl (Nat.le_of_ble_eq_true rfl) dX5_called_g1.2.2.2.2.2.2.2.2.1 (fun s17 r18 h => ?_)
    refine r_istore hE [(5, .int r18), (4, .int r9), (3, .int r7), (0, .ref (G.1 600)), (1, .int a1), (2, .int a2)] dX5_called_g1.2.2.2.2.2.2.2.2.2.1 hN (by decide) rfl ?_
    refine r_goto hE 98 dX5_called_g1.2.2.2.2.2.2.2.2.2.2.1 (by decide) ?_
    refine r_pick [3, 4, 5, 0] rfl ?_
    exact kc_rd_called_98 ih0 hn hE hm hF _ _ _ _ h
def wcB_rd_core (R : TY_X5_arguments) (post : CS → Int32 → Prop) (σ : CS) : Prop := wc_rd_isSign (fun (s1 : CS) (r2 : Int32) => ((r2 = (0 : Int32)) → (((¬ ((c_rd_kind s1) = (3 : Int32))) → (wc_rd_isName (fun (s3 : CS) (r4 : Int32) => ((¬ (r4 = (0 : Int32))) → (R.2.2.2.2.2.1 (fun (s5 : CS) (r6 : Int32) => post s5 r6) s3)) ∧ ((r4 = (0 : Int32)) → (wc_rd_misplaced (fun (s7 : CS) (r8 : Int32) => wc_rd_noteFault (fun (s9 : CS) => post s9 (-1 : Int32)) s7 r8 (c_rd_at s7)) s3))) s1)) ∧ (((c_rd_kind s1) = (3 : Int32)) → (wc_rd_digitsValue (fun (s10 : CS) (r11 : Int32) => wc_rd_newNode (fun (s12 : CS) (r13 : Int32) => wc_rd_next (fun (s14 : CS) => post s14 r13) s12) s10 (7 : Int32) r11) s1)))) ∧ ((¬ (r2 = (0 : Int32))) → (wc_rd_open (fun (s15 : CS) => R.2.2.2.1 (fun (s16 : CS) (r17 : Int32) => wc_rd_close (fun (s18 : CS) => post s18 r17) s16 (41 : Int32)) s15) s1 (40 : Int32)))) σ (40 : Int32)
set_option maxRecDepth 20000 in
theorem kcB_rd_core {R : TY_X5_arguments} {n : Nat} (ih0 : RH_X5_arguments R n) (hn : 6 ≤ n) {l : Launch} {D : va_G} {G : gAd} {post : CS → Int32 → Prop} {σ : CS} (h : wcB_rd_core R post σ) : cMet l D G yX5_core cX5_core 2 (some .int) (n + 1) [.ref (G.1 600)] σ (pI post) := by
  unfold wcB_rd_core at h
  refine c_enter (own := RX5) (by decide +kernel) rfl [(0, .ref (G.1 600))] rfl (Nat.le_of_ble_eq_true rfl) ?_
  intro E hE hm hF
  have hN := hm.2.2.2.2.2.2.1
  refine r_aload_n hE 0 dX5_core_g0.1 rfl rfl ?_
  refine r_bipush (v := (40 : Int32)) hE dX5_core_g0.2.1 (by decide) ?_
  refine c_callVi hE hm [.int (40 : Int32)] [] ck_X5_88 (cr_rd hm rfl) (kc_rd_isSign h) (by omega) rfl rfl (Nat.le_of_ble_eq_true rfl) dX5_core_g0.2.2.1 (fun s1 r2 h => ?_)
  refine r_if_eq hE 28 dX5_core_g0.2.2.2.1 (by decide) h (fun h => ?_) (fun h => ?_)
  · refine r_aload_n hE 0 dX5_core_g0.2.2.2.2.2.2.2.2.2.2.2.2.2.2.2 rfl rfl ?_
    refine cg_rd_kind hE hm fk_X5_18 dX5_core_g1.1 ?_
    refine r_iconst (v := (3 : Int32)) hE dX5_core_g1.2.1 (by decide) ?_
    refine r_icmp_ne hE 53 dX5_core_g1.2.2.1 (by decide) h (fun h => ?_) (fun h => ?_)
    · refine r_aload_n hE 0 dX5_core_g1.2.2.2.2.2.2.2.2.2.2.2.2.2.1 rfl rfl ?_
      refine c_callVi hE hm [] [] ck_X5_118 (cr_rd hm rfl) (kc_rd_isName h) (by omega) rfl rfl (Nat.le_of_ble_eq_true rfl) dX5_core_g1.2.2.2.2.2.2.2.2.2.2.2.2.2.2.1 (fun s3 r4 h => ?_)
      refine r_if_ne hE 74 dX5_core_g1.2.2.2.2.2.2.2.2.2.2.2.2.2.2.2 (by decide) h (fun h => ?_) (fun h => ?_)
      · refine r_aload_n hE 0 dX5_core_g2.2.2.2.2.2.2.2.2.1 rfl rfl ?_
        refine c_callVi hE hm [] [] ck_X5_214 (cr_rd hm rfl) (ih0.2.2.2.2.2.1 _ _ _ _ _ h) (Nat.le_refl _) rfl rfl (Nat.le_of_ble_eq_true rfl) dX5_core_g2.2.2.2.2.2.2.2.2.2.1 (fun s5 r6 h => ?_)
        exact c_iret hE hm hF dX5_core_g2.2.2.2.2.2.2.2.2.2.2 h
      · refine r_aload_n hE 0 dX5_core_g2.1 rfl rfl ?_
        refine r_aload_n hE 0 dX5_core_g2.2.1 rfl rfl ?_
        refine c_callVi hE hm [] [.ref (G.1 600)] ck_X5_68 (cr_rd hm rfl) (kc_rd_misplaced h) (by omega) rfl rfl (Nat.le_of_ble_eq_true rfl) dX5_core_g2.2.2.1 (fun s7 r8 h => ?_)
        refine r_aload_n hE 0 dX5_core_g2.2.2.2.1 rfl rfl ?_
        refine cg_rd_at hE hm fk_X5_9 dX5_core_g2.2.2.2.2.1 ?_
        refine c_callVv hE hm [.int r8, .int (c_rd_at s7)] [] ck_X5_71 (cr_rd hm rfl) (kc_rd_noteFault h) (by omega) rfl rfl (Nat.le_of_ble_eq_true rfl) dX5_core_g2.2.2.2.2.2.1 (fun s9 h => ?_)
        refine r_iconst (v := (-1 : Int32)) hE dX5_core_g2.2.2.2.2.2.2.1 (by decide) ?_
        exact c_iret hE hm hF dX5_core_g2.2.2.2.2.2.2.2.1 h
    · refine r_aload_n hE 0 dX5_core_g1.2.2.2.1 rfl rfl ?_
      refine r_bipush (v := (7 : Int32)) hE dX5_core_g1.2.2.2.2.1 (by decide) ?_
      refine r_aload_n hE 0 dX5_core_g1.2.2.2.2.2.1 rfl rfl ?_
      refine c_callVi hE hm [] [.int (7 : Int32), .ref (G.1 600)] ck_X5_211 (cr_rd hm rfl) (kc_rd_digitsValue h) (by omega) rfl rfl (Nat.le_of_ble_eq_true rfl) dX5_core_g1.2.2.2.2.2.2.1 (fun s10 r11 h => ?_)
      refine c_callVi hE hm [.int (7 : Int32), .int r11] [] ck_X5_174 (cr_rd hm rfl) (kc_rd_newNode h) (by omega) rfl rfl (Nat.le_of_ble_eq_true rfl) dX5_core_g1.2.2.2.2.2.2.2.1 (fun s12 r13 h => ?_)
      refine r_istore_n hE [(1, .int r13), (0, .ref (G.1 600))] dX5_core_g1.2.2.2.2.2.2.2.2.1 rfl hN (by decide) rfl ?_
      refine r_aload_n hE 1 dX5_core_g1.2.2.2.2.2.2.2.2.2.1 rfl rfl ?_
      refine c_callVv hE hm [] [] ck_X5_40 (cr_rd hm rfl) (kc_rd_next h) (by omega) rfl rfl (Nat.le_of_ble_eq_true rfl) dX5_core_g1.2.2.2.2.2.2.2.2.2.2.1 (fun s14 h => ?_)
      refine r_iload_n hE 0 dX5_core_g1.2.2.2.2.2.2.2.2.2.2.2.1 rfl rfl ?_
      exact c_iret hE hm hF dX5_core_g1.2.2.2.2.2.2.2.2.2.2.2.2.1 h
  · refine r_aload_n hE 0 dX5_core_g0.2.2.2.2.1 rfl rfl ?_
    refine r_bipush (v := (40 : Int32)) hE dX5_core_g0.2.2.2.2.2.1 (by decide) ?_
    refine c_callVv hE hm [.int (40 : Int32)] [] ck_X5_156 (cr_rd hm rfl) (kc_rd_open h) (by omega) rfl rfl (Nat.le_of_ble_eq_true rfl) dX5_core_g0.2.2.2.2.2.2.1 (fun s15 h => ?_)
    refine r_aload_n hE 0 dX5_core_g0.2.2.2.2.2.2.2.1 rfl rfl ?_
    refine c_callVi hE hm [] [] ck_X5_177 (cr_rd hm rfl) (ih0.2.2.2.1 _ _ _ _ _ h) (Nat.le_refl _) rfl rfl (Nat.le_of_ble_eq_true rfl) dX5_core_g0.2.2.2.2.2.2.2.2.1 (fun s16 r17 h => ?_)
    refine r_istore_n hE [(1, .int r17), (0, .ref (G.1 600))] dX5_core_g0.2.2.2.2.2.2.2.2.2.1 rfl hN (by decide) rfl ?_
    refine r_aload_n hE 1 dX5_core_g0.2.2.2.2.2.2.2.2.2.2.1 rfl rfl ?_
    refine r_bipush (v := (41 : Int32)) hE dX5_core_g0.2.2.2.2.2.2.2.2.2.2.2.1 (by decide) ?_
    refine c_callVv hE hm [.int (41 : Int32)] [] ck_X5_159 (cr_rd hm rfl) (kc_rd_close h) (by omega) rfl rfl (Nat.le_of_ble_eq_true rfl) dX5_core_g0.2.2.2.2.2.2.2.2.2.2.2.2.1 (fun s18 h => ?_)
    refine r_iload_n hE 0 dX5_core_g0.2.2.2.2.2.2.2.2.2.2.2.2.2.1 rfl rfl ?_
    exact c_iret hE hm hF dX5_core_g0.2.2.2.2.2.2.2.2.2.2.2.2.2.2.1 h
def wc_rd_exp_23 (R : TY_X5_arguments) (post : CS → Int32 → Prop) (σ : CS) (v1 : Int32) : Prop := R.2.2.2.2.1 (fun (s1 : CS) (r2 : Int32) => post s1 r2) σ v1 (1 : Int32)
set_option maxRecDepth 20000 in
theorem kc_rd_exp_23  {R : TY_X5_arguments} {n : Nat} (ih0 : RH_X5_arguments R n) (hn : 6 ≤ n) {E : gEnv} {l : Launch} {D : va_G} {G : gAd} {post : CS → Int32 → Prop} (hE : gOK E cX5_exp RX5 (some .int) (n + 1)) (hm : cOK E l D G (pI post) 2) (hF : gFin E) (σ : CS) (v1 : Int32) (h : wc_rd_exp_23 R post σ v1) : GW E (cW G σ) 23 [(0, .ref (G.1 600)), (1, .int v1)] [] := by
  unfold wc_rd_exp_23 at h
  have hN := hm.2.2.2.2.2.2.1
  refine r_aload_n hE 0 dX5_exp_g0.2.2.2.2.2.2.2.2.2.2.2.1 rfl rfl ?_
  refine r_iload_n hE 1 dX5_exp_g0.2.2.2.2.2.2.2.2.2.2.2.2.1 rfl rfl ?_
  refine r_iconst (v := (1 : Int32)) hE dX5_exp_g0.2.2.2.2.2.2.2.2.2.2.2.2.2.1 (by decide) ?_
  refine c_callVi hE hm [.int v1, .int (1 : Int32)] [] ck_X5_199 (cr_rd hm rfl) (ih0.2.2.2.2.1 _ _ _ _ _ _ _ h) (Nat.le_refl _) rfl rfl (Nat.le_of_ble_eq_true rfl) dX5_exp_g0.2.2.2.2.2.2.2.2.2.2.2.2.2.2.1 (fun s1 r2 h => ?_)
  refine r_goto hE 33 dX5_exp_g0.2.2.2.2.2.2.2.2.2.2.2.2.2.2.2 (by decide) ?_
  exact c_iret hE hm hF dX5_exp_g1.2 h
def wcB_rd_exp (R : TY_X5_arguments) (post : CS → Int32 → Prop) (σ : CS) : Prop := R.2.2.2.2.2.2.2.1 (fun (s3 : CS) (r4 : Int32) => wc_rd_isSign (fun (s5 : CS) (r6 : Int32) => ((¬ (r6 = (0 : Int32))) → (wc_rd_exp_23 R post s5 r4)) ∧ ((r6 = (0 : Int32)) → (wc_rd_isSign (fun (s7 : CS) (r8 : Int32) => ((r8 = (0 : Int32)) → (post s7 r4)) ∧ ((¬ (r8 = (0 : Int32))) → (wc_rd_exp_23 R post s7 r4))) s5 (60 : Int32)))) s3 (61 : Int32)) σ
set_option maxRecDepth 20000 in
theorem kcB_rd_exp {R : TY_X5_arguments} {n : Nat} (ih0 : RH_X5_arguments R n) (hn : 6 ≤ n) {l : Launch} {D : va_G} {G : gAd} {post : CS → Int32 → Prop} {σ : CS} (h : wcB_rd_exp R post σ) : cMet l D G yX5_exp cX5_exp 2 (some .int) (n + 1) [.ref (G.1 600)] σ (pI post) := by
  unfold wcB_rd_exp at h
  refine c_enter (own := RX5) (by decide +kernel) rfl [(0, .ref (G.1 600))] rfl (Nat.le_of_ble_eq_true rfl) ?_
  intro E hE hm hF
  have hN := hm.2.2.2.2.2.2.1
  refine r_aload_n hE 0 dX5_exp_g0.1 rfl rfl ?_
  refine c_callVi hE hm [] [] ck_X5_196 (cr_rd hm rfl) (ih0.2.2.2.2.2.2.2.1 _ _ _ _ _ h) (Nat.le_refl _) rfl rfl (Nat.le_of_ble_eq_true rfl) dX5_exp_g0.2.1 (fun s3 r4 h => ?_)
  refine r_istore_n hE [(1, .int r4), (0, .ref (G.1 600))] dX5_exp_g0.2.2.1 rfl hN (by decide) rfl ?_
  refine r_aload_n hE 1 dX5_exp_g0.2.2.2.1 rfl rfl ?_
  refine r_bipush (v := (61 : Int32)) hE dX5_exp_g0.2.2.2.2.1 (by decide) ?_
  refine c_callVi hE hm [.int (61 : Int32)] [] ck_X5_88 (cr_rd hm rfl) (kc_rd_isSign h) (by omega) rfl rfl (Nat.le_of_ble_eq_true rfl) dX5_exp_g0.2.2.2.2.2.1 (fun s5 r6 h => ?_)
  refine r_if_ne hE 23 dX5_exp_g0.2.2.2.2.2.2.1 (by decide) h (fun h => ?_) (fun h => ?_)
  · refine r_pick [1, 0] rfl ?_
    exact kc_rd_exp_23 ih0 hn hE hm hF _ _ h
  · refine r_aload_n hE 1 dX5_exp_g0.2.2.2.2.2.2.2.1 rfl rfl ?_
    refine r_bipush (v := (60 : Int32)) hE dX5_exp_g0.2.2.2.2.2.2.2.2.1 (by decide) ?_
    refine c_callVi hE hm [.int (60 : Int32)] [] ck_X5_88 (cr_rd hm rfl) (kc_rd_isSign h) (by omega) rfl rfl (Nat.le_of_ble_eq_true rfl) dX5_exp_g0.2.2.2.2.2.2.2.2.2.1 (fun s7 r8 h => ?_)
    refine r_if_eq hE 32 dX5_exp_g0.2.2.2.2.2.2.2.2.2.2.1 (by decide) h (fun h => ?_) (fun h => ?_)
    · refine r_iload_n hE 0 dX5_exp_g1.1 rfl rfl ?_
      exact c_iret hE hm hF dX5_exp_g1.2 h
    · refine r_pick [1, 0] rfl ?_
      exact kc_rd_exp_23 ih0 hn hE hm hF _ _ h
def wc_rd_joined_57 (R : TY_X5_arguments) (post : CS → Int32 → Prop) (σ : CS) (v3 : Int32) (t1 : Int32) (t2 : Int32) : Prop := wc_sp_follow (fun (s1 : CS) => post s1 v3) σ t1 t2
set_option maxRecDepth 20000 in
theorem kc_rd_joined_57  {R : TY_X5_arguments} {n : Nat} (ih0 : RH_X5_arguments R n) (hn : 6 ≤ n) {E : gEnv} {l : Launch} {D : va_G} {G : gAd} {post : CS → Int32 → Prop} (hE : gOK E cX5_joined RX5 (some .int) (n + 1)) (hm : cOK E l D G (pI post) 4) (hF : gFin E) (σ : CS) (v3 : Int32) (t1 : Int32) (t2 : Int32) (h : wc_rd_joined_57 R post σ v3 t1 t2) : GW E (cW G σ) 57 [(3, .int v3)] [.int t2, .int t1, .ref (G.1 400)] := by
  unfold wc_rd_joined_57 at h
  have hN := hm.2.2.2.2.2.2.1
  refine c_callVv hE hm [.int t1, .int t2] [] ck_X5_165 (cr_sp hm rfl) (kc_sp_follow h) (by omega) rfl rfl (Nat.le_of_ble_eq_true rfl) dX5_joined_g1.2.2.2.2.2.2.2.2.2.2.2.2.2.2.1 (fun s1 h => ?_)
  refine r_iload_n hE 0 dX5_joined_g1.2.2.2.2.2.2.2.2.2.2.2.2.2.2.2 rfl rfl ?_
  exact c_iret hE hm hF dX5_joined_g2 h
def wcB_rd_joined (R : TY_X5_arguments) (post : CS → Int32 → Prop) (σ : CS) (a1 : Int32) (a2 : Int32) : Prop := wc_rd_newNode (fun (s2 : CS) (r3 : Int32) => wc_rd_next (fun (s4 : CS) => c_rd_figure s4 = 400 ∧ (wc_sp_hang (fun (s5 : CS) => c_rd_figure s5 = 400 ∧ (((¬ (a2 = (1 : Int32))) → (((¬ (a2 = (2 : Int32))) → (R.2.2.2.2.2.2.1 (fun (s6 : CS) (r7 : Int32) => wc_rd_joined_57 R post s6 r3 a1 r7) s5)) ∧ ((a2 = (2 : Int32)) → (R.2.2.2.2.2.2.2.2 (fun (s8 : CS) (r9 : Int32) => wc_rd_joined_57 R post s8 r3 a1 r9) s5)))) ∧ ((a2 = (1 : Int32)) → (R.2.2.2.2.2.2.2.1 (fun (s10 : CS) (r11 : Int32) => wc_rd_joined_57 R post s10 r3 a1 r11) s5)))) s4 r3 a1)) s2) σ (13 : Int32) (c_rd_sign σ)
set_option maxRecDepth 20000 in
theorem kcB_rd_joined {R : TY_X5_arguments} {n : Nat} (ih0 : RH_X5_arguments R n) (hn : 6 ≤ n) {l : Launch} {D : va_G} {G : gAd} {post : CS → Int32 → Prop} {σ : CS} {a1 : Int32} {a2 : Int32} (h : wcB_rd_joined R post σ a1 a2) : cMet l D G yX5_joined cX5_joined 4 (some .int) (n + 1) [.ref (G.1 600), .int a1, .int a2] σ (pI post) := by
  unfold wcB_rd_joined at h
  refine c_enter (own := RX5) (by decide +kernel) rfl [(0, .ref (G.1 600)), (1, .int a1), (2, .int a2)] rfl (Nat.le_of_ble_eq_true rfl) ?_
  intro E hE hm hF
  have hN := hm.2.2.2.2.2.2.1
  refine r_aload_n hE 0 dX5_joined_g0.1 rfl rfl ?_
  refine r_bipush (v := (13 : Int32)) hE dX5_joined_g0.2.1 (by decide) ?_
  refine r_aload_n hE 0 dX5_joined_g0.2.2.1 rfl rfl ?_
  refine cg_rd_sign hE hm fk_X5_21 dX5_joined_g0.2.2.2.1 ?_
  refine c_callVi hE hm [.int (13 : Int32), .int (c_rd_sign σ)] [] ck_X5_174 (cr_rd hm rfl) (kc_rd_newNode h) (by omega) rfl rfl (Nat.le_of_ble_eq_true rfl) dX5_joined_g0.2.2.2.2.1 (fun s2 r3 h => ?_)
  refine r_istore_n hE [(3, .int r3), (0, .ref (G.1 600)), (1, .int a1), (2, .int a2)] dX5_joined_g0.2.2.2.2.2.1 rfl hN (by decide) rfl ?_
  refine r_aload_n hE 1 dX5_joined_g0.2.2.2.2.2.2.1 rfl rfl ?_
  refine c_callVv hE hm [] [] ck_X5_40 (cr_rd hm rfl) (kc_rd_next h) (by omega) rfl rfl (Nat.le_of_ble_eq_true rfl) dX5_joined_g0.2.2.2.2.2.2.2.1 (fun s4 h => ?_)
  refine r_aload_n hE 1 dX5_joined_g0.2.2.2.2.2.2.2.2.1 rfl rfl ?_
  obtain ⟨hj, h⟩ := h
  refine cg_rd_figure hE hm fk_X5_36 dX5_joined_g0.2.2.2.2.2.2.2.2.2.1 hj ?_
  refine r_iload_n hE 0 dX5_joined_g0.2.2.2.2.2.2.2.2.2.2.1 rfl rfl ?_
  refine r_iload_n hE 2 dX5_joined_g0.2.2.2.2.2.2.2.2.2.2.2.1 rfl rfl ?_
  refine c_callVv hE hm [.int r3, .int a1] [] ck_X5_180 (cr_sp hm rfl) (kc_sp_hang h) (by omega) rfl rfl (Nat.le_of_ble_eq_true rfl) dX5_joined_g0.2.2.2.2.2.2.2.2.2.2.2.2.1 (fun s5 h => ?_)
  refine r_aload_n hE 1 dX5_joined_g0.2.2.2.2.2.2.2.2.2.2.2.2.2.1 rfl rfl ?_
  obtain ⟨hj, h⟩ := h
  refine cg_rd_figure hE hm fk_X5_36 dX5_joined_g0.2.2.2.2.2.2.2.2.2.2.2.2.2.2.1 hj ?_
  refine r_iload_n hE 2 dX5_joined_g0.2.2.2.2.2.2.2.2.2.2.2.2.2.2.2 rfl rfl ?_
  refine r_iload_n hE 3 dX5_joined_g1.1 rfl rfl ?_
  refine r_iconst (v := (1 : Int32)) hE dX5_joined_g1.2.1 (by decide) ?_
  refine r_icmp_ne hE 41 dX5_joined_g1.2.2.1 (by decide) h (fun h => ?_) (fun h => ?_)
  · refine r_iload_n hE 3 dX5_joined_g1.2.2.2.2.2.2.1 rfl rfl ?_
    refine r_iconst (v := (2 : Int32)) hE dX5_joined_g1.2.2.2.2.2.2.2.1 (by decide) ?_
    refine r_icmp_ne hE 53 dX5_joined_g1.2.2.2.2.2.2.2.2.1 (by decide) h (fun h => ?_) (fun h => ?_)
    · refine r_aload_n hE 1 dX5_joined_g1.2.2.2.2.2.2.2.2.2.2.2.2.1 rfl rfl ?_
      refine c_callVi hE hm [] [.int a1, .ref (G.1 400)] ck_X5_205 (cr_rd hm rfl) (ih0.2.2.2.2.2.2.1 _ _ _ _ _ h) (Nat.le_refl _) rfl rfl (Nat.le_of_ble_eq_true rfl) dX5_joined_g1.2.2.2.2.2.2.2.2.2.2.2.2.2.1 (fun s6 r7 h => ?_)
      refine r_pick [0] rfl ?_
      exact kc_rd_joined_57 ih0 hn hE hm hF _ _ _ _ h
    · refine r_aload_n hE 1 dX5_joined_g1.2.2.2.2.2.2.2.2.2.1 rfl rfl ?_
      refine c_callVi hE hm [] [.int a1, .ref (G.1 400)] ck_X5_202 (cr_rd hm rfl) (ih0.2.2.2.2.2.2.2.2 _ _ _ _ _ h) (Nat.le_refl _) rfl rfl (Nat.le_of_ble_eq_true rfl) dX5_joined_g1.2.2.2.2.2.2.2.2.2.2.1 (fun s8 r9 h => ?_)
      refine r_goto hE 57 dX5_joined_g1.2.2.2.2.2.2.2.2.2.2.2.1 (by decide) ?_
      refine r_pick [0] rfl ?_
      exact kc_rd_joined_57 ih0 hn hE hm hF _ _ _ _ h
  · refine r_aload_n hE 1 dX5_joined_g1.2.2.2.1 rfl rfl ?_
    refine c_callVi hE hm [] [.int a1, .ref (G.1 400)] ck_X5_196 (cr_rd hm rfl) (ih0.2.2.2.2.2.2.2.1 _ _ _ _ _ h) (Nat.le_refl _) rfl rfl (Nat.le_of_ble_eq_true rfl) dX5_joined_g1.2.2.2.2.1 (fun s10 r11 h => ?_)
    refine r_goto hE 57 dX5_joined_g1.2.2.2.2.2.1 (by decide) ?_
    refine r_pick [0] rfl ?_
    exact kc_rd_joined_57 ih0 hn hE hm hF _ _ _ _ h
def wc_rd_named_57 (R : TY_X5_arguments) (post : CS → Int32 → Prop) (σ : CS) (v2 : Int32) (v3 : Int32) : Prop := c_rd_figure σ = 400 ∧ (wc_sp_become (fun (s1 : CS) => wc_rd_isSign (fun (s2 : CS) (r3 : Int32) => ((r3 = (0 : Int32)) → (post s2 v2)) ∧ ((¬ (r3 = (0 : Int32))) → (c_rd_figure s2 = 400 ∧ (wc_sp_become (fun (s4 : CS) => wc_rd_open (fun (s5 : CS) => c_rd_figure s5 = 400 ∧ (R.2.2.2.1 (fun (s6 : CS) (r7 : Int32) => wc_sp_hang (fun (s8 : CS) => wc_rd_close (fun (s9 : CS) => post s9 v2) s8 (93 : Int32)) s6 v2 r7) s5)) s4 (91 : Int32)) s2 v2 (9 : Int32) v3)))) s1 (91 : Int32)) σ v2 (8 : Int32) v3)
set_option maxRecDepth 20000 in
theorem kc_rd_named_57  {R : TY_X5_arguments} {n : Nat} (ih0 : RH_X5_arguments R n) (hn : 6 ≤ n) {E : gEnv} {l : Launch} {D : va_G} {G : gAd} {post : CS → Int32 → Prop} (hE : gOK E cX5_named RX5 (some .int) (n + 1)) (hm : cOK E l D G (pI post) 4) (hF : gFin E) (σ : CS) (v2 : Int32) (v3 : Int32) (h : wc_rd_named_57 R post σ v2 v3) : GW E (cW G σ) 57 [(0, .ref (G.1 600)), (2, .int v2), (3, .int v3)] [] := by
  unfold wc_rd_named_57 at h
  have hN := hm.2.2.2.2.2.2.1
  refine r_aload_n hE 0 dX5_named_g2.2.1 rfl rfl ?_
  obtain ⟨hj, h⟩ := h
  refine cg_rd_figure hE hm fk_X5_36 dX5_named_g2.2.2.1 hj ?_
  refine r_iload_n hE 1 dX5_named_g2.2.2.2.1 rfl rfl ?_
  refine r_bipush (v := (8 : Int32)) hE dX5_named_g2.2.2.2.2.1 (by decide) ?_
  refine r_iload_n hE 2 dX5_named_g2.2.2.2.2.2.1 rfl rfl ?_
  refine c_callVv hE hm [.int v2, .int (8 : Int32), .int v3] [] ck_X5_192 (cr_sp hm rfl) (kc_sp_become h) (by omega) rfl rfl (Nat.le_of_ble_eq_true rfl) dX5_named_g2.2.2.2.2.2.2.1 (fun s1 h => ?_)
  refine r_aload_n hE 0 dX5_named_g2.2.2.2.2.2.2.2.1 rfl rfl ?_
  refine r_bipush (v := (91 : Int32)) hE dX5_named_g2.2.2.2.2.2.2.2.2.1 (by decide) ?_
  refine c_callVi hE hm [.int (91 : Int32)] [] ck_X5_88 (cr_rd hm rfl) (kc_rd_isSign h) (by omega) rfl rfl (Nat.le_of_ble_eq_true rfl) dX5_named_g2.2.2.2.2.2.2.2.2.2.1 (fun s2 r3 h => ?_)
  refine r_if_eq hE 112 dX5_named_g2.2.2.2.2.2.2.2.2.2.2.1 (by decide) h (fun h => ?_) (fun h => ?_)
  · refine r_iload_n hE 1 dX5_named_g3.2.2.2.2.2.2.2.2.2.2.2.2.2.1 rfl rfl ?_
    exact c_iret hE hm hF dX5_named_g3.2.2.2.2.2.2.2.2.2.2.2.2.2.2 h
  · refine r_aload_n hE 0 dX5_named_g2.2.2.2.2.2.2.2.2.2.2.2.1 rfl rfl ?_
    obtain ⟨hj, h⟩ := h
    refine cg_rd_figure hE hm fk_X5_36 dX5_named_g2.2.2.2.2.2.2.2.2.2.2.2.2.1 hj ?_
    refine r_iload_n hE 1 dX5_named_g2.2.2.2.2.2.2.2.2.2.2.2.2.2.1 rfl rfl ?_
    refine r_bipush (v := (9 : Int32)) hE dX5_named_g2.2.2.2.2.2.2.2.2.2.2.2.2.2.2.1 (by decide) ?_
    refine r_iload_n hE 2 dX5_named_g2.2.2.2.2.2.2.2.2.2.2.2.2.2.2.2 rfl rfl ?_
    refine c_callVv hE hm [.int v2, .int (9 : Int32), .int v3] [] ck_X5_192 (cr_sp hm rfl) (kc_sp_become h) (by omega) rfl rfl (Nat.le_of_ble_eq_true rfl) dX5_named_g3.1 (fun s4 h => ?_)
    refine r_aload_n hE 0 dX5_named_g3.2.1 rfl rfl ?_
    refine r_bipush (v := (91 : Int32)) hE dX5_named_g3.2.2.1 (by decide) ?_
    refine c_callVv hE hm [.int (91 : Int32)] [] ck_X5_156 (cr_rd hm rfl) (kc_rd_open h) (by omega) rfl rfl (Nat.le_of_ble_eq_true rfl) dX5_named_g3.2.2.2.1 (fun s5 h => ?_)
    refine r_aload_n hE 0 dX5_named_g3.2.2.2.2.1 rfl rfl ?_
    obtain ⟨hj, h⟩ := h
    refine cg_rd_figure hE hm fk_X5_36 dX5_named_g3.2.2.2.2.2.1 hj ?_
    refine r_iload_n hE 1 dX5_named_g3.2.2.2.2.2.2.1 rfl rfl ?_
    refine r_aload_n hE 0 dX5_named_g3.2.2.2.2.2.2.2.1 rfl rfl ?_
    refine c_callVi hE hm [] [.int v2, .ref (G.1 400)] ck_X5_177 (cr_rd hm rfl) (ih0.2.2.2.1 _ _ _ _ _ h) (Nat.le_refl _) rfl rfl (Nat.le_of_ble_eq_true rfl) dX5_named_g3.2.2.2.2.2.2.2.2.1 (fun s6 r7 h => ?_)
    refine c_callVv hE hm [.int v2, .int r7] [] ck_X5_180 (cr_sp hm rfl) (kc_sp_hang h) (by omega) rfl rfl (Nat.le_of_ble_eq_true rfl) dX5_named_g3.2.2.2.2.2.2.2.2.2.1 (fun s8 h => ?_)
    refine r_aload_n hE 0 dX5_named_g3.2.2.2.2.2.2.2.2.2.2.1 rfl rfl ?_
    refine r_bipush (v := (93 : Int32)) hE dX5_named_g3.2.2.2.2.2.2.2.2.2.2.2.1 (by decide) ?_
    refine c_callVv hE hm [.int (93 : Int32)] [] ck_X5_159 (cr_rd hm rfl) (kc_rd_close h) (by omega) rfl rfl (Nat.le_of_ble_eq_true rfl) dX5_named_g3.2.2.2.2.2.2.2.2.2.2.2.2.1 (fun s9 h => ?_)
    refine r_iload_n hE 1 dX5_named_g3.2.2.2.2.2.2.2.2.2.2.2.2.2.1 rfl rfl ?_
    exact c_iret hE hm hF dX5_named_g3.2.2.2.2.2.2.2.2.2.2.2.2.2.2 h
def wcB_rd_named (R : TY_X5_arguments) (post : CS → Int32 → Prop) (σ : CS) : Prop := ∀ x10 : Int32, x10 = c_rd_at σ → wc_rd_newNode (fun (s11 : CS) (r12 : Int32) => wc_rd_next (fun (s13 : CS) => wc_rd_isSign (fun (s14 : CS) (r15 : Int32) => ((r15 = (0 : Int32)) → (c_rd_figure s14 = 400 ∧ (wc_sp_nameNumber (fun (s16 : CS) (r17 : Int32) => ((¬ (r17 = (-1 : Int32))) → (wc_rd_named_57 R post s16 r12 r17)) ∧ ((r17 = (-1 : Int32)) → (wc_rd_noteFault (fun (s18 : CS) => wc_rd_named_57 R post s18 r12 r17) s16 (5 : Int32) x10))) s14 (c_rd_scope s14) x10))) ∧ ((¬ (r15 = (0 : Int32))) → (R.2.1 (fun (s19 : CS) (r20 : Int32) => post s19 r20) s14 r12 x10))) s13 (40 : Int32)) s11) σ (8 : Int32) (-1 : Int32)
set_option maxRecDepth 20000 in
theorem kcB_rd_named {R : TY_X5_arguments} {n : Nat} (ih0 : RH_X5_arguments R n) (hn : 6 ≤ n) {l : Launch} {D : va_G} {G : gAd} {post : CS → Int32 → Prop} {σ : CS} (h : wcB_rd_named R post σ) : cMet l D G yX5_named cX5_named 4 (some .int) (n + 1) [.ref (G.1 600)] σ (pI post) := by
  unfold wcB_rd_named at h
  refine c_enter (own := RX5) (by decide +kernel) rfl [(0, .ref (G.1 600))] rfl (Nat.le_of_ble_eq_true rfl) ?_
  intro E hE hm hF
  have hN := hm.2.2.2.2.2.2.1
  refine r_aload_n hE 0 dX5_named_g0.1 rfl rfl ?_
  refine cg_rd_at hE hm fk_X5_9 dX5_named_g0.2.1 ?_
  refine r_topi h (fun x10 ex10 h => ?_)
  refine r_istore_n hE [(1, .int x10), (0, .ref (G.1 600))] dX5_named_g0.2.2.1 rfl hN (by decide) rfl ?_
  refine r_aload_n hE 1 dX5_named_g0.2.2.2.1 rfl rfl ?_
  refine r_bipush (v := (8 : Int32)) hE dX5_named_g0.2.2.2.2.1 (by decide) ?_
  refine r_iconst (v := (-1 : Int32)) hE dX5_named_g0.2.2.2.2.2.1 (by decide) ?_
  refine c_callVi hE hm [.int (8 : Int32), .int (-1 : Int32)] [] ck_X5_174 (cr_rd hm rfl) (kc_rd_newNode h) (by omega) rfl rfl (Nat.le_of_ble_eq_true rfl) dX5_named_g0.2.2.2.2.2.2.1 (fun s11 r12 h => ?_)
  refine r_istore_n hE [(2, .int r12), (1, .int x10), (0, .ref (G.1 600))] dX5_named_g0.2.2.2.2.2.2.2.1 rfl hN (by decide) rfl ?_
  refine r_aload_n hE 2 dX5_named_g0.2.2.2.2.2.2.2.2.1 rfl rfl ?_
  refine c_callVv hE hm [] [] ck_X5_40 (cr_rd hm rfl) (kc_rd_next h) (by omega) rfl rfl (Nat.le_of_ble_eq_true rfl) dX5_named_g0.2.2.2.2.2.2.2.2.2.1 (fun s13 h => ?_)
  refine r_aload_n hE 2 dX5_named_g0.2.2.2.2.2.2.2.2.2.2.1 rfl rfl ?_
  refine r_bipush (v := (40 : Int32)) hE dX5_named_g0.2.2.2.2.2.2.2.2.2.2.2.1 (by decide) ?_
  refine c_callVi hE hm [.int (40 : Int32)] [] ck_X5_88 (cr_rd hm rfl) (kc_rd_isSign h) (by omega) rfl rfl (Nat.le_of_ble_eq_true rfl) dX5_named_g0.2.2.2.2.2.2.2.2.2.2.2.2.1 (fun s14 r15 h => ?_)
  refine r_if_eq hE 33 dX5_named_g0.2.2.2.2.2.2.2.2.2.2.2.2.2.1 (by decide) h (fun h => ?_) (fun h => ?_)
  · refine r_aload_n hE 2 dX5_named_g1.2.2.2.1 rfl rfl ?_
    obtain ⟨hj, h⟩ := h
    refine cg_rd_figure hE hm fk_X5_36 dX5_named_g1.2.2.2.2.1 hj ?_
    refine r_aload_n hE 2 dX5_named_g1.2.2.2.2.2.1 rfl rfl ?_
    refine cg_rd_scope hE hm fk_X5_24 dX5_named_g1.2.2.2.2.2.2.1 ?_
    refine r_iload_n hE 1 dX5_named_g1.2.2.2.2.2.2.2.1 rfl rfl ?_
    refine c_callVi hE hm [.int (c_rd_scope s14), .int x10] [] ck_X5_149 (cr_sp hm rfl) (kc_sp_nameNumber h) (by omega) rfl rfl (Nat.le_of_ble_eq_true rfl) dX5_named_g1.2.2.2.2.2.2.2.2.1 (fun s16 r17 h => ?_)
    refine r_istore_n hE [(3, .int r17), (2, .int r12), (1, .int x10), (0, .ref (G.1 600))] dX5_named_g1.2.2.2.2.2.2.2.2.2.1 rfl hN (by decide) rfl ?_
    refine r_iload_n hE 0 dX5_named_g1.2.2.2.2.2.2.2.2.2.2.1 rfl rfl ?_
    refine r_iconst (v := (-1 : Int32)) hE dX5_named_g1.2.2.2.2.2.2.2.2.2.2.2.1 (by decide) ?_
    refine r_icmp_ne hE 57 dX5_named_g1.2.2.2.2.2.2.2.2.2.2.2.2.1 (by decide) h (fun h => ?_) (fun h => ?_)
    · refine r_pick [3, 1, 0] rfl ?_
      exact kc_rd_named_57 ih0 hn hE hm hF _ _ _ h
    · refine r_aload_n hE 3 dX5_named_g1.2.2.2.2.2.2.2.2.2.2.2.2.2.1 rfl rfl ?_
      refine r_iconst (v := (5 : Int32)) hE dX5_named_g1.2.2.2.2.2.2.2.2.2.2.2.2.2.2.1 (by decide) ?_
      refine r_iload_n hE 2 dX5_named_g1.2.2.2.2.2.2.2.2.2.2.2.2.2.2.2 rfl rfl ?_
      refine c_callVv hE hm [.int (5 : Int32), .int x10] [] ck_X5_71 (cr_rd hm rfl) (kc_rd_noteFault h) (by omega) rfl rfl (Nat.le_of_ble_eq_true rfl) dX5_named_g2.1 (fun s18 h => ?_)
      refine r_pick [3, 1, 0] rfl ?_
      exact kc_rd_named_57 ih0 hn hE hm hF _ _ _ h
  · refine r_aload_n hE 2 dX5_named_g0.2.2.2.2.2.2.2.2.2.2.2.2.2.2.1 rfl rfl ?_
    refine r_iload_n hE 0 dX5_named_g0.2.2.2.2.2.2.2.2.2.2.2.2.2.2.2 rfl rfl ?_
    refine r_iload_n hE 1 dX5_named_g1.1 rfl rfl ?_
    refine c_callVi hE hm [.int r12, .int x10] [] ck_X5_217 (cr_rd hm rfl) (ih0.2.1 _ _ _ _ _ _ _ h) (Nat.le_refl _) rfl rfl (Nat.le_of_ble_eq_true rfl) dX5_named_g1.2.1 (fun s19 r20 h => ?_)
    exact c_iret hE hm hF dX5_named_g1.2.2.1 h
def wc_rd_one_66 (R : TY_X5_arguments) (post : CS → Int32 → Prop) (σ : CS) (v1 : Int32) (v2 : Int32) : Prop := R.2.2.1 (fun (s1 : CS) (r2 : Int32) => c_rd_figure s1 = 400 ∧ (wc_sp_hang (fun (s3 : CS) => ((¬ (v1 = (-1 : Int32))) → (post s3 v1)) ∧ ((v1 = (-1 : Int32)) → (post s3 r2))) s1 v2 r2)) σ
set_option maxRecDepth 20000 in
theorem kc_rd_one_66  {R : TY_X5_arguments} {n : Nat} (ih0 : RH_X5_arguments R n) (hn : 6 ≤ n) {E : gEnv} {l : Launch} {D : va_G} {G : gAd} {post : CS → Int32 → Prop} (hE : gOK E cX5_one RX5 (some .int) (n + 1)) (hm : cOK E l D G (pI post) 5) (hF : gFin E) (σ : CS) (v1 : Int32) (v2 : Int32) (h : wc_rd_one_66 R post σ v1 v2) : GW E (cW G σ) 66 [(0, .ref (G.1 600)), (1, .int v1), (2, .int v2)] [] := by
  unfold wc_rd_one_66 at h
  have hN := hm.2.2.2.2.2.2.1
  refine r_aload_n hE 0 dX5_one_g2.2.2.2.2.1 rfl rfl ?_
  refine c_callVi hE hm [] [] ck_X5_208 (cr_rd hm rfl) (ih0.2.2.1 _ _ _ _ _ h) (Nat.le_refl _) rfl rfl (Nat.le_of_ble_eq_true rfl) dX5_one_g2.2.2.2.2.2.1 (fun s1 r2 h => ?_)
  refine r_istore_n hE [(3, .int r2), (0, .ref (G.1 600)), (1, .int v1), (2, .int v2)] dX5_one_g2.2.2.2.2.2.2.1 rfl hN (by decide) rfl ?_
  refine r_aload_n hE 1 dX5_one_g2.2.2.2.2.2.2.2.1 rfl rfl ?_
  obtain ⟨hj, h⟩ := h
  refine cg_rd_figure hE hm fk_X5_36 dX5_one_g2.2.2.2.2.2.2.2.2.1 hj ?_
  refine r_iload_n hE 3 dX5_one_g2.2.2.2.2.2.2.2.2.2.1 rfl rfl ?_
  refine r_iload_n hE 0 dX5_one_g2.2.2.2.2.2.2.2.2.2.2.1 rfl rfl ?_
  refine c_callVv hE hm [.int v2, .int r2] [] ck_X5_180 (cr_sp hm rfl) (kc_sp_hang h) (by omega) rfl rfl (Nat.le_of_ble_eq_true rfl) dX5_one_g2.2.2.2.2.2.2.2.2.2.2.2.1 (fun s3 h => ?_)
  refine r_iload_n hE 2 dX5_one_g2.2.2.2.2.2.2.2.2.2.2.2.2.1 rfl rfl ?_
  refine r_iconst (v := (-1 : Int32)) hE dX5_one_g2.2.2.2.2.2.2.2.2.2.2.2.2.2.1 (by decide) ?_
  refine r_icmp_ne hE 89 dX5_one_g2.2.2.2.2.2.2.2.2.2.2.2.2.2.2.1 (by decide) h (fun h => ?_) (fun h => ?_)
  · refine r_iload_n hE 2 dX5_one_g3.2.1 rfl rfl ?_
    exact c_iret hE hm hF dX5_one_g3.2.2 h
  · refine r_iload_n hE 0 dX5_one_g2.2.2.2.2.2.2.2.2.2.2.2.2.2.2.2 rfl rfl ?_
    refine r_goto hE 90 dX5_one_g3.1 (by decide) ?_
    exact c_iret hE hm hF dX5_one_g3.2.2 h
def wc_rd_one_56 (R : TY_X5_arguments) (post : CS → Int32 → Prop) (lp6 : CS → Int32 → Int32 → Int32 → Prop) (σ : CS) (v3 : Int32) (v4 : Int32) (t0 : Int32) : Prop := ∀ x4 : Int32, x4 = v3 + (1 : Int32) → lp6 σ t0 v4 x4
set_option maxRecDepth 20000 in
theorem kc_rd_one_56  {R : TY_X5_arguments} {n : Nat} (ih0 : RH_X5_arguments R n) (hn : 6 ≤ n) {E : gEnv} {l : Launch} {D : va_G} {G : gAd} {post : CS → Int32 → Prop} (hE : gOK E cX5_one RX5 (some .int) (n + 1)) (hm : cOK E l D G (pI post) 5) (hF : gFin E) {lp6 : CS → Int32 → Int32 → Int32 → Prop} (hl6 : ∀ (σ : CS) (v1 : Int32) (v2 : Int32) (v3 : Int32), lp6 σ v1 v2 v3 → GW E (cW G σ) 6 [(0, .ref (G.1 600)), (1, .int v1), (2, .int v2), (3, .int v3)] []) (σ : CS) (v3 : Int32) (v4 : Int32) (t0 : Int32) (h : wc_rd_one_56 R post lp6 σ v3 v4 t0) : GW E (cW G σ) 56 [(0, .ref (G.1 600)), (3, .int v3), (4, .int v4)] [.int t0] := by
  unfold wc_rd_one_56 at h
  have hN := hm.2.2.2.2.2.2.1
  refine r_istore_n hE [(1, .int t0), (0, .ref (G.1 600)), (3, .int v3), (4, .int v4)] dX5_one_g1.2.2.2.2.2.2.2.2.2.2.2.2.2.2.2 rfl hN (by decide) rfl ?_
  refine r_iload hE 3 dX5_one_g2.1 rfl ?_
  refine r_istore_n hE [(2, .int v4), (1, .int t0), (0, .ref (G.1 600)), (3, .int v3), (4, .int v4)] dX5_one_g2.2.1 rfl hN (by decide) rfl ?_
  obtain ⟨x4, ex4⟩ : ∃ z : Int32, z = v3 + (1 : Int32) := ⟨_, rfl⟩
  have h := h x4 ex4
  refine r_iinc (v := x4) hE [(3, .int x4), (2, .int v4), (1, .int t0), (0, .ref (G.1 600)), (4, .int v4)] 3 dX5_one_g2.2.2.1 rfl (by rw [ex4]; rfl) hN (by decide) rfl ?_
  refine r_goto hE 6 dX5_one_g2.2.2.2.1 (by decide) ?_
  refine r_pick [3, 2, 1, 0] rfl ?_
  exact hl6 _ _ _ _ h
def wc_rd_one_6 (R : TY_X5_arguments) (post : CS → Int32 → Prop) : Nat → CS → Int32 → Int32 → Int32 → Prop
  | 0, _, _, _, _ => False
  | n + 1, σ, v1, v2, v3 => (((3000 : Int32) ≤ v3) → (wc_rd_one_66 R post σ v1 v2)) ∧ ((¬ ((3000 : Int32) ≤ v3)) → (wc_rd_isSign (fun (s5 : CS) (r6 : Int32) => ((r6 = (0 : Int32)) → (wc_rd_one_66 R post s5 v1 v2)) ∧ ((¬ (r6 = (0 : Int32))) → (wc_rd_newNode (fun (s7 : CS) (r8 : Int32) => wc_rd_next (fun (s9 : CS) => c_rd_figure s9 = 400 ∧ (wc_sp_hang (fun (s10 : CS) => ((¬ (v1 = (-1 : Int32))) → (wc_rd_one_56 R post (fun (ys : CS) (y0 : Int32) (y1 : Int32) (y2 : Int32) => wc_rd_one_6 R post n ys y0 y1 y2) s10 v3 r8 v1)) ∧ ((v1 = (-1 : Int32)) → (wc_rd_one_56 R post (fun (ys : CS) (y0 : Int32) (y1 : Int32) (y2 : Int32) => wc_rd_one_6 R post n ys y0 y1 y2) s10 v3 r8 r8))) s9 v2 r8)) s7) s5 (12 : Int32) (0 : Int32)))) σ (45 : Int32)))
set_option maxRecDepth 20000 in
theorem kc_rd_one_6  {R : TY_X5_arguments} {n : Nat} (ih0 : RH_X5_arguments R n) (hn : 6 ≤ n) {E : gEnv} {l : Launch} {D : va_G} {G : gAd} {post : CS → Int32 → Prop} (hE : gOK E cX5_one RX5 (some .int) (n + 1)) (hm : cOK E l D G (pI post) 5) (hF : gFin E) : ∀ (n0 : Nat) (σ : CS) (v1 : Int32) (v2 : Int32) (v3 : Int32), wc_rd_one_6 R post n0 σ v1 v2 v3 → GW E (cW G σ) 6 [(0, .ref (G.1 600)), (1, .int v1), (2, .int v2), (3, .int v3)] [] := by
  intro n0
  induction n0 with
  | zero => intro σ v1 v2 v3 h; exact h.elim
  | succ n0 ih =>
    intro σ v1 v2 v3 h
    rw [wc_rd_one_6] at h
    have hN := hm.2.2.2.2.2.2.1
    refine r_iload_n hE 3 dX5_one_g0.2.2.2.2.2.2.1 rfl rfl ?_
    refine r_sipush (v := (3000 : Int32)) hE dX5_one_g0.2.2.2.2.2.2.2.1 (by decide) ?_
    refine r_icmp_ge hE 66 dX5_one_g0.2.2.2.2.2.2.2.2.1 (by decide) h (fun h => ?_) (fun h => ?_)
    · refine r_pick [0, 1, 2] rfl ?_
      exact kc_rd_one_66 ih0 hn hE hm hF _ _ _ h
    · refine r_aload_n hE 0 dX5_one_g0.2.2.2.2.2.2.2.2.2.1 rfl rfl ?_
      refine r_bipush (v := (45 : Int32)) hE dX5_one_g0.2.2.2.2.2.2.2.2.2.2.1 (by decide) ?_
      refine c_callVi hE hm [.int (45 : Int32)] [] ck_X5_88 (cr_rd hm rfl) (kc_rd_isSign h) (by omega) rfl rfl (Nat.le_of_ble_eq_true rfl) dX5_one_g0.2.2.2.2.2.2.2.2.2.2.2.1 (fun s5 r6 h => ?_)
      refine r_if_eq hE 66 dX5_one_g0.2.2.2.2.2.2.2.2.2.2.2.2.1 (by decide) h (fun h => ?_) (fun h => ?_)
      · refine r_pick [0, 1, 2] rfl ?_
        exact kc_rd_one_66 ih0 hn hE hm hF _ _ _ h
      · refine r_aload_n hE 0 dX5_one_g0.2.2.2.2.2.2.2.2.2.2.2.2.2.1 rfl rfl ?_
        refine r_bipush (v := (12 : Int32)) hE dX5_one_g0.2.2.2.2.2.2.2.2.2.2.2.2.2.2.1 (by decide) ?_
        refine r_iconst (v := (0 : Int32)) hE dX5_one_g0.2.2.2.2.2.2.2.2.2.2.2.2.2.2.2 (by decide) ?_
        refine c_callVi hE hm [.int (12 : Int32), .int (0 : Int32)] [] ck_X5_174 (cr_rd hm rfl) (kc_rd_newNode h) (by omega) rfl rfl (Nat.le_of_ble_eq_true rfl) dX5_one_g1.1 (fun s7 r8 h => ?_)
        refine r_istore hE [(4, .int r8), (0, .ref (G.1 600)), (1, .int v1), (2, .int v2), (3, .int v3)] dX5_one_g1.2.1 hN (by decide) rfl ?_
        refine r_aload_n hE 1 dX5_one_g1.2.2.1 rfl rfl ?_
        refine c_callVv hE hm [] [] ck_X5_40 (cr_rd hm rfl) (kc_rd_next h) (by omega) rfl rfl (Nat.le_of_ble_eq_true rfl) dX5_one_g1.2.2.2.1 (fun s9 h => ?_)
        refine r_aload_n hE 1 dX5_one_g1.2.2.2.2.1 rfl rfl ?_
        obtain ⟨hj, h⟩ := h
        refine cg_rd_figure hE hm fk_X5_36 dX5_one_g1.2.2.2.2.2.1 hj ?_
        refine r_iload_n hE 3 dX5_one_g1.2.2.2.2.2.2.1 rfl rfl ?_
        refine r_iload hE 0 dX5_one_g1.2.2.2.2.2.2.2.1 rfl ?_
        refine c_callVv hE hm [.int v2, .int r8] [] ck_X5_180 (cr_sp hm rfl) (kc_sp_hang h) (by omega) rfl rfl (Nat.le_of_ble_eq_true rfl) dX5_one_g1.2.2.2.2.2.2.2.2.1 (fun s10 h => ?_)
        refine r_iload_n hE 2 dX5_one_g1.2.2.2.2.2.2.2.2.2.1 rfl rfl ?_
        refine r_iconst (v := (-1 : Int32)) hE dX5_one_g1.2.2.2.2.2.2.2.2.2.2.1 (by decide) ?_
        refine r_icmp_ne hE 55 dX5_one_g1.2.2.2.2.2.2.2.2.2.2.2.1 (by decide) h (fun h => ?_) (fun h => ?_)
        · refine r_iload_n hE 2 dX5_one_g1.2.2.2.2.2.2.2.2.2.2.2.2.2.2.1 rfl rfl ?_
          refine r_pick [1, 4, 0] rfl ?_
          exact kc_rd_one_56 ih0 hn hE hm hF ih _ _ _ _ h
        · refine r_iload hE 0 dX5_one_g1.2.2.2.2.2.2.2.2.2.2.2.2.1 rfl ?_
          refine r_goto hE 56 dX5_one_g1.2.2.2.2.2.2.2.2.2.2.2.2.2.1 (by decide) ?_
          refine r_pick [1, 4, 0] rfl ?_
          exact kc_rd_one_56 ih0 hn hE hm hF ih _ _ _ _ h
def wcB_rd_one (R : TY_X5_arguments) (post : CS → Int32 → Prop) (σ : CS) : Prop := ∃ k : Nat, wc_rd_one_6 R post k σ (-1 : Int32) (-1 : Int32) (0 : Int32)
set_option maxRecDepth 20000 in
theorem kcB_rd_one {R : TY_X5_arguments} {n : Nat} (ih0 : RH_X5_arguments R n) (hn : 6 ≤ n) {l : Launch} {D : va_G} {G : gAd} {post : CS → Int32 → Prop} {σ : CS} (h : wcB_rd_one R post σ) : cMet l D G yX5_one cX5_one 5 (some .int) (n + 1) [.ref (G.1 600)] σ (pI post) := by
  unfold wcB_rd_one at h
  refine c_enter (own := RX5) (by decide +kernel) rfl [(0, .ref (G.1 600))] rfl (Nat.le_of_ble_eq_true rfl) ?_
  intro E hE hm hF
  have hN := hm.2.2.2.2.2.2.1
  refine r_iconst (v := (-1 : Int32)) hE dX5_one_g0.1 (by decide) ?_
  refine r_istore_n hE [(1, .int (-1 : Int32)), (0, .ref (G.1 600))] dX5_one_g0.2.1 rfl hN (by decide) rfl ?_
  refine r_iconst (v := (-1 : Int32)) hE dX5_one_g0.2.2.1 (by decide) ?_
  refine r_istore_n hE [(2, .int (-1 : Int32)), (1, .int (-1 : Int32)), (0, .ref (G.1 600))] dX5_one_g0.2.2.2.1 rfl hN (by decide) rfl ?_
  refine r_iconst (v := (0 : Int32)) hE dX5_one_g0.2.2.2.2.1 (by decide) ?_
  refine r_istore_n hE [(3, .int (0 : Int32)), (2, .int (-1 : Int32)), (1, .int (-1 : Int32)), (0, .ref (G.1 600))] dX5_one_g0.2.2.2.2.2.1 rfl hN (by decide) rfl ?_
  refine r_pick [3, 2, 1, 0] rfl ?_
  obtain ⟨k, h⟩ := h
  exact kc_rd_one_6 ih0 hn hE hm hF k _ _ _ _ h
def wc_rd_sum_32 (R : TY_X5_arguments) (post : CS → Int32 → Prop) (lp7 : CS → Int32 → Int32 → Prop) (σ : CS) (v1 : Int32) (v2 : Int32) : Prop := R.2.2.2.2.1 (fun (s1 : CS) (r2 : Int32) => ∀ x3 : Int32, x3 = v2 + (1 : Int32) → lp7 s1 r2 x3) σ v1 (2 : Int32)
set_option maxRecDepth 20000 in
theorem kc_rd_sum_32  {R : TY_X5_arguments} {n : Nat} (ih0 : RH_X5_arguments R n) (hn : 6 ≤ n) {E : gEnv} {l : Launch} {D : va_G} {G : gAd} {post : CS → Int32 → Prop} (hE : gOK E cX5_sum RX5 (some .int) (n + 1)) (hm : cOK E l D G (pI post) 3) (hF : gFin E) {lp7 : CS → Int32 → Int32 → Prop} (hl7 : ∀ (σ : CS) (v1 : Int32) (v2 : Int32), lp7 σ v1 v2 → GW E (cW G σ) 7 [(0, .ref (G.1 600)), (1, .int v1), (2, .int v2)] []) (σ : CS) (v1 : Int32) (v2 : Int32) (h : wc_rd_sum_32 R post lp7 σ v1 v2) : GW E (cW G σ) 32 [(0, .ref (G.1 600)), (1, .int v1), (2, .int v2)] [] := by
  unfold wc_rd_sum_32 at h
  have hN := hm.2.2.2.2.2.2.1
  refine r_aload_n hE 0 dX5_sum_g1.1 rfl rfl ?_
  refine r_iload_n hE 1 dX5_sum_g1.2.1 rfl rfl ?_
  refine r_iconst (v := (2 : Int32)) hE dX5_sum_g1.2.2.1 (by decide) ?_
  refine c_callVi hE hm [.int v1, .int (2 : Int32)] [] ck_X5_199 (cr_rd hm rfl) (ih0.2.2.2.2.1 _ _ _ _ _ _ _ h) (Nat.le_refl _) rfl rfl (Nat.le_of_ble_eq_true rfl) dX5_sum_g1.2.2.2.1 (fun s1 r2 h => ?_)
  refine r_istore_n hE [(1, .int r2), (0, .ref (G.1 600)), (2, .int v2)] dX5_sum_g1.2.2.2.2.1 rfl hN (by decide) rfl ?_
  obtain ⟨x3, ex3⟩ : ∃ z : Int32, z = v2 + (1 : Int32) := ⟨_, rfl⟩
  have h := h x3 ex3
  refine r_iinc (v := x3) hE [(2, .int x3), (1, .int r2), (0, .ref (G.1 600))] 2 dX5_sum_g1.2.2.2.2.2.1 rfl (by rw [ex3]; rfl) hN (by decide) rfl ?_
  refine r_goto hE 7 dX5_sum_g1.2.2.2.2.2.2.1 (by decide) ?_
  refine r_pick [2, 1, 0] rfl ?_
  exact hl7 _ _ _ h
def wc_rd_sum_7 (R : TY_X5_arguments) (post : CS → Int32 → Prop) : Nat → CS → Int32 → Int32 → Prop
  | 0, _, _, _ => False
  | n + 1, σ, v1, v2 => (((3000 : Int32) ≤ v2) → (post σ v1)) ∧ ((¬ ((3000 : Int32) ≤ v2)) → (wc_rd_isSign (fun (s4 : CS) (r5 : Int32) => ((¬ (r5 = (0 : Int32))) → (wc_rd_sum_32 R post (fun (ys : CS) (y0 : Int32) (y1 : Int32) => wc_rd_sum_7 R post n ys y0 y1) s4 v1 v2)) ∧ ((r5 = (0 : Int32)) → (wc_rd_isSign (fun (s6 : CS) (r7 : Int32) => ((r7 = (0 : Int32)) → (post s6 v1)) ∧ ((¬ (r7 = (0 : Int32))) → (wc_rd_sum_32 R post (fun (ys : CS) (y0 : Int32) (y1 : Int32) => wc_rd_sum_7 R post n ys y0 y1) s6 v1 v2))) s4 (45 : Int32)))) σ (43 : Int32)))
set_option maxRecDepth 20000 in
theorem kc_rd_sum_7  {R : TY_X5_arguments} {n : Nat} (ih0 : RH_X5_arguments R n) (hn : 6 ≤ n) {E : gEnv} {l : Launch} {D : va_G} {G : gAd} {post : CS → Int32 → Prop} (hE : gOK E cX5_sum RX5 (some .int) (n + 1)) (hm : cOK E l D G (pI post) 3) (hF : gFin E) : ∀ (n0 : Nat) (σ : CS) (v1 : Int32) (v2 : Int32), wc_rd_sum_7 R post n0 σ v1 v2 → GW E (cW G σ) 7 [(0, .ref (G.1 600)), (1, .int v1), (2, .int v2)] [] := by
  intro n0
  induction n0 with
  | zero => intro σ v1 v2 h; exact h.elim
  | succ n0 ih =>
    intro σ v1 v2 h
    rw [wc_rd_sum_7] at h
    have hN := hm.2.2.2.2.2.2.1
    refine r_iload_n hE 2 dX5_sum_g0.2.2.2.2.2.1 rfl rfl ?_
    refine r_sipush (v := (3000 : Int32)) hE dX5_sum_g0.2.2.2.2.2.2.1 (by decide) ?_
    refine r_icmp_ge hE 45 dX5_sum_g0.2.2.2.2.2.2.2.1 (by decide) h (fun h => ?_) (fun h => ?_)
    · refine r_iload_n hE 1 dX5_sum_g1.2.2.2.2.2.2.2.1 rfl rfl ?_
      exact c_iret hE hm hF dX5_sum_g1.2.2.2.2.2.2.2.2 h
    · refine r_aload_n hE 0 dX5_sum_g0.2.2.2.2.2.2.2.2.1 rfl rfl ?_
      refine r_bipush (v := (43 : Int32)) hE dX5_sum_g0.2.2.2.2.2.2.2.2.2.1 (by decide) ?_
      refine c_callVi hE hm [.int (43 : Int32)] [] ck_X5_88 (cr_rd hm rfl) (kc_rd_isSign h) (by omega) rfl rfl (Nat.le_of_ble_eq_true rfl) dX5_sum_g0.2.2.2.2.2.2.2.2.2.2.1 (fun s4 r5 h => ?_)
      refine r_if_ne hE 32 dX5_sum_g0.2.2.2.2.2.2.2.2.2.2.2.1 (by decide) h (fun h => ?_) (fun h => ?_)
      · exact kc_rd_sum_32 ih0 hn hE hm hF ih _ _ _ h
      · refine r_aload_n hE 0 dX5_sum_g0.2.2.2.2.2.2.2.2.2.2.2.2.1 rfl rfl ?_
        refine r_bipush (v := (45 : Int32)) hE dX5_sum_g0.2.2.2.2.2.2.2.2.2.2.2.2.2.1 (by decide) ?_
        refine c_callVi hE hm [.int (45 : Int32)] [] ck_X5_88 (cr_rd hm rfl) (kc_rd_isSign h) (by omega) rfl rfl (Nat.le_of_ble_eq_true rfl) dX5_sum_g0.2.2.2.2.2.2.2.2.2.2.2.2.2.2.1 (fun s6 r7 h => ?_)
        refine r_if_eq hE 45 dX5_sum_g0.2.2.2.2.2.2.2.2.2.2.2.2.2.2.2 (by decide) h (fun h => ?_) (fun h => ?_)
        · refine r_iload_n hE 1 dX5_sum_g1.2.2.2.2.2.2.2.1 rfl rfl ?_
          exact c_iret hE hm hF dX5_sum_g1.2.2.2.2.2.2.2.2 h
        · exact kc_rd_sum_32 ih0 hn hE hm hF ih _ _ _ h
def wcB_rd_sum (R : TY_X5_arguments) (post : CS → Int32 → Prop) (σ : CS) : Prop := R.2.2.2.2.2.2.2.2 (fun (s8 : CS) (r9 : Int32) => ∃ k : Nat, wc_rd_sum_7 R post k s8 r9 (0 : Int32)) σ
set_option maxRecDepth 20000 in
theorem kcB_rd_sum {R : TY_X5_arguments} {n : Nat} (ih0 : RH_X5_arguments R n) (hn : 6 ≤ n) {l : Launch} {D : va_G} {G : gAd} {post : CS → Int32 → Prop} {σ : CS} (h : wcB_rd_sum R post σ) : cMet l D G yX5_sum cX5_sum 3 (some .int) (n + 1) [.ref (G.1 600)] σ (pI post) := by
  unfold wcB_rd_sum at h
  refine c_enter (own := RX5) (by decide +kernel) rfl [(0, .ref (G.1 600))] rfl (Nat.le_of_ble_eq_true rfl) ?_
  intro E hE hm hF
  have hN := hm.2.2.2.2.2.2.1
  refine r_aload_n hE 0 dX5_sum_g0.1 rfl rfl ?_
  refine c_callVi hE hm [] [] ck_X5_202 (cr_rd hm rfl) (ih0.2.2.2.2.2.2.2.2 _ _ _ _ _ h) (Nat.le_refl _) rfl rfl (Nat.le_of_ble_eq_true rfl) dX5_sum_g0.2.1 (fun s8 r9 h => ?_)
  refine r_istore_n hE [(1, .int r9), (0, .ref (G.1 600))] dX5_sum_g0.2.2.1 rfl hN (by decide) rfl ?_
  refine r_iconst (v := (0 : Int32)) hE dX5_sum_g0.2.2.2.1 (by decide) ?_
  refine r_istore_n hE [(2, .int (0 : Int32)), (1, .int r9), (0, .ref (G.1 600))] dX5_sum_g0.2.2.2.2.1 rfl hN (by decide) rfl ?_
  refine r_pick [2, 1, 0] rfl ?_
  obtain ⟨k, h⟩ := h
  exact kc_rd_sum_7 ih0 hn hE hm hF k _ _ _ h
def wc_rd_term_32 (R : TY_X5_arguments) (post : CS → Int32 → Prop) (lp7 : CS → Int32 → Int32 → Prop) (σ : CS) (v1 : Int32) (v2 : Int32) : Prop := R.2.2.2.2.1 (fun (s1 : CS) (r2 : Int32) => ∀ x3 : Int32, x3 = v2 + (1 : Int32) → lp7 s1 r2 x3) σ v1 (3 : Int32)
set_option maxRecDepth 20000 in
theorem kc_rd_term_32  {R : TY_X5_arguments} {n : Nat} (ih0 : RH_X5_arguments R n) (hn : 6 ≤ n) {E : gEnv} {l : Launch} {D : va_G} {G : gAd} {post : CS → Int32 → Prop} (hE : gOK E cX5_term RX5 (some .int) (n + 1)) (hm : cOK E l D G (pI post) 3) (hF : gFin E) {lp7 : CS → Int32 → Int32 → Prop} (hl7 : ∀ (σ : CS) (v1 : Int32) (v2 : Int32), lp7 σ v1 v2 → GW E (cW G σ) 7 [(0, .ref (G.1 600)), (1, .int v1), (2, .int v2)] []) (σ : CS) (v1 : Int32) (v2 : Int32) (h : wc_rd_term_32 R post lp7 σ v1 v2) : GW E (cW G σ) 32 [(0, .ref (G.1 600)), (1, .int v1), (2, .int v2)] [] := by
  unfold wc_rd_term_32 at h
  have hN := hm.2.2.2.2.2.2.1
  refine r_aload_n hE 0 dX5_term_g1.1 rfl rfl ?_
  refine r_iload_n hE 1 dX5_term_g1.2.1 rfl rfl ?_
  refine r_iconst (v := (3 : Int32)) hE dX5_term_g1.2.2.1 (by decide) ?_
  refine c_callVi hE hm [.int v1, .int (3 : Int32)] [] ck_X5_199 (cr_rd hm rfl) (ih0.2.2.2.2.1 _ _ _ _ _ _ _ h) (Nat.le_refl _) rfl rfl (Nat.le_of_ble_eq_true rfl) dX5_term_g1.2.2.2.1 (fun s1 r2 h => ?_)
  refine r_istore_n hE [(1, .int r2), (0, .ref (G.1 600)), (2, .int v2)] dX5_term_g1.2.2.2.2.1 rfl hN (by decide) rfl ?_
  obtain ⟨x3, ex3⟩ : ∃ z : Int32, z = v2 + (1 : Int32) := ⟨_, rfl⟩
  have h := h x3 ex3
  refine r_iinc (v := x3) hE [(2, .int x3), (1, .int r2), (0, .ref (G.1 600))] 2 dX5_term_g1.2.2.2.2.2.1 rfl (by rw [ex3]; rfl) hN (by decide) rfl ?_
  refine r_goto hE 7 dX5_term_g1.2.2.2.2.2.2.1 (by decide) ?_
  refine r_pick [2, 1, 0] rfl ?_
  exact hl7 _ _ _ h
def wc_rd_term_7 (R : TY_X5_arguments) (post : CS → Int32 → Prop) : Nat → CS → Int32 → Int32 → Prop
  | 0, _, _, _ => False
  | n + 1, σ, v1, v2 => (((3000 : Int32) ≤ v2) → (post σ v1)) ∧ ((¬ ((3000 : Int32) ≤ v2)) → (wc_rd_isSign (fun (s4 : CS) (r5 : Int32) => ((¬ (r5 = (0 : Int32))) → (wc_rd_term_32 R post (fun (ys : CS) (y0 : Int32) (y1 : Int32) => wc_rd_term_7 R post n ys y0 y1) s4 v1 v2)) ∧ ((r5 = (0 : Int32)) → (wc_rd_isSign (fun (s6 : CS) (r7 : Int32) => ((r7 = (0 : Int32)) → (post s6 v1)) ∧ ((¬ (r7 = (0 : Int32))) → (wc_rd_term_32 R post (fun (ys : CS) (y0 : Int32) (y1 : Int32) => wc_rd_term_7 R post n ys y0 y1) s6 v1 v2))) s4 (47 : Int32)))) σ (42 : Int32)))
set_option maxRecDepth 20000 in
theorem kc_rd_term_7  {R : TY_X5_arguments} {n : Nat} (ih0 : RH_X5_arguments R n) (hn : 6 ≤ n) {E : gEnv} {l : Launch} {D : va_G} {G : gAd} {post : CS → Int32 → Prop} (hE : gOK E cX5_term RX5 (some .int) (n + 1)) (hm : cOK E l D G (pI post) 3) (hF : gFin E) : ∀ (n0 : Nat) (σ : CS) (v1 : Int32) (v2 : Int32), wc_rd_term_7 R post n0 σ v1 v2 → GW E (cW G σ) 7 [(0, .ref (G.1 600)), (1, .int v1), (2, .int v2)] [] := by
  intro n0
  induction n0 with
  | zero => intro σ v1 v2 h; exact h.elim
  | succ n0 ih =>
    intro σ v1 v2 h
    rw [wc_rd_term_7] at h
    have hN := hm.2.2.2.2.2.2.1
    refine r_iload_n hE 2 dX5_term_g0.2.2.2.2.2.1 rfl rfl ?_
    refine r_sipush (v := (3000 : Int32)) hE dX5_term_g0.2.2.2.2.2.2.1 (by decide) ?_
    refine r_icmp_ge hE 45 dX5_term_g0.2.2.2.2.2.2.2.1 (by decide) h (fun h => ?_) (fun h => ?_)
    · refine r_iload_n hE 1 dX5_term_g1.2.2.2.2.2.2.2.1 rfl rfl ?_
      exact c_iret hE hm hF dX5_term_g1.2.2.2.2.2.2.2.2 h
    · refine r_aload_n hE 0 dX5_term_g0.2.2.2.2.2.2.2.2.1 rfl rfl ?_
      refine r_bipush (v := (42 : Int32)) hE dX5_term_g0.2.2.2.2.2.2.2.2.2.1 (by decide) ?_
      refine c_callVi hE hm [.int (42 : Int32)] [] ck_X5_88 (cr_rd hm rfl) (kc_rd_isSign h) (by omega) rfl rfl (Nat.le_of_ble_eq_true rfl) dX5_term_g0.2.2.2.2.2.2.2.2.2.2.1 (fun s4 r5 h => ?_)
      refine r_if_ne hE 32 dX5_term_g0.2.2.2.2.2.2.2.2.2.2.2.1 (by decide) h (fun h => ?_) (fun h => ?_)
      · exact kc_rd_term_32 ih0 hn hE hm hF ih _ _ _ h
      · refine r_aload_n hE 0 dX5_term_g0.2.2.2.2.2.2.2.2.2.2.2.2.1 rfl rfl ?_
        refine r_bipush (v := (47 : Int32)) hE dX5_term_g0.2.2.2.2.2.2.2.2.2.2.2.2.2.1 (by decide) ?_
        refine c_callVi hE hm [.int (47 : Int32)] [] ck_X5_88 (cr_rd hm rfl) (kc_rd_isSign h) (by omega) rfl rfl (Nat.le_of_ble_eq_true rfl) dX5_term_g0.2.2.2.2.2.2.2.2.2.2.2.2.2.2.1 (fun s6 r7 h => ?_)
        refine r_if_eq hE 45 dX5_term_g0.2.2.2.2.2.2.2.2.2.2.2.2.2.2.2 (by decide) h (fun h => ?_) (fun h => ?_)
        · refine r_iload_n hE 1 dX5_term_g1.2.2.2.2.2.2.2.1 rfl rfl ?_
          exact c_iret hE hm hF dX5_term_g1.2.2.2.2.2.2.2.2 h
        · exact kc_rd_term_32 ih0 hn hE hm hF ih _ _ _ h
def wcB_rd_term (R : TY_X5_arguments) (post : CS → Int32 → Prop) (σ : CS) : Prop := R.2.2.2.2.2.2.1 (fun (s8 : CS) (r9 : Int32) => ∃ k : Nat, wc_rd_term_7 R post k s8 r9 (0 : Int32)) σ
set_option maxRecDepth 20000 in
theorem kcB_rd_term {R : TY_X5_arguments} {n : Nat} (ih0 : RH_X5_arguments R n) (hn : 6 ≤ n) {l : Launch} {D : va_G} {G : gAd} {post : CS → Int32 → Prop} {σ : CS} (h : wcB_rd_term R post σ) : cMet l D G yX5_term cX5_term 3 (some .int) (n + 1) [.ref (G.1 600)] σ (pI post) := by
  unfold wcB_rd_term at h
  refine c_enter (own := RX5) (by decide +kernel) rfl [(0, .ref (G.1 600))] rfl (Nat.le_of_ble_eq_true rfl) ?_
  intro E hE hm hF
  have hN := hm.2.2.2.2.2.2.1
  refine r_aload_n hE 0 dX5_term_g0.1 rfl rfl ?_
  refine c_callVi hE hm [] [] ck_X5_205 (cr_rd hm rfl) (ih0.2.2.2.2.2.2.1 _ _ _ _ _ h) (Nat.le_refl _) rfl rfl (Nat.le_of_ble_eq_true rfl) dX5_term_g0.2.1 (fun s8 r9 h => ?_)
  refine r_istore_n hE [(1, .int r9), (0, .ref (G.1 600))] dX5_term_g0.2.2.1 rfl hN (by decide) rfl ?_
  refine r_iconst (v := (0 : Int32)) hE dX5_term_g0.2.2.2.1 (by decide) ?_
  refine r_istore_n hE [(2, .int (0 : Int32)), (1, .int r9), (0, .ref (G.1 600))] dX5_term_g0.2.2.2.2.1 rfl hN (by decide) rfl ?_
  refine r_pick [2, 1, 0] rfl ?_
  obtain ⟨k, h⟩ := h
  exact kc_rd_term_7 ih0 hn hE hm hF k _ _ _ h
def wr_X5_arguments : Nat → TY_X5_arguments
  | 0 => (fun _ _ _ => False, fun _ _ _ _ => False, fun _ _ => False, fun _ _ => False, fun _ _ _ _ => False, fun _ _ => False, fun _ _ => False, fun _ _ => False, fun _ _ => False)
  | n + 1 => (fun post σ a1 => wcB_rd_arguments (wr_X5_arguments n) post σ a1, fun post σ a1 a2 => wcB_rd_called (wr_X5_arguments n) post σ a1 a2, fun post σ => wcB_rd_core (wr_X5_arguments n) post σ, fun post σ => wcB_rd_exp (wr_X5_arguments n) post σ, fun post σ a1 a2 => wcB_rd_joined (wr_X5_arguments n) post σ a1 a2, fun post σ => wcB_rd_named (wr_X5_arguments n) post σ, fun post σ => wcB_rd_one (wr_X5_arguments n) post σ, fun post σ => wcB_rd_sum (wr_X5_arguments n) post σ, fun post σ => wcB_rd_term (wr_X5_arguments n) post σ)
theorem kr_X5_arguments : ∀ d : Nat, RH_X5_arguments (wr_X5_arguments d) (6 + d) := by
  intro d
  induction d with
  | zero => exact ⟨fun _ _ _ _ _ _ h => h.elim, fun _ _ _ _ _ _ _ h => h.elim, fun _ _ _ _ _ h => h.elim, fun _ _ _ _ _ h => h.elim, fun _ _ _ _ _ _ _ h => h.elim, fun _ _ _ _ _ h => h.elim, fun _ _ _ _ _ h => h.elim, fun _ _ _ _ _ h => h.elim, fun _ _ _ _ _ h => h.elim⟩
  | succ d ih => exact ⟨fun _ _ _ _ _ _ h => kcB_rd_arguments ih (Nat.le_add_right _ _) h, fun _ _ _ _ _ _ _ h => kcB_rd_called ih (Nat.le_add_right _ _) h, fun _ _ _ _ _ h => kcB_rd_core ih (Nat.le_add_right _ _) h, fun _ _ _ _ _ h => kcB_rd_exp ih (Nat.le_add_right _ _) h, fun _ _ _ _ _ _ _ h => kcB_rd_joined ih (Nat.le_add_right _ _) h, fun _ _ _ _ _ h => kcB_rd_named ih (Nat.le_add_right _ _) h, fun _ _ _ _ _ h => kcB_rd_one ih (Nat.le_add_right _ _) h, fun _ _ _ _ _ h => kcB_rd_sum ih (Nat.le_add_right _ _) h, fun _ _ _ _ _ h => kcB_rd_term ih (Nat.le_add_right _ _) h⟩
def wc_rd_arguments (post : CS → Int32 → Prop) (σ : CS) (a1 : Int32) : Prop := (wr_X5_arguments 200).1 post σ a1
theorem kc_rd_arguments {l : Launch} {D : va_G} {G : gAd} {post : CS → Int32 → Prop} {σ : CS} {a1 : Int32} (h : wc_rd_arguments post σ a1) : cMet l D G yX5_arguments cX5_arguments 6 (some .int) 206 [.ref (G.1 600), .int a1] σ (pI post) := (kr_X5_arguments 200).1 _ _ _ _ _ _ h
def wc_rd_called (post : CS → Int32 → Prop) (σ : CS) (a1 : Int32) (a2 : Int32) : Prop := (wr_X5_arguments 200).2.1 post σ a1 a2
theorem kc_rd_called {l : Launch} {D : va_G} {G : gAd} {post : CS → Int32 → Prop} {σ : CS} {a1 : Int32} {a2 : Int32} (h : wc_rd_called post σ a1 a2) : cMet l D G yX5_called cX5_called 7 (some .int) 206 [.ref (G.1 600), .int a1, .int a2] σ (pI post) := (kr_X5_arguments 200).2.1 _ _ _ _ _ _ _ h
def wc_rd_core (post : CS → Int32 → Prop) (σ : CS) : Prop := (wr_X5_arguments 200).2.2.1 post σ
theorem kc_rd_core {l : Launch} {D : va_G} {G : gAd} {post : CS → Int32 → Prop} {σ : CS} (h : wc_rd_core post σ) : cMet l D G yX5_core cX5_core 2 (some .int) 206 [.ref (G.1 600)] σ (pI post) := (kr_X5_arguments 200).2.2.1 _ _ _ _ _ h
def wc_rd_exp (post : CS → Int32 → Prop) (σ : CS) : Prop := (wr_X5_arguments 200).2.2.2.1 post σ
theorem kc_rd_exp {l : Launch} {D : va_G} {G : gAd} {post : CS → Int32 → Prop} {σ : CS} (h : wc_rd_exp post σ) : cMet l D G yX5_exp cX5_exp 2 (some .int) 206 [.ref (G.1 600)] σ (pI post) := (kr_X5_arguments 200).2.2.2.1 _ _ _ _ _ h
def wc_rd_joined (post : CS → Int32 → Prop) (σ : CS) (a1 : Int32) (a2 : Int32) : Prop := (wr_X5_arguments 200).2.2.2.2.1 post σ a1 a2
theorem kc_rd_joined {l : Launch} {D : va_G} {G : gAd} {post : CS → Int32 → Prop} {σ : CS} {a1 : Int32} {a2 : Int32} (h : wc_rd_joined post σ a1 a2) : cMet l D G yX5_joined cX5_joined 4 (some .int) 206 [.ref (G.1 600), .int a1, .int a2] σ (pI post) := (kr_X5_arguments 200).2.2.2.2.1 _ _ _ _ _ _ _ h
def wc_rd_named (post : CS → Int32 → Prop) (σ : CS) : Prop := (wr_X5_arguments 200).2.2.2.2.2.1 post σ
theorem kc_rd_named {l : Launch} {D : va_G} {G : gAd} {post : CS → Int32 → Prop} {σ : CS} (h : wc_rd_named post σ) : cMet l D G yX5_named cX5_named 4 (some .int) 206 [.ref (G.1 600)] σ (pI post) := (kr_X5_arguments 200).2.2.2.2.2.1 _ _ _ _ _ h
def wc_rd_one (post : CS → Int32 → Prop) (σ : CS) : Prop := (wr_X5_arguments 200).2.2.2.2.2.2.1 post σ
theorem kc_rd_one {l : Launch} {D : va_G} {G : gAd} {post : CS → Int32 → Prop} {σ : CS} (h : wc_rd_one post σ) : cMet l D G yX5_one cX5_one 5 (some .int) 206 [.ref (G.1 600)] σ (pI post) := (kr_X5_arguments 200).2.2.2.2.2.2.1 _ _ _ _ _ h
def wc_rd_sum (post : CS → Int32 → Prop) (σ : CS) : Prop := (wr_X5_arguments 200).2.2.2.2.2.2.2.1 post σ
theorem kc_rd_sum {l : Launch} {D : va_G} {G : gAd} {post : CS → Int32 → Prop} {σ : CS} (h : wc_rd_sum post σ) : cMet l D G yX5_sum cX5_sum 3 (some .int) 206 [.ref (G.1 600)] σ (pI post) := (kr_X5_arguments 200).2.2.2.2.2.2.2.1 _ _ _ _ _ h
def wc_rd_term (post : CS → Int32 → Prop) (σ : CS) : Prop := (wr_X5_arguments 200).2.2.2.2.2.2.2.2 post σ
theorem kc_rd_term {l : Launch} {D : va_G} {G : gAd} {post : CS → Int32 → Prop} {σ : CS} (h : wc_rd_term post σ) : cMet l D G yX5_term cX5_term 3 (some .int) 206 [.ref (G.1 600)] σ (pI post) := (kr_X5_arguments 200).2.2.2.2.2.2.2.2 _ _ _ _ _ h
/-! rd_want -/
def wc_rd_want (post : CS → Prop) (σ : CS) (a1 : Int32) : Prop := wc_rd_isSign (fun (s1 : CS) (r2 : Int32) => ((r2 = (0 : Int32)) → (wc_rd_misplaced (fun (s3 : CS) (r4 : Int32) => wc_rd_noteFault (fun (s5 : CS) => post s5) s3 r4 (c_rd_at s3)) s1)) ∧ ((¬ (r2 = (0 : Int32))) → (wc_rd_next (fun (s6 : CS) => post s6) s1))) σ a1
set_option maxRecDepth 20000 in
theorem kc_rd_want {l : Launch} {D : va_G} {G : gAd} {post : CS → Prop} {σ : CS} {a1 : Int32} (h : wc_rd_want post σ a1) : cMet l D G yX5_want cX5_want 2 none 6 [.ref (G.1 600), .int a1] σ (pV post) := by
  unfold wc_rd_want at h
  refine c_enter (own := RX5) (by decide +kernel) rfl [(0, .ref (G.1 600)), (1, .int a1)] rfl (Nat.le_of_ble_eq_true rfl) ?_
  intro E hE hm hF
  have hN := hm.2.2.2.2.2.2.1
  refine r_aload_n hE 0 dX5_want_g0.1 rfl rfl ?_
  refine r_iload_n hE 1 dX5_want_g0.2.1 rfl rfl ?_
  refine c_callVi hE hm [.int a1] [] ck_X5_88 (cr_rd hm rfl) (kc_rd_isSign h) (by decide) rfl rfl (Nat.le_of_ble_eq_true rfl) dX5_want_g0.2.2.1 (fun s1 r2 h => ?_)
  refine r_if_eq hE 15 dX5_want_g0.2.2.2.1 (by decide) h (fun h => ?_) (fun h => ?_)
  · refine r_aload_n hE 0 dX5_want_g0.2.2.2.2.2.2.2.1 rfl rfl ?_
    refine r_aload_n hE 0 dX5_want_g0.2.2.2.2.2.2.2.2.1 rfl rfl ?_
    refine c_callVi hE hm [] [.ref (G.1 600)] ck_X5_68 (cr_rd hm rfl) (kc_rd_misplaced h) (by decide) rfl rfl (Nat.le_of_ble_eq_true rfl) dX5_want_g0.2.2.2.2.2.2.2.2.2.1 (fun s3 r4 h => ?_)
    refine r_aload_n hE 0 dX5_want_g0.2.2.2.2.2.2.2.2.2.2.1 rfl rfl ?_
    refine cg_rd_at hE hm fk_X5_9 dX5_want_g0.2.2.2.2.2.2.2.2.2.2.2.1 ?_
    refine c_callVv hE hm [.int r4, .int (c_rd_at s3)] [] ck_X5_71 (cr_rd hm rfl) (kc_rd_noteFault h) (by decide) rfl rfl (Nat.le_of_ble_eq_true rfl) dX5_want_g0.2.2.2.2.2.2.2.2.2.2.2.2.1 (fun s5 h => ?_)
    exact c_vret hE hm hF dX5_want_g0.2.2.2.2.2.2.2.2.2.2.2.2.2 h
  · refine r_aload_n hE 0 dX5_want_g0.2.2.2.2.1 rfl rfl ?_
    refine c_callVv hE hm [] [] ck_X5_40 (cr_rd hm rfl) (kc_rd_next h) (by decide) rfl rfl (Nat.le_of_ble_eq_true rfl) dX5_want_g0.2.2.2.2.2.1 (fun s6 h => ?_)
    refine r_goto hE 27 dX5_want_g0.2.2.2.2.2.2.1 (by decide) ?_
    exact c_vret hE hm hF dX5_want_g0.2.2.2.2.2.2.2.2.2.2.2.2.2 h
/-! rd_plain -/
def wc_rd_plain (post : CS → Int32 → Prop) (σ : CS) (a1 : Int32) : Prop := wc_rd_newNode (fun (s1 : CS) (r2 : Int32) => wc_rd_next (fun (s3 : CS) => c_rd_figure s3 = 400 ∧ (wc_rd_exp (fun (s4 : CS) (r5 : Int32) => wc_sp_hang (fun (s6 : CS) => wc_rd_want (fun (s7 : CS) => post s7 r2) s6 (59 : Int32)) s4 r2 r5) s3)) s1) σ a1 (0 : Int32)
set_option maxRecDepth 20000 in
theorem kc_rd_plain {l : Launch} {D : va_G} {G : gAd} {post : CS → Int32 → Prop} {σ : CS} {a1 : Int32} (h : wc_rd_plain post σ a1) : cMet l D G yX5_plain cX5_plain 3 (some .int) 207 [.ref (G.1 600), .int a1] σ (pI post) := by
  unfold wc_rd_plain at h
  refine c_enter (own := RX5) (by decide +kernel) rfl [(0, .ref (G.1 600)), (1, .int a1)] rfl (Nat.le_of_ble_eq_true rfl) ?_
  intro E hE hm hF
  have hN := hm.2.2.2.2.2.2.1
  refine r_aload_n hE 0 dX5_plain_g0.1 rfl rfl ?_
  refine r_iload_n hE 1 dX5_plain_g0.2.1 rfl rfl ?_
  refine r_iconst (v := (0 : Int32)) hE dX5_plain_g0.2.2.1 (by decide) ?_
  refine c_callVi hE hm [.int a1, .int (0 : Int32)] [] ck_X5_174 (cr_rd hm rfl) (kc_rd_newNode h) (by decide) rfl rfl (Nat.le_of_ble_eq_true rfl) dX5_plain_g0.2.2.2.1 (fun s1 r2 h => ?_)
  refine r_istore_n hE [(2, .int r2), (0, .ref (G.1 600)), (1, .int a1)] dX5_plain_g0.2.2.2.2.1 rfl hN (by decide) rfl ?_
  refine r_aload_n hE 1 dX5_plain_g0.2.2.2.2.2.1 rfl rfl ?_
  refine c_callVv hE hm [] [] ck_X5_40 (cr_rd hm rfl) (kc_rd_next h) (by decide) rfl rfl (Nat.le_of_ble_eq_true rfl) dX5_plain_g0.2.2.2.2.2.2.1 (fun s3 h => ?_)
  refine r_aload_n hE 1 dX5_plain_g0.2.2.2.2.2.2.2.1 rfl rfl ?_
  obtain ⟨hj, h⟩ := h
  refine cg_rd_figure hE hm fk_X5_36 dX5_plain_g0.2.2.2.2.2.2.2.2.1 hj ?_
  refine r_iload_n hE 0 dX5_plain_g0.2.2.2.2.2.2.2.2.2.1 rfl rfl ?_
  refine r_aload_n hE 1 dX5_plain_g0.2.2.2.2.2.2.2.2.2.2.1 rfl rfl ?_
  refine c_callVi hE hm [] [.int r2, .ref (G.1 400)] ck_X5_177 (cr_rd hm rfl) (kc_rd_exp h) (by decide) rfl rfl (Nat.le_of_ble_eq_true rfl) dX5_plain_g0.2.2.2.2.2.2.2.2.2.2.2.1 (fun s4 r5 h => ?_)
  refine c_callVv hE hm [.int r2, .int r5] [] ck_X5_180 (cr_sp hm rfl) (kc_sp_hang h) (by decide) rfl rfl (Nat.le_of_ble_eq_true rfl) dX5_plain_g0.2.2.2.2.2.2.2.2.2.2.2.2.1 (fun s6 h => ?_)
  refine r_aload_n hE 1 dX5_plain_g0.2.2.2.2.2.2.2.2.2.2.2.2.2.1 rfl rfl ?_
  refine r_bipush (v := (59 : Int32)) hE dX5_plain_g0.2.2.2.2.2.2.2.2.2.2.2.2.2.2.1 (by decide) ?_
  refine c_callVv hE hm [.int (59 : Int32)] [] ck_X5_132 (cr_rd hm rfl) (kc_rd_want h) (by decide) rfl rfl (Nat.le_of_ble_eq_true rfl) dX5_plain_g0.2.2.2.2.2.2.2.2.2.2.2.2.2.2.2 (fun s7 h => ?_)
  refine r_iload_n hE 0 dX5_plain_g1.1 rfl rfl ?_
  exact c_iret hE hm hF dX5_plain_g1.2 h
/-! sp_tell -/
def wc_sp_tell (post : CS → Int32 → Prop) (σ : CS) (a1 : Int32) (a2 : Int32) : Prop := wc_sp_namesIn (fun (s1 : CS) (r2 : Int32) => wc_SX12_inside (fun (s3 : CS) (r4 : Int32) => ((r4 = (0 : Int32)) → (post s3 (-1 : Int32))) ∧ ((¬ (r4 = (0 : Int32))) → (wc_SX12_inside (fun (s5 : CS) (r6 : Int32) => ((¬ (r6 = (0 : Int32))) → (vp_in ((a1 * (20 : Int32)) + r2) 260 ∧ (∀ s7 : CS, s7 = c_sp_nameAt_s s5 ((a1 * (20 : Int32)) + r2).toNatClampNeg a2 → vp_in a1 13 ∧ (vp_in a1 13 ∧ (∀ s8 : CS, s8 = c_sp_names_s s7 a1.toNatClampNeg ((c_sp_names s7 a1.toNatClampNeg) + (1 : Int32)) → post s8 r2))))) ∧ ((r6 = (0 : Int32)) → (post s5 (-1 : Int32)))) s3 r2 (20 : Int32)))) s1 a1 (13 : Int32)) σ a1
set_option maxRecDepth 20000 in
theorem kc_sp_tell {l : Launch} {D : va_G} {G : gAd} {post : CS → Int32 → Prop} {σ : CS} {a1 : Int32} {a2 : Int32} (h : wc_sp_tell post σ a1 a2) : cMet l D G yX1_tell cX1_tell 4 (some .int) 3 [.ref (G.1 400), .int a1, .int a2] σ (pI post) := by
  unfold wc_sp_tell at h
  refine c_enter (own := RX1) (by decide +kernel) rfl [(0, .ref (G.1 400)), (1, .int a1), (2, .int a2)] rfl (Nat.le_of_ble_eq_true rfl) ?_
  intro E hE hm hF
  have hN := hm.2.2.2.2.2.2.1
  refine r_aload_n hE 0 dX1_tell_g0.1 rfl rfl ?_
  refine r_iload_n hE 1 dX1_tell_g0.2.1 rfl rfl ?_
  refine c_callVi hE hm [.int a1] [] ck_X1_78 (cr_sp hm rfl) (kc_sp_namesIn h) (by decide) rfl rfl (Nat.le_of_ble_eq_true rfl) dX1_tell_g0.2.2.1 (fun s1 r2 h => ?_)
  refine r_istore_n hE [(3, .int r2), (0, .ref (G.1 400)), (1, .int a1), (2, .int a2)] dX1_tell_g0.2.2.2.1 rfl hN (by decide) rfl ?_
  refine r_iload_n hE 2 dX1_tell_g0.2.2.2.2.1 rfl rfl ?_
  refine r_aload_n hE 1 dX1_tell_g0.2.2.2.2.2.1 rfl rfl ?_
  refine cg_sp_names hE hm fk_X1_53 dX1_tell_g0.2.2.2.2.2.2.1 ?_
  refine cn_sp_names hE hm dX1_tell_g0.2.2.2.2.2.2.2.1 ?_
  refine c_callSNi hE hm [.int a1, .int (13 : Int32)] [] ck_X1_74 cw_X1_74 (kc_SX12_inside h) (by decide) rfl rfl (Nat.le_of_ble_eq_true rfl) dX1_tell_g0.2.2.2.2.2.2.2.2.1 (fun s3 r4 h => ?_)
  refine r_if_eq hE 27 dX1_tell_g0.2.2.2.2.2.2.2.2.2.1 (by decide) h (fun h => ?_) (fun h => ?_)
  · refine r_iconst (v := (-1 : Int32)) hE dX1_tell_g0.2.2.2.2.2.2.2.2.2.2.2.2.2.2.1 (by decide) ?_
    exact c_iret hE hm hF dX1_tell_g0.2.2.2.2.2.2.2.2.2.2.2.2.2.2.2 h
  · refine r_iload_n hE 0 dX1_tell_g0.2.2.2.2.2.2.2.2.2.2.1 rfl rfl ?_
    refine r_bipush (v := (20 : Int32)) hE dX1_tell_g0.2.2.2.2.2.2.2.2.2.2.2.1 (by decide) ?_
    refine c_callSNi hE hm [.int r2, .int (20 : Int32)] [] ck_X1_74 cw_X1_74 (kc_SX12_inside h) (by decide) rfl rfl (Nat.le_of_ble_eq_true rfl) dX1_tell_g0.2.2.2.2.2.2.2.2.2.2.2.2.1 (fun s5 r6 h => ?_)
    refine r_if_ne hE 29 dX1_tell_g0.2.2.2.2.2.2.2.2.2.2.2.2.2.1 (by decide) h (fun h => ?_) (fun h => ?_)
    · refine r_aload_n hE 1 dX1_tell_g1.1 rfl rfl ?_
      refine cg_sp_nameAt hE hm fk_X1_50 dX1_tell_g1.2.1 ?_
      refine r_iload_n hE 2 dX1_tell_g1.2.2.1 rfl rfl ?_
      refine r_bipush (v := (20 : Int32)) hE dX1_tell_g1.2.2.2.1 (by decide) ?_
      refine r_imul hE dX1_tell_g1.2.2.2.2.1 ?_
      refine r_iload_n hE 0 dX1_tell_g1.2.2.2.2.2.1 rfl rfl ?_
      refine r_iadd hE dX1_tell_g1.2.2.2.2.2.2.1 ?_
      refine r_iload_n hE 3 dX1_tell_g1.2.2.2.2.2.2.2.1 rfl rfl ?_
      obtain ⟨hi, h⟩ := h
      refine cs_sp_nameAt hE hm dX1_tell_g1.2.2.2.2.2.2.2.2.1 hi h (fun s7 h => ?_)
      refine r_aload_n hE 1 dX1_tell_g1.2.2.2.2.2.2.2.2.2.1 rfl rfl ?_
      refine cg_sp_names hE hm fk_X1_53 dX1_tell_g1.2.2.2.2.2.2.2.2.2.2.1 ?_
      refine r_iload_n hE 2 dX1_tell_g1.2.2.2.2.2.2.2.2.2.2.2.1 rfl rfl ?_
      refine r_dup2 hE dX1_tell_g1.2.2.2.2.2.2.2.2.2.2.2.2.1 rfl rfl ?_
      obtain ⟨hi, h⟩ := h
      refine cl_sp_names hE hm dX1_tell_g1.2.2.2.2.2.2.2.2.2.2.2.2.2.1 hi ?_
      refine r_iconst (v := (1 : Int32)) hE dX1_tell_g1.2.2.2.2.2.2.2.2.2.2.2.2.2.2.1 (by decide) ?_
      refine r_iadd hE dX1_tell_g1.2.2.2.2.2.2.2.2.2.2.2.2.2.2.2 ?_
      obtain ⟨hi, h⟩ := h
      refine cs_sp_names hE hm dX1_tell_g2.1 hi h (fun s8 h => ?_)
      refine r_iload_n hE 0 dX1_tell_g2.2.1 rfl rfl ?_
      exact c_iret hE hm hF dX1_tell_g2.2.2 h
    · refine r_iconst (v := (-1 : Int32)) hE dX1_tell_g0.2.2.2.2.2.2.2.2.2.2.2.2.2.2.1 (by decide) ?_
      exact c_iret hE hm hF dX1_tell_g0.2.2.2.2.2.2.2.2.2.2.2.2.2.2.2 h
/-! rd_telling -/
def wc_rd_telling_200 (post : CS → Int32 → Prop) (σ : CS) (v2 : Int32) : Prop := wc_rd_want (fun (s1 : CS) => post s1 v2) σ (59 : Int32)
set_option maxRecDepth 20000 in
theorem kc_rd_telling_200  {E : gEnv} {l : Launch} {D : va_G} {G : gAd} {post : CS → Int32 → Prop} (hE : gOK E cX5_telling RX5 (some .int) 207) (hm : cOK E l D G (pI post) 5) (hF : gFin E) (σ : CS) (v2 : Int32) (h : wc_rd_telling_200 post σ v2) : GW E (cW G σ) 200 [(0, .ref (G.1 600)), (2, .int v2)] [] := by
  unfold wc_rd_telling_200 at h
  have hN := hm.2.2.2.2.2.2.1
  refine r_aload_n hE 0 dX5_telling_g6.2.2.2.2.2.2.2.2.1 rfl rfl ?_
  refine r_bipush (v := (59 : Int32)) hE dX5_telling_g6.2.2.2.2.2.2.2.2.2.1 (by decide) ?_
  refine c_callVv hE hm [.int (59 : Int32)] [] ck_X5_132 (cr_rd hm rfl) (kc_rd_want h) (by decide) rfl rfl (Nat.le_of_ble_eq_true rfl) dX5_telling_g6.2.2.2.2.2.2.2.2.2.2.1 (fun s1 h => ?_)
  refine r_iload_n hE 1 dX5_telling_g6.2.2.2.2.2.2.2.2.2.2.2.1 rfl rfl ?_
  exact c_iret hE hm hF dX5_telling_g6.2.2.2.2.2.2.2.2.2.2.2.2 h
def wc_rd_telling_197 (post : CS → Int32 → Prop) (σ : CS) (v2 : Int32) (t1 : Int32) (t2 : Int32) (t3 : Int32) : Prop := wc_sp_become (fun (s2 : CS) => wc_rd_telling_200 post s2 v2) σ t1 t2 t3
set_option maxRecDepth 20000 in
theorem kc_rd_telling_197  {E : gEnv} {l : Launch} {D : va_G} {G : gAd} {post : CS → Int32 → Prop} (hE : gOK E cX5_telling RX5 (some .int) 207) (hm : cOK E l D G (pI post) 5) (hF : gFin E) (σ : CS) (v2 : Int32) (t1 : Int32) (t2 : Int32) (t3 : Int32) (h : wc_rd_telling_197 post σ v2 t1 t2 t3) : GW E (cW G σ) 197 [(0, .ref (G.1 600)), (2, .int v2)] [.int t3, .int t2, .int t1, .ref (G.1 400)] := by
  unfold wc_rd_telling_197 at h
  have hN := hm.2.2.2.2.2.2.1
  refine c_callVv hE hm [.int t1, .int t2, .int t3] [] ck_X5_192 (cr_sp hm rfl) (kc_sp_become h) (by decide) rfl rfl (Nat.le_of_ble_eq_true rfl) dX5_telling_g6.2.2.2.2.2.2.2.1 (fun s2 h => ?_)
  exact kc_rd_telling_200 hE hm hF _ _ h
def wc_rd_telling_196 (post : CS → Int32 → Prop) (σ : CS) (v2 : Int32) (v3 : Int32) (t1 : Int32) (t2 : Int32) : Prop := wc_rd_telling_197 post σ v2 t1 t2 v3
set_option maxRecDepth 20000 in
theorem kc_rd_telling_196  {E : gEnv} {l : Launch} {D : va_G} {G : gAd} {post : CS → Int32 → Prop} (hE : gOK E cX5_telling RX5 (some .int) 207) (hm : cOK E l D G (pI post) 5) (hF : gFin E) (σ : CS) (v2 : Int32) (v3 : Int32) (t1 : Int32) (t2 : Int32) (h : wc_rd_telling_196 post σ v2 v3 t1 t2) : GW E (cW G σ) 196 [(0, .ref (G.1 600)), (2, .int v2), (3, .int v3)] [.int t2, .int t1, .ref (G.1 400)] := by
  unfold wc_rd_telling_196 at h
  have hN := hm.2.2.2.2.2.2.1
  refine r_iload_n hE 2 dX5_telling_g6.2.2.2.2.2.2.1 rfl rfl ?_
  refine r_pick [0, 1] rfl ?_
  exact kc_rd_telling_197 hE hm hF _ _ _ _ _ h
def wc_rd_telling_145 (post : CS → Int32 → Prop) (σ : CS) (v1 : Int32) (v2 : Int32) (v3 : Int32) : Prop := wc_rd_want (fun (s3 : CS) => c_rd_figure s3 = 400 ∧ (wc_rd_exp (fun (s4 : CS) (r5 : Int32) => wc_sp_hang (fun (s6 : CS) => c_rd_figure s6 = 400 ∧ (((¬ (v3 = (-1 : Int32))) → (wc_rd_telling_196 post s6 v2 v3 v2 (0 : Int32))) ∧ ((v3 = (-1 : Int32)) → (((¬ ((c_rd_fault s6) = (0 : Int32))) → (wc_rd_telling_196 post s6 v2 v3 v2 (0 : Int32))) ∧ (((c_rd_fault s6) = (0 : Int32)) → (c_rd_figure s6 = 400 ∧ (wc_sp_tell (fun (s7 : CS) (r8 : Int32) => wc_rd_telling_197 post s7 v2 v2 (0 : Int32) r8) s6 (c_rd_scope s6) v1))))))) s4 v2 r5) s3)) σ (61 : Int32)
set_option maxRecDepth 20000 in
theorem kc_rd_telling_145  {E : gEnv} {l : Launch} {D : va_G} {G : gAd} {post : CS → Int32 → Prop} (hE : gOK E cX5_telling RX5 (some .int) 207) (hm : cOK E l D G (pI post) 5) (hF : gFin E) (σ : CS) (v1 : Int32) (v2 : Int32) (v3 : Int32) (h : wc_rd_telling_145 post σ v1 v2 v3) : GW E (cW G σ) 145 [(0, .ref (G.1 600)), (1, .int v1), (2, .int v2), (3, .int v3)] [] := by
  unfold wc_rd_telling_145 at h
  have hN := hm.2.2.2.2.2.2.1
  refine r_aload_n hE 0 dX5_telling_g4.2.2.2.2.2.2.2.2.2.2.2.2.1 rfl rfl ?_
  refine r_bipush (v := (61 : Int32)) hE dX5_telling_g4.2.2.2.2.2.2.2.2.2.2.2.2.2.1 (by decide) ?_
  refine c_callVv hE hm [.int (61 : Int32)] [] ck_X5_132 (cr_rd hm rfl) (kc_rd_want h) (by decide) rfl rfl (Nat.le_of_ble_eq_true rfl) dX5_telling_g4.2.2.2.2.2.2.2.2.2.2.2.2.2.2.1 (fun s3 h => ?_)
  refine r_aload_n hE 0 dX5_telling_g4.2.2.2.2.2.2.2.2.2.2.2.2.2.2.2 rfl rfl ?_
  obtain ⟨hj, h⟩ := h
  refine cg_rd_figure hE hm fk_X5_36 dX5_telling_g5.1 hj ?_
  refine r_iload_n hE 2 dX5_telling_g5.2.1 rfl rfl ?_
  refine r_aload_n hE 0 dX5_telling_g5.2.2.1 rfl rfl ?_
  refine c_callVi hE hm [] [.int v2, .ref (G.1 400)] ck_X5_177 (cr_rd hm rfl) (kc_rd_exp h) (by decide) rfl rfl (Nat.le_of_ble_eq_true rfl) dX5_telling_g5.2.2.2.1 (fun s4 r5 h => ?_)
  refine c_callVv hE hm [.int v2, .int r5] [] ck_X5_180 (cr_sp hm rfl) (kc_sp_hang h) (by decide) rfl rfl (Nat.le_of_ble_eq_true rfl) dX5_telling_g5.2.2.2.2.1 (fun s6 h => ?_)
  refine r_aload_n hE 0 dX5_telling_g5.2.2.2.2.2.1 rfl rfl ?_
  obtain ⟨hj, h⟩ := h
  refine cg_rd_figure hE hm fk_X5_36 dX5_telling_g5.2.2.2.2.2.2.1 hj ?_
  refine r_iload_n hE 2 dX5_telling_g5.2.2.2.2.2.2.2.1 rfl rfl ?_
  refine r_iconst (v := (0 : Int32)) hE dX5_telling_g5.2.2.2.2.2.2.2.2.1 (by decide) ?_
  refine r_iload_n hE 3 dX5_telling_g5.2.2.2.2.2.2.2.2.2.1 rfl rfl ?_
  refine r_iconst (v := (-1 : Int32)) hE dX5_telling_g5.2.2.2.2.2.2.2.2.2.2.1 (by decide) ?_
  refine r_icmp_ne hE 196 dX5_telling_g5.2.2.2.2.2.2.2.2.2.2.2.1 (by decide) h (fun h => ?_) (fun h => ?_)
  · refine r_pick [0, 2, 3] rfl ?_
    exact kc_rd_telling_196 hE hm hF _ _ _ _ _ h
  · refine r_aload_n hE 0 dX5_telling_g5.2.2.2.2.2.2.2.2.2.2.2.2.1 rfl rfl ?_
    refine cg_rd_fault hE hm fk_X5_30 dX5_telling_g5.2.2.2.2.2.2.2.2.2.2.2.2.2.1 ?_
    refine r_if_ne hE 196 dX5_telling_g5.2.2.2.2.2.2.2.2.2.2.2.2.2.2.1 (by decide) h (fun h => ?_) (fun h => ?_)
    · refine r_pick [0, 2, 3] rfl ?_
      exact kc_rd_telling_196 hE hm hF _ _ _ _ _ h
    · refine r_aload_n hE 0 dX5_telling_g5.2.2.2.2.2.2.2.2.2.2.2.2.2.2.2 rfl rfl ?_
      obtain ⟨hj, h⟩ := h
      refine cg_rd_figure hE hm fk_X5_36 dX5_telling_g6.1 hj ?_
      refine r_aload_n hE 0 dX5_telling_g6.2.1 rfl rfl ?_
      refine cg_rd_scope hE hm fk_X5_24 dX5_telling_g6.2.2.1 ?_
      refine r_iload_n hE 1 dX5_telling_g6.2.2.2.1 rfl rfl ?_
      refine c_callVi hE hm [.int (c_rd_scope s6), .int v1] [.int (0 : Int32), .int v2, .ref (G.1 400)] ck_X5_153 (cr_sp hm rfl) (kc_sp_tell h) (by decide) rfl rfl (Nat.le_of_ble_eq_true rfl) dX5_telling_g6.2.2.2.2.1 (fun s7 r8 h => ?_)
      refine r_goto hE 197 dX5_telling_g6.2.2.2.2.2.1 (by decide) ?_
      refine r_pick [0, 2] rfl ?_
      exact kc_rd_telling_197 hE hm hF _ _ _ _ _ h
def wc_rd_telling_49 (post : CS → Int32 → Prop) (σ : CS) (v2 : Int32) (v3 : Int32) : Prop := c_rd_figure σ = 400 ∧ (wc_sp_become (fun (s9 : CS) => wc_rd_open (fun (s10 : CS) => wc_rd_exp (fun (s11 : CS) (r12 : Int32) => wc_rd_close (fun (s13 : CS) => wc_rd_want (fun (s14 : CS) => c_rd_figure s14 = 400 ∧ (wc_sp_hang (fun (s15 : CS) => c_rd_figure s15 = 400 ∧ (wc_rd_exp (fun (s16 : CS) (r17 : Int32) => wc_sp_follow (fun (s18 : CS) => wc_rd_telling_200 post s18 v2) s16 r12 r17) s15)) s14 v2 r12)) s13 (61 : Int32)) s11 (93 : Int32)) s10) s9 (91 : Int32)) σ v2 (1 : Int32) v3)
set_option maxRecDepth 20000 in
theorem kc_rd_telling_49  {E : gEnv} {l : Launch} {D : va_G} {G : gAd} {post : CS → Int32 → Prop} (hE : gOK E cX5_telling RX5 (some .int) 207) (hm : cOK E l D G (pI post) 5) (hF : gFin E) (σ : CS) (v2 : Int32) (v3 : Int32) (h : wc_rd_telling_49 post σ v2 v3) : GW E (cW G σ) 49 [(0, .ref (G.1 600)), (2, .int v2), (3, .int v3)] [] := by
  unfold wc_rd_telling_49 at h
  have hN := hm.2.2.2.2.2.2.1
  refine r_aload_n hE 0 dX5_telling_g1.2.2.2.2.2.2.2.2.2.2.2.2.1 rfl rfl ?_
  obtain ⟨hj, h⟩ := h
  refine cg_rd_figure hE hm fk_X5_36 dX5_telling_g1.2.2.2.2.2.2.2.2.2.2.2.2.2.1 hj ?_
  refine r_iload_n hE 1 dX5_telling_g1.2.2.2.2.2.2.2.2.2.2.2.2.2.2.1 rfl rfl ?_
  refine r_iconst (v := (1 : Int32)) hE dX5_telling_g1.2.2.2.2.2.2.2.2.2.2.2.2.2.2.2 (by decide) ?_
  refine r_iload_n hE 2 dX5_telling_g2.1 rfl rfl ?_
  refine c_callVv hE hm [.int v2, .int (1 : Int32), .int v3] [] ck_X5_192 (cr_sp hm rfl) (kc_sp_become h) (by decide) rfl rfl (Nat.le_of_ble_eq_true rfl) dX5_telling_g2.2.1 (fun s9 h => ?_)
  refine r_aload_n hE 0 dX5_telling_g2.2.2.1 rfl rfl ?_
  refine r_bipush (v := (91 : Int32)) hE dX5_telling_g2.2.2.2.1 (by decide) ?_
  refine c_callVv hE hm [.int (91 : Int32)] [] ck_X5_156 (cr_rd hm rfl) (kc_rd_open h) (by decide) rfl rfl (Nat.le_of_ble_eq_true rfl) dX5_telling_g2.2.2.2.2.1 (fun s10 h => ?_)
  refine r_aload_n hE 0 dX5_telling_g2.2.2.2.2.2.1 rfl rfl ?_
  refine c_callVi hE hm [] [] ck_X5_177 (cr_rd hm rfl) (kc_rd_exp h) (by decide) rfl rfl (Nat.le_of_ble_eq_true rfl) dX5_telling_g2.2.2.2.2.2.2.1 (fun s11 r12 h => ?_)
  refine r_istore hE [(4, .int r12), (0, .ref (G.1 600)), (2, .int v2), (3, .int v3)] dX5_telling_g2.2.2.2.2.2.2.2.1 hN (by decide) rfl ?_
  refine r_aload_n hE 1 dX5_telling_g2.2.2.2.2.2.2.2.2.1 rfl rfl ?_
  refine r_bipush (v := (93 : Int32)) hE dX5_telling_g2.2.2.2.2.2.2.2.2.2.1 (by decide) ?_
  refine c_callVv hE hm [.int (93 : Int32)] [] ck_X5_159 (cr_rd hm rfl) (kc_rd_close h) (by decide) rfl rfl (Nat.le_of_ble_eq_true rfl) dX5_telling_g2.2.2.2.2.2.2.2.2.2.2.1 (fun s13 h => ?_)
  refine r_aload_n hE 1 dX5_telling_g2.2.2.2.2.2.2.2.2.2.2.2.1 rfl rfl ?_
  refine r_bipush (v := (61 : Int32)) hE dX5_telling_g2.2.2.2.2.2.2.2.2.2.2.2.2.1 (by decide) ?_
  refine c_callVv hE hm [.int (61 : Int32)] [] ck_X5_132 (cr_rd hm rfl) (kc_rd_want h) (by decide) rfl rfl (Nat.le_of_ble_eq_true rfl) dX5_telling_g2.2.2.2.2.2.2.2.2.2.2.2.2.2.1 (fun s14 h => ?_)
  refine r_aload_n hE 1 dX5_telling_g2.2.2.2.2.2.2.2.2.2.2.2.2.2.2.1 rfl rfl ?_
  obtain ⟨hj, h⟩ := h
  refine cg_rd_figure hE hm fk_X5_36 dX5_telling_g2.2.2.2.2.2.2.2.2.2.2.2.2.2.2.2 hj ?_
  refine r_iload_n hE 2 dX5_telling_g3.1 rfl rfl ?_
  refine r_iload hE 0 dX5_telling_g3.2.1 rfl ?_
  refine c_callVv hE hm [.int v2, .int r12] [] ck_X5_180 (cr_sp hm rfl) (kc_sp_hang h) (by decide) rfl rfl (Nat.le_of_ble_eq_true rfl) dX5_telling_g3.2.2.1 (fun s15 h => ?_)
  refine r_aload_n hE 1 dX5_telling_g3.2.2.2.1 rfl rfl ?_
  obtain ⟨hj, h⟩ := h
  refine cg_rd_figure hE hm fk_X5_36 dX5_telling_g3.2.2.2.2.1 hj ?_
  refine r_iload hE 0 dX5_telling_g3.2.2.2.2.2.1 rfl ?_
  refine r_aload_n hE 1 dX5_telling_g3.2.2.2.2.2.2.1 rfl rfl ?_
  refine c_callVi hE hm [] [.int r12, .ref (G.1 400)] ck_X5_177 (cr_rd hm rfl) (kc_rd_exp h) (by decide) rfl rfl (Nat.le_of_ble_eq_true rfl) dX5_telling_g3.2.2.2.2.2.2.2.1 (fun s16 r17 h => ?_)
  refine c_callVv hE hm [.int r12, .int r17] [] ck_X5_165 (cr_sp hm rfl) (kc_sp_follow h) (by decide) rfl rfl (Nat.le_of_ble_eq_true rfl) dX5_telling_g3.2.2.2.2.2.2.2.2.1 (fun s18 h => ?_)
  refine r_goto hE 200 dX5_telling_g3.2.2.2.2.2.2.2.2.2.1 (by decide) ?_
  refine r_pick [1, 2] rfl ?_
  exact kc_rd_telling_200 hE hm hF _ _ h
def wc_rd_telling (post : CS → Int32 → Prop) (σ : CS) : Prop := ∀ x19 : Int32, x19 = c_rd_at σ → wc_rd_newNode (fun (s20 : CS) (r21 : Int32) => c_rd_figure s20 = 400 ∧ (wc_sp_nameNumber (fun (s22 : CS) (r23 : Int32) => wc_rd_next (fun (s24 : CS) => wc_rd_isSign (fun (s25 : CS) (r26 : Int32) => ((r26 = (0 : Int32)) → (wc_rd_isSign (fun (s27 : CS) (r28 : Int32) => ((r28 = (0 : Int32)) → (wc_rd_telling_145 post s27 x19 r21 r23)) ∧ ((¬ (r28 = (0 : Int32))) → (((¬ (r23 = (-1 : Int32))) → (wc_rd_telling_145 post s27 x19 r21 r23)) ∧ ((r23 = (-1 : Int32)) → (c_rd_figure s27 = 400 ∧ (wc_sp_namesIn (fun (s29 : CS) (r30 : Int32) => ((r30 < (20 : Int32)) → (wc_rd_telling_145 post s29 x19 r21 r23)) ∧ ((¬ (r30 < (20 : Int32))) → (wc_rd_noteFault (fun (s31 : CS) => wc_rd_telling_145 post s31 x19 r21 r23) s29 (3 : Int32) x19))) s27 (c_rd_scope s27))))))) s25 (61 : Int32))) ∧ ((¬ (r26 = (0 : Int32))) → (((¬ (r23 = (-1 : Int32))) → (wc_rd_telling_49 post s25 r21 r23)) ∧ ((r23 = (-1 : Int32)) → (wc_rd_noteFault (fun (s32 : CS) => wc_rd_telling_49 post s32 r21 r23) s25 (5 : Int32) x19))))) s24 (91 : Int32)) s22) s20 (c_rd_scope s20) x19)) σ (0 : Int32) (-1 : Int32)
set_option maxRecDepth 20000 in
theorem kc_rd_telling {l : Launch} {D : va_G} {G : gAd} {post : CS → Int32 → Prop} {σ : CS} (h : wc_rd_telling post σ) : cMet l D G yX5_telling cX5_telling 5 (some .int) 207 [.ref (G.1 600)] σ (pI post) := by
  unfold wc_rd_telling at h
  refine c_enter (own := RX5) (by decide +kernel) rfl [(0, .ref (G.1 600))] rfl (Nat.le_of_ble_eq_true rfl) ?_
  intro E hE hm hF
  have hN := hm.2.2.2.2.2.2.1
  refine r_aload_n hE 0 dX5_telling_g0.1 rfl rfl ?_
  refine cg_rd_at hE hm fk_X5_9 dX5_telling_g0.2.1 ?_
  refine r_topi h (fun x19 ex19 h => ?_)
  refine r_istore_n hE [(1, .int x19), (0, .ref (G.1 600))] dX5_telling_g0.2.2.1 rfl hN (by decide) rfl ?_
  refine r_aload_n hE 1 dX5_telling_g0.2.2.2.1 rfl rfl ?_
  refine r_iconst (v := (0 : Int32)) hE dX5_telling_g0.2.2.2.2.1 (by decide) ?_
  refine r_iconst (v := (-1 : Int32)) hE dX5_telling_g0.2.2.2.2.2.1 (by decide) ?_
  refine c_callVi hE hm [.int (0 : Int32), .int (-1 : Int32)] [] ck_X5_174 (cr_rd hm rfl) (kc_rd_newNode h) (by decide) rfl rfl (Nat.le_of_ble_eq_true rfl) dX5_telling_g0.2.2.2.2.2.2.1 (fun s20 r21 h => ?_)
  refine r_istore_n hE [(2, .int r21), (1, .int x19), (0, .ref (G.1 600))] dX5_telling_g0.2.2.2.2.2.2.2.1 rfl hN (by decide) rfl ?_
  refine r_aload_n hE 2 dX5_telling_g0.2.2.2.2.2.2.2.2.1 rfl rfl ?_
  obtain ⟨hj, h⟩ := h
  refine cg_rd_figure hE hm fk_X5_36 dX5_telling_g0.2.2.2.2.2.2.2.2.2.1 hj ?_
  refine r_aload_n hE 2 dX5_telling_g0.2.2.2.2.2.2.2.2.2.2.1 rfl rfl ?_
  refine cg_rd_scope hE hm fk_X5_24 dX5_telling_g0.2.2.2.2.2.2.2.2.2.2.2.1 ?_
  refine r_iload_n hE 1 dX5_telling_g0.2.2.2.2.2.2.2.2.2.2.2.2.1 rfl rfl ?_
  refine c_callVi hE hm [.int (c_rd_scope s20), .int x19] [] ck_X5_149 (cr_sp hm rfl) (kc_sp_nameNumber h) (by decide) rfl rfl (Nat.le_of_ble_eq_true rfl) dX5_telling_g0.2.2.2.2.2.2.2.2.2.2.2.2.2.1 (fun s22 r23 h => ?_)
  refine r_istore_n hE [(3, .int r23), (2, .int r21), (1, .int x19), (0, .ref (G.1 600))] dX5_telling_g0.2.2.2.2.2.2.2.2.2.2.2.2.2.2.1 rfl hN (by decide) rfl ?_
  refine r_aload_n hE 3 dX5_telling_g0.2.2.2.2.2.2.2.2.2.2.2.2.2.2.2 rfl rfl ?_
  refine c_callVv hE hm [] [] ck_X5_40 (cr_rd hm rfl) (kc_rd_next h) (by decide) rfl rfl (Nat.le_of_ble_eq_true rfl) dX5_telling_g1.1 (fun s24 h => ?_)
  refine r_aload_n hE 3 dX5_telling_g1.2.1 rfl rfl ?_
  refine r_bipush (v := (91 : Int32)) hE dX5_telling_g1.2.2.1 (by decide) ?_
  refine c_callVi hE hm [.int (91 : Int32)] [] ck_X5_88 (cr_rd hm rfl) (kc_rd_isSign h) (by decide) rfl rfl (Nat.le_of_ble_eq_true rfl) dX5_telling_g1.2.2.2.1 (fun s25 r26 h => ?_)
  refine r_if_eq hE 109 dX5_telling_g1.2.2.2.2.1 (by decide) h (fun h => ?_) (fun h => ?_)
  · refine r_aload_n hE 3 dX5_telling_g3.2.2.2.2.2.2.2.2.2.2.1 rfl rfl ?_
    refine r_bipush (v := (61 : Int32)) hE dX5_telling_g3.2.2.2.2.2.2.2.2.2.2.2.1 (by decide) ?_
    refine c_callVi hE hm [.int (61 : Int32)] [] ck_X5_88 (cr_rd hm rfl) (kc_rd_isSign h) (by decide) rfl rfl (Nat.le_of_ble_eq_true rfl) dX5_telling_g3.2.2.2.2.2.2.2.2.2.2.2.2.1 (fun s27 r28 h => ?_)
    refine r_if_eq hE 145 dX5_telling_g3.2.2.2.2.2.2.2.2.2.2.2.2.2.1 (by decide) h (fun h => ?_) (fun h => ?_)
    · refine r_pick [3, 2, 1, 0] rfl ?_
      exact kc_rd_telling_145 hE hm hF _ _ _ _ h
    · refine r_iload_n hE 0 dX5_telling_g3.2.2.2.2.2.2.2.2.2.2.2.2.2.2.1 rfl rfl ?_
      refine r_iconst (v := (-1 : Int32)) hE dX5_telling_g3.2.2.2.2.2.2.2.2.2.2.2.2.2.2.2 (by decide) ?_
      refine r_icmp_ne hE 145 dX5_telling_g4.1 (by decide) h (fun h => ?_) (fun h => ?_)
      · refine r_pick [3, 2, 1, 0] rfl ?_
        exact kc_rd_telling_145 hE hm hF _ _ _ _ h
      · refine r_aload_n hE 3 dX5_telling_g4.2.1 rfl rfl ?_
        obtain ⟨hj, h⟩ := h
        refine cg_rd_figure hE hm fk_X5_36 dX5_telling_g4.2.2.1 hj ?_
        refine r_aload_n hE 3 dX5_telling_g4.2.2.2.1 rfl rfl ?_
        refine cg_rd_scope hE hm fk_X5_24 dX5_telling_g4.2.2.2.2.1 ?_
        refine c_callVi hE hm [.int (c_rd_scope s27)] [] ck_X5_146 (cr_sp hm rfl) (kc_sp_namesIn h) (by decide) rfl rfl (Nat.le_of_ble_eq_true rfl) dX5_telling_g4.2.2.2.2.2.1 (fun s29 r30 h => ?_)
        refine r_bipush (v := (20 : Int32)) hE dX5_telling_g4.2.2.2.2.2.2.1 (by decide) ?_
        refine r_icmp_lt hE 145 dX5_telling_g4.2.2.2.2.2.2.2.1 (by decide) h (fun h => ?_) (fun h => ?_)
        · refine r_pick [3, 2, 1, 0] rfl ?_
          exact kc_rd_telling_145 hE hm hF _ _ _ _ h
        · refine r_aload_n hE 3 dX5_telling_g4.2.2.2.2.2.2.2.2.1 rfl rfl ?_
          refine r_iconst (v := (3 : Int32)) hE dX5_telling_g4.2.2.2.2.2.2.2.2.2.1 (by decide) ?_
          refine r_iload_n hE 2 dX5_telling_g4.2.2.2.2.2.2.2.2.2.2.1 rfl rfl ?_
          refine c_callVv hE hm [.int (3 : Int32), .int x19] [] ck_X5_71 (cr_rd hm rfl) (kc_rd_noteFault h) (by decide) rfl rfl (Nat.le_of_ble_eq_true rfl) dX5_telling_g4.2.2.2.2.2.2.2.2.2.2.2.1 (fun s31 h => ?_)
          refine r_pick [3, 2, 1, 0] rfl ?_
          exact kc_rd_telling_145 hE hm hF _ _ _ _ h
  · refine r_iload_n hE 0 dX5_telling_g1.2.2.2.2.2.1 rfl rfl ?_
    refine r_iconst (v := (-1 : Int32)) hE dX5_telling_g1.2.2.2.2.2.2.1 (by decide) ?_
    refine r_icmp_ne hE 49 dX5_telling_g1.2.2.2.2.2.2.2.1 (by decide) h (fun h => ?_) (fun h => ?_)
    · refine r_pick [3, 1, 0] rfl ?_
      exact kc_rd_telling_49 hE hm hF _ _ _ h
    · refine r_aload_n hE 3 dX5_telling_g1.2.2.2.2.2.2.2.2.1 rfl rfl ?_
      refine r_iconst (v := (5 : Int32)) hE dX5_telling_g1.2.2.2.2.2.2.2.2.2.1 (by decide) ?_
      refine r_iload_n hE 2 dX5_telling_g1.2.2.2.2.2.2.2.2.2.2.1 rfl rfl ?_
      refine c_callVv hE hm [.int (5 : Int32), .int x19] [] ck_X5_71 (cr_rd hm rfl) (kc_rd_noteFault h) (by decide) rfl rfl (Nat.le_of_ble_eq_true rfl) dX5_telling_g1.2.2.2.2.2.2.2.2.2.2.2.1 (fun s32 h => ?_)
      refine r_pick [3, 1, 0] rfl ?_
      exact kc_rd_telling_49 hE hm hF _ _ _ h
/-! group X5_block -/
abbrev TY_X5_block : Type := ((CS → Int32 → Prop) → CS → Prop) × ((CS → Int32 → Prop) → CS → Prop) × ((CS → Int32 → Prop) → CS → Prop) × ((CS → Int32 → Prop) → CS → Prop)
def RH_X5_block (R : TY_X5_block) (n : Nat) : Prop := (∀ (l : Launch) (D : va_G) (G : gAd) (post : CS → Int32 → Prop) (σ : CS), R.1 post σ → cMet l D G yX5_block cX5_block 2 (some .int) n [.ref (G.1 600)] σ (pI post)) ∧ (∀ (l : Launch) (D : va_G) (G : gAd) (post : CS → Int32 → Prop) (σ : CS), R.2.1 post σ → cMet l D G yX5_branch cX5_branch 2 (some .int) n [.ref (G.1 600)] σ (pI post)) ∧ (∀ (l : Launch) (D : va_G) (G : gAd) (post : CS → Int32 → Prop) (σ : CS), R.2.2.1 post σ → cMet l D G yX5_deed cX5_deed 2 (some .int) n [.ref (G.1 600)] σ (pI post)) ∧ (∀ (l : Launch) (D : va_G) (G : gAd) (post : CS → Int32 → Prop) (σ : CS), R.2.2.2 post σ → cMet l D G yX5_deeds cX5_deeds 5 (some .int) n [.ref (G.1 600)] σ (pI post))
def wcB_rd_block (R : TY_X5_block) (post : CS → Int32 → Prop) (σ : CS) : Prop := wc_rd_open (fun (s1 : CS) => R.2.2.2 (fun (s2 : CS) (r3 : Int32) => wc_rd_close (fun (s4 : CS) => post s4 r3) s2 (125 : Int32)) s1) σ (123 : Int32)
set_option maxRecDepth 20000 in
theorem kcB_rd_block {R : TY_X5_block} {n : Nat} (ih0 : RH_X5_block R n) (hn : 207 ≤ n) {l : Launch} {D : va_G} {G : gAd} {post : CS → Int32 → Prop} {σ : CS} (h : wcB_rd_block R post σ) : cMet l D G yX5_block cX5_block 2 (some .int) (n + 1) [.ref (G.1 600)] σ (pI post) := by
  unfold wcB_rd_block at h
  refine c_enter (own := RX5) (by decide +kernel) rfl [(0, .ref (G.1 600))] rfl (Nat.le_of_ble_eq_true rfl) ?_
  intro E hE hm hF
  have hN := hm.2.2.2.2.2.2.1
  refine r_aload_n hE 0 dX5_block_g0.1 rfl rfl ?_
  refine r_bipush (v := (123 : Int32)) hE dX5_block_g0.2.1 (by decide) ?_
  refine c_callVv hE hm [.int (123 : Int32)] [] ck_X5_156 (cr_rd hm rfl) (kc_rd_open h) (by omega) rfl rfl (Nat.le_of_ble_eq_true rfl) dX5_block_g0.2.2.1 (fun s1 h => ?_)
  refine r_aload_n hE 0 dX5_block_g0.2.2.2.1 rfl rfl ?_
  refine c_callVi hE hm [] [] ck_X5_62 (cr_rd hm rfl) (ih0.2.2.2 _ _ _ _ _ h) (Nat.le_refl _) rfl rfl (Nat.le_of_ble_eq_true rfl) dX5_block_g0.2.2.2.2.1 (fun s2 r3 h => ?_)
  refine r_istore_n hE [(1, .int r3), (0, .ref (G.1 600))] dX5_block_g0.2.2.2.2.2.1 rfl hN (by decide) rfl ?_
  refine r_aload_n hE 1 dX5_block_g0.2.2.2.2.2.2.1 rfl rfl ?_
  refine r_bipush (v := (125 : Int32)) hE dX5_block_g0.2.2.2.2.2.2.2.1 (by decide) ?_
  refine c_callVv hE hm [.int (125 : Int32)] [] ck_X5_159 (cr_rd hm rfl) (kc_rd_close h) (by omega) rfl rfl (Nat.le_of_ble_eq_true rfl) dX5_block_g0.2.2.2.2.2.2.2.2.1 (fun s4 h => ?_)
  refine r_iload_n hE 0 dX5_block_g0.2.2.2.2.2.2.2.2.2.1 rfl rfl ?_
  exact c_iret hE hm hF dX5_block_g0.2.2.2.2.2.2.2.2.2.2 h
def wcB_rd_branch (R : TY_X5_block) (post : CS → Int32 → Prop) (σ : CS) : Prop := wc_rd_newNode (fun (s1 : CS) (r2 : Int32) => wc_rd_next (fun (s3 : CS) => c_rd_figure s3 = 400 ∧ (wc_rd_exp (fun (s4 : CS) (r5 : Int32) => wc_sp_hang (fun (s6 : CS) => c_rd_figure s6 = 400 ∧ (R.1 (fun (s7 : CS) (r8 : Int32) => wc_sp_hangBlock (fun (s9 : CS) => ((¬ ((c_rd_kind s9) = (2 : Int32))) → (post s9 r2)) ∧ (((c_rd_kind s9) = (2 : Int32)) → (c_rd_figure s9 = 400 ∧ (wc_sp_isWord_s (fun (s10 : CS) (r11 : Int32) => ((r11 = (0 : Int32)) → (post s10 r2)) ∧ ((¬ (r11 = (0 : Int32))) → (wc_rd_next (fun (s12 : CS) => c_rd_figure s12 = 400 ∧ (R.1 (fun (s13 : CS) (r14 : Int32) => wc_sp_hangElse (fun (s15 : CS) => post s15 r2) s13 r2 r14) s12)) s10))) s9 (c_rd_at s9) 3)))) s7 r2 r8) s6)) s4 r2 r5) s3)) s1) σ (2 : Int32) (0 : Int32)
set_option maxRecDepth 20000 in
theorem kcB_rd_branch {R : TY_X5_block} {n : Nat} (ih0 : RH_X5_block R n) (hn : 207 ≤ n) {l : Launch} {D : va_G} {G : gAd} {post : CS → Int32 → Prop} {σ : CS} (h : wcB_rd_branch R post σ) : cMet l D G yX5_branch cX5_branch 2 (some .int) (n + 1) [.ref (G.1 600)] σ (pI post) := by
  unfold wcB_rd_branch at h
  refine c_enter (own := RX5) (by decide +kernel) rfl [(0, .ref (G.1 600))] rfl (Nat.le_of_ble_eq_true rfl) ?_
  intro E hE hm hF
  have hN := hm.2.2.2.2.2.2.1
  refine r_aload_n hE 0 dX5_branch_g0.1 rfl rfl ?_
  refine r_iconst (v := (2 : Int32)) hE dX5_branch_g0.2.1 (by decide) ?_
  refine r_iconst (v := (0 : Int32)) hE dX5_branch_g0.2.2.1 (by decide) ?_
  refine c_callVi hE hm [.int (2 : Int32), .int (0 : Int32)] [] ck_X5_174 (cr_rd hm rfl) (kc_rd_newNode h) (by omega) rfl rfl (Nat.le_of_ble_eq_true rfl) dX5_branch_g0.2.2.2.1 (fun s1 r2 h => ?_)
  refine r_istore_n hE [(1, .int r2), (0, .ref (G.1 600))] dX5_branch_g0.2.2.2.2.1 rfl hN (by decide) rfl ?_
  refine r_aload_n hE 1 dX5_branch_g0.2.2.2.2.2.1 rfl rfl ?_
  refine c_callVv hE hm [] [] ck_X5_40 (cr_rd hm rfl) (kc_rd_next h) (by omega) rfl rfl (Nat.le_of_ble_eq_true rfl) dX5_branch_g0.2.2.2.2.2.2.1 (fun s3 h => ?_)
  refine r_aload_n hE 1 dX5_branch_g0.2.2.2.2.2.2.2.1 rfl rfl ?_
  obtain ⟨hj, h⟩ := h
  refine cg_rd_figure hE hm fk_X5_36 dX5_branch_g0.2.2.2.2.2.2.2.2.1 hj ?_
  refine r_iload_n hE 0 dX5_branch_g0.2.2.2.2.2.2.2.2.2.1 rfl rfl ?_
  refine r_aload_n hE 1 dX5_branch_g0.2.2.2.2.2.2.2.2.2.2.1 rfl rfl ?_
  refine c_callVi hE hm [] [.int r2, .ref (G.1 400)] ck_X5_177 (cr_rd hm rfl) (kc_rd_exp h) (by omega) rfl rfl (Nat.le_of_ble_eq_true rfl) dX5_branch_g0.2.2.2.2.2.2.2.2.2.2.2.1 (fun s4 r5 h => ?_)
  refine c_callVv hE hm [.int r2, .int r5] [] ck_X5_180 (cr_sp hm rfl) (kc_sp_hang h) (by omega) rfl rfl (Nat.le_of_ble_eq_true rfl) dX5_branch_g0.2.2.2.2.2.2.2.2.2.2.2.2.1 (fun s6 h => ?_)
  refine r_aload_n hE 1 dX5_branch_g0.2.2.2.2.2.2.2.2.2.2.2.2.2.1 rfl rfl ?_
  obtain ⟨hj, h⟩ := h
  refine cg_rd_figure hE hm fk_X5_36 dX5_branch_g0.2.2.2.2.2.2.2.2.2.2.2.2.2.2.1 hj ?_
  refine r_iload_n hE 0 dX5_branch_g0.2.2.2.2.2.2.2.2.2.2.2.2.2.2.2 rfl rfl ?_
  refine r_aload_n hE 1 dX5_branch_g1.1 rfl rfl ?_
  refine c_callVi hE hm [] [.int r2, .ref (G.1 400)] ck_X5_55 (cr_rd hm rfl) (ih0.1 _ _ _ _ _ h) (Nat.le_refl _) rfl rfl (Nat.le_of_ble_eq_true rfl) dX5_branch_g1.2.1 (fun s7 r8 h => ?_)
  refine c_callVv hE hm [.int r2, .int r8] [] ck_X5_183 (cr_sp hm rfl) (kc_sp_hangBlock h) (by omega) rfl rfl (Nat.le_of_ble_eq_true rfl) dX5_branch_g1.2.2.1 (fun s9 h => ?_)
  refine r_aload_n hE 1 dX5_branch_g1.2.2.2.1 rfl rfl ?_
  refine cg_rd_kind hE hm fk_X5_18 dX5_branch_g1.2.2.2.2.1 ?_
  refine r_iconst (v := (2 : Int32)) hE dX5_branch_g1.2.2.2.2.2.1 (by decide) ?_
  refine r_icmp_ne hE 75 dX5_branch_g1.2.2.2.2.2.2.1 (by decide) h (fun h => ?_) (fun h => ?_)
  · refine r_iload_n hE 0 dX5_branch_g2.2.2.2.2.2.2.1 rfl rfl ?_
    exact c_iret hE hm hF dX5_branch_g2.2.2.2.2.2.2.2 h
  · refine r_aload_n hE 1 dX5_branch_g1.2.2.2.2.2.2.2.1 rfl rfl ?_
    obtain ⟨hj, h⟩ := h
    refine cg_rd_figure hE hm fk_X5_36 dX5_branch_g1.2.2.2.2.2.2.2.2.1 hj ?_
    refine r_aload_n hE 1 dX5_branch_g1.2.2.2.2.2.2.2.2.2.1 rfl rfl ?_
    refine cg_rd_at hE hm fk_X5_9 dX5_branch_g1.2.2.2.2.2.2.2.2.2.2.1 ?_
    refine ks_ldc (tx := "else") (i := 3) hE hm (List.mem_of_getElem? (i := 3) rfl) dX5_branch_g1.2.2.2.2.2.2.2.2.2.2.2.1 ?_
    refine c_callVi hE hm [.int (c_rd_at s9), .ref (G.1 (5000 + 3))] [] ck_X5_45 (cr_sp hm rfl) (kc_sp_isWord_s h) (by omega) rfl rfl (Nat.le_of_ble_eq_true rfl) dX5_branch_g1.2.2.2.2.2.2.2.2.2.2.2.2.1 (fun s10 r11 h => ?_)
    refine r_if_eq hE 75 dX5_branch_g1.2.2.2.2.2.2.2.2.2.2.2.2.2.1 (by decide) h (fun h => ?_) (fun h => ?_)
    · refine r_iload_n hE 0 dX5_branch_g2.2.2.2.2.2.2.1 rfl rfl ?_
      exact c_iret hE hm hF dX5_branch_g2.2.2.2.2.2.2.2 h
    · refine r_aload_n hE 1 dX5_branch_g1.2.2.2.2.2.2.2.2.2.2.2.2.2.2.1 rfl rfl ?_
      refine c_callVv hE hm [] [] ck_X5_40 (cr_rd hm rfl) (kc_rd_next h) (by omega) rfl rfl (Nat.le_of_ble_eq_true rfl) dX5_branch_g1.2.2.2.2.2.2.2.2.2.2.2.2.2.2.2 (fun s12 h => ?_)
      refine r_aload_n hE 1 dX5_branch_g2.1 rfl rfl ?_
      obtain ⟨hj, h⟩ := h
      refine cg_rd_figure hE hm fk_X5_36 dX5_branch_g2.2.1 hj ?_
      refine r_iload_n hE 0 dX5_branch_g2.2.2.1 rfl rfl ?_
      refine r_aload_n hE 1 dX5_branch_g2.2.2.2.1 rfl rfl ?_
      refine c_callVi hE hm [] [.int r2, .ref (G.1 400)] ck_X5_55 (cr_rd hm rfl) (ih0.1 _ _ _ _ _ h) (Nat.le_refl _) rfl rfl (Nat.le_of_ble_eq_true rfl) dX5_branch_g2.2.2.2.2.1 (fun s13 r14 h => ?_)
      refine c_callVv hE hm [.int r2, .int r14] [] ck_X5_189 (cr_sp hm rfl) (kc_sp_hangElse h) (by omega) rfl rfl (Nat.le_of_ble_eq_true rfl) dX5_branch_g2.2.2.2.2.2.1 (fun s15 h => ?_)
      refine r_iload_n hE 0 dX5_branch_g2.2.2.2.2.2.2.1 rfl rfl ?_
      exact c_iret hE hm hF dX5_branch_g2.2.2.2.2.2.2.2 h
def wc_rd_deed_202 (R : TY_X5_block) (post : CS → Int32 → Prop) (σ : CS) : Prop := wc_rd_misplaced (fun (s1 : CS) (r2 : Int32) => wc_rd_noteFault (fun (s3 : CS) => post s3 (-1 : Int32)) s1 r2 (c_rd_at s1)) σ
set_option maxRecDepth 20000 in
theorem kc_rd_deed_202  {R : TY_X5_block} {n : Nat} (ih0 : RH_X5_block R n) (hn : 207 ≤ n) {E : gEnv} {l : Launch} {D : va_G} {G : gAd} {post : CS → Int32 → Prop} (hE : gOK E cX5_deed RX5 (some .int) (n + 1)) (hm : cOK E l D G (pI post) 2) (hF : gFin E) (σ : CS) (h : wc_rd_deed_202 R post σ) : GW E (cW G σ) 202 [(0, .ref (G.1 600))] [] := by
  unfold wc_rd_deed_202 at h
  have hN := hm.2.2.2.2.2.2.1
  refine r_aload_n hE 0 dX5_deed_g6.2.2.2.2.2.1 rfl rfl ?_
  refine r_aload_n hE 0 dX5_deed_g6.2.2.2.2.2.2.1 rfl rfl ?_
  refine c_callVi hE hm [] [.ref (G.1 600)] ck_X5_68 (cr_rd hm rfl) (kc_rd_misplaced h) (by omega) rfl rfl (Nat.le_of_ble_eq_true rfl) dX5_deed_g6.2.2.2.2.2.2.2.1 (fun s1 r2 h => ?_)
  refine r_aload_n hE 0 dX5_deed_g6.2.2.2.2.2.2.2.2.1 rfl rfl ?_
  refine cg_rd_at hE hm fk_X5_9 dX5_deed_g6.2.2.2.2.2.2.2.2.2.1 ?_
  refine c_callVv hE hm [.int r2, .int (c_rd_at s1)] [] ck_X5_71 (cr_rd hm rfl) (kc_rd_noteFault h) (by omega) rfl rfl (Nat.le_of_ble_eq_true rfl) dX5_deed_g6.2.2.2.2.2.2.2.2.2.2.1 (fun s3 h => ?_)
  refine r_iconst (v := (-1 : Int32)) hE dX5_deed_g6.2.2.2.2.2.2.2.2.2.2.2.1 (by decide) ?_
  exact c_iret hE hm hF dX5_deed_g6.2.2.2.2.2.2.2.2.2.2.2.2 h
def wc_rd_deed_162 (R : TY_X5_block) (post : CS → Int32 → Prop) (σ : CS) : Prop := ((¬ ((c_rd_kind σ) = (2 : Int32))) → (wc_rd_deed_202 R post σ)) ∧ (((c_rd_kind σ) = (2 : Int32)) → (c_rd_figure σ = 400 ∧ (wc_sp_isWord_s (fun (s4 : CS) (r5 : Int32) => ((r5 = (0 : Int32)) → (wc_rd_deed_202 R post s4)) ∧ ((¬ (r5 = (0 : Int32))) → ((((c_rd_scope s4) = (12 : Int32)) → (wc_rd_deed_202 R post s4)) ∧ ((¬ ((c_rd_scope s4) = (12 : Int32))) → (wc_rd_plain (fun (s6 : CS) (r7 : Int32) => post s6 r7) s4 (6 : Int32)))))) σ (c_rd_at σ) 7)))
set_option maxRecDepth 20000 in
theorem kc_rd_deed_162  {R : TY_X5_block} {n : Nat} (ih0 : RH_X5_block R n) (hn : 207 ≤ n) {E : gEnv} {l : Launch} {D : va_G} {G : gAd} {post : CS → Int32 → Prop} (hE : gOK E cX5_deed RX5 (some .int) (n + 1)) (hm : cOK E l D G (pI post) 2) (hF : gFin E) (σ : CS) (h : wc_rd_deed_162 R post σ) : GW E (cW G σ) 162 [(0, .ref (G.1 600))] [] := by
  unfold wc_rd_deed_162 at h
  have hN := hm.2.2.2.2.2.2.1
  refine r_aload_n hE 0 dX5_deed_g5.2.2.1 rfl rfl ?_
  refine cg_rd_kind hE hm fk_X5_18 dX5_deed_g5.2.2.2.1 ?_
  refine r_iconst (v := (2 : Int32)) hE dX5_deed_g5.2.2.2.2.1 (by decide) ?_
  refine r_icmp_ne hE 202 dX5_deed_g5.2.2.2.2.2.1 (by decide) h (fun h => ?_) (fun h => ?_)
  · exact kc_rd_deed_202 ih0 hn hE hm hF _ h
  · refine r_aload_n hE 0 dX5_deed_g5.2.2.2.2.2.2.1 rfl rfl ?_
    obtain ⟨hj, h⟩ := h
    refine cg_rd_figure hE hm fk_X5_36 dX5_deed_g5.2.2.2.2.2.2.2.1 hj ?_
    refine r_aload_n hE 0 dX5_deed_g5.2.2.2.2.2.2.2.2.1 rfl rfl ?_
    refine cg_rd_at hE hm fk_X5_9 dX5_deed_g5.2.2.2.2.2.2.2.2.2.1 ?_
    refine ks_ldc (tx := "give") (i := 7) hE hm (List.mem_of_getElem? (i := 7) rfl) dX5_deed_g5.2.2.2.2.2.2.2.2.2.2.1 ?_
    refine c_callVi hE hm [.int (c_rd_at σ), .ref (G.1 (5000 + 7))] [] ck_X5_45 (cr_sp hm rfl) (kc_sp_isWord_s h) (by omega) rfl rfl (Nat.le_of_ble_eq_true rfl) dX5_deed_g5.2.2.2.2.2.2.2.2.2.2.2.1 (fun s4 r5 h => ?_)
    refine r_if_eq hE 202 dX5_deed_g5.2.2.2.2.2.2.2.2.2.2.2.2.1 (by decide) h (fun h => ?_) (fun h => ?_)
    · exact kc_rd_deed_202 ih0 hn hE hm hF _ h
    · refine r_aload_n hE 0 dX5_deed_g5.2.2.2.2.2.2.2.2.2.2.2.2.2.1 rfl rfl ?_
      refine cg_rd_scope hE hm fk_X5_24 dX5_deed_g5.2.2.2.2.2.2.2.2.2.2.2.2.2.2.1 ?_
      refine r_bipush (v := (12 : Int32)) hE dX5_deed_g5.2.2.2.2.2.2.2.2.2.2.2.2.2.2.2 (by decide) ?_
      refine r_icmp_eq hE 202 dX5_deed_g6.1 (by decide) h (fun h => ?_) (fun h => ?_)
      · exact kc_rd_deed_202 ih0 hn hE hm hF _ h
      · refine r_aload_n hE 0 dX5_deed_g6.2.1 rfl rfl ?_
        refine r_bipush (v := (6 : Int32)) hE dX5_deed_g6.2.2.1 (by decide) ?_
        refine c_callVi hE hm [.int (6 : Int32)] [] ck_X5_186 (cr_rd hm rfl) (kc_rd_plain h) (by omega) rfl rfl (Nat.le_of_ble_eq_true rfl) dX5_deed_g6.2.2.2.1 (fun s6 r7 h => ?_)
        exact c_iret hE hm hF dX5_deed_g6.2.2.2.2.1 h
def wc_rd_deed_132 (R : TY_X5_block) (post : CS → Int32 → Prop) (σ : CS) : Prop := ((¬ ((c_rd_kind σ) = (2 : Int32))) → (wc_rd_deed_162 R post σ)) ∧ (((c_rd_kind σ) = (2 : Int32)) → (c_rd_figure σ = 400 ∧ (wc_sp_isWord_s (fun (s8 : CS) (r9 : Int32) => ((r9 = (0 : Int32)) → (wc_rd_deed_162 R post s8)) ∧ ((¬ (r9 = (0 : Int32))) → (wc_rd_plain (fun (s10 : CS) (r11 : Int32) => post s10 r11) s8 (5 : Int32)))) σ (c_rd_at σ) 6)))
set_option maxRecDepth 20000 in
theorem kc_rd_deed_132  {R : TY_X5_block} {n : Nat} (ih0 : RH_X5_block R n) (hn : 207 ≤ n) {E : gEnv} {l : Launch} {D : va_G} {G : gAd} {post : CS → Int32 → Prop} (hE : gOK E cX5_deed RX5 (some .int) (n + 1)) (hm : cOK E l D G (pI post) 2) (hF : gFin E) (σ : CS) (h : wc_rd_deed_132 R post σ) : GW E (cW G σ) 132 [(0, .ref (G.1 600))] [] := by
  unfold wc_rd_deed_132 at h
  have hN := hm.2.2.2.2.2.2.1
  refine r_aload_n hE 0 dX5_deed_g4.2.2.2.1 rfl rfl ?_
  refine cg_rd_kind hE hm fk_X5_18 dX5_deed_g4.2.2.2.2.1 ?_
  refine r_iconst (v := (2 : Int32)) hE dX5_deed_g4.2.2.2.2.2.1 (by decide) ?_
  refine r_icmp_ne hE 162 dX5_deed_g4.2.2.2.2.2.2.1 (by decide) h (fun h => ?_) (fun h => ?_)
  · exact kc_rd_deed_162 ih0 hn hE hm hF _ h
  · refine r_aload_n hE 0 dX5_deed_g4.2.2.2.2.2.2.2.1 rfl rfl ?_
    obtain ⟨hj, h⟩ := h
    refine cg_rd_figure hE hm fk_X5_36 dX5_deed_g4.2.2.2.2.2.2.2.2.1 hj ?_
    refine r_aload_n hE 0 dX5_deed_g4.2.2.2.2.2.2.2.2.2.1 rfl rfl ?_
    refine cg_rd_at hE hm fk_X5_9 dX5_deed_g4.2.2.2.2.2.2.2.2.2.2.1 ?_
    refine ks_ldc (tx := "draw") (i := 6) hE hm (List.mem_of_getElem? (i := 6) rfl) dX5_deed_g4.2.2.2.2.2.2.2.2.2.2.2.1 ?_
    refine c_callVi hE hm [.int (c_rd_at σ), .ref (G.1 (5000 + 6))] [] ck_X5_45 (cr_sp hm rfl) (kc_sp_isWord_s h) (by omega) rfl rfl (Nat.le_of_ble_eq_true rfl) dX5_deed_g4.2.2.2.2.2.2.2.2.2.2.2.2.1 (fun s8 r9 h => ?_)
    refine r_if_eq hE 162 dX5_deed_g4.2.2.2.2.2.2.2.2.2.2.2.2.2.1 (by decide) h (fun h => ?_) (fun h => ?_)
    · exact kc_rd_deed_162 ih0 hn hE hm hF _ h
    · refine r_aload_n hE 0 dX5_deed_g4.2.2.2.2.2.2.2.2.2.2.2.2.2.2.1 rfl rfl ?_
      refine r_iconst (v := (5 : Int32)) hE dX5_deed_g4.2.2.2.2.2.2.2.2.2.2.2.2.2.2.2 (by decide) ?_
      refine c_callVi hE hm [.int (5 : Int32)] [] ck_X5_186 (cr_rd hm rfl) (kc_rd_plain h) (by omega) rfl rfl (Nat.le_of_ble_eq_true rfl) dX5_deed_g5.1 (fun s10 r11 h => ?_)
      exact c_iret hE hm hF dX5_deed_g5.2.1 h
def wc_rd_deed_102 (R : TY_X5_block) (post : CS → Int32 → Prop) (σ : CS) : Prop := ((¬ ((c_rd_kind σ) = (2 : Int32))) → (wc_rd_deed_132 R post σ)) ∧ (((c_rd_kind σ) = (2 : Int32)) → (c_rd_figure σ = 400 ∧ (wc_sp_isWord_s (fun (s12 : CS) (r13 : Int32) => ((r13 = (0 : Int32)) → (wc_rd_deed_132 R post s12)) ∧ ((¬ (r13 = (0 : Int32))) → (wc_rd_plain (fun (s14 : CS) (r15 : Int32) => post s14 r15) s12 (4 : Int32)))) σ (c_rd_at σ) 5)))
set_option maxRecDepth 20000 in
theorem kc_rd_deed_102  {R : TY_X5_block} {n : Nat} (ih0 : RH_X5_block R n) (hn : 207 ≤ n) {E : gEnv} {l : Launch} {D : va_G} {G : gAd} {post : CS → Int32 → Prop} (hE : gOK E cX5_deed RX5 (some .int) (n + 1)) (hm : cOK E l D G (pI post) 2) (hF : gFin E) (σ : CS) (h : wc_rd_deed_102 R post σ) : GW E (cW G σ) 102 [(0, .ref (G.1 600))] [] := by
  unfold wc_rd_deed_102 at h
  have hN := hm.2.2.2.2.2.2.1
  refine r_aload_n hE 0 dX5_deed_g3.2.2.2.2.1 rfl rfl ?_
  refine cg_rd_kind hE hm fk_X5_18 dX5_deed_g3.2.2.2.2.2.1 ?_
  refine r_iconst (v := (2 : Int32)) hE dX5_deed_g3.2.2.2.2.2.2.1 (by decide) ?_
  refine r_icmp_ne hE 132 dX5_deed_g3.2.2.2.2.2.2.2.1 (by decide) h (fun h => ?_) (fun h => ?_)
  · exact kc_rd_deed_132 ih0 hn hE hm hF _ h
  · refine r_aload_n hE 0 dX5_deed_g3.2.2.2.2.2.2.2.2.1 rfl rfl ?_
    obtain ⟨hj, h⟩ := h
    refine cg_rd_figure hE hm fk_X5_36 dX5_deed_g3.2.2.2.2.2.2.2.2.2.1 hj ?_
    refine r_aload_n hE 0 dX5_deed_g3.2.2.2.2.2.2.2.2.2.2.1 rfl rfl ?_
    refine cg_rd_at hE hm fk_X5_9 dX5_deed_g3.2.2.2.2.2.2.2.2.2.2.2.1 ?_
    refine ks_ldc (tx := "state") (i := 5) hE hm (List.mem_of_getElem? (i := 5) rfl) dX5_deed_g3.2.2.2.2.2.2.2.2.2.2.2.2.1 ?_
    refine c_callVi hE hm [.int (c_rd_at σ), .ref (G.1 (5000 + 5))] [] ck_X5_45 (cr_sp hm rfl) (kc_sp_isWord_s h) (by omega) rfl rfl (Nat.le_of_ble_eq_true rfl) dX5_deed_g3.2.2.2.2.2.2.2.2.2.2.2.2.2.1 (fun s12 r13 h => ?_)
    refine r_if_eq hE 132 dX5_deed_g3.2.2.2.2.2.2.2.2.2.2.2.2.2.2.1 (by decide) h (fun h => ?_) (fun h => ?_)
    · exact kc_rd_deed_132 ih0 hn hE hm hF _ h
    · refine r_aload_n hE 0 dX5_deed_g3.2.2.2.2.2.2.2.2.2.2.2.2.2.2.2 rfl rfl ?_
      refine r_iconst (v := (4 : Int32)) hE dX5_deed_g4.1 (by decide) ?_
      refine c_callVi hE hm [.int (4 : Int32)] [] ck_X5_186 (cr_rd hm rfl) (kc_rd_plain h) (by omega) rfl rfl (Nat.le_of_ble_eq_true rfl) dX5_deed_g4.2.1 (fun s14 r15 h => ?_)
      exact c_iret hE hm hF dX5_deed_g4.2.2.1 h
def wc_rd_deed_41 (R : TY_X5_block) (post : CS → Int32 → Prop) (σ : CS) : Prop := ((¬ ((c_rd_kind σ) = (2 : Int32))) → (wc_rd_deed_102 R post σ)) ∧ (((c_rd_kind σ) = (2 : Int32)) → (c_rd_figure σ = 400 ∧ (wc_sp_isWord_s (fun (s16 : CS) (r17 : Int32) => ((r17 = (0 : Int32)) → (wc_rd_deed_102 R post s16)) ∧ ((¬ (r17 = (0 : Int32))) → (wc_rd_newNode (fun (s18 : CS) (r19 : Int32) => wc_rd_next (fun (s20 : CS) => c_rd_figure s20 = 400 ∧ (wc_rd_exp (fun (s21 : CS) (r22 : Int32) => wc_sp_hang (fun (s23 : CS) => c_rd_figure s23 = 400 ∧ (R.1 (fun (s24 : CS) (r25 : Int32) => wc_sp_hangBlock (fun (s26 : CS) => post s26 r19) s24 r19 r25) s23)) s21 r19 r22) s20)) s18) s16 (3 : Int32) (0 : Int32)))) σ (c_rd_at σ) 4)))
set_option maxRecDepth 20000 in
theorem kc_rd_deed_41  {R : TY_X5_block} {n : Nat} (ih0 : RH_X5_block R n) (hn : 207 ≤ n) {E : gEnv} {l : Launch} {D : va_G} {G : gAd} {post : CS → Int32 → Prop} (hE : gOK E cX5_deed RX5 (some .int) (n + 1)) (hm : cOK E l D G (pI post) 2) (hF : gFin E) (σ : CS) (h : wc_rd_deed_41 R post σ) : GW E (cW G σ) 41 [(0, .ref (G.1 600))] [] := by
  unfold wc_rd_deed_41 at h
  have hN := hm.2.2.2.2.2.2.1
  refine r_aload_n hE 0 dX5_deed_g1.2.2.2.2.1 rfl rfl ?_
  refine cg_rd_kind hE hm fk_X5_18 dX5_deed_g1.2.2.2.2.2.1 ?_
  refine r_iconst (v := (2 : Int32)) hE dX5_deed_g1.2.2.2.2.2.2.1 (by decide) ?_
  refine r_icmp_ne hE 102 dX5_deed_g1.2.2.2.2.2.2.2.1 (by decide) h (fun h => ?_) (fun h => ?_)
  · exact kc_rd_deed_102 ih0 hn hE hm hF _ h
  · refine r_aload_n hE 0 dX5_deed_g1.2.2.2.2.2.2.2.2.1 rfl rfl ?_
    obtain ⟨hj, h⟩ := h
    refine cg_rd_figure hE hm fk_X5_36 dX5_deed_g1.2.2.2.2.2.2.2.2.2.1 hj ?_
    refine r_aload_n hE 0 dX5_deed_g1.2.2.2.2.2.2.2.2.2.2.1 rfl rfl ?_
    refine cg_rd_at hE hm fk_X5_9 dX5_deed_g1.2.2.2.2.2.2.2.2.2.2.2.1 ?_
    refine ks_ldc (tx := "times") (i := 4) hE hm (List.mem_of_getElem? (i := 4) rfl) dX5_deed_g1.2.2.2.2.2.2.2.2.2.2.2.2.1 ?_
    refine c_callVi hE hm [.int (c_rd_at σ), .ref (G.1 (5000 + 4))] [] ck_X5_45 (cr_sp hm rfl) (kc_sp_isWord_s h) (by omega) rfl rfl (Nat.le_of_ble_eq_true rfl) dX5_deed_g1.2.2.2.2.2.2.2.2.2.2.2.2.2.1 (fun s16 r17 h => ?_)
    refine r_if_eq hE 102 dX5_deed_g1.2.2.2.2.2.2.2.2.2.2.2.2.2.2.1 (by decide) h (fun h => ?_) (fun h => ?_)
    · exact kc_rd_deed_102 ih0 hn hE hm hF _ h
    · refine r_aload_n hE 0 dX5_deed_g1.2.2.2.2.2.2.2.2.2.2.2.2.2.2.2 rfl rfl ?_
      refine r_iconst (v := (3 : Int32)) hE dX5_deed_g2.1 (by decide) ?_
      refine r_iconst (v := (0 : Int32)) hE dX5_deed_g2.2.1 (by decide) ?_
      refine c_callVi hE hm [.int (3 : Int32), .int (0 : Int32)] [] ck_X5_174 (cr_rd hm rfl) (kc_rd_newNode h) (by omega) rfl rfl (Nat.le_of_ble_eq_true rfl) dX5_deed_g2.2.2.1 (fun s18 r19 h => ?_)
      refine r_istore_n hE [(1, .int r19), (0, .ref (G.1 600))] dX5_deed_g2.2.2.2.1 rfl hN (by decide) rfl ?_
      refine r_aload_n hE 1 dX5_deed_g2.2.2.2.2.1 rfl rfl ?_
      refine c_callVv hE hm [] [] ck_X5_40 (cr_rd hm rfl) (kc_rd_next h) (by omega) rfl rfl (Nat.le_of_ble_eq_true rfl) dX5_deed_g2.2.2.2.2.2.1 (fun s20 h => ?_)
      refine r_aload_n hE 1 dX5_deed_g2.2.2.2.2.2.2.1 rfl rfl ?_
      obtain ⟨hj, h⟩ := h
      refine cg_rd_figure hE hm fk_X5_36 dX5_deed_g2.2.2.2.2.2.2.2.1 hj ?_
      refine r_iload_n hE 0 dX5_deed_g2.2.2.2.2.2.2.2.2.1 rfl rfl ?_
      refine r_aload_n hE 1 dX5_deed_g2.2.2.2.2.2.2.2.2.2.1 rfl rfl ?_
      refine c_callVi hE hm [] [.int r19, .ref (G.1 400)] ck_X5_177 (cr_rd hm rfl) (kc_rd_exp h) (by omega) rfl rfl (Nat.le_of_ble_eq_true rfl) dX5_deed_g2.2.2.2.2.2.2.2.2.2.2.1 (fun s21 r22 h => ?_)
      refine c_callVv hE hm [.int r19, .int r22] [] ck_X5_180 (cr_sp hm rfl) (kc_sp_hang h) (by omega) rfl rfl (Nat.le_of_ble_eq_true rfl) dX5_deed_g2.2.2.2.2.2.2.2.2.2.2.2.1 (fun s23 h => ?_)
      refine r_aload_n hE 1 dX5_deed_g2.2.2.2.2.2.2.2.2.2.2.2.2.1 rfl rfl ?_
      obtain ⟨hj, h⟩ := h
      refine cg_rd_figure hE hm fk_X5_36 dX5_deed_g2.2.2.2.2.2.2.2.2.2.2.2.2.2.1 hj ?_
      refine r_iload_n hE 0 dX5_deed_g2.2.2.2.2.2.2.2.2.2.2.2.2.2.2.1 rfl rfl ?_
      refine r_aload_n hE 1 dX5_deed_g2.2.2.2.2.2.2.2.2.2.2.2.2.2.2.2 rfl rfl ?_
      refine c_callVi hE hm [] [.int r19, .ref (G.1 400)] ck_X5_55 (cr_rd hm rfl) (ih0.1 _ _ _ _ _ h) (Nat.le_refl _) rfl rfl (Nat.le_of_ble_eq_true rfl) dX5_deed_g3.1 (fun s24 r25 h => ?_)
      refine c_callVv hE hm [.int r19, .int r25] [] ck_X5_183 (cr_sp hm rfl) (kc_sp_hangBlock h) (by omega) rfl rfl (Nat.le_of_ble_eq_true rfl) dX5_deed_g3.2.1 (fun s26 h => ?_)
      refine r_iload_n hE 0 dX5_deed_g3.2.2.1 rfl rfl ?_
      exact c_iret hE hm hF dX5_deed_g3.2.2.2.1 h
def wcB_rd_deed (R : TY_X5_block) (post : CS → Int32 → Prop) (σ : CS) : Prop := wc_rd_isName (fun (s27 : CS) (r28 : Int32) => ((r28 = (0 : Int32)) → (((¬ ((c_rd_kind s27) = (2 : Int32))) → (wc_rd_deed_41 R post s27)) ∧ (((c_rd_kind s27) = (2 : Int32)) → (c_rd_figure s27 = 400 ∧ (wc_sp_isWord_s (fun (s29 : CS) (r30 : Int32) => ((r30 = (0 : Int32)) → (wc_rd_deed_41 R post s29)) ∧ ((¬ (r30 = (0 : Int32))) → (R.2.1 (fun (s31 : CS) (r32 : Int32) => post s31 r32) s29))) s27 (c_rd_at s27) 2))))) ∧ ((¬ (r28 = (0 : Int32))) → (wc_rd_telling (fun (s33 : CS) (r34 : Int32) => post s33 r34) s27))) σ
set_option maxRecDepth 20000 in
theorem kcB_rd_deed {R : TY_X5_block} {n : Nat} (ih0 : RH_X5_block R n) (hn : 207 ≤ n) {l : Launch} {D : va_G} {G : gAd} {post : CS → Int32 → Prop} {σ : CS} (h : wcB_rd_deed R post σ) : cMet l D G yX5_deed cX5_deed 2 (some .int) (n + 1) [.ref (G.1 600)] σ (pI post) := by
  unfold wcB_rd_deed at h
  refine c_enter (own := RX5) (by decide +kernel) rfl [(0, .ref (G.1 600))] rfl (Nat.le_of_ble_eq_true rfl) ?_
  intro E hE hm hF
  have hN := hm.2.2.2.2.2.2.1
  refine r_aload_n hE 0 dX5_deed_g0.1 rfl rfl ?_
  refine c_callVi hE hm [] [] ck_X5_118 (cr_rd hm rfl) (kc_rd_isName h) (by omega) rfl rfl (Nat.le_of_ble_eq_true rfl) dX5_deed_g0.2.1 (fun s27 r28 h => ?_)
  refine r_if_eq hE 12 dX5_deed_g0.2.2.1 (by decide) h (fun h => ?_) (fun h => ?_)
  · refine r_aload_n hE 0 dX5_deed_g0.2.2.2.2.2.2.1 rfl rfl ?_
    refine cg_rd_kind hE hm fk_X5_18 dX5_deed_g0.2.2.2.2.2.2.2.1 ?_
    refine r_iconst (v := (2 : Int32)) hE dX5_deed_g0.2.2.2.2.2.2.2.2.1 (by decide) ?_
    refine r_icmp_ne hE 41 dX5_deed_g0.2.2.2.2.2.2.2.2.2.1 (by decide) h (fun h => ?_) (fun h => ?_)
    · exact kc_rd_deed_41 ih0 hn hE hm hF _ h
    · refine r_aload_n hE 0 dX5_deed_g0.2.2.2.2.2.2.2.2.2.2.1 rfl rfl ?_
      obtain ⟨hj, h⟩ := h
      refine cg_rd_figure hE hm fk_X5_36 dX5_deed_g0.2.2.2.2.2.2.2.2.2.2.2.1 hj ?_
      refine r_aload_n hE 0 dX5_deed_g0.2.2.2.2.2.2.2.2.2.2.2.2.1 rfl rfl ?_
      refine cg_rd_at hE hm fk_X5_9 dX5_deed_g0.2.2.2.2.2.2.2.2.2.2.2.2.2.1 ?_
      refine ks_ldc (tx := "if") (i := 2) hE hm (List.mem_of_getElem? (i := 2) rfl) dX5_deed_g0.2.2.2.2.2.2.2.2.2.2.2.2.2.2.1 ?_
      refine c_callVi hE hm [.int (c_rd_at s27), .ref (G.1 (5000 + 2))] [] ck_X5_45 (cr_sp hm rfl) (kc_sp_isWord_s h) (by omega) rfl rfl (Nat.le_of_ble_eq_true rfl) dX5_deed_g0.2.2.2.2.2.2.2.2.2.2.2.2.2.2.2 (fun s29 r30 h => ?_)
      refine r_if_eq hE 41 dX5_deed_g1.1 (by decide) h (fun h => ?_) (fun h => ?_)
      · exact kc_rd_deed_41 ih0 hn hE hm hF _ h
      · refine r_aload_n hE 0 dX5_deed_g1.2.1 rfl rfl ?_
        refine c_callVi hE hm [] [] ck_X5_171 (cr_rd hm rfl) (ih0.2.1 _ _ _ _ _ h) (Nat.le_refl _) rfl rfl (Nat.le_of_ble_eq_true rfl) dX5_deed_g1.2.2.1 (fun s31 r32 h => ?_)
        exact c_iret hE hm hF dX5_deed_g1.2.2.2.1 h
  · refine r_aload_n hE 0 dX5_deed_g0.2.2.2.1 rfl rfl ?_
    refine c_callVi hE hm [] [] ck_X5_168 (cr_rd hm rfl) (kc_rd_telling h) (by omega) rfl rfl (Nat.le_of_ble_eq_true rfl) dX5_deed_g0.2.2.2.2.1 (fun s33 r34 h => ?_)
    exact c_iret hE hm hF dX5_deed_g0.2.2.2.2.2.1 h
def wc_rd_deeds_43 (R : TY_X5_block) (post : CS → Int32 → Prop) (lp6 : CS → Int32 → Int32 → Int32 → Prop) (σ : CS) (v1 : Int32) (v2 : Int32) (v3 : Int32) (v4 : Int32) : Prop := c_rd_figure σ = 400 ∧ (wc_sp_follow (fun (s1 : CS) => ∀ x2 : Int32, x2 = v3 + (1 : Int32) → lp6 s1 v1 v4 x2) σ v2 v4)
set_option maxRecDepth 20000 in
theorem kc_rd_deeds_43  {R : TY_X5_block} {n : Nat} (ih0 : RH_X5_block R n) (hn : 207 ≤ n) {E : gEnv} {l : Launch} {D : va_G} {G : gAd} {post : CS → Int32 → Prop} (hE : gOK E cX5_deeds RX5 (some .int) (n + 1)) (hm : cOK E l D G (pI post) 5) (hF : gFin E) {lp6 : CS → Int32 → Int32 → Int32 → Prop} (hl6 : ∀ (σ : CS) (v1 : Int32) (v2 : Int32) (v3 : Int32), lp6 σ v1 v2 v3 → GW E (cW G σ) 6 [(0, .ref (G.1 600)), (1, .int v1), (2, .int v2), (3, .int v3)] []) (σ : CS) (v1 : Int32) (v2 : Int32) (v3 : Int32) (v4 : Int32) (h : wc_rd_deeds_43 R post lp6 σ v1 v2 v3 v4) : GW E (cW G σ) 43 [(0, .ref (G.1 600)), (1, .int v1), (2, .int v2), (3, .int v3), (4, .int v4)] [] := by
  unfold wc_rd_deeds_43 at h
  have hN := hm.2.2.2.2.2.2.1
  refine r_aload_n hE 0 dX5_deeds_g1.2.2.2.2.2.2.2.2.1 rfl rfl ?_
  obtain ⟨hj, h⟩ := h
  refine cg_rd_figure hE hm fk_X5_36 dX5_deeds_g1.2.2.2.2.2.2.2.2.2.1 hj ?_
  refine r_iload_n hE 2 dX5_deeds_g1.2.2.2.2.2.2.2.2.2.2.1 rfl rfl ?_
  refine r_iload hE 4 dX5_deeds_g1.2.2.2.2.2.2.2.2.2.2.2.1 rfl ?_
  refine c_callVv hE hm [.int v2, .int v4] [] ck_X5_165 (cr_sp hm rfl) (kc_sp_follow h) (by omega) rfl rfl (Nat.le_of_ble_eq_true rfl) dX5_deeds_g1.2.2.2.2.2.2.2.2.2.2.2.2.1 (fun s1 h => ?_)
  refine r_iload hE 4 dX5_deeds_g1.2.2.2.2.2.2.2.2.2.2.2.2.2.1 rfl ?_
  refine r_istore_n hE [(2, .int v4), (0, .ref (G.1 600)), (1, .int v1), (3, .int v3), (4, .int v4)] dX5_deeds_g1.2.2.2.2.2.2.2.2.2.2.2.2.2.2.1 rfl hN (by decide) rfl ?_
  obtain ⟨x2, ex2⟩ : ∃ z : Int32, z = v3 + (1 : Int32) := ⟨_, rfl⟩
  have h := h x2 ex2
  refine r_iinc (v := x2) hE [(3, .int x2), (2, .int v4), (0, .ref (G.1 600)), (1, .int v1), (4, .int v4)] 3 dX5_deeds_g1.2.2.2.2.2.2.2.2.2.2.2.2.2.2.2 rfl (by rw [ex2]; rfl) hN (by decide) rfl ?_
  refine r_goto hE 6 dX5_deeds_g2.1 (by decide) ?_
  refine r_pick [2, 3, 1, 0] rfl ?_
  exact hl6 _ _ _ _ h
def wc_rd_deeds_6 (R : TY_X5_block) (post : CS → Int32 → Prop) : Nat → CS → Int32 → Int32 → Int32 → Prop
  | 0, _, _, _, _ => False
  | n + 1, σ, v1, v2, v3 => (((3000 : Int32) ≤ v3) → (post σ v1)) ∧ ((¬ ((3000 : Int32) ≤ v3)) → ((((c_rd_kind σ) = (0 : Int32)) → (post σ v1)) ∧ ((¬ ((c_rd_kind σ) = (0 : Int32))) → (wc_rd_isSign (fun (s3 : CS) (r4 : Int32) => ((¬ (r4 = (0 : Int32))) → (post s3 v1)) ∧ ((r4 = (0 : Int32)) → (R.2.2.1 (fun (s5 : CS) (r6 : Int32) => ((¬ (v1 = (-1 : Int32))) → (wc_rd_deeds_43 R post (fun (ys : CS) (y0 : Int32) (y1 : Int32) (y2 : Int32) => wc_rd_deeds_6 R post n ys y0 y1 y2) s5 v1 v2 v3 r6)) ∧ ((v1 = (-1 : Int32)) → (wc_rd_deeds_43 R post (fun (ys : CS) (y0 : Int32) (y1 : Int32) (y2 : Int32) => wc_rd_deeds_6 R post n ys y0 y1 y2) s5 r6 v2 v3 r6))) s3))) σ (125 : Int32)))))
set_option maxRecDepth 20000 in
theorem kc_rd_deeds_6  {R : TY_X5_block} {n : Nat} (ih0 : RH_X5_block R n) (hn : 207 ≤ n) {E : gEnv} {l : Launch} {D : va_G} {G : gAd} {post : CS → Int32 → Prop} (hE : gOK E cX5_deeds RX5 (some .int) (n + 1)) (hm : cOK E l D G (pI post) 5) (hF : gFin E) : ∀ (n0 : Nat) (σ : CS) (v1 : Int32) (v2 : Int32) (v3 : Int32), wc_rd_deeds_6 R post n0 σ v1 v2 v3 → GW E (cW G σ) 6 [(0, .ref (G.1 600)), (1, .int v1), (2, .int v2), (3, .int v3)] [] := by
  intro n0
  induction n0 with
  | zero => intro σ v1 v2 v3 h; exact h.elim
  | succ n0 ih =>
    intro σ v1 v2 v3 h
    rw [wc_rd_deeds_6] at h
    have hN := hm.2.2.2.2.2.2.1
    refine r_iload_n hE 3 dX5_deeds_g0.2.2.2.2.2.2.1 rfl rfl ?_
    refine r_sipush (v := (3000 : Int32)) hE dX5_deeds_g0.2.2.2.2.2.2.2.1 (by decide) ?_
    refine r_icmp_ge hE 62 dX5_deeds_g0.2.2.2.2.2.2.2.2.1 (by decide) h (fun h => ?_) (fun h => ?_)
    · refine r_iload_n hE 1 dX5_deeds_g2.2.1 rfl rfl ?_
      exact c_iret hE hm hF dX5_deeds_g2.2.2 h
    · refine r_aload_n hE 0 dX5_deeds_g0.2.2.2.2.2.2.2.2.2.1 rfl rfl ?_
      refine cg_rd_kind hE hm fk_X5_18 dX5_deeds_g0.2.2.2.2.2.2.2.2.2.2.1 ?_
      refine r_if_eq hE 62 dX5_deeds_g0.2.2.2.2.2.2.2.2.2.2.2.1 (by decide) h (fun h => ?_) (fun h => ?_)
      · refine r_iload_n hE 1 dX5_deeds_g2.2.1 rfl rfl ?_
        exact c_iret hE hm hF dX5_deeds_g2.2.2 h
      · refine r_aload_n hE 0 dX5_deeds_g0.2.2.2.2.2.2.2.2.2.2.2.2.1 rfl rfl ?_
        refine r_bipush (v := (125 : Int32)) hE dX5_deeds_g0.2.2.2.2.2.2.2.2.2.2.2.2.2.1 (by decide) ?_
        refine c_callVi hE hm [.int (125 : Int32)] [] ck_X5_88 (cr_rd hm rfl) (kc_rd_isSign h) (by omega) rfl rfl (Nat.le_of_ble_eq_true rfl) dX5_deeds_g0.2.2.2.2.2.2.2.2.2.2.2.2.2.2.1 (fun s3 r4 h => ?_)
        refine r_if_ne hE 62 dX5_deeds_g0.2.2.2.2.2.2.2.2.2.2.2.2.2.2.2 (by decide) h (fun h => ?_) (fun h => ?_)
        · refine r_iload_n hE 1 dX5_deeds_g2.2.1 rfl rfl ?_
          exact c_iret hE hm hF dX5_deeds_g2.2.2 h
        · refine r_aload_n hE 0 dX5_deeds_g1.1 rfl rfl ?_
          refine c_callVi hE hm [] [] ck_X5_162 (cr_rd hm rfl) (ih0.2.2.1 _ _ _ _ _ h) (Nat.le_refl _) rfl rfl (Nat.le_of_ble_eq_true rfl) dX5_deeds_g1.2.1 (fun s5 r6 h => ?_)
          refine r_istore hE [(4, .int r6), (0, .ref (G.1 600)), (1, .int v1), (2, .int v2), (3, .int v3)] dX5_deeds_g1.2.2.1 hN (by decide) rfl ?_
          refine r_iload_n hE 2 dX5_deeds_g1.2.2.2.1 rfl rfl ?_
          refine r_iconst (v := (-1 : Int32)) hE dX5_deeds_g1.2.2.2.2.1 (by decide) ?_
          refine r_icmp_ne hE 43 dX5_deeds_g1.2.2.2.2.2.1 (by decide) h (fun h => ?_) (fun h => ?_)
          · refine r_pick [1, 2, 3, 4, 0] rfl ?_
            exact kc_rd_deeds_43 ih0 hn hE hm hF ih _ _ _ _ _ h
          · refine r_iload hE 0 dX5_deeds_g1.2.2.2.2.2.2.1 rfl ?_
            refine r_istore_n hE [(1, .int r6), (4, .int r6), (0, .ref (G.1 600)), (2, .int v2), (3, .int v3)] dX5_deeds_g1.2.2.2.2.2.2.2.1 rfl hN (by decide) rfl ?_
            refine r_pick [2, 0, 3, 4, 1] rfl ?_
            exact kc_rd_deeds_43 ih0 hn hE hm hF ih _ _ _ _ _ h
def wcB_rd_deeds (R : TY_X5_block) (post : CS → Int32 → Prop) (σ : CS) : Prop := ∃ k : Nat, wc_rd_deeds_6 R post k σ (-1 : Int32) (-1 : Int32) (0 : Int32)
set_option maxRecDepth 20000 in
theorem kcB_rd_deeds {R : TY_X5_block} {n : Nat} (ih0 : RH_X5_block R n) (hn : 207 ≤ n) {l : Launch} {D : va_G} {G : gAd} {post : CS → Int32 → Prop} {σ : CS} (h : wcB_rd_deeds R post σ) : cMet l D G yX5_deeds cX5_deeds 5 (some .int) (n + 1) [.ref (G.1 600)] σ (pI post) := by
  unfold wcB_rd_deeds at h
  refine c_enter (own := RX5) (by decide +kernel) rfl [(0, .ref (G.1 600))] rfl (Nat.le_of_ble_eq_true rfl) ?_
  intro E hE hm hF
  have hN := hm.2.2.2.2.2.2.1
  refine r_iconst (v := (-1 : Int32)) hE dX5_deeds_g0.1 (by decide) ?_
  refine r_istore_n hE [(1, .int (-1 : Int32)), (0, .ref (G.1 600))] dX5_deeds_g0.2.1 rfl hN (by decide) rfl ?_
  refine r_iconst (v := (-1 : Int32)) hE dX5_deeds_g0.2.2.1 (by decide) ?_
  refine r_istore_n hE [(2, .int (-1 : Int32)), (1, .int (-1 : Int32)), (0, .ref (G.1 600))] dX5_deeds_g0.2.2.2.1 rfl hN (by decide) rfl ?_
  refine r_iconst (v := (0 : Int32)) hE dX5_deeds_g0.2.2.2.2.1 (by decide) ?_
  refine r_istore_n hE [(3, .int (0 : Int32)), (2, .int (-1 : Int32)), (1, .int (-1 : Int32)), (0, .ref (G.1 600))] dX5_deeds_g0.2.2.2.2.2.1 rfl hN (by decide) rfl ?_
  refine r_pick [3, 2, 1, 0] rfl ?_
  obtain ⟨k, h⟩ := h
  exact kc_rd_deeds_6 ih0 hn hE hm hF k _ _ _ _ h
def wr_X5_block : Nat → TY_X5_block
  | 0 => (fun _ _ => False, fun _ _ => False, fun _ _ => False, fun _ _ => False)
  | n + 1 => (fun post σ => wcB_rd_block (wr_X5_block n) post σ, fun post σ => wcB_rd_branch (wr_X5_block n) post σ, fun post σ => wcB_rd_deed (wr_X5_block n) post σ, fun post σ => wcB_rd_deeds (wr_X5_block n) post σ)
theorem kr_X5_block : ∀ d : Nat, RH_X5_block (wr_X5_block d) (207 + d) := by
  intro d
  induction d with
  | zero => exact ⟨fun _ _ _ _ _ h => h.elim, fun _ _ _ _ _ h => h.elim, fun _ _ _ _ _ h => h.elim, fun _ _ _ _ _ h => h.elim⟩
  | succ d ih => exact ⟨fun _ _ _ _ _ h => kcB_rd_block ih (Nat.le_add_right _ _) h, fun _ _ _ _ _ h => kcB_rd_branch ih (Nat.le_add_right _ _) h, fun _ _ _ _ _ h => kcB_rd_deed ih (Nat.le_add_right _ _) h, fun _ _ _ _ _ h => kcB_rd_deeds ih (Nat.le_add_right _ _) h⟩
def wc_rd_block (post : CS → Int32 → Prop) (σ : CS) : Prop := (wr_X5_block 200).1 post σ
theorem kc_rd_block {l : Launch} {D : va_G} {G : gAd} {post : CS → Int32 → Prop} {σ : CS} (h : wc_rd_block post σ) : cMet l D G yX5_block cX5_block 2 (some .int) 407 [.ref (G.1 600)] σ (pI post) := (kr_X5_block 200).1 _ _ _ _ _ h
def wc_rd_branch (post : CS → Int32 → Prop) (σ : CS) : Prop := (wr_X5_block 200).2.1 post σ
theorem kc_rd_branch {l : Launch} {D : va_G} {G : gAd} {post : CS → Int32 → Prop} {σ : CS} (h : wc_rd_branch post σ) : cMet l D G yX5_branch cX5_branch 2 (some .int) 407 [.ref (G.1 600)] σ (pI post) := (kr_X5_block 200).2.1 _ _ _ _ _ h
def wc_rd_deed (post : CS → Int32 → Prop) (σ : CS) : Prop := (wr_X5_block 200).2.2.1 post σ
theorem kc_rd_deed {l : Launch} {D : va_G} {G : gAd} {post : CS → Int32 → Prop} {σ : CS} (h : wc_rd_deed post σ) : cMet l D G yX5_deed cX5_deed 2 (some .int) 407 [.ref (G.1 600)] σ (pI post) := (kr_X5_block 200).2.2.1 _ _ _ _ _ h
def wc_rd_deeds (post : CS → Int32 → Prop) (σ : CS) : Prop := (wr_X5_block 200).2.2.2 post σ
theorem kc_rd_deeds {l : Launch} {D : va_G} {G : gAd} {post : CS → Int32 → Prop} {σ : CS} (h : wc_rd_deeds post σ) : cMet l D G yX5_deeds cX5_deeds 5 (some .int) 407 [.ref (G.1 600)] σ (pI post) := (kr_X5_block 200).2.2.2 _ _ _ _ _ h
/-! sp_endHeader -/
def wc_sp_endHeader (post : CS → Prop) (σ : CS) (a1 : Int32) : Prop := wc_SX12_inside (fun (s1 : CS) (r2 : Int32) => ((r2 = (0 : Int32)) → (post s1)) ∧ ((¬ (r2 = (0 : Int32))) → (vp_in a1 13 ∧ (vp_in a1 12 ∧ (∀ s3 : CS, s3 = c_sp_params_s s1 a1.toNatClampNeg (c_sp_names s1 a1.toNatClampNeg) → post s3))))) σ a1 (12 : Int32)
set_option maxRecDepth 20000 in
theorem kc_sp_endHeader {l : Launch} {D : va_G} {G : gAd} {post : CS → Prop} {σ : CS} {a1 : Int32} (h : wc_sp_endHeader post σ a1) : cMet l D G yX1_endHeader cX1_endHeader 2 none 2 [.ref (G.1 400), .int a1] σ (pV post) := by
  unfold wc_sp_endHeader at h
  refine c_enter (own := RX1) (by decide +kernel) rfl [(0, .ref (G.1 400)), (1, .int a1)] rfl (Nat.le_of_ble_eq_true rfl) ?_
  intro E hE hm hF
  have hN := hm.2.2.2.2.2.2.1
  refine r_iload_n hE 1 dX1_endHeader_g0.1 rfl rfl ?_
  refine r_bipush (v := (12 : Int32)) hE dX1_endHeader_g0.2.1 (by decide) ?_
  refine c_callSNi hE hm [.int a1, .int (12 : Int32)] [] ck_X1_74 cw_X1_74 (kc_SX12_inside h) (by decide) rfl rfl (Nat.le_of_ble_eq_true rfl) dX1_endHeader_g0.2.2.1 (fun s1 r2 h => ?_)
  refine r_if_eq hE 21 dX1_endHeader_g0.2.2.2.1 (by decide) h (fun h => ?_) (fun h => ?_)
  · exact c_vret hE hm hF dX1_endHeader_g0.2.2.2.2.2.2.2.2.2.2.2.2 h
  · refine r_aload_n hE 0 dX1_endHeader_g0.2.2.2.2.1 rfl rfl ?_
    refine cg_sp_params hE hm fk_X1_56 dX1_endHeader_g0.2.2.2.2.2.1 ?_
    refine r_iload_n hE 1 dX1_endHeader_g0.2.2.2.2.2.2.1 rfl rfl ?_
    refine r_aload_n hE 0 dX1_endHeader_g0.2.2.2.2.2.2.2.1 rfl rfl ?_
    refine cg_sp_names hE hm fk_X1_53 dX1_endHeader_g0.2.2.2.2.2.2.2.2.1 ?_
    refine r_iload_n hE 1 dX1_endHeader_g0.2.2.2.2.2.2.2.2.2.1 rfl rfl ?_
    obtain ⟨hi, h⟩ := h
    refine cl_sp_names hE hm dX1_endHeader_g0.2.2.2.2.2.2.2.2.2.2.1 hi ?_
    obtain ⟨hi, h⟩ := h
    refine cs_sp_params hE hm dX1_endHeader_g0.2.2.2.2.2.2.2.2.2.2.2.1 hi h (fun s3 h => ?_)
    exact c_vret hE hm hF dX1_endHeader_g0.2.2.2.2.2.2.2.2.2.2.2.2 h
/-! rd_param -/
def wc_rd_param (post : CS → Prop) (σ : CS) : Prop := wc_rd_isName (fun (s1 : CS) (r2 : Int32) => ((¬ (r2 = (0 : Int32))) → (c_rd_figure s1 = 400 ∧ (wc_sp_namesIn (fun (s3 : CS) (r4 : Int32) => ((r4 < (4 : Int32)) → (c_rd_figure s3 = 400 ∧ (wc_sp_nameNumber (fun (s5 : CS) (r6 : Int32) => ((r6 = (-1 : Int32)) → (c_rd_figure s5 = 400 ∧ (wc_sp_tell (fun (s7 : CS) (r8 : Int32) => wc_rd_next (fun (s9 : CS) => post s9) s7) s5 (c_rd_scope s5) (c_rd_at s5)))) ∧ ((¬ (r6 = (-1 : Int32))) → (wc_rd_noteFault (fun (s10 : CS) => post s10) s5 (4 : Int32) (c_rd_at s5)))) s3 (c_rd_scope s3) (c_rd_at s3)))) ∧ ((¬ (r4 < (4 : Int32))) → (wc_rd_noteFault (fun (s11 : CS) => post s11) s3 (3 : Int32) (c_rd_at s3)))) s1 (c_rd_scope s1)))) ∧ ((r2 = (0 : Int32)) → (wc_rd_misplaced (fun (s12 : CS) (r13 : Int32) => wc_rd_noteFault (fun (s14 : CS) => post s14) s12 r13 (c_rd_at s12)) s1))) σ
set_option maxRecDepth 20000 in
theorem kc_rd_param {l : Launch} {D : va_G} {G : gAd} {post : CS → Prop} {σ : CS} (h : wc_rd_param post σ) : cMet l D G yX5_param cX5_param 1 none 7 [.ref (G.1 600)] σ (pV post) := by
  unfold wc_rd_param at h
  refine c_enter (own := RX5) (by decide +kernel) rfl [(0, .ref (G.1 600))] rfl (Nat.le_of_ble_eq_true rfl) ?_
  intro E hE hm hF
  have hN := hm.2.2.2.2.2.2.1
  refine r_aload_n hE 0 dX5_param_g0.1 rfl rfl ?_
  refine c_callVi hE hm [] [] ck_X5_118 (cr_rd hm rfl) (kc_rd_isName h) (by decide) rfl rfl (Nat.le_of_ble_eq_true rfl) dX5_param_g0.2.1 (fun s1 r2 h => ?_)
  refine r_if_ne hE 22 dX5_param_g0.2.2.1 (by decide) h (fun h => ?_) (fun h => ?_)
  · refine r_aload_n hE 0 dX5_param_g0.2.2.2.2.2.2.2.2.2.2.1 rfl rfl ?_
    obtain ⟨hj, h⟩ := h
    refine cg_rd_figure hE hm fk_X5_36 dX5_param_g0.2.2.2.2.2.2.2.2.2.2.2.1 hj ?_
    refine r_aload_n hE 0 dX5_param_g0.2.2.2.2.2.2.2.2.2.2.2.2.1 rfl rfl ?_
    refine cg_rd_scope hE hm fk_X5_24 dX5_param_g0.2.2.2.2.2.2.2.2.2.2.2.2.2.1 ?_
    refine c_callVi hE hm [.int (c_rd_scope s1)] [] ck_X5_146 (cr_sp hm rfl) (kc_sp_namesIn h) (by decide) rfl rfl (Nat.le_of_ble_eq_true rfl) dX5_param_g0.2.2.2.2.2.2.2.2.2.2.2.2.2.2.1 (fun s3 r4 h => ?_)
    refine r_iconst (v := (4 : Int32)) hE dX5_param_g0.2.2.2.2.2.2.2.2.2.2.2.2.2.2.2 (by decide) ?_
    refine r_icmp_lt hE 49 dX5_param_g1.1 (by decide) h (fun h => ?_) (fun h => ?_)
    · refine r_aload_n hE 0 dX5_param_g1.2.2.2.2.2.2.2.1 rfl rfl ?_
      obtain ⟨hj, h⟩ := h
      refine cg_rd_figure hE hm fk_X5_36 dX5_param_g1.2.2.2.2.2.2.2.2.1 hj ?_
      refine r_aload_n hE 0 dX5_param_g1.2.2.2.2.2.2.2.2.2.1 rfl rfl ?_
      refine cg_rd_scope hE hm fk_X5_24 dX5_param_g1.2.2.2.2.2.2.2.2.2.2.1 ?_
      refine r_aload_n hE 0 dX5_param_g1.2.2.2.2.2.2.2.2.2.2.2.1 rfl rfl ?_
      refine cg_rd_at hE hm fk_X5_9 dX5_param_g1.2.2.2.2.2.2.2.2.2.2.2.2.1 ?_
      refine c_callVi hE hm [.int (c_rd_scope s3), .int (c_rd_at s3)] [] ck_X5_149 (cr_sp hm rfl) (kc_sp_nameNumber h) (by decide) rfl rfl (Nat.le_of_ble_eq_true rfl) dX5_param_g1.2.2.2.2.2.2.2.2.2.2.2.2.2.1 (fun s5 r6 h => ?_)
      refine r_iconst (v := (-1 : Int32)) hE dX5_param_g1.2.2.2.2.2.2.2.2.2.2.2.2.2.2.1 (by decide) ?_
      refine r_icmp_eq hE 80 dX5_param_g1.2.2.2.2.2.2.2.2.2.2.2.2.2.2.2 (by decide) h (fun h => ?_) (fun h => ?_)
      · refine r_aload_n hE 0 dX5_param_g2.2.2.2.2.2.2.1 rfl rfl ?_
        obtain ⟨hj, h⟩ := h
        refine cg_rd_figure hE hm fk_X5_36 dX5_param_g2.2.2.2.2.2.2.2.1 hj ?_
        refine r_aload_n hE 0 dX5_param_g2.2.2.2.2.2.2.2.2.1 rfl rfl ?_
        refine cg_rd_scope hE hm fk_X5_24 dX5_param_g2.2.2.2.2.2.2.2.2.2.1 ?_
        refine r_aload_n hE 0 dX5_param_g2.2.2.2.2.2.2.2.2.2.2.1 rfl rfl ?_
        refine cg_rd_at hE hm fk_X5_9 dX5_param_g2.2.2.2.2.2.2.2.2.2.2.2.1 ?_
        refine c_callVi hE hm [.int (c_rd_scope s5), .int (c_rd_at s5)] [] ck_X5_153 (cr_sp hm rfl) (kc_sp_tell h) (by decide) rfl rfl (Nat.le_of_ble_eq_true rfl) dX5_param_g2.2.2.2.2.2.2.2.2.2.2.2.2.1 (fun s7 r8 h => ?_)
        refine r_pop hE dX5_param_g2.2.2.2.2.2.2.2.2.2.2.2.2.2.1 rfl ?_
        refine r_aload_n hE 0 dX5_param_g2.2.2.2.2.2.2.2.2.2.2.2.2.2.2.1 rfl rfl ?_
        refine c_callVv hE hm [] [] ck_X5_40 (cr_rd hm rfl) (kc_rd_next h) (by decide) rfl rfl (Nat.le_of_ble_eq_true rfl) dX5_param_g2.2.2.2.2.2.2.2.2.2.2.2.2.2.2.2 (fun s9 h => ?_)
        exact c_vret hE hm hF dX5_param_g3 h
      · refine r_aload_n hE 0 dX5_param_g2.1 rfl rfl ?_
        refine r_iconst (v := (4 : Int32)) hE dX5_param_g2.2.1 (by decide) ?_
        refine r_aload_n hE 0 dX5_param_g2.2.2.1 rfl rfl ?_
        refine cg_rd_at hE hm fk_X5_9 dX5_param_g2.2.2.2.1 ?_
        refine c_callVv hE hm [.int (4 : Int32), .int (c_rd_at s5)] [] ck_X5_71 (cr_rd hm rfl) (kc_rd_noteFault h) (by decide) rfl rfl (Nat.le_of_ble_eq_true rfl) dX5_param_g2.2.2.2.2.1 (fun s10 h => ?_)
        refine r_goto hE 100 dX5_param_g2.2.2.2.2.2.1 (by decide) ?_
        exact c_vret hE hm hF dX5_param_g3 h
    · refine r_aload_n hE 0 dX5_param_g1.2.1 rfl rfl ?_
      refine r_iconst (v := (3 : Int32)) hE dX5_param_g1.2.2.1 (by decide) ?_
      refine r_aload_n hE 0 dX5_param_g1.2.2.2.1 rfl rfl ?_
      refine cg_rd_at hE hm fk_X5_9 dX5_param_g1.2.2.2.2.1 ?_
      refine c_callVv hE hm [.int (3 : Int32), .int (c_rd_at s3)] [] ck_X5_71 (cr_rd hm rfl) (kc_rd_noteFault h) (by decide) rfl rfl (Nat.le_of_ble_eq_true rfl) dX5_param_g1.2.2.2.2.2.1 (fun s11 h => ?_)
      refine r_goto hE 100 dX5_param_g1.2.2.2.2.2.2.1 (by decide) ?_
      exact c_vret hE hm hF dX5_param_g3 h
  · refine r_aload_n hE 0 dX5_param_g0.2.2.2.1 rfl rfl ?_
    refine r_aload_n hE 0 dX5_param_g0.2.2.2.2.1 rfl rfl ?_
    refine c_callVi hE hm [] [.ref (G.1 600)] ck_X5_68 (cr_rd hm rfl) (kc_rd_misplaced h) (by decide) rfl rfl (Nat.le_of_ble_eq_true rfl) dX5_param_g0.2.2.2.2.2.1 (fun s12 r13 h => ?_)
    refine r_aload_n hE 0 dX5_param_g0.2.2.2.2.2.2.1 rfl rfl ?_
    refine cg_rd_at hE hm fk_X5_9 dX5_param_g0.2.2.2.2.2.2.2.1 ?_
    refine c_callVv hE hm [.int r13, .int (c_rd_at s12)] [] ck_X5_71 (cr_rd hm rfl) (kc_rd_noteFault h) (by decide) rfl rfl (Nat.le_of_ble_eq_true rfl) dX5_param_g0.2.2.2.2.2.2.2.2.1 (fun s14 h => ?_)
    refine r_goto hE 100 dX5_param_g0.2.2.2.2.2.2.2.2.2.1 (by decide) ?_
    exact c_vret hE hm hF dX5_param_g3 h
