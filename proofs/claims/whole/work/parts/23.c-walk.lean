/-! fg_endMacro -/
def wc_fg_endMacro (post : CS → Prop) (σ : CS) (a1 : Int32) (a2 : Int32) : Prop := wc_SX12_inside (fun (s1 : CS) (r2 : Int32) => ((r2 = (0 : Int32)) → (post s1)) ∧ ((¬ (r2 = (0 : Int32))) → (vp_in (c_fg_macros s1) 12 ∧ (∀ s3 : CS, s3 = c_fg_macroAt_s s1 (c_fg_macros s1).toNatClampNeg a1 → vp_in (c_fg_macros s3) 12 ∧ (∀ s4 : CS, s4 = c_fg_macroBody_s s3 (c_fg_macros s3).toNatClampNeg a2 → ∀ s5 : CS, s5 = c_fg_macros_s s4 ((c_fg_macros s4) + (1 : Int32)) → post s5))))) σ (c_fg_macros σ) (12 : Int32)
set_option maxRecDepth 20000 in
theorem kc_fg_endMacro {l : Launch} {D : va_G} {G : gAd} {post : CS → Prop} {σ : CS} {a1 : Int32} {a2 : Int32} (h : wc_fg_endMacro post σ a1 a2) : cMet l D G yX1_endMacro cX1_endMacro 3 none 2 [.ref (G.1 300), .int a1, .int a2] σ (pV post) := by
  unfold wc_fg_endMacro at h
  refine c_enter (own := RX1) (by decide +kernel) rfl [(0, .ref (G.1 300)), (1, .int a1), (2, .int a2)] rfl (Nat.le_of_ble_eq_true rfl) ?_
  intro E hE hm
  have hN := hm.2.2.2.2.2.2.1
  refine r_aload_n hE 0 dX1_endMacro_g0.1 rfl rfl ?_
  refine cg_fg_macros hE hm fk_X1_65 dX1_endMacro_g0.2.1 ?_
  refine r_bipush (v := (12 : Int32)) hE dX1_endMacro_g0.2.2.1 (by decide) ?_
  refine c_callSNi hE hm [.int (c_fg_macros σ), .int (12 : Int32)] [] ck_X1_74 cw_X1_74 (kc_SX12_inside h) (by decide) rfl rfl (Nat.le_of_ble_eq_true rfl) dX1_endMacro_g0.2.2.2.1 (fun s1 r2 h => ?_)
  refine r_if_eq hE 42 dX1_endMacro_g0.2.2.2.2.1 (by decide) h (fun h => ?_) (fun h => ?_)
  · exact c_vret hE hm dX1_endMacro_g1.2.2.2.2.2.2.2 h
  · refine r_aload_n hE 0 dX1_endMacro_g0.2.2.2.2.2.1 rfl rfl ?_
    refine cg_fg_macroAt hE hm fk_X1_59 dX1_endMacro_g0.2.2.2.2.2.2.1 ?_
    refine r_aload_n hE 0 dX1_endMacro_g0.2.2.2.2.2.2.2.1 rfl rfl ?_
    refine cg_fg_macros hE hm fk_X1_65 dX1_endMacro_g0.2.2.2.2.2.2.2.2.1 ?_
    refine r_iload_n hE 1 dX1_endMacro_g0.2.2.2.2.2.2.2.2.2.1 rfl rfl ?_
    obtain ⟨hi, h⟩ := h
    refine cs_fg_macroAt hE hm dX1_endMacro_g0.2.2.2.2.2.2.2.2.2.2.1 hi h (fun s3 h => ?_)
    refine r_aload_n hE 0 dX1_endMacro_g0.2.2.2.2.2.2.2.2.2.2.2.1 rfl rfl ?_
    refine cg_fg_macroBody hE hm fk_X1_62 dX1_endMacro_g0.2.2.2.2.2.2.2.2.2.2.2.2.1 ?_
    refine r_aload_n hE 0 dX1_endMacro_g0.2.2.2.2.2.2.2.2.2.2.2.2.2.1 rfl rfl ?_
    refine cg_fg_macros hE hm fk_X1_65 dX1_endMacro_g0.2.2.2.2.2.2.2.2.2.2.2.2.2.2.1 ?_
    refine r_iload_n hE 2 dX1_endMacro_g0.2.2.2.2.2.2.2.2.2.2.2.2.2.2.2 rfl rfl ?_
    obtain ⟨hi, h⟩ := h
    refine cs_fg_macroBody hE hm dX1_endMacro_g1.1 hi h (fun s4 h => ?_)
    refine r_aload_n hE 0 dX1_endMacro_g1.2.1 rfl rfl ?_
    refine r_dup hE dX1_endMacro_g1.2.2.1 rfl ?_
    refine cg_fg_macros hE hm fk_X1_65 dX1_endMacro_g1.2.2.2.1 ?_
    refine r_iconst (v := (1 : Int32)) hE dX1_endMacro_g1.2.2.2.2.1 (by decide) ?_
    refine r_iadd hE dX1_endMacro_g1.2.2.2.2.2.1 ?_
    refine cp_fg_macros hE hm fk_X1_65 dX1_endMacro_g1.2.2.2.2.2.2.1 h (fun s5 h => ?_)
    exact c_vret hE hm dX1_endMacro_g1.2.2.2.2.2.2.2 h
/-! fg_macroNumber -/
def wc_fg_macroNumber_2 (post : CS → Int32 → Prop) : Nat → CS → Int32 → Int32 → Prop
  | 0, _, _, _ => False
  | n + 1, σ, v1, v2 => (((c_fg_macros σ) ≤ v2) → (post σ (-1 : Int32))) ∧ ((¬ ((c_fg_macros σ) ≤ v2)) → ((((12 : Int32) ≤ v2) → (post σ (-1 : Int32))) ∧ ((¬ ((12 : Int32) ≤ v2)) → (vp_in v2 12 ∧ (wc_fg_sameWord (fun (s1 : CS) (r2 : Int32) => ((r2 = (0 : Int32)) → (∀ x3 : Int32, x3 = v2 + (1 : Int32) → wc_fg_macroNumber_2 post n s1 v1 x3)) ∧ ((¬ (r2 = (0 : Int32))) → (post s1 v2))) σ (c_fg_macroAt σ v2.toNatClampNeg) v1)))))
set_option maxRecDepth 20000 in
theorem kc_fg_macroNumber_2 {E : gEnv} {l : Launch} {D : va_G} {G : gAd} {post : CS → Int32 → Prop} (hE : gOK E cX1_macroNumber RX1 (some .int) 3) (hm : cOK E l D G (pI post) 3) : ∀ (n : Nat) (σ : CS) (v1 : Int32) (v2 : Int32), wc_fg_macroNumber_2 post n σ v1 v2 → GW E (cW G σ) 2 [(0, .ref (G.1 300)), (1, .int v1), (2, .int v2)] [] := by
  intro n
  induction n with
  | zero => intro σ v1 v2 h; exact h.elim
  | succ n ih =>
    intro σ v1 v2 h
    rw [wc_fg_macroNumber_2] at h
    have hN := hm.2.2.2.2.2.2.1
    refine r_iload_n hE 2 dX1_macroNumber_g0.2.2.1 rfl rfl ?_
    refine r_aload_n hE 0 dX1_macroNumber_g0.2.2.2.1 rfl rfl ?_
    refine cg_fg_macros hE hm fk_X1_65 dX1_macroNumber_g0.2.2.2.2.1 ?_
    refine r_icmp_ge hE 38 dX1_macroNumber_g0.2.2.2.2.2.1 (by decide) h (fun h => ?_) (fun h => ?_)
    · refine r_iconst (v := (-1 : Int32)) hE dX1_macroNumber_g1.2.2.2.2.2.1 (by decide) ?_
      exact c_iret hE hm dX1_macroNumber_g1.2.2.2.2.2.2 h
    · refine r_iload_n hE 2 dX1_macroNumber_g0.2.2.2.2.2.2.1 rfl rfl ?_
      refine r_bipush (v := (12 : Int32)) hE dX1_macroNumber_g0.2.2.2.2.2.2.2.1 (by decide) ?_
      refine r_icmp_ge hE 38 dX1_macroNumber_g0.2.2.2.2.2.2.2.2.1 (by decide) h (fun h => ?_) (fun h => ?_)
      · refine r_iconst (v := (-1 : Int32)) hE dX1_macroNumber_g1.2.2.2.2.2.1 (by decide) ?_
        exact c_iret hE hm dX1_macroNumber_g1.2.2.2.2.2.2 h
      · refine r_aload_n hE 0 dX1_macroNumber_g0.2.2.2.2.2.2.2.2.2.1 rfl rfl ?_
        refine r_aload_n hE 0 dX1_macroNumber_g0.2.2.2.2.2.2.2.2.2.2.1 rfl rfl ?_
        refine cg_fg_macroAt hE hm fk_X1_59 dX1_macroNumber_g0.2.2.2.2.2.2.2.2.2.2.2.1 ?_
        refine r_iload_n hE 2 dX1_macroNumber_g0.2.2.2.2.2.2.2.2.2.2.2.2.1 rfl rfl ?_
        obtain ⟨hi, h⟩ := h
        refine cl_fg_macroAt hE hm dX1_macroNumber_g0.2.2.2.2.2.2.2.2.2.2.2.2.2.1 hi ?_
        refine r_iload_n hE 1 dX1_macroNumber_g0.2.2.2.2.2.2.2.2.2.2.2.2.2.2.1 rfl rfl ?_
        refine c_callVi hE hm [.int (c_fg_macroAt σ v2.toNatClampNeg), .int v1] [] ck_X1_82 (cr_fg hm rfl) (kc_fg_sameWord h) (by decide) rfl rfl (Nat.le_of_ble_eq_true rfl) dX1_macroNumber_g0.2.2.2.2.2.2.2.2.2.2.2.2.2.2.2 (fun s1 r2 h => ?_)
        refine r_if_eq hE 32 dX1_macroNumber_g1.1 (by decide) h (fun h => ?_) (fun h => ?_)
        · obtain ⟨x3, ex3⟩ : ∃ z : Int32, z = v2 + (1 : Int32) := ⟨_, rfl⟩
          have h := h x3 ex3
          refine r_iinc (v := x3) hE [(2, .int x3), (0, .ref (G.1 300)), (1, .int v1)] 2 dX1_macroNumber_g1.2.2.2.1 rfl (by rw [ex3]; rfl) hN (by decide) rfl ?_
          refine r_goto hE 2 dX1_macroNumber_g1.2.2.2.2.1 (by decide) ?_
          refine r_pick [1, 2, 0] rfl ?_
          exact ih _ _ _ h
        · refine r_iload_n hE 2 dX1_macroNumber_g1.2.1 rfl rfl ?_
          exact c_iret hE hm dX1_macroNumber_g1.2.2.1 h
def wc_fg_macroNumber (post : CS → Int32 → Prop) (σ : CS) (a1 : Int32) : Prop := ∃ k : Nat, wc_fg_macroNumber_2 post k σ a1 (0 : Int32)
set_option maxRecDepth 20000 in
theorem kc_fg_macroNumber {l : Launch} {D : va_G} {G : gAd} {post : CS → Int32 → Prop} {σ : CS} {a1 : Int32} (h : wc_fg_macroNumber post σ a1) : cMet l D G yX1_macroNumber cX1_macroNumber 3 (some .int) 3 [.ref (G.1 300), .int a1] σ (pI post) := by
  unfold wc_fg_macroNumber at h
  refine c_enter (own := RX1) (by decide +kernel) rfl [(0, .ref (G.1 300)), (1, .int a1)] rfl (Nat.le_of_ble_eq_true rfl) ?_
  intro E hE hm
  have hN := hm.2.2.2.2.2.2.1
  refine r_iconst (v := (0 : Int32)) hE dX1_macroNumber_g0.1 (by decide) ?_
  refine r_istore_n hE [(2, .int (0 : Int32)), (0, .ref (G.1 300)), (1, .int a1)] dX1_macroNumber_g0.2.1 rfl hN (by decide) rfl ?_
  refine r_pick [1, 2, 0] rfl ?_
  obtain ⟨k, h⟩ := h
  exact kc_fg_macroNumber_2 hE hm k _ _ _ h
/-! fg_macroAtOf -/
def wc_fg_macroAtOf (post : CS → Int32 → Prop) (σ : CS) (a1 : Int32) : Prop := wc_SX12_inside (fun (s1 : CS) (r2 : Int32) => ((r2 = (0 : Int32)) → (post s1 (-1 : Int32))) ∧ ((¬ (r2 = (0 : Int32))) → (vp_in a1 12 ∧ (post s1 (c_fg_macroAt s1 a1.toNatClampNeg))))) σ a1 (c_fg_macros σ)
set_option maxRecDepth 20000 in
theorem kc_fg_macroAtOf {l : Launch} {D : va_G} {G : gAd} {post : CS → Int32 → Prop} {σ : CS} {a1 : Int32} (h : wc_fg_macroAtOf post σ a1) : cMet l D G yX1_macroAtOf cX1_macroAtOf 2 (some .int) 2 [.ref (G.1 300), .int a1] σ (pI post) := by
  unfold wc_fg_macroAtOf at h
  refine c_enter (own := RX1) (by decide +kernel) rfl [(0, .ref (G.1 300)), (1, .int a1)] rfl (Nat.le_of_ble_eq_true rfl) ?_
  intro E hE hm
  have hN := hm.2.2.2.2.2.2.1
  refine r_iload_n hE 1 dX1_macroAtOf_g0.1 rfl rfl ?_
  refine r_aload_n hE 0 dX1_macroAtOf_g0.2.1 rfl rfl ?_
  refine cg_fg_macros hE hm fk_X1_65 dX1_macroAtOf_g0.2.2.1 ?_
  refine c_callSNi hE hm [.int a1, .int (c_fg_macros σ)] [] ck_X1_74 cw_X1_74 (kc_SX12_inside h) (by decide) rfl rfl (Nat.le_of_ble_eq_true rfl) dX1_macroAtOf_g0.2.2.2.1 (fun s1 r2 h => ?_)
  refine r_if_eq hE 20 dX1_macroAtOf_g0.2.2.2.2.1 (by decide) h (fun h => ?_) (fun h => ?_)
  · refine r_iconst (v := (-1 : Int32)) hE dX1_macroAtOf_g0.2.2.2.2.2.2.2.2.2.2.1 (by decide) ?_
    exact c_iret hE hm dX1_macroAtOf_g0.2.2.2.2.2.2.2.2.2.2.2 h
  · refine r_aload_n hE 0 dX1_macroAtOf_g0.2.2.2.2.2.1 rfl rfl ?_
    refine cg_fg_macroAt hE hm fk_X1_59 dX1_macroAtOf_g0.2.2.2.2.2.2.1 ?_
    refine r_iload_n hE 1 dX1_macroAtOf_g0.2.2.2.2.2.2.2.1 rfl rfl ?_
    obtain ⟨hi, h⟩ := h
    refine cl_fg_macroAt hE hm dX1_macroAtOf_g0.2.2.2.2.2.2.2.2.1 hi ?_
    refine r_goto hE 21 dX1_macroAtOf_g0.2.2.2.2.2.2.2.2.2.1 (by decide) ?_
    exact c_iret hE hm dX1_macroAtOf_g0.2.2.2.2.2.2.2.2.2.2.2 h
/-! fg_paramsOf -/
def wc_fg_paramsOf (post : CS → Int32 → Prop) (σ : CS) (a1 : Int32) : Prop := wc_SX12_inside (fun (s1 : CS) (r2 : Int32) => ((r2 = (0 : Int32)) → (post s1 (0 : Int32))) ∧ ((¬ (r2 = (0 : Int32))) → (vp_in a1 12 ∧ (post s1 (c_fg_params s1 a1.toNatClampNeg))))) σ a1 (c_fg_macros σ)
set_option maxRecDepth 20000 in
theorem kc_fg_paramsOf {l : Launch} {D : va_G} {G : gAd} {post : CS → Int32 → Prop} {σ : CS} {a1 : Int32} (h : wc_fg_paramsOf post σ a1) : cMet l D G yX1_paramsOf cX1_paramsOf 2 (some .int) 2 [.ref (G.1 300), .int a1] σ (pI post) := by
  unfold wc_fg_paramsOf at h
  refine c_enter (own := RX1) (by decide +kernel) rfl [(0, .ref (G.1 300)), (1, .int a1)] rfl (Nat.le_of_ble_eq_true rfl) ?_
  intro E hE hm
  have hN := hm.2.2.2.2.2.2.1
  refine r_iload_n hE 1 dX1_paramsOf_g0.1 rfl rfl ?_
  refine r_aload_n hE 0 dX1_paramsOf_g0.2.1 rfl rfl ?_
  refine cg_fg_macros hE hm fk_X1_65 dX1_paramsOf_g0.2.2.1 ?_
  refine c_callSNi hE hm [.int a1, .int (c_fg_macros σ)] [] ck_X1_74 cw_X1_74 (kc_SX12_inside h) (by decide) rfl rfl (Nat.le_of_ble_eq_true rfl) dX1_paramsOf_g0.2.2.2.1 (fun s1 r2 h => ?_)
  refine r_if_eq hE 20 dX1_paramsOf_g0.2.2.2.2.1 (by decide) h (fun h => ?_) (fun h => ?_)
  · refine r_iconst (v := (0 : Int32)) hE dX1_paramsOf_g0.2.2.2.2.2.2.2.2.2.2.1 (by decide) ?_
    exact c_iret hE hm dX1_paramsOf_g0.2.2.2.2.2.2.2.2.2.2.2 h
  · refine r_aload_n hE 0 dX1_paramsOf_g0.2.2.2.2.2.1 rfl rfl ?_
    refine cg_fg_params hE hm fk_X1_56 dX1_paramsOf_g0.2.2.2.2.2.2.1 ?_
    refine r_iload_n hE 1 dX1_paramsOf_g0.2.2.2.2.2.2.2.1 rfl rfl ?_
    obtain ⟨hi, h⟩ := h
    refine cl_fg_params hE hm dX1_paramsOf_g0.2.2.2.2.2.2.2.2.1 hi ?_
    refine r_goto hE 21 dX1_paramsOf_g0.2.2.2.2.2.2.2.2.2.1 (by decide) ?_
    exact c_iret hE hm dX1_paramsOf_g0.2.2.2.2.2.2.2.2.2.2.2 h
/-! fg_macroBodyOf -/
def wc_fg_macroBodyOf (post : CS → Int32 → Prop) (σ : CS) (a1 : Int32) : Prop := wc_SX12_inside (fun (s1 : CS) (r2 : Int32) => ((r2 = (0 : Int32)) → (post s1 (-1 : Int32))) ∧ ((¬ (r2 = (0 : Int32))) → (vp_in a1 12 ∧ (post s1 (c_fg_macroBody s1 a1.toNatClampNeg))))) σ a1 (c_fg_macros σ)
set_option maxRecDepth 20000 in
theorem kc_fg_macroBodyOf {l : Launch} {D : va_G} {G : gAd} {post : CS → Int32 → Prop} {σ : CS} {a1 : Int32} (h : wc_fg_macroBodyOf post σ a1) : cMet l D G yX1_macroBodyOf cX1_macroBodyOf 2 (some .int) 2 [.ref (G.1 300), .int a1] σ (pI post) := by
  unfold wc_fg_macroBodyOf at h
  refine c_enter (own := RX1) (by decide +kernel) rfl [(0, .ref (G.1 300)), (1, .int a1)] rfl (Nat.le_of_ble_eq_true rfl) ?_
  intro E hE hm
  have hN := hm.2.2.2.2.2.2.1
  refine r_iload_n hE 1 dX1_macroBodyOf_g0.1 rfl rfl ?_
  refine r_aload_n hE 0 dX1_macroBodyOf_g0.2.1 rfl rfl ?_
  refine cg_fg_macros hE hm fk_X1_65 dX1_macroBodyOf_g0.2.2.1 ?_
  refine c_callSNi hE hm [.int a1, .int (c_fg_macros σ)] [] ck_X1_74 cw_X1_74 (kc_SX12_inside h) (by decide) rfl rfl (Nat.le_of_ble_eq_true rfl) dX1_macroBodyOf_g0.2.2.2.1 (fun s1 r2 h => ?_)
  refine r_if_eq hE 20 dX1_macroBodyOf_g0.2.2.2.2.1 (by decide) h (fun h => ?_) (fun h => ?_)
  · refine r_iconst (v := (-1 : Int32)) hE dX1_macroBodyOf_g0.2.2.2.2.2.2.2.2.2.2.1 (by decide) ?_
    exact c_iret hE hm dX1_macroBodyOf_g0.2.2.2.2.2.2.2.2.2.2.2 h
  · refine r_aload_n hE 0 dX1_macroBodyOf_g0.2.2.2.2.2.1 rfl rfl ?_
    refine cg_fg_macroBody hE hm fk_X1_62 dX1_macroBodyOf_g0.2.2.2.2.2.2.1 ?_
    refine r_iload_n hE 1 dX1_macroBodyOf_g0.2.2.2.2.2.2.2.1 rfl rfl ?_
    obtain ⟨hi, h⟩ := h
    refine cl_fg_macroBody hE hm dX1_macroBodyOf_g0.2.2.2.2.2.2.2.2.1 hi ?_
    refine r_goto hE 21 dX1_macroBodyOf_g0.2.2.2.2.2.2.2.2.2.1 (by decide) ?_
    exact c_iret hE hm dX1_macroBodyOf_g0.2.2.2.2.2.2.2.2.2.2.2 h
/-! sp_byteAt -/
def wc_sp_byteAt (post : CS → Int32 → Prop) (σ : CS) (a1 : Int32) : Prop := ((a1 < (0 : Int32)) → (post σ (-1 : Int32))) ∧ ((¬ (a1 < (0 : Int32))) → ((((c_sp_length σ) ≤ a1) → (post σ (-1 : Int32))) ∧ ((¬ ((c_sp_length σ) ≤ a1)) → ((((3000 : Int32) ≤ a1) → (post σ (-1 : Int32))) ∧ ((¬ ((3000 : Int32) ≤ a1)) → (vp_in a1 3000 ∧ (post σ ((c_sp_text σ a1.toNatClampNeg) &&& (255 : Int32)))))))))
set_option maxRecDepth 20000 in
theorem kc_sp_byteAt {l : Launch} {D : va_G} {G : gAd} {post : CS → Int32 → Prop} {σ : CS} {a1 : Int32} (h : wc_sp_byteAt post σ a1) : cMet l D G yX1_byteAt cX1_byteAt 2 (some .int) 1 [.ref (G.1 400), .int a1] σ (pI post) := by
  unfold wc_sp_byteAt at h
  refine c_enter (own := RX1) (by decide +kernel) rfl [(0, .ref (G.1 400)), (1, .int a1)] rfl (Nat.le_of_ble_eq_true rfl) ?_
  intro E hE hm
  have hN := hm.2.2.2.2.2.2.1
  refine r_iload_n hE 1 dX1_byteAt_g0.1 rfl rfl ?_
  refine r_if_lt hE 34 dX1_byteAt_g0.2.1 (by decide) h (fun h => ?_) (fun h => ?_)
  · refine r_iconst (v := (-1 : Int32)) hE dX1_byteAt_g1.2.2.1 (by decide) ?_
    exact c_iret hE hm dX1_byteAt_g1.2.2.2 h
  · refine r_iload_n hE 1 dX1_byteAt_g0.2.2.1 rfl rfl ?_
    refine r_aload_n hE 0 dX1_byteAt_g0.2.2.2.1 rfl rfl ?_
    refine cg_sp_length hE hm fk_X1_15 dX1_byteAt_g0.2.2.2.2.1 ?_
    refine r_icmp_ge hE 34 dX1_byteAt_g0.2.2.2.2.2.1 (by decide) h (fun h => ?_) (fun h => ?_)
    · refine r_iconst (v := (-1 : Int32)) hE dX1_byteAt_g1.2.2.1 (by decide) ?_
      exact c_iret hE hm dX1_byteAt_g1.2.2.2 h
    · refine r_iload_n hE 1 dX1_byteAt_g0.2.2.2.2.2.2.1 rfl rfl ?_
      refine r_aload_n hE 0 dX1_byteAt_g0.2.2.2.2.2.2.2.1 rfl rfl ?_
      refine cg_sp_text hE hm fk_X1_9 dX1_byteAt_g0.2.2.2.2.2.2.2.2.1 ?_
      refine cn_sp_text hE hm dX1_byteAt_g0.2.2.2.2.2.2.2.2.2.1 ?_
      refine r_icmp_ge hE 34 dX1_byteAt_g0.2.2.2.2.2.2.2.2.2.2.1 (by decide) h (fun h => ?_) (fun h => ?_)
      · refine r_iconst (v := (-1 : Int32)) hE dX1_byteAt_g1.2.2.1 (by decide) ?_
        exact c_iret hE hm dX1_byteAt_g1.2.2.2 h
      · refine r_aload_n hE 0 dX1_byteAt_g0.2.2.2.2.2.2.2.2.2.2.2.1 rfl rfl ?_
        refine cg_sp_text hE hm fk_X1_9 dX1_byteAt_g0.2.2.2.2.2.2.2.2.2.2.2.2.1 ?_
        refine r_iload_n hE 1 dX1_byteAt_g0.2.2.2.2.2.2.2.2.2.2.2.2.2.1 rfl rfl ?_
        obtain ⟨hi, h⟩ := h
        refine cl_sp_text hE hm dX1_byteAt_g0.2.2.2.2.2.2.2.2.2.2.2.2.2.2.1 hi ?_
        refine r_sipush (v := (255 : Int32)) hE dX1_byteAt_g0.2.2.2.2.2.2.2.2.2.2.2.2.2.2.2 (by decide) ?_
        refine r_iand hE dX1_byteAt_g1.1 ?_
        refine r_goto hE 35 dX1_byteAt_g1.2.1 (by decide) ?_
        exact c_iret hE hm dX1_byteAt_g1.2.2.2 h
/-! sp_add -/
def wc_sp_add_103 (post : CS → Int32 → Prop) (σ : CS) (v4 : Int32) (t1 : Int32) (t2 : Int32) : Prop := ∀ s1 : CS, s1 = c_sp_deeds_s σ (t1 + t2) → post s1 v4
set_option maxRecDepth 20000 in
theorem kc_sp_add_103 {E : gEnv} {l : Launch} {D : va_G} {G : gAd} {post : CS → Int32 → Prop} (hE : gOK E cX1_add RX1 (some .int) 2) (hm : cOK E l D G (pI post) 5) (σ : CS) (v4 : Int32) (t1 : Int32) (t2 : Int32) (h : wc_sp_add_103 post σ v4 t1 t2) : GW E (cW G σ) 103 [(4, .int v4)] [.int t2, .int t1, .ref (G.1 400)] := by
  unfold wc_sp_add_103 at h
  have hN := hm.2.2.2.2.2.2.1
  refine r_iadd hE dX1_add_g3.2.2.2.2.2.2.2.2.2.2.2.2.1 ?_
  refine cp_sp_deeds hE hm fk_X1_44 dX1_add_g3.2.2.2.2.2.2.2.2.2.2.2.2.2.1 h (fun s1 h => ?_)
  refine r_iload hE 0 dX1_add_g3.2.2.2.2.2.2.2.2.2.2.2.2.2.2.1 rfl ?_
  exact c_iret hE hm dX1_add_g3.2.2.2.2.2.2.2.2.2.2.2.2.2.2.2 h
def wc_sp_add (post : CS → Int32 → Prop) (σ : CS) (a1 : Int32) (a2 : Int32) (a3 : Int32) : Prop := wc_SX12_inside (fun (s2 : CS) (r3 : Int32) => ((¬ (r3 = (0 : Int32))) → (∀ x4 : Int32, x4 = c_sp_nodes s2 → vp_in x4 250 ∧ (∀ s5 : CS, s5 = c_sp_type_s s2 x4.toNatClampNeg a1 → vp_in x4 250 ∧ (∀ s6 : CS, s6 = c_sp_at_s s5 x4.toNatClampNeg a2 → vp_in x4 250 ∧ (∀ s7 : CS, s7 = c_sp_data_s s6 x4.toNatClampNeg a3 → vp_in x4 250 ∧ (∀ s8 : CS, s8 = c_sp_first_s s7 x4.toNatClampNeg (-1 : Int32) → vp_in x4 250 ∧ (∀ s9 : CS, s9 = c_sp_next_s s8 x4.toNatClampNeg (-1 : Int32) → vp_in x4 250 ∧ (∀ s10 : CS, s10 = c_sp_body_s s9 x4.toNatClampNeg (-1 : Int32) → vp_in x4 250 ∧ (∀ s11 : CS, s11 = c_sp_other_s s10 x4.toNatClampNeg (-1 : Int32) → ∀ s12 : CS, s12 = c_sp_nodes_s s11 ((c_sp_nodes s11) + (1 : Int32)) → (((6 : Int32) < a1) → (wc_sp_add_103 post s12 x4 (c_sp_deeds s12) (0 : Int32))) ∧ ((¬ ((6 : Int32) < a1)) → (wc_sp_add_103 post s12 x4 (c_sp_deeds s12) (1 : Int32)))))))))))) ∧ ((r3 = (0 : Int32)) → (post s2 (-1 : Int32)))) σ (c_sp_nodes σ) (250 : Int32)
set_option maxRecDepth 20000 in
theorem kc_sp_add {l : Launch} {D : va_G} {G : gAd} {post : CS → Int32 → Prop} {σ : CS} {a1 : Int32} {a2 : Int32} {a3 : Int32} (h : wc_sp_add post σ a1 a2 a3) : cMet l D G yX1_add cX1_add 5 (some .int) 2 [.ref (G.1 400), .int a1, .int a2, .int a3] σ (pI post) := by
  unfold wc_sp_add at h
  refine c_enter (own := RX1) (by decide +kernel) rfl [(0, .ref (G.1 400)), (1, .int a1), (2, .int a2), (3, .int a3)] rfl (Nat.le_of_ble_eq_true rfl) ?_
  intro E hE hm
  have hN := hm.2.2.2.2.2.2.1
  refine r_aload_n hE 0 dX1_add_g0.1 rfl rfl ?_
  refine cg_sp_nodes hE hm fk_X1_41 dX1_add_g0.2.1 ?_
  refine r_sipush (v := (250 : Int32)) hE dX1_add_g0.2.2.1 (by decide) ?_
  refine c_callSNi hE hm [.int (c_sp_nodes σ), .int (250 : Int32)] [] ck_X1_74 cw_X1_74 (kc_SX12_inside h) (by decide) rfl rfl (Nat.le_of_ble_eq_true rfl) dX1_add_g0.2.2.2.1 (fun s2 r3 h => ?_)
  refine r_if_ne hE 15 dX1_add_g0.2.2.2.2.1 (by decide) h (fun h => ?_) (fun h => ?_)
  · refine r_aload_n hE 0 dX1_add_g0.2.2.2.2.2.2.2.1 rfl rfl ?_
    refine cg_sp_nodes hE hm fk_X1_41 dX1_add_g0.2.2.2.2.2.2.2.2.1 ?_
    refine r_topi h (fun x4 ex4 h => ?_)
    refine r_istore hE [(4, .int x4), (0, .ref (G.1 400)), (1, .int a1), (2, .int a2), (3, .int a3)] dX1_add_g0.2.2.2.2.2.2.2.2.2.1 hN (by decide) rfl ?_
    refine r_aload_n hE 1 dX1_add_g0.2.2.2.2.2.2.2.2.2.2.1 rfl rfl ?_
    refine cg_sp_type hE hm fk_X1_19 dX1_add_g0.2.2.2.2.2.2.2.2.2.2.2.1 ?_
    refine r_iload hE 0 dX1_add_g0.2.2.2.2.2.2.2.2.2.2.2.2.1 rfl ?_
    refine r_iload_n hE 2 dX1_add_g0.2.2.2.2.2.2.2.2.2.2.2.2.2.1 rfl rfl ?_
    obtain ⟨hi, h⟩ := h
    refine cs_sp_type hE hm dX1_add_g0.2.2.2.2.2.2.2.2.2.2.2.2.2.2.1 hi h (fun s5 h => ?_)
    refine r_aload_n hE 1 dX1_add_g0.2.2.2.2.2.2.2.2.2.2.2.2.2.2.2 rfl rfl ?_
    refine cg_sp_at hE hm fk_X1_23 dX1_add_g1.1 ?_
    refine r_iload hE 0 dX1_add_g1.2.1 rfl ?_
    refine r_iload_n hE 3 dX1_add_g1.2.2.1 rfl rfl ?_
    obtain ⟨hi, h⟩ := h
    refine cs_sp_at hE hm dX1_add_g1.2.2.2.1 hi h (fun s6 h => ?_)
    refine r_aload_n hE 1 dX1_add_g1.2.2.2.2.1 rfl rfl ?_
    refine cg_sp_data hE hm fk_X1_26 dX1_add_g1.2.2.2.2.2.1 ?_
    refine r_iload hE 0 dX1_add_g1.2.2.2.2.2.2.1 rfl ?_
    refine r_iload_n hE 4 dX1_add_g1.2.2.2.2.2.2.2.1 rfl rfl ?_
    obtain ⟨hi, h⟩ := h
    refine cs_sp_data hE hm dX1_add_g1.2.2.2.2.2.2.2.2.1 hi h (fun s7 h => ?_)
    refine r_aload_n hE 1 dX1_add_g1.2.2.2.2.2.2.2.2.2.1 rfl rfl ?_
    refine cg_sp_first hE hm fk_X1_29 dX1_add_g1.2.2.2.2.2.2.2.2.2.2.1 ?_
    refine r_iload hE 0 dX1_add_g1.2.2.2.2.2.2.2.2.2.2.2.1 rfl ?_
    refine r_iconst (v := (-1 : Int32)) hE dX1_add_g1.2.2.2.2.2.2.2.2.2.2.2.2.1 (by decide) ?_
    obtain ⟨hi, h⟩ := h
    refine cs_sp_first hE hm dX1_add_g1.2.2.2.2.2.2.2.2.2.2.2.2.2.1 hi h (fun s8 h => ?_)
    refine r_aload_n hE 1 dX1_add_g1.2.2.2.2.2.2.2.2.2.2.2.2.2.2.1 rfl rfl ?_
    refine cg_sp_next hE hm fk_X1_32 dX1_add_g1.2.2.2.2.2.2.2.2.2.2.2.2.2.2.2 ?_
    refine r_iload hE 0 dX1_add_g2.1 rfl ?_
    refine r_iconst (v := (-1 : Int32)) hE dX1_add_g2.2.1 (by decide) ?_
    obtain ⟨hi, h⟩ := h
    refine cs_sp_next hE hm dX1_add_g2.2.2.1 hi h (fun s9 h => ?_)
    refine r_aload_n hE 1 dX1_add_g2.2.2.2.1 rfl rfl ?_
    refine cg_sp_body hE hm fk_X1_35 dX1_add_g2.2.2.2.2.1 ?_
    refine r_iload hE 0 dX1_add_g2.2.2.2.2.2.1 rfl ?_
    refine r_iconst (v := (-1 : Int32)) hE dX1_add_g2.2.2.2.2.2.2.1 (by decide) ?_
    obtain ⟨hi, h⟩ := h
    refine cs_sp_body hE hm dX1_add_g2.2.2.2.2.2.2.2.1 hi h (fun s10 h => ?_)
    refine r_aload_n hE 1 dX1_add_g2.2.2.2.2.2.2.2.2.1 rfl rfl ?_
    refine cg_sp_other hE hm fk_X1_38 dX1_add_g2.2.2.2.2.2.2.2.2.2.1 ?_
    refine r_iload hE 0 dX1_add_g2.2.2.2.2.2.2.2.2.2.2.1 rfl ?_
    refine r_iconst (v := (-1 : Int32)) hE dX1_add_g2.2.2.2.2.2.2.2.2.2.2.2.1 (by decide) ?_
    obtain ⟨hi, h⟩ := h
    refine cs_sp_other hE hm dX1_add_g2.2.2.2.2.2.2.2.2.2.2.2.2.1 hi h (fun s11 h => ?_)
    refine r_aload_n hE 1 dX1_add_g2.2.2.2.2.2.2.2.2.2.2.2.2.2.1 rfl rfl ?_
    refine r_dup hE dX1_add_g2.2.2.2.2.2.2.2.2.2.2.2.2.2.2.1 rfl ?_
    refine cg_sp_nodes hE hm fk_X1_41 dX1_add_g2.2.2.2.2.2.2.2.2.2.2.2.2.2.2.2 ?_
    refine r_iconst (v := (1 : Int32)) hE dX1_add_g3.1 (by decide) ?_
    refine r_iadd hE dX1_add_g3.2.1 ?_
    refine cp_sp_nodes hE hm fk_X1_41 dX1_add_g3.2.2.1 h (fun s12 h => ?_)
    refine r_aload_n hE 1 dX1_add_g3.2.2.2.1 rfl rfl ?_
    refine r_dup hE dX1_add_g3.2.2.2.2.1 rfl ?_
    refine cg_sp_deeds hE hm fk_X1_44 dX1_add_g3.2.2.2.2.2.1 ?_
    refine r_iload_n hE 2 dX1_add_g3.2.2.2.2.2.2.1 rfl rfl ?_
    refine r_bipush (v := (6 : Int32)) hE dX1_add_g3.2.2.2.2.2.2.2.1 (by decide) ?_
    refine r_icmp_gt hE 102 dX1_add_g3.2.2.2.2.2.2.2.2.1 (by decide) h (fun h => ?_) (fun h => ?_)
    · refine r_iconst (v := (0 : Int32)) hE dX1_add_g3.2.2.2.2.2.2.2.2.2.2.2.1 (by decide) ?_
      refine r_pick [0] rfl ?_
      exact kc_sp_add_103 hE hm _ _ _ _ h
    · refine r_iconst (v := (1 : Int32)) hE dX1_add_g3.2.2.2.2.2.2.2.2.2.1 (by decide) ?_
      refine r_goto hE 103 dX1_add_g3.2.2.2.2.2.2.2.2.2.2.1 (by decide) ?_
      refine r_pick [0] rfl ?_
      exact kc_sp_add_103 hE hm _ _ _ _ h
  · refine r_iconst (v := (-1 : Int32)) hE dX1_add_g0.2.2.2.2.2.1 (by decide) ?_
    exact c_iret hE hm dX1_add_g0.2.2.2.2.2.2.1 h
/-! sp_become -/
def wc_sp_become (post : CS → Prop) (σ : CS) (a1 : Int32) (a2 : Int32) (a3 : Int32) : Prop := ((a1 < (0 : Int32)) → (post σ)) ∧ ((¬ (a1 < (0 : Int32))) → ((((c_sp_nodes σ) ≤ a1) → (post σ)) ∧ ((¬ ((c_sp_nodes σ) ≤ a1)) → (vp_in a1 250 ∧ (∀ s1 : CS, s1 = c_sp_type_s σ a1.toNatClampNeg a2 → vp_in a1 250 ∧ (∀ s2 : CS, s2 = c_sp_data_s s1 a1.toNatClampNeg a3 → post s2))))))
set_option maxRecDepth 20000 in
theorem kc_sp_become {l : Launch} {D : va_G} {G : gAd} {post : CS → Prop} {σ : CS} {a1 : Int32} {a2 : Int32} {a3 : Int32} (h : wc_sp_become post σ a1 a2 a3) : cMet l D G yX1_become cX1_become 4 none 1 [.ref (G.1 400), .int a1, .int a2, .int a3] σ (pV post) := by
  unfold wc_sp_become at h
  refine c_enter (own := RX1) (by decide +kernel) rfl [(0, .ref (G.1 400)), (1, .int a1), (2, .int a2), (3, .int a3)] rfl (Nat.le_of_ble_eq_true rfl) ?_
  intro E hE hm
  have hN := hm.2.2.2.2.2.2.1
  refine r_iload_n hE 1 dX1_become_g0.1 rfl rfl ?_
  refine r_if_lt hE 26 dX1_become_g0.2.1 (by decide) h (fun h => ?_) (fun h => ?_)
  · exact c_vret hE hm dX1_become_g1 h
  · refine r_iload_n hE 1 dX1_become_g0.2.2.1 rfl rfl ?_
    refine r_aload_n hE 0 dX1_become_g0.2.2.2.1 rfl rfl ?_
    refine cg_sp_nodes hE hm fk_X1_41 dX1_become_g0.2.2.2.2.1 ?_
    refine r_icmp_ge hE 26 dX1_become_g0.2.2.2.2.2.1 (by decide) h (fun h => ?_) (fun h => ?_)
    · exact c_vret hE hm dX1_become_g1 h
    · refine r_aload_n hE 0 dX1_become_g0.2.2.2.2.2.2.1 rfl rfl ?_
      refine cg_sp_type hE hm fk_X1_19 dX1_become_g0.2.2.2.2.2.2.2.1 ?_
      refine r_iload_n hE 1 dX1_become_g0.2.2.2.2.2.2.2.2.1 rfl rfl ?_
      refine r_iload_n hE 2 dX1_become_g0.2.2.2.2.2.2.2.2.2.1 rfl rfl ?_
      obtain ⟨hi, h⟩ := h
      refine cs_sp_type hE hm dX1_become_g0.2.2.2.2.2.2.2.2.2.2.1 hi h (fun s1 h => ?_)
      refine r_aload_n hE 0 dX1_become_g0.2.2.2.2.2.2.2.2.2.2.2.1 rfl rfl ?_
      refine cg_sp_data hE hm fk_X1_26 dX1_become_g0.2.2.2.2.2.2.2.2.2.2.2.2.1 ?_
      refine r_iload_n hE 1 dX1_become_g0.2.2.2.2.2.2.2.2.2.2.2.2.2.1 rfl rfl ?_
      refine r_iload_n hE 3 dX1_become_g0.2.2.2.2.2.2.2.2.2.2.2.2.2.2.1 rfl rfl ?_
      obtain ⟨hi, h⟩ := h
      refine cs_sp_data hE hm dX1_become_g0.2.2.2.2.2.2.2.2.2.2.2.2.2.2.2 hi h (fun s2 h => ?_)
      exact c_vret hE hm dX1_become_g1 h
/-! sp_hang -/
def wc_sp_hang (post : CS → Prop) (σ : CS) (a1 : Int32) (a2 : Int32) : Prop := ((a1 < (0 : Int32)) → (post σ)) ∧ ((¬ (a1 < (0 : Int32))) → ((((c_sp_nodes σ) ≤ a1) → (post σ)) ∧ ((¬ ((c_sp_nodes σ) ≤ a1)) → (vp_in a1 250 ∧ (∀ s1 : CS, s1 = c_sp_first_s σ a1.toNatClampNeg a2 → post s1)))))
set_option maxRecDepth 20000 in
theorem kc_sp_hang {l : Launch} {D : va_G} {G : gAd} {post : CS → Prop} {σ : CS} {a1 : Int32} {a2 : Int32} (h : wc_sp_hang post σ a1 a2) : cMet l D G yX1_hang cX1_hang 3 none 1 [.ref (G.1 400), .int a1, .int a2] σ (pV post) := by
  unfold wc_sp_hang at h
  refine c_enter (own := RX1) (by decide +kernel) rfl [(0, .ref (G.1 400)), (1, .int a1), (2, .int a2)] rfl (Nat.le_of_ble_eq_true rfl) ?_
  intro E hE hm
  have hN := hm.2.2.2.2.2.2.1
  refine r_iload_n hE 1 dX1_hang_g0.1 rfl rfl ?_
  refine r_if_lt hE 19 dX1_hang_g0.2.1 (by decide) h (fun h => ?_) (fun h => ?_)
  · exact c_vret hE hm dX1_hang_g0.2.2.2.2.2.2.2.2.2.2.2 h
  · refine r_iload_n hE 1 dX1_hang_g0.2.2.1 rfl rfl ?_
    refine r_aload_n hE 0 dX1_hang_g0.2.2.2.1 rfl rfl ?_
    refine cg_sp_nodes hE hm fk_X1_41 dX1_hang_g0.2.2.2.2.1 ?_
    refine r_icmp_ge hE 19 dX1_hang_g0.2.2.2.2.2.1 (by decide) h (fun h => ?_) (fun h => ?_)
    · exact c_vret hE hm dX1_hang_g0.2.2.2.2.2.2.2.2.2.2.2 h
    · refine r_aload_n hE 0 dX1_hang_g0.2.2.2.2.2.2.1 rfl rfl ?_
      refine cg_sp_first hE hm fk_X1_29 dX1_hang_g0.2.2.2.2.2.2.2.1 ?_
      refine r_iload_n hE 1 dX1_hang_g0.2.2.2.2.2.2.2.2.1 rfl rfl ?_
      refine r_iload_n hE 2 dX1_hang_g0.2.2.2.2.2.2.2.2.2.1 rfl rfl ?_
      obtain ⟨hi, h⟩ := h
      refine cs_sp_first hE hm dX1_hang_g0.2.2.2.2.2.2.2.2.2.2.1 hi h (fun s1 h => ?_)
      exact c_vret hE hm dX1_hang_g0.2.2.2.2.2.2.2.2.2.2.2 h
/-! sp_follow -/
def wc_sp_follow (post : CS → Prop) (σ : CS) (a1 : Int32) (a2 : Int32) : Prop := ((a1 < (0 : Int32)) → (post σ)) ∧ ((¬ (a1 < (0 : Int32))) → ((((c_sp_nodes σ) ≤ a1) → (post σ)) ∧ ((¬ ((c_sp_nodes σ) ≤ a1)) → (vp_in a1 250 ∧ (∀ s1 : CS, s1 = c_sp_next_s σ a1.toNatClampNeg a2 → post s1)))))
set_option maxRecDepth 20000 in
theorem kc_sp_follow {l : Launch} {D : va_G} {G : gAd} {post : CS → Prop} {σ : CS} {a1 : Int32} {a2 : Int32} (h : wc_sp_follow post σ a1 a2) : cMet l D G yX1_follow cX1_follow 3 none 1 [.ref (G.1 400), .int a1, .int a2] σ (pV post) := by
  unfold wc_sp_follow at h
  refine c_enter (own := RX1) (by decide +kernel) rfl [(0, .ref (G.1 400)), (1, .int a1), (2, .int a2)] rfl (Nat.le_of_ble_eq_true rfl) ?_
  intro E hE hm
  have hN := hm.2.2.2.2.2.2.1
  refine r_iload_n hE 1 dX1_follow_g0.1 rfl rfl ?_
  refine r_if_lt hE 19 dX1_follow_g0.2.1 (by decide) h (fun h => ?_) (fun h => ?_)
  · exact c_vret hE hm dX1_follow_g0.2.2.2.2.2.2.2.2.2.2.2 h
  · refine r_iload_n hE 1 dX1_follow_g0.2.2.1 rfl rfl ?_
    refine r_aload_n hE 0 dX1_follow_g0.2.2.2.1 rfl rfl ?_
    refine cg_sp_nodes hE hm fk_X1_41 dX1_follow_g0.2.2.2.2.1 ?_
    refine r_icmp_ge hE 19 dX1_follow_g0.2.2.2.2.2.1 (by decide) h (fun h => ?_) (fun h => ?_)
    · exact c_vret hE hm dX1_follow_g0.2.2.2.2.2.2.2.2.2.2.2 h
    · refine r_aload_n hE 0 dX1_follow_g0.2.2.2.2.2.2.1 rfl rfl ?_
      refine cg_sp_next hE hm fk_X1_32 dX1_follow_g0.2.2.2.2.2.2.2.1 ?_
      refine r_iload_n hE 1 dX1_follow_g0.2.2.2.2.2.2.2.2.1 rfl rfl ?_
      refine r_iload_n hE 2 dX1_follow_g0.2.2.2.2.2.2.2.2.2.1 rfl rfl ?_
      obtain ⟨hi, h⟩ := h
      refine cs_sp_next hE hm dX1_follow_g0.2.2.2.2.2.2.2.2.2.2.1 hi h (fun s1 h => ?_)
      exact c_vret hE hm dX1_follow_g0.2.2.2.2.2.2.2.2.2.2.2 h
/-! sp_hangBlock -/
def wc_sp_hangBlock (post : CS → Prop) (σ : CS) (a1 : Int32) (a2 : Int32) : Prop := ((a1 < (0 : Int32)) → (post σ)) ∧ ((¬ (a1 < (0 : Int32))) → ((((c_sp_nodes σ) ≤ a1) → (post σ)) ∧ ((¬ ((c_sp_nodes σ) ≤ a1)) → (vp_in a1 250 ∧ (∀ s1 : CS, s1 = c_sp_body_s σ a1.toNatClampNeg a2 → post s1)))))
set_option maxRecDepth 20000 in
theorem kc_sp_hangBlock {l : Launch} {D : va_G} {G : gAd} {post : CS → Prop} {σ : CS} {a1 : Int32} {a2 : Int32} (h : wc_sp_hangBlock post σ a1 a2) : cMet l D G yX1_hangBlock cX1_hangBlock 3 none 1 [.ref (G.1 400), .int a1, .int a2] σ (pV post) := by
  unfold wc_sp_hangBlock at h
  refine c_enter (own := RX1) (by decide +kernel) rfl [(0, .ref (G.1 400)), (1, .int a1), (2, .int a2)] rfl (Nat.le_of_ble_eq_true rfl) ?_
  intro E hE hm
  have hN := hm.2.2.2.2.2.2.1
  refine r_iload_n hE 1 dX1_hangBlock_g0.1 rfl rfl ?_
  refine r_if_lt hE 19 dX1_hangBlock_g0.2.1 (by decide) h (fun h => ?_) (fun h => ?_)
  · exact c_vret hE hm dX1_hangBlock_g0.2.2.2.2.2.2.2.2.2.2.2 h
  · refine r_iload_n hE 1 dX1_hangBlock_g0.2.2.1 rfl rfl ?_
    refine r_aload_n hE 0 dX1_hangBlock_g0.2.2.2.1 rfl rfl ?_
    refine cg_sp_nodes hE hm fk_X1_41 dX1_hangBlock_g0.2.2.2.2.1 ?_
    refine r_icmp_ge hE 19 dX1_hangBlock_g0.2.2.2.2.2.1 (by decide) h (fun h => ?_) (fun h => ?_)
    · exact c_vret hE hm dX1_hangBlock_g0.2.2.2.2.2.2.2.2.2.2.2 h
    · refine r_aload_n hE 0 dX1_hangBlock_g0.2.2.2.2.2.2.1 rfl rfl ?_
      refine cg_sp_body hE hm fk_X1_35 dX1_hangBlock_g0.2.2.2.2.2.2.2.1 ?_
      refine r_iload_n hE 1 dX1_hangBlock_g0.2.2.2.2.2.2.2.2.1 rfl rfl ?_
      refine r_iload_n hE 2 dX1_hangBlock_g0.2.2.2.2.2.2.2.2.2.1 rfl rfl ?_
      obtain ⟨hi, h⟩ := h
      refine cs_sp_body hE hm dX1_hangBlock_g0.2.2.2.2.2.2.2.2.2.2.1 hi h (fun s1 h => ?_)
      exact c_vret hE hm dX1_hangBlock_g0.2.2.2.2.2.2.2.2.2.2.2 h
/-! sp_hangElse -/
def wc_sp_hangElse (post : CS → Prop) (σ : CS) (a1 : Int32) (a2 : Int32) : Prop := ((a1 < (0 : Int32)) → (post σ)) ∧ ((¬ (a1 < (0 : Int32))) → ((((c_sp_nodes σ) ≤ a1) → (post σ)) ∧ ((¬ ((c_sp_nodes σ) ≤ a1)) → (vp_in a1 250 ∧ (∀ s1 : CS, s1 = c_sp_other_s σ a1.toNatClampNeg a2 → vp_in a1 250 ∧ (∀ s2 : CS, s2 = c_sp_data_s s1 a1.toNatClampNeg (1 : Int32) → post s2))))))
set_option maxRecDepth 20000 in
theorem kc_sp_hangElse {l : Launch} {D : va_G} {G : gAd} {post : CS → Prop} {σ : CS} {a1 : Int32} {a2 : Int32} (h : wc_sp_hangElse post σ a1 a2) : cMet l D G yX1_hangElse cX1_hangElse 3 none 1 [.ref (G.1 400), .int a1, .int a2] σ (pV post) := by
  unfold wc_sp_hangElse at h
  refine c_enter (own := RX1) (by decide +kernel) rfl [(0, .ref (G.1 400)), (1, .int a1), (2, .int a2)] rfl (Nat.le_of_ble_eq_true rfl) ?_
  intro E hE hm
  have hN := hm.2.2.2.2.2.2.1
  refine r_iload_n hE 1 dX1_hangElse_g0.1 rfl rfl ?_
  refine r_if_lt hE 26 dX1_hangElse_g0.2.1 (by decide) h (fun h => ?_) (fun h => ?_)
  · exact c_vret hE hm dX1_hangElse_g1 h
  · refine r_iload_n hE 1 dX1_hangElse_g0.2.2.1 rfl rfl ?_
    refine r_aload_n hE 0 dX1_hangElse_g0.2.2.2.1 rfl rfl ?_
    refine cg_sp_nodes hE hm fk_X1_41 dX1_hangElse_g0.2.2.2.2.1 ?_
    refine r_icmp_ge hE 26 dX1_hangElse_g0.2.2.2.2.2.1 (by decide) h (fun h => ?_) (fun h => ?_)
    · exact c_vret hE hm dX1_hangElse_g1 h
    · refine r_aload_n hE 0 dX1_hangElse_g0.2.2.2.2.2.2.1 rfl rfl ?_
      refine cg_sp_other hE hm fk_X1_38 dX1_hangElse_g0.2.2.2.2.2.2.2.1 ?_
      refine r_iload_n hE 1 dX1_hangElse_g0.2.2.2.2.2.2.2.2.1 rfl rfl ?_
      refine r_iload_n hE 2 dX1_hangElse_g0.2.2.2.2.2.2.2.2.2.1 rfl rfl ?_
      obtain ⟨hi, h⟩ := h
      refine cs_sp_other hE hm dX1_hangElse_g0.2.2.2.2.2.2.2.2.2.2.1 hi h (fun s1 h => ?_)
      refine r_aload_n hE 0 dX1_hangElse_g0.2.2.2.2.2.2.2.2.2.2.2.1 rfl rfl ?_
      refine cg_sp_data hE hm fk_X1_26 dX1_hangElse_g0.2.2.2.2.2.2.2.2.2.2.2.2.1 ?_
      refine r_iload_n hE 1 dX1_hangElse_g0.2.2.2.2.2.2.2.2.2.2.2.2.2.1 rfl rfl ?_
      refine r_iconst (v := (1 : Int32)) hE dX1_hangElse_g0.2.2.2.2.2.2.2.2.2.2.2.2.2.2.1 (by decide) ?_
      obtain ⟨hi, h⟩ := h
      refine cs_sp_data hE hm dX1_hangElse_g0.2.2.2.2.2.2.2.2.2.2.2.2.2.2.2 hi h (fun s2 h => ?_)
      exact c_vret hE hm dX1_hangElse_g1 h
/-! sp_typeOf -/
def wc_sp_typeOf (post : CS → Int32 → Prop) (σ : CS) (a1 : Int32) : Prop := ((a1 < (0 : Int32)) → (post σ (-1 : Int32))) ∧ ((¬ (a1 < (0 : Int32))) → ((((c_sp_nodes σ) ≤ a1) → (post σ (-1 : Int32))) ∧ ((¬ ((c_sp_nodes σ) ≤ a1)) → (vp_in a1 250 ∧ (post σ (c_sp_type σ a1.toNatClampNeg))))))
set_option maxRecDepth 20000 in
theorem kc_sp_typeOf {l : Launch} {D : va_G} {G : gAd} {post : CS → Int32 → Prop} {σ : CS} {a1 : Int32} (h : wc_sp_typeOf post σ a1) : cMet l D G yX1_typeOf cX1_typeOf 2 (some .int) 1 [.ref (G.1 400), .int a1] σ (pI post) := by
  unfold wc_sp_typeOf at h
  refine c_enter (own := RX1) (by decide +kernel) rfl [(0, .ref (G.1 400)), (1, .int a1)] rfl (Nat.le_of_ble_eq_true rfl) ?_
  intro E hE hm
  have hN := hm.2.2.2.2.2.2.1
  refine r_iload_n hE 1 dX1_typeOf_g0.1 rfl rfl ?_
  refine r_if_lt hE 21 dX1_typeOf_g0.2.1 (by decide) h (fun h => ?_) (fun h => ?_)
  · refine r_iconst (v := (-1 : Int32)) hE dX1_typeOf_g0.2.2.2.2.2.2.2.2.2.2.2.1 (by decide) ?_
    exact c_iret hE hm dX1_typeOf_g0.2.2.2.2.2.2.2.2.2.2.2.2 h
  · refine r_iload_n hE 1 dX1_typeOf_g0.2.2.1 rfl rfl ?_
    refine r_aload_n hE 0 dX1_typeOf_g0.2.2.2.1 rfl rfl ?_
    refine cg_sp_nodes hE hm fk_X1_41 dX1_typeOf_g0.2.2.2.2.1 ?_
    refine r_icmp_ge hE 21 dX1_typeOf_g0.2.2.2.2.2.1 (by decide) h (fun h => ?_) (fun h => ?_)
    · refine r_iconst (v := (-1 : Int32)) hE dX1_typeOf_g0.2.2.2.2.2.2.2.2.2.2.2.1 (by decide) ?_
      exact c_iret hE hm dX1_typeOf_g0.2.2.2.2.2.2.2.2.2.2.2.2 h
    · refine r_aload_n hE 0 dX1_typeOf_g0.2.2.2.2.2.2.1 rfl rfl ?_
      refine cg_sp_type hE hm fk_X1_19 dX1_typeOf_g0.2.2.2.2.2.2.2.1 ?_
      refine r_iload_n hE 1 dX1_typeOf_g0.2.2.2.2.2.2.2.2.1 rfl rfl ?_
      obtain ⟨hi, h⟩ := h
      refine cl_sp_type hE hm dX1_typeOf_g0.2.2.2.2.2.2.2.2.2.1 hi ?_
      refine r_goto hE 22 dX1_typeOf_g0.2.2.2.2.2.2.2.2.2.2.1 (by decide) ?_
      exact c_iret hE hm dX1_typeOf_g0.2.2.2.2.2.2.2.2.2.2.2.2 h
/-! sp_atOf -/
def wc_sp_atOf (post : CS → Int32 → Prop) (σ : CS) (a1 : Int32) : Prop := ((a1 < (0 : Int32)) → (post σ (-1 : Int32))) ∧ ((¬ (a1 < (0 : Int32))) → ((((c_sp_nodes σ) ≤ a1) → (post σ (-1 : Int32))) ∧ ((¬ ((c_sp_nodes σ) ≤ a1)) → (vp_in a1 250 ∧ (post σ (c_sp_at σ a1.toNatClampNeg))))))
set_option maxRecDepth 20000 in
theorem kc_sp_atOf {l : Launch} {D : va_G} {G : gAd} {post : CS → Int32 → Prop} {σ : CS} {a1 : Int32} (h : wc_sp_atOf post σ a1) : cMet l D G yX1_atOf cX1_atOf 2 (some .int) 1 [.ref (G.1 400), .int a1] σ (pI post) := by
  unfold wc_sp_atOf at h
  refine c_enter (own := RX1) (by decide +kernel) rfl [(0, .ref (G.1 400)), (1, .int a1)] rfl (Nat.le_of_ble_eq_true rfl) ?_
  intro E hE hm
  have hN := hm.2.2.2.2.2.2.1
  refine r_iload_n hE 1 dX1_atOf_g0.1 rfl rfl ?_
  refine r_if_lt hE 21 dX1_atOf_g0.2.1 (by decide) h (fun h => ?_) (fun h => ?_)
  · refine r_iconst (v := (-1 : Int32)) hE dX1_atOf_g0.2.2.2.2.2.2.2.2.2.2.2.1 (by decide) ?_
    exact c_iret hE hm dX1_atOf_g0.2.2.2.2.2.2.2.2.2.2.2.2 h
  · refine r_iload_n hE 1 dX1_atOf_g0.2.2.1 rfl rfl ?_
    refine r_aload_n hE 0 dX1_atOf_g0.2.2.2.1 rfl rfl ?_
    refine cg_sp_nodes hE hm fk_X1_41 dX1_atOf_g0.2.2.2.2.1 ?_
    refine r_icmp_ge hE 21 dX1_atOf_g0.2.2.2.2.2.1 (by decide) h (fun h => ?_) (fun h => ?_)
    · refine r_iconst (v := (-1 : Int32)) hE dX1_atOf_g0.2.2.2.2.2.2.2.2.2.2.2.1 (by decide) ?_
      exact c_iret hE hm dX1_atOf_g0.2.2.2.2.2.2.2.2.2.2.2.2 h
    · refine r_aload_n hE 0 dX1_atOf_g0.2.2.2.2.2.2.1 rfl rfl ?_
      refine cg_sp_at hE hm fk_X1_23 dX1_atOf_g0.2.2.2.2.2.2.2.1 ?_
      refine r_iload_n hE 1 dX1_atOf_g0.2.2.2.2.2.2.2.2.1 rfl rfl ?_
      obtain ⟨hi, h⟩ := h
      refine cl_sp_at hE hm dX1_atOf_g0.2.2.2.2.2.2.2.2.2.1 hi ?_
      refine r_goto hE 22 dX1_atOf_g0.2.2.2.2.2.2.2.2.2.2.1 (by decide) ?_
      exact c_iret hE hm dX1_atOf_g0.2.2.2.2.2.2.2.2.2.2.2.2 h
/-! sp_dataOf -/
def wc_sp_dataOf (post : CS → Int32 → Prop) (σ : CS) (a1 : Int32) : Prop := ((a1 < (0 : Int32)) → (post σ (-1 : Int32))) ∧ ((¬ (a1 < (0 : Int32))) → ((((c_sp_nodes σ) ≤ a1) → (post σ (-1 : Int32))) ∧ ((¬ ((c_sp_nodes σ) ≤ a1)) → (vp_in a1 250 ∧ (post σ (c_sp_data σ a1.toNatClampNeg))))))
set_option maxRecDepth 20000 in
theorem kc_sp_dataOf {l : Launch} {D : va_G} {G : gAd} {post : CS → Int32 → Prop} {σ : CS} {a1 : Int32} (h : wc_sp_dataOf post σ a1) : cMet l D G yX1_dataOf cX1_dataOf 2 (some .int) 1 [.ref (G.1 400), .int a1] σ (pI post) := by
  unfold wc_sp_dataOf at h
  refine c_enter (own := RX1) (by decide +kernel) rfl [(0, .ref (G.1 400)), (1, .int a1)] rfl (Nat.le_of_ble_eq_true rfl) ?_
  intro E hE hm
  have hN := hm.2.2.2.2.2.2.1
  refine r_iload_n hE 1 dX1_dataOf_g0.1 rfl rfl ?_
  refine r_if_lt hE 21 dX1_dataOf_g0.2.1 (by decide) h (fun h => ?_) (fun h => ?_)
  · refine r_iconst (v := (-1 : Int32)) hE dX1_dataOf_g0.2.2.2.2.2.2.2.2.2.2.2.1 (by decide) ?_
    exact c_iret hE hm dX1_dataOf_g0.2.2.2.2.2.2.2.2.2.2.2.2 h
  · refine r_iload_n hE 1 dX1_dataOf_g0.2.2.1 rfl rfl ?_
    refine r_aload_n hE 0 dX1_dataOf_g0.2.2.2.1 rfl rfl ?_
    refine cg_sp_nodes hE hm fk_X1_41 dX1_dataOf_g0.2.2.2.2.1 ?_
    refine r_icmp_ge hE 21 dX1_dataOf_g0.2.2.2.2.2.1 (by decide) h (fun h => ?_) (fun h => ?_)
    · refine r_iconst (v := (-1 : Int32)) hE dX1_dataOf_g0.2.2.2.2.2.2.2.2.2.2.2.1 (by decide) ?_
      exact c_iret hE hm dX1_dataOf_g0.2.2.2.2.2.2.2.2.2.2.2.2 h
    · refine r_aload_n hE 0 dX1_dataOf_g0.2.2.2.2.2.2.1 rfl rfl ?_
      refine cg_sp_data hE hm fk_X1_26 dX1_dataOf_g0.2.2.2.2.2.2.2.1 ?_
      refine r_iload_n hE 1 dX1_dataOf_g0.2.2.2.2.2.2.2.2.1 rfl rfl ?_
      obtain ⟨hi, h⟩ := h
      refine cl_sp_data hE hm dX1_dataOf_g0.2.2.2.2.2.2.2.2.2.1 hi ?_
      refine r_goto hE 22 dX1_dataOf_g0.2.2.2.2.2.2.2.2.2.2.1 (by decide) ?_
      exact c_iret hE hm dX1_dataOf_g0.2.2.2.2.2.2.2.2.2.2.2.2 h
/-! sp_firstOf -/
def wc_sp_firstOf (post : CS → Int32 → Prop) (σ : CS) (a1 : Int32) : Prop := ((a1 < (0 : Int32)) → (post σ (-1 : Int32))) ∧ ((¬ (a1 < (0 : Int32))) → ((((c_sp_nodes σ) ≤ a1) → (post σ (-1 : Int32))) ∧ ((¬ ((c_sp_nodes σ) ≤ a1)) → (vp_in a1 250 ∧ (post σ (c_sp_first σ a1.toNatClampNeg))))))
set_option maxRecDepth 20000 in
theorem kc_sp_firstOf {l : Launch} {D : va_G} {G : gAd} {post : CS → Int32 → Prop} {σ : CS} {a1 : Int32} (h : wc_sp_firstOf post σ a1) : cMet l D G yX1_firstOf cX1_firstOf 2 (some .int) 1 [.ref (G.1 400), .int a1] σ (pI post) := by
  unfold wc_sp_firstOf at h
  refine c_enter (own := RX1) (by decide +kernel) rfl [(0, .ref (G.1 400)), (1, .int a1)] rfl (Nat.le_of_ble_eq_true rfl) ?_
  intro E hE hm
  have hN := hm.2.2.2.2.2.2.1
  refine r_iload_n hE 1 dX1_firstOf_g0.1 rfl rfl ?_
  refine r_if_lt hE 21 dX1_firstOf_g0.2.1 (by decide) h (fun h => ?_) (fun h => ?_)
  · refine r_iconst (v := (-1 : Int32)) hE dX1_firstOf_g0.2.2.2.2.2.2.2.2.2.2.2.1 (by decide) ?_
    exact c_iret hE hm dX1_firstOf_g0.2.2.2.2.2.2.2.2.2.2.2.2 h
  · refine r_iload_n hE 1 dX1_firstOf_g0.2.2.1 rfl rfl ?_
    refine r_aload_n hE 0 dX1_firstOf_g0.2.2.2.1 rfl rfl ?_
    refine cg_sp_nodes hE hm fk_X1_41 dX1_firstOf_g0.2.2.2.2.1 ?_
    refine r_icmp_ge hE 21 dX1_firstOf_g0.2.2.2.2.2.1 (by decide) h (fun h => ?_) (fun h => ?_)
    · refine r_iconst (v := (-1 : Int32)) hE dX1_firstOf_g0.2.2.2.2.2.2.2.2.2.2.2.1 (by decide) ?_
      exact c_iret hE hm dX1_firstOf_g0.2.2.2.2.2.2.2.2.2.2.2.2 h
    · refine r_aload_n hE 0 dX1_firstOf_g0.2.2.2.2.2.2.1 rfl rfl ?_
      refine cg_sp_first hE hm fk_X1_29 dX1_firstOf_g0.2.2.2.2.2.2.2.1 ?_
      refine r_iload_n hE 1 dX1_firstOf_g0.2.2.2.2.2.2.2.2.1 rfl rfl ?_
      obtain ⟨hi, h⟩ := h
      refine cl_sp_first hE hm dX1_firstOf_g0.2.2.2.2.2.2.2.2.2.1 hi ?_
      refine r_goto hE 22 dX1_firstOf_g0.2.2.2.2.2.2.2.2.2.2.1 (by decide) ?_
      exact c_iret hE hm dX1_firstOf_g0.2.2.2.2.2.2.2.2.2.2.2.2 h
/-! sp_nextOf -/
def wc_sp_nextOf (post : CS → Int32 → Prop) (σ : CS) (a1 : Int32) : Prop := ((a1 < (0 : Int32)) → (post σ (-1 : Int32))) ∧ ((¬ (a1 < (0 : Int32))) → ((((c_sp_nodes σ) ≤ a1) → (post σ (-1 : Int32))) ∧ ((¬ ((c_sp_nodes σ) ≤ a1)) → (vp_in a1 250 ∧ (post σ (c_sp_next σ a1.toNatClampNeg))))))
set_option maxRecDepth 20000 in
theorem kc_sp_nextOf {l : Launch} {D : va_G} {G : gAd} {post : CS → Int32 → Prop} {σ : CS} {a1 : Int32} (h : wc_sp_nextOf post σ a1) : cMet l D G yX1_nextOf cX1_nextOf 2 (some .int) 1 [.ref (G.1 400), .int a1] σ (pI post) := by
  unfold wc_sp_nextOf at h
  refine c_enter (own := RX1) (by decide +kernel) rfl [(0, .ref (G.1 400)), (1, .int a1)] rfl (Nat.le_of_ble_eq_true rfl) ?_
  intro E hE hm
  have hN := hm.2.2.2.2.2.2.1
  refine r_iload_n hE 1 dX1_nextOf_g0.1 rfl rfl ?_
  refine r_if_lt hE 21 dX1_nextOf_g0.2.1 (by decide) h (fun h => ?_) (fun h => ?_)
  · refine r_iconst (v := (-1 : Int32)) hE dX1_nextOf_g0.2.2.2.2.2.2.2.2.2.2.2.1 (by decide) ?_
    exact c_iret hE hm dX1_nextOf_g0.2.2.2.2.2.2.2.2.2.2.2.2 h
  · refine r_iload_n hE 1 dX1_nextOf_g0.2.2.1 rfl rfl ?_
    refine r_aload_n hE 0 dX1_nextOf_g0.2.2.2.1 rfl rfl ?_
    refine cg_sp_nodes hE hm fk_X1_41 dX1_nextOf_g0.2.2.2.2.1 ?_
    refine r_icmp_ge hE 21 dX1_nextOf_g0.2.2.2.2.2.1 (by decide) h (fun h => ?_) (fun h => ?_)
    · refine r_iconst (v := (-1 : Int32)) hE dX1_nextOf_g0.2.2.2.2.2.2.2.2.2.2.2.1 (by decide) ?_
      exact c_iret hE hm dX1_nextOf_g0.2.2.2.2.2.2.2.2.2.2.2.2 h
    · refine r_aload_n hE 0 dX1_nextOf_g0.2.2.2.2.2.2.1 rfl rfl ?_
      refine cg_sp_next hE hm fk_X1_32 dX1_nextOf_g0.2.2.2.2.2.2.2.1 ?_
      refine r_iload_n hE 1 dX1_nextOf_g0.2.2.2.2.2.2.2.2.1 rfl rfl ?_
      obtain ⟨hi, h⟩ := h
      refine cl_sp_next hE hm dX1_nextOf_g0.2.2.2.2.2.2.2.2.2.1 hi ?_
      refine r_goto hE 22 dX1_nextOf_g0.2.2.2.2.2.2.2.2.2.2.1 (by decide) ?_
      exact c_iret hE hm dX1_nextOf_g0.2.2.2.2.2.2.2.2.2.2.2.2 h
/-! sp_bodyOf -/
def wc_sp_bodyOf (post : CS → Int32 → Prop) (σ : CS) (a1 : Int32) : Prop := ((a1 < (0 : Int32)) → (post σ (-1 : Int32))) ∧ ((¬ (a1 < (0 : Int32))) → ((((c_sp_nodes σ) ≤ a1) → (post σ (-1 : Int32))) ∧ ((¬ ((c_sp_nodes σ) ≤ a1)) → (vp_in a1 250 ∧ (post σ (c_sp_body σ a1.toNatClampNeg))))))
set_option maxRecDepth 20000 in
theorem kc_sp_bodyOf {l : Launch} {D : va_G} {G : gAd} {post : CS → Int32 → Prop} {σ : CS} {a1 : Int32} (h : wc_sp_bodyOf post σ a1) : cMet l D G yX1_bodyOf cX1_bodyOf 2 (some .int) 1 [.ref (G.1 400), .int a1] σ (pI post) := by
  unfold wc_sp_bodyOf at h
  refine c_enter (own := RX1) (by decide +kernel) rfl [(0, .ref (G.1 400)), (1, .int a1)] rfl (Nat.le_of_ble_eq_true rfl) ?_
  intro E hE hm
  have hN := hm.2.2.2.2.2.2.1
  refine r_iload_n hE 1 dX1_bodyOf_g0.1 rfl rfl ?_
  refine r_if_lt hE 21 dX1_bodyOf_g0.2.1 (by decide) h (fun h => ?_) (fun h => ?_)
  · refine r_iconst (v := (-1 : Int32)) hE dX1_bodyOf_g0.2.2.2.2.2.2.2.2.2.2.2.1 (by decide) ?_
    exact c_iret hE hm dX1_bodyOf_g0.2.2.2.2.2.2.2.2.2.2.2.2 h
  · refine r_iload_n hE 1 dX1_bodyOf_g0.2.2.1 rfl rfl ?_
    refine r_aload_n hE 0 dX1_bodyOf_g0.2.2.2.1 rfl rfl ?_
    refine cg_sp_nodes hE hm fk_X1_41 dX1_bodyOf_g0.2.2.2.2.1 ?_
    refine r_icmp_ge hE 21 dX1_bodyOf_g0.2.2.2.2.2.1 (by decide) h (fun h => ?_) (fun h => ?_)
    · refine r_iconst (v := (-1 : Int32)) hE dX1_bodyOf_g0.2.2.2.2.2.2.2.2.2.2.2.1 (by decide) ?_
      exact c_iret hE hm dX1_bodyOf_g0.2.2.2.2.2.2.2.2.2.2.2.2 h
    · refine r_aload_n hE 0 dX1_bodyOf_g0.2.2.2.2.2.2.1 rfl rfl ?_
      refine cg_sp_body hE hm fk_X1_35 dX1_bodyOf_g0.2.2.2.2.2.2.2.1 ?_
      refine r_iload_n hE 1 dX1_bodyOf_g0.2.2.2.2.2.2.2.2.1 rfl rfl ?_
      obtain ⟨hi, h⟩ := h
      refine cl_sp_body hE hm dX1_bodyOf_g0.2.2.2.2.2.2.2.2.2.1 hi ?_
      refine r_goto hE 22 dX1_bodyOf_g0.2.2.2.2.2.2.2.2.2.2.1 (by decide) ?_
      exact c_iret hE hm dX1_bodyOf_g0.2.2.2.2.2.2.2.2.2.2.2.2 h
/-! sp_otherOf -/
def wc_sp_otherOf (post : CS → Int32 → Prop) (σ : CS) (a1 : Int32) : Prop := ((a1 < (0 : Int32)) → (post σ (-1 : Int32))) ∧ ((¬ (a1 < (0 : Int32))) → ((((c_sp_nodes σ) ≤ a1) → (post σ (-1 : Int32))) ∧ ((¬ ((c_sp_nodes σ) ≤ a1)) → (vp_in a1 250 ∧ (post σ (c_sp_other σ a1.toNatClampNeg))))))
set_option maxRecDepth 20000 in
theorem kc_sp_otherOf {l : Launch} {D : va_G} {G : gAd} {post : CS → Int32 → Prop} {σ : CS} {a1 : Int32} (h : wc_sp_otherOf post σ a1) : cMet l D G yX1_otherOf cX1_otherOf 2 (some .int) 1 [.ref (G.1 400), .int a1] σ (pI post) := by
  unfold wc_sp_otherOf at h
  refine c_enter (own := RX1) (by decide +kernel) rfl [(0, .ref (G.1 400)), (1, .int a1)] rfl (Nat.le_of_ble_eq_true rfl) ?_
  intro E hE hm
  have hN := hm.2.2.2.2.2.2.1
  refine r_iload_n hE 1 dX1_otherOf_g0.1 rfl rfl ?_
  refine r_if_lt hE 21 dX1_otherOf_g0.2.1 (by decide) h (fun h => ?_) (fun h => ?_)
  · refine r_iconst (v := (-1 : Int32)) hE dX1_otherOf_g0.2.2.2.2.2.2.2.2.2.2.2.1 (by decide) ?_
    exact c_iret hE hm dX1_otherOf_g0.2.2.2.2.2.2.2.2.2.2.2.2 h
  · refine r_iload_n hE 1 dX1_otherOf_g0.2.2.1 rfl rfl ?_
    refine r_aload_n hE 0 dX1_otherOf_g0.2.2.2.1 rfl rfl ?_
    refine cg_sp_nodes hE hm fk_X1_41 dX1_otherOf_g0.2.2.2.2.1 ?_
    refine r_icmp_ge hE 21 dX1_otherOf_g0.2.2.2.2.2.1 (by decide) h (fun h => ?_) (fun h => ?_)
    · refine r_iconst (v := (-1 : Int32)) hE dX1_otherOf_g0.2.2.2.2.2.2.2.2.2.2.2.1 (by decide) ?_
      exact c_iret hE hm dX1_otherOf_g0.2.2.2.2.2.2.2.2.2.2.2.2 h
    · refine r_aload_n hE 0 dX1_otherOf_g0.2.2.2.2.2.2.1 rfl rfl ?_
      refine cg_sp_other hE hm fk_X1_38 dX1_otherOf_g0.2.2.2.2.2.2.2.1 ?_
      refine r_iload_n hE 1 dX1_otherOf_g0.2.2.2.2.2.2.2.2.1 rfl rfl ?_
      obtain ⟨hi, h⟩ := h
      refine cl_sp_other hE hm dX1_otherOf_g0.2.2.2.2.2.2.2.2.2.1 hi ?_
      refine r_goto hE 22 dX1_otherOf_g0.2.2.2.2.2.2.2.2.2.2.1 (by decide) ?_
      exact c_iret hE hm dX1_otherOf_g0.2.2.2.2.2.2.2.2.2.2.2.2 h
/-! sp_namesIn -/
def wc_sp_namesIn (post : CS → Int32 → Prop) (σ : CS) (a1 : Int32) : Prop := wc_SX12_inside (fun (s1 : CS) (r2 : Int32) => ((r2 = (0 : Int32)) → (post s1 (0 : Int32))) ∧ ((¬ (r2 = (0 : Int32))) → (vp_in a1 13 ∧ (post s1 (c_sp_names s1 a1.toNatClampNeg))))) σ a1 (13 : Int32)
set_option maxRecDepth 20000 in
theorem kc_sp_namesIn {l : Launch} {D : va_G} {G : gAd} {post : CS → Int32 → Prop} {σ : CS} {a1 : Int32} (h : wc_sp_namesIn post σ a1) : cMet l D G yX1_namesIn cX1_namesIn 2 (some .int) 2 [.ref (G.1 400), .int a1] σ (pI post) := by
  unfold wc_sp_namesIn at h
  refine c_enter (own := RX1) (by decide +kernel) rfl [(0, .ref (G.1 400)), (1, .int a1)] rfl (Nat.le_of_ble_eq_true rfl) ?_
  intro E hE hm
  have hN := hm.2.2.2.2.2.2.1
  refine r_iload_n hE 1 dX1_namesIn_g0.1 rfl rfl ?_
  refine r_aload_n hE 0 dX1_namesIn_g0.2.1 rfl rfl ?_
  refine cg_sp_names hE hm fk_X1_53 dX1_namesIn_g0.2.2.1 ?_
  refine cn_sp_names hE hm dX1_namesIn_g0.2.2.2.1 ?_
  refine c_callSNi hE hm [.int a1, .int (13 : Int32)] [] ck_X1_74 cw_X1_74 (kc_SX12_inside h) (by decide) rfl rfl (Nat.le_of_ble_eq_true rfl) dX1_namesIn_g0.2.2.2.2.1 (fun s1 r2 h => ?_)
  refine r_if_eq hE 21 dX1_namesIn_g0.2.2.2.2.2.1 (by decide) h (fun h => ?_) (fun h => ?_)
  · refine r_iconst (v := (0 : Int32)) hE dX1_namesIn_g0.2.2.2.2.2.2.2.2.2.2.2.1 (by decide) ?_
    exact c_iret hE hm dX1_namesIn_g0.2.2.2.2.2.2.2.2.2.2.2.2 h
  · refine r_aload_n hE 0 dX1_namesIn_g0.2.2.2.2.2.2.1 rfl rfl ?_
    refine cg_sp_names hE hm fk_X1_53 dX1_namesIn_g0.2.2.2.2.2.2.2.1 ?_
    refine r_iload_n hE 1 dX1_namesIn_g0.2.2.2.2.2.2.2.2.1 rfl rfl ?_
    obtain ⟨hi, h⟩ := h
    refine cl_sp_names hE hm dX1_namesIn_g0.2.2.2.2.2.2.2.2.2.1 hi ?_
    refine r_goto hE 22 dX1_namesIn_g0.2.2.2.2.2.2.2.2.2.2.1 (by decide) ?_
    exact c_iret hE hm dX1_namesIn_g0.2.2.2.2.2.2.2.2.2.2.2.2 h
/-! sp_letterAt -/
def wc_sp_letterAt_56 (post : CS → Int32 → Prop) (σ : CS) (v2 : Int32) : Prop := post σ v2
set_option maxRecDepth 20000 in
theorem kc_sp_letterAt_56 {E : gEnv} {l : Launch} {D : va_G} {G : gAd} {post : CS → Int32 → Prop} (hE : gOK E cX1_letterAt RX1 (some .int) 1) (hm : cOK E l D G (pI post) 3) (σ : CS) (v2 : Int32) (h : wc_sp_letterAt_56 post σ v2) : GW E (cW G σ) 56 [(2, .int v2)] [] := by
  unfold wc_sp_letterAt_56 at h
  have hN := hm.2.2.2.2.2.2.1
  refine r_iload_n hE 0 dX1_letterAt_g1.2.2.2.2.2.2.2.2.2.2.2.2.2.2.1 rfl rfl ?_
  refine r_goto hE 61 dX1_letterAt_g1.2.2.2.2.2.2.2.2.2.2.2.2.2.2.2 (by decide) ?_
  exact c_iret hE hm dX1_letterAt_g2.2 h
def wc_sp_letterAt_44 (post : CS → Int32 → Prop) (σ : CS) (v2 : Int32) : Prop := ((v2 < (48 : Int32)) → (post σ (0 : Int32))) ∧ ((¬ (v2 < (48 : Int32))) → ((((57 : Int32) < v2) → (post σ (0 : Int32))) ∧ ((¬ ((57 : Int32) < v2)) → (wc_sp_letterAt_56 post σ v2))))
set_option maxRecDepth 20000 in
theorem kc_sp_letterAt_44 {E : gEnv} {l : Launch} {D : va_G} {G : gAd} {post : CS → Int32 → Prop} (hE : gOK E cX1_letterAt RX1 (some .int) 1) (hm : cOK E l D G (pI post) 3) (σ : CS) (v2 : Int32) (h : wc_sp_letterAt_44 post σ v2) : GW E (cW G σ) 44 [(2, .int v2)] [] := by
  unfold wc_sp_letterAt_44 at h
  have hN := hm.2.2.2.2.2.2.1
  refine r_iload_n hE 0 dX1_letterAt_g1.2.2.2.2.2.2.2.2.1 rfl rfl ?_
  refine r_bipush (v := (48 : Int32)) hE dX1_letterAt_g1.2.2.2.2.2.2.2.2.2.1 (by decide) ?_
  refine r_icmp_lt hE 60 dX1_letterAt_g1.2.2.2.2.2.2.2.2.2.2.1 (by decide) h (fun h => ?_) (fun h => ?_)
  · refine r_iconst (v := (0 : Int32)) hE dX1_letterAt_g2.1 (by decide) ?_
    exact c_iret hE hm dX1_letterAt_g2.2 h
  · refine r_iload_n hE 0 dX1_letterAt_g1.2.2.2.2.2.2.2.2.2.2.2.1 rfl rfl ?_
    refine r_bipush (v := (57 : Int32)) hE dX1_letterAt_g1.2.2.2.2.2.2.2.2.2.2.2.2.1 (by decide) ?_
    refine r_icmp_gt hE 60 dX1_letterAt_g1.2.2.2.2.2.2.2.2.2.2.2.2.2.1 (by decide) h (fun h => ?_) (fun h => ?_)
    · refine r_iconst (v := (0 : Int32)) hE dX1_letterAt_g2.1 (by decide) ?_
      exact c_iret hE hm dX1_letterAt_g2.2 h
    · exact kc_sp_letterAt_56 hE hm _ _ h
def wc_sp_letterAt_31 (post : CS → Int32 → Prop) (σ : CS) (t0 : Int32) : Prop := ((t0 < (97 : Int32)) → (wc_sp_letterAt_44 post σ t0)) ∧ ((¬ (t0 < (97 : Int32))) → (((t0 ≤ (122 : Int32)) → (wc_sp_letterAt_56 post σ t0)) ∧ ((¬ (t0 ≤ (122 : Int32))) → (wc_sp_letterAt_44 post σ t0))))
set_option maxRecDepth 20000 in
theorem kc_sp_letterAt_31 {E : gEnv} {l : Launch} {D : va_G} {G : gAd} {post : CS → Int32 → Prop} (hE : gOK E cX1_letterAt RX1 (some .int) 1) (hm : cOK E l D G (pI post) 3) (σ : CS) (t0 : Int32) (h : wc_sp_letterAt_31 post σ t0) : GW E (cW G σ) 31 [] [.int t0] := by
  unfold wc_sp_letterAt_31 at h
  have hN := hm.2.2.2.2.2.2.1
  refine r_istore_n hE [(2, .int t0)] dX1_letterAt_g1.2.1 rfl hN (by decide) rfl ?_
  refine r_iload_n hE 0 dX1_letterAt_g1.2.2.1 rfl rfl ?_
  refine r_bipush (v := (97 : Int32)) hE dX1_letterAt_g1.2.2.2.1 (by decide) ?_
  refine r_icmp_lt hE 44 dX1_letterAt_g1.2.2.2.2.1 (by decide) h (fun h => ?_) (fun h => ?_)
  · exact kc_sp_letterAt_44 hE hm _ _ h
  · refine r_iload_n hE 0 dX1_letterAt_g1.2.2.2.2.2.1 rfl rfl ?_
    refine r_bipush (v := (122 : Int32)) hE dX1_letterAt_g1.2.2.2.2.2.2.1 (by decide) ?_
    refine r_icmp_le hE 56 dX1_letterAt_g1.2.2.2.2.2.2.2.1 (by decide) h (fun h => ?_) (fun h => ?_)
    · exact kc_sp_letterAt_56 hE hm _ _ h
    · exact kc_sp_letterAt_44 hE hm _ _ h
def wc_sp_letterAt_30 (post : CS → Int32 → Prop) (σ : CS) : Prop := wc_sp_letterAt_31 post σ (0 : Int32)
set_option maxRecDepth 20000 in
theorem kc_sp_letterAt_30 {E : gEnv} {l : Launch} {D : va_G} {G : gAd} {post : CS → Int32 → Prop} (hE : gOK E cX1_letterAt RX1 (some .int) 1) (hm : cOK E l D G (pI post) 3) (σ : CS) (h : wc_sp_letterAt_30 post σ) : GW E (cW G σ) 30 [] [] := by
  unfold wc_sp_letterAt_30 at h
  have hN := hm.2.2.2.2.2.2.1
  refine r_iconst (v := (0 : Int32)) hE dX1_letterAt_g1.1 (by decide) ?_
  exact kc_sp_letterAt_31 hE hm _ _ h
def wc_sp_letterAt (post : CS → Int32 → Prop) (σ : CS) (a1 : Int32) : Prop := ((a1 < (0 : Int32)) → (wc_sp_letterAt_30 post σ)) ∧ ((¬ (a1 < (0 : Int32))) → ((((c_sp_length σ) ≤ a1) → (wc_sp_letterAt_30 post σ)) ∧ ((¬ ((c_sp_length σ) ≤ a1)) → ((((3000 : Int32) ≤ a1) → (wc_sp_letterAt_30 post σ)) ∧ ((¬ ((3000 : Int32) ≤ a1)) → (vp_in a1 3000 ∧ (wc_sp_letterAt_31 post σ (c_sp_text σ a1.toNatClampNeg))))))))
set_option maxRecDepth 20000 in
theorem kc_sp_letterAt {l : Launch} {D : va_G} {G : gAd} {post : CS → Int32 → Prop} {σ : CS} {a1 : Int32} (h : wc_sp_letterAt post σ a1) : cMet l D G yX1_letterAt cX1_letterAt 3 (some .int) 1 [.ref (G.1 400), .int a1] σ (pI post) := by
  unfold wc_sp_letterAt at h
  refine c_enter (own := RX1) (by decide +kernel) rfl [(0, .ref (G.1 400)), (1, .int a1)] rfl (Nat.le_of_ble_eq_true rfl) ?_
  intro E hE hm
  have hN := hm.2.2.2.2.2.2.1
  refine r_iload_n hE 1 dX1_letterAt_g0.1 rfl rfl ?_
  refine r_if_lt hE 30 dX1_letterAt_g0.2.1 (by decide) h (fun h => ?_) (fun h => ?_)
  · refine r_pick [] rfl ?_
    exact kc_sp_letterAt_30 hE hm _ h
  · refine r_iload_n hE 1 dX1_letterAt_g0.2.2.1 rfl rfl ?_
    refine r_aload_n hE 0 dX1_letterAt_g0.2.2.2.1 rfl rfl ?_
    refine cg_sp_length hE hm fk_X1_15 dX1_letterAt_g0.2.2.2.2.1 ?_
    refine r_icmp_ge hE 30 dX1_letterAt_g0.2.2.2.2.2.1 (by decide) h (fun h => ?_) (fun h => ?_)
    · refine r_pick [] rfl ?_
      exact kc_sp_letterAt_30 hE hm _ h
    · refine r_iload_n hE 1 dX1_letterAt_g0.2.2.2.2.2.2.1 rfl rfl ?_
      refine r_aload_n hE 0 dX1_letterAt_g0.2.2.2.2.2.2.2.1 rfl rfl ?_
      refine cg_sp_text hE hm fk_X1_9 dX1_letterAt_g0.2.2.2.2.2.2.2.2.1 ?_
      refine cn_sp_text hE hm dX1_letterAt_g0.2.2.2.2.2.2.2.2.2.1 ?_
      refine r_icmp_ge hE 30 dX1_letterAt_g0.2.2.2.2.2.2.2.2.2.2.1 (by decide) h (fun h => ?_) (fun h => ?_)
      · refine r_pick [] rfl ?_
        exact kc_sp_letterAt_30 hE hm _ h
      · refine r_aload_n hE 0 dX1_letterAt_g0.2.2.2.2.2.2.2.2.2.2.2.1 rfl rfl ?_
        refine cg_sp_text hE hm fk_X1_9 dX1_letterAt_g0.2.2.2.2.2.2.2.2.2.2.2.2.1 ?_
        refine r_iload_n hE 1 dX1_letterAt_g0.2.2.2.2.2.2.2.2.2.2.2.2.2.1 rfl rfl ?_
        obtain ⟨hi, h⟩ := h
        refine cl_sp_text hE hm dX1_letterAt_g0.2.2.2.2.2.2.2.2.2.2.2.2.2.2.1 hi ?_
        refine r_goto hE 31 dX1_letterAt_g0.2.2.2.2.2.2.2.2.2.2.2.2.2.2.2 (by decide) ?_
        refine r_pick [] rfl ?_
        exact kc_sp_letterAt_31 hE hm _ _ h
/-! sp_sameWord -/
def wc_sp_sameWord_2 (post : CS → Int32 → Prop) : Nat → CS → Int32 → Int32 → Int32 → Prop
  | 0, _, _, _, _ => False
  | n + 1, σ, v1, v2, v3 => (((10 : Int32) ≤ v3) → (post σ (1 : Int32))) ∧ ((¬ ((10 : Int32) ≤ v3)) → (wc_sp_letterAt (fun (s1 : CS) (r2 : Int32) => wc_sp_letterAt (fun (s3 : CS) (r4 : Int32) => ((r2 = r4) → (((¬ (r2 = (0 : Int32))) → (∀ x5 : Int32, x5 = v3 + (1 : Int32) → wc_sp_sameWord_2 post n s3 v1 v2 x5)) ∧ ((r2 = (0 : Int32)) → (post s3 (1 : Int32))))) ∧ ((¬ (r2 = r4)) → (post s3 (0 : Int32)))) s1 (v2 + v3)) σ (v1 + v3)))
set_option maxRecDepth 20000 in
theorem kc_sp_sameWord_2 {E : gEnv} {l : Launch} {D : va_G} {G : gAd} {post : CS → Int32 → Prop} (hE : gOK E cX1_sameWord RX1 (some .boolean) 2) (hm : cOK E l D G (pI post) 5) : ∀ (n : Nat) (σ : CS) (v1 : Int32) (v2 : Int32) (v3 : Int32), wc_sp_sameWord_2 post n σ v1 v2 v3 → GW E (cW G σ) 2 [(0, .ref (G.1 400)), (1, .int v1), (2, .int v2), (3, .int v3)] [] := by
  intro n
  induction n with
  | zero => intro σ v1 v2 v3 h; exact h.elim
  | succ n ih =>
    intro σ v1 v2 v3 h
    rw [wc_sp_sameWord_2] at h
    have hN := hm.2.2.2.2.2.2.1
    refine r_iload_n hE 3 dX1_sameWord_g0.2.2.1 rfl rfl ?_
    refine r_bipush (v := (10 : Int32)) hE dX1_sameWord_g0.2.2.2.1 (by decide) ?_
    refine r_icmp_ge hE 44 dX1_sameWord_g0.2.2.2.2.1 (by decide) h (fun h => ?_) (fun h => ?_)
    · refine r_iconst (v := (1 : Int32)) hE dX1_sameWord_g1.2.2.2.2.2.2.2.2.2.2.1 (by decide) ?_
      exact c_zret hE hm dX1_sameWord_g1.2.2.2.2.2.2.2.2.2.2.2 (Or.inr rfl) h
    · refine r_aload_n hE 0 dX1_sameWord_g0.2.2.2.2.2.1 rfl rfl ?_
      refine r_iload_n hE 1 dX1_sameWord_g0.2.2.2.2.2.2.1 rfl rfl ?_
      refine r_iload_n hE 3 dX1_sameWord_g0.2.2.2.2.2.2.2.1 rfl rfl ?_
      refine r_iadd hE dX1_sameWord_g0.2.2.2.2.2.2.2.2.1 ?_
      refine c_callVi hE hm [.int (v1 + v3)] [] ck_X1_85 (cr_sp hm rfl) (kc_sp_letterAt h) (by decide) rfl rfl (Nat.le_of_ble_eq_true rfl) dX1_sameWord_g0.2.2.2.2.2.2.2.2.2.1 (fun s1 r2 h => ?_)
      refine r_istore hE [(4, .int r2), (0, .ref (G.1 400)), (1, .int v1), (2, .int v2), (3, .int v3)] dX1_sameWord_g0.2.2.2.2.2.2.2.2.2.2.1 hN (by decide) rfl ?_
      refine r_iload hE 0 dX1_sameWord_g0.2.2.2.2.2.2.2.2.2.2.2.1 rfl ?_
      refine r_aload_n hE 1 dX1_sameWord_g0.2.2.2.2.2.2.2.2.2.2.2.2.1 rfl rfl ?_
      refine r_iload_n hE 3 dX1_sameWord_g0.2.2.2.2.2.2.2.2.2.2.2.2.2.1 rfl rfl ?_
      refine r_iload_n hE 4 dX1_sameWord_g0.2.2.2.2.2.2.2.2.2.2.2.2.2.2.1 rfl rfl ?_
      refine r_iadd hE dX1_sameWord_g0.2.2.2.2.2.2.2.2.2.2.2.2.2.2.2 ?_
      refine c_callVi hE hm [.int (v2 + v3)] [.int r2] ck_X1_85 (cr_sp hm rfl) (kc_sp_letterAt h) (by decide) rfl rfl (Nat.le_of_ble_eq_true rfl) dX1_sameWord_g1.1 (fun s3 r4 h => ?_)
      refine r_icmp_eq hE 31 dX1_sameWord_g1.2.1 (by decide) h (fun h => ?_) (fun h => ?_)
      · refine r_iload hE 0 dX1_sameWord_g1.2.2.2.2.1 rfl ?_
        refine r_if_ne hE 38 dX1_sameWord_g1.2.2.2.2.2.1 (by decide) h (fun h => ?_) (fun h => ?_)
        · obtain ⟨x5, ex5⟩ : ∃ z : Int32, z = v3 + (1 : Int32) := ⟨_, rfl⟩
          have h := h x5 ex5
          refine r_iinc (v := x5) hE [(3, .int x5), (4, .int r2), (0, .ref (G.1 400)), (1, .int v1), (2, .int v2)] 4 dX1_sameWord_g1.2.2.2.2.2.2.2.2.1 rfl (by rw [ex5]; rfl) hN (by decide) rfl ?_
          refine r_goto hE 2 dX1_sameWord_g1.2.2.2.2.2.2.2.2.2.1 (by decide) ?_
          refine r_pick [2, 3, 4, 0] rfl ?_
          exact ih _ _ _ _ h
        · refine r_iconst (v := (1 : Int32)) hE dX1_sameWord_g1.2.2.2.2.2.2.1 (by decide) ?_
          exact c_zret hE hm dX1_sameWord_g1.2.2.2.2.2.2.2.1 (Or.inr rfl) h
      · refine r_iconst (v := (0 : Int32)) hE dX1_sameWord_g1.2.2.1 (by decide) ?_
        exact c_zret hE hm dX1_sameWord_g1.2.2.2.1 (Or.inl rfl) h
def wc_sp_sameWord (post : CS → Int32 → Prop) (σ : CS) (a1 : Int32) (a2 : Int32) : Prop := ∃ k : Nat, wc_sp_sameWord_2 post k σ a1 a2 (0 : Int32)
set_option maxRecDepth 20000 in
theorem kc_sp_sameWord {l : Launch} {D : va_G} {G : gAd} {post : CS → Int32 → Prop} {σ : CS} {a1 : Int32} {a2 : Int32} (h : wc_sp_sameWord post σ a1 a2) : cMet l D G yX1_sameWord cX1_sameWord 5 (some .boolean) 2 [.ref (G.1 400), .int a1, .int a2] σ (pI post) := by
  unfold wc_sp_sameWord at h
  refine c_enter (own := RX1) (by decide +kernel) rfl [(0, .ref (G.1 400)), (1, .int a1), (2, .int a2)] rfl (Nat.le_of_ble_eq_true rfl) ?_
  intro E hE hm
  have hN := hm.2.2.2.2.2.2.1
  refine r_iconst (v := (0 : Int32)) hE dX1_sameWord_g0.1 (by decide) ?_
  refine r_istore_n hE [(3, .int (0 : Int32)), (0, .ref (G.1 400)), (1, .int a1), (2, .int a2)] dX1_sameWord_g0.2.1 rfl hN (by decide) rfl ?_
  refine r_pick [1, 2, 3, 0] rfl ?_
  obtain ⟨k, h⟩ := h
  exact kc_sp_sameWord_2 hE hm k _ _ _ _ h
/-! sp_nameNumber -/
def wc_sp_nameNumber_2 (post : CS → Int32 → Prop) : Nat → CS → Int32 → Int32 → Int32 → Prop
  | 0, _, _, _, _ => False
  | n + 1, σ, v1, v2, v3 => wc_sp_namesIn (fun (s1 : CS) (r2 : Int32) => ((r2 ≤ v3) → (post s1 (-1 : Int32))) ∧ ((¬ (r2 ≤ v3)) → ((((20 : Int32) ≤ v3) → (post s1 (-1 : Int32))) ∧ ((¬ ((20 : Int32) ≤ v3)) → (vp_in ((v1 * (20 : Int32)) + v3) 260 ∧ (wc_sp_sameWord (fun (s3 : CS) (r4 : Int32) => ((r4 = (0 : Int32)) → (∀ x5 : Int32, x5 = v3 + (1 : Int32) → wc_sp_nameNumber_2 post n s3 v1 v2 x5)) ∧ ((¬ (r4 = (0 : Int32))) → (post s3 v3))) s1 (c_sp_nameAt s1 ((v1 * (20 : Int32)) + v3).toNatClampNeg) v2)))))) σ v1
set_option maxRecDepth 20000 in
theorem kc_sp_nameNumber_2 {E : gEnv} {l : Launch} {D : va_G} {G : gAd} {post : CS → Int32 → Prop} (hE : gOK E cX1_nameNumber RX1 (some .int) 3) (hm : cOK E l D G (pI post) 4) : ∀ (n : Nat) (σ : CS) (v1 : Int32) (v2 : Int32) (v3 : Int32), wc_sp_nameNumber_2 post n σ v1 v2 v3 → GW E (cW G σ) 2 [(0, .ref (G.1 400)), (1, .int v1), (2, .int v2), (3, .int v3)] [] := by
  intro n
  induction n with
  | zero => intro σ v1 v2 v3 h; exact h.elim
  | succ n ih =>
    intro σ v1 v2 v3 h
    rw [wc_sp_nameNumber_2] at h
    have hN := hm.2.2.2.2.2.2.1
    refine r_iload_n hE 3 dX1_nameNumber_g0.2.2.1 rfl rfl ?_
    refine r_aload_n hE 0 dX1_nameNumber_g0.2.2.2.1 rfl rfl ?_
    refine r_iload_n hE 1 dX1_nameNumber_g0.2.2.2.2.1 rfl rfl ?_
    refine c_callVi hE hm [.int v1] [.int v3] ck_X1_78 (cr_sp hm rfl) (kc_sp_namesIn h) (by decide) rfl rfl (Nat.le_of_ble_eq_true rfl) dX1_nameNumber_g0.2.2.2.2.2.1 (fun s1 r2 h => ?_)
    refine r_icmp_ge hE 44 dX1_nameNumber_g0.2.2.2.2.2.2.1 (by decide) h (fun h => ?_) (fun h => ?_)
    · refine r_iconst (v := (-1 : Int32)) hE dX1_nameNumber_g1.2.2.2.2.2.2.2.2.2.2.1 (by decide) ?_
      exact c_iret hE hm dX1_nameNumber_g1.2.2.2.2.2.2.2.2.2.2.2 h
    · refine r_iload_n hE 3 dX1_nameNumber_g0.2.2.2.2.2.2.2.1 rfl rfl ?_
      refine r_bipush (v := (20 : Int32)) hE dX1_nameNumber_g0.2.2.2.2.2.2.2.2.1 (by decide) ?_
      refine r_icmp_ge hE 44 dX1_nameNumber_g0.2.2.2.2.2.2.2.2.2.1 (by decide) h (fun h => ?_) (fun h => ?_)
      · refine r_iconst (v := (-1 : Int32)) hE dX1_nameNumber_g1.2.2.2.2.2.2.2.2.2.2.1 (by decide) ?_
        exact c_iret hE hm dX1_nameNumber_g1.2.2.2.2.2.2.2.2.2.2.2 h
      · refine r_aload_n hE 0 dX1_nameNumber_g0.2.2.2.2.2.2.2.2.2.2.1 rfl rfl ?_
        refine r_aload_n hE 0 dX1_nameNumber_g0.2.2.2.2.2.2.2.2.2.2.2.1 rfl rfl ?_
        refine cg_sp_nameAt hE hm fk_X1_50 dX1_nameNumber_g0.2.2.2.2.2.2.2.2.2.2.2.2.1 ?_
        refine r_iload_n hE 1 dX1_nameNumber_g0.2.2.2.2.2.2.2.2.2.2.2.2.2.1 rfl rfl ?_
        refine r_bipush (v := (20 : Int32)) hE dX1_nameNumber_g0.2.2.2.2.2.2.2.2.2.2.2.2.2.2.1 (by decide) ?_
        refine r_imul hE dX1_nameNumber_g0.2.2.2.2.2.2.2.2.2.2.2.2.2.2.2 ?_
        refine r_iload_n hE 3 dX1_nameNumber_g1.1 rfl rfl ?_
        refine r_iadd hE dX1_nameNumber_g1.2.1 ?_
        obtain ⟨hi, h⟩ := h
        refine cl_sp_nameAt hE hm dX1_nameNumber_g1.2.2.1 hi ?_
        refine r_iload_n hE 2 dX1_nameNumber_g1.2.2.2.1 rfl rfl ?_
        refine c_callVi hE hm [.int (c_sp_nameAt s1 ((v1 * (20 : Int32)) + v3).toNatClampNeg), .int v2] [] ck_X1_82 (cr_sp hm rfl) (kc_sp_sameWord h) (by decide) rfl rfl (Nat.le_of_ble_eq_true rfl) dX1_nameNumber_g1.2.2.2.2.1 (fun s3 r4 h => ?_)
        refine r_if_eq hE 38 dX1_nameNumber_g1.2.2.2.2.2.1 (by decide) h (fun h => ?_) (fun h => ?_)
        · obtain ⟨x5, ex5⟩ : ∃ z : Int32, z = v3 + (1 : Int32) := ⟨_, rfl⟩
          have h := h x5 ex5
          refine r_iinc (v := x5) hE [(3, .int x5), (0, .ref (G.1 400)), (1, .int v1), (2, .int v2)] 3 dX1_nameNumber_g1.2.2.2.2.2.2.2.2.1 rfl (by rw [ex5]; rfl) hN (by decide) rfl ?_
          refine r_goto hE 2 dX1_nameNumber_g1.2.2.2.2.2.2.2.2.2.1 (by decide) ?_
          refine r_pick [1, 2, 3, 0] rfl ?_
          exact ih _ _ _ _ h
        · refine r_iload_n hE 3 dX1_nameNumber_g1.2.2.2.2.2.2.1 rfl rfl ?_
          exact c_iret hE hm dX1_nameNumber_g1.2.2.2.2.2.2.2.1 h
def wc_sp_nameNumber (post : CS → Int32 → Prop) (σ : CS) (a1 : Int32) (a2 : Int32) : Prop := ∃ k : Nat, wc_sp_nameNumber_2 post k σ a1 a2 (0 : Int32)
set_option maxRecDepth 20000 in
theorem kc_sp_nameNumber {l : Launch} {D : va_G} {G : gAd} {post : CS → Int32 → Prop} {σ : CS} {a1 : Int32} {a2 : Int32} (h : wc_sp_nameNumber post σ a1 a2) : cMet l D G yX1_nameNumber cX1_nameNumber 4 (some .int) 3 [.ref (G.1 400), .int a1, .int a2] σ (pI post) := by
  unfold wc_sp_nameNumber at h
  refine c_enter (own := RX1) (by decide +kernel) rfl [(0, .ref (G.1 400)), (1, .int a1), (2, .int a2)] rfl (Nat.le_of_ble_eq_true rfl) ?_
  intro E hE hm
  have hN := hm.2.2.2.2.2.2.1
  refine r_iconst (v := (0 : Int32)) hE dX1_nameNumber_g0.1 (by decide) ?_
  refine r_istore_n hE [(3, .int (0 : Int32)), (0, .ref (G.1 400)), (1, .int a1), (2, .int a2)] dX1_nameNumber_g0.2.1 rfl hN (by decide) rfl ?_
  refine r_pick [1, 2, 3, 0] rfl ?_
  obtain ⟨k, h⟩ := h
  exact kc_sp_nameNumber_2 hE hm k _ _ _ _ h
/-! sp_tell -/
def wc_sp_tell (post : CS → Int32 → Prop) (σ : CS) (a1 : Int32) (a2 : Int32) : Prop := wc_sp_namesIn (fun (s1 : CS) (r2 : Int32) => wc_SX12_inside (fun (s3 : CS) (r4 : Int32) => ((r4 = (0 : Int32)) → (post s3 (-1 : Int32))) ∧ ((¬ (r4 = (0 : Int32))) → (wc_SX12_inside (fun (s5 : CS) (r6 : Int32) => ((¬ (r6 = (0 : Int32))) → (vp_in ((a1 * (20 : Int32)) + r2) 260 ∧ (∀ s7 : CS, s7 = c_sp_nameAt_s s5 ((a1 * (20 : Int32)) + r2).toNatClampNeg a2 → vp_in a1 13 ∧ (vp_in a1 13 ∧ (∀ s8 : CS, s8 = c_sp_names_s s7 a1.toNatClampNeg ((c_sp_names s7 a1.toNatClampNeg) + (1 : Int32)) → post s8 r2))))) ∧ ((r6 = (0 : Int32)) → (post s5 (-1 : Int32)))) s3 r2 (20 : Int32)))) s1 a1 (13 : Int32)) σ a1
set_option maxRecDepth 20000 in
theorem kc_sp_tell {l : Launch} {D : va_G} {G : gAd} {post : CS → Int32 → Prop} {σ : CS} {a1 : Int32} {a2 : Int32} (h : wc_sp_tell post σ a1 a2) : cMet l D G yX1_tell cX1_tell 4 (some .int) 3 [.ref (G.1 400), .int a1, .int a2] σ (pI post) := by
  unfold wc_sp_tell at h
  refine c_enter (own := RX1) (by decide +kernel) rfl [(0, .ref (G.1 400)), (1, .int a1), (2, .int a2)] rfl (Nat.le_of_ble_eq_true rfl) ?_
  intro E hE hm
  have hN := hm.2.2.2.2.2.2.1
  refine r_aload_n hE 0 dX1_tell_g0.1 rfl rfl ?_
  refine r_iload_n hE 1 dX1_tell_g0.2.1 rfl rfl ?_
  refine c_callVi hE hm [.int a1] [] ck_X1_78 (cr_sp hm rfl) (kc_sp_namesIn h) (by decide) rfl rfl (Nat.le_of_ble_eq_true rfl) dX1_tell_g0.2.2.1 (fun s1 r2 h => ?_)
  refine r_istore_n hE [(3, .int r2), (0, .ref (G.1 400)), (1, .int a1), (2, .int a2)] dX1_tell_g0.2.2.2.1 rfl hN (by decide) rfl ?_
  refine r_iload_n hE 2 dX1_tell_g0.2.2.2.2.1 rfl rfl ?_
  refine r_aload_n hE 1 dX1_tell_g0.2.2.2.2.2.1 rfl rfl ?_
  refine cg_sp_names hE hm fk_X1_53 dX1_tell_g0.2.2.2.2.2.2.1 ?_
  refine cn_sp_names hE hm dX1_tell_g0.2.2.2.2.2.2.2.1 ?_
  refine c_callSNi hE hm [.int a1, .int (13 : Int32)] [] ck_X1_74 cw_X1_74 (kc_SX12_inside h) (by decide) rfl rfl (Nat.le_of_ble_eq_true rfl) dX1_tell_g0.2.2.2.2.2.2.2.2.1 (fun s3 r4 h => ?_)
  refine r_if_eq hE 27 dX1_tell_g0.2.2.2.2.2.2.2.2.2.1 (by decide) h (fun h => ?_) (fun h => ?_)
  · refine r_iconst (v := (-1 : Int32)) hE dX1_tell_g0.2.2.2.2.2.2.2.2.2.2.2.2.2.2.1 (by decide) ?_
    exact c_iret hE hm dX1_tell_g0.2.2.2.2.2.2.2.2.2.2.2.2.2.2.2 h
  · refine r_iload_n hE 0 dX1_tell_g0.2.2.2.2.2.2.2.2.2.2.1 rfl rfl ?_
    refine r_bipush (v := (20 : Int32)) hE dX1_tell_g0.2.2.2.2.2.2.2.2.2.2.2.1 (by decide) ?_
    refine c_callSNi hE hm [.int r2, .int (20 : Int32)] [] ck_X1_74 cw_X1_74 (kc_SX12_inside h) (by decide) rfl rfl (Nat.le_of_ble_eq_true rfl) dX1_tell_g0.2.2.2.2.2.2.2.2.2.2.2.2.1 (fun s5 r6 h => ?_)
    refine r_if_ne hE 29 dX1_tell_g0.2.2.2.2.2.2.2.2.2.2.2.2.2.1 (by decide) h (fun h => ?_) (fun h => ?_)
    · refine r_aload_n hE 1 dX1_tell_g1.1 rfl rfl ?_
      refine cg_sp_nameAt hE hm fk_X1_50 dX1_tell_g1.2.1 ?_
      refine r_iload_n hE 2 dX1_tell_g1.2.2.1 rfl rfl ?_
      refine r_bipush (v := (20 : Int32)) hE dX1_tell_g1.2.2.2.1 (by decide) ?_
      refine r_imul hE dX1_tell_g1.2.2.2.2.1 ?_
      refine r_iload_n hE 0 dX1_tell_g1.2.2.2.2.2.1 rfl rfl ?_
      refine r_iadd hE dX1_tell_g1.2.2.2.2.2.2.1 ?_
      refine r_iload_n hE 3 dX1_tell_g1.2.2.2.2.2.2.2.1 rfl rfl ?_
      obtain ⟨hi, h⟩ := h
      refine cs_sp_nameAt hE hm dX1_tell_g1.2.2.2.2.2.2.2.2.1 hi h (fun s7 h => ?_)
      refine r_aload_n hE 1 dX1_tell_g1.2.2.2.2.2.2.2.2.2.1 rfl rfl ?_
      refine cg_sp_names hE hm fk_X1_53 dX1_tell_g1.2.2.2.2.2.2.2.2.2.2.1 ?_
      refine r_iload_n hE 2 dX1_tell_g1.2.2.2.2.2.2.2.2.2.2.2.1 rfl rfl ?_
      refine r_dup2 hE dX1_tell_g1.2.2.2.2.2.2.2.2.2.2.2.2.1 rfl rfl ?_
      obtain ⟨hi, h⟩ := h
      refine cl_sp_names hE hm dX1_tell_g1.2.2.2.2.2.2.2.2.2.2.2.2.2.1 hi ?_
      refine r_iconst (v := (1 : Int32)) hE dX1_tell_g1.2.2.2.2.2.2.2.2.2.2.2.2.2.2.1 (by decide) ?_
      refine r_iadd hE dX1_tell_g1.2.2.2.2.2.2.2.2.2.2.2.2.2.2.2 ?_
      obtain ⟨hi, h⟩ := h
      refine cs_sp_names hE hm dX1_tell_g2.1 hi h (fun s8 h => ?_)
      refine r_iload_n hE 0 dX1_tell_g2.2.1 rfl rfl ?_
      exact c_iret hE hm dX1_tell_g2.2.2 h
    · refine r_iconst (v := (-1 : Int32)) hE dX1_tell_g0.2.2.2.2.2.2.2.2.2.2.2.2.2.2.1 (by decide) ?_
      exact c_iret hE hm dX1_tell_g0.2.2.2.2.2.2.2.2.2.2.2.2.2.2.2 h
/-! sp_paramAt -/
def wc_sp_paramAt (post : CS → Int32 → Prop) (σ : CS) (a1 : Int32) (a2 : Int32) : Prop := wc_SX12_inside (fun (s1 : CS) (r2 : Int32) => ((r2 = (0 : Int32)) → (post s1 (-1 : Int32))) ∧ ((¬ (r2 = (0 : Int32))) → (wc_SX12_inside (fun (s3 : CS) (r4 : Int32) => ((r4 = (0 : Int32)) → (post s3 (-1 : Int32))) ∧ ((¬ (r4 = (0 : Int32))) → (vp_in ((a1 * (20 : Int32)) + a2) 260 ∧ (post s3 (c_sp_nameAt s3 ((a1 * (20 : Int32)) + a2).toNatClampNeg))))) s1 a2 (20 : Int32)))) σ a1 (12 : Int32)
set_option maxRecDepth 20000 in
theorem kc_sp_paramAt {l : Launch} {D : va_G} {G : gAd} {post : CS → Int32 → Prop} {σ : CS} {a1 : Int32} {a2 : Int32} (h : wc_sp_paramAt post σ a1 a2) : cMet l D G yX1_paramAt cX1_paramAt 3 (some .int) 2 [.ref (G.1 400), .int a1, .int a2] σ (pI post) := by
  unfold wc_sp_paramAt at h
  refine c_enter (own := RX1) (by decide +kernel) rfl [(0, .ref (G.1 400)), (1, .int a1), (2, .int a2)] rfl (Nat.le_of_ble_eq_true rfl) ?_
  intro E hE hm
  have hN := hm.2.2.2.2.2.2.1
  refine r_iload_n hE 1 dX1_paramAt_g0.1 rfl rfl ?_
  refine r_bipush (v := (12 : Int32)) hE dX1_paramAt_g0.2.1 (by decide) ?_
  refine c_callSNi hE hm [.int a1, .int (12 : Int32)] [] ck_X1_74 cw_X1_74 (kc_SX12_inside h) (by decide) rfl rfl (Nat.le_of_ble_eq_true rfl) dX1_paramAt_g0.2.2.1 (fun s1 r2 h => ?_)
  refine r_if_eq hE 32 dX1_paramAt_g0.2.2.2.1 (by decide) h (fun h => ?_) (fun h => ?_)
  · refine r_iconst (v := (-1 : Int32)) hE dX1_paramAt_g1.2.1 (by decide) ?_
    exact c_iret hE hm dX1_paramAt_g1.2.2 h
  · refine r_iload_n hE 2 dX1_paramAt_g0.2.2.2.2.1 rfl rfl ?_
    refine r_bipush (v := (20 : Int32)) hE dX1_paramAt_g0.2.2.2.2.2.1 (by decide) ?_
    refine c_callSNi hE hm [.int a2, .int (20 : Int32)] [] ck_X1_74 cw_X1_74 (kc_SX12_inside h) (by decide) rfl rfl (Nat.le_of_ble_eq_true rfl) dX1_paramAt_g0.2.2.2.2.2.2.1 (fun s3 r4 h => ?_)
    refine r_if_eq hE 32 dX1_paramAt_g0.2.2.2.2.2.2.2.1 (by decide) h (fun h => ?_) (fun h => ?_)
    · refine r_iconst (v := (-1 : Int32)) hE dX1_paramAt_g1.2.1 (by decide) ?_
      exact c_iret hE hm dX1_paramAt_g1.2.2 h
    · refine r_aload_n hE 0 dX1_paramAt_g0.2.2.2.2.2.2.2.2.1 rfl rfl ?_
      refine cg_sp_nameAt hE hm fk_X1_50 dX1_paramAt_g0.2.2.2.2.2.2.2.2.2.1 ?_
      refine r_iload_n hE 1 dX1_paramAt_g0.2.2.2.2.2.2.2.2.2.2.1 rfl rfl ?_
      refine r_bipush (v := (20 : Int32)) hE dX1_paramAt_g0.2.2.2.2.2.2.2.2.2.2.2.1 (by decide) ?_
      refine r_imul hE dX1_paramAt_g0.2.2.2.2.2.2.2.2.2.2.2.2.1 ?_
      refine r_iload_n hE 2 dX1_paramAt_g0.2.2.2.2.2.2.2.2.2.2.2.2.2.1 rfl rfl ?_
      refine r_iadd hE dX1_paramAt_g0.2.2.2.2.2.2.2.2.2.2.2.2.2.2.1 ?_
      obtain ⟨hi, h⟩ := h
      refine cl_sp_nameAt hE hm dX1_paramAt_g0.2.2.2.2.2.2.2.2.2.2.2.2.2.2.2 hi ?_
      refine r_goto hE 33 dX1_paramAt_g1.1 (by decide) ?_
      exact c_iret hE hm dX1_paramAt_g1.2.2 h
/-! sp_endHeader -/
def wc_sp_endHeader (post : CS → Prop) (σ : CS) (a1 : Int32) : Prop := wc_SX12_inside (fun (s1 : CS) (r2 : Int32) => ((r2 = (0 : Int32)) → (post s1)) ∧ ((¬ (r2 = (0 : Int32))) → (vp_in a1 13 ∧ (vp_in a1 12 ∧ (∀ s3 : CS, s3 = c_sp_params_s s1 a1.toNatClampNeg (c_sp_names s1 a1.toNatClampNeg) → post s3))))) σ a1 (12 : Int32)
set_option maxRecDepth 20000 in
theorem kc_sp_endHeader {l : Launch} {D : va_G} {G : gAd} {post : CS → Prop} {σ : CS} {a1 : Int32} (h : wc_sp_endHeader post σ a1) : cMet l D G yX1_endHeader cX1_endHeader 2 none 2 [.ref (G.1 400), .int a1] σ (pV post) := by
  unfold wc_sp_endHeader at h
  refine c_enter (own := RX1) (by decide +kernel) rfl [(0, .ref (G.1 400)), (1, .int a1)] rfl (Nat.le_of_ble_eq_true rfl) ?_
  intro E hE hm
  have hN := hm.2.2.2.2.2.2.1
  refine r_iload_n hE 1 dX1_endHeader_g0.1 rfl rfl ?_
  refine r_bipush (v := (12 : Int32)) hE dX1_endHeader_g0.2.1 (by decide) ?_
  refine c_callSNi hE hm [.int a1, .int (12 : Int32)] [] ck_X1_74 cw_X1_74 (kc_SX12_inside h) (by decide) rfl rfl (Nat.le_of_ble_eq_true rfl) dX1_endHeader_g0.2.2.1 (fun s1 r2 h => ?_)
  refine r_if_eq hE 21 dX1_endHeader_g0.2.2.2.1 (by decide) h (fun h => ?_) (fun h => ?_)
  · exact c_vret hE hm dX1_endHeader_g0.2.2.2.2.2.2.2.2.2.2.2.2 h
  · refine r_aload_n hE 0 dX1_endHeader_g0.2.2.2.2.1 rfl rfl ?_
    refine cg_sp_params hE hm fk_X1_56 dX1_endHeader_g0.2.2.2.2.2.1 ?_
    refine r_iload_n hE 1 dX1_endHeader_g0.2.2.2.2.2.2.1 rfl rfl ?_
    refine r_aload_n hE 0 dX1_endHeader_g0.2.2.2.2.2.2.2.1 rfl rfl ?_
    refine cg_sp_names hE hm fk_X1_53 dX1_endHeader_g0.2.2.2.2.2.2.2.2.1 ?_
    refine r_iload_n hE 1 dX1_endHeader_g0.2.2.2.2.2.2.2.2.2.1 rfl rfl ?_
    obtain ⟨hi, h⟩ := h
    refine cl_sp_names hE hm dX1_endHeader_g0.2.2.2.2.2.2.2.2.2.2.1 hi ?_
    obtain ⟨hi, h⟩ := h
    refine cs_sp_params hE hm dX1_endHeader_g0.2.2.2.2.2.2.2.2.2.2.2.1 hi h (fun s3 h => ?_)
    exact c_vret hE hm dX1_endHeader_g0.2.2.2.2.2.2.2.2.2.2.2.2 h
/-! sp_endMacro -/
def wc_sp_endMacro (post : CS → Prop) (σ : CS) (a1 : Int32) (a2 : Int32) : Prop := wc_SX12_inside (fun (s1 : CS) (r2 : Int32) => ((r2 = (0 : Int32)) → (post s1)) ∧ ((¬ (r2 = (0 : Int32))) → (vp_in (c_sp_macros s1) 12 ∧ (∀ s3 : CS, s3 = c_sp_macroAt_s s1 (c_sp_macros s1).toNatClampNeg a1 → vp_in (c_sp_macros s3) 12 ∧ (∀ s4 : CS, s4 = c_sp_macroBody_s s3 (c_sp_macros s3).toNatClampNeg a2 → ∀ s5 : CS, s5 = c_sp_macros_s s4 ((c_sp_macros s4) + (1 : Int32)) → post s5))))) σ (c_sp_macros σ) (12 : Int32)
set_option maxRecDepth 20000 in
theorem kc_sp_endMacro {l : Launch} {D : va_G} {G : gAd} {post : CS → Prop} {σ : CS} {a1 : Int32} {a2 : Int32} (h : wc_sp_endMacro post σ a1 a2) : cMet l D G yX1_endMacro cX1_endMacro 3 none 2 [.ref (G.1 400), .int a1, .int a2] σ (pV post) := by
  unfold wc_sp_endMacro at h
  refine c_enter (own := RX1) (by decide +kernel) rfl [(0, .ref (G.1 400)), (1, .int a1), (2, .int a2)] rfl (Nat.le_of_ble_eq_true rfl) ?_
  intro E hE hm
  have hN := hm.2.2.2.2.2.2.1
  refine r_aload_n hE 0 dX1_endMacro_g0.1 rfl rfl ?_
  refine cg_sp_macros hE hm fk_X1_65 dX1_endMacro_g0.2.1 ?_
  refine r_bipush (v := (12 : Int32)) hE dX1_endMacro_g0.2.2.1 (by decide) ?_
  refine c_callSNi hE hm [.int (c_sp_macros σ), .int (12 : Int32)] [] ck_X1_74 cw_X1_74 (kc_SX12_inside h) (by decide) rfl rfl (Nat.le_of_ble_eq_true rfl) dX1_endMacro_g0.2.2.2.1 (fun s1 r2 h => ?_)
  refine r_if_eq hE 42 dX1_endMacro_g0.2.2.2.2.1 (by decide) h (fun h => ?_) (fun h => ?_)
  · exact c_vret hE hm dX1_endMacro_g1.2.2.2.2.2.2.2 h
  · refine r_aload_n hE 0 dX1_endMacro_g0.2.2.2.2.2.1 rfl rfl ?_
    refine cg_sp_macroAt hE hm fk_X1_59 dX1_endMacro_g0.2.2.2.2.2.2.1 ?_
    refine r_aload_n hE 0 dX1_endMacro_g0.2.2.2.2.2.2.2.1 rfl rfl ?_
    refine cg_sp_macros hE hm fk_X1_65 dX1_endMacro_g0.2.2.2.2.2.2.2.2.1 ?_
    refine r_iload_n hE 1 dX1_endMacro_g0.2.2.2.2.2.2.2.2.2.1 rfl rfl ?_
    obtain ⟨hi, h⟩ := h
    refine cs_sp_macroAt hE hm dX1_endMacro_g0.2.2.2.2.2.2.2.2.2.2.1 hi h (fun s3 h => ?_)
    refine r_aload_n hE 0 dX1_endMacro_g0.2.2.2.2.2.2.2.2.2.2.2.1 rfl rfl ?_
    refine cg_sp_macroBody hE hm fk_X1_62 dX1_endMacro_g0.2.2.2.2.2.2.2.2.2.2.2.2.1 ?_
    refine r_aload_n hE 0 dX1_endMacro_g0.2.2.2.2.2.2.2.2.2.2.2.2.2.1 rfl rfl ?_
    refine cg_sp_macros hE hm fk_X1_65 dX1_endMacro_g0.2.2.2.2.2.2.2.2.2.2.2.2.2.2.1 ?_
    refine r_iload_n hE 2 dX1_endMacro_g0.2.2.2.2.2.2.2.2.2.2.2.2.2.2.2 rfl rfl ?_
    obtain ⟨hi, h⟩ := h
    refine cs_sp_macroBody hE hm dX1_endMacro_g1.1 hi h (fun s4 h => ?_)
    refine r_aload_n hE 0 dX1_endMacro_g1.2.1 rfl rfl ?_
    refine r_dup hE dX1_endMacro_g1.2.2.1 rfl ?_
    refine cg_sp_macros hE hm fk_X1_65 dX1_endMacro_g1.2.2.2.1 ?_
    refine r_iconst (v := (1 : Int32)) hE dX1_endMacro_g1.2.2.2.2.1 (by decide) ?_
    refine r_iadd hE dX1_endMacro_g1.2.2.2.2.2.1 ?_
    refine cp_sp_macros hE hm fk_X1_65 dX1_endMacro_g1.2.2.2.2.2.2.1 h (fun s5 h => ?_)
    exact c_vret hE hm dX1_endMacro_g1.2.2.2.2.2.2.2 h
/-! sp_macroNumber -/
def wc_sp_macroNumber_2 (post : CS → Int32 → Prop) : Nat → CS → Int32 → Int32 → Prop
  | 0, _, _, _ => False
  | n + 1, σ, v1, v2 => (((c_sp_macros σ) ≤ v2) → (post σ (-1 : Int32))) ∧ ((¬ ((c_sp_macros σ) ≤ v2)) → ((((12 : Int32) ≤ v2) → (post σ (-1 : Int32))) ∧ ((¬ ((12 : Int32) ≤ v2)) → (vp_in v2 12 ∧ (wc_sp_sameWord (fun (s1 : CS) (r2 : Int32) => ((r2 = (0 : Int32)) → (∀ x3 : Int32, x3 = v2 + (1 : Int32) → wc_sp_macroNumber_2 post n s1 v1 x3)) ∧ ((¬ (r2 = (0 : Int32))) → (post s1 v2))) σ (c_sp_macroAt σ v2.toNatClampNeg) v1)))))
set_option maxRecDepth 20000 in
theorem kc_sp_macroNumber_2 {E : gEnv} {l : Launch} {D : va_G} {G : gAd} {post : CS → Int32 → Prop} (hE : gOK E cX1_macroNumber RX1 (some .int) 3) (hm : cOK E l D G (pI post) 3) : ∀ (n : Nat) (σ : CS) (v1 : Int32) (v2 : Int32), wc_sp_macroNumber_2 post n σ v1 v2 → GW E (cW G σ) 2 [(0, .ref (G.1 400)), (1, .int v1), (2, .int v2)] [] := by
  intro n
  induction n with
  | zero => intro σ v1 v2 h; exact h.elim
  | succ n ih =>
    intro σ v1 v2 h
    rw [wc_sp_macroNumber_2] at h
    have hN := hm.2.2.2.2.2.2.1
    refine r_iload_n hE 2 dX1_macroNumber_g0.2.2.1 rfl rfl ?_
    refine r_aload_n hE 0 dX1_macroNumber_g0.2.2.2.1 rfl rfl ?_
    refine cg_sp_macros hE hm fk_X1_65 dX1_macroNumber_g0.2.2.2.2.1 ?_
    refine r_icmp_ge hE 38 dX1_macroNumber_g0.2.2.2.2.2.1 (by decide) h (fun h => ?_) (fun h => ?_)
    · refine r_iconst (v := (-1 : Int32)) hE dX1_macroNumber_g1.2.2.2.2.2.1 (by decide) ?_
      exact c_iret hE hm dX1_macroNumber_g1.2.2.2.2.2.2 h
    · refine r_iload_n hE 2 dX1_macroNumber_g0.2.2.2.2.2.2.1 rfl rfl ?_
      refine r_bipush (v := (12 : Int32)) hE dX1_macroNumber_g0.2.2.2.2.2.2.2.1 (by decide) ?_
      refine r_icmp_ge hE 38 dX1_macroNumber_g0.2.2.2.2.2.2.2.2.1 (by decide) h (fun h => ?_) (fun h => ?_)
      · refine r_iconst (v := (-1 : Int32)) hE dX1_macroNumber_g1.2.2.2.2.2.1 (by decide) ?_
        exact c_iret hE hm dX1_macroNumber_g1.2.2.2.2.2.2 h
      · refine r_aload_n hE 0 dX1_macroNumber_g0.2.2.2.2.2.2.2.2.2.1 rfl rfl ?_
        refine r_aload_n hE 0 dX1_macroNumber_g0.2.2.2.2.2.2.2.2.2.2.1 rfl rfl ?_
        refine cg_sp_macroAt hE hm fk_X1_59 dX1_macroNumber_g0.2.2.2.2.2.2.2.2.2.2.2.1 ?_
        refine r_iload_n hE 2 dX1_macroNumber_g0.2.2.2.2.2.2.2.2.2.2.2.2.1 rfl rfl ?_
        obtain ⟨hi, h⟩ := h
        refine cl_sp_macroAt hE hm dX1_macroNumber_g0.2.2.2.2.2.2.2.2.2.2.2.2.2.1 hi ?_
        refine r_iload_n hE 1 dX1_macroNumber_g0.2.2.2.2.2.2.2.2.2.2.2.2.2.2.1 rfl rfl ?_
        refine c_callVi hE hm [.int (c_sp_macroAt σ v2.toNatClampNeg), .int v1] [] ck_X1_82 (cr_sp hm rfl) (kc_sp_sameWord h) (by decide) rfl rfl (Nat.le_of_ble_eq_true rfl) dX1_macroNumber_g0.2.2.2.2.2.2.2.2.2.2.2.2.2.2.2 (fun s1 r2 h => ?_)
        refine r_if_eq hE 32 dX1_macroNumber_g1.1 (by decide) h (fun h => ?_) (fun h => ?_)
        · obtain ⟨x3, ex3⟩ : ∃ z : Int32, z = v2 + (1 : Int32) := ⟨_, rfl⟩
          have h := h x3 ex3
          refine r_iinc (v := x3) hE [(2, .int x3), (0, .ref (G.1 400)), (1, .int v1)] 2 dX1_macroNumber_g1.2.2.2.1 rfl (by rw [ex3]; rfl) hN (by decide) rfl ?_
          refine r_goto hE 2 dX1_macroNumber_g1.2.2.2.2.1 (by decide) ?_
          refine r_pick [1, 2, 0] rfl ?_
          exact ih _ _ _ h
        · refine r_iload_n hE 2 dX1_macroNumber_g1.2.1 rfl rfl ?_
          exact c_iret hE hm dX1_macroNumber_g1.2.2.1 h
def wc_sp_macroNumber (post : CS → Int32 → Prop) (σ : CS) (a1 : Int32) : Prop := ∃ k : Nat, wc_sp_macroNumber_2 post k σ a1 (0 : Int32)
set_option maxRecDepth 20000 in
theorem kc_sp_macroNumber {l : Launch} {D : va_G} {G : gAd} {post : CS → Int32 → Prop} {σ : CS} {a1 : Int32} (h : wc_sp_macroNumber post σ a1) : cMet l D G yX1_macroNumber cX1_macroNumber 3 (some .int) 3 [.ref (G.1 400), .int a1] σ (pI post) := by
  unfold wc_sp_macroNumber at h
  refine c_enter (own := RX1) (by decide +kernel) rfl [(0, .ref (G.1 400)), (1, .int a1)] rfl (Nat.le_of_ble_eq_true rfl) ?_
  intro E hE hm
  have hN := hm.2.2.2.2.2.2.1
  refine r_iconst (v := (0 : Int32)) hE dX1_macroNumber_g0.1 (by decide) ?_
  refine r_istore_n hE [(2, .int (0 : Int32)), (0, .ref (G.1 400)), (1, .int a1)] dX1_macroNumber_g0.2.1 rfl hN (by decide) rfl ?_
  refine r_pick [1, 2, 0] rfl ?_
  obtain ⟨k, h⟩ := h
  exact kc_sp_macroNumber_2 hE hm k _ _ _ h
/-! sp_macroAtOf -/
def wc_sp_macroAtOf (post : CS → Int32 → Prop) (σ : CS) (a1 : Int32) : Prop := wc_SX12_inside (fun (s1 : CS) (r2 : Int32) => ((r2 = (0 : Int32)) → (post s1 (-1 : Int32))) ∧ ((¬ (r2 = (0 : Int32))) → (vp_in a1 12 ∧ (post s1 (c_sp_macroAt s1 a1.toNatClampNeg))))) σ a1 (c_sp_macros σ)
set_option maxRecDepth 20000 in
theorem kc_sp_macroAtOf {l : Launch} {D : va_G} {G : gAd} {post : CS → Int32 → Prop} {σ : CS} {a1 : Int32} (h : wc_sp_macroAtOf post σ a1) : cMet l D G yX1_macroAtOf cX1_macroAtOf 2 (some .int) 2 [.ref (G.1 400), .int a1] σ (pI post) := by
  unfold wc_sp_macroAtOf at h
  refine c_enter (own := RX1) (by decide +kernel) rfl [(0, .ref (G.1 400)), (1, .int a1)] rfl (Nat.le_of_ble_eq_true rfl) ?_
  intro E hE hm
  have hN := hm.2.2.2.2.2.2.1
  refine r_iload_n hE 1 dX1_macroAtOf_g0.1 rfl rfl ?_
  refine r_aload_n hE 0 dX1_macroAtOf_g0.2.1 rfl rfl ?_
  refine cg_sp_macros hE hm fk_X1_65 dX1_macroAtOf_g0.2.2.1 ?_
  refine c_callSNi hE hm [.int a1, .int (c_sp_macros σ)] [] ck_X1_74 cw_X1_74 (kc_SX12_inside h) (by decide) rfl rfl (Nat.le_of_ble_eq_true rfl) dX1_macroAtOf_g0.2.2.2.1 (fun s1 r2 h => ?_)
  refine r_if_eq hE 20 dX1_macroAtOf_g0.2.2.2.2.1 (by decide) h (fun h => ?_) (fun h => ?_)
  · refine r_iconst (v := (-1 : Int32)) hE dX1_macroAtOf_g0.2.2.2.2.2.2.2.2.2.2.1 (by decide) ?_
    exact c_iret hE hm dX1_macroAtOf_g0.2.2.2.2.2.2.2.2.2.2.2 h
  · refine r_aload_n hE 0 dX1_macroAtOf_g0.2.2.2.2.2.1 rfl rfl ?_
    refine cg_sp_macroAt hE hm fk_X1_59 dX1_macroAtOf_g0.2.2.2.2.2.2.1 ?_
    refine r_iload_n hE 1 dX1_macroAtOf_g0.2.2.2.2.2.2.2.1 rfl rfl ?_
    obtain ⟨hi, h⟩ := h
    refine cl_sp_macroAt hE hm dX1_macroAtOf_g0.2.2.2.2.2.2.2.2.1 hi ?_
    refine r_goto hE 21 dX1_macroAtOf_g0.2.2.2.2.2.2.2.2.2.1 (by decide) ?_
    exact c_iret hE hm dX1_macroAtOf_g0.2.2.2.2.2.2.2.2.2.2.2 h
/-! sp_paramsOf -/
def wc_sp_paramsOf (post : CS → Int32 → Prop) (σ : CS) (a1 : Int32) : Prop := wc_SX12_inside (fun (s1 : CS) (r2 : Int32) => ((r2 = (0 : Int32)) → (post s1 (0 : Int32))) ∧ ((¬ (r2 = (0 : Int32))) → (vp_in a1 12 ∧ (post s1 (c_sp_params s1 a1.toNatClampNeg))))) σ a1 (c_sp_macros σ)
set_option maxRecDepth 20000 in
theorem kc_sp_paramsOf {l : Launch} {D : va_G} {G : gAd} {post : CS → Int32 → Prop} {σ : CS} {a1 : Int32} (h : wc_sp_paramsOf post σ a1) : cMet l D G yX1_paramsOf cX1_paramsOf 2 (some .int) 2 [.ref (G.1 400), .int a1] σ (pI post) := by
  unfold wc_sp_paramsOf at h
  refine c_enter (own := RX1) (by decide +kernel) rfl [(0, .ref (G.1 400)), (1, .int a1)] rfl (Nat.le_of_ble_eq_true rfl) ?_
  intro E hE hm
  have hN := hm.2.2.2.2.2.2.1
  refine r_iload_n hE 1 dX1_paramsOf_g0.1 rfl rfl ?_
  refine r_aload_n hE 0 dX1_paramsOf_g0.2.1 rfl rfl ?_
  refine cg_sp_macros hE hm fk_X1_65 dX1_paramsOf_g0.2.2.1 ?_
  refine c_callSNi hE hm [.int a1, .int (c_sp_macros σ)] [] ck_X1_74 cw_X1_74 (kc_SX12_inside h) (by decide) rfl rfl (Nat.le_of_ble_eq_true rfl) dX1_paramsOf_g0.2.2.2.1 (fun s1 r2 h => ?_)
  refine r_if_eq hE 20 dX1_paramsOf_g0.2.2.2.2.1 (by decide) h (fun h => ?_) (fun h => ?_)
  · refine r_iconst (v := (0 : Int32)) hE dX1_paramsOf_g0.2.2.2.2.2.2.2.2.2.2.1 (by decide) ?_
    exact c_iret hE hm dX1_paramsOf_g0.2.2.2.2.2.2.2.2.2.2.2 h
  · refine r_aload_n hE 0 dX1_paramsOf_g0.2.2.2.2.2.1 rfl rfl ?_
    refine cg_sp_params hE hm fk_X1_56 dX1_paramsOf_g0.2.2.2.2.2.2.1 ?_
    refine r_iload_n hE 1 dX1_paramsOf_g0.2.2.2.2.2.2.2.1 rfl rfl ?_
    obtain ⟨hi, h⟩ := h
    refine cl_sp_params hE hm dX1_paramsOf_g0.2.2.2.2.2.2.2.2.1 hi ?_
    refine r_goto hE 21 dX1_paramsOf_g0.2.2.2.2.2.2.2.2.2.1 (by decide) ?_
    exact c_iret hE hm dX1_paramsOf_g0.2.2.2.2.2.2.2.2.2.2.2 h
/-! sp_macroBodyOf -/
def wc_sp_macroBodyOf (post : CS → Int32 → Prop) (σ : CS) (a1 : Int32) : Prop := wc_SX12_inside (fun (s1 : CS) (r2 : Int32) => ((r2 = (0 : Int32)) → (post s1 (-1 : Int32))) ∧ ((¬ (r2 = (0 : Int32))) → (vp_in a1 12 ∧ (post s1 (c_sp_macroBody s1 a1.toNatClampNeg))))) σ a1 (c_sp_macros σ)
set_option maxRecDepth 20000 in
theorem kc_sp_macroBodyOf {l : Launch} {D : va_G} {G : gAd} {post : CS → Int32 → Prop} {σ : CS} {a1 : Int32} (h : wc_sp_macroBodyOf post σ a1) : cMet l D G yX1_macroBodyOf cX1_macroBodyOf 2 (some .int) 2 [.ref (G.1 400), .int a1] σ (pI post) := by
  unfold wc_sp_macroBodyOf at h
  refine c_enter (own := RX1) (by decide +kernel) rfl [(0, .ref (G.1 400)), (1, .int a1)] rfl (Nat.le_of_ble_eq_true rfl) ?_
  intro E hE hm
  have hN := hm.2.2.2.2.2.2.1
  refine r_iload_n hE 1 dX1_macroBodyOf_g0.1 rfl rfl ?_
  refine r_aload_n hE 0 dX1_macroBodyOf_g0.2.1 rfl rfl ?_
  refine cg_sp_macros hE hm fk_X1_65 dX1_macroBodyOf_g0.2.2.1 ?_
  refine c_callSNi hE hm [.int a1, .int (c_sp_macros σ)] [] ck_X1_74 cw_X1_74 (kc_SX12_inside h) (by decide) rfl rfl (Nat.le_of_ble_eq_true rfl) dX1_macroBodyOf_g0.2.2.2.1 (fun s1 r2 h => ?_)
  refine r_if_eq hE 20 dX1_macroBodyOf_g0.2.2.2.2.1 (by decide) h (fun h => ?_) (fun h => ?_)
  · refine r_iconst (v := (-1 : Int32)) hE dX1_macroBodyOf_g0.2.2.2.2.2.2.2.2.2.2.1 (by decide) ?_
    exact c_iret hE hm dX1_macroBodyOf_g0.2.2.2.2.2.2.2.2.2.2.2 h
  · refine r_aload_n hE 0 dX1_macroBodyOf_g0.2.2.2.2.2.1 rfl rfl ?_
    refine cg_sp_macroBody hE hm fk_X1_62 dX1_macroBodyOf_g0.2.2.2.2.2.2.1 ?_
    refine r_iload_n hE 1 dX1_macroBodyOf_g0.2.2.2.2.2.2.2.1 rfl rfl ?_
    obtain ⟨hi, h⟩ := h
    refine cl_sp_macroBody hE hm dX1_macroBodyOf_g0.2.2.2.2.2.2.2.2.1 hi ?_
    refine r_goto hE 21 dX1_macroBodyOf_g0.2.2.2.2.2.2.2.2.2.1 (by decide) ?_
    exact c_iret hE hm dX1_macroBodyOf_g0.2.2.2.2.2.2.2.2.2.2.2 h
/-! ou_clear -/
def wc_ou_clear (post : CS → Prop) (σ : CS) : Prop := ∀ s1 : CS, s1 = c_ou_length_s σ (0 : Int32) → post s1
set_option maxRecDepth 20000 in
theorem kc_ou_clear {l : Launch} {D : va_G} {G : gAd} {post : CS → Prop} {σ : CS} (h : wc_ou_clear post σ) : cMet l D G yX3_clear cX3_clear 1 none 1 [.ref (G.1 500)] σ (pV post) := by
  unfold wc_ou_clear at h
  refine c_enter (own := RX3) (by decide +kernel) rfl [(0, .ref (G.1 500))] rfl (Nat.le_of_ble_eq_true rfl) ?_
  intro E hE hm
  have hN := hm.2.2.2.2.2.2.1
  refine r_aload_n hE 0 dX3_clear_g0.1 rfl rfl ?_
  refine r_iconst (v := (0 : Int32)) hE dX3_clear_g0.2.1 (by decide) ?_
  refine cp_ou_length hE hm fk_X3_19 dX3_clear_g0.2.2.1 h (fun s1 h => ?_)
  exact c_vret hE hm dX3_clear_g0.2.2.2 h
/-! ou_byteAt -/
def wc_ou_byteAt (post : CS → Int32 → Prop) (σ : CS) (a1 : Int32) : Prop := wc_SX12_inside (fun (s1 : CS) (r2 : Int32) => ((r2 = (0 : Int32)) → (post s1 (-1 : Int32))) ∧ ((¬ (r2 = (0 : Int32))) → ((((16000 : Int32) ≤ a1) → (post s1 (-1 : Int32))) ∧ ((¬ ((16000 : Int32) ≤ a1)) → (vp_in a1 16000 ∧ (post s1 ((c_ou_bytes s1 a1.toNatClampNeg) &&& (255 : Int32)))))))) σ a1 (c_ou_length σ)
set_option maxRecDepth 20000 in
theorem kc_ou_byteAt {l : Launch} {D : va_G} {G : gAd} {post : CS → Int32 → Prop} {σ : CS} {a1 : Int32} (h : wc_ou_byteAt post σ a1) : cMet l D G yX3_byteAt cX3_byteAt 2 (some .int) 2 [.ref (G.1 500), .int a1] σ (pI post) := by
  unfold wc_ou_byteAt at h
  refine c_enter (own := RX3) (by decide +kernel) rfl [(0, .ref (G.1 500)), (1, .int a1)] rfl (Nat.le_of_ble_eq_true rfl) ?_
  intro E hE hm
  have hN := hm.2.2.2.2.2.2.1
  refine r_iload_n hE 1 dX3_byteAt_g0.1 rfl rfl ?_
  refine r_aload_n hE 0 dX3_byteAt_g0.2.1 rfl rfl ?_
  refine cg_ou_length hE hm fk_X3_19 dX3_byteAt_g0.2.2.1 ?_
  refine c_callSNi hE hm [.int a1, .int (c_ou_length σ)] [] ck_X3_23 cw_X3_23 (kc_SX12_inside h) (by decide) rfl rfl (Nat.le_of_ble_eq_true rfl) dX3_byteAt_g0.2.2.2.1 (fun s1 r2 h => ?_)
  refine r_if_eq hE 33 dX3_byteAt_g0.2.2.2.2.1 (by decide) h (fun h => ?_) (fun h => ?_)
  · refine r_iconst (v := (-1 : Int32)) hE dX3_byteAt_g1.2.1 (by decide) ?_
    exact c_iret hE hm dX3_byteAt_g1.2.2 h
  · refine r_iload_n hE 1 dX3_byteAt_g0.2.2.2.2.2.1 rfl rfl ?_
    refine r_aload_n hE 0 dX3_byteAt_g0.2.2.2.2.2.2.1 rfl rfl ?_
    refine cg_ou_bytes hE hm fk_X3_9 dX3_byteAt_g0.2.2.2.2.2.2.2.1 ?_
    refine cn_ou_bytes hE hm dX3_byteAt_g0.2.2.2.2.2.2.2.2.1 ?_
    refine r_icmp_ge hE 33 dX3_byteAt_g0.2.2.2.2.2.2.2.2.2.1 (by decide) h (fun h => ?_) (fun h => ?_)
    · refine r_iconst (v := (-1 : Int32)) hE dX3_byteAt_g1.2.1 (by decide) ?_
      exact c_iret hE hm dX3_byteAt_g1.2.2 h
    · refine r_aload_n hE 0 dX3_byteAt_g0.2.2.2.2.2.2.2.2.2.2.1 rfl rfl ?_
      refine cg_ou_bytes hE hm fk_X3_9 dX3_byteAt_g0.2.2.2.2.2.2.2.2.2.2.2.1 ?_
      refine r_iload_n hE 1 dX3_byteAt_g0.2.2.2.2.2.2.2.2.2.2.2.2.1 rfl rfl ?_
      obtain ⟨hi, h⟩ := h
      refine cl_ou_bytes hE hm dX3_byteAt_g0.2.2.2.2.2.2.2.2.2.2.2.2.2.1 hi ?_
      refine r_sipush (v := (255 : Int32)) hE dX3_byteAt_g0.2.2.2.2.2.2.2.2.2.2.2.2.2.2.1 (by decide) ?_
      refine r_iand hE dX3_byteAt_g0.2.2.2.2.2.2.2.2.2.2.2.2.2.2.2 ?_
      refine r_goto hE 34 dX3_byteAt_g1.1 (by decide) ?_
      exact c_iret hE hm dX3_byteAt_g1.2.2 h
/-! ou_put -/
def wc_ou_put (post : CS → Prop) (σ : CS) (a1 : Int32) : Prop := (((c_ou_length σ) < (0 : Int32)) → (post σ)) ∧ ((¬ ((c_ou_length σ) < (0 : Int32))) → ((((16000 : Int32) ≤ (c_ou_length σ)) → (post σ)) ∧ ((¬ ((16000 : Int32) ≤ (c_ou_length σ))) → (vp_in (c_ou_length σ) 16000 ∧ (∀ s1 : CS, s1 = c_ou_bytes_s σ (c_ou_length σ).toNatClampNeg ((a1.toInt8.toInt32).toInt8.toInt32) → ∀ s2 : CS, s2 = c_ou_length_s s1 ((c_ou_length s1) + (1 : Int32)) → post s2)))))
set_option maxRecDepth 20000 in
theorem kc_ou_put {l : Launch} {D : va_G} {G : gAd} {post : CS → Prop} {σ : CS} {a1 : Int32} (h : wc_ou_put post σ a1) : cMet l D G yX3_put cX3_put 2 none 1 [.ref (G.1 500), .int a1] σ (pV post) := by
  unfold wc_ou_put at h
  refine c_enter (own := RX3) (by decide +kernel) rfl [(0, .ref (G.1 500)), (1, .int a1)] rfl (Nat.le_of_ble_eq_true rfl) ?_
  intro E hE hm
  have hN := hm.2.2.2.2.2.2.1
  refine r_aload_n hE 0 dX3_put_g0.1 rfl rfl ?_
  refine cg_ou_length hE hm fk_X3_19 dX3_put_g0.2.1 ?_
  refine r_if_lt hE 40 dX3_put_g0.2.2.1 (by decide) h (fun h => ?_) (fun h => ?_)
  · exact c_vret hE hm dX3_put_g1.2.2.2.2.2.2 h
  · refine r_aload_n hE 0 dX3_put_g0.2.2.2.1 rfl rfl ?_
    refine cg_ou_length hE hm fk_X3_19 dX3_put_g0.2.2.2.2.1 ?_
    refine r_aload_n hE 0 dX3_put_g0.2.2.2.2.2.1 rfl rfl ?_
    refine cg_ou_bytes hE hm fk_X3_9 dX3_put_g0.2.2.2.2.2.2.1 ?_
    refine cn_ou_bytes hE hm dX3_put_g0.2.2.2.2.2.2.2.1 ?_
    refine r_icmp_ge hE 40 dX3_put_g0.2.2.2.2.2.2.2.2.1 (by decide) h (fun h => ?_) (fun h => ?_)
    · exact c_vret hE hm dX3_put_g1.2.2.2.2.2.2 h
    · refine r_aload_n hE 0 dX3_put_g0.2.2.2.2.2.2.2.2.2.1 rfl rfl ?_
      refine cg_ou_bytes hE hm fk_X3_9 dX3_put_g0.2.2.2.2.2.2.2.2.2.2.1 ?_
      refine r_aload_n hE 0 dX3_put_g0.2.2.2.2.2.2.2.2.2.2.2.1 rfl rfl ?_
      refine cg_ou_length hE hm fk_X3_19 dX3_put_g0.2.2.2.2.2.2.2.2.2.2.2.2.1 ?_
      refine r_iload_n hE 1 dX3_put_g0.2.2.2.2.2.2.2.2.2.2.2.2.2.1 rfl rfl ?_
      refine r_i2b hE dX3_put_g0.2.2.2.2.2.2.2.2.2.2.2.2.2.2.1 ?_
      obtain ⟨hi, h⟩ := h
      refine cs_ou_bytes hE hm dX3_put_g0.2.2.2.2.2.2.2.2.2.2.2.2.2.2.2 hi h (fun s1 h => ?_)
      refine r_aload_n hE 0 dX3_put_g1.1 rfl rfl ?_
      refine r_dup hE dX3_put_g1.2.1 rfl ?_
      refine cg_ou_length hE hm fk_X3_19 dX3_put_g1.2.2.1 ?_
      refine r_iconst (v := (1 : Int32)) hE dX3_put_g1.2.2.2.1 (by decide) ?_
      refine r_iadd hE dX3_put_g1.2.2.2.2.1 ?_
      refine cp_ou_length hE hm fk_X3_19 dX3_put_g1.2.2.2.2.2.1 h (fun s2 h => ?_)
      exact c_vret hE hm dX3_put_g1.2.2.2.2.2.2 h
/-! ou_putWhole -/
def wc_ou_putWhole_77 (post : CS → Prop) : Nat → CS → Int32 → Prop
  | 0, _, _ => False
  | n + 1, σ, v6 => ((v6 < (0 : Int32)) → (post σ)) ∧ ((¬ (v6 < (0 : Int32))) → (vp_in v6 20 ∧ (wc_ou_put (fun (s1 : CS) => ∀ x2 : Int32, x2 = v6 + (-1 : Int32) → wc_ou_putWhole_77 post n s1 x2) σ (c_ou_digits σ v6.toNatClampNeg))))
set_option maxRecDepth 20000 in
theorem kc_ou_putWhole_77 {E : gEnv} {l : Launch} {D : va_G} {G : gAd} {post : CS → Prop} (hE : gOK E cX3_putWhole RX3 none 2) (hm : cOK E l D G (pV post) 7) : ∀ (n : Nat) (σ : CS) (v6 : Int32), wc_ou_putWhole_77 post n σ v6 → GW E (cW G σ) 77 [(0, .ref (G.1 500)), (6, .int v6)] [] := by
  intro n
  induction n with
  | zero => intro σ v6 h; exact h.elim
  | succ n ih =>
    intro σ v6 h
    rw [wc_ou_putWhole_77] at h
    have hN := hm.2.2.2.2.2.2.1
    refine r_iload hE 1 dX3_putWhole_g2.2.2.2.2.2.2.2.2.2.2.2.2.2.2.2 rfl ?_
    refine r_if_lt hE 99 dX3_putWhole_g3.1 (by decide) h (fun h => ?_) (fun h => ?_)
    · exact c_vret hE hm dX3_putWhole_g3.2.2.2.2.2.2.2.2.2 h
    · refine r_aload_n hE 0 dX3_putWhole_g3.2.1 rfl rfl ?_
      refine r_aload_n hE 0 dX3_putWhole_g3.2.2.1 rfl rfl ?_
      refine cg_ou_digits hE hm fk_X3_15 dX3_putWhole_g3.2.2.2.1 ?_
      refine r_iload hE 1 dX3_putWhole_g3.2.2.2.2.1 rfl ?_
      obtain ⟨hi, h⟩ := h
      refine cl_ou_digits hE hm dX3_putWhole_g3.2.2.2.2.2.1 hi ?_
      refine c_callVv hE hm [.int (c_ou_digits σ v6.toNatClampNeg)] [] ck_X3_36 (cr_ou hm rfl) (kc_ou_put h) (by decide) rfl rfl (Nat.le_of_ble_eq_true rfl) dX3_putWhole_g3.2.2.2.2.2.2.1 (fun s1 h => ?_)
      obtain ⟨x2, ex2⟩ : ∃ z : Int32, z = v6 + (-1 : Int32) := ⟨_, rfl⟩
      have h := h x2 ex2
      refine r_iinc (v := x2) hE [(6, .int x2), (0, .ref (G.1 500))] 1 dX3_putWhole_g3.2.2.2.2.2.2.2.1 rfl (by rw [ex2]; rfl) hN (by decide) rfl ?_
      refine r_goto hE 77 dX3_putWhole_g3.2.2.2.2.2.2.2.2.1 (by decide) ?_
      refine r_pick [1, 0] rfl ?_
      exact ih _ _ h
def wc_ou_putWhole_71 (post : CS → Prop) (σ : CS) (v5 : Int32) : Prop := ∀ x3 : Int32, x3 = v5 - (1 : Int32) → ∃ k : Nat, wc_ou_putWhole_77 post k σ x3
set_option maxRecDepth 20000 in
theorem kc_ou_putWhole_71 {E : gEnv} {l : Launch} {D : va_G} {G : gAd} {post : CS → Prop} (hE : gOK E cX3_putWhole RX3 none 2) (hm : cOK E l D G (pV post) 7) (σ : CS) (v5 : Int32) (h : wc_ou_putWhole_71 post σ v5) : GW E (cW G σ) 71 [(0, .ref (G.1 500)), (5, .int v5)] [] := by
  unfold wc_ou_putWhole_71 at h
  have hN := hm.2.2.2.2.2.2.1
  refine r_iload hE 1 dX3_putWhole_g2.2.2.2.2.2.2.2.2.2.2.2.1 rfl ?_
  refine r_iconst (v := (1 : Int32)) hE dX3_putWhole_g2.2.2.2.2.2.2.2.2.2.2.2.2.1 (by decide) ?_
  refine r_isub hE dX3_putWhole_g2.2.2.2.2.2.2.2.2.2.2.2.2.2.1 ?_
  refine r_topi h (fun x3 ex3 h => ?_)
  refine r_istore hE [(6, .int x3), (0, .ref (G.1 500)), (5, .int v5)] dX3_putWhole_g2.2.2.2.2.2.2.2.2.2.2.2.2.2.2.1 hN (by decide) rfl ?_
  refine r_pick [1, 0] rfl ?_
  obtain ⟨k, h⟩ := h
  exact kc_ou_putWhole_77 hE hm k _ _ h
def wc_ou_putWhole_28 (post : CS → Prop) : Nat → CS → Int64 → Int32 → Prop
  | 0, _, _, _ => False
  | n + 1, σ, v3, v5 => vp_in v5 20 ∧ (∀ s4 : CS, s4 = c_ou_digits_s σ v5.toNatClampNeg ((((((48 : Int64) + (v3 - v3 / (10 : Int64) * (10 : Int64))).toInt32).toUInt32 % 65536).toInt32).toUInt32.toUInt16.toUInt32.toInt32) → ∀ x5 : Int32, x5 = v5 + (1 : Int32) → ∀ x6 : Int64, x6 = v3 / (10 : Int64) → (((lg_cmp x6 (0 : Int64)) ≤ (0 : Int32)) → (wc_ou_putWhole_71 post s4 x5)) ∧ ((¬ ((lg_cmp x6 (0 : Int64)) ≤ (0 : Int32))) → (((x5 < (20 : Int32)) → (wc_ou_putWhole_28 post n s4 x6 x5)) ∧ ((¬ (x5 < (20 : Int32))) → (wc_ou_putWhole_71 post s4 x5)))))
set_option maxRecDepth 20000 in
theorem kc_ou_putWhole_28 {E : gEnv} {l : Launch} {D : va_G} {G : gAd} {post : CS → Prop} (hE : gOK E cX3_putWhole RX3 none 2) (hm : cOK E l D G (pV post) 7) : ∀ (n : Nat) (σ : CS) (v3 : Int64) (v5 : Int32), wc_ou_putWhole_28 post n σ v3 v5 → GW E (cW G σ) 28 [(0, .ref (G.1 500)), (3, .long v3), (5, .int v5)] [] := by
  intro n
  induction n with
  | zero => intro σ v3 v5 h; exact h.elim
  | succ n ih =>
    intro σ v3 v5 h
    rw [wc_ou_putWhole_28] at h
    have hN := hm.2.2.2.2.2.2.1
    refine r_aload_n hE 0 dX3_putWhole_g1.2.2.1 rfl rfl ?_
    refine cg_ou_digits hE hm fk_X3_15 dX3_putWhole_g1.2.2.2.1 ?_
    refine r_iload hE 2 dX3_putWhole_g1.2.2.2.2.1 rfl ?_
    refine r_ldc2 (v := (48 : Int64)) hE dX3_putWhole_g1.2.2.2.2.2.1 (gTb_6 (List.mem_of_getElem? (i := 178) rfl) rfl) ?_
    refine r_lload_n hE 1 dX3_putWhole_g1.2.2.2.2.2.2.1 rfl rfl ?_
    refine r_ldc2 (v := (10 : Int64)) hE dX3_putWhole_g1.2.2.2.2.2.2.2.1 (gTb_6 (List.mem_of_getElem? (i := 179) rfl) rfl) ?_
    refine r_lrem hE dX3_putWhole_g1.2.2.2.2.2.2.2.2.1 (by decide) ?_
    refine r_ladd hE dX3_putWhole_g1.2.2.2.2.2.2.2.2.2.1 ?_
    refine r_l2i hE dX3_putWhole_g1.2.2.2.2.2.2.2.2.2.2.1 ?_
    refine r_i2c hE dX3_putWhole_g1.2.2.2.2.2.2.2.2.2.2.2.1 ?_
    obtain ⟨hi, h⟩ := h
    refine cs_ou_digits hE hm dX3_putWhole_g1.2.2.2.2.2.2.2.2.2.2.2.2.1 hi h (fun s4 h => ?_)
    obtain ⟨x5, ex5⟩ : ∃ z : Int32, z = v5 + (1 : Int32) := ⟨_, rfl⟩
    have h := h x5 ex5
    refine r_iinc (v := x5) hE [(5, .int x5), (0, .ref (G.1 500)), (3, .long v3)] 2 dX3_putWhole_g1.2.2.2.2.2.2.2.2.2.2.2.2.2.1 rfl (by rw [ex5]; rfl) hN (by decide) rfl ?_
    refine r_lload_n hE 2 dX3_putWhole_g1.2.2.2.2.2.2.2.2.2.2.2.2.2.2.1 rfl rfl ?_
    refine r_ldc2 (v := (10 : Int64)) hE dX3_putWhole_g1.2.2.2.2.2.2.2.2.2.2.2.2.2.2.2 (gTb_6 (List.mem_of_getElem? (i := 179) rfl) rfl) ?_
    refine r_ldiv hE dX3_putWhole_g2.1 (by decide) ?_
    refine r_topl h (fun x6 ex6 h => ?_)
    refine r_lstore_n hE [(3, .long x6), (5, .int x5), (0, .ref (G.1 500))] dX3_putWhole_g2.2.1 rfl hN (by decide) rfl ?_
    refine r_lload_n hE 0 dX3_putWhole_g2.2.2.1 rfl rfl ?_
    refine r_lconst (v := (0 : Int64)) hE dX3_putWhole_g2.2.2.2.1 (by decide) ?_
    refine r_lcmp hE dX3_putWhole_g2.2.2.2.2.1 ?_
    refine r_if_le hE 71 dX3_putWhole_g2.2.2.2.2.2.1 (by decide) h (fun h => ?_) (fun h => ?_)
    · refine r_pick [2, 1] rfl ?_
      exact kc_ou_putWhole_71 hE hm _ _ h
    · refine r_iload hE 1 dX3_putWhole_g2.2.2.2.2.2.2.1 rfl ?_
      refine r_aload_n hE 2 dX3_putWhole_g2.2.2.2.2.2.2.2.1 rfl rfl ?_
      refine cg_ou_digits hE hm fk_X3_15 dX3_putWhole_g2.2.2.2.2.2.2.2.2.1 ?_
      refine cn_ou_digits hE hm dX3_putWhole_g2.2.2.2.2.2.2.2.2.2.1 ?_
      refine r_icmp_lt hE 28 dX3_putWhole_g2.2.2.2.2.2.2.2.2.2.2.1 (by decide) h (fun h => ?_) (fun h => ?_)
      · refine r_pick [2, 0, 1] rfl ?_
        exact ih _ _ _ h
      · refine r_pick [2, 1] rfl ?_
        exact kc_ou_putWhole_71 hE hm _ _ h
def wc_ou_putWhole_24 (post : CS → Prop) (σ : CS) (t0 : Int64) : Prop := ∃ k : Nat, wc_ou_putWhole_28 post k σ t0 (0 : Int32)
set_option maxRecDepth 20000 in
theorem kc_ou_putWhole_24 {E : gEnv} {l : Launch} {D : va_G} {G : gAd} {post : CS → Prop} (hE : gOK E cX3_putWhole RX3 none 2) (hm : cOK E l D G (pV post) 7) (σ : CS) (t0 : Int64) (h : wc_ou_putWhole_24 post σ t0) : GW E (cW G σ) 24 [(0, .ref (G.1 500))] [.long t0] := by
  unfold wc_ou_putWhole_24 at h
  have hN := hm.2.2.2.2.2.2.1
  refine r_lstore_n hE [(3, .long t0), (0, .ref (G.1 500))] dX3_putWhole_g0.2.2.2.2.2.2.2.2.2.2.2.2.2.2.2 rfl hN (by decide) rfl ?_
  refine r_iconst (v := (0 : Int32)) hE dX3_putWhole_g1.1 (by decide) ?_
  refine r_istore hE [(5, .int (0 : Int32)), (3, .long t0), (0, .ref (G.1 500))] dX3_putWhole_g1.2.1 hN (by decide) rfl ?_
  refine r_pick [2, 1, 0] rfl ?_
  obtain ⟨k, h⟩ := h
  exact kc_ou_putWhole_28 hE hm k _ _ _ h
def wc_ou_putWhole_12 (post : CS → Prop) (σ : CS) (v1 : Int64) : Prop := (((0 : Int32) ≤ (lg_cmp v1 (0 : Int64))) → (wc_ou_putWhole_24 post σ v1)) ∧ ((¬ ((0 : Int32) ≤ (lg_cmp v1 (0 : Int64)))) → (wc_ou_putWhole_24 post σ (-v1)))
set_option maxRecDepth 20000 in
theorem kc_ou_putWhole_12 {E : gEnv} {l : Launch} {D : va_G} {G : gAd} {post : CS → Prop} (hE : gOK E cX3_putWhole RX3 none 2) (hm : cOK E l D G (pV post) 7) (σ : CS) (v1 : Int64) (h : wc_ou_putWhole_12 post σ v1) : GW E (cW G σ) 12 [(0, .ref (G.1 500)), (1, .long v1)] [] := by
  unfold wc_ou_putWhole_12 at h
  have hN := hm.2.2.2.2.2.2.1
  refine r_lload_n hE 1 dX3_putWhole_g0.2.2.2.2.2.2.2.1 rfl rfl ?_
  refine r_lconst (v := (0 : Int64)) hE dX3_putWhole_g0.2.2.2.2.2.2.2.2.1 (by decide) ?_
  refine r_lcmp hE dX3_putWhole_g0.2.2.2.2.2.2.2.2.2.1 ?_
  refine r_if_ge hE 23 dX3_putWhole_g0.2.2.2.2.2.2.2.2.2.2.1 (by decide) h (fun h => ?_) (fun h => ?_)
  · refine r_lload_n hE 1 dX3_putWhole_g0.2.2.2.2.2.2.2.2.2.2.2.2.2.2.1 rfl rfl ?_
    refine r_pick [0] rfl ?_
    exact kc_ou_putWhole_24 hE hm _ _ h
  · refine r_lload_n hE 1 dX3_putWhole_g0.2.2.2.2.2.2.2.2.2.2.2.1 rfl rfl ?_
    refine r_lneg hE dX3_putWhole_g0.2.2.2.2.2.2.2.2.2.2.2.2.1 ?_
    refine r_goto hE 24 dX3_putWhole_g0.2.2.2.2.2.2.2.2.2.2.2.2.2.1 (by decide) ?_
    refine r_pick [0] rfl ?_
    exact kc_ou_putWhole_24 hE hm _ _ h
def wc_ou_putWhole (post : CS → Prop) (σ : CS) (a1 : Int64) : Prop := (((0 : Int32) ≤ (lg_cmp a1 (0 : Int64))) → (wc_ou_putWhole_12 post σ a1)) ∧ ((¬ ((0 : Int32) ≤ (lg_cmp a1 (0 : Int64)))) → (wc_ou_put (fun (s7 : CS) => wc_ou_putWhole_12 post s7 a1) σ (45 : Int32)))
set_option maxRecDepth 20000 in
theorem kc_ou_putWhole {l : Launch} {D : va_G} {G : gAd} {post : CS → Prop} {σ : CS} {a1 : Int64} (h : wc_ou_putWhole post σ a1) : cMet l D G yX3_putWhole cX3_putWhole 7 none 2 [.ref (G.1 500), .long a1] σ (pV post) := by
  unfold wc_ou_putWhole at h
  refine c_enter (own := RX3) (by decide +kernel) rfl [(0, .ref (G.1 500)), (1, .long a1)] rfl (Nat.le_of_ble_eq_true rfl) ?_
  intro E hE hm
  have hN := hm.2.2.2.2.2.2.1
  refine r_lload_n hE 1 dX3_putWhole_g0.1 rfl rfl ?_
  refine r_lconst (v := (0 : Int64)) hE dX3_putWhole_g0.2.1 (by decide) ?_
  refine r_lcmp hE dX3_putWhole_g0.2.2.1 ?_
  refine r_if_ge hE 12 dX3_putWhole_g0.2.2.2.1 (by decide) h (fun h => ?_) (fun h => ?_)
  · exact kc_ou_putWhole_12 hE hm _ _ h
  · refine r_aload_n hE 0 dX3_putWhole_g0.2.2.2.2.1 rfl rfl ?_
    refine r_bipush (v := (45 : Int32)) hE dX3_putWhole_g0.2.2.2.2.2.1 (by decide) ?_
    refine c_callVv hE hm [.int (45 : Int32)] [] ck_X3_36 (cr_ou hm rfl) (kc_ou_put h) (by decide) rfl rfl (Nat.le_of_ble_eq_true rfl) dX3_putWhole_g0.2.2.2.2.2.2.1 (fun s7 h => ?_)
    exact kc_ou_putWhole_12 hE hm _ _ h
/-! ou_putFraction -/
def wc_ou_putFraction (post : CS → Prop) (σ : CS) (a1 : Int64) : Prop := wc_SX6_top (fun (s1 : CS) (r2 : Int64) => wc_ou_putWhole (fun (s3 : CS) => wc_SX6_bottom (fun (s4 : CS) (r5 : Int64) => (((lg_cmp r5 (1 : Int64)) = (0 : Int32)) → (post s4)) ∧ ((¬ ((lg_cmp r5 (1 : Int64)) = (0 : Int32))) → (wc_ou_put (fun (s6 : CS) => wc_SX6_bottom (fun (s7 : CS) (r8 : Int64) => wc_ou_putWhole (fun (s9 : CS) => post s9) s7 r8) s6 a1) s4 (47 : Int32)))) s3 a1) s1 r2) σ a1
set_option maxRecDepth 20000 in
theorem kc_ou_putFraction {l : Launch} {D : va_G} {G : gAd} {post : CS → Prop} {σ : CS} {a1 : Int64} (h : wc_ou_putFraction post σ a1) : cMet l D G yX3_putFraction cX3_putFraction 3 none 3 [.ref (G.1 500), .long a1] σ (pV post) := by
  unfold wc_ou_putFraction at h
  refine c_enter (own := RX3) (by decide +kernel) rfl [(0, .ref (G.1 500)), (1, .long a1)] rfl (Nat.le_of_ble_eq_true rfl) ?_
  intro E hE hm
  have hN := hm.2.2.2.2.2.2.1
  refine r_aload_n hE 0 dX3_putFraction_g0.1 rfl rfl ?_
  refine r_lload_n hE 1 dX3_putFraction_g0.2.1 rfl rfl ?_
  refine c_callSl hE hm [.long a1] [.ref (G.1 500)] ck_X3_40 (kc_SX6_top h) (by decide) rfl rfl (Nat.le_of_ble_eq_true rfl) dX3_putFraction_g0.2.2.1 (fun s1 r2 h => ?_)
  refine c_callVv hE hm [.long r2] [] ck_X3_46 (cr_ou hm rfl) (kc_ou_putWhole h) (by decide) rfl rfl (Nat.le_of_ble_eq_true rfl) dX3_putFraction_g0.2.2.2.1 (fun s3 h => ?_)
  refine r_lload_n hE 1 dX3_putFraction_g0.2.2.2.2.1 rfl rfl ?_
  refine c_callSl hE hm [.long a1] [] ck_X3_50 (kc_SX6_bottom h) (by decide) rfl rfl (Nat.le_of_ble_eq_true rfl) dX3_putFraction_g0.2.2.2.2.2.1 (fun s4 r5 h => ?_)
  refine r_lconst (v := (1 : Int64)) hE dX3_putFraction_g0.2.2.2.2.2.2.1 (by decide) ?_
  refine r_lcmp hE dX3_putFraction_g0.2.2.2.2.2.2.2.1 ?_
  refine r_if_eq hE 31 dX3_putFraction_g0.2.2.2.2.2.2.2.2.1 (by decide) h (fun h => ?_) (fun h => ?_)
  · exact c_vret hE hm dX3_putFraction_g1 h
  · refine r_aload_n hE 0 dX3_putFraction_g0.2.2.2.2.2.2.2.2.2.1 rfl rfl ?_
    refine r_bipush (v := (47 : Int32)) hE dX3_putFraction_g0.2.2.2.2.2.2.2.2.2.2.1 (by decide) ?_
    refine c_callVv hE hm [.int (47 : Int32)] [] ck_X3_36 (cr_ou hm rfl) (kc_ou_put h) (by decide) rfl rfl (Nat.le_of_ble_eq_true rfl) dX3_putFraction_g0.2.2.2.2.2.2.2.2.2.2.2.1 (fun s6 h => ?_)
    refine r_aload_n hE 0 dX3_putFraction_g0.2.2.2.2.2.2.2.2.2.2.2.2.1 rfl rfl ?_
    refine r_lload_n hE 1 dX3_putFraction_g0.2.2.2.2.2.2.2.2.2.2.2.2.2.1 rfl rfl ?_
    refine c_callSl hE hm [.long a1] [.ref (G.1 500)] ck_X3_50 (kc_SX6_bottom h) (by decide) rfl rfl (Nat.le_of_ble_eq_true rfl) dX3_putFraction_g0.2.2.2.2.2.2.2.2.2.2.2.2.2.2.1 (fun s7 r8 h => ?_)
    refine c_callVv hE hm [.long r8] [] ck_X3_46 (cr_ou hm rfl) (kc_ou_putWhole h) (by decide) rfl rfl (Nat.le_of_ble_eq_true rfl) dX3_putFraction_g0.2.2.2.2.2.2.2.2.2.2.2.2.2.2.2 (fun s9 h => ?_)
    exact c_vret hE hm dX3_putFraction_g1 h
/-! rd_noteFault -/
def wc_rd_noteFault (post : CS → Prop) (σ : CS) (a1 : Int32) (a2 : Int32) : Prop := ((¬ ((c_rd_fault σ) = (0 : Int32))) → (post σ)) ∧ (((c_rd_fault σ) = (0 : Int32)) → (∀ s1 : CS, s1 = c_rd_fault_s σ a1 → ∀ s2 : CS, s2 = c_rd_faultAt_s s1 a2 → ∀ s3 : CS, s3 = c_rd_kind_s s2 (0 : Int32) → post s3))
set_option maxRecDepth 20000 in
theorem kc_rd_noteFault {l : Launch} {D : va_G} {G : gAd} {post : CS → Prop} {σ : CS} {a1 : Int32} {a2 : Int32} (h : wc_rd_noteFault post σ a1 a2) : cMet l D G yX5_noteFault cX5_noteFault 3 none 1 [.ref (G.1 600), .int a1, .int a2] σ (pV post) := by
  unfold wc_rd_noteFault at h
  refine c_enter (own := RX5) (by decide +kernel) rfl [(0, .ref (G.1 600)), (1, .int a1), (2, .int a2)] rfl (Nat.le_of_ble_eq_true rfl) ?_
  intro E hE hm
  have hN := hm.2.2.2.2.2.2.1
  refine r_aload_n hE 0 dX5_noteFault_g0.1 rfl rfl ?_
  refine cg_rd_fault hE hm fk_X5_30 dX5_noteFault_g0.2.1 ?_
  refine r_if_ne hE 22 dX5_noteFault_g0.2.2.1 (by decide) h (fun h => ?_) (fun h => ?_)
  · exact c_vret hE hm dX5_noteFault_g0.2.2.2.2.2.2.2.2.2.2.2.2 h
  · refine r_aload_n hE 0 dX5_noteFault_g0.2.2.2.1 rfl rfl ?_
    refine r_iload_n hE 1 dX5_noteFault_g0.2.2.2.2.1 rfl rfl ?_
    refine cp_rd_fault hE hm fk_X5_30 dX5_noteFault_g0.2.2.2.2.2.1 h (fun s1 h => ?_)
    refine r_aload_n hE 0 dX5_noteFault_g0.2.2.2.2.2.2.1 rfl rfl ?_
    refine r_iload_n hE 2 dX5_noteFault_g0.2.2.2.2.2.2.2.1 rfl rfl ?_
    refine cp_rd_faultAt hE hm fk_X5_33 dX5_noteFault_g0.2.2.2.2.2.2.2.2.1 h (fun s2 h => ?_)
    refine r_aload_n hE 0 dX5_noteFault_g0.2.2.2.2.2.2.2.2.2.1 rfl rfl ?_
    refine r_iconst (v := (0 : Int32)) hE dX5_noteFault_g0.2.2.2.2.2.2.2.2.2.2.1 (by decide) ?_
    refine cp_rd_kind hE hm fk_X5_18 dX5_noteFault_g0.2.2.2.2.2.2.2.2.2.2.2.1 h (fun s3 h => ?_)
    exact c_vret hE hm dX5_noteFault_g0.2.2.2.2.2.2.2.2.2.2.2.2 h
/-! rd_misplaced -/
def wc_rd_misplaced (post : CS → Int32 → Prop) (σ : CS) : Prop := ((¬ ((c_rd_kind σ) = (1 : Int32))) → (post σ (2 : Int32))) ∧ (((c_rd_kind σ) = (1 : Int32)) → (post σ (1 : Int32)))
set_option maxRecDepth 20000 in
theorem kc_rd_misplaced {l : Launch} {D : va_G} {G : gAd} {post : CS → Int32 → Prop} {σ : CS} (h : wc_rd_misplaced post σ) : cMet l D G yX5_misplaced cX5_misplaced 1 (some .int) 1 [.ref (G.1 600)] σ (pI post) := by
  unfold wc_rd_misplaced at h
  refine c_enter (own := RX5) (by decide +kernel) rfl [(0, .ref (G.1 600))] rfl (Nat.le_of_ble_eq_true rfl) ?_
  intro E hE hm
  have hN := hm.2.2.2.2.2.2.1
  refine r_aload_n hE 0 dX5_misplaced_g0.1 rfl rfl ?_
  refine cg_rd_kind hE hm fk_X5_18 dX5_misplaced_g0.2.1 ?_
  refine r_iconst (v := (1 : Int32)) hE dX5_misplaced_g0.2.2.1 (by decide) ?_
  refine r_icmp_ne hE 12 dX5_misplaced_g0.2.2.2.1 (by decide) h (fun h => ?_) (fun h => ?_)
  · refine r_iconst (v := (2 : Int32)) hE dX5_misplaced_g0.2.2.2.2.2.2.1 (by decide) ?_
    exact c_iret hE hm dX5_misplaced_g0.2.2.2.2.2.2.2 h
  · refine r_iconst (v := (1 : Int32)) hE dX5_misplaced_g0.2.2.2.2.1 (by decide) ?_
    refine r_goto hE 13 dX5_misplaced_g0.2.2.2.2.2.1 (by decide) ?_
    exact c_iret hE hm dX5_misplaced_g0.2.2.2.2.2.2.2 h
/-! rd_isSign -/
def wc_rd_isSign (post : CS → Int32 → Prop) (σ : CS) (a1 : Int32) : Prop := ((¬ ((c_rd_kind σ) = (4 : Int32))) → (post σ (0 : Int32))) ∧ (((c_rd_kind σ) = (4 : Int32)) → (((¬ ((c_rd_sign σ) = a1)) → (post σ (0 : Int32))) ∧ (((c_rd_sign σ) = a1) → (post σ (1 : Int32)))))
set_option maxRecDepth 20000 in
theorem kc_rd_isSign {l : Launch} {D : va_G} {G : gAd} {post : CS → Int32 → Prop} {σ : CS} {a1 : Int32} (h : wc_rd_isSign post σ a1) : cMet l D G yX5_isSign cX5_isSign 2 (some .boolean) 1 [.ref (G.1 600), .int a1] σ (pI post) := by
  unfold wc_rd_isSign at h
  refine c_enter (own := RX5) (by decide +kernel) rfl [(0, .ref (G.1 600)), (1, .int a1)] rfl (Nat.le_of_ble_eq_true rfl) ?_
  intro E hE hm
  have hN := hm.2.2.2.2.2.2.1
  refine r_aload_n hE 0 dX5_isSign_g0.1 rfl rfl ?_
  refine cg_rd_kind hE hm fk_X5_18 dX5_isSign_g0.2.1 ?_
  refine r_iconst (v := (4 : Int32)) hE dX5_isSign_g0.2.2.1 (by decide) ?_
  refine r_icmp_ne hE 20 dX5_isSign_g0.2.2.2.1 (by decide) h (fun h => ?_) (fun h => ?_)
  · refine r_iconst (v := (0 : Int32)) hE dX5_isSign_g0.2.2.2.2.2.2.2.2.2.2.1 (by decide) ?_
    exact c_zret hE hm dX5_isSign_g0.2.2.2.2.2.2.2.2.2.2.2 (Or.inl rfl) h
  · refine r_aload_n hE 0 dX5_isSign_g0.2.2.2.2.1 rfl rfl ?_
    refine cg_rd_sign hE hm fk_X5_21 dX5_isSign_g0.2.2.2.2.2.1 ?_
    refine r_iload_n hE 1 dX5_isSign_g0.2.2.2.2.2.2.1 rfl rfl ?_
    refine r_icmp_ne hE 20 dX5_isSign_g0.2.2.2.2.2.2.2.1 (by decide) h (fun h => ?_) (fun h => ?_)
    · refine r_iconst (v := (0 : Int32)) hE dX5_isSign_g0.2.2.2.2.2.2.2.2.2.2.1 (by decide) ?_
      exact c_zret hE hm dX5_isSign_g0.2.2.2.2.2.2.2.2.2.2.2 (Or.inl rfl) h
    · refine r_iconst (v := (1 : Int32)) hE dX5_isSign_g0.2.2.2.2.2.2.2.2.1 (by decide) ?_
      refine r_goto hE 21 dX5_isSign_g0.2.2.2.2.2.2.2.2.2.1 (by decide) ?_
      exact c_zret hE hm dX5_isSign_g0.2.2.2.2.2.2.2.2.2.2.2 (Or.inr rfl) h
/-! rd_newNode -/
def wc_rd_newNode (post : CS → Int32 → Prop) (σ : CS) (a1 : Int32) (a2 : Int32) : Prop := (((c_rd_fault σ) = (0 : Int32)) → (c_rd_figure σ = 400 ∧ (wc_sp_add (fun (s1 : CS) (r2 : Int32) => ((¬ (r2 = (-1 : Int32))) → (post s1 r2)) ∧ ((r2 = (-1 : Int32)) → (wc_rd_noteFault (fun (s3 : CS) => post s3 r2) s1 (3 : Int32) (c_rd_at s1)))) σ a1 (c_rd_at σ) a2))) ∧ ((¬ ((c_rd_fault σ) = (0 : Int32))) → (post σ (-1 : Int32)))
set_option maxRecDepth 20000 in
theorem kc_rd_newNode {l : Launch} {D : va_G} {G : gAd} {post : CS → Int32 → Prop} {σ : CS} {a1 : Int32} {a2 : Int32} (h : wc_rd_newNode post σ a1 a2) : cMet l D G yX5_newNode cX5_newNode 4 (some .int) 3 [.ref (G.1 600), .int a1, .int a2] σ (pI post) := by
  unfold wc_rd_newNode at h
  refine c_enter (own := RX5) (by decide +kernel) rfl [(0, .ref (G.1 600)), (1, .int a1), (2, .int a2)] rfl (Nat.le_of_ble_eq_true rfl) ?_
  intro E hE hm
  have hN := hm.2.2.2.2.2.2.1
  refine r_aload_n hE 0 dX5_newNode_g0.1 rfl rfl ?_
  refine cg_rd_fault hE hm fk_X5_30 dX5_newNode_g0.2.1 ?_
  refine r_if_eq hE 9 dX5_newNode_g0.2.2.1 (by decide) h (fun h => ?_) (fun h => ?_)
  · refine r_aload_n hE 0 dX5_newNode_g0.2.2.2.2.2.1 rfl rfl ?_
    obtain ⟨hj, h⟩ := h
    refine cg_rd_figure hE hm fk_X5_36 dX5_newNode_g0.2.2.2.2.2.2.1 hj ?_
    refine r_iload_n hE 1 dX5_newNode_g0.2.2.2.2.2.2.2.1 rfl rfl ?_
    refine r_aload_n hE 0 dX5_newNode_g0.2.2.2.2.2.2.2.2.1 rfl rfl ?_
    refine cg_rd_at hE hm fk_X5_9 dX5_newNode_g0.2.2.2.2.2.2.2.2.2.1 ?_
    refine r_iload_n hE 2 dX5_newNode_g0.2.2.2.2.2.2.2.2.2.2.1 rfl rfl ?_
    refine c_callVi hE hm [.int a1, .int (c_rd_at σ), .int a2] [] ck_X5_104 (cr_sp hm rfl) (kc_sp_add h) (by decide) rfl rfl (Nat.le_of_ble_eq_true rfl) dX5_newNode_g0.2.2.2.2.2.2.2.2.2.2.2.1 (fun s1 r2 h => ?_)
    refine r_istore_n hE [(3, .int r2), (0, .ref (G.1 600)), (1, .int a1), (2, .int a2)] dX5_newNode_g0.2.2.2.2.2.2.2.2.2.2.2.2.1 rfl hN (by decide) rfl ?_
    refine r_iload_n hE 0 dX5_newNode_g0.2.2.2.2.2.2.2.2.2.2.2.2.2.1 rfl rfl ?_
    refine r_iconst (v := (-1 : Int32)) hE dX5_newNode_g0.2.2.2.2.2.2.2.2.2.2.2.2.2.2.1 (by decide) ?_
    refine r_icmp_ne hE 37 dX5_newNode_g0.2.2.2.2.2.2.2.2.2.2.2.2.2.2.2 (by decide) h (fun h => ?_) (fun h => ?_)
    · refine r_iload_n hE 0 dX5_newNode_g1.2.2.2.2.2.1 rfl rfl ?_
      exact c_iret hE hm dX5_newNode_g1.2.2.2.2.2.2 h
    · refine r_aload_n hE 1 dX5_newNode_g1.1 rfl rfl ?_
      refine r_iconst (v := (3 : Int32)) hE dX5_newNode_g1.2.1 (by decide) ?_
      refine r_aload_n hE 1 dX5_newNode_g1.2.2.1 rfl rfl ?_
      refine cg_rd_at hE hm fk_X5_9 dX5_newNode_g1.2.2.2.1 ?_
      refine c_callVv hE hm [.int (3 : Int32), .int (c_rd_at s1)] [] ck_X5_71 (cr_rd hm rfl) (kc_rd_noteFault h) (by decide) rfl rfl (Nat.le_of_ble_eq_true rfl) dX5_newNode_g1.2.2.2.2.1 (fun s3 h => ?_)
      refine r_iload_n hE 0 dX5_newNode_g1.2.2.2.2.2.1 rfl rfl ?_
      exact c_iret hE hm dX5_newNode_g1.2.2.2.2.2.2 h
  · refine r_iconst (v := (-1 : Int32)) hE dX5_newNode_g0.2.2.2.1 (by decide) ?_
    exact c_iret hE hm dX5_newNode_g0.2.2.2.2.1 h
/-! rd_digitsValue -/
def wc_rd_digitsValue_7 (post : CS → Int32 → Prop) : Nat → CS → Int32 → Int32 → Prop
  | 0, _, _, _ => False
  | n + 1, σ, v1, v2 => (((c_rd_end σ) ≤ v2) → (post σ v1)) ∧ ((¬ ((c_rd_end σ) ≤ v2)) → ((((9 : Int32) ≤ (v2 - (c_rd_at σ))) → (post σ v1)) ∧ ((¬ ((9 : Int32) ≤ (v2 - (c_rd_at σ)))) → (c_rd_figure σ = 400 ∧ (wc_sp_byteAt (fun (s1 : CS) (r2 : Int32) => ∀ x3 : Int32, x3 = (v1 * (10 : Int32)) + (r2 - (48 : Int32)) → ∀ x4 : Int32, x4 = v2 + (1 : Int32) → wc_rd_digitsValue_7 post n s1 x3 x4) σ v2)))))
set_option maxRecDepth 20000 in
theorem kc_rd_digitsValue_7 {E : gEnv} {l : Launch} {D : va_G} {G : gAd} {post : CS → Int32 → Prop} (hE : gOK E cX5_digitsValue RX5 (some .int) 2) (hm : cOK E l D G (pI post) 3) : ∀ (n : Nat) (σ : CS) (v1 : Int32) (v2 : Int32), wc_rd_digitsValue_7 post n σ v1 v2 → GW E (cW G σ) 7 [(0, .ref (G.1 600)), (1, .int v1), (2, .int v2)] [] := by
  intro n
  induction n with
  | zero => intro σ v1 v2 h; exact h.elim
  | succ n ih =>
    intro σ v1 v2 h
    rw [wc_rd_digitsValue_7] at h
    have hN := hm.2.2.2.2.2.2.1
    refine r_iload_n hE 2 dX5_digitsValue_g0.2.2.2.2.2.1 rfl rfl ?_
    refine r_aload_n hE 0 dX5_digitsValue_g0.2.2.2.2.2.2.1 rfl rfl ?_
    refine cg_rd_end hE hm fk_X5_15 dX5_digitsValue_g0.2.2.2.2.2.2.2.1 ?_
    refine r_icmp_ge hE 49 dX5_digitsValue_g0.2.2.2.2.2.2.2.2.1 (by decide) h (fun h => ?_) (fun h => ?_)
    · refine r_iload_n hE 1 dX5_digitsValue_g1.2.2.2.2.2.2.2.2.2.2.2.2.1 rfl rfl ?_
      exact c_iret hE hm dX5_digitsValue_g1.2.2.2.2.2.2.2.2.2.2.2.2.2 h
    · refine r_iload_n hE 2 dX5_digitsValue_g0.2.2.2.2.2.2.2.2.2.1 rfl rfl ?_
      refine r_aload_n hE 0 dX5_digitsValue_g0.2.2.2.2.2.2.2.2.2.2.1 rfl rfl ?_
      refine cg_rd_at hE hm fk_X5_9 dX5_digitsValue_g0.2.2.2.2.2.2.2.2.2.2.2.1 ?_
      refine r_isub hE dX5_digitsValue_g0.2.2.2.2.2.2.2.2.2.2.2.2.1 ?_
      refine r_bipush (v := (9 : Int32)) hE dX5_digitsValue_g0.2.2.2.2.2.2.2.2.2.2.2.2.2.1 (by decide) ?_
      refine r_icmp_ge hE 49 dX5_digitsValue_g0.2.2.2.2.2.2.2.2.2.2.2.2.2.2.1 (by decide) h (fun h => ?_) (fun h => ?_)
      · refine r_iload_n hE 1 dX5_digitsValue_g1.2.2.2.2.2.2.2.2.2.2.2.2.1 rfl rfl ?_
        exact c_iret hE hm dX5_digitsValue_g1.2.2.2.2.2.2.2.2.2.2.2.2.2 h
      · refine r_iload_n hE 1 dX5_digitsValue_g0.2.2.2.2.2.2.2.2.2.2.2.2.2.2.2 rfl rfl ?_
        refine r_bipush (v := (10 : Int32)) hE dX5_digitsValue_g1.1 (by decide) ?_
        refine r_imul hE dX5_digitsValue_g1.2.1 ?_
        refine r_aload_n hE 0 dX5_digitsValue_g1.2.2.1 rfl rfl ?_
        obtain ⟨hj, h⟩ := h
        refine cg_rd_figure hE hm fk_X5_36 dX5_digitsValue_g1.2.2.2.1 hj ?_
        refine r_iload_n hE 2 dX5_digitsValue_g1.2.2.2.2.1 rfl rfl ?_
        refine c_callVi hE hm [.int v2] [.int (v1 * (10 : Int32))] ck_X5_74 (cr_sp hm rfl) (kc_sp_byteAt h) (by decide) rfl rfl (Nat.le_of_ble_eq_true rfl) dX5_digitsValue_g1.2.2.2.2.2.1 (fun s1 r2 h => ?_)
        refine r_bipush (v := (48 : Int32)) hE dX5_digitsValue_g1.2.2.2.2.2.2.1 (by decide) ?_
        refine r_isub hE dX5_digitsValue_g1.2.2.2.2.2.2.2.1 ?_
        refine r_iadd hE dX5_digitsValue_g1.2.2.2.2.2.2.2.2.1 ?_
        refine r_topi h (fun x3 ex3 h => ?_)
        refine r_istore_n hE [(1, .int x3), (0, .ref (G.1 600)), (2, .int v2)] dX5_digitsValue_g1.2.2.2.2.2.2.2.2.2.1 rfl hN (by decide) rfl ?_
        obtain ⟨x4, ex4⟩ : ∃ z : Int32, z = v2 + (1 : Int32) := ⟨_, rfl⟩
        have h := h x4 ex4
        refine r_iinc (v := x4) hE [(2, .int x4), (1, .int x3), (0, .ref (G.1 600))] 2 dX5_digitsValue_g1.2.2.2.2.2.2.2.2.2.2.1 rfl (by rw [ex4]; rfl) hN (by decide) rfl ?_
        refine r_goto hE 7 dX5_digitsValue_g1.2.2.2.2.2.2.2.2.2.2.2.1 (by decide) ?_
        refine r_pick [2, 1, 0] rfl ?_
        exact ih _ _ _ h
def wc_rd_digitsValue (post : CS → Int32 → Prop) (σ : CS) : Prop := ∀ x5 : Int32, x5 = c_rd_at σ → ∃ k : Nat, wc_rd_digitsValue_7 post k σ (0 : Int32) x5
set_option maxRecDepth 20000 in
theorem kc_rd_digitsValue {l : Launch} {D : va_G} {G : gAd} {post : CS → Int32 → Prop} {σ : CS} (h : wc_rd_digitsValue post σ) : cMet l D G yX5_digitsValue cX5_digitsValue 3 (some .int) 2 [.ref (G.1 600)] σ (pI post) := by
  unfold wc_rd_digitsValue at h
  refine c_enter (own := RX5) (by decide +kernel) rfl [(0, .ref (G.1 600))] rfl (Nat.le_of_ble_eq_true rfl) ?_
  intro E hE hm
  have hN := hm.2.2.2.2.2.2.1
  refine r_iconst (v := (0 : Int32)) hE dX5_digitsValue_g0.1 (by decide) ?_
  refine r_istore_n hE [(1, .int (0 : Int32)), (0, .ref (G.1 600))] dX5_digitsValue_g0.2.1 rfl hN (by decide) rfl ?_
  refine r_aload_n hE 1 dX5_digitsValue_g0.2.2.1 rfl rfl ?_
  refine cg_rd_at hE hm fk_X5_9 dX5_digitsValue_g0.2.2.2.1 ?_
  refine r_topi h (fun x5 ex5 h => ?_)
  refine r_istore_n hE [(2, .int x5), (1, .int (0 : Int32)), (0, .ref (G.1 600))] dX5_digitsValue_g0.2.2.2.2.1 rfl hN (by decide) rfl ?_
  refine r_pick [2, 1, 0] rfl ?_
  obtain ⟨k, h⟩ := h
  exact kc_rd_digitsValue_7 hE hm k _ _ _ h
/-! pr_putWord -/
def wc_pr_putWord_2 (post : CS → Prop) : Nat → CS → Int32 → Int32 → Prop
  | 0, _, _, _ => False
  | n + 1, σ, v1, v2 => (((v1 + (10 : Int32)) ≤ v2) → (post σ)) ∧ ((¬ ((v1 + (10 : Int32)) ≤ v2)) → (c_pr_figure σ = 300 ∧ (wc_fg_letterAt (fun (s1 : CS) (r2 : Int32) => ((r2 = (0 : Int32)) → (post s1)) ∧ ((¬ (r2 = (0 : Int32))) → (c_pr_figure s1 = 300 ∧ (wc_fg_letterAt (fun (s3 : CS) (r4 : Int32) => wc_ou_put (fun (s5 : CS) => ∀ x6 : Int32, x6 = v2 + (1 : Int32) → wc_pr_putWord_2 post n s5 v1 x6) s3 ((r4.toUInt32 % 65536).toInt32)) s1 v2)))) σ v2)))
set_option maxRecDepth 20000 in
theorem kc_pr_putWord_2 {E : gEnv} {l : Launch} {D : va_G} {G : gAd} {post : CS → Prop} (hE : gOK E cX4_putWord RX4 none 2) (hm : cOK E l D G (pV post) 3) : ∀ (n : Nat) (σ : CS) (v1 : Int32) (v2 : Int32), wc_pr_putWord_2 post n σ v1 v2 → GW E (cW G σ) 2 [(0, .ref (G.1 700)), (1, .int v1), (2, .int v2)] [] := by
  intro n
  induction n with
  | zero => intro σ v1 v2 h; exact h.elim
  | succ n ih =>
    intro σ v1 v2 h
    rw [wc_pr_putWord_2] at h
    have hN := hm.2.2.2.2.2.2.1
    refine r_iload_n hE 2 dX4_putWord_g0.2.2.1 rfl rfl ?_
    refine r_iload_n hE 1 dX4_putWord_g0.2.2.2.1 rfl rfl ?_
    refine r_bipush (v := (10 : Int32)) hE dX4_putWord_g0.2.2.2.2.1 (by decide) ?_
    refine r_iadd hE dX4_putWord_g0.2.2.2.2.2.1 ?_
    refine r_icmp_ge hE 43 dX4_putWord_g0.2.2.2.2.2.2.1 (by decide) h (fun h => ?_) (fun h => ?_)
    · exact c_vret hE hm dX4_putWord_g1.2.2.2.2.2.2 h
    · refine r_aload_n hE 0 dX4_putWord_g0.2.2.2.2.2.2.2.1 rfl rfl ?_
      obtain ⟨hj, h⟩ := h
      refine cg_pr_figure hE hm fk_X4_26 dX4_putWord_g0.2.2.2.2.2.2.2.2.1 hj ?_
      refine r_iload_n hE 2 dX4_putWord_g0.2.2.2.2.2.2.2.2.2.1 rfl rfl ?_
      refine c_callVi hE hm [.int v2] [] ck_X4_88 (cr_fg hm rfl) (kc_fg_letterAt h) (by decide) rfl rfl (Nat.le_of_ble_eq_true rfl) dX4_putWord_g0.2.2.2.2.2.2.2.2.2.2.1 (fun s1 r2 h => ?_)
      refine r_if_eq hE 43 dX4_putWord_g0.2.2.2.2.2.2.2.2.2.2.2.1 (by decide) h (fun h => ?_) (fun h => ?_)
      · exact c_vret hE hm dX4_putWord_g1.2.2.2.2.2.2 h
      · refine r_aload_n hE 0 dX4_putWord_g0.2.2.2.2.2.2.2.2.2.2.2.2.1 rfl rfl ?_
        refine cg_pr_out hE hm fk_X4_30 dX4_putWord_g0.2.2.2.2.2.2.2.2.2.2.2.2.2.1 ?_
        refine r_aload_n hE 0 dX4_putWord_g0.2.2.2.2.2.2.2.2.2.2.2.2.2.2.1 rfl rfl ?_
        obtain ⟨hj, h⟩ := h
        refine cg_pr_figure hE hm fk_X4_26 dX4_putWord_g0.2.2.2.2.2.2.2.2.2.2.2.2.2.2.2 hj ?_
        refine r_iload_n hE 2 dX4_putWord_g1.1 rfl rfl ?_
        refine c_callVi hE hm [.int v2] [.ref (G.1 500)] ck_X4_88 (cr_fg hm rfl) (kc_fg_letterAt h) (by decide) rfl rfl (Nat.le_of_ble_eq_true rfl) dX4_putWord_g1.2.1 (fun s3 r4 h => ?_)
        refine r_i2c hE dX4_putWord_g1.2.2.1 ?_
        refine c_callVv hE hm [.int ((r4.toUInt32 % 65536).toInt32)] [] ck_X4_73 (cr_ou hm rfl) (kc_ou_put h) (by decide) rfl rfl (Nat.le_of_ble_eq_true rfl) dX4_putWord_g1.2.2.2.1 (fun s5 h => ?_)
        obtain ⟨x6, ex6⟩ : ∃ z : Int32, z = v2 + (1 : Int32) := ⟨_, rfl⟩
        have h := h x6 ex6
        refine r_iinc (v := x6) hE [(2, .int x6), (0, .ref (G.1 700)), (1, .int v1)] 2 dX4_putWord_g1.2.2.2.2.1 rfl (by rw [ex6]; rfl) hN (by decide) rfl ?_
        refine r_goto hE 2 dX4_putWord_g1.2.2.2.2.2.1 (by decide) ?_
        refine r_pick [1, 2, 0] rfl ?_
        exact ih _ _ _ h
def wc_pr_putWord (post : CS → Prop) (σ : CS) (a1 : Int32) : Prop := ∃ k : Nat, wc_pr_putWord_2 post k σ a1 a1
set_option maxRecDepth 20000 in
theorem kc_pr_putWord {l : Launch} {D : va_G} {G : gAd} {post : CS → Prop} {σ : CS} {a1 : Int32} (h : wc_pr_putWord post σ a1) : cMet l D G yX4_putWord cX4_putWord 3 none 2 [.ref (G.1 700), .int a1] σ (pV post) := by
  unfold wc_pr_putWord at h
  refine c_enter (own := RX4) (by decide +kernel) rfl [(0, .ref (G.1 700)), (1, .int a1)] rfl (Nat.le_of_ble_eq_true rfl) ?_
  intro E hE hm
  have hN := hm.2.2.2.2.2.2.1
  refine r_iload_n hE 1 dX4_putWord_g0.1 rfl rfl ?_
  refine r_istore_n hE [(2, .int a1), (0, .ref (G.1 700)), (1, .int a1)] dX4_putWord_g0.2.1 rfl hN (by decide) rfl ?_
  refine r_pick [1, 2, 0] rfl ?_
  obtain ⟨k, h⟩ := h
  exact kc_pr_putWord_2 hE hm k _ _ _ h
/-! pr_levelOf -/
def wc_pr_levelOf (post : CS → Int32 → Prop) (σ : CS) (a1 : Int32) : Prop := c_pr_figure σ = 300 ∧ (wc_fg_typeOf (fun (s1 : CS) (r2 : Int32) => ((r2 = (13 : Int32)) → (c_pr_figure s1 = 300 ∧ (wc_fg_dataOf (fun (s3 : CS) (r4 : Int32) => (r4 = (42 : Int32) → (post s3 (3 : Int32))) ∧ (¬ r4 = (42 : Int32) → ((r4 = (43 : Int32) → (post s3 (2 : Int32))) ∧ (¬ r4 = (43 : Int32) → ((r4 = (44 : Int32) → (post s3 (1 : Int32))) ∧ (¬ r4 = (44 : Int32) → ((r4 = (45 : Int32) → (post s3 (2 : Int32))) ∧ (¬ r4 = (45 : Int32) → ((r4 = (46 : Int32) → (post s3 (1 : Int32))) ∧ (¬ r4 = (46 : Int32) → ((r4 = (47 : Int32) → (post s3 (3 : Int32))) ∧ (¬ r4 = (47 : Int32) → (post s3 (1 : Int32)))))))))))))) s1 a1))) ∧ ((¬ (r2 = (13 : Int32))) → (post s1 (4 : Int32)))) σ a1)
set_option maxRecDepth 20000 in
theorem kc_pr_levelOf {l : Launch} {D : va_G} {G : gAd} {post : CS → Int32 → Prop} {σ : CS} {a1 : Int32} (h : wc_pr_levelOf post σ a1) : cMet l D G yX4_levelOf cX4_levelOf 2 (some .int) 2 [.ref (G.1 700), .int a1] σ (pI post) := by
  unfold wc_pr_levelOf at h
  refine c_enter (own := RX4) (by decide +kernel) rfl [(0, .ref (G.1 700)), (1, .int a1)] rfl (Nat.le_of_ble_eq_true rfl) ?_
  intro E hE hm
  have hN := hm.2.2.2.2.2.2.1
  refine r_aload_n hE 0 dX4_levelOf_g0.1 rfl rfl ?_
  obtain ⟨hj, h⟩ := h
  refine cg_pr_figure hE hm fk_X4_26 dX4_levelOf_g0.2.1 hj ?_
  refine r_iload_n hE 1 dX4_levelOf_g0.2.2.1 rfl rfl ?_
  refine c_callVi hE hm [.int a1] [] ck_X4_102 (cr_fg hm rfl) (kc_fg_typeOf h) (by decide) rfl rfl (Nat.le_of_ble_eq_true rfl) dX4_levelOf_g0.2.2.2.1 (fun s1 r2 h => ?_)
  refine r_bipush (v := (13 : Int32)) hE dX4_levelOf_g0.2.2.2.2.1 (by decide) ?_
  refine r_icmp_eq hE 15 dX4_levelOf_g0.2.2.2.2.2.1 (by decide) h (fun h => ?_) (fun h => ?_)
  · refine r_aload_n hE 0 dX4_levelOf_g0.2.2.2.2.2.2.2.2.1 rfl rfl ?_
    obtain ⟨hj, h⟩ := h
    refine cg_pr_figure hE hm fk_X4_26 dX4_levelOf_g0.2.2.2.2.2.2.2.2.2.1 hj ?_
    refine r_iload_n hE 1 dX4_levelOf_g0.2.2.2.2.2.2.2.2.2.2.1 rfl rfl ?_
    refine c_callVi hE hm [.int a1] [] ck_X4_142 (cr_fg hm rfl) (kc_fg_dataOf h) (by decide) rfl rfl (Nat.le_of_ble_eq_true rfl) dX4_levelOf_g0.2.2.2.2.2.2.2.2.2.2.2.1 (fun s3 r4 h => ?_)
    refine r_case (42 : Int32) h (fun q0 h => ?_) (fun q0 h => ?_)
    · refine r_tableAt (off := 39) hE (42 : Int32) 62 dX4_levelOf_g0.2.2.2.2.2.2.2.2.2.2.2.2.1 q0 (by decide) (by decide) (by decide) (by decide) ?_
      refine r_iconst (v := (3 : Int32)) hE dX4_levelOf_g0.2.2.2.2.2.2.2.2.2.2.2.2.2.2.2 (by decide) ?_
      exact c_iret hE hm dX4_levelOf_g1.1 h
    · refine r_case (43 : Int32) h (fun q1 h => ?_) (fun q1 h => ?_)
      · refine r_tableAt (off := 37) hE (43 : Int32) 60 dX4_levelOf_g0.2.2.2.2.2.2.2.2.2.2.2.2.1 q1 (by decide) (by decide) (by decide) (by decide) ?_
        refine r_iconst (v := (2 : Int32)) hE dX4_levelOf_g0.2.2.2.2.2.2.2.2.2.2.2.2.2.1 (by decide) ?_
        exact c_iret hE hm dX4_levelOf_g0.2.2.2.2.2.2.2.2.2.2.2.2.2.2.1 h
      · refine r_case (44 : Int32) h (fun q2 h => ?_) (fun q2 h => ?_)
        · refine r_tableAt (off := 41) hE (44 : Int32) 64 dX4_levelOf_g0.2.2.2.2.2.2.2.2.2.2.2.2.1 q2 (by decide) (by decide) (by decide) (by decide) ?_
          refine r_iconst (v := (1 : Int32)) hE dX4_levelOf_g1.2.1 (by decide) ?_
          exact c_iret hE hm dX4_levelOf_g1.2.2 h
        · refine r_case (45 : Int32) h (fun q3 h => ?_) (fun q3 h => ?_)
          · refine r_tableAt (off := 37) hE (45 : Int32) 60 dX4_levelOf_g0.2.2.2.2.2.2.2.2.2.2.2.2.1 q3 (by decide) (by decide) (by decide) (by decide) ?_
            refine r_iconst (v := (2 : Int32)) hE dX4_levelOf_g0.2.2.2.2.2.2.2.2.2.2.2.2.2.1 (by decide) ?_
            exact c_iret hE hm dX4_levelOf_g0.2.2.2.2.2.2.2.2.2.2.2.2.2.2.1 h
          · refine r_case (46 : Int32) h (fun q4 h => ?_) (fun q4 h => ?_)
            · refine r_tableAt (off := 41) hE (46 : Int32) 64 dX4_levelOf_g0.2.2.2.2.2.2.2.2.2.2.2.2.1 q4 (by decide) (by decide) (by decide) (by decide) ?_
              refine r_iconst (v := (1 : Int32)) hE dX4_levelOf_g1.2.1 (by decide) ?_
              exact c_iret hE hm dX4_levelOf_g1.2.2 h
            · refine r_case (47 : Int32) h (fun q5 h => ?_) (fun q5 h => ?_)
              · refine r_tableAt (off := 39) hE (47 : Int32) 62 dX4_levelOf_g0.2.2.2.2.2.2.2.2.2.2.2.2.1 q5 (by decide) (by decide) (by decide) (by decide) ?_
                refine r_iconst (v := (3 : Int32)) hE dX4_levelOf_g0.2.2.2.2.2.2.2.2.2.2.2.2.2.2.2 (by decide) ?_
                exact c_iret hE hm dX4_levelOf_g1.1 h
              · have n0 := lv_neT q0 (show (42 : Int32).toInt = 42 by decide)
                have n1 := lv_neT q1 (show (43 : Int32).toInt = 43 by decide)
                have n2 := lv_neT q2 (show (44 : Int32).toInt = 44 by decide)
                have n3 := lv_neT q3 (show (45 : Int32).toInt = 45 by decide)
                have n4 := lv_neT q4 (show (46 : Int32).toInt = 46 by decide)
                have n5 := lv_neT q5 (show (47 : Int32).toInt = 47 by decide)
                refine r_tableOut hE 64 dX4_levelOf_g0.2.2.2.2.2.2.2.2.2.2.2.2.1 (by omega) (by decide) ?_
                refine r_iconst (v := (1 : Int32)) hE dX4_levelOf_g1.2.1 (by decide) ?_
                exact c_iret hE hm dX4_levelOf_g1.2.2 h
  · refine r_iconst (v := (4 : Int32)) hE dX4_levelOf_g0.2.2.2.2.2.2.1 (by decide) ?_
    exact c_iret hE hm dX4_levelOf_g0.2.2.2.2.2.2.2.1 h
/-! pr_begin -/
def wc_pr_begin_221 (post : CS → Prop) (σ : CS) (v1 : Int32) : Prop := c_pr_figure σ = 300 ∧ (wc_fg_atOf (fun (s1 : CS) (r2 : Int32) => wc_pr_putWord (fun (s3 : CS) => wc_ou_put (fun (s4 : CS) => post s4) s3 (40 : Int32)) s1 r2) σ v1)
set_option maxRecDepth 20000 in
theorem kc_pr_begin_221 {E : gEnv} {l : Launch} {D : va_G} {G : gAd} {post : CS → Prop} (hE : gOK E cX4_begin RX4 none 3) (hm : cOK E l D G (pV post) 3) (σ : CS) (v1 : Int32) (h : wc_pr_begin_221 post σ v1) : GW E (cW G σ) 221 [(0, .ref (G.1 700)), (1, .int v1)] [] := by
  unfold wc_pr_begin_221 at h
  have hN := hm.2.2.2.2.2.2.1
  refine r_aload_n hE 0 dX4_begin_g5.2.2.2.2.2.2.2.2.2.2.2.2.1 rfl rfl ?_
  refine r_aload_n hE 0 dX4_begin_g5.2.2.2.2.2.2.2.2.2.2.2.2.2.1 rfl rfl ?_
  obtain ⟨hj, h⟩ := h
  refine cg_pr_figure hE hm fk_X4_26 dX4_begin_g5.2.2.2.2.2.2.2.2.2.2.2.2.2.2.1 hj ?_
  refine r_iload_n hE 1 dX4_begin_g5.2.2.2.2.2.2.2.2.2.2.2.2.2.2.2 rfl rfl ?_
  refine c_callVi hE hm [.int v1] [.ref (G.1 700)] ck_X4_105 (cr_fg hm rfl) (kc_fg_atOf h) (by decide) rfl rfl (Nat.le_of_ble_eq_true rfl) dX4_begin_g6.1 (fun s1 r2 h => ?_)
  refine c_callVv hE hm [.int r2] [] ck_X4_70 (cr_pr hm rfl) (kc_pr_putWord h) (by decide) rfl rfl (Nat.le_of_ble_eq_true rfl) dX4_begin_g6.2.1 (fun s3 h => ?_)
  refine r_aload_n hE 0 dX4_begin_g6.2.2.1 rfl rfl ?_
  refine cg_pr_out hE hm fk_X4_30 dX4_begin_g6.2.2.2.1 ?_
  refine r_bipush (v := (40 : Int32)) hE dX4_begin_g6.2.2.2.2.1 (by decide) ?_
  refine c_callVv hE hm [.int (40 : Int32)] [] ck_X4_73 (cr_ou hm rfl) (kc_ou_put h) (by decide) rfl rfl (Nat.le_of_ble_eq_true rfl) dX4_begin_g6.2.2.2.2.2.1 (fun s4 h => ?_)
  exact c_vret hE hm dX4_begin_g6.2.2.2.2.2.2 h
def wc_pr_begin_99 (post : CS → Prop) (σ : CS) (v1 : Int32) : Prop := c_pr_figure σ = 300 ∧ (wc_fg_typeOf (fun (s5 : CS) (r6 : Int32) => (r6 = (7 : Int32) → (c_pr_figure s5 = 300 ∧ (wc_fg_dataOf (fun (s7 : CS) (r8 : Int32) => wc_ou_putWhole (fun (s9 : CS) => post s9) s7 (r8.toInt64)) s5 v1))) ∧ (¬ r6 = (7 : Int32) → ((r6 = (8 : Int32) → (c_pr_figure s5 = 300 ∧ (wc_fg_atOf (fun (s10 : CS) (r11 : Int32) => wc_pr_putWord (fun (s12 : CS) => post s12) s10 r11) s5 v1))) ∧ (¬ r6 = (8 : Int32) → ((r6 = (9 : Int32) → (c_pr_figure s5 = 300 ∧ (wc_fg_atOf (fun (s13 : CS) (r14 : Int32) => wc_pr_putWord (fun (s15 : CS) => wc_ou_put (fun (s16 : CS) => post s16) s15 (91 : Int32)) s13 r14) s5 v1))) ∧ (¬ r6 = (9 : Int32) → ((r6 = (10 : Int32) → (wc_pr_begin_221 post s5 v1)) ∧ (¬ r6 = (10 : Int32) → ((r6 = (11 : Int32) → (wc_pr_begin_221 post s5 v1)) ∧ (¬ r6 = (11 : Int32) → ((r6 = (12 : Int32) → (wc_ou_put (fun (s17 : CS) => post s17) s5 (45 : Int32))) ∧ (¬ r6 = (12 : Int32) → ((r6 = (13 : Int32) → (post s5)) ∧ (¬ r6 = (13 : Int32) → (wc_pr_begin_221 post s5 v1))))))))))))))) σ v1)
set_option maxRecDepth 20000 in
theorem kc_pr_begin_99 {E : gEnv} {l : Launch} {D : va_G} {G : gAd} {post : CS → Prop} (hE : gOK E cX4_begin RX4 none 3) (hm : cOK E l D G (pV post) 3) (σ : CS) (v1 : Int32) (h : wc_pr_begin_99 post σ v1) : GW E (cW G σ) 99 [(0, .ref (G.1 700)), (1, .int v1)] [] := by
  unfold wc_pr_begin_99 at h
  have hN := hm.2.2.2.2.2.2.1
  refine r_aload_n hE 0 dX4_begin_g3.2.2.2.2.2.2.1 rfl rfl ?_
  obtain ⟨hj, h⟩ := h
  refine cg_pr_figure hE hm fk_X4_26 dX4_begin_g3.2.2.2.2.2.2.2.1 hj ?_
  refine r_iload_n hE 1 dX4_begin_g3.2.2.2.2.2.2.2.2.1 rfl rfl ?_
  refine c_callVi hE hm [.int v1] [] ck_X4_102 (cr_fg hm rfl) (kc_fg_typeOf h) (by decide) rfl rfl (Nat.le_of_ble_eq_true rfl) dX4_begin_g3.2.2.2.2.2.2.2.2.2.1 (fun s5 r6 h => ?_)
  refine r_case (7 : Int32) h (fun q0 h => ?_) (fun q0 h => ?_)
  · refine r_tableAt (off := 41) hE (7 : Int32) 148 dX4_begin_g3.2.2.2.2.2.2.2.2.2.2.1 q0 (by decide) (by decide) (by decide) (by decide) ?_
    refine r_aload_n hE 0 dX4_begin_g3.2.2.2.2.2.2.2.2.2.2.2.1 rfl rfl ?_
    refine cg_pr_out hE hm fk_X4_30 dX4_begin_g3.2.2.2.2.2.2.2.2.2.2.2.2.1 ?_
    refine r_aload_n hE 0 dX4_begin_g3.2.2.2.2.2.2.2.2.2.2.2.2.2.1 rfl rfl ?_
    obtain ⟨hj, h⟩ := h
    refine cg_pr_figure hE hm fk_X4_26 dX4_begin_g3.2.2.2.2.2.2.2.2.2.2.2.2.2.2.1 hj ?_
    refine r_iload_n hE 1 dX4_begin_g3.2.2.2.2.2.2.2.2.2.2.2.2.2.2.2 rfl rfl ?_
    refine c_callVi hE hm [.int v1] [.ref (G.1 500)] ck_X4_142 (cr_fg hm rfl) (kc_fg_dataOf h) (by decide) rfl rfl (Nat.le_of_ble_eq_true rfl) dX4_begin_g4.1 (fun s7 r8 h => ?_)
    refine r_i2l hE dX4_begin_g4.2.1 ?_
    refine c_callVv hE hm [.long (r8.toInt64)] [] ck_X4_172 (cr_ou hm rfl) (kc_ou_putWhole h) (by decide) rfl rfl (Nat.le_of_ble_eq_true rfl) dX4_begin_g4.2.2.1 (fun s9 h => ?_)
    refine r_goto hE 242 dX4_begin_g4.2.2.2.1 (by decide) ?_
    exact c_vret hE hm dX4_begin_g6.2.2.2.2.2.2 h
  · refine r_case (8 : Int32) h (fun q1 h => ?_) (fun q1 h => ?_)
    · refine r_tableAt (off := 75) hE (8 : Int32) 182 dX4_begin_g3.2.2.2.2.2.2.2.2.2.2.1 q1 (by decide) (by decide) (by decide) (by decide) ?_
      refine r_aload_n hE 0 dX4_begin_g4.2.2.2.2.2.2.2.2.2.2.1 rfl rfl ?_
      refine r_aload_n hE 0 dX4_begin_g4.2.2.2.2.2.2.2.2.2.2.2.1 rfl rfl ?_
      obtain ⟨hj, h⟩ := h
      refine cg_pr_figure hE hm fk_X4_26 dX4_begin_g4.2.2.2.2.2.2.2.2.2.2.2.2.1 hj ?_
      refine r_iload_n hE 1 dX4_begin_g4.2.2.2.2.2.2.2.2.2.2.2.2.2.1 rfl rfl ?_
      refine c_callVi hE hm [.int v1] [.ref (G.1 700)] ck_X4_105 (cr_fg hm rfl) (kc_fg_atOf h) (by decide) rfl rfl (Nat.le_of_ble_eq_true rfl) dX4_begin_g4.2.2.2.2.2.2.2.2.2.2.2.2.2.2.1 (fun s10 r11 h => ?_)
      refine c_callVv hE hm [.int r11] [] ck_X4_70 (cr_pr hm rfl) (kc_pr_putWord h) (by decide) rfl rfl (Nat.le_of_ble_eq_true rfl) dX4_begin_g4.2.2.2.2.2.2.2.2.2.2.2.2.2.2.2 (fun s12 h => ?_)
      refine r_goto hE 242 dX4_begin_g5.1 (by decide) ?_
      exact c_vret hE hm dX4_begin_g6.2.2.2.2.2.2 h
    · refine r_case (9 : Int32) h (fun q2 h => ?_) (fun q2 h => ?_)
      · refine r_tableAt (off := 90) hE (9 : Int32) 197 dX4_begin_g3.2.2.2.2.2.2.2.2.2.2.1 q2 (by decide) (by decide) (by decide) (by decide) ?_
        refine r_aload_n hE 0 dX4_begin_g5.2.1 rfl rfl ?_
        refine r_aload_n hE 0 dX4_begin_g5.2.2.1 rfl rfl ?_
        obtain ⟨hj, h⟩ := h
        refine cg_pr_figure hE hm fk_X4_26 dX4_begin_g5.2.2.2.1 hj ?_
        refine r_iload_n hE 1 dX4_begin_g5.2.2.2.2.1 rfl rfl ?_
        refine c_callVi hE hm [.int v1] [.ref (G.1 700)] ck_X4_105 (cr_fg hm rfl) (kc_fg_atOf h) (by decide) rfl rfl (Nat.le_of_ble_eq_true rfl) dX4_begin_g5.2.2.2.2.2.1 (fun s13 r14 h => ?_)
        refine c_callVv hE hm [.int r14] [] ck_X4_70 (cr_pr hm rfl) (kc_pr_putWord h) (by decide) rfl rfl (Nat.le_of_ble_eq_true rfl) dX4_begin_g5.2.2.2.2.2.2.1 (fun s15 h => ?_)
        refine r_aload_n hE 0 dX4_begin_g5.2.2.2.2.2.2.2.1 rfl rfl ?_
        refine cg_pr_out hE hm fk_X4_30 dX4_begin_g5.2.2.2.2.2.2.2.2.1 ?_
        refine r_bipush (v := (91 : Int32)) hE dX4_begin_g5.2.2.2.2.2.2.2.2.2.1 (by decide) ?_
        refine c_callVv hE hm [.int (91 : Int32)] [] ck_X4_73 (cr_ou hm rfl) (kc_ou_put h) (by decide) rfl rfl (Nat.le_of_ble_eq_true rfl) dX4_begin_g5.2.2.2.2.2.2.2.2.2.2.1 (fun s16 h => ?_)
        refine r_goto hE 242 dX4_begin_g5.2.2.2.2.2.2.2.2.2.2.2.1 (by decide) ?_
        exact c_vret hE hm dX4_begin_g6.2.2.2.2.2.2 h
      · refine r_case (10 : Int32) h (fun q3 h => ?_) (fun q3 h => ?_)
        · refine r_tableAt (off := 114) hE (10 : Int32) 221 dX4_begin_g3.2.2.2.2.2.2.2.2.2.2.1 q3 (by decide) (by decide) (by decide) (by decide) ?_
          exact kc_pr_begin_221 hE hm _ _ h
        · refine r_case (11 : Int32) h (fun q4 h => ?_) (fun q4 h => ?_)
          · refine r_tableAt (off := 114) hE (11 : Int32) 221 dX4_begin_g3.2.2.2.2.2.2.2.2.2.2.1 q4 (by decide) (by decide) (by decide) (by decide) ?_
            exact kc_pr_begin_221 hE hm _ _ h
          · refine r_case (12 : Int32) h (fun q5 h => ?_) (fun q5 h => ?_)
            · refine r_tableAt (off := 60) hE (12 : Int32) 167 dX4_begin_g3.2.2.2.2.2.2.2.2.2.2.1 q5 (by decide) (by decide) (by decide) (by decide) ?_
              refine r_aload_n hE 0 dX4_begin_g4.2.2.2.2.1 rfl rfl ?_
              refine cg_pr_out hE hm fk_X4_30 dX4_begin_g4.2.2.2.2.2.1 ?_
              refine r_bipush (v := (45 : Int32)) hE dX4_begin_g4.2.2.2.2.2.2.1 (by decide) ?_
              refine c_callVv hE hm [.int (45 : Int32)] [] ck_X4_73 (cr_ou hm rfl) (kc_ou_put h) (by decide) rfl rfl (Nat.le_of_ble_eq_true rfl) dX4_begin_g4.2.2.2.2.2.2.2.1 (fun s17 h => ?_)
              refine r_goto hE 242 dX4_begin_g4.2.2.2.2.2.2.2.2.1 (by decide) ?_
              exact c_vret hE hm dX4_begin_g6.2.2.2.2.2.2 h
            · refine r_case (13 : Int32) h (fun q6 h => ?_) (fun q6 h => ?_)
              · refine r_tableAt (off := 72) hE (13 : Int32) 179 dX4_begin_g3.2.2.2.2.2.2.2.2.2.2.1 q6 (by decide) (by decide) (by decide) (by decide) ?_
                refine r_goto hE 242 dX4_begin_g4.2.2.2.2.2.2.2.2.2.1 (by decide) ?_
                exact c_vret hE hm dX4_begin_g6.2.2.2.2.2.2 h
              · have n0 := lv_neT q0 (show (7 : Int32).toInt = 7 by decide)
                have n1 := lv_neT q1 (show (8 : Int32).toInt = 8 by decide)
                have n2 := lv_neT q2 (show (9 : Int32).toInt = 9 by decide)
                have n3 := lv_neT q3 (show (10 : Int32).toInt = 10 by decide)
                have n4 := lv_neT q4 (show (11 : Int32).toInt = 11 by decide)
                have n5 := lv_neT q5 (show (12 : Int32).toInt = 12 by decide)
                have n6 := lv_neT q6 (show (13 : Int32).toInt = 13 by decide)
                refine r_tableOut hE 221 dX4_begin_g3.2.2.2.2.2.2.2.2.2.2.1 (by omega) (by decide) ?_
                exact kc_pr_begin_221 hE hm _ _ h
def wc_pr_begin_77 (post : CS → Prop) (σ : CS) (v1 : Int32) (t1 : Int32) (t2 : Int32) : Prop := vp_in t1 250 ∧ (isB t2 ∧ (∀ s18 : CS, s18 = c_pr_wrapped_s σ t1.toNatClampNeg t2 → vp_in (c_pr_top s18) 250 ∧ ((((c_pr_wrapped s18 (c_pr_top s18).toNatClampNeg) = (0 : Int32)) → (wc_pr_begin_99 post s18 v1)) ∧ ((¬ ((c_pr_wrapped s18 (c_pr_top s18).toNatClampNeg) = (0 : Int32))) → (wc_ou_put (fun (s19 : CS) => wc_pr_begin_99 post s19 v1) s18 (40 : Int32))))))
set_option maxRecDepth 20000 in
theorem kc_pr_begin_77 {E : gEnv} {l : Launch} {D : va_G} {G : gAd} {post : CS → Prop} (hE : gOK E cX4_begin RX4 none 3) (hm : cOK E l D G (pV post) 3) (σ : CS) (v1 : Int32) (t1 : Int32) (t2 : Int32) (h : wc_pr_begin_77 post σ v1 t1 t2) : GW E (cW G σ) 77 [(0, .ref (G.1 700)), (1, .int v1)] [.int t2, .int t1, .ref (G.1 705)] := by
  unfold wc_pr_begin_77 at h
  have hN := hm.2.2.2.2.2.2.1
  obtain ⟨hi, h⟩ := h
  obtain ⟨hb, h⟩ := h
  refine cs_pr_wrapped hE hm dX4_begin_g2.2.2.2.2.2.2.2.2.2.2.2.1 hi hb h (fun s18 h => ?_)
  refine r_aload_n hE 0 dX4_begin_g2.2.2.2.2.2.2.2.2.2.2.2.2.1 rfl rfl ?_
  refine cg_pr_wrapped hE hm fk_X4_18 dX4_begin_g2.2.2.2.2.2.2.2.2.2.2.2.2.2.1 ?_
  refine r_aload_n hE 0 dX4_begin_g2.2.2.2.2.2.2.2.2.2.2.2.2.2.2.1 rfl rfl ?_
  refine cg_pr_top hE hm fk_X4_22 dX4_begin_g2.2.2.2.2.2.2.2.2.2.2.2.2.2.2.2 ?_
  obtain ⟨hi, h⟩ := h
  refine cl_pr_wrapped hE hm dX4_begin_g3.1 hi ?_
  refine r_if_eq hE 99 dX4_begin_g3.2.1 (by decide) h (fun h => ?_) (fun h => ?_)
  · exact kc_pr_begin_99 hE hm _ _ h
  · refine r_aload_n hE 0 dX4_begin_g3.2.2.1 rfl rfl ?_
    refine cg_pr_out hE hm fk_X4_30 dX4_begin_g3.2.2.2.1 ?_
    refine r_bipush (v := (40 : Int32)) hE dX4_begin_g3.2.2.2.2.1 (by decide) ?_
    refine c_callVv hE hm [.int (40 : Int32)] [] ck_X4_73 (cr_ou hm rfl) (kc_ou_put h) (by decide) rfl rfl (Nat.le_of_ble_eq_true rfl) dX4_begin_g3.2.2.2.2.2.1 (fun s19 h => ?_)
    exact kc_pr_begin_99 hE hm _ _ h
def wc_pr_begin (post : CS → Prop) (σ : CS) (a1 : Int32) (a2 : Int32) : Prop := wc_SX12_inside (fun (s20 : CS) (r21 : Int32) => ((¬ (r21 = (0 : Int32))) → (∀ s22 : CS, s22 = c_pr_top_s s20 ((c_pr_top s20) + (1 : Int32)) → vp_in (c_pr_top s22) 250 ∧ (∀ s23 : CS, s23 = c_pr_node_s s22 (c_pr_top s22).toNatClampNeg a1 → c_pr_figure s23 = 300 ∧ (wc_fg_firstOf (fun (s24 : CS) (r25 : Int32) => vp_in (c_pr_top s23) 250 ∧ (∀ s26 : CS, s26 = c_pr_cursor_s s24 (c_pr_top s23).toNatClampNeg r25 → wc_pr_levelOf (fun (s27 : CS) (r28 : Int32) => ((a2 ≤ r28) → (wc_pr_begin_77 post s27 a1 (c_pr_top s26) (0 : Int32))) ∧ ((¬ (a2 ≤ r28)) → (wc_pr_begin_77 post s27 a1 (c_pr_top s26) (1 : Int32)))) s26 a1)) s23 a1)))) ∧ ((r21 = (0 : Int32)) → (post s20))) σ ((c_pr_top σ) + (1 : Int32)) (250 : Int32)
set_option maxRecDepth 20000 in
theorem kc_pr_begin {l : Launch} {D : va_G} {G : gAd} {post : CS → Prop} {σ : CS} {a1 : Int32} {a2 : Int32} (h : wc_pr_begin post σ a1 a2) : cMet l D G yX4_begin cX4_begin 3 none 3 [.ref (G.1 700), .int a1, .int a2] σ (pV post) := by
  unfold wc_pr_begin at h
  refine c_enter (own := RX4) (by decide +kernel) rfl [(0, .ref (G.1 700)), (1, .int a1), (2, .int a2)] rfl (Nat.le_of_ble_eq_true rfl) ?_
  intro E hE hm
  have hN := hm.2.2.2.2.2.2.1
  refine r_aload_n hE 0 dX4_begin_g0.1 rfl rfl ?_
  refine cg_pr_top hE hm fk_X4_22 dX4_begin_g0.2.1 ?_
  refine r_iconst (v := (1 : Int32)) hE dX4_begin_g0.2.2.1 (by decide) ?_
  refine r_iadd hE dX4_begin_g0.2.2.2.1 ?_
  refine r_aload_n hE 0 dX4_begin_g0.2.2.2.2.1 rfl rfl ?_
  refine cg_pr_node hE hm fk_X4_9 dX4_begin_g0.2.2.2.2.2.1 ?_
  refine cn_pr_node hE hm dX4_begin_g0.2.2.2.2.2.2.1 ?_
  refine c_callSNi hE hm [.int ((c_pr_top σ) + (1 : Int32)), .int (250 : Int32)] [] ck_X4_154 cw_X4_154 (kc_SX12_inside h) (by decide) rfl rfl (Nat.le_of_ble_eq_true rfl) dX4_begin_g0.2.2.2.2.2.2.2.1 (fun s20 r21 h => ?_)
  refine r_if_ne hE 18 dX4_begin_g0.2.2.2.2.2.2.2.2.1 (by decide) h (fun h => ?_) (fun h => ?_)
  · refine r_aload_n hE 0 dX4_begin_g0.2.2.2.2.2.2.2.2.2.2.1 rfl rfl ?_
    refine r_dup hE dX4_begin_g0.2.2.2.2.2.2.2.2.2.2.2.1 rfl ?_
    refine cg_pr_top hE hm fk_X4_22 dX4_begin_g0.2.2.2.2.2.2.2.2.2.2.2.2.1 ?_
    refine r_iconst (v := (1 : Int32)) hE dX4_begin_g0.2.2.2.2.2.2.2.2.2.2.2.2.2.1 (by decide) ?_
    refine r_iadd hE dX4_begin_g0.2.2.2.2.2.2.2.2.2.2.2.2.2.2.1 ?_
    refine cp_pr_top hE hm fk_X4_22 dX4_begin_g0.2.2.2.2.2.2.2.2.2.2.2.2.2.2.2 h (fun s22 h => ?_)
    refine r_aload_n hE 0 dX4_begin_g1.1 rfl rfl ?_
    refine cg_pr_node hE hm fk_X4_9 dX4_begin_g1.2.1 ?_
    refine r_aload_n hE 0 dX4_begin_g1.2.2.1 rfl rfl ?_
    refine cg_pr_top hE hm fk_X4_22 dX4_begin_g1.2.2.2.1 ?_
    refine r_iload_n hE 1 dX4_begin_g1.2.2.2.2.1 rfl rfl ?_
    obtain ⟨hi, h⟩ := h
    refine cs_pr_node hE hm dX4_begin_g1.2.2.2.2.2.1 hi h (fun s23 h => ?_)
    refine r_aload_n hE 0 dX4_begin_g1.2.2.2.2.2.2.1 rfl rfl ?_
    refine cg_pr_cursor hE hm fk_X4_15 dX4_begin_g1.2.2.2.2.2.2.2.1 ?_
    refine r_aload_n hE 0 dX4_begin_g1.2.2.2.2.2.2.2.2.1 rfl rfl ?_
    refine cg_pr_top hE hm fk_X4_22 dX4_begin_g1.2.2.2.2.2.2.2.2.2.1 ?_
    refine r_aload_n hE 0 dX4_begin_g1.2.2.2.2.2.2.2.2.2.2.1 rfl rfl ?_
    obtain ⟨hj, h⟩ := h
    refine cg_pr_figure hE hm fk_X4_26 dX4_begin_g1.2.2.2.2.2.2.2.2.2.2.2.1 hj ?_
    refine r_iload_n hE 1 dX4_begin_g1.2.2.2.2.2.2.2.2.2.2.2.2.1 rfl rfl ?_
    refine c_callVi hE hm [.int a1] [.int (c_pr_top s23), .ref (G.1 704)] ck_X4_110 (cr_fg hm rfl) (kc_fg_firstOf h) (by decide) rfl rfl (Nat.le_of_ble_eq_true rfl) dX4_begin_g1.2.2.2.2.2.2.2.2.2.2.2.2.2.1 (fun s24 r25 h => ?_)
    obtain ⟨hi, h⟩ := h
    refine cs_pr_cursor hE hm dX4_begin_g1.2.2.2.2.2.2.2.2.2.2.2.2.2.2.1 hi h (fun s26 h => ?_)
    refine r_aload_n hE 0 dX4_begin_g1.2.2.2.2.2.2.2.2.2.2.2.2.2.2.2 rfl rfl ?_
    refine cg_pr_wrapped hE hm fk_X4_18 dX4_begin_g2.1 ?_
    refine r_aload_n hE 0 dX4_begin_g2.2.1 rfl rfl ?_
    refine cg_pr_top hE hm fk_X4_22 dX4_begin_g2.2.2.1 ?_
    refine r_aload_n hE 0 dX4_begin_g2.2.2.2.1 rfl rfl ?_
    refine r_iload_n hE 1 dX4_begin_g2.2.2.2.2.1 rfl rfl ?_
    refine c_callVi hE hm [.int a1] [.int (c_pr_top s26), .ref (G.1 705)] ck_X4_169 (cr_pr hm rfl) (kc_pr_levelOf h) (by decide) rfl rfl (Nat.le_of_ble_eq_true rfl) dX4_begin_g2.2.2.2.2.2.1 (fun s27 r28 h => ?_)
    refine r_iload_n hE 2 dX4_begin_g2.2.2.2.2.2.2.1 rfl rfl ?_
    refine r_icmp_ge hE 76 dX4_begin_g2.2.2.2.2.2.2.2.1 (by decide) h (fun h => ?_) (fun h => ?_)
    · refine r_iconst (v := (0 : Int32)) hE dX4_begin_g2.2.2.2.2.2.2.2.2.2.2.1 (by decide) ?_
      refine r_pick [0, 1] rfl ?_
      exact kc_pr_begin_77 hE hm _ _ _ _ h
    · refine r_iconst (v := (1 : Int32)) hE dX4_begin_g2.2.2.2.2.2.2.2.2.1 (by decide) ?_
      refine r_goto hE 77 dX4_begin_g2.2.2.2.2.2.2.2.2.2.1 (by decide) ?_
      refine r_pick [0, 1] rfl ?_
      exact kc_pr_begin_77 hE hm _ _ _ _ h
  · exact c_vret hE hm dX4_begin_g0.2.2.2.2.2.2.2.2.2.1 h
/-! pr_end -/
def wc_pr_end_40 (post : CS → Prop) (σ : CS) : Prop := wc_ou_put (fun (s1 : CS) => post s1) σ (41 : Int32)
set_option maxRecDepth 20000 in
theorem kc_pr_end_40 {E : gEnv} {l : Launch} {D : va_G} {G : gAd} {post : CS → Prop} (hE : gOK E cX4_end RX4 none 2) (hm : cOK E l D G (pV post) 4) (σ : CS) (h : wc_pr_end_40 post σ) : GW E (cW G σ) 40 [(0, .ref (G.1 700))] [] := by
  unfold wc_pr_end_40 at h
  have hN := hm.2.2.2.2.2.2.1
  refine r_aload_n hE 0 dX4_end_g1.2.2.2.2.1 rfl rfl ?_
  refine cg_pr_out hE hm fk_X4_30 dX4_end_g1.2.2.2.2.2.1 ?_
  refine r_bipush (v := (41 : Int32)) hE dX4_end_g1.2.2.2.2.2.2.1 (by decide) ?_
  refine c_callVv hE hm [.int (41 : Int32)] [] ck_X4_73 (cr_ou hm rfl) (kc_ou_put h) (by decide) rfl rfl (Nat.le_of_ble_eq_true rfl) dX4_end_g1.2.2.2.2.2.2.2.1 (fun s1 h => ?_)
  exact c_vret hE hm dX4_end_g1.2.2.2.2.2.2.2.2 h
def wc_pr_end_24 (post : CS → Prop) (σ : CS) (v2 : Int32) (v3 : Int32) : Prop := ((v3 = (10 : Int32)) → (wc_pr_end_40 post σ)) ∧ ((¬ (v3 = (10 : Int32))) → (((v3 = (11 : Int32)) → (wc_pr_end_40 post σ)) ∧ ((¬ (v3 = (11 : Int32))) → (((v2 = (0 : Int32)) → (post σ)) ∧ ((¬ (v2 = (0 : Int32))) → (wc_pr_end_40 post σ))))))
set_option maxRecDepth 20000 in
theorem kc_pr_end_24 {E : gEnv} {l : Launch} {D : va_G} {G : gAd} {post : CS → Prop} (hE : gOK E cX4_end RX4 none 2) (hm : cOK E l D G (pV post) 4) (σ : CS) (v2 : Int32) (v3 : Int32) (h : wc_pr_end_24 post σ v2 v3) : GW E (cW G σ) 24 [(0, .ref (G.1 700)), (2, .int v2), (3, .int v3)] [] := by
  unfold wc_pr_end_24 at h
  have hN := hm.2.2.2.2.2.2.1
  refine r_iload_n hE 2 dX4_end_g0.2.2.2.2.2.2.2.2.2.2.2.2.1 rfl rfl ?_
  refine r_bipush (v := (10 : Int32)) hE dX4_end_g0.2.2.2.2.2.2.2.2.2.2.2.2.2.1 (by decide) ?_
  refine r_icmp_eq hE 40 dX4_end_g0.2.2.2.2.2.2.2.2.2.2.2.2.2.2.1 (by decide) h (fun h => ?_) (fun h => ?_)
  · refine r_pick [0] rfl ?_
    exact kc_pr_end_40 hE hm _ h
  · refine r_iload_n hE 2 dX4_end_g0.2.2.2.2.2.2.2.2.2.2.2.2.2.2.2 rfl rfl ?_
    refine r_bipush (v := (11 : Int32)) hE dX4_end_g1.1 (by decide) ?_
    refine r_icmp_eq hE 40 dX4_end_g1.2.1 (by decide) h (fun h => ?_) (fun h => ?_)
    · refine r_pick [0] rfl ?_
      exact kc_pr_end_40 hE hm _ h
    · refine r_iload_n hE 1 dX4_end_g1.2.2.1 rfl rfl ?_
      refine r_if_eq hE 49 dX4_end_g1.2.2.2.1 (by decide) h (fun h => ?_) (fun h => ?_)
      · exact c_vret hE hm dX4_end_g1.2.2.2.2.2.2.2.2 h
      · refine r_pick [0] rfl ?_
        exact kc_pr_end_40 hE hm _ h
def wc_pr_end (post : CS → Prop) (σ : CS) (a1 : Int32) (a2 : Int32) : Prop := c_pr_figure σ = 300 ∧ (wc_fg_typeOf (fun (s2 : CS) (r3 : Int32) => ((¬ (r3 = (9 : Int32))) → (wc_pr_end_24 post s2 a2 r3)) ∧ ((r3 = (9 : Int32)) → (wc_ou_put (fun (s4 : CS) => wc_pr_end_24 post s4 a2 r3) s2 (93 : Int32)))) σ a1)
set_option maxRecDepth 20000 in
theorem kc_pr_end {l : Launch} {D : va_G} {G : gAd} {post : CS → Prop} {σ : CS} {a1 : Int32} {a2 : Int32} (h : wc_pr_end post σ a1 a2) : cMet l D G yX4_end cX4_end 4 none 2 [.ref (G.1 700), .int a1, .int a2] σ (pV post) := by
  unfold wc_pr_end at h
  refine c_enter (own := RX4) (by decide +kernel) rfl [(0, .ref (G.1 700)), (1, .int a1), (2, .int a2)] rfl (Nat.le_of_ble_eq_true rfl) ?_
  intro E hE hm
  have hN := hm.2.2.2.2.2.2.1
  refine r_aload_n hE 0 dX4_end_g0.1 rfl rfl ?_
  obtain ⟨hj, h⟩ := h
  refine cg_pr_figure hE hm fk_X4_26 dX4_end_g0.2.1 hj ?_
  refine r_iload_n hE 1 dX4_end_g0.2.2.1 rfl rfl ?_
  refine c_callVi hE hm [.int a1] [] ck_X4_102 (cr_fg hm rfl) (kc_fg_typeOf h) (by decide) rfl rfl (Nat.le_of_ble_eq_true rfl) dX4_end_g0.2.2.2.1 (fun s2 r3 h => ?_)
  refine r_istore_n hE [(3, .int r3), (0, .ref (G.1 700)), (1, .int a1), (2, .int a2)] dX4_end_g0.2.2.2.2.1 rfl hN (by decide) rfl ?_
  refine r_iload_n hE 0 dX4_end_g0.2.2.2.2.2.1 rfl rfl ?_
  refine r_bipush (v := (9 : Int32)) hE dX4_end_g0.2.2.2.2.2.2.1 (by decide) ?_
  refine r_icmp_ne hE 24 dX4_end_g0.2.2.2.2.2.2.2.1 (by decide) h (fun h => ?_) (fun h => ?_)
  · refine r_pick [1, 3, 0] rfl ?_
    exact kc_pr_end_24 hE hm _ _ _ h
  · refine r_aload_n hE 1 dX4_end_g0.2.2.2.2.2.2.2.2.1 rfl rfl ?_
    refine cg_pr_out hE hm fk_X4_30 dX4_end_g0.2.2.2.2.2.2.2.2.2.1 ?_
    refine r_bipush (v := (93 : Int32)) hE dX4_end_g0.2.2.2.2.2.2.2.2.2.2.1 (by decide) ?_
    refine c_callVv hE hm [.int (93 : Int32)] [] ck_X4_73 (cr_ou hm rfl) (kc_ou_put h) (by decide) rfl rfl (Nat.le_of_ble_eq_true rfl) dX4_end_g0.2.2.2.2.2.2.2.2.2.2.2.1 (fun s4 h => ?_)
    refine r_pick [1, 3, 0] rfl ?_
    exact kc_pr_end_24 hE hm _ _ _ h
/-! pr_tightness -/
def wc_pr_tightness (post : CS → Int32 → Prop) (σ : CS) (a1 : Int32) (a2 : Int32) : Prop := c_pr_figure σ = 300 ∧ (wc_fg_typeOf (fun (s1 : CS) (r2 : Int32) => ((¬ (r2 = (12 : Int32))) → (((r2 = (13 : Int32)) → (wc_pr_levelOf (fun (s3 : CS) (r4 : Int32) => ((¬ (r4 = (1 : Int32))) → (((a2 = (0 : Int32)) → (post s3 (r4 + (1 : Int32)))) ∧ ((¬ (a2 = (0 : Int32))) → (post s3 r4)))) ∧ ((r4 = (1 : Int32)) → (post s3 (2 : Int32)))) s1 a1)) ∧ ((¬ (r2 = (13 : Int32))) → (post s1 (1 : Int32))))) ∧ ((r2 = (12 : Int32)) → (post s1 (4 : Int32)))) σ a1)
set_option maxRecDepth 20000 in
theorem kc_pr_tightness {l : Launch} {D : va_G} {G : gAd} {post : CS → Int32 → Prop} {σ : CS} {a1 : Int32} {a2 : Int32} (h : wc_pr_tightness post σ a1 a2) : cMet l D G yX4_tightness cX4_tightness 5 (some .int) 3 [.ref (G.1 700), .int a1, .int a2] σ (pI post) := by
  unfold wc_pr_tightness at h
  refine c_enter (own := RX4) (by decide +kernel) rfl [(0, .ref (G.1 700)), (1, .int a1), (2, .int a2)] rfl (Nat.le_of_ble_eq_true rfl) ?_
  intro E hE hm
  have hN := hm.2.2.2.2.2.2.1
  refine r_aload_n hE 0 dX4_tightness_g0.1 rfl rfl ?_
  obtain ⟨hj, h⟩ := h
  refine cg_pr_figure hE hm fk_X4_26 dX4_tightness_g0.2.1 hj ?_
  refine r_iload_n hE 1 dX4_tightness_g0.2.2.1 rfl rfl ?_
  refine c_callVi hE hm [.int a1] [] ck_X4_102 (cr_fg hm rfl) (kc_fg_typeOf h) (by decide) rfl rfl (Nat.le_of_ble_eq_true rfl) dX4_tightness_g0.2.2.2.1 (fun s1 r2 h => ?_)
  refine r_istore_n hE [(3, .int r2), (0, .ref (G.1 700)), (1, .int a1), (2, .int a2)] dX4_tightness_g0.2.2.2.2.1 rfl hN (by decide) rfl ?_
  refine r_iload_n hE 0 dX4_tightness_g0.2.2.2.2.2.1 rfl rfl ?_
  refine r_bipush (v := (12 : Int32)) hE dX4_tightness_g0.2.2.2.2.2.2.1 (by decide) ?_
  refine r_icmp_ne hE 17 dX4_tightness_g0.2.2.2.2.2.2.2.1 (by decide) h (fun h => ?_) (fun h => ?_)
  · refine r_iload_n hE 0 dX4_tightness_g0.2.2.2.2.2.2.2.2.2.2.1 rfl rfl ?_
    refine r_bipush (v := (13 : Int32)) hE dX4_tightness_g0.2.2.2.2.2.2.2.2.2.2.2.1 (by decide) ?_
    refine r_icmp_eq hE 25 dX4_tightness_g0.2.2.2.2.2.2.2.2.2.2.2.2.1 (by decide) h (fun h => ?_) (fun h => ?_)
    · refine r_aload_n hE 1 dX4_tightness_g0.2.2.2.2.2.2.2.2.2.2.2.2.2.2.2 rfl rfl ?_
      refine r_iload_n hE 2 dX4_tightness_g1.1 rfl rfl ?_
      refine c_callVi hE hm [.int a1] [] ck_X4_169 (cr_pr hm rfl) (kc_pr_levelOf h) (by decide) rfl rfl (Nat.le_of_ble_eq_true rfl) dX4_tightness_g1.2.1 (fun s3 r4 h => ?_)
      refine r_istore hE [(4, .int r4), (3, .int r2), (0, .ref (G.1 700)), (1, .int a1), (2, .int a2)] dX4_tightness_g1.2.2.1 hN (by decide) rfl ?_
      refine r_iload hE 0 dX4_tightness_g1.2.2.2.1 rfl ?_
      refine r_iconst (v := (1 : Int32)) hE dX4_tightness_g1.2.2.2.2.1 (by decide) ?_
      refine r_icmp_ne hE 40 dX4_tightness_g1.2.2.2.2.2.1 (by decide) h (fun h => ?_) (fun h => ?_)
      · refine r_iload_n hE 4 dX4_tightness_g1.2.2.2.2.2.2.2.2.1 rfl rfl ?_
        refine r_if_eq hE 49 dX4_tightness_g1.2.2.2.2.2.2.2.2.2.1 (by decide) h (fun h => ?_) (fun h => ?_)
        · refine r_iload hE 0 dX4_tightness_g1.2.2.2.2.2.2.2.2.2.2.2.2.1 rfl ?_
          refine r_iconst (v := (1 : Int32)) hE dX4_tightness_g1.2.2.2.2.2.2.2.2.2.2.2.2.2.1 (by decide) ?_
          refine r_iadd hE dX4_tightness_g1.2.2.2.2.2.2.2.2.2.2.2.2.2.2.1 ?_
          exact c_iret hE hm dX4_tightness_g1.2.2.2.2.2.2.2.2.2.2.2.2.2.2.2 h
        · refine r_iload hE 0 dX4_tightness_g1.2.2.2.2.2.2.2.2.2.2.1 rfl ?_
          refine r_goto hE 53 dX4_tightness_g1.2.2.2.2.2.2.2.2.2.2.2.1 (by decide) ?_
          exact c_iret hE hm dX4_tightness_g1.2.2.2.2.2.2.2.2.2.2.2.2.2.2.2 h
      · refine r_iconst (v := (2 : Int32)) hE dX4_tightness_g1.2.2.2.2.2.2.1 (by decide) ?_
        exact c_iret hE hm dX4_tightness_g1.2.2.2.2.2.2.2.1 h
    · refine r_iconst (v := (1 : Int32)) hE dX4_tightness_g0.2.2.2.2.2.2.2.2.2.2.2.2.2.1 (by decide) ?_
      exact c_iret hE hm dX4_tightness_g0.2.2.2.2.2.2.2.2.2.2.2.2.2.2.1 h
  · refine r_iconst (v := (4 : Int32)) hE dX4_tightness_g0.2.2.2.2.2.2.2.2.1 (by decide) ?_
    exact c_iret hE hm dX4_tightness_g0.2.2.2.2.2.2.2.2.2.1 h
