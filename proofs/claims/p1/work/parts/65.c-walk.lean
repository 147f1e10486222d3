/-! ru_hold -/
def wc_ru_hold (post : CS → Prop) (σ : CS) (a1 : Int32) (a2 : Int32) : Prop := ∀ x1 : Int32, x1 = ((c_ru_frame σ) * (20 : Int32)) + a1 → wc_SX12_inside (fun (s2 : CS) (r3 : Int32) => ((r3 = (0 : Int32)) → (post s2)) ∧ ((¬ (r3 = (0 : Int32))) → (wc_SX12_inside (fun (s4 : CS) (r5 : Int32) => ((r5 = (0 : Int32)) → (post s4)) ∧ ((¬ (r5 = (0 : Int32))) → (vp_in x1 180 ∧ (∀ s6 : CS, s6 = c_ru_holds_s s4 x1.toNatClampNeg a2 → post s6)))) s2 x1 (180 : Int32)))) σ a1 (20 : Int32)
set_option maxRecDepth 20000 in
theorem kc_ru_hold {l : Launch} {D : va_G} {G : gAd} {post : CS → Prop} {σ : CS} {a1 : Int32} {a2 : Int32} (h : wc_ru_hold post σ a1 a2) : cMet l D G yX7_hold cX7_hold 4 none 2 [.ref (G.1 1200), .int a1, .int a2] σ (pV post) := by
  unfold wc_ru_hold at h
  refine c_enter (own := RX7) (by decide +kernel) rfl [(0, .ref (G.1 1200)), (1, .int a1), (2, .int a2)] rfl (Nat.le_of_ble_eq_true rfl) ?_
  intro E hE hm hF
  have hN := hm.2.2.2.2.2.2.1
  refine r_aload_n hE 0 dX7_hold_g0.1 rfl rfl ?_
  refine cg_ru_frame hE hm fk_X7_41 dX7_hold_g0.2.1 ?_
  refine r_bipush (v := (20 : Int32)) hE dX7_hold_g0.2.2.1 (by decide) ?_
  refine r_imul hE dX7_hold_g0.2.2.2.1 ?_
  refine r_iload_n hE 1 dX7_hold_g0.2.2.2.2.1 rfl rfl ?_
  refine r_iadd hE dX7_hold_g0.2.2.2.2.2.1 ?_
  refine r_topi h (fun x1 ex1 h => ?_)
  refine r_istore_n hE [(3, .int x1), (0, .ref (G.1 1200)), (1, .int a1), (2, .int a2)] dX7_hold_g0.2.2.2.2.2.2.1 rfl hN (by decide) rfl ?_
  refine r_iload_n hE 2 dX7_hold_g0.2.2.2.2.2.2.2.1 rfl rfl ?_
  refine r_bipush (v := (20 : Int32)) hE dX7_hold_g0.2.2.2.2.2.2.2.2.1 (by decide) ?_
  refine c_callSNi hE hm [.int a1, .int (20 : Int32)] [] ck_X7_92 cw_X7_92 (kc_SX12_inside h) (by decide) rfl rfl (Nat.le_of_ble_eq_true rfl) dX7_hold_g0.2.2.2.2.2.2.2.2.2.1 (fun s2 r3 h => ?_)
  refine r_if_eq hE 38 dX7_hold_g0.2.2.2.2.2.2.2.2.2.2.1 (by decide) h (fun h => ?_) (fun h => ?_)
  · exact c_vret hE hm hF dX7_hold_g1.2.2.2.2.2.2 h
  · refine r_iload_n hE 0 dX7_hold_g0.2.2.2.2.2.2.2.2.2.2.2.1 rfl rfl ?_
    refine r_aload_n hE 1 dX7_hold_g0.2.2.2.2.2.2.2.2.2.2.2.2.1 rfl rfl ?_
    refine cg_ru_holds hE hm fk_X7_38 dX7_hold_g0.2.2.2.2.2.2.2.2.2.2.2.2.2.1 ?_
    refine cn_ru_holds hE hm dX7_hold_g0.2.2.2.2.2.2.2.2.2.2.2.2.2.2.1 ?_
    refine c_callSNi hE hm [.int x1, .int (180 : Int32)] [] ck_X7_92 cw_X7_92 (kc_SX12_inside h) (by decide) rfl rfl (Nat.le_of_ble_eq_true rfl) dX7_hold_g0.2.2.2.2.2.2.2.2.2.2.2.2.2.2.2 (fun s4 r5 h => ?_)
    refine r_if_eq hE 38 dX7_hold_g1.1 (by decide) h (fun h => ?_) (fun h => ?_)
    · exact c_vret hE hm hF dX7_hold_g1.2.2.2.2.2.2 h
    · refine r_aload_n hE 1 dX7_hold_g1.2.1 rfl rfl ?_
      refine cg_ru_holds hE hm fk_X7_38 dX7_hold_g1.2.2.1 ?_
      refine r_iload_n hE 0 dX7_hold_g1.2.2.2.1 rfl rfl ?_
      refine r_iload_n hE 3 dX7_hold_g1.2.2.2.2.1 rfl rfl ?_
      obtain ⟨hi, h⟩ := h
      refine cs_ru_holds hE hm dX7_hold_g1.2.2.2.2.2.1 hi h (fun s6 h => ?_)
      exact c_vret hE hm hF dX7_hold_g1.2.2.2.2.2.2 h
/-! ru_emptyNames -/
def wc_ru_emptyNames_2 (post : CS → Prop) : Nat → CS → Int32 → Prop
  | 0, _, _ => False
  | n + 1, σ, v1 => (((20 : Int32) ≤ v1) → (post σ)) ∧ ((¬ ((20 : Int32) ≤ v1)) → (wc_ru_hold (fun (s1 : CS) => ∀ x2 : Int32, x2 = v1 + (1 : Int32) → wc_ru_emptyNames_2 post n s1 x2) σ v1 (-1 : Int32)))
set_option maxRecDepth 20000 in
theorem kc_ru_emptyNames_2  {E : gEnv} {l : Launch} {D : va_G} {G : gAd} {post : CS → Prop} (hE : gOK E cX7_emptyNames RX7 none 3) (hm : cOK E l D G (pV post) 2) (hF : gFin E) : ∀ (n0 : Nat) (σ : CS) (v1 : Int32), wc_ru_emptyNames_2 post n0 σ v1 → GW E (cW G σ) 2 [(0, .ref (G.1 1200)), (1, .int v1)] [] := by
  intro n0
  induction n0 with
  | zero => intro σ v1 h; exact h.elim
  | succ n0 ih =>
    intro σ v1 h
    rw [wc_ru_emptyNames_2] at h
    have hN := hm.2.2.2.2.2.2.1
    refine r_iload_n hE 1 dX7_emptyNames_g0.2.2.1 rfl rfl ?_
    refine r_bipush (v := (20 : Int32)) hE dX7_emptyNames_g0.2.2.2.1 (by decide) ?_
    refine r_icmp_ge hE 20 dX7_emptyNames_g0.2.2.2.2.1 (by decide) h (fun h => ?_) (fun h => ?_)
    · exact c_vret hE hm hF dX7_emptyNames_g0.2.2.2.2.2.2.2.2.2.2.2 h
    · refine r_aload_n hE 0 dX7_emptyNames_g0.2.2.2.2.2.1 rfl rfl ?_
      refine r_iload_n hE 1 dX7_emptyNames_g0.2.2.2.2.2.2.1 rfl rfl ?_
      refine r_iconst (v := (-1 : Int32)) hE dX7_emptyNames_g0.2.2.2.2.2.2.2.1 (by decide) ?_
      refine c_callVv hE hm [.int v1, .int (-1 : Int32)] [] ck_X7_127 (cr_ru hm rfl) (kc_ru_hold h) (by decide) rfl rfl (Nat.le_of_ble_eq_true rfl) dX7_emptyNames_g0.2.2.2.2.2.2.2.2.1 (fun s1 h => ?_)
      obtain ⟨x2, ex2⟩ : ∃ z : Int32, z = v1 + (1 : Int32) := ⟨_, rfl⟩
      have h := h x2 ex2
      refine r_iinc (v := x2) hE [(1, .int x2), (0, .ref (G.1 1200))] 1 dX7_emptyNames_g0.2.2.2.2.2.2.2.2.2.1 rfl (by rw [ex2]; rfl) hN (by decide) rfl ?_
      refine r_goto hE 2 dX7_emptyNames_g0.2.2.2.2.2.2.2.2.2.2.1 (by decide) ?_
      refine r_pick [1, 0] rfl ?_
      exact ih _ _ h
def wc_ru_emptyNames (post : CS → Prop) (σ : CS) : Prop := ∃ k : Nat, wc_ru_emptyNames_2 post k σ (0 : Int32)
set_option maxRecDepth 20000 in
theorem kc_ru_emptyNames {l : Launch} {D : va_G} {G : gAd} {post : CS → Prop} {σ : CS} (h : wc_ru_emptyNames post σ) : cMet l D G yX7_emptyNames cX7_emptyNames 2 none 3 [.ref (G.1 1200)] σ (pV post) := by
  unfold wc_ru_emptyNames at h
  refine c_enter (own := RX7) (by decide +kernel) rfl [(0, .ref (G.1 1200))] rfl (Nat.le_of_ble_eq_true rfl) ?_
  intro E hE hm hF
  have hN := hm.2.2.2.2.2.2.1
  refine r_iconst (v := (0 : Int32)) hE dX7_emptyNames_g0.1 (by decide) ?_
  refine r_istore_n hE [(1, .int (0 : Int32)), (0, .ref (G.1 1200))] dX7_emptyNames_g0.2.1 rfl hN (by decide) rfl ?_
  refine r_pick [1, 0] rfl ?_
  obtain ⟨k, h⟩ := h
  exact kc_ru_emptyNames_2 hE hm hF k _ _ h
/-! ru_drop -/
def wc_ru_drop (post : CS → Prop) (σ : CS) : Prop := (((c_ru_top σ) < (0 : Int32)) → (post σ)) ∧ ((¬ ((c_ru_top σ) < (0 : Int32))) → ((((401 : Int32) ≤ (c_ru_top σ)) → (post σ)) ∧ ((¬ ((401 : Int32) ≤ (c_ru_top σ))) → (vp_in (c_ru_top σ) 401 ∧ (∀ s1 : CS, s1 = c_ru_values_s σ (c_ru_floor σ (c_ru_top σ).toNatClampNeg) → ∀ s2 : CS, s2 = c_ru_top_s s1 ((c_ru_top s1) - (1 : Int32)) → post s2)))))
set_option maxRecDepth 20000 in
theorem kc_ru_drop {l : Launch} {D : va_G} {G : gAd} {post : CS → Prop} {σ : CS} (h : wc_ru_drop post σ) : cMet l D G yX7_drop cX7_drop 1 none 1 [.ref (G.1 1200)] σ (pV post) := by
  unfold wc_ru_drop at h
  refine c_enter (own := RX7) (by decide +kernel) rfl [(0, .ref (G.1 1200))] rfl (Nat.le_of_ble_eq_true rfl) ?_
  intro E hE hm hF
  have hN := hm.2.2.2.2.2.2.1
  refine r_aload_n hE 0 dX7_drop_g0.1 rfl rfl ?_
  refine cg_ru_top hE hm fk_X7_28 dX7_drop_g0.2.1 ?_
  refine r_if_lt hE 40 dX7_drop_g0.2.2.1 (by decide) h (fun h => ?_) (fun h => ?_)
  · exact c_vret hE hm hF dX7_drop_g1.2.2.2.2 h
  · refine r_aload_n hE 0 dX7_drop_g0.2.2.2.1 rfl rfl ?_
    refine cg_ru_top hE hm fk_X7_28 dX7_drop_g0.2.2.2.2.1 ?_
    refine r_sipush (v := (401 : Int32)) hE dX7_drop_g0.2.2.2.2.2.1 (by decide) ?_
    refine r_icmp_ge hE 40 dX7_drop_g0.2.2.2.2.2.2.1 (by decide) h (fun h => ?_) (fun h => ?_)
    · exact c_vret hE hm hF dX7_drop_g1.2.2.2.2 h
    · refine r_aload_n hE 0 dX7_drop_g0.2.2.2.2.2.2.2.1 rfl rfl ?_
      refine r_aload_n hE 0 dX7_drop_g0.2.2.2.2.2.2.2.2.1 rfl rfl ?_
      refine cg_ru_floor hE hm fk_X7_18 dX7_drop_g0.2.2.2.2.2.2.2.2.2.1 ?_
      refine r_aload_n hE 0 dX7_drop_g0.2.2.2.2.2.2.2.2.2.2.1 rfl rfl ?_
      refine cg_ru_top hE hm fk_X7_28 dX7_drop_g0.2.2.2.2.2.2.2.2.2.2.2.1 ?_
      obtain ⟨hi, h⟩ := h
      refine cl_ru_floor hE hm dX7_drop_g0.2.2.2.2.2.2.2.2.2.2.2.2.1 hi ?_
      refine cp_ru_values hE hm fk_X7_35 dX7_drop_g0.2.2.2.2.2.2.2.2.2.2.2.2.2.1 h (fun s1 h => ?_)
      refine r_aload_n hE 0 dX7_drop_g0.2.2.2.2.2.2.2.2.2.2.2.2.2.2.1 rfl rfl ?_
      refine r_dup hE dX7_drop_g0.2.2.2.2.2.2.2.2.2.2.2.2.2.2.2 rfl ?_
      refine cg_ru_top hE hm fk_X7_28 dX7_drop_g1.1 ?_
      refine r_iconst (v := (1 : Int32)) hE dX7_drop_g1.2.1 (by decide) ?_
      refine r_isub hE dX7_drop_g1.2.2.1 ?_
      refine cp_ru_top hE hm fk_X7_28 dX7_drop_g1.2.2.2.1 h (fun s2 h => ?_)
      exact c_vret hE hm hF dX7_drop_g1.2.2.2.2 h
/-! fg_atOf -/
def wc_fg_atOf (post : CS → Int32 → Prop) (σ : CS) (a1 : Int32) : Prop := ((a1 < (0 : Int32)) → (post σ (-1 : Int32))) ∧ ((¬ (a1 < (0 : Int32))) → ((((c_fg_nodes σ) ≤ a1) → (post σ (-1 : Int32))) ∧ ((¬ ((c_fg_nodes σ) ≤ a1)) → (vp_in a1 250 ∧ (post σ (c_fg_at σ a1.toNatClampNeg))))))
set_option maxRecDepth 20000 in
theorem kc_fg_atOf {l : Launch} {D : va_G} {G : gAd} {post : CS → Int32 → Prop} {σ : CS} {a1 : Int32} (h : wc_fg_atOf post σ a1) : cMet l D G yX1_atOf cX1_atOf 2 (some .int) 1 [.ref (G.1 300), .int a1] σ (pI post) := by
  unfold wc_fg_atOf at h
  refine c_enter (own := RX1) (by decide +kernel) rfl [(0, .ref (G.1 300)), (1, .int a1)] rfl (Nat.le_of_ble_eq_true rfl) ?_
  intro E hE hm hF
  have hN := hm.2.2.2.2.2.2.1
  refine r_iload_n hE 1 dX1_atOf_g0.1 rfl rfl ?_
  refine r_if_lt hE 21 dX1_atOf_g0.2.1 (by decide) h (fun h => ?_) (fun h => ?_)
  · refine r_iconst (v := (-1 : Int32)) hE dX1_atOf_g0.2.2.2.2.2.2.2.2.2.2.2.1 (by decide) ?_
    exact c_iret hE hm hF dX1_atOf_g0.2.2.2.2.2.2.2.2.2.2.2.2 h
  · refine r_iload_n hE 1 dX1_atOf_g0.2.2.1 rfl rfl ?_
    refine r_aload_n hE 0 dX1_atOf_g0.2.2.2.1 rfl rfl ?_
    refine cg_fg_nodes hE hm fk_X1_41 dX1_atOf_g0.2.2.2.2.1 ?_
    refine r_icmp_ge hE 21 dX1_atOf_g0.2.2.2.2.2.1 (by decide) h (fun h => ?_) (fun h => ?_)
    · refine r_iconst (v := (-1 : Int32)) hE dX1_atOf_g0.2.2.2.2.2.2.2.2.2.2.2.1 (by decide) ?_
      exact c_iret hE hm hF dX1_atOf_g0.2.2.2.2.2.2.2.2.2.2.2.2 h
    · refine r_aload_n hE 0 dX1_atOf_g0.2.2.2.2.2.2.1 rfl rfl ?_
      refine cg_fg_at hE hm fk_X1_23 dX1_atOf_g0.2.2.2.2.2.2.2.1 ?_
      refine r_iload_n hE 1 dX1_atOf_g0.2.2.2.2.2.2.2.2.1 rfl rfl ?_
      obtain ⟨hi, h⟩ := h
      refine cl_fg_at hE hm dX1_atOf_g0.2.2.2.2.2.2.2.2.2.1 hi ?_
      refine r_goto hE 22 dX1_atOf_g0.2.2.2.2.2.2.2.2.2.2.1 (by decide) ?_
      exact c_iret hE hm hF dX1_atOf_g0.2.2.2.2.2.2.2.2.2.2.2.2 h
/-! fg_otherOf -/
def wc_fg_otherOf (post : CS → Int32 → Prop) (σ : CS) (a1 : Int32) : Prop := ((a1 < (0 : Int32)) → (post σ (-1 : Int32))) ∧ ((¬ (a1 < (0 : Int32))) → ((((c_fg_nodes σ) ≤ a1) → (post σ (-1 : Int32))) ∧ ((¬ ((c_fg_nodes σ) ≤ a1)) → (vp_in a1 250 ∧ (post σ (c_fg_other σ a1.toNatClampNeg))))))
set_option maxRecDepth 20000 in
theorem kc_fg_otherOf {l : Launch} {D : va_G} {G : gAd} {post : CS → Int32 → Prop} {σ : CS} {a1 : Int32} (h : wc_fg_otherOf post σ a1) : cMet l D G yX1_otherOf cX1_otherOf 2 (some .int) 1 [.ref (G.1 300), .int a1] σ (pI post) := by
  unfold wc_fg_otherOf at h
  refine c_enter (own := RX1) (by decide +kernel) rfl [(0, .ref (G.1 300)), (1, .int a1)] rfl (Nat.le_of_ble_eq_true rfl) ?_
  intro E hE hm hF
  have hN := hm.2.2.2.2.2.2.1
  refine r_iload_n hE 1 dX1_otherOf_g0.1 rfl rfl ?_
  refine r_if_lt hE 21 dX1_otherOf_g0.2.1 (by decide) h (fun h => ?_) (fun h => ?_)
  · refine r_iconst (v := (-1 : Int32)) hE dX1_otherOf_g0.2.2.2.2.2.2.2.2.2.2.2.1 (by decide) ?_
    exact c_iret hE hm hF dX1_otherOf_g0.2.2.2.2.2.2.2.2.2.2.2.2 h
  · refine r_iload_n hE 1 dX1_otherOf_g0.2.2.1 rfl rfl ?_
    refine r_aload_n hE 0 dX1_otherOf_g0.2.2.2.1 rfl rfl ?_
    refine cg_fg_nodes hE hm fk_X1_41 dX1_otherOf_g0.2.2.2.2.1 ?_
    refine r_icmp_ge hE 21 dX1_otherOf_g0.2.2.2.2.2.1 (by decide) h (fun h => ?_) (fun h => ?_)
    · refine r_iconst (v := (-1 : Int32)) hE dX1_otherOf_g0.2.2.2.2.2.2.2.2.2.2.2.1 (by decide) ?_
      exact c_iret hE hm hF dX1_otherOf_g0.2.2.2.2.2.2.2.2.2.2.2.2 h
    · refine r_aload_n hE 0 dX1_otherOf_g0.2.2.2.2.2.2.1 rfl rfl ?_
      refine cg_fg_other hE hm fk_X1_38 dX1_otherOf_g0.2.2.2.2.2.2.2.1 ?_
      refine r_iload_n hE 1 dX1_otherOf_g0.2.2.2.2.2.2.2.2.1 rfl rfl ?_
      obtain ⟨hi, h⟩ := h
      refine cl_fg_other hE hm dX1_otherOf_g0.2.2.2.2.2.2.2.2.2.1 hi ?_
      refine r_goto hE 22 dX1_otherOf_g0.2.2.2.2.2.2.2.2.2.2.1 (by decide) ?_
      exact c_iret hE hm hF dX1_otherOf_g0.2.2.2.2.2.2.2.2.2.2.2.2 h
/-! ru_enterBlock -/
def wc_ru_enterBlock (post : CS → Prop) (σ : CS) (a1 : Int32) : Prop := wc_SX12_inside (fun (s1 : CS) (r2 : Int32) => ((r2 = (0 : Int32)) → (post s1)) ∧ ((¬ (r2 = (0 : Int32))) → (vp_in (c_ru_top s1) 401 ∧ (∀ s3 : CS, s3 = c_ru_values_s s1 (c_ru_floor s1 (c_ru_top s1).toNatClampNeg) → vp_in (c_ru_top s3) 401 ∧ (∀ s4 : CS, s4 = c_ru_inBlock_s s3 (c_ru_top s3).toNatClampNeg (1 : Int32) → vp_in (c_ru_top s4) 401 ∧ (∀ s5 : CS, s5 = c_ru_cursor_s s4 (c_ru_top s4).toNatClampNeg a1 → post s5)))))) σ (c_ru_top σ) (401 : Int32)
set_option maxRecDepth 20000 in
theorem kc_ru_enterBlock {l : Launch} {D : va_G} {G : gAd} {post : CS → Prop} {σ : CS} {a1 : Int32} (h : wc_ru_enterBlock post σ a1) : cMet l D G yX7_enterBlock cX7_enterBlock 2 none 2 [.ref (G.1 1200), .int a1] σ (pV post) := by
  unfold wc_ru_enterBlock at h
  refine c_enter (own := RX7) (by decide +kernel) rfl [(0, .ref (G.1 1200)), (1, .int a1)] rfl (Nat.le_of_ble_eq_true rfl) ?_
  intro E hE hm hF
  have hN := hm.2.2.2.2.2.2.1
  refine r_aload_n hE 0 dX7_enterBlock_g0.1 rfl rfl ?_
  refine cg_ru_top hE hm fk_X7_28 dX7_enterBlock_g0.2.1 ?_
  refine r_sipush (v := (401 : Int32)) hE dX7_enterBlock_g0.2.2.1 (by decide) ?_
  refine c_callSNi hE hm [.int (c_ru_top σ), .int (401 : Int32)] [] ck_X7_92 cw_X7_92 (kc_SX12_inside h) (by decide) rfl rfl (Nat.le_of_ble_eq_true rfl) dX7_enterBlock_g0.2.2.2.1 (fun s1 r2 h => ?_)
  refine r_if_eq hE 46 dX7_enterBlock_g0.2.2.2.2.1 (by decide) h (fun h => ?_) (fun h => ?_)
  · exact c_vret hE hm hF dX7_enterBlock_g1.2.2.2.2.2.2.2.2 h
  · refine r_aload_n hE 0 dX7_enterBlock_g0.2.2.2.2.2.1 rfl rfl ?_
    refine r_aload_n hE 0 dX7_enterBlock_g0.2.2.2.2.2.2.1 rfl rfl ?_
    refine cg_ru_floor hE hm fk_X7_18 dX7_enterBlock_g0.2.2.2.2.2.2.2.1 ?_
    refine r_aload_n hE 0 dX7_enterBlock_g0.2.2.2.2.2.2.2.2.1 rfl rfl ?_
    refine cg_ru_top hE hm fk_X7_28 dX7_enterBlock_g0.2.2.2.2.2.2.2.2.2.1 ?_
    obtain ⟨hi, h⟩ := h
    refine cl_ru_floor hE hm dX7_enterBlock_g0.2.2.2.2.2.2.2.2.2.2.1 hi ?_
    refine cp_ru_values hE hm fk_X7_35 dX7_enterBlock_g0.2.2.2.2.2.2.2.2.2.2.2.1 h (fun s3 h => ?_)
    refine r_aload_n hE 0 dX7_enterBlock_g0.2.2.2.2.2.2.2.2.2.2.2.2.1 rfl rfl ?_
    refine cg_ru_inBlock hE hm fk_X7_21 dX7_enterBlock_g0.2.2.2.2.2.2.2.2.2.2.2.2.2.1 ?_
    refine r_aload_n hE 0 dX7_enterBlock_g0.2.2.2.2.2.2.2.2.2.2.2.2.2.2.1 rfl rfl ?_
    refine cg_ru_top hE hm fk_X7_28 dX7_enterBlock_g0.2.2.2.2.2.2.2.2.2.2.2.2.2.2.2 ?_
    refine r_iconst (v := (1 : Int32)) hE dX7_enterBlock_g1.1 (by decide) ?_
    obtain ⟨hi, h⟩ := h
    refine cs_ru_inBlock hE hm dX7_enterBlock_g1.2.1 hi (Or.inr rfl) h (fun s4 h => ?_)
    refine r_aload_n hE 0 dX7_enterBlock_g1.2.2.1 rfl rfl ?_
    refine cg_ru_cursor hE hm fk_X7_15 dX7_enterBlock_g1.2.2.2.1 ?_
    refine r_aload_n hE 0 dX7_enterBlock_g1.2.2.2.2.1 rfl rfl ?_
    refine cg_ru_top hE hm fk_X7_28 dX7_enterBlock_g1.2.2.2.2.2.1 ?_
    refine r_iload_n hE 1 dX7_enterBlock_g1.2.2.2.2.2.2.1 rfl rfl ?_
    obtain ⟨hi, h⟩ := h
    refine cs_ru_cursor hE hm dX7_enterBlock_g1.2.2.2.2.2.2.2.1 hi h (fun s5 h => ?_)
    exact c_vret hE hm hF dX7_enterBlock_g1.2.2.2.2.2.2.2.2 h
/-! ru_pushValue -/
def wc_ru_pushValue (post : CS → Prop) (σ : CS) (a1 : Int32) : Prop := (((c_ru_values σ) < (0 : Int32)) → (post σ)) ∧ ((¬ ((c_ru_values σ) < (0 : Int32))) → ((((401 : Int32) ≤ (c_ru_values σ)) → (post σ)) ∧ ((¬ ((401 : Int32) ≤ (c_ru_values σ))) → (vp_in (c_ru_values σ) 401 ∧ (∀ s1 : CS, s1 = c_ru_value_s σ (c_ru_values σ).toNatClampNeg a1 → ∀ s2 : CS, s2 = c_ru_values_s s1 ((c_ru_values s1) + (1 : Int32)) → post s2)))))
set_option maxRecDepth 20000 in
theorem kc_ru_pushValue {l : Launch} {D : va_G} {G : gAd} {post : CS → Prop} {σ : CS} {a1 : Int32} (h : wc_ru_pushValue post σ a1) : cMet l D G yX7_pushValue cX7_pushValue 2 none 1 [.ref (G.1 1200), .int a1] σ (pV post) := by
  unfold wc_ru_pushValue at h
  refine c_enter (own := RX7) (by decide +kernel) rfl [(0, .ref (G.1 1200)), (1, .int a1)] rfl (Nat.le_of_ble_eq_true rfl) ?_
  intro E hE hm hF
  have hN := hm.2.2.2.2.2.2.1
  refine r_aload_n hE 0 dX7_pushValue_g0.1 rfl rfl ?_
  refine cg_ru_values hE hm fk_X7_35 dX7_pushValue_g0.2.1 ?_
  refine r_if_lt hE 37 dX7_pushValue_g0.2.2.1 (by decide) h (fun h => ?_) (fun h => ?_)
  · exact c_vret hE hm hF dX7_pushValue_g1.2.2.2 h
  · refine r_aload_n hE 0 dX7_pushValue_g0.2.2.2.1 rfl rfl ?_
    refine cg_ru_values hE hm fk_X7_35 dX7_pushValue_g0.2.2.2.2.1 ?_
    refine r_sipush (v := (401 : Int32)) hE dX7_pushValue_g0.2.2.2.2.2.1 (by decide) ?_
    refine r_icmp_ge hE 37 dX7_pushValue_g0.2.2.2.2.2.2.1 (by decide) h (fun h => ?_) (fun h => ?_)
    · exact c_vret hE hm hF dX7_pushValue_g1.2.2.2 h
    · refine r_aload_n hE 0 dX7_pushValue_g0.2.2.2.2.2.2.2.1 rfl rfl ?_
      refine cg_ru_value hE hm fk_X7_32 dX7_pushValue_g0.2.2.2.2.2.2.2.2.1 ?_
      refine r_aload_n hE 0 dX7_pushValue_g0.2.2.2.2.2.2.2.2.2.1 rfl rfl ?_
      refine cg_ru_values hE hm fk_X7_35 dX7_pushValue_g0.2.2.2.2.2.2.2.2.2.2.1 ?_
      refine r_iload_n hE 1 dX7_pushValue_g0.2.2.2.2.2.2.2.2.2.2.2.1 rfl rfl ?_
      obtain ⟨hi, h⟩ := h
      refine cs_ru_value hE hm dX7_pushValue_g0.2.2.2.2.2.2.2.2.2.2.2.2.1 hi h (fun s1 h => ?_)
      refine r_aload_n hE 0 dX7_pushValue_g0.2.2.2.2.2.2.2.2.2.2.2.2.2.1 rfl rfl ?_
      refine r_dup hE dX7_pushValue_g0.2.2.2.2.2.2.2.2.2.2.2.2.2.2.1 rfl ?_
      refine cg_ru_values hE hm fk_X7_35 dX7_pushValue_g0.2.2.2.2.2.2.2.2.2.2.2.2.2.2.2 ?_
      refine r_iconst (v := (1 : Int32)) hE dX7_pushValue_g1.1 (by decide) ?_
      refine r_iadd hE dX7_pushValue_g1.2.1 ?_
      refine cp_ru_values hE hm fk_X7_35 dX7_pushValue_g1.2.2.1 h (fun s2 h => ?_)
      exact c_vret hE hm hF dX7_pushValue_g1.2.2.2 h
/-! ru_leaveMacro -/
def wc_ru_leaveMacro (post : CS → Prop) (σ : CS) (a1 : Int32) : Prop := ∀ s1 : CS, s1 = c_ru_frame_s σ ((c_ru_frame σ) - (1 : Int32)) → wc_ru_drop (fun (s2 : CS) => wc_ru_pushValue (fun (s3 : CS) => post s3) s2 a1) s1
set_option maxRecDepth 20000 in
theorem kc_ru_leaveMacro {l : Launch} {D : va_G} {G : gAd} {post : CS → Prop} {σ : CS} {a1 : Int32} (h : wc_ru_leaveMacro post σ a1) : cMet l D G yX7_leaveMacro cX7_leaveMacro 2 none 2 [.ref (G.1 1200), .int a1] σ (pV post) := by
  unfold wc_ru_leaveMacro at h
  refine c_enter (own := RX7) (by decide +kernel) rfl [(0, .ref (G.1 1200)), (1, .int a1)] rfl (Nat.le_of_ble_eq_true rfl) ?_
  intro E hE hm hF
  have hN := hm.2.2.2.2.2.2.1
  refine r_aload_n hE 0 dX7_leaveMacro_g0.1 rfl rfl ?_
  refine r_dup hE dX7_leaveMacro_g0.2.1 rfl ?_
  refine cg_ru_frame hE hm fk_X7_41 dX7_leaveMacro_g0.2.2.1 ?_
  refine r_iconst (v := (1 : Int32)) hE dX7_leaveMacro_g0.2.2.2.1 (by decide) ?_
  refine r_isub hE dX7_leaveMacro_g0.2.2.2.2.1 ?_
  refine cp_ru_frame hE hm fk_X7_41 dX7_leaveMacro_g0.2.2.2.2.2.1 h (fun s1 h => ?_)
  refine r_aload_n hE 0 dX7_leaveMacro_g0.2.2.2.2.2.2.1 rfl rfl ?_
  refine c_callVv hE hm [] [] ck_X7_168 (cr_ru hm rfl) (kc_ru_drop h) (by decide) rfl rfl (Nat.le_of_ble_eq_true rfl) dX7_leaveMacro_g0.2.2.2.2.2.2.2.1 (fun s2 h => ?_)
  refine r_aload_n hE 0 dX7_leaveMacro_g0.2.2.2.2.2.2.2.2.1 rfl rfl ?_
  refine r_iload_n hE 1 dX7_leaveMacro_g0.2.2.2.2.2.2.2.2.2.1 rfl rfl ?_
  refine c_callVv hE hm [.int a1] [] ck_X7_148 (cr_ru hm rfl) (kc_ru_pushValue h) (by decide) rfl rfl (Nat.le_of_ble_eq_true rfl) dX7_leaveMacro_g0.2.2.2.2.2.2.2.2.2.2.1 (fun s3 h => ?_)
  exact c_vret hE hm hF dX7_leaveMacro_g0.2.2.2.2.2.2.2.2.2.2.2 h
/-! ru_giveBack -/
def wc_ru_giveBack_66 (post : CS → Prop) (σ : CS) (v1 : Int32) : Prop := wc_ru_leaveMacro (fun (s1 : CS) => post s1) σ v1
set_option maxRecDepth 20000 in
theorem kc_ru_giveBack_66  {E : gEnv} {l : Launch} {D : va_G} {G : gAd} {post : CS → Prop} (hE : gOK E cX7_giveBack RX7 none 3) (hm : cOK E l D G (pV post) 2) (hF : gFin E) (σ : CS) (v1 : Int32) (h : wc_ru_giveBack_66 post σ v1) : GW E (cW G σ) 66 [(0, .ref (G.1 1200)), (1, .int v1)] [] := by
  unfold wc_ru_giveBack_66 at h
  have hN := hm.2.2.2.2.2.2.1
  refine r_aload_n hE 0 dX7_giveBack_g1.2.2.2.2.2.2.2.2.2.2.2.2.2.2.2 rfl rfl ?_
  refine r_iload_n hE 1 dX7_giveBack_g2.1 rfl rfl ?_
  refine c_callVv hE hm [.int v1] [] ck_X7_210 (cr_ru hm rfl) (kc_ru_leaveMacro h) (by decide) rfl rfl (Nat.le_of_ble_eq_true rfl) dX7_giveBack_g2.2.1 (fun s1 h => ?_)
  exact c_vret hE hm hF dX7_giveBack_g2.2.2 h
def wc_ru_giveBack_53 (post : CS → Prop) (lp0 : CS → Int32 → Prop) (σ : CS) (v1 : Int32) : Prop := ∀ s2 : CS, s2 = c_ru_top_s σ ((c_ru_top σ) - (1 : Int32)) → lp0 s2 v1
set_option maxRecDepth 20000 in
theorem kc_ru_giveBack_53  {E : gEnv} {l : Launch} {D : va_G} {G : gAd} {post : CS → Prop} (hE : gOK E cX7_giveBack RX7 none 3) (hm : cOK E l D G (pV post) 2) (hF : gFin E) {lp0 : CS → Int32 → Prop} (hl0 : ∀ (σ : CS) (v1 : Int32), lp0 σ v1 → GW E (cW G σ) 0 [(0, .ref (G.1 1200)), (1, .int v1)] []) (σ : CS) (v1 : Int32) (h : wc_ru_giveBack_53 post lp0 σ v1) : GW E (cW G σ) 53 [(0, .ref (G.1 1200)), (1, .int v1)] [] := by
  unfold wc_ru_giveBack_53 at h
  have hN := hm.2.2.2.2.2.2.1
  refine r_aload_n hE 0 dX7_giveBack_g1.2.2.2.2.2.2.2.2.1 rfl rfl ?_
  refine r_dup hE dX7_giveBack_g1.2.2.2.2.2.2.2.2.2.1 rfl ?_
  refine cg_ru_top hE hm fk_X7_28 dX7_giveBack_g1.2.2.2.2.2.2.2.2.2.2.1 ?_
  refine r_iconst (v := (1 : Int32)) hE dX7_giveBack_g1.2.2.2.2.2.2.2.2.2.2.2.1 (by decide) ?_
  refine r_isub hE dX7_giveBack_g1.2.2.2.2.2.2.2.2.2.2.2.2.1 ?_
  refine cp_ru_top hE hm fk_X7_28 dX7_giveBack_g1.2.2.2.2.2.2.2.2.2.2.2.2.2.1 h (fun s2 h => ?_)
  refine r_goto hE 0 dX7_giveBack_g1.2.2.2.2.2.2.2.2.2.2.2.2.2.2.1 (by decide) ?_
  exact hl0 _ _ h
def wc_ru_giveBack_0 (post : CS → Prop) : Nat → CS → Int32 → Prop
  | 0, _, _ => False
  | n + 1, σ, v1 => (((c_ru_top σ) ≤ (0 : Int32)) → (wc_ru_giveBack_66 post σ v1)) ∧ ((¬ ((c_ru_top σ) ≤ (0 : Int32))) → (wc_SX12_inside (fun (s3 : CS) (r4 : Int32) => ((r4 = (0 : Int32)) → (wc_ru_giveBack_53 post (fun (ys : CS) (y0 : Int32) => wc_ru_giveBack_0 post n ys y0) s3 v1)) ∧ ((¬ (r4 = (0 : Int32))) → (vp_in (c_ru_top s3) 401 ∧ ((((c_ru_inBlock s3 (c_ru_top s3).toNatClampNeg) = (0 : Int32)) → (wc_ru_giveBack_53 post (fun (ys : CS) (y0 : Int32) => wc_ru_giveBack_0 post n ys y0) s3 v1)) ∧ ((¬ ((c_ru_inBlock s3 (c_ru_top s3).toNatClampNeg) = (0 : Int32))) → (c_ru_figure s3 = 300 ∧ (vp_in (c_ru_top s3) 401 ∧ (wc_fg_typeOf (fun (s5 : CS) (r6 : Int32) => ((r6 = (11 : Int32)) → (wc_ru_giveBack_66 post s5 v1)) ∧ ((¬ (r6 = (11 : Int32))) → (wc_ru_giveBack_53 post (fun (ys : CS) (y0 : Int32) => wc_ru_giveBack_0 post n ys y0) s5 v1))) s3 (c_ru_node s3 (c_ru_top s3).toNatClampNeg))))))))) σ (c_ru_top σ) (401 : Int32)))
set_option maxRecDepth 20000 in
theorem kc_ru_giveBack_0  {E : gEnv} {l : Launch} {D : va_G} {G : gAd} {post : CS → Prop} (hE : gOK E cX7_giveBack RX7 none 3) (hm : cOK E l D G (pV post) 2) (hF : gFin E) : ∀ (n0 : Nat) (σ : CS) (v1 : Int32), wc_ru_giveBack_0 post n0 σ v1 → GW E (cW G σ) 0 [(0, .ref (G.1 1200)), (1, .int v1)] [] := by
  intro n0
  induction n0 with
  | zero => intro σ v1 h; exact h.elim
  | succ n0 ih =>
    intro σ v1 h
    rw [wc_ru_giveBack_0] at h
    have hN := hm.2.2.2.2.2.2.1
    refine r_aload_n hE 0 dX7_giveBack_g0.1 rfl rfl ?_
    refine cg_ru_top hE hm fk_X7_28 dX7_giveBack_g0.2.1 ?_
    refine r_if_le hE 66 dX7_giveBack_g0.2.2.1 (by decide) h (fun h => ?_) (fun h => ?_)
    · exact kc_ru_giveBack_66 hE hm hF _ _ h
    · refine r_aload_n hE 0 dX7_giveBack_g0.2.2.2.1 rfl rfl ?_
      refine cg_ru_top hE hm fk_X7_28 dX7_giveBack_g0.2.2.2.2.1 ?_
      refine r_sipush (v := (401 : Int32)) hE dX7_giveBack_g0.2.2.2.2.2.1 (by decide) ?_
      refine c_callSNi hE hm [.int (c_ru_top σ), .int (401 : Int32)] [] ck_X7_92 cw_X7_92 (kc_SX12_inside h) (by decide) rfl rfl (Nat.le_of_ble_eq_true rfl) dX7_giveBack_g0.2.2.2.2.2.2.1 (fun s3 r4 h => ?_)
      refine r_if_eq hE 53 dX7_giveBack_g0.2.2.2.2.2.2.2.1 (by decide) h (fun h => ?_) (fun h => ?_)
      · exact kc_ru_giveBack_53 hE hm hF ih _ _ h
      · refine r_aload_n hE 0 dX7_giveBack_g0.2.2.2.2.2.2.2.2.1 rfl rfl ?_
        refine cg_ru_inBlock hE hm fk_X7_21 dX7_giveBack_g0.2.2.2.2.2.2.2.2.2.1 ?_
        refine r_aload_n hE 0 dX7_giveBack_g0.2.2.2.2.2.2.2.2.2.2.1 rfl rfl ?_
        refine cg_ru_top hE hm fk_X7_28 dX7_giveBack_g0.2.2.2.2.2.2.2.2.2.2.2.1 ?_
        obtain ⟨hi, h⟩ := h
        refine cl_ru_inBlock hE hm dX7_giveBack_g0.2.2.2.2.2.2.2.2.2.2.2.2.1 hi ?_
        refine r_if_eq hE 53 dX7_giveBack_g0.2.2.2.2.2.2.2.2.2.2.2.2.2.1 (by decide) h (fun h => ?_) (fun h => ?_)
        · exact kc_ru_giveBack_53 hE hm hF ih _ _ h
        · refine r_aload_n hE 0 dX7_giveBack_g0.2.2.2.2.2.2.2.2.2.2.2.2.2.2.1 rfl rfl ?_
          obtain ⟨hj, h⟩ := h
          refine cg_ru_figure hE hm fk_X7_44 dX7_giveBack_g0.2.2.2.2.2.2.2.2.2.2.2.2.2.2.2 hj ?_
          refine r_aload_n hE 0 dX7_giveBack_g1.1 rfl rfl ?_
          refine cg_ru_node hE hm fk_X7_11 dX7_giveBack_g1.2.1 ?_
          refine r_aload_n hE 0 dX7_giveBack_g1.2.2.1 rfl rfl ?_
          refine cg_ru_top hE hm fk_X7_28 dX7_giveBack_g1.2.2.2.1 ?_
          obtain ⟨hi, h⟩ := h
          refine cl_ru_node hE hm dX7_giveBack_g1.2.2.2.2.1 hi ?_
          refine c_callVi hE hm [.int (c_ru_node s3 (c_ru_top s3).toNatClampNeg)] [] ck_X7_107 (cr_fg hm rfl) (kc_fg_typeOf h) (by decide) rfl rfl (Nat.le_of_ble_eq_true rfl) dX7_giveBack_g1.2.2.2.2.2.1 (fun s5 r6 h => ?_)
          refine r_bipush (v := (11 : Int32)) hE dX7_giveBack_g1.2.2.2.2.2.2.1 (by decide) ?_
          refine r_icmp_eq hE 66 dX7_giveBack_g1.2.2.2.2.2.2.2.1 (by decide) h (fun h => ?_) (fun h => ?_)
          · exact kc_ru_giveBack_66 hE hm hF _ _ h
          · exact kc_ru_giveBack_53 hE hm hF ih _ _ h
def wc_ru_giveBack (post : CS → Prop) (σ : CS) (a1 : Int32) : Prop := ∃ k : Nat, wc_ru_giveBack_0 post k σ a1
set_option maxRecDepth 20000 in
theorem kc_ru_giveBack {l : Launch} {D : va_G} {G : gAd} {post : CS → Prop} {σ : CS} {a1 : Int32} (h : wc_ru_giveBack post σ a1) : cMet l D G yX7_giveBack cX7_giveBack 2 none 3 [.ref (G.1 1200), .int a1] σ (pV post) := by
  unfold wc_ru_giveBack at h
  refine c_enter (own := RX7) (by decide +kernel) rfl [(0, .ref (G.1 1200)), (1, .int a1)] rfl (Nat.le_of_ble_eq_true rfl) ?_
  intro E hE hm hF
  have hN := hm.2.2.2.2.2.2.1
  obtain ⟨k, h⟩ := h
  exact kc_ru_giveBack_0 hE hm hF k _ _ h
/-! to_addFall -/
def wc_to_addFall_61 (post : CS → Prop) (σ : CS) (t1 : Int32) (t2 : Int32) : Prop := isB (t1 ||| t2) ∧ (∀ s1 : CS, s1 = c_to_spent_s σ (t1 ||| t2) → post s1)
set_option maxRecDepth 20000 in
theorem kc_to_addFall_61  {E : gEnv} {l : Launch} {D : va_G} {G : gAd} {post : CS → Prop} (hE : gOK E cX9_addFall RX9 none 2) (hm : cOK E l D G (pV post) 3) (hF : gFin E) (σ : CS) (t1 : Int32) (t2 : Int32) (h : wc_to_addFall_61 post σ t1 t2) : GW E (cW G σ) 61 [] [.int t2, .int t1, .ref (G.1 1100)] := by
  unfold wc_to_addFall_61 at h
  have hN := hm.2.2.2.2.2.2.1
  refine r_ior hE dX9_addFall_g2.2.1 ?_
  obtain ⟨hb, h⟩ := h
  refine cp_to_spent hE hm fk_X9_37 dX9_addFall_g2.2.2.1 hb h (fun s1 h => ?_)
  exact c_vret hE hm hF dX9_addFall_g2.2.2.2 h
def wc_to_addFall_42 (post : CS → Prop) (σ : CS) : Prop := (((c_to_falls σ) < (12 : Int32)) → (wc_to_addFall_61 post σ (c_to_spent σ) (0 : Int32))) ∧ ((¬ ((c_to_falls σ) < (12 : Int32))) → (wc_to_addFall_61 post σ (c_to_spent σ) (1 : Int32)))
set_option maxRecDepth 20000 in
theorem kc_to_addFall_42  {E : gEnv} {l : Launch} {D : va_G} {G : gAd} {post : CS → Prop} (hE : gOK E cX9_addFall RX9 none 2) (hm : cOK E l D G (pV post) 3) (hF : gFin E) (σ : CS) (h : wc_to_addFall_42 post σ) : GW E (cW G σ) 42 [(0, .ref (G.1 1100))] [] := by
  unfold wc_to_addFall_42 at h
  have hN := hm.2.2.2.2.2.2.1
  refine r_aload_n hE 0 dX9_addFall_g1.2.2.2.2.2.2.2.1 rfl rfl ?_
  refine r_dup hE dX9_addFall_g1.2.2.2.2.2.2.2.2.1 rfl ?_
  refine cg_to_spent hE hm fk_X9_37 dX9_addFall_g1.2.2.2.2.2.2.2.2.2.1 ?_
  refine r_aload_n hE 0 dX9_addFall_g1.2.2.2.2.2.2.2.2.2.2.1 rfl rfl ?_
  refine cg_to_falls hE hm fk_X9_31 dX9_addFall_g1.2.2.2.2.2.2.2.2.2.2.2.1 ?_
  refine r_bipush (v := (12 : Int32)) hE dX9_addFall_g1.2.2.2.2.2.2.2.2.2.2.2.2.1 (by decide) ?_
  refine r_icmp_lt hE 60 dX9_addFall_g1.2.2.2.2.2.2.2.2.2.2.2.2.2.1 (by decide) h (fun h => ?_) (fun h => ?_)
  · refine r_iconst (v := (0 : Int32)) hE dX9_addFall_g2.1 (by decide) ?_
    refine r_pick [] rfl ?_
    exact kc_to_addFall_61 hE hm hF _ _ _ h
  · refine r_iconst (v := (1 : Int32)) hE dX9_addFall_g1.2.2.2.2.2.2.2.2.2.2.2.2.2.2.1 (by decide) ?_
    refine r_goto hE 61 dX9_addFall_g1.2.2.2.2.2.2.2.2.2.2.2.2.2.2.2 (by decide) ?_
    refine r_pick [] rfl ?_
    exact kc_to_addFall_61 hE hm hF _ _ _ h
def wc_to_addFall (post : CS → Prop) (σ : CS) (a1 : Int32) (a2 : Int32) : Prop := wc_SX12_inside (fun (s2 : CS) (r3 : Int32) => ((r3 = (0 : Int32)) → (wc_to_addFall_42 post s2)) ∧ ((¬ (r3 = (0 : Int32))) → (vp_in (c_to_falls s2) 12 ∧ (∀ s4 : CS, s4 = c_to_failures_s s2 (c_to_falls s2).toNatClampNeg a1 → vp_in (c_to_falls s4) 12 ∧ (∀ s5 : CS, s5 = c_to_bytes_s s4 (c_to_falls s4).toNatClampNeg a2 → ∀ s6 : CS, s6 = c_to_falls_s s5 ((c_to_falls s5) + (1 : Int32)) → wc_to_addFall_42 post s6))))) σ (c_to_falls σ) (12 : Int32)
set_option maxRecDepth 20000 in
theorem kc_to_addFall {l : Launch} {D : va_G} {G : gAd} {post : CS → Prop} {σ : CS} {a1 : Int32} {a2 : Int32} (h : wc_to_addFall post σ a1 a2) : cMet l D G yX9_addFall cX9_addFall 3 none 2 [.ref (G.1 1100), .int a1, .int a2] σ (pV post) := by
  unfold wc_to_addFall at h
  refine c_enter (own := RX9) (by decide +kernel) rfl [(0, .ref (G.1 1100)), (1, .int a1), (2, .int a2)] rfl (Nat.le_of_ble_eq_true rfl) ?_
  intro E hE hm hF
  have hN := hm.2.2.2.2.2.2.1
  refine r_aload_n hE 0 dX9_addFall_g0.1 rfl rfl ?_
  refine cg_to_falls hE hm fk_X9_31 dX9_addFall_g0.2.1 ?_
  refine r_bipush (v := (12 : Int32)) hE dX9_addFall_g0.2.2.1 (by decide) ?_
  refine c_callSNi hE hm [.int (c_to_falls σ), .int (12 : Int32)] [] ck_X9_41 cw_X9_41 (kc_SX12_inside h) (by decide) rfl rfl (Nat.le_of_ble_eq_true rfl) dX9_addFall_g0.2.2.2.1 (fun s2 r3 h => ?_)
  refine r_if_eq hE 42 dX9_addFall_g0.2.2.2.2.1 (by decide) h (fun h => ?_) (fun h => ?_)
  · refine r_pick [0] rfl ?_
    exact kc_to_addFall_42 hE hm hF _ h
  · refine r_aload_n hE 0 dX9_addFall_g0.2.2.2.2.2.1 rfl rfl ?_
    refine cg_to_failures hE hm fk_X9_18 dX9_addFall_g0.2.2.2.2.2.2.1 ?_
    refine r_aload_n hE 0 dX9_addFall_g0.2.2.2.2.2.2.2.1 rfl rfl ?_
    refine cg_to_falls hE hm fk_X9_31 dX9_addFall_g0.2.2.2.2.2.2.2.2.1 ?_
    refine r_iload_n hE 1 dX9_addFall_g0.2.2.2.2.2.2.2.2.2.1 rfl rfl ?_
    obtain ⟨hi, h⟩ := h
    refine cs_to_failures hE hm dX9_addFall_g0.2.2.2.2.2.2.2.2.2.2.1 hi h (fun s4 h => ?_)
    refine r_aload_n hE 0 dX9_addFall_g0.2.2.2.2.2.2.2.2.2.2.2.1 rfl rfl ?_
    refine cg_to_bytes hE hm fk_X9_21 dX9_addFall_g0.2.2.2.2.2.2.2.2.2.2.2.2.1 ?_
    refine r_aload_n hE 0 dX9_addFall_g0.2.2.2.2.2.2.2.2.2.2.2.2.2.1 rfl rfl ?_
    refine cg_to_falls hE hm fk_X9_31 dX9_addFall_g0.2.2.2.2.2.2.2.2.2.2.2.2.2.2.1 ?_
    refine r_iload_n hE 2 dX9_addFall_g0.2.2.2.2.2.2.2.2.2.2.2.2.2.2.2 rfl rfl ?_
    obtain ⟨hi, h⟩ := h
    refine cs_to_bytes hE hm dX9_addFall_g1.1 hi h (fun s5 h => ?_)
    refine r_aload_n hE 0 dX9_addFall_g1.2.1 rfl rfl ?_
    refine r_dup hE dX9_addFall_g1.2.2.1 rfl ?_
    refine cg_to_falls hE hm fk_X9_31 dX9_addFall_g1.2.2.2.1 ?_
    refine r_iconst (v := (1 : Int32)) hE dX9_addFall_g1.2.2.2.2.1 (by decide) ?_
    refine r_iadd hE dX9_addFall_g1.2.2.2.2.2.1 ?_
    refine cp_to_falls hE hm fk_X9_31 dX9_addFall_g1.2.2.2.2.2.2.1 h (fun s6 h => ?_)
    refine r_pick [0] rfl ?_
    exact kc_to_addFall_42 hE hm hF _ h
/-! to_addStated -/
def wc_to_addStated (post : CS → Prop) (σ : CS) (a1 : Int32) : Prop := wc_SX12_inside (fun (s1 : CS) (r2 : Int32) => ((r2 = (0 : Int32)) → (post s1)) ∧ ((¬ (r2 = (0 : Int32))) → (vp_in (c_to_states s1) 40 ∧ (∀ s3 : CS, s3 = c_to_stated_s s1 (c_to_states s1).toNatClampNeg a1 → ∀ s4 : CS, s4 = c_to_states_s s3 ((c_to_states s3) + (1 : Int32)) → post s4)))) σ (c_to_states σ) (40 : Int32)
set_option maxRecDepth 20000 in
theorem kc_to_addStated {l : Launch} {D : va_G} {G : gAd} {post : CS → Prop} {σ : CS} {a1 : Int32} (h : wc_to_addStated post σ a1) : cMet l D G yX9_addStated cX9_addStated 2 none 2 [.ref (G.1 1100), .int a1] σ (pV post) := by
  unfold wc_to_addStated at h
  refine c_enter (own := RX9) (by decide +kernel) rfl [(0, .ref (G.1 1100)), (1, .int a1)] rfl (Nat.le_of_ble_eq_true rfl) ?_
  intro E hE hm hF
  have hN := hm.2.2.2.2.2.2.1
  refine r_aload_n hE 0 dX9_addStated_g0.1 rfl rfl ?_
  refine cg_to_states hE hm fk_X9_28 dX9_addStated_g0.2.1 ?_
  refine r_bipush (v := (40 : Int32)) hE dX9_addStated_g0.2.2.1 (by decide) ?_
  refine c_callSNi hE hm [.int (c_to_states σ), .int (40 : Int32)] [] ck_X9_41 cw_X9_41 (kc_SX12_inside h) (by decide) rfl rfl (Nat.le_of_ble_eq_true rfl) dX9_addStated_g0.2.2.2.1 (fun s1 r2 h => ?_)
  refine r_if_eq hE 32 dX9_addStated_g0.2.2.2.2.1 (by decide) h (fun h => ?_) (fun h => ?_)
  · exact c_vret hE hm hF dX9_addStated_g1.2 h
  · refine r_aload_n hE 0 dX9_addStated_g0.2.2.2.2.2.1 rfl rfl ?_
    refine cg_to_stated hE hm fk_X9_15 dX9_addStated_g0.2.2.2.2.2.2.1 ?_
    refine r_aload_n hE 0 dX9_addStated_g0.2.2.2.2.2.2.2.1 rfl rfl ?_
    refine cg_to_states hE hm fk_X9_28 dX9_addStated_g0.2.2.2.2.2.2.2.2.1 ?_
    refine r_iload_n hE 1 dX9_addStated_g0.2.2.2.2.2.2.2.2.2.1 rfl rfl ?_
    obtain ⟨hi, h⟩ := h
    refine cs_to_stated hE hm dX9_addStated_g0.2.2.2.2.2.2.2.2.2.2.1 hi h (fun s3 h => ?_)
    refine r_aload_n hE 0 dX9_addStated_g0.2.2.2.2.2.2.2.2.2.2.2.1 rfl rfl ?_
    refine r_dup hE dX9_addStated_g0.2.2.2.2.2.2.2.2.2.2.2.2.1 rfl ?_
    refine cg_to_states hE hm fk_X9_28 dX9_addStated_g0.2.2.2.2.2.2.2.2.2.2.2.2.2.1 ?_
    refine r_iconst (v := (1 : Int32)) hE dX9_addStated_g0.2.2.2.2.2.2.2.2.2.2.2.2.2.2.1 (by decide) ?_
    refine r_iadd hE dX9_addStated_g0.2.2.2.2.2.2.2.2.2.2.2.2.2.2.2 ?_
    refine cp_to_states hE hm fk_X9_28 dX9_addStated_g1.1 h (fun s4 h => ?_)
    exact c_vret hE hm hF dX9_addStated_g1.2 h
/-! ru_fallDown -/
def wc_ru_fallDown_210 (post : CS → Prop) (σ : CS) : Prop := wc_ru_drop (fun (s1 : CS) => post s1) σ
set_option maxRecDepth 20000 in
theorem kc_ru_fallDown_210  {E : gEnv} {l : Launch} {D : va_G} {G : gAd} {post : CS → Prop} (hE : gOK E cX7_fallDown RX7 none 4) (hm : cOK E l D G (pV post) 3) (hF : gFin E) (σ : CS) (h : wc_ru_fallDown_210 post σ) : GW E (cW G σ) 210 [(0, .ref (G.1 1200))] [] := by
  unfold wc_ru_fallDown_210 at h
  have hN := hm.2.2.2.2.2.2.1
  refine r_aload_n hE 0 dX7_fallDown_g5.2.2.1 rfl rfl ?_
  refine c_callVv hE hm [] [] ck_X7_168 (cr_ru hm rfl) (kc_ru_drop h) (by decide) rfl rfl (Nat.le_of_ble_eq_true rfl) dX7_fallDown_g5.2.2.2.1 (fun s1 h => ?_)
  exact c_vret hE hm hF dX7_fallDown_g5.2.2.2.2 h
def wc_ru_fallDown_90 (post : CS → Prop) (σ : CS) : Prop := vp_in (c_ru_top σ) 401 ∧ (∀ x2 : Int32, x2 = c_ru_node σ (c_ru_top σ).toNatClampNeg → c_ru_figure σ = 300 ∧ (wc_fg_typeOf (fun (s3 : CS) (r4 : Int32) => (r4 = (0 : Int32) → (c_ru_figure s3 = 300 ∧ (wc_fg_dataOf (fun (s5 : CS) (r6 : Int32) => wc_ru_hold (fun (s7 : CS) => wc_ru_drop (fun (s8 : CS) => post s8) s7) s5 r6 (-1 : Int32)) s3 x2))) ∧ (¬ r4 = (0 : Int32) → ((r4 = (1 : Int32) → (wc_ru_fallDown_210 post s3)) ∧ (¬ r4 = (1 : Int32) → ((r4 = (2 : Int32) → (c_ru_figure s3 = 300 ∧ (wc_fg_otherOf (fun (s9 : CS) (r10 : Int32) => wc_ru_enterBlock (fun (s11 : CS) => post s11) s9 r10) s3 x2))) ∧ (¬ r4 = (2 : Int32) → ((r4 = (3 : Int32) → (wc_ru_fallDown_210 post s3)) ∧ (¬ r4 = (3 : Int32) → ((r4 = (4 : Int32) → (wc_to_addStated (fun (s12 : CS) => wc_ru_drop (fun (s13 : CS) => post s13) s12) s3 (-1 : Int32))) ∧ (¬ r4 = (4 : Int32) → ((r4 = (5 : Int32) → (wc_ru_fallDown_210 post s3)) ∧ (¬ r4 = (5 : Int32) → ((r4 = (6 : Int32) → (wc_ru_giveBack (fun (s14 : CS) => post s14) s3 (-1 : Int32))) ∧ (¬ r4 = (6 : Int32) → (wc_ru_fallDown_210 post s3))))))))))))))) σ x2))
set_option maxRecDepth 20000 in
theorem kc_ru_fallDown_90  {E : gEnv} {l : Launch} {D : va_G} {G : gAd} {post : CS → Prop} (hE : gOK E cX7_fallDown RX7 none 4) (hm : cOK E l D G (pV post) 3) (hF : gFin E) (σ : CS) (h : wc_ru_fallDown_90 post σ) : GW E (cW G σ) 90 [(0, .ref (G.1 1200))] [] := by
  unfold wc_ru_fallDown_90 at h
  have hN := hm.2.2.2.2.2.2.1
  refine r_aload_n hE 0 dX7_fallDown_g2.2.2.2.2.2.2.2.2.2.2.2.1 rfl rfl ?_
  refine cg_ru_node hE hm fk_X7_11 dX7_fallDown_g2.2.2.2.2.2.2.2.2.2.2.2.2.1 ?_
  refine r_aload_n hE 0 dX7_fallDown_g2.2.2.2.2.2.2.2.2.2.2.2.2.2.1 rfl rfl ?_
  refine cg_ru_top hE hm fk_X7_28 dX7_fallDown_g2.2.2.2.2.2.2.2.2.2.2.2.2.2.2.1 ?_
  obtain ⟨hi, h⟩ := h
  refine cl_ru_node hE hm dX7_fallDown_g2.2.2.2.2.2.2.2.2.2.2.2.2.2.2.2 hi ?_
  refine r_topi h (fun x2 ex2 h => ?_)
  refine r_istore_n hE [(2, .int x2), (0, .ref (G.1 1200))] dX7_fallDown_g3.1 rfl hN (by decide) rfl ?_
  refine r_aload_n hE 1 dX7_fallDown_g3.2.1 rfl rfl ?_
  obtain ⟨hj, h⟩ := h
  refine cg_ru_figure hE hm fk_X7_44 dX7_fallDown_g3.2.2.1 hj ?_
  refine r_iload_n hE 0 dX7_fallDown_g3.2.2.2.1 rfl rfl ?_
  refine c_callVi hE hm [.int x2] [] ck_X7_107 (cr_fg hm rfl) (kc_fg_typeOf h) (by decide) rfl rfl (Nat.le_of_ble_eq_true rfl) dX7_fallDown_g3.2.2.2.2.1 (fun s3 r4 h => ?_)
  refine r_case (0 : Int32) h (fun q0 h => ?_) (fun q0 h => ?_)
  · refine r_tableAt (off := 44) hE (0 : Int32) 152 dX7_fallDown_g3.2.2.2.2.2.1 q0 (by decide) (by decide) (by decide) (by decide) ?_
    refine r_aload_n hE 1 dX7_fallDown_g3.2.2.2.2.2.2.1 rfl rfl ?_
    refine r_aload_n hE 1 dX7_fallDown_g3.2.2.2.2.2.2.2.1 rfl rfl ?_
    obtain ⟨hj, h⟩ := h
    refine cg_ru_figure hE hm fk_X7_44 dX7_fallDown_g3.2.2.2.2.2.2.2.2.1 hj ?_
    refine r_iload_n hE 0 dX7_fallDown_g3.2.2.2.2.2.2.2.2.2.1 rfl rfl ?_
    refine c_callVi hE hm [.int x2] [.ref (G.1 1200)] ck_X7_110 (cr_fg hm rfl) (kc_fg_dataOf h) (by decide) rfl rfl (Nat.le_of_ble_eq_true rfl) dX7_fallDown_g3.2.2.2.2.2.2.2.2.2.2.1 (fun s5 r6 h => ?_)
    refine r_iconst (v := (-1 : Int32)) hE dX7_fallDown_g3.2.2.2.2.2.2.2.2.2.2.2.1 (by decide) ?_
    refine c_callVv hE hm [.int r6, .int (-1 : Int32)] [] ck_X7_127 (cr_ru hm rfl) (kc_ru_hold h) (by decide) rfl rfl (Nat.le_of_ble_eq_true rfl) dX7_fallDown_g3.2.2.2.2.2.2.2.2.2.2.2.2.1 (fun s7 h => ?_)
    refine r_aload_n hE 1 dX7_fallDown_g3.2.2.2.2.2.2.2.2.2.2.2.2.2.1 rfl rfl ?_
    refine c_callVv hE hm [] [] ck_X7_168 (cr_ru hm rfl) (kc_ru_drop h) (by decide) rfl rfl (Nat.le_of_ble_eq_true rfl) dX7_fallDown_g3.2.2.2.2.2.2.2.2.2.2.2.2.2.2.1 (fun s8 h => ?_)
    refine r_goto hE 214 dX7_fallDown_g3.2.2.2.2.2.2.2.2.2.2.2.2.2.2.2 (by decide) ?_
    exact c_vret hE hm hF dX7_fallDown_g5.2.2.2.2 h
  · refine r_case (1 : Int32) h (fun q1 h => ?_) (fun q1 h => ?_)
    · refine r_tableAt (off := 102) hE (1 : Int32) 210 dX7_fallDown_g3.2.2.2.2.2.1 q1 (by decide) (by decide) (by decide) (by decide) ?_
      refine r_pick [1] rfl ?_
      exact kc_ru_fallDown_210 hE hm hF _ h
    · refine r_case (2 : Int32) h (fun q2 h => ?_) (fun q2 h => ?_)
      · refine r_tableAt (off := 64) hE (2 : Int32) 172 dX7_fallDown_g3.2.2.2.2.2.1 q2 (by decide) (by decide) (by decide) (by decide) ?_
        refine r_aload_n hE 1 dX7_fallDown_g4.1 rfl rfl ?_
        refine r_aload_n hE 1 dX7_fallDown_g4.2.1 rfl rfl ?_
        obtain ⟨hj, h⟩ := h
        refine cg_ru_figure hE hm fk_X7_44 dX7_fallDown_g4.2.2.1 hj ?_
        refine r_iload_n hE 0 dX7_fallDown_g4.2.2.2.1 rfl rfl ?_
        refine c_callVi hE hm [.int x2] [.ref (G.1 1200)] ck_X7_233 (cr_fg hm rfl) (kc_fg_otherOf h) (by decide) rfl rfl (Nat.le_of_ble_eq_true rfl) dX7_fallDown_g4.2.2.2.2.1 (fun s9 r10 h => ?_)
        refine c_callVv hE hm [.int r10] [] ck_X7_219 (cr_ru hm rfl) (kc_ru_enterBlock h) (by decide) rfl rfl (Nat.le_of_ble_eq_true rfl) dX7_fallDown_g4.2.2.2.2.2.1 (fun s11 h => ?_)
        refine r_goto hE 214 dX7_fallDown_g4.2.2.2.2.2.2.1 (by decide) ?_
        exact c_vret hE hm hF dX7_fallDown_g5.2.2.2.2 h
      · refine r_case (3 : Int32) h (fun q3 h => ?_) (fun q3 h => ?_)
        · refine r_tableAt (off := 102) hE (3 : Int32) 210 dX7_fallDown_g3.2.2.2.2.2.1 q3 (by decide) (by decide) (by decide) (by decide) ?_
          refine r_pick [1] rfl ?_
          exact kc_ru_fallDown_210 hE hm hF _ h
        · refine r_case (4 : Int32) h (fun q4 h => ?_) (fun q4 h => ?_)
          · refine r_tableAt (off := 79) hE (4 : Int32) 187 dX7_fallDown_g3.2.2.2.2.2.1 q4 (by decide) (by decide) (by decide) (by decide) ?_
            refine r_aload_n hE 1 dX7_fallDown_g4.2.2.2.2.2.2.2.1 rfl rfl ?_
            refine cg_ru_told hE hm fk_X7_52 dX7_fallDown_g4.2.2.2.2.2.2.2.2.1 ?_
            refine r_iconst (v := (-1 : Int32)) hE dX7_fallDown_g4.2.2.2.2.2.2.2.2.2.1 (by decide) ?_
            refine c_callVv hE hm [.int (-1 : Int32)] [] ck_X7_239 (cr_to hm rfl) (kc_to_addStated h) (by decide) rfl rfl (Nat.le_of_ble_eq_true rfl) dX7_fallDown_g4.2.2.2.2.2.2.2.2.2.2.1 (fun s12 h => ?_)
            refine r_aload_n hE 1 dX7_fallDown_g4.2.2.2.2.2.2.2.2.2.2.2.1 rfl rfl ?_
            refine c_callVv hE hm [] [] ck_X7_168 (cr_ru hm rfl) (kc_ru_drop h) (by decide) rfl rfl (Nat.le_of_ble_eq_true rfl) dX7_fallDown_g4.2.2.2.2.2.2.2.2.2.2.2.2.1 (fun s13 h => ?_)
            refine r_goto hE 214 dX7_fallDown_g4.2.2.2.2.2.2.2.2.2.2.2.2.2.1 (by decide) ?_
            exact c_vret hE hm hF dX7_fallDown_g5.2.2.2.2 h
          · refine r_case (5 : Int32) h (fun q5 h => ?_) (fun q5 h => ?_)
            · refine r_tableAt (off := 102) hE (5 : Int32) 210 dX7_fallDown_g3.2.2.2.2.2.1 q5 (by decide) (by decide) (by decide) (by decide) ?_
              refine r_pick [1] rfl ?_
              exact kc_ru_fallDown_210 hE hm hF _ h
            · refine r_case (6 : Int32) h (fun q6 h => ?_) (fun q6 h => ?_)
              · refine r_tableAt (off := 94) hE (6 : Int32) 202 dX7_fallDown_g3.2.2.2.2.2.1 q6 (by decide) (by decide) (by decide) (by decide) ?_
                refine r_aload_n hE 1 dX7_fallDown_g4.2.2.2.2.2.2.2.2.2.2.2.2.2.2.1 rfl rfl ?_
                refine r_iconst (v := (-1 : Int32)) hE dX7_fallDown_g4.2.2.2.2.2.2.2.2.2.2.2.2.2.2.2 (by decide) ?_
                refine c_callVv hE hm [.int (-1 : Int32)] [] ck_X7_207 (cr_ru hm rfl) (kc_ru_giveBack h) (by decide) rfl rfl (Nat.le_of_ble_eq_true rfl) dX7_fallDown_g5.1 (fun s14 h => ?_)
                refine r_goto hE 214 dX7_fallDown_g5.2.1 (by decide) ?_
                exact c_vret hE hm hF dX7_fallDown_g5.2.2.2.2 h
              · have n0 := lv_neT q0 (show (0 : Int32).toInt = 0 by decide)
                have n1 := lv_neT q1 (show (1 : Int32).toInt = 1 by decide)
                have n2 := lv_neT q2 (show (2 : Int32).toInt = 2 by decide)
                have n3 := lv_neT q3 (show (3 : Int32).toInt = 3 by decide)
                have n4 := lv_neT q4 (show (4 : Int32).toInt = 4 by decide)
                have n5 := lv_neT q5 (show (5 : Int32).toInt = 5 by decide)
                have n6 := lv_neT q6 (show (6 : Int32).toInt = 6 by decide)
                refine r_tableOut hE 210 dX7_fallDown_g3.2.2.2.2.2.1 (by omega) (by decide) ?_
                refine r_pick [1] rfl ?_
                exact kc_ru_fallDown_210 hE hm hF _ h
def wc_ru_fallDown_49 (post : CS → Prop) : Nat → CS → Prop
  | 0, _ => False
  | n + 1, σ => (((c_ru_top σ) ≤ (0 : Int32)) → (wc_ru_fallDown_90 post σ)) ∧ ((¬ ((c_ru_top σ) ≤ (0 : Int32))) → (c_ru_figure σ = 300 ∧ (vp_in (c_ru_top σ) 401 ∧ (wc_fg_typeOf (fun (s15 : CS) (r16 : Int32) => ((r16 ≤ (6 : Int32)) → (wc_ru_fallDown_90 post s15)) ∧ ((¬ (r16 ≤ (6 : Int32))) → (∀ s17 : CS, s17 = c_ru_top_s s15 ((c_ru_top s15) - (1 : Int32)) → wc_ru_fallDown_49 post n s17))) σ (c_ru_node σ (c_ru_top σ).toNatClampNeg)))))
set_option maxRecDepth 20000 in
theorem kc_ru_fallDown_49  {E : gEnv} {l : Launch} {D : va_G} {G : gAd} {post : CS → Prop} (hE : gOK E cX7_fallDown RX7 none 4) (hm : cOK E l D G (pV post) 3) (hF : gFin E) : ∀ (n0 : Nat) (σ : CS), wc_ru_fallDown_49 post n0 σ → GW E (cW G σ) 49 [(0, .ref (G.1 1200))] [] := by
  intro n0
  induction n0 with
  | zero => intro σ h; exact h.elim
  | succ n0 ih =>
    intro σ h
    rw [wc_ru_fallDown_49] at h
    have hN := hm.2.2.2.2.2.2.1
    refine r_aload_n hE 0 dX7_fallDown_g1.2.2.2.2.2.2.2.1 rfl rfl ?_
    refine cg_ru_top hE hm fk_X7_28 dX7_fallDown_g1.2.2.2.2.2.2.2.2.1 ?_
    refine r_if_le hE 90 dX7_fallDown_g1.2.2.2.2.2.2.2.2.2.1 (by decide) h (fun h => ?_) (fun h => ?_)
    · exact kc_ru_fallDown_90 hE hm hF _ h
    · refine r_aload_n hE 0 dX7_fallDown_g1.2.2.2.2.2.2.2.2.2.2.1 rfl rfl ?_
      obtain ⟨hj, h⟩ := h
      refine cg_ru_figure hE hm fk_X7_44 dX7_fallDown_g1.2.2.2.2.2.2.2.2.2.2.2.1 hj ?_
      refine r_aload_n hE 0 dX7_fallDown_g1.2.2.2.2.2.2.2.2.2.2.2.2.1 rfl rfl ?_
      refine cg_ru_node hE hm fk_X7_11 dX7_fallDown_g1.2.2.2.2.2.2.2.2.2.2.2.2.2.1 ?_
      refine r_aload_n hE 0 dX7_fallDown_g1.2.2.2.2.2.2.2.2.2.2.2.2.2.2.1 rfl rfl ?_
      refine cg_ru_top hE hm fk_X7_28 dX7_fallDown_g1.2.2.2.2.2.2.2.2.2.2.2.2.2.2.2 ?_
      obtain ⟨hi, h⟩ := h
      refine cl_ru_node hE hm dX7_fallDown_g2.1 hi ?_
      refine c_callVi hE hm [.int (c_ru_node σ (c_ru_top σ).toNatClampNeg)] [] ck_X7_107 (cr_fg hm rfl) (kc_fg_typeOf h) (by decide) rfl rfl (Nat.le_of_ble_eq_true rfl) dX7_fallDown_g2.2.1 (fun s15 r16 h => ?_)
      refine r_bipush (v := (6 : Int32)) hE dX7_fallDown_g2.2.2.1 (by decide) ?_
      refine r_icmp_le hE 90 dX7_fallDown_g2.2.2.2.1 (by decide) h (fun h => ?_) (fun h => ?_)
      · exact kc_ru_fallDown_90 hE hm hF _ h
      · refine r_aload_n hE 0 dX7_fallDown_g2.2.2.2.2.1 rfl rfl ?_
        refine r_dup hE dX7_fallDown_g2.2.2.2.2.2.1 rfl ?_
        refine cg_ru_top hE hm fk_X7_28 dX7_fallDown_g2.2.2.2.2.2.2.1 ?_
        refine r_iconst (v := (1 : Int32)) hE dX7_fallDown_g2.2.2.2.2.2.2.2.1 (by decide) ?_
        refine r_isub hE dX7_fallDown_g2.2.2.2.2.2.2.2.2.1 ?_
        refine cp_ru_top hE hm fk_X7_28 dX7_fallDown_g2.2.2.2.2.2.2.2.2.2.1 h (fun s17 h => ?_)
        refine r_goto hE 49 dX7_fallDown_g2.2.2.2.2.2.2.2.2.2.2.1 (by decide) ?_
        exact ih _ h
def wc_ru_fallDown (post : CS → Prop) (σ : CS) (a1 : Int32) : Prop := wc_SX12_inside (fun (s18 : CS) (r19 : Int32) => ((¬ (r19 = (0 : Int32))) → (c_ru_figure s18 = 300 ∧ (vp_in (c_ru_top s18) 401 ∧ (wc_fg_atOf (fun (s20 : CS) (r21 : Int32) => wc_to_addFall (fun (s22 : CS) => (((c_to_spent s22) = (0 : Int32)) → (∃ k : Nat, wc_ru_fallDown_49 post k s22)) ∧ ((¬ ((c_to_spent s22) = (0 : Int32))) → (post s22))) s20 a1 r21) s18 (c_ru_node s18 (c_ru_top s18).toNatClampNeg))))) ∧ ((r19 = (0 : Int32)) → (post s18))) σ (c_ru_top σ) (401 : Int32)
set_option maxRecDepth 20000 in
theorem kc_ru_fallDown {l : Launch} {D : va_G} {G : gAd} {post : CS → Prop} {σ : CS} {a1 : Int32} (h : wc_ru_fallDown post σ a1) : cMet l D G yX7_fallDown cX7_fallDown 3 none 4 [.ref (G.1 1200), .int a1] σ (pV post) := by
  unfold wc_ru_fallDown at h
  refine c_enter (own := RX7) (by decide +kernel) rfl [(0, .ref (G.1 1200)), (1, .int a1)] rfl (Nat.le_of_ble_eq_true rfl) ?_
  intro E hE hm hF
  have hN := hm.2.2.2.2.2.2.1
  refine r_aload_n hE 0 dX7_fallDown_g0.1 rfl rfl ?_
  refine cg_ru_top hE hm fk_X7_28 dX7_fallDown_g0.2.1 ?_
  refine r_sipush (v := (401 : Int32)) hE dX7_fallDown_g0.2.2.1 (by decide) ?_
  refine c_callSNi hE hm [.int (c_ru_top σ), .int (401 : Int32)] [] ck_X7_92 cw_X7_92 (kc_SX12_inside h) (by decide) rfl rfl (Nat.le_of_ble_eq_true rfl) dX7_fallDown_g0.2.2.2.1 (fun s18 r19 h => ?_)
  refine r_if_ne hE 14 dX7_fallDown_g0.2.2.2.2.1 (by decide) h (fun h => ?_) (fun h => ?_)
  · refine r_aload_n hE 0 dX7_fallDown_g0.2.2.2.2.2.2.1 rfl rfl ?_
    refine cg_ru_told hE hm fk_X7_52 dX7_fallDown_g0.2.2.2.2.2.2.2.1 ?_
    refine r_iload_n hE 1 dX7_fallDown_g0.2.2.2.2.2.2.2.2.1 rfl rfl ?_
    refine r_aload_n hE 0 dX7_fallDown_g0.2.2.2.2.2.2.2.2.2.1 rfl rfl ?_
    obtain ⟨hj, h⟩ := h
    refine cg_ru_figure hE hm fk_X7_44 dX7_fallDown_g0.2.2.2.2.2.2.2.2.2.2.1 hj ?_
    refine r_aload_n hE 0 dX7_fallDown_g0.2.2.2.2.2.2.2.2.2.2.2.1 rfl rfl ?_
    refine cg_ru_node hE hm fk_X7_11 dX7_fallDown_g0.2.2.2.2.2.2.2.2.2.2.2.2.1 ?_
    refine r_aload_n hE 0 dX7_fallDown_g0.2.2.2.2.2.2.2.2.2.2.2.2.2.1 rfl rfl ?_
    refine cg_ru_top hE hm fk_X7_28 dX7_fallDown_g0.2.2.2.2.2.2.2.2.2.2.2.2.2.2.1 ?_
    obtain ⟨hi, h⟩ := h
    refine cl_ru_node hE hm dX7_fallDown_g0.2.2.2.2.2.2.2.2.2.2.2.2.2.2.2 hi ?_
    refine c_callVi hE hm [.int (c_ru_node s18 (c_ru_top s18).toNatClampNeg)] [.int a1, .ref (G.1 1100)] ck_X7_245 (cr_fg hm rfl) (kc_fg_atOf h) (by decide) rfl rfl (Nat.le_of_ble_eq_true rfl) dX7_fallDown_g1.1 (fun s20 r21 h => ?_)
    refine c_callVv hE hm [.int a1, .int r21] [] ck_X7_248 (cr_to hm rfl) (kc_to_addFall h) (by decide) rfl rfl (Nat.le_of_ble_eq_true rfl) dX7_fallDown_g1.2.1 (fun s22 h => ?_)
    refine r_aload_n hE 0 dX7_fallDown_g1.2.2.1 rfl rfl ?_
    refine cg_ru_told hE hm fk_X7_52 dX7_fallDown_g1.2.2.2.1 ?_
    refine cg_to_spent hE hm fk_X7_96 dX7_fallDown_g1.2.2.2.2.1 ?_
    refine r_if_eq hE 49 dX7_fallDown_g1.2.2.2.2.2.1 (by decide) h (fun h => ?_) (fun h => ?_)
    · refine r_pick [0] rfl ?_
      obtain ⟨k, h⟩ := h
      exact kc_ru_fallDown_49 hE hm hF k _ h
    · exact c_vret hE hm hF dX7_fallDown_g1.2.2.2.2.2.2.1 h
  · exact c_vret hE hm hF dX7_fallDown_g0.2.2.2.2.2.1 h
/-! ru_endPart -/
def wc_ru_endPart (post : CS → Prop) (σ : CS) (a1 : Int32) : Prop := (((c_rk_failure σ) = (0 : Int32)) → (wc_ru_drop (fun (s1 : CS) => wc_ru_pushValue (fun (s2 : CS) => post s2) s1 a1) σ)) ∧ ((¬ ((c_rk_failure σ) = (0 : Int32))) → (wc_ru_fallDown (fun (s3 : CS) => post s3) σ (c_rk_failure σ)))
set_option maxRecDepth 20000 in
theorem kc_ru_endPart {l : Launch} {D : va_G} {G : gAd} {post : CS → Prop} {σ : CS} {a1 : Int32} (h : wc_ru_endPart post σ a1) : cMet l D G yX7_endPart cX7_endPart 2 none 5 [.ref (G.1 1200), .int a1] σ (pV post) := by
  unfold wc_ru_endPart at h
  refine c_enter (own := RX7) (by decide +kernel) rfl [(0, .ref (G.1 1200)), (1, .int a1)] rfl (Nat.le_of_ble_eq_true rfl) ?_
  intro E hE hm hF
  have hN := hm.2.2.2.2.2.2.1
  refine r_aload_n hE 0 dX7_endPart_g0.1 rfl rfl ?_
  refine cg_ru_shop hE hm fk_X7_48 dX7_endPart_g0.2.1 ?_
  refine cg_wo_reckoner hE hm fk_X7_161 dX7_endPart_g0.2.2.1 ?_
  refine cg_rk_failure hE hm fk_X7_165 dX7_endPart_g0.2.2.2.1 ?_
  refine r_if_eq hE 30 dX7_endPart_g0.2.2.2.2.1 (by decide) h (fun h => ?_) (fun h => ?_)
  · refine r_aload_n hE 0 dX7_endPart_g0.2.2.2.2.2.2.2.2.2.2.2.2.1 rfl rfl ?_
    refine c_callVv hE hm [] [] ck_X7_168 (cr_ru hm rfl) (kc_ru_drop h) (by decide) rfl rfl (Nat.le_of_ble_eq_true rfl) dX7_endPart_g0.2.2.2.2.2.2.2.2.2.2.2.2.2.1 (fun s1 h => ?_)
    refine r_aload_n hE 0 dX7_endPart_g0.2.2.2.2.2.2.2.2.2.2.2.2.2.2.1 rfl rfl ?_
    refine r_iload_n hE 1 dX7_endPart_g0.2.2.2.2.2.2.2.2.2.2.2.2.2.2.2 rfl rfl ?_
    refine c_callVv hE hm [.int a1] [] ck_X7_148 (cr_ru hm rfl) (kc_ru_pushValue h) (by decide) rfl rfl (Nat.le_of_ble_eq_true rfl) dX7_endPart_g1.1 (fun s2 h => ?_)
    exact c_vret hE hm hF dX7_endPart_g1.2 h
  · refine r_aload_n hE 0 dX7_endPart_g0.2.2.2.2.2.1 rfl rfl ?_
    refine r_aload_n hE 0 dX7_endPart_g0.2.2.2.2.2.2.1 rfl rfl ?_
    refine cg_ru_shop hE hm fk_X7_48 dX7_endPart_g0.2.2.2.2.2.2.2.1 ?_
    refine cg_wo_reckoner hE hm fk_X7_161 dX7_endPart_g0.2.2.2.2.2.2.2.2.1 ?_
    refine cg_rk_failure hE hm fk_X7_165 dX7_endPart_g0.2.2.2.2.2.2.2.2.2.1 ?_
    refine c_callVv hE hm [.int (c_rk_failure σ)] [] ck_X7_158 (cr_ru hm rfl) (kc_ru_fallDown h) (by decide) rfl rfl (Nat.le_of_ble_eq_true rfl) dX7_endPart_g0.2.2.2.2.2.2.2.2.2.2.1 (fun s3 h => ?_)
    refine r_goto hE 39 dX7_endPart_g0.2.2.2.2.2.2.2.2.2.2.2.1 (by decide) ?_
    exact c_vret hE hm hF dX7_endPart_g1.2 h
/-! ru_heldBy -/
def wc_ru_heldBy (post : CS → Int32 → Prop) (σ : CS) (a1 : Int32) : Prop := ∀ x1 : Int32, x1 = ((c_ru_frame σ) * (20 : Int32)) + a1 → wc_SX12_inside (fun (s2 : CS) (r3 : Int32) => ((r3 = (0 : Int32)) → (post s2 (-1 : Int32))) ∧ ((¬ (r3 = (0 : Int32))) → (wc_SX12_inside (fun (s4 : CS) (r5 : Int32) => ((r5 = (0 : Int32)) → (post s4 (-1 : Int32))) ∧ ((¬ (r5 = (0 : Int32))) → (vp_in x1 180 ∧ (post s4 (c_ru_holds s4 x1.toNatClampNeg))))) s2 x1 (180 : Int32)))) σ a1 (20 : Int32)
set_option maxRecDepth 20000 in
theorem kc_ru_heldBy {l : Launch} {D : va_G} {G : gAd} {post : CS → Int32 → Prop} {σ : CS} {a1 : Int32} (h : wc_ru_heldBy post σ a1) : cMet l D G yX7_heldBy cX7_heldBy 3 (some .int) 2 [.ref (G.1 1200), .int a1] σ (pI post) := by
  unfold wc_ru_heldBy at h
  refine c_enter (own := RX7) (by decide +kernel) rfl [(0, .ref (G.1 1200)), (1, .int a1)] rfl (Nat.le_of_ble_eq_true rfl) ?_
  intro E hE hm hF
  have hN := hm.2.2.2.2.2.2.1
  refine r_aload_n hE 0 dX7_heldBy_g0.1 rfl rfl ?_
  refine cg_ru_frame hE hm fk_X7_41 dX7_heldBy_g0.2.1 ?_
  refine r_bipush (v := (20 : Int32)) hE dX7_heldBy_g0.2.2.1 (by decide) ?_
  refine r_imul hE dX7_heldBy_g0.2.2.2.1 ?_
  refine r_iload_n hE 1 dX7_heldBy_g0.2.2.2.2.1 rfl rfl ?_
  refine r_iadd hE dX7_heldBy_g0.2.2.2.2.2.1 ?_
  refine r_topi h (fun x1 ex1 h => ?_)
  refine r_istore_n hE [(2, .int x1), (0, .ref (G.1 1200)), (1, .int a1)] dX7_heldBy_g0.2.2.2.2.2.2.1 rfl hN (by decide) rfl ?_
  refine r_iload_n hE 2 dX7_heldBy_g0.2.2.2.2.2.2.2.1 rfl rfl ?_
  refine r_bipush (v := (20 : Int32)) hE dX7_heldBy_g0.2.2.2.2.2.2.2.2.1 (by decide) ?_
  refine c_callSNi hE hm [.int a1, .int (20 : Int32)] [] ck_X7_92 cw_X7_92 (kc_SX12_inside h) (by decide) rfl rfl (Nat.le_of_ble_eq_true rfl) dX7_heldBy_g0.2.2.2.2.2.2.2.2.2.1 (fun s2 r3 h => ?_)
  refine r_if_eq hE 40 dX7_heldBy_g0.2.2.2.2.2.2.2.2.2.2.1 (by decide) h (fun h => ?_) (fun h => ?_)
  · refine r_iconst (v := (-1 : Int32)) hE dX7_heldBy_g1.2.2.2.2.2.2.1 (by decide) ?_
    exact c_iret hE hm hF dX7_heldBy_g1.2.2.2.2.2.2.2 h
  · refine r_iload_n hE 0 dX7_heldBy_g0.2.2.2.2.2.2.2.2.2.2.2.1 rfl rfl ?_
    refine r_aload_n hE 1 dX7_heldBy_g0.2.2.2.2.2.2.2.2.2.2.2.2.1 rfl rfl ?_
    refine cg_ru_holds hE hm fk_X7_38 dX7_heldBy_g0.2.2.2.2.2.2.2.2.2.2.2.2.2.1 ?_
    refine cn_ru_holds hE hm dX7_heldBy_g0.2.2.2.2.2.2.2.2.2.2.2.2.2.2.1 ?_
    refine c_callSNi hE hm [.int x1, .int (180 : Int32)] [] ck_X7_92 cw_X7_92 (kc_SX12_inside h) (by decide) rfl rfl (Nat.le_of_ble_eq_true rfl) dX7_heldBy_g0.2.2.2.2.2.2.2.2.2.2.2.2.2.2.2 (fun s4 r5 h => ?_)
    refine r_if_eq hE 40 dX7_heldBy_g1.1 (by decide) h (fun h => ?_) (fun h => ?_)
    · refine r_iconst (v := (-1 : Int32)) hE dX7_heldBy_g1.2.2.2.2.2.2.1 (by decide) ?_
      exact c_iret hE hm hF dX7_heldBy_g1.2.2.2.2.2.2.2 h
    · refine r_aload_n hE 1 dX7_heldBy_g1.2.1 rfl rfl ?_
      refine cg_ru_holds hE hm fk_X7_38 dX7_heldBy_g1.2.2.1 ?_
      refine r_iload_n hE 0 dX7_heldBy_g1.2.2.2.1 rfl rfl ?_
      obtain ⟨hi, h⟩ := h
      refine cl_ru_holds hE hm dX7_heldBy_g1.2.2.2.2.1 hi ?_
      refine r_goto hE 41 dX7_heldBy_g1.2.2.2.2.2.1 (by decide) ?_
      exact c_iret hE hm hF dX7_heldBy_g1.2.2.2.2.2.2.2 h
/-! fg_firstOf -/
def wc_fg_firstOf (post : CS → Int32 → Prop) (σ : CS) (a1 : Int32) : Prop := ((a1 < (0 : Int32)) → (post σ (-1 : Int32))) ∧ ((¬ (a1 < (0 : Int32))) → ((((c_fg_nodes σ) ≤ a1) → (post σ (-1 : Int32))) ∧ ((¬ ((c_fg_nodes σ) ≤ a1)) → (vp_in a1 250 ∧ (post σ (c_fg_first σ a1.toNatClampNeg))))))
set_option maxRecDepth 20000 in
theorem kc_fg_firstOf {l : Launch} {D : va_G} {G : gAd} {post : CS → Int32 → Prop} {σ : CS} {a1 : Int32} (h : wc_fg_firstOf post σ a1) : cMet l D G yX1_firstOf cX1_firstOf 2 (some .int) 1 [.ref (G.1 300), .int a1] σ (pI post) := by
  unfold wc_fg_firstOf at h
  refine c_enter (own := RX1) (by decide +kernel) rfl [(0, .ref (G.1 300)), (1, .int a1)] rfl (Nat.le_of_ble_eq_true rfl) ?_
  intro E hE hm hF
  have hN := hm.2.2.2.2.2.2.1
  refine r_iload_n hE 1 dX1_firstOf_g0.1 rfl rfl ?_
  refine r_if_lt hE 21 dX1_firstOf_g0.2.1 (by decide) h (fun h => ?_) (fun h => ?_)
  · refine r_iconst (v := (-1 : Int32)) hE dX1_firstOf_g0.2.2.2.2.2.2.2.2.2.2.2.1 (by decide) ?_
    exact c_iret hE hm hF dX1_firstOf_g0.2.2.2.2.2.2.2.2.2.2.2.2 h
  · refine r_iload_n hE 1 dX1_firstOf_g0.2.2.1 rfl rfl ?_
    refine r_aload_n hE 0 dX1_firstOf_g0.2.2.2.1 rfl rfl ?_
    refine cg_fg_nodes hE hm fk_X1_41 dX1_firstOf_g0.2.2.2.2.1 ?_
    refine r_icmp_ge hE 21 dX1_firstOf_g0.2.2.2.2.2.1 (by decide) h (fun h => ?_) (fun h => ?_)
    · refine r_iconst (v := (-1 : Int32)) hE dX1_firstOf_g0.2.2.2.2.2.2.2.2.2.2.2.1 (by decide) ?_
      exact c_iret hE hm hF dX1_firstOf_g0.2.2.2.2.2.2.2.2.2.2.2.2 h
    · refine r_aload_n hE 0 dX1_firstOf_g0.2.2.2.2.2.2.1 rfl rfl ?_
      refine cg_fg_first hE hm fk_X1_29 dX1_firstOf_g0.2.2.2.2.2.2.2.1 ?_
      refine r_iload_n hE 1 dX1_firstOf_g0.2.2.2.2.2.2.2.2.1 rfl rfl ?_
      obtain ⟨hi, h⟩ := h
      refine cl_fg_first hE hm dX1_firstOf_g0.2.2.2.2.2.2.2.2.2.1 hi ?_
      refine r_goto hE 22 dX1_firstOf_g0.2.2.2.2.2.2.2.2.2.2.1 (by decide) ?_
      exact c_iret hE hm hF dX1_firstOf_g0.2.2.2.2.2.2.2.2.2.2.2.2 h
/-! ru_push -/
def wc_ru_push (post : CS → Prop) (σ : CS) (a1 : Int32) : Prop := wc_SX12_inside (fun (s1 : CS) (r2 : Int32) => ((¬ (r2 = (0 : Int32))) → (∀ s3 : CS, s3 = c_ru_top_s s1 ((c_ru_top s1) + (1 : Int32)) → vp_in (c_ru_top s3) 401 ∧ (∀ s4 : CS, s4 = c_ru_node_s s3 (c_ru_top s3).toNatClampNeg a1 → c_ru_figure s4 = 300 ∧ (wc_fg_firstOf (fun (s5 : CS) (r6 : Int32) => vp_in (c_ru_top s4) 401 ∧ (∀ s7 : CS, s7 = c_ru_cursor_s s5 (c_ru_top s4).toNatClampNeg r6 → vp_in (c_ru_top s7) 401 ∧ (∀ s8 : CS, s8 = c_ru_floor_s s7 (c_ru_top s7).toNatClampNeg (c_ru_values s7) → vp_in (c_ru_top s8) 401 ∧ (∀ s9 : CS, s9 = c_ru_inBlock_s s8 (c_ru_top s8).toNatClampNeg (0 : Int32) → vp_in (c_ru_top s9) 401 ∧ (∀ s10 : CS, s10 = c_ru_turns_s s9 (c_ru_top s9).toNatClampNeg (0 : Int32) → post s10))))) s4 a1)))) ∧ ((r2 = (0 : Int32)) → (∀ s11 : CS, s11 = c_to_spent_s s1 (1 : Int32) → post s11))) σ ((c_ru_top σ) + (1 : Int32)) (401 : Int32)
set_option maxRecDepth 20000 in
theorem kc_ru_push {l : Launch} {D : va_G} {G : gAd} {post : CS → Prop} {σ : CS} {a1 : Int32} (h : wc_ru_push post σ a1) : cMet l D G yX7_push cX7_push 2 none 2 [.ref (G.1 1200), .int a1] σ (pV post) := by
  unfold wc_ru_push at h
  refine c_enter (own := RX7) (by decide +kernel) rfl [(0, .ref (G.1 1200)), (1, .int a1)] rfl (Nat.le_of_ble_eq_true rfl) ?_
  intro E hE hm hF
  have hN := hm.2.2.2.2.2.2.1
  refine r_aload_n hE 0 dX7_push_g0.1 rfl rfl ?_
  refine cg_ru_top hE hm fk_X7_28 dX7_push_g0.2.1 ?_
  refine r_iconst (v := (1 : Int32)) hE dX7_push_g0.2.2.1 (by decide) ?_
  refine r_iadd hE dX7_push_g0.2.2.2.1 ?_
  refine r_sipush (v := (401 : Int32)) hE dX7_push_g0.2.2.2.2.1 (by decide) ?_
  refine c_callSNi hE hm [.int ((c_ru_top σ) + (1 : Int32)), .int (401 : Int32)] [] ck_X7_92 cw_X7_92 (kc_SX12_inside h) (by decide) rfl rfl (Nat.le_of_ble_eq_true rfl) dX7_push_g0.2.2.2.2.2.1 (fun s1 r2 h => ?_)
  refine r_if_ne hE 24 dX7_push_g0.2.2.2.2.2.2.1 (by decide) h (fun h => ?_) (fun h => ?_)
  · refine r_aload_n hE 0 dX7_push_g0.2.2.2.2.2.2.2.2.2.2.2.2.1 rfl rfl ?_
    refine r_dup hE dX7_push_g0.2.2.2.2.2.2.2.2.2.2.2.2.2.1 rfl ?_
    refine cg_ru_top hE hm fk_X7_28 dX7_push_g0.2.2.2.2.2.2.2.2.2.2.2.2.2.2.1 ?_
    refine r_iconst (v := (1 : Int32)) hE dX7_push_g0.2.2.2.2.2.2.2.2.2.2.2.2.2.2.2 (by decide) ?_
    refine r_iadd hE dX7_push_g1.1 ?_
    refine cp_ru_top hE hm fk_X7_28 dX7_push_g1.2.1 h (fun s3 h => ?_)
    refine r_aload_n hE 0 dX7_push_g1.2.2.1 rfl rfl ?_
    refine cg_ru_node hE hm fk_X7_11 dX7_push_g1.2.2.2.1 ?_
    refine r_aload_n hE 0 dX7_push_g1.2.2.2.2.1 rfl rfl ?_
    refine cg_ru_top hE hm fk_X7_28 dX7_push_g1.2.2.2.2.2.1 ?_
    refine r_iload_n hE 1 dX7_push_g1.2.2.2.2.2.2.1 rfl rfl ?_
    obtain ⟨hi, h⟩ := h
    refine cs_ru_node hE hm dX7_push_g1.2.2.2.2.2.2.2.1 hi h (fun s4 h => ?_)
    refine r_aload_n hE 0 dX7_push_g1.2.2.2.2.2.2.2.2.1 rfl rfl ?_
    refine cg_ru_cursor hE hm fk_X7_15 dX7_push_g1.2.2.2.2.2.2.2.2.2.1 ?_
    refine r_aload_n hE 0 dX7_push_g1.2.2.2.2.2.2.2.2.2.2.1 rfl rfl ?_
    refine cg_ru_top hE hm fk_X7_28 dX7_push_g1.2.2.2.2.2.2.2.2.2.2.2.1 ?_
    refine r_aload_n hE 0 dX7_push_g1.2.2.2.2.2.2.2.2.2.2.2.2.1 rfl rfl ?_
    obtain ⟨hj, h⟩ := h
    refine cg_ru_figure hE hm fk_X7_44 dX7_push_g1.2.2.2.2.2.2.2.2.2.2.2.2.2.1 hj ?_
    refine r_iload_n hE 1 dX7_push_g1.2.2.2.2.2.2.2.2.2.2.2.2.2.2.1 rfl rfl ?_
    refine c_callVi hE hm [.int a1] [.int (c_ru_top s4), .ref (G.1 1205)] ck_X7_131 (cr_fg hm rfl) (kc_fg_firstOf h) (by decide) rfl rfl (Nat.le_of_ble_eq_true rfl) dX7_push_g1.2.2.2.2.2.2.2.2.2.2.2.2.2.2.2 (fun s5 r6 h => ?_)
    obtain ⟨hi, h⟩ := h
    refine cs_ru_cursor hE hm dX7_push_g2.1 hi h (fun s7 h => ?_)
    refine r_aload_n hE 0 dX7_push_g2.2.1 rfl rfl ?_
    refine cg_ru_floor hE hm fk_X7_18 dX7_push_g2.2.2.1 ?_
    refine r_aload_n hE 0 dX7_push_g2.2.2.2.1 rfl rfl ?_
    refine cg_ru_top hE hm fk_X7_28 dX7_push_g2.2.2.2.2.1 ?_
    refine r_aload_n hE 0 dX7_push_g2.2.2.2.2.2.1 rfl rfl ?_
    refine cg_ru_values hE hm fk_X7_35 dX7_push_g2.2.2.2.2.2.2.1 ?_
    obtain ⟨hi, h⟩ := h
    refine cs_ru_floor hE hm dX7_push_g2.2.2.2.2.2.2.2.1 hi h (fun s8 h => ?_)
    refine r_aload_n hE 0 dX7_push_g2.2.2.2.2.2.2.2.2.1 rfl rfl ?_
    refine cg_ru_inBlock hE hm fk_X7_21 dX7_push_g2.2.2.2.2.2.2.2.2.2.1 ?_
    refine r_aload_n hE 0 dX7_push_g2.2.2.2.2.2.2.2.2.2.2.1 rfl rfl ?_
    refine cg_ru_top hE hm fk_X7_28 dX7_push_g2.2.2.2.2.2.2.2.2.2.2.2.1 ?_
    refine r_iconst (v := (0 : Int32)) hE dX7_push_g2.2.2.2.2.2.2.2.2.2.2.2.2.1 (by decide) ?_
    obtain ⟨hi, h⟩ := h
    refine cs_ru_inBlock hE hm dX7_push_g2.2.2.2.2.2.2.2.2.2.2.2.2.2.1 hi (Or.inl rfl) h (fun s9 h => ?_)
    refine r_aload_n hE 0 dX7_push_g2.2.2.2.2.2.2.2.2.2.2.2.2.2.2.1 rfl rfl ?_
    refine cg_ru_turns hE hm fk_X7_25 dX7_push_g2.2.2.2.2.2.2.2.2.2.2.2.2.2.2.2 ?_
    refine r_aload_n hE 0 dX7_push_g3.1 rfl rfl ?_
    refine cg_ru_top hE hm fk_X7_28 dX7_push_g3.2.1 ?_
    refine r_iconst (v := (0 : Int32)) hE dX7_push_g3.2.2.1 (by decide) ?_
    obtain ⟨hi, h⟩ := h
    refine cs_ru_turns hE hm dX7_push_g3.2.2.2.1 hi h (fun s10 h => ?_)
    exact c_vret hE hm hF dX7_push_g3.2.2.2.2 h
  · refine r_aload_n hE 0 dX7_push_g0.2.2.2.2.2.2.2.1 rfl rfl ?_
    refine cg_ru_told hE hm fk_X7_52 dX7_push_g0.2.2.2.2.2.2.2.2.1 ?_
    refine r_iconst (v := (1 : Int32)) hE dX7_push_g0.2.2.2.2.2.2.2.2.2.1 (by decide) ?_
    refine cp_to_spent hE hm fk_X7_96 dX7_push_g0.2.2.2.2.2.2.2.2.2.2.1 (Or.inr rfl) h (fun s11 h => ?_)
    exact c_vret hE hm hF dX7_push_g0.2.2.2.2.2.2.2.2.2.2.2.1 h
/-! to_goOn -/
def wc_to_goOn (post : CS → Int32 → Prop) (σ : CS) : Prop := (((c_to_steps σ) < (400 : Int32)) → (∀ s1 : CS, s1 = c_to_steps_s σ ((c_to_steps σ) + (1 : Int32)) → post s1 (1 : Int32))) ∧ ((¬ ((c_to_steps σ) < (400 : Int32))) → (∀ s2 : CS, s2 = c_to_spent_s σ (1 : Int32) → post s2 (0 : Int32)))
set_option maxRecDepth 20000 in
theorem kc_to_goOn {l : Launch} {D : va_G} {G : gAd} {post : CS → Int32 → Prop} {σ : CS} (h : wc_to_goOn post σ) : cMet l D G yX9_goOn cX9_goOn 1 (some .boolean) 1 [.ref (G.1 1100)] σ (pI post) := by
  unfold wc_to_goOn at h
  refine c_enter (own := RX9) (by decide +kernel) rfl [(0, .ref (G.1 1100))] rfl (Nat.le_of_ble_eq_true rfl) ?_
  intro E hE hm hF
  have hN := hm.2.2.2.2.2.2.1
  refine r_aload_n hE 0 dX9_goOn_g0.1 rfl rfl ?_
  refine cg_to_steps hE hm fk_X9_34 dX9_goOn_g0.2.1 ?_
  refine r_sipush (v := (400 : Int32)) hE dX9_goOn_g0.2.2.1 (by decide) ?_
  refine r_icmp_lt hE 17 dX9_goOn_g0.2.2.2.1 (by decide) h (fun h => ?_) (fun h => ?_)
  · refine r_aload_n hE 0 dX9_goOn_g0.2.2.2.2.2.2.2.2.2.1 rfl rfl ?_
    refine r_dup hE dX9_goOn_g0.2.2.2.2.2.2.2.2.2.2.1 rfl ?_
    refine cg_to_steps hE hm fk_X9_34 dX9_goOn_g0.2.2.2.2.2.2.2.2.2.2.2.1 ?_
    refine r_iconst (v := (1 : Int32)) hE dX9_goOn_g0.2.2.2.2.2.2.2.2.2.2.2.2.1 (by decide) ?_
    refine r_iadd hE dX9_goOn_g0.2.2.2.2.2.2.2.2.2.2.2.2.2.1 ?_
    refine cp_to_steps hE hm fk_X9_34 dX9_goOn_g0.2.2.2.2.2.2.2.2.2.2.2.2.2.2.1 h (fun s1 h => ?_)
    refine r_iconst (v := (1 : Int32)) hE dX9_goOn_g0.2.2.2.2.2.2.2.2.2.2.2.2.2.2.2 (by decide) ?_
    exact c_zret hE hm hF dX9_goOn_g1 (Or.inr rfl) h
  · refine r_aload_n hE 0 dX9_goOn_g0.2.2.2.2.1 rfl rfl ?_
    refine r_iconst (v := (1 : Int32)) hE dX9_goOn_g0.2.2.2.2.2.1 (by decide) ?_
    refine cp_to_spent hE hm fk_X9_37 dX9_goOn_g0.2.2.2.2.2.2.1 (Or.inr rfl) h (fun s2 h => ?_)
    refine r_iconst (v := (0 : Int32)) hE dX9_goOn_g0.2.2.2.2.2.2.2.1 (by decide) ?_
    exact c_zret hE hm hF dX9_goOn_g0.2.2.2.2.2.2.2.2.1 (Or.inl rfl) h
/-! to_isFullOf -/
def wc_to_isFullOf_28 (post : CS → Int32 → Prop) (σ : CS) : Prop := post σ (1 : Int32)
set_option maxRecDepth 20000 in
theorem kc_to_isFullOf_28  {E : gEnv} {l : Launch} {D : va_G} {G : gAd} {post : CS → Int32 → Prop} (hE : gOK E cX9_isFullOf RX9 (some .boolean) 1) (hm : cOK E l D G (pI post) 2) (hF : gFin E) (σ : CS) (h : wc_to_isFullOf_28 post σ) : GW E (cW G σ) 28 [] [] := by
  unfold wc_to_isFullOf_28 at h
  have hN := hm.2.2.2.2.2.2.1
  refine r_iconst (v := (1 : Int32)) hE dX9_isFullOf_g0.2.2.2.2.2.2.2.2.2.2.2.2.2.2.1 (by decide) ?_
  refine r_goto hE 33 dX9_isFullOf_g0.2.2.2.2.2.2.2.2.2.2.2.2.2.2.2 (by decide) ?_
  exact c_zret hE hm hF dX9_isFullOf_g1.2 (Or.inr rfl) h
def wc_to_isFullOf_14 (post : CS → Int32 → Prop) (σ : CS) (v1 : Int32) : Prop := ((¬ (v1 = (4 : Int32))) → (post σ (0 : Int32))) ∧ ((v1 = (4 : Int32)) → ((((c_to_states σ) < (40 : Int32)) → (post σ (0 : Int32))) ∧ ((¬ ((c_to_states σ) < (40 : Int32))) → (wc_to_isFullOf_28 post σ))))
set_option maxRecDepth 20000 in
theorem kc_to_isFullOf_14  {E : gEnv} {l : Launch} {D : va_G} {G : gAd} {post : CS → Int32 → Prop} (hE : gOK E cX9_isFullOf RX9 (some .boolean) 1) (hm : cOK E l D G (pI post) 2) (hF : gFin E) (σ : CS) (v1 : Int32) (h : wc_to_isFullOf_14 post σ v1) : GW E (cW G σ) 14 [(0, .ref (G.1 1100)), (1, .int v1)] [] := by
  unfold wc_to_isFullOf_14 at h
  have hN := hm.2.2.2.2.2.2.1
  refine r_iload_n hE 1 dX9_isFullOf_g0.2.2.2.2.2.2.2.1 rfl rfl ?_
  refine r_iconst (v := (4 : Int32)) hE dX9_isFullOf_g0.2.2.2.2.2.2.2.2.1 (by decide) ?_
  refine r_icmp_ne hE 32 dX9_isFullOf_g0.2.2.2.2.2.2.2.2.2.1 (by decide) h (fun h => ?_) (fun h => ?_)
  · refine r_iconst (v := (0 : Int32)) hE dX9_isFullOf_g1.1 (by decide) ?_
    exact c_zret hE hm hF dX9_isFullOf_g1.2 (Or.inl rfl) h
  · refine r_aload_n hE 0 dX9_isFullOf_g0.2.2.2.2.2.2.2.2.2.2.1 rfl rfl ?_
    refine cg_to_states hE hm fk_X9_28 dX9_isFullOf_g0.2.2.2.2.2.2.2.2.2.2.2.1 ?_
    refine r_bipush (v := (40 : Int32)) hE dX9_isFullOf_g0.2.2.2.2.2.2.2.2.2.2.2.2.1 (by decide) ?_
    refine r_icmp_lt hE 32 dX9_isFullOf_g0.2.2.2.2.2.2.2.2.2.2.2.2.2.1 (by decide) h (fun h => ?_) (fun h => ?_)
    · refine r_iconst (v := (0 : Int32)) hE dX9_isFullOf_g1.1 (by decide) ?_
      exact c_zret hE hm hF dX9_isFullOf_g1.2 (Or.inl rfl) h
    · refine r_pick [] rfl ?_
      exact kc_to_isFullOf_28 hE hm hF _ h
def wc_to_isFullOf (post : CS → Int32 → Prop) (σ : CS) (a1 : Int32) : Prop := ((¬ (a1 = (5 : Int32))) → (wc_to_isFullOf_14 post σ a1)) ∧ ((a1 = (5 : Int32)) → ((((40 : Int32) ≤ (c_to_draws σ)) → (wc_to_isFullOf_28 post σ)) ∧ ((¬ ((40 : Int32) ≤ (c_to_draws σ))) → (wc_to_isFullOf_14 post σ a1))))
set_option maxRecDepth 20000 in
theorem kc_to_isFullOf {l : Launch} {D : va_G} {G : gAd} {post : CS → Int32 → Prop} {σ : CS} {a1 : Int32} (h : wc_to_isFullOf post σ a1) : cMet l D G yX9_isFullOf cX9_isFullOf 2 (some .boolean) 1 [.ref (G.1 1100), .int a1] σ (pI post) := by
  unfold wc_to_isFullOf at h
  refine c_enter (own := RX9) (by decide +kernel) rfl [(0, .ref (G.1 1100)), (1, .int a1)] rfl (Nat.le_of_ble_eq_true rfl) ?_
  intro E hE hm hF
  have hN := hm.2.2.2.2.2.2.1
  refine r_iload_n hE 1 dX9_isFullOf_g0.1 rfl rfl ?_
  refine r_iconst (v := (5 : Int32)) hE dX9_isFullOf_g0.2.1 (by decide) ?_
  refine r_icmp_ne hE 14 dX9_isFullOf_g0.2.2.1 (by decide) h (fun h => ?_) (fun h => ?_)
  · exact kc_to_isFullOf_14 hE hm hF _ _ h
  · refine r_aload_n hE 0 dX9_isFullOf_g0.2.2.2.1 rfl rfl ?_
    refine cg_to_draws hE hm fk_X9_24 dX9_isFullOf_g0.2.2.2.2.1 ?_
    refine r_bipush (v := (40 : Int32)) hE dX9_isFullOf_g0.2.2.2.2.2.1 (by decide) ?_
    refine r_icmp_ge hE 28 dX9_isFullOf_g0.2.2.2.2.2.2.1 (by decide) h (fun h => ?_) (fun h => ?_)
    · refine r_pick [] rfl ?_
      exact kc_to_isFullOf_28 hE hm hF _ h
    · exact kc_to_isFullOf_14 hE hm hF _ _ h
/-! ru_enter -/
def wc_ru_enter (post : CS → Prop) (σ : CS) (a1 : Int32) : Prop := wc_to_goOn (fun (s1 : CS) (r2 : Int32) => ((¬ (r2 = (0 : Int32))) → (c_ru_figure s1 = 300 ∧ (wc_fg_typeOf (fun (s3 : CS) (r4 : Int32) => ((¬ (r4 = (7 : Int32))) → (((¬ (r4 = (8 : Int32))) → (wc_ru_push (fun (s5 : CS) => wc_to_isFullOf (fun (s6 : CS) (r7 : Int32) => ((r7 = (0 : Int32)) → (post s6)) ∧ ((¬ (r7 = (0 : Int32))) → (wc_ru_fallDown (fun (s8 : CS) => post s8) s6 (9 : Int32)))) s5 r4) s3 a1)) ∧ ((r4 = (8 : Int32)) → (c_ru_figure s3 = 300 ∧ (wc_fg_dataOf (fun (s9 : CS) (r10 : Int32) => wc_ru_heldBy (fun (s11 : CS) (r12 : Int32) => wc_ru_pushValue (fun (s13 : CS) => post s13) s11 r12) s9 r10) s3 a1))))) ∧ ((r4 = (7 : Int32)) → (c_ru_figure s3 = 300 ∧ (wc_fg_dataOf (fun (s14 : CS) (r15 : Int32) => wc_SX6_whole (fun (s16 : CS) (r17 : Int64) => wc_th_addNumber (fun (s18 : CS) (r19 : Int32) => wc_ru_pushValue (fun (s20 : CS) => post s20) s18 r19) s16 r17 (0 : Int32)) s14 r15) s3 a1)))) s1 a1))) ∧ ((r2 = (0 : Int32)) → (post s1))) σ
set_option maxRecDepth 20000 in
theorem kc_ru_enter {l : Launch} {D : va_G} {G : gAd} {post : CS → Prop} {σ : CS} {a1 : Int32} (h : wc_ru_enter post σ a1) : cMet l D G yX7_enter cX7_enter 3 none 5 [.ref (G.1 1200), .int a1] σ (pV post) := by
  unfold wc_ru_enter at h
  refine c_enter (own := RX7) (by decide +kernel) rfl [(0, .ref (G.1 1200)), (1, .int a1)] rfl (Nat.le_of_ble_eq_true rfl) ?_
  intro E hE hm hF
  have hN := hm.2.2.2.2.2.2.1
  refine r_aload_n hE 0 dX7_enter_g0.1 rfl rfl ?_
  refine cg_ru_told hE hm fk_X7_52 dX7_enter_g0.2.1 ?_
  refine c_callVi hE hm [] [] ck_X7_134 (cr_to hm rfl) (kc_to_goOn h) (by decide) rfl rfl (Nat.le_of_ble_eq_true rfl) dX7_enter_g0.2.2.1 (fun s1 r2 h => ?_)
  refine r_if_ne hE 11 dX7_enter_g0.2.2.2.1 (by decide) h (fun h => ?_) (fun h => ?_)
  · refine r_aload_n hE 0 dX7_enter_g0.2.2.2.2.2.1 rfl rfl ?_
    obtain ⟨hj, h⟩ := h
    refine cg_ru_figure hE hm fk_X7_44 dX7_enter_g0.2.2.2.2.2.2.1 hj ?_
    refine r_iload_n hE 1 dX7_enter_g0.2.2.2.2.2.2.2.1 rfl rfl ?_
    refine c_callVi hE hm [.int a1] [] ck_X7_107 (cr_fg hm rfl) (kc_fg_typeOf h) (by decide) rfl rfl (Nat.le_of_ble_eq_true rfl) dX7_enter_g0.2.2.2.2.2.2.2.2.1 (fun s3 r4 h => ?_)
    refine r_istore_n hE [(2, .int r4), (0, .ref (G.1 1200)), (1, .int a1)] dX7_enter_g0.2.2.2.2.2.2.2.2.2.1 rfl hN (by decide) rfl ?_
    refine r_iload_n hE 0 dX7_enter_g0.2.2.2.2.2.2.2.2.2.2.1 rfl rfl ?_
    refine r_bipush (v := (7 : Int32)) hE dX7_enter_g0.2.2.2.2.2.2.2.2.2.2.2.1 (by decide) ?_
    refine r_icmp_ne hE 55 dX7_enter_g0.2.2.2.2.2.2.2.2.2.2.2.2.1 (by decide) h (fun h => ?_) (fun h => ?_)
    · refine r_iload_n hE 0 dX7_enter_g1.2.2.2.2.2.2.2.2.2.2.1 rfl rfl ?_
      refine r_bipush (v := (8 : Int32)) hE dX7_enter_g1.2.2.2.2.2.2.2.2.2.2.2.1 (by decide) ?_
      refine r_icmp_ne hE 80 dX7_enter_g1.2.2.2.2.2.2.2.2.2.2.2.2.1 (by decide) h (fun h => ?_) (fun h => ?_)
      · refine r_aload_n hE 1 dX7_enter_g2.2.2.2.2.2.2.1 rfl rfl ?_
        refine r_iload_n hE 2 dX7_enter_g2.2.2.2.2.2.2.2.1 rfl rfl ?_
        refine c_callVv hE hm [.int a1] [] ck_X7_82 (cr_ru hm rfl) (kc_ru_push h) (by decide) rfl rfl (Nat.le_of_ble_eq_true rfl) dX7_enter_g2.2.2.2.2.2.2.2.2.1 (fun s5 h => ?_)
        refine r_aload_n hE 1 dX7_enter_g2.2.2.2.2.2.2.2.2.2.1 rfl rfl ?_
        refine cg_ru_told hE hm fk_X7_52 dX7_enter_g2.2.2.2.2.2.2.2.2.2.2.1 ?_
        refine r_iload_n hE 0 dX7_enter_g2.2.2.2.2.2.2.2.2.2.2.2.1 rfl rfl ?_
        refine c_callVi hE hm [.int r4] [] ck_X7_154 (cr_to hm rfl) (kc_to_isFullOf h) (by decide) rfl rfl (Nat.le_of_ble_eq_true rfl) dX7_enter_g2.2.2.2.2.2.2.2.2.2.2.2.2.1 (fun s6 r7 h => ?_)
        refine r_if_eq hE 102 dX7_enter_g2.2.2.2.2.2.2.2.2.2.2.2.2.2.1 (by decide) h (fun h => ?_) (fun h => ?_)
        · exact c_vret hE hm hF dX7_enter_g3.2 h
        · refine r_aload_n hE 1 dX7_enter_g2.2.2.2.2.2.2.2.2.2.2.2.2.2.2.1 rfl rfl ?_
          refine r_bipush (v := (9 : Int32)) hE dX7_enter_g2.2.2.2.2.2.2.2.2.2.2.2.2.2.2.2 (by decide) ?_
          refine c_callVv hE hm [.int (9 : Int32)] [] ck_X7_158 (cr_ru hm rfl) (kc_ru_fallDown h) (by decide) rfl rfl (Nat.le_of_ble_eq_true rfl) dX7_enter_g3.1 (fun s8 h => ?_)
          exact c_vret hE hm hF dX7_enter_g3.2 h
      · refine r_aload_n hE 1 dX7_enter_g1.2.2.2.2.2.2.2.2.2.2.2.2.2.1 rfl rfl ?_
        refine r_aload_n hE 1 dX7_enter_g1.2.2.2.2.2.2.2.2.2.2.2.2.2.2.1 rfl rfl ?_
        refine r_aload_n hE 1 dX7_enter_g1.2.2.2.2.2.2.2.2.2.2.2.2.2.2.2 rfl rfl ?_
        obtain ⟨hj, h⟩ := h
        refine cg_ru_figure hE hm fk_X7_44 dX7_enter_g2.1 hj ?_
        refine r_iload_n hE 2 dX7_enter_g2.2.1 rfl rfl ?_
        refine c_callVi hE hm [.int a1] [.ref (G.1 1200), .ref (G.1 1200)] ck_X7_110 (cr_fg hm rfl) (kc_fg_dataOf h) (by decide) rfl rfl (Nat.le_of_ble_eq_true rfl) dX7_enter_g2.2.2.1 (fun s9 r10 h => ?_)
        refine c_callVi hE hm [.int r10] [.ref (G.1 1200)] ck_X7_151 (cr_ru hm rfl) (kc_ru_heldBy h) (by decide) rfl rfl (Nat.le_of_ble_eq_true rfl) dX7_enter_g2.2.2.2.1 (fun s11 r12 h => ?_)
        refine c_callVv hE hm [.int r12] [] ck_X7_148 (cr_ru hm rfl) (kc_ru_pushValue h) (by decide) rfl rfl (Nat.le_of_ble_eq_true rfl) dX7_enter_g2.2.2.2.2.1 (fun s13 h => ?_)
        refine r_goto hE 102 dX7_enter_g2.2.2.2.2.2.1 (by decide) ?_
        exact c_vret hE hm hF dX7_enter_g3.2 h
    · refine r_aload_n hE 1 dX7_enter_g0.2.2.2.2.2.2.2.2.2.2.2.2.2.1 rfl rfl ?_
      refine r_aload_n hE 1 dX7_enter_g0.2.2.2.2.2.2.2.2.2.2.2.2.2.2.1 rfl rfl ?_
      refine cg_ru_shop hE hm fk_X7_48 dX7_enter_g0.2.2.2.2.2.2.2.2.2.2.2.2.2.2.2 ?_
      refine cg_wo_things hE hm fk_X7_61 dX7_enter_g1.1 ?_
      refine r_aload_n hE 1 dX7_enter_g1.2.1 rfl rfl ?_
      obtain ⟨hj, h⟩ := h
      refine cg_ru_figure hE hm fk_X7_44 dX7_enter_g1.2.2.1 hj ?_
      refine r_iload_n hE 2 dX7_enter_g1.2.2.2.1 rfl rfl ?_
      refine c_callVi hE hm [.int a1] [.ref (G.1 900), .ref (G.1 1200)] ck_X7_110 (cr_fg hm rfl) (kc_fg_dataOf h) (by decide) rfl rfl (Nat.le_of_ble_eq_true rfl) dX7_enter_g1.2.2.2.2.1 (fun s14 r15 h => ?_)
      refine c_callSl hE hm [.int r15] [.ref (G.1 900), .ref (G.1 1200)] ck_X7_138 (kc_SX6_whole h) (by decide) rfl rfl (Nat.le_of_ble_eq_true rfl) dX7_enter_g1.2.2.2.2.2.1 (fun s16 r17 h => ?_)
      refine r_iconst (v := (0 : Int32)) hE dX7_enter_g1.2.2.2.2.2.2.1 (by decide) ?_
      refine c_callVi hE hm [.long r17, .int (0 : Int32)] [.ref (G.1 1200)] ck_X7_144 (cr_th hm rfl) (kc_th_addNumber h) (by decide) rfl rfl (Nat.le_of_ble_eq_true rfl) dX7_enter_g1.2.2.2.2.2.2.2.1 (fun s18 r19 h => ?_)
      refine c_callVv hE hm [.int r19] [] ck_X7_148 (cr_ru hm rfl) (kc_ru_pushValue h) (by decide) rfl rfl (Nat.le_of_ble_eq_true rfl) dX7_enter_g1.2.2.2.2.2.2.2.2.1 (fun s20 h => ?_)
      refine r_goto hE 102 dX7_enter_g1.2.2.2.2.2.2.2.2.2.1 (by decide) ?_
      exact c_vret hE hm hF dX7_enter_g3.2 h
  · exact c_vret hE hm hF dX7_enter_g0.2.2.2.2.1 h
/-! wo_reckoned -/
def wc_wo_reckoned_126 (post : CS → Int64 → Prop) (σ : CS) (t0 : Int32) : Prop := wc_SX6_truth (fun (s1 : CS) (r2 : Int64) => post s1 r2) σ t0
set_option maxRecDepth 20000 in
theorem kc_wo_reckoned_126  {E : gEnv} {l : Launch} {D : va_G} {G : gAd} {post : CS → Int64 → Prop} (hE : gOK E cX11_reckoned RX11 (some .long) 3) (hm : cOK E l D G (pL post) 6) (hF : gFin E) (σ : CS) (t0 : Int32) (h : wc_wo_reckoned_126 post σ t0) : GW E (cW G σ) 126 [] [.int t0] := by
  unfold wc_wo_reckoned_126 at h
  have hN := hm.2.2.2.2.2.2.1
  refine c_callSl hE hm [.int t0] [] ck_X11_208 (kc_SX6_truth h) (by decide) rfl rfl (Nat.le_of_ble_eq_true rfl) dX11_reckoned_g2.2.2.2.2.2.2.2.2.2.2.1 (fun s1 r2 h => ?_)
  exact c_lret hE hm hF dX11_reckoned_g2.2.2.2.2.2.2.2.2.2.2.2 h
def wc_wo_reckoned_110 (post : CS → Int64 → Prop) (σ : CS) (t0 : Int32) : Prop := wc_SX6_truth (fun (s3 : CS) (r4 : Int64) => post s3 r4) σ t0
set_option maxRecDepth 20000 in
theorem kc_wo_reckoned_110  {E : gEnv} {l : Launch} {D : va_G} {G : gAd} {post : CS → Int64 → Prop} (hE : gOK E cX11_reckoned RX11 (some .long) 3) (hm : cOK E l D G (pL post) 6) (hF : gFin E) (σ : CS) (t0 : Int32) (h : wc_wo_reckoned_110 post σ t0) : GW E (cW G σ) 110 [] [.int t0] := by
  unfold wc_wo_reckoned_110 at h
  have hN := hm.2.2.2.2.2.2.1
  refine c_callSl hE hm [.int t0] [] ck_X11_208 (kc_SX6_truth h) (by decide) rfl rfl (Nat.le_of_ble_eq_true rfl) dX11_reckoned_g2.2.1 (fun s3 r4 h => ?_)
  exact c_lret hE hm hF dX11_reckoned_g2.2.2.1 h
def wc_wo_reckoned (post : CS → Int64 → Prop) (σ : CS) (a1 : Int32) (a2 : Int64) (a4 : Int64) : Prop := (a1 = (42 : Int32) → (wc_rk_times (fun (s5 : CS) (r6 : Int64) => post s5 r6) σ a2 a4)) ∧ (¬ a1 = (42 : Int32) → ((a1 = (43 : Int32) → (wc_rk_plus (fun (s7 : CS) (r8 : Int64) => post s7 r8) σ a2 a4)) ∧ (¬ a1 = (43 : Int32) → ((a1 = (45 : Int32) → (wc_rk_minus (fun (s9 : CS) (r10 : Int64) => post s9 r10) σ a2 a4)) ∧ (¬ a1 = (45 : Int32) → ((a1 = (47 : Int32) → (wc_rk_over (fun (s11 : CS) (r12 : Int64) => post s11 r12) σ a2 a4)) ∧ (¬ a1 = (47 : Int32) → ((a1 = (60 : Int32) → (wc_SX6_compare (fun (s13 : CS) (r14 : Int32) => (((0 : Int32) ≤ r14) → (wc_wo_reckoned_110 post s13 (0 : Int32))) ∧ ((¬ ((0 : Int32) ≤ r14)) → (wc_wo_reckoned_110 post s13 (1 : Int32)))) σ a2 a4)) ∧ (¬ a1 = (60 : Int32) → (((¬ ((lg_cmp a2 a4) = (0 : Int32))) → (wc_wo_reckoned_126 post σ (0 : Int32))) ∧ (((lg_cmp a2 a4) = (0 : Int32)) → (wc_wo_reckoned_126 post σ (1 : Int32)))))))))))))
set_option maxRecDepth 20000 in
theorem kc_wo_reckoned {l : Launch} {D : va_G} {G : gAd} {post : CS → Int64 → Prop} {σ : CS} {a1 : Int32} {a2 : Int64} {a4 : Int64} (h : wc_wo_reckoned post σ a1 a2 a4) : cMet l D G yX11_reckoned cX11_reckoned 6 (some .long) 3 [.ref (G.1 1300), .int a1, .long a2, .long a4] σ (pL post) := by
  unfold wc_wo_reckoned at h
  refine c_enter (own := RX11) (by decide +kernel) rfl [(0, .ref (G.1 1300)), (1, .int a1), (2, .long a2), (4, .long a4)] rfl (Nat.le_of_ble_eq_true rfl) ?_
  intro E hE hm hF
  have hN := hm.2.2.2.2.2.2.1
  refine r_iload_n hE 1 dX11_reckoned_g0.1 rfl rfl ?_
  refine r_case (42 : Int32) h (fun q0 h => ?_) (fun q0 h => ?_)
  · refine r_look (off := 73) hE 74 dX11_reckoned_g0.2.1 (by decide) (by rw [q0]; decide) (by decide) ?_
    refine r_aload_n hE 0 dX11_reckoned_g0.2.2.2.2.2.2.2.2.2.2.2.2.2.2.1 rfl rfl ?_
    refine cg_wo_reckoner hE hm fk_X11_36 dX11_reckoned_g0.2.2.2.2.2.2.2.2.2.2.2.2.2.2.2 ?_
    refine r_lload_n hE 2 dX11_reckoned_g1.1 rfl rfl ?_
    refine r_lload hE 3 dX11_reckoned_g1.2.1 rfl ?_
    refine c_callVl hE hm [.long a2, .long a4] [] ck_X11_236 (cr_rk hm rfl) (kc_rk_times h) (by decide) rfl rfl (Nat.le_of_ble_eq_true rfl) dX11_reckoned_g1.2.2.1 (fun s5 r6 h => ?_)
    exact c_lret hE hm hF dX11_reckoned_g1.2.2.2.1 h
  · refine r_case (43 : Int32) h (fun q1 h => ?_) (fun q1 h => ?_)
    · refine r_look (off := 51) hE 52 dX11_reckoned_g0.2.1 (by decide) (by rw [q1]; decide) (by decide) ?_
      refine r_aload_n hE 0 dX11_reckoned_g0.2.2.1 rfl rfl ?_
      refine cg_wo_reckoner hE hm fk_X11_36 dX11_reckoned_g0.2.2.2.1 ?_
      refine r_lload_n hE 2 dX11_reckoned_g0.2.2.2.2.1 rfl rfl ?_
      refine r_lload hE 3 dX11_reckoned_g0.2.2.2.2.2.1 rfl ?_
      refine c_callVl hE hm [.long a2, .long a4] [] ck_X11_239 (cr_rk hm rfl) (kc_rk_plus h) (by decide) rfl rfl (Nat.le_of_ble_eq_true rfl) dX11_reckoned_g0.2.2.2.2.2.2.1 (fun s7 r8 h => ?_)
      exact c_lret hE hm hF dX11_reckoned_g0.2.2.2.2.2.2.2.1 h
    · refine r_case (45 : Int32) h (fun q2 h => ?_) (fun q2 h => ?_)
      · refine r_look (off := 62) hE 63 dX11_reckoned_g0.2.1 (by decide) (by rw [q2]; decide) (by decide) ?_
        refine r_aload_n hE 0 dX11_reckoned_g0.2.2.2.2.2.2.2.2.1 rfl rfl ?_
        refine cg_wo_reckoner hE hm fk_X11_36 dX11_reckoned_g0.2.2.2.2.2.2.2.2.2.1 ?_
        refine r_lload_n hE 2 dX11_reckoned_g0.2.2.2.2.2.2.2.2.2.2.1 rfl rfl ?_
        refine r_lload hE 3 dX11_reckoned_g0.2.2.2.2.2.2.2.2.2.2.2.1 rfl ?_
        refine c_callVl hE hm [.long a2, .long a4] [] ck_X11_226 (cr_rk hm rfl) (kc_rk_minus h) (by decide) rfl rfl (Nat.le_of_ble_eq_true rfl) dX11_reckoned_g0.2.2.2.2.2.2.2.2.2.2.2.2.1 (fun s9 r10 h => ?_)
        exact c_lret hE hm hF dX11_reckoned_g0.2.2.2.2.2.2.2.2.2.2.2.2.2.1 h
      · refine r_case (47 : Int32) h (fun q3 h => ?_) (fun q3 h => ?_)
        · refine r_look (off := 84) hE 85 dX11_reckoned_g0.2.1 (by decide) (by rw [q3]; decide) (by decide) ?_
          refine r_aload_n hE 0 dX11_reckoned_g1.2.2.2.2.1 rfl rfl ?_
          refine cg_wo_reckoner hE hm fk_X11_36 dX11_reckoned_g1.2.2.2.2.2.1 ?_
          refine r_lload_n hE 2 dX11_reckoned_g1.2.2.2.2.2.2.1 rfl rfl ?_
          refine r_lload hE 3 dX11_reckoned_g1.2.2.2.2.2.2.2.1 rfl ?_
          refine c_callVl hE hm [.long a2, .long a4] [] ck_X11_204 (cr_rk hm rfl) (kc_rk_over h) (by decide) rfl rfl (Nat.le_of_ble_eq_true rfl) dX11_reckoned_g1.2.2.2.2.2.2.2.2.1 (fun s11 r12 h => ?_)
          exact c_lret hE hm hF dX11_reckoned_g1.2.2.2.2.2.2.2.2.2.1 h
        · refine r_case (60 : Int32) h (fun q4 h => ?_) (fun q4 h => ?_)
          · refine r_look (off := 95) hE 96 dX11_reckoned_g0.2.1 (by decide) (by rw [q4]; decide) (by decide) ?_
            refine r_lload_n hE 2 dX11_reckoned_g1.2.2.2.2.2.2.2.2.2.2.1 rfl rfl ?_
            refine r_lload hE 3 dX11_reckoned_g1.2.2.2.2.2.2.2.2.2.2.2.1 rfl ?_
            refine c_callSi hE hm [.long a2, .long a4] [] ck_X11_246 (kc_SX6_compare h) (by decide) rfl rfl (Nat.le_of_ble_eq_true rfl) dX11_reckoned_g1.2.2.2.2.2.2.2.2.2.2.2.2.1 (fun s13 r14 h => ?_)
            refine r_if_ge hE 109 dX11_reckoned_g1.2.2.2.2.2.2.2.2.2.2.2.2.2.1 (by decide) h (fun h => ?_) (fun h => ?_)
            · refine r_iconst (v := (0 : Int32)) hE dX11_reckoned_g2.1 (by decide) ?_
              refine r_pick [] rfl ?_
              exact kc_wo_reckoned_110 hE hm hF _ _ h
            · refine r_iconst (v := (1 : Int32)) hE dX11_reckoned_g1.2.2.2.2.2.2.2.2.2.2.2.2.2.2.1 (by decide) ?_
              refine r_goto hE 110 dX11_reckoned_g1.2.2.2.2.2.2.2.2.2.2.2.2.2.2.2 (by decide) ?_
              refine r_pick [] rfl ?_
              exact kc_wo_reckoned_110 hE hm hF _ _ h
          · refine r_look (off := 113) hE 114 dX11_reckoned_g0.2.1 (by decide) ((lv_osw q0 (show (42 : Int32).toInt = 42 by decide)).trans ((lv_osw q1 (show (43 : Int32).toInt = 43 by decide)).trans ((lv_osw q2 (show (45 : Int32).toInt = 45 by decide)).trans ((lv_osw q3 (show (47 : Int32).toInt = 47 by decide)).trans ((lv_osw q4 (show (60 : Int32).toInt = 60 by decide)).trans (rfl)))))) (by decide) ?_
            refine r_lload_n hE 2 dX11_reckoned_g2.2.2.2.1 rfl rfl ?_
            refine r_lload hE 3 dX11_reckoned_g2.2.2.2.2.1 rfl ?_
            refine r_lcmp hE dX11_reckoned_g2.2.2.2.2.2.1 ?_
            refine r_if_ne hE 125 dX11_reckoned_g2.2.2.2.2.2.2.1 (by decide) h (fun h => ?_) (fun h => ?_)
            · refine r_iconst (v := (0 : Int32)) hE dX11_reckoned_g2.2.2.2.2.2.2.2.2.2.1 (by decide) ?_
              refine r_pick [] rfl ?_
              exact kc_wo_reckoned_126 hE hm hF _ _ h
            · refine r_iconst (v := (1 : Int32)) hE dX11_reckoned_g2.2.2.2.2.2.2.2.1 (by decide) ?_
              refine r_goto hE 126 dX11_reckoned_g2.2.2.2.2.2.2.2.2.1 (by decide) ?_
              refine r_pick [] rfl ?_
              exact kc_wo_reckoned_126 hE hm hF _ _ h
/-! wo_between -/
def wc_wo_between_58 (post : CS → Int32 → Prop) (σ : CS) (v2 : Int32) (v3 : Int32) (t0 : Int64) : Prop := (((c_rk_failure σ) = (0 : Int32)) → (wc_th_leaningOf (fun (s1 : CS) (r2 : Int32) => wc_th_leaningOf (fun (s3 : CS) (r4 : Int32) => wc_th_addNumber (fun (s5 : CS) (r6 : Int32) => post s5 r6) s3 t0 (r2 ||| r4)) s1 v3) σ v2)) ∧ ((¬ ((c_rk_failure σ) = (0 : Int32))) → (post σ (-1 : Int32)))
set_option maxRecDepth 20000 in
theorem kc_wo_between_58  {E : gEnv} {l : Launch} {D : va_G} {G : gAd} {post : CS → Int32 → Prop} (hE : gOK E cX11_between RX11 (some .int) 4) (hm : cOK E l D G (pI post) 6) (hF : gFin E) (σ : CS) (v2 : Int32) (v3 : Int32) (t0 : Int64) (h : wc_wo_between_58 post σ v2 v3 t0) : GW E (cW G σ) 58 [(0, .ref (G.1 1300)), (2, .int v2), (3, .int v3)] [.long t0] := by
  unfold wc_wo_between_58 at h
  have hN := hm.2.2.2.2.2.2.1
  refine r_lstore hE [(4, .long t0), (0, .ref (G.1 1300)), (2, .int v2), (3, .int v3)] dX11_between_g1.2.2.2.2.2.2.2.2.2.2.2.2.2.2.1 hN (by decide) rfl ?_
  refine r_aload_n hE 1 dX11_between_g1.2.2.2.2.2.2.2.2.2.2.2.2.2.2.2 rfl rfl ?_
  refine cg_wo_reckoner hE hm fk_X11_36 dX11_between_g2.1 ?_
  refine cg_rk_failure hE hm fk_X11_65 dX11_between_g2.2.1 ?_
  refine r_if_eq hE 72 dX11_between_g2.2.2.1 (by decide) h (fun h => ?_) (fun h => ?_)
  · refine r_aload_n hE 1 dX11_between_g2.2.2.2.2.2.1 rfl rfl ?_
    refine cg_wo_things hE hm fk_X11_40 dX11_between_g2.2.2.2.2.2.2.1 ?_
    refine r_lload hE 0 dX11_between_g2.2.2.2.2.2.2.2.1 rfl ?_
    refine r_aload_n hE 1 dX11_between_g2.2.2.2.2.2.2.2.2.1 rfl rfl ?_
    refine cg_wo_things hE hm fk_X11_40 dX11_between_g2.2.2.2.2.2.2.2.2.2.1 ?_
    refine r_iload_n hE 2 dX11_between_g2.2.2.2.2.2.2.2.2.2.2.1 rfl rfl ?_
    refine c_callVi hE hm [.int v2] [.long t0, .ref (G.1 900)] ck_X11_93 (cr_th hm rfl) (kc_th_leaningOf h) (by decide) rfl rfl (Nat.le_of_ble_eq_true rfl) dX11_between_g2.2.2.2.2.2.2.2.2.2.2.2.1 (fun s1 r2 h => ?_)
    refine r_aload_n hE 1 dX11_between_g2.2.2.2.2.2.2.2.2.2.2.2.2.1 rfl rfl ?_
    refine cg_wo_things hE hm fk_X11_40 dX11_between_g2.2.2.2.2.2.2.2.2.2.2.2.2.2.1 ?_
    refine r_iload_n hE 3 dX11_between_g2.2.2.2.2.2.2.2.2.2.2.2.2.2.2.1 rfl rfl ?_
    refine c_callVi hE hm [.int v3] [.int r2, .long t0, .ref (G.1 900)] ck_X11_93 (cr_th hm rfl) (kc_th_leaningOf h) (by decide) rfl rfl (Nat.le_of_ble_eq_true rfl) dX11_between_g2.2.2.2.2.2.2.2.2.2.2.2.2.2.2.2 (fun s3 r4 h => ?_)
    refine r_ior hE dX11_between_g3.1 ?_
    refine c_callVi hE hm [.long t0, .int (r2 ||| r4)] [] ck_X11_107 (cr_th hm rfl) (kc_th_addNumber h) (by decide) rfl rfl (Nat.le_of_ble_eq_true rfl) dX11_between_g3.2.1 (fun s5 r6 h => ?_)
    exact c_iret hE hm hF dX11_between_g3.2.2 h
  · refine r_iconst (v := (-1 : Int32)) hE dX11_between_g2.2.2.2.1 (by decide) ?_
    exact c_iret hE hm hF dX11_between_g2.2.2.2.2.1 h
def wc_wo_between (post : CS → Int32 → Prop) (σ : CS) (a1 : Int32) (a2 : Int32) (a3 : Int32) : Prop := wc_rk_begin (fun (s7 : CS) => wc_wo_ask (fun (s8 : CS) => wc_wo_ask (fun (s9 : CS) => ((¬ ((c_rk_failure s9) = (0 : Int32))) → (wc_wo_between_58 post s9 a2 a3 (1 : Int64))) ∧ (((c_rk_failure s9) = (0 : Int32)) → (wc_th_partOf (fun (s10 : CS) (r11 : Int64) => wc_th_partOf (fun (s12 : CS) (r13 : Int64) => wc_wo_reckoned (fun (s14 : CS) (r15 : Int64) => wc_wo_between_58 post s14 a2 a3 r15) s12 a1 r11 r13) s10 a3 (0 : Int32)) s9 a2 (0 : Int32)))) s8 a3 (78 : Int32)) s7 a2 (78 : Int32)) σ
set_option maxRecDepth 20000 in
theorem kc_wo_between {l : Launch} {D : va_G} {G : gAd} {post : CS → Int32 → Prop} {σ : CS} {a1 : Int32} {a2 : Int32} {a3 : Int32} (h : wc_wo_between post σ a1 a2 a3) : cMet l D G yX11_between cX11_between 6 (some .int) 4 [.ref (G.1 1300), .int a1, .int a2, .int a3] σ (pI post) := by
  unfold wc_wo_between at h
  refine c_enter (own := RX11) (by decide +kernel) rfl [(0, .ref (G.1 1300)), (1, .int a1), (2, .int a2), (3, .int a3)] rfl (Nat.le_of_ble_eq_true rfl) ?_
  intro E hE hm hF
  have hN := hm.2.2.2.2.2.2.1
  refine r_aload_n hE 0 dX11_between_g0.1 rfl rfl ?_
  refine cg_wo_reckoner hE hm fk_X11_36 dX11_between_g0.2.1 ?_
  refine c_callVv hE hm [] [] ck_X11_58 (cr_rk hm rfl) (kc_rk_begin h) (by decide) rfl rfl (Nat.le_of_ble_eq_true rfl) dX11_between_g0.2.2.1 (fun s7 h => ?_)
  refine r_aload_n hE 0 dX11_between_g0.2.2.2.1 rfl rfl ?_
  refine r_iload_n hE 2 dX11_between_g0.2.2.2.2.1 rfl rfl ?_
  refine r_bipush (v := (78 : Int32)) hE dX11_between_g0.2.2.2.2.2.1 (by decide) ?_
  refine c_callVv hE hm [.int a2, .int (78 : Int32)] [] ck_X11_61 (cr_wo hm rfl) (kc_wo_ask h) (by decide) rfl rfl (Nat.le_of_ble_eq_true rfl) dX11_between_g0.2.2.2.2.2.2.1 (fun s8 h => ?_)
  refine r_aload_n hE 0 dX11_between_g0.2.2.2.2.2.2.2.1 rfl rfl ?_
  refine r_iload_n hE 3 dX11_between_g0.2.2.2.2.2.2.2.2.1 rfl rfl ?_
  refine r_bipush (v := (78 : Int32)) hE dX11_between_g0.2.2.2.2.2.2.2.2.2.1 (by decide) ?_
  refine c_callVv hE hm [.int a3, .int (78 : Int32)] [] ck_X11_61 (cr_wo hm rfl) (kc_wo_ask h) (by decide) rfl rfl (Nat.le_of_ble_eq_true rfl) dX11_between_g0.2.2.2.2.2.2.2.2.2.2.1 (fun s9 h => ?_)
  refine r_aload_n hE 0 dX11_between_g0.2.2.2.2.2.2.2.2.2.2.2.1 rfl rfl ?_
  refine cg_wo_reckoner hE hm fk_X11_36 dX11_between_g0.2.2.2.2.2.2.2.2.2.2.2.2.1 ?_
  refine cg_rk_failure hE hm fk_X11_65 dX11_between_g0.2.2.2.2.2.2.2.2.2.2.2.2.2.1 ?_
  refine r_if_ne hE 57 dX11_between_g0.2.2.2.2.2.2.2.2.2.2.2.2.2.2.1 (by decide) h (fun h => ?_) (fun h => ?_)
  · refine r_lconst (v := (1 : Int64)) hE dX11_between_g1.2.2.2.2.2.2.2.2.2.2.2.2.2.1 (by decide) ?_
    refine r_pick [0, 2, 3] rfl ?_
    exact kc_wo_between_58 hE hm hF _ _ _ _ h
  · refine r_aload_n hE 0 dX11_between_g0.2.2.2.2.2.2.2.2.2.2.2.2.2.2.2 rfl rfl ?_
    refine r_iload_n hE 1 dX11_between_g1.1 rfl rfl ?_
    refine r_aload_n hE 0 dX11_between_g1.2.1 rfl rfl ?_
    refine cg_wo_things hE hm fk_X11_40 dX11_between_g1.2.2.1 ?_
    refine r_iload_n hE 2 dX11_between_g1.2.2.2.1 rfl rfl ?_
    refine r_iconst (v := (0 : Int32)) hE dX11_between_g1.2.2.2.2.1 (by decide) ?_
    refine c_callVl hE hm [.int a2, .int (0 : Int32)] [.int a1, .ref (G.1 1300)] ck_X11_73 (cr_th hm rfl) (kc_th_partOf h) (by decide) rfl rfl (Nat.le_of_ble_eq_true rfl) dX11_between_g1.2.2.2.2.2.1 (fun s10 r11 h => ?_)
    refine r_aload_n hE 0 dX11_between_g1.2.2.2.2.2.2.1 rfl rfl ?_
    refine cg_wo_things hE hm fk_X11_40 dX11_between_g1.2.2.2.2.2.2.2.1 ?_
    refine r_iload_n hE 3 dX11_between_g1.2.2.2.2.2.2.2.2.1 rfl rfl ?_
    refine r_iconst (v := (0 : Int32)) hE dX11_between_g1.2.2.2.2.2.2.2.2.2.1 (by decide) ?_
    refine c_callVl hE hm [.int a3, .int (0 : Int32)] [.long r11, .int a1, .ref (G.1 1300)] ck_X11_73 (cr_th hm rfl) (kc_th_partOf h) (by decide) rfl rfl (Nat.le_of_ble_eq_true rfl) dX11_between_g1.2.2.2.2.2.2.2.2.2.2.1 (fun s12 r13 h => ?_)
    refine c_callVl hE hm [.int a1, .long r11, .long r13] [] ck_X11_297 (cr_wo hm rfl) (kc_wo_reckoned h) (by decide) rfl rfl (Nat.le_of_ble_eq_true rfl) dX11_between_g1.2.2.2.2.2.2.2.2.2.2.2.1 (fun s14 r15 h => ?_)
    refine r_goto hE 58 dX11_between_g1.2.2.2.2.2.2.2.2.2.2.2.2.1 (by decide) ?_
    refine r_pick [0, 2, 3] rfl ?_
    exact kc_wo_between_58 hE hm hF _ _ _ _ h
/-! wo_accepts -/
def wc_wo_accepts (post : CS → Int32 → Prop) (σ : CS) (a1 : Int32) (a2 : Int32) : Prop := wc_rk_begin (fun (s1 : CS) => wc_wo_ask (fun (s2 : CS) => ((¬ ((c_rk_failure s2) = (0 : Int32))) → (post s2 (0 : Int32))) ∧ (((c_rk_failure s2) = (0 : Int32)) → (post s2 (1 : Int32)))) s1 a1 a2) σ
set_option maxRecDepth 20000 in
theorem kc_wo_accepts {l : Launch} {D : va_G} {G : gAd} {post : CS → Int32 → Prop} {σ : CS} {a1 : Int32} {a2 : Int32} (h : wc_wo_accepts post σ a1 a2) : cMet l D G yX11_accepts cX11_accepts 3 (some .boolean) 4 [.ref (G.1 1300), .int a1, .int a2] σ (pI post) := by
  unfold wc_wo_accepts at h
  refine c_enter (own := RX11) (by decide +kernel) rfl [(0, .ref (G.1 1300)), (1, .int a1), (2, .int a2)] rfl (Nat.le_of_ble_eq_true rfl) ?_
  intro E hE hm hF
  have hN := hm.2.2.2.2.2.2.1
  refine r_aload_n hE 0 dX11_accepts_g0.1 rfl rfl ?_
  refine cg_wo_reckoner hE hm fk_X11_36 dX11_accepts_g0.2.1 ?_
  refine c_callVv hE hm [] [] ck_X11_58 (cr_rk hm rfl) (kc_rk_begin h) (by decide) rfl rfl (Nat.le_of_ble_eq_true rfl) dX11_accepts_g0.2.2.1 (fun s1 h => ?_)
  refine r_aload_n hE 0 dX11_accepts_g0.2.2.2.1 rfl rfl ?_
  refine r_iload_n hE 1 dX11_accepts_g0.2.2.2.2.1 rfl rfl ?_
  refine r_iload_n hE 2 dX11_accepts_g0.2.2.2.2.2.1 rfl rfl ?_
  refine c_callVv hE hm [.int a1, .int a2] [] ck_X11_61 (cr_wo hm rfl) (kc_wo_ask h) (by decide) rfl rfl (Nat.le_of_ble_eq_true rfl) dX11_accepts_g0.2.2.2.2.2.2.1 (fun s2 h => ?_)
  refine r_aload_n hE 0 dX11_accepts_g0.2.2.2.2.2.2.2.1 rfl rfl ?_
  refine cg_wo_reckoner hE hm fk_X11_36 dX11_accepts_g0.2.2.2.2.2.2.2.2.1 ?_
  refine cg_rk_failure hE hm fk_X11_65 dX11_accepts_g0.2.2.2.2.2.2.2.2.2.1 ?_
  refine r_if_ne hE 27 dX11_accepts_g0.2.2.2.2.2.2.2.2.2.2.1 (by decide) h (fun h => ?_) (fun h => ?_)
  · refine r_iconst (v := (0 : Int32)) hE dX11_accepts_g0.2.2.2.2.2.2.2.2.2.2.2.2.2.1 (by decide) ?_
    exact c_zret hE hm hF dX11_accepts_g0.2.2.2.2.2.2.2.2.2.2.2.2.2.2 (Or.inl rfl) h
  · refine r_iconst (v := (1 : Int32)) hE dX11_accepts_g0.2.2.2.2.2.2.2.2.2.2.2.1 (by decide) ?_
    refine r_goto hE 28 dX11_accepts_g0.2.2.2.2.2.2.2.2.2.2.2.2.1 (by decide) ?_
    exact c_zret hE hm hF dX11_accepts_g0.2.2.2.2.2.2.2.2.2.2.2.2.2.2 (Or.inr rfl) h
/-! wo_negated -/
def wc_wo_negated (post : CS → Int32 → Prop) (σ : CS) (a1 : Int32) : Prop := wc_wo_accepts (fun (s1 : CS) (r2 : Int32) => ((¬ (r2 = (0 : Int32))) → (wc_th_partOf (fun (s3 : CS) (r4 : Int64) => wc_rk_negative (fun (s5 : CS) (r6 : Int64) => wc_th_leaningOf (fun (s7 : CS) (r8 : Int32) => wc_th_addNumber (fun (s9 : CS) (r10 : Int32) => post s9 r10) s7 r6 r8) s5 a1) s3 r4) s1 a1 (0 : Int32))) ∧ ((r2 = (0 : Int32)) → (post s1 (-1 : Int32)))) σ a1 (78 : Int32)
set_option maxRecDepth 20000 in
theorem kc_wo_negated {l : Launch} {D : va_G} {G : gAd} {post : CS → Int32 → Prop} {σ : CS} {a1 : Int32} (h : wc_wo_negated post σ a1) : cMet l D G yX11_negated cX11_negated 2 (some .int) 5 [.ref (G.1 1300), .int a1] σ (pI post) := by
  unfold wc_wo_negated at h
  refine c_enter (own := RX11) (by decide +kernel) rfl [(0, .ref (G.1 1300)), (1, .int a1)] rfl (Nat.le_of_ble_eq_true rfl) ?_
  intro E hE hm hF
  have hN := hm.2.2.2.2.2.2.1
  refine r_aload_n hE 0 dX11_negated_g0.1 rfl rfl ?_
  refine r_iload_n hE 1 dX11_negated_g0.2.1 rfl rfl ?_
  refine r_bipush (v := (78 : Int32)) hE dX11_negated_g0.2.2.1 (by decide) ?_
  refine c_callVi hE hm [.int a1, .int (78 : Int32)] [] ck_X11_301 (cr_wo hm rfl) (kc_wo_accepts h) (by decide) rfl rfl (Nat.le_of_ble_eq_true rfl) dX11_negated_g0.2.2.2.1 (fun s1 r2 h => ?_)
  refine r_if_ne hE 12 dX11_negated_g0.2.2.2.2.1 (by decide) h (fun h => ?_) (fun h => ?_)
  · refine r_aload_n hE 0 dX11_negated_g0.2.2.2.2.2.2.2.1 rfl rfl ?_
    refine cg_wo_things hE hm fk_X11_40 dX11_negated_g0.2.2.2.2.2.2.2.2.1 ?_
    refine r_aload_n hE 0 dX11_negated_g0.2.2.2.2.2.2.2.2.2.1 rfl rfl ?_
    refine cg_wo_reckoner hE hm fk_X11_36 dX11_negated_g0.2.2.2.2.2.2.2.2.2.2.1 ?_
    refine r_aload_n hE 0 dX11_negated_g0.2.2.2.2.2.2.2.2.2.2.2.1 rfl rfl ?_
    refine cg_wo_things hE hm fk_X11_40 dX11_negated_g0.2.2.2.2.2.2.2.2.2.2.2.2.1 ?_
    refine r_iload_n hE 1 dX11_negated_g0.2.2.2.2.2.2.2.2.2.2.2.2.2.1 rfl rfl ?_
    refine r_iconst (v := (0 : Int32)) hE dX11_negated_g0.2.2.2.2.2.2.2.2.2.2.2.2.2.2.1 (by decide) ?_
    refine c_callVl hE hm [.int a1, .int (0 : Int32)] [.ref (G.1 800), .ref (G.1 900)] ck_X11_73 (cr_th hm rfl) (kc_th_partOf h) (by decide) rfl rfl (Nat.le_of_ble_eq_true rfl) dX11_negated_g0.2.2.2.2.2.2.2.2.2.2.2.2.2.2.2 (fun s3 r4 h => ?_)
    refine c_callVl hE hm [.long r4] [.ref (G.1 900)] ck_X11_201 (cr_rk hm rfl) (kc_rk_negative h) (by decide) rfl rfl (Nat.le_of_ble_eq_true rfl) dX11_negated_g1.1 (fun s5 r6 h => ?_)
    refine r_aload_n hE 0 dX11_negated_g1.2.1 rfl rfl ?_
    refine cg_wo_things hE hm fk_X11_40 dX11_negated_g1.2.2.1 ?_
    refine r_iload_n hE 1 dX11_negated_g1.2.2.2.1 rfl rfl ?_
    refine c_callVi hE hm [.int a1] [.long r6, .ref (G.1 900)] ck_X11_93 (cr_th hm rfl) (kc_th_leaningOf h) (by decide) rfl rfl (Nat.le_of_ble_eq_true rfl) dX11_negated_g1.2.2.2.2.1 (fun s7 r8 h => ?_)
    refine c_callVi hE hm [.long r6, .int r8] [] ck_X11_107 (cr_th hm rfl) (kc_th_addNumber h) (by decide) rfl rfl (Nat.le_of_ble_eq_true rfl) dX11_negated_g1.2.2.2.2.2.1 (fun s9 r10 h => ?_)
    exact c_iret hE hm hF dX11_negated_g1.2.2.2.2.2.2 h
  · refine r_iconst (v := (-1 : Int32)) hE dX11_negated_g0.2.2.2.2.2.1 (by decide) ?_
    exact c_iret hE hm hF dX11_negated_g0.2.2.2.2.2.2.1 h
/-! th_wholeOf -/
def wc_th_wholeOf (post : CS → Int32 → Prop) (σ : CS) (a1 : Int32) (a2 : Int32) : Prop := wc_th_partOf (fun (s1 : CS) (r2 : Int64) => wc_SX6_top (fun (s3 : CS) (r4 : Int64) => post s3 (r4.toInt32)) s1 r2) σ a1 a2
set_option maxRecDepth 20000 in
theorem kc_th_wholeOf {l : Launch} {D : va_G} {G : gAd} {post : CS → Int32 → Prop} {σ : CS} {a1 : Int32} {a2 : Int32} (h : wc_th_wholeOf post σ a1 a2) : cMet l D G yX8_wholeOf cX8_wholeOf 3 (some .int) 2 [.ref (G.1 900), .int a1, .int a2] σ (pI post) := by
  unfold wc_th_wholeOf at h
  refine c_enter (own := RX8) (by decide +kernel) rfl [(0, .ref (G.1 900)), (1, .int a1), (2, .int a2)] rfl (Nat.le_of_ble_eq_true rfl) ?_
  intro E hE hm hF
  have hN := hm.2.2.2.2.2.2.1
  refine r_aload_n hE 0 dX8_wholeOf_g0.1 rfl rfl ?_
  refine r_iload_n hE 1 dX8_wholeOf_g0.2.1 rfl rfl ?_
  refine r_iload_n hE 2 dX8_wholeOf_g0.2.2.1 rfl rfl ?_
  refine c_callVl hE hm [.int a1, .int a2] [] ck_X8_51 (cr_th hm rfl) (kc_th_partOf h) (by decide) rfl rfl (Nat.le_of_ble_eq_true rfl) dX8_wholeOf_g0.2.2.2.1 (fun s1 r2 h => ?_)
  refine c_callSl hE hm [.long r2] [] ck_X8_55 (kc_SX6_top h) (by decide) rfl rfl (Nat.le_of_ble_eq_true rfl) dX8_wholeOf_g0.2.2.2.2.1 (fun s3 r4 h => ?_)
  refine r_l2i hE dX8_wholeOf_g0.2.2.2.2.2.1 ?_
  exact c_iret hE hm hF dX8_wholeOf_g0.2.2.2.2.2.2 h
/-! wo_askPlace -/
def wc_wo_askPlace (post : CS → Prop) (σ : CS) (a1 : Int32) (a2 : Int32) : Prop := wc_rk_begin (fun (s1 : CS) => wc_wo_ask (fun (s2 : CS) => wc_wo_ask (fun (s3 : CS) => ((¬ ((c_rk_failure s3) = (0 : Int32))) → (post s3)) ∧ (((c_rk_failure s3) = (0 : Int32)) → (wc_th_wholeOf (fun (s4 : CS) (r5 : Int32) => wc_th_wholeOf (fun (s6 : CS) (r7 : Int32) => wc_SX12_inside (fun (s8 : CS) (r9 : Int32) => ((¬ (r9 = (0 : Int32))) → (post s8)) ∧ ((r9 = (0 : Int32)) → (wc_rk_fail (fun (s10 : CS) => post s10) s8 (3 : Int32)))) s6 r5 r7) s4 a1 (1 : Int32)) s3 a2 (0 : Int32)))) s2 a2 (87 : Int32)) s1 a1 (82 : Int32)) σ
set_option maxRecDepth 20000 in
theorem kc_wo_askPlace {l : Launch} {D : va_G} {G : gAd} {post : CS → Prop} {σ : CS} {a1 : Int32} {a2 : Int32} (h : wc_wo_askPlace post σ a1 a2) : cMet l D G yX11_askPlace cX11_askPlace 3 none 4 [.ref (G.1 1300), .int a1, .int a2] σ (pV post) := by
  unfold wc_wo_askPlace at h
  refine c_enter (own := RX11) (by decide +kernel) rfl [(0, .ref (G.1 1300)), (1, .int a1), (2, .int a2)] rfl (Nat.le_of_ble_eq_true rfl) ?_
  intro E hE hm hF
  have hN := hm.2.2.2.2.2.2.1
  refine r_aload_n hE 0 dX11_askPlace_g0.1 rfl rfl ?_
  refine cg_wo_reckoner hE hm fk_X11_36 dX11_askPlace_g0.2.1 ?_
  refine c_callVv hE hm [] [] ck_X11_58 (cr_rk hm rfl) (kc_rk_begin h) (by decide) rfl rfl (Nat.le_of_ble_eq_true rfl) dX11_askPlace_g0.2.2.1 (fun s1 h => ?_)
  refine r_aload_n hE 0 dX11_askPlace_g0.2.2.2.1 rfl rfl ?_
  refine r_iload_n hE 1 dX11_askPlace_g0.2.2.2.2.1 rfl rfl ?_
  refine r_bipush (v := (82 : Int32)) hE dX11_askPlace_g0.2.2.2.2.2.1 (by decide) ?_
  refine c_callVv hE hm [.int a1, .int (82 : Int32)] [] ck_X11_61 (cr_wo hm rfl) (kc_wo_ask h) (by decide) rfl rfl (Nat.le_of_ble_eq_true rfl) dX11_askPlace_g0.2.2.2.2.2.2.1 (fun s2 h => ?_)
  refine r_aload_n hE 0 dX11_askPlace_g0.2.2.2.2.2.2.2.1 rfl rfl ?_
  refine r_iload_n hE 2 dX11_askPlace_g0.2.2.2.2.2.2.2.2.1 rfl rfl ?_
  refine r_bipush (v := (87 : Int32)) hE dX11_askPlace_g0.2.2.2.2.2.2.2.2.2.1 (by decide) ?_
  refine c_callVv hE hm [.int a2, .int (87 : Int32)] [] ck_X11_61 (cr_wo hm rfl) (kc_wo_ask h) (by decide) rfl rfl (Nat.le_of_ble_eq_true rfl) dX11_askPlace_g0.2.2.2.2.2.2.2.2.2.2.1 (fun s3 h => ?_)
  refine r_aload_n hE 0 dX11_askPlace_g0.2.2.2.2.2.2.2.2.2.2.2.1 rfl rfl ?_
  refine cg_wo_reckoner hE hm fk_X11_36 dX11_askPlace_g0.2.2.2.2.2.2.2.2.2.2.2.2.1 ?_
  refine cg_rk_failure hE hm fk_X11_65 dX11_askPlace_g0.2.2.2.2.2.2.2.2.2.2.2.2.2.1 ?_
  refine r_if_ne hE 63 dX11_askPlace_g0.2.2.2.2.2.2.2.2.2.2.2.2.2.2.1 (by decide) h (fun h => ?_) (fun h => ?_)
  · exact c_vret hE hm hF dX11_askPlace_g1.2.2.2.2.2.2.2.2.2.2.2.2.2.2.2 h
  · refine r_aload_n hE 0 dX11_askPlace_g0.2.2.2.2.2.2.2.2.2.2.2.2.2.2.2 rfl rfl ?_
    refine cg_wo_things hE hm fk_X11_40 dX11_askPlace_g1.1 ?_
    refine r_iload_n hE 2 dX11_askPlace_g1.2.1 rfl rfl ?_
    refine r_iconst (v := (0 : Int32)) hE dX11_askPlace_g1.2.2.1 (by decide) ?_
    refine c_callVi hE hm [.int a2, .int (0 : Int32)] [] ck_X11_304 (cr_th hm rfl) (kc_th_wholeOf h) (by decide) rfl rfl (Nat.le_of_ble_eq_true rfl) dX11_askPlace_g1.2.2.2.1 (fun s4 r5 h => ?_)
    refine r_aload_n hE 0 dX11_askPlace_g1.2.2.2.2.1 rfl rfl ?_
    refine cg_wo_things hE hm fk_X11_40 dX11_askPlace_g1.2.2.2.2.2.1 ?_
    refine r_iload_n hE 1 dX11_askPlace_g1.2.2.2.2.2.2.1 rfl rfl ?_
    refine r_iconst (v := (1 : Int32)) hE dX11_askPlace_g1.2.2.2.2.2.2.2.1 (by decide) ?_
    refine c_callVi hE hm [.int a1, .int (1 : Int32)] [.int r5] ck_X11_304 (cr_th hm rfl) (kc_th_wholeOf h) (by decide) rfl rfl (Nat.le_of_ble_eq_true rfl) dX11_askPlace_g1.2.2.2.2.2.2.2.2.1 (fun s6 r7 h => ?_)
    refine c_callSNi hE hm [.int r5, .int r7] [] ck_X11_69 cw_X11_69 (kc_SX12_inside h) (by decide) rfl rfl (Nat.le_of_ble_eq_true rfl) dX11_askPlace_g1.2.2.2.2.2.2.2.2.2.1 (fun s8 r9 h => ?_)
    refine r_if_ne hE 63 dX11_askPlace_g1.2.2.2.2.2.2.2.2.2.2.1 (by decide) h (fun h => ?_) (fun h => ?_)
    · exact c_vret hE hm hF dX11_askPlace_g1.2.2.2.2.2.2.2.2.2.2.2.2.2.2.2 h
    · refine r_aload_n hE 0 dX11_askPlace_g1.2.2.2.2.2.2.2.2.2.2.2.1 rfl rfl ?_
      refine cg_wo_reckoner hE hm fk_X11_36 dX11_askPlace_g1.2.2.2.2.2.2.2.2.2.2.2.2.1 ?_
      refine r_iconst (v := (3 : Int32)) hE dX11_askPlace_g1.2.2.2.2.2.2.2.2.2.2.2.2.2.1 (by decide) ?_
      refine c_callVv hE hm [.int (3 : Int32)] [] ck_X11_48 (cr_rk hm rfl) (kc_rk_fail h) (by decide) rfl rfl (Nat.le_of_ble_eq_true rfl) dX11_askPlace_g1.2.2.2.2.2.2.2.2.2.2.2.2.2.2.1 (fun s10 h => ?_)
      exact c_vret hE hm hF dX11_askPlace_g1.2.2.2.2.2.2.2.2.2.2.2.2.2.2.2 h
/-! th_heldAt -/
def wc_th_heldAt (post : CS → Int32 → Prop) (σ : CS) (a1 : Int32) (a2 : Int32) : Prop := wc_SX12_inside (fun (s1 : CS) (r2 : Int32) => ((r2 = (0 : Int32)) → (post s1 (-1 : Int32))) ∧ ((¬ (r2 = (0 : Int32))) → (wc_SX12_inside (fun (s3 : CS) (r4 : Int32) => ((r4 = (0 : Int32)) → (post s3 (-1 : Int32))) ∧ ((¬ (r4 = (0 : Int32))) → (vp_in ((a1 * (20 : Int32)) + a2) 8000 ∧ (post s3 (c_th_held s3 ((a1 * (20 : Int32)) + a2).toNatClampNeg))))) s1 a2 (20 : Int32)))) σ a1 (c_th_many σ)
set_option maxRecDepth 20000 in
theorem kc_th_heldAt {l : Launch} {D : va_G} {G : gAd} {post : CS → Int32 → Prop} {σ : CS} {a1 : Int32} {a2 : Int32} (h : wc_th_heldAt post σ a1 a2) : cMet l D G yX8_heldAt cX8_heldAt 3 (some .int) 2 [.ref (G.1 900), .int a1, .int a2] σ (pI post) := by
  unfold wc_th_heldAt at h
  refine c_enter (own := RX8) (by decide +kernel) rfl [(0, .ref (G.1 900)), (1, .int a1), (2, .int a2)] rfl (Nat.le_of_ble_eq_true rfl) ?_
  intro E hE hm hF
  have hN := hm.2.2.2.2.2.2.1
  refine r_iload_n hE 1 dX8_heldAt_g0.1 rfl rfl ?_
  refine r_aload_n hE 0 dX8_heldAt_g0.2.1 rfl rfl ?_
  refine cg_th_many hE hm fk_X8_25 dX8_heldAt_g0.2.2.1 ?_
  refine c_callSNi hE hm [.int a1, .int (c_th_many σ)] [] ck_X8_29 cw_X8_29 (kc_SX12_inside h) (by decide) rfl rfl (Nat.le_of_ble_eq_true rfl) dX8_heldAt_g0.2.2.2.1 (fun s1 r2 h => ?_)
  refine r_if_eq hE 34 dX8_heldAt_g0.2.2.2.2.1 (by decide) h (fun h => ?_) (fun h => ?_)
  · refine r_iconst (v := (-1 : Int32)) hE dX8_heldAt_g1.2.2.1 (by decide) ?_
    exact c_iret hE hm hF dX8_heldAt_g1.2.2.2 h
  · refine r_iload_n hE 2 dX8_heldAt_g0.2.2.2.2.2.1 rfl rfl ?_
    refine r_bipush (v := (20 : Int32)) hE dX8_heldAt_g0.2.2.2.2.2.2.1 (by decide) ?_
    refine c_callSNi hE hm [.int a2, .int (20 : Int32)] [] ck_X8_29 cw_X8_29 (kc_SX12_inside h) (by decide) rfl rfl (Nat.le_of_ble_eq_true rfl) dX8_heldAt_g0.2.2.2.2.2.2.2.1 (fun s3 r4 h => ?_)
    refine r_if_eq hE 34 dX8_heldAt_g0.2.2.2.2.2.2.2.2.1 (by decide) h (fun h => ?_) (fun h => ?_)
    · refine r_iconst (v := (-1 : Int32)) hE dX8_heldAt_g1.2.2.1 (by decide) ?_
      exact c_iret hE hm hF dX8_heldAt_g1.2.2.2 h
    · refine r_aload_n hE 0 dX8_heldAt_g0.2.2.2.2.2.2.2.2.2.1 rfl rfl ?_
      refine cg_th_held hE hm fk_X8_22 dX8_heldAt_g0.2.2.2.2.2.2.2.2.2.2.1 ?_
      refine r_iload_n hE 1 dX8_heldAt_g0.2.2.2.2.2.2.2.2.2.2.2.1 rfl rfl ?_
      refine r_bipush (v := (20 : Int32)) hE dX8_heldAt_g0.2.2.2.2.2.2.2.2.2.2.2.2.1 (by decide) ?_
      refine r_imul hE dX8_heldAt_g0.2.2.2.2.2.2.2.2.2.2.2.2.2.1 ?_
      refine r_iload_n hE 2 dX8_heldAt_g0.2.2.2.2.2.2.2.2.2.2.2.2.2.2.1 rfl rfl ?_
      refine r_iadd hE dX8_heldAt_g0.2.2.2.2.2.2.2.2.2.2.2.2.2.2.2 ?_
      obtain ⟨hi, h⟩ := h
      refine cl_th_held hE hm dX8_heldAt_g1.1 hi ?_
      refine r_goto hE 35 dX8_heldAt_g1.2.1 (by decide) ?_
      exact c_iret hE hm hF dX8_heldAt_g1.2.2.2 h
/-! wo_picked -/
def wc_wo_picked (post : CS → Int32 → Prop) (σ : CS) (a1 : Int32) (a2 : Int32) : Prop := wc_wo_askPlace (fun (s1 : CS) => ((¬ ((c_rk_failure s1) = (0 : Int32))) → (post s1 (-1 : Int32))) ∧ (((c_rk_failure s1) = (0 : Int32)) → (wc_th_wholeOf (fun (s2 : CS) (r3 : Int32) => wc_th_heldAt (fun (s4 : CS) (r5 : Int32) => post s4 r5) s2 a1 r3) s1 a2 (0 : Int32)))) σ a1 a2
set_option maxRecDepth 20000 in
theorem kc_wo_picked {l : Launch} {D : va_G} {G : gAd} {post : CS → Int32 → Prop} {σ : CS} {a1 : Int32} {a2 : Int32} (h : wc_wo_picked post σ a1 a2) : cMet l D G yX11_picked cX11_picked 3 (some .int) 5 [.ref (G.1 1300), .int a1, .int a2] σ (pI post) := by
  unfold wc_wo_picked at h
  refine c_enter (own := RX11) (by decide +kernel) rfl [(0, .ref (G.1 1300)), (1, .int a1), (2, .int a2)] rfl (Nat.le_of_ble_eq_true rfl) ?_
  intro E hE hm hF
  have hN := hm.2.2.2.2.2.2.1
  refine r_aload_n hE 0 dX11_picked_g0.1 rfl rfl ?_
  refine r_iload_n hE 1 dX11_picked_g0.2.1 rfl rfl ?_
  refine r_iload_n hE 2 dX11_picked_g0.2.2.1 rfl rfl ?_
  refine c_callVv hE hm [.int a1, .int a2] [] ck_X11_307 (cr_wo hm rfl) (kc_wo_askPlace h) (by decide) rfl rfl (Nat.le_of_ble_eq_true rfl) dX11_picked_g0.2.2.2.1 (fun s1 h => ?_)
  refine r_aload_n hE 0 dX11_picked_g0.2.2.2.2.1 rfl rfl ?_
  refine cg_wo_reckoner hE hm fk_X11_36 dX11_picked_g0.2.2.2.2.2.1 ?_
  refine cg_rk_failure hE hm fk_X11_65 dX11_picked_g0.2.2.2.2.2.2.1 ?_
  refine r_if_ne hE 36 dX11_picked_g0.2.2.2.2.2.2.2.1 (by decide) h (fun h => ?_) (fun h => ?_)
  · refine r_iconst (v := (-1 : Int32)) hE dX11_picked_g1.2.2.1 (by decide) ?_
    exact c_iret hE hm hF dX11_picked_g1.2.2.2 h
  · refine r_aload_n hE 0 dX11_picked_g0.2.2.2.2.2.2.2.2.1 rfl rfl ?_
    refine cg_wo_things hE hm fk_X11_40 dX11_picked_g0.2.2.2.2.2.2.2.2.2.1 ?_
    refine r_iload_n hE 1 dX11_picked_g0.2.2.2.2.2.2.2.2.2.2.1 rfl rfl ?_
    refine r_aload_n hE 0 dX11_picked_g0.2.2.2.2.2.2.2.2.2.2.2.1 rfl rfl ?_
    refine cg_wo_things hE hm fk_X11_40 dX11_picked_g0.2.2.2.2.2.2.2.2.2.2.2.2.1 ?_
    refine r_iload_n hE 2 dX11_picked_g0.2.2.2.2.2.2.2.2.2.2.2.2.2.1 rfl rfl ?_
    refine r_iconst (v := (0 : Int32)) hE dX11_picked_g0.2.2.2.2.2.2.2.2.2.2.2.2.2.2.1 (by decide) ?_
    refine c_callVi hE hm [.int a2, .int (0 : Int32)] [.int a1, .ref (G.1 900)] ck_X11_304 (cr_th hm rfl) (kc_th_wholeOf h) (by decide) rfl rfl (Nat.le_of_ble_eq_true rfl) dX11_picked_g0.2.2.2.2.2.2.2.2.2.2.2.2.2.2.2 (fun s2 r3 h => ?_)
    refine c_callVi hE hm [.int a1, .int r3] [] ck_X11_311 (cr_th hm rfl) (kc_th_heldAt h) (by decide) rfl rfl (Nat.le_of_ble_eq_true rfl) dX11_picked_g1.1 (fun s4 r5 h => ?_)
    refine r_goto hE 37 dX11_picked_g1.2.1 (by decide) ?_
    exact c_iret hE hm hF dX11_picked_g1.2.2.2 h
/-! th_fitsSort -/
def wc_th_fitsSort (post : CS → Int32 → Prop) (σ : CS) (a1 : Int32) (a2 : Int32) : Prop := (a2 = (1 : Int32) → (wc_th_fits (fun (s1 : CS) (r2 : Int32) => isB r2 ∧ (post s1 r2)) σ a1 (80 : Int32))) ∧ (¬ a2 = (1 : Int32) → ((a2 = (2 : Int32) → (wc_th_fits (fun (s3 : CS) (r4 : Int32) => isB r4 ∧ (post s3 r4)) σ a1 (76 : Int32))) ∧ (¬ a2 = (2 : Int32) → ((a2 = (3 : Int32) → (wc_th_fits (fun (s5 : CS) (r6 : Int32) => isB r6 ∧ (post s5 r6)) σ a1 (78 : Int32))) ∧ (¬ a2 = (3 : Int32) → (post σ (1 : Int32)))))))
set_option maxRecDepth 20000 in
theorem kc_th_fitsSort {l : Launch} {D : va_G} {G : gAd} {post : CS → Int32 → Prop} {σ : CS} {a1 : Int32} {a2 : Int32} (h : wc_th_fitsSort post σ a1 a2) : cMet l D G yX8_fitsSort cX8_fitsSort 3 (some .boolean) 3 [.ref (G.1 900), .int a1, .int a2] σ (pI post) := by
  unfold wc_th_fitsSort at h
  refine c_enter (own := RX8) (by decide +kernel) rfl [(0, .ref (G.1 900)), (1, .int a1), (2, .int a2)] rfl (Nat.le_of_ble_eq_true rfl) ?_
  intro E hE hm hF
  have hN := hm.2.2.2.2.2.2.1
  refine r_iload_n hE 2 dX8_fitsSort_g0.1 rfl rfl ?_
  refine r_case (1 : Int32) h (fun q0 h => ?_) (fun q0 h => ?_)
  · refine r_tableAt (off := 27) hE (1 : Int32) 28 dX8_fitsSort_g0.2.1 q0 (by decide) (by decide) (by decide) (by decide) ?_
    refine r_aload_n hE 0 dX8_fitsSort_g0.2.2.1 rfl rfl ?_
    refine r_iload_n hE 1 dX8_fitsSort_g0.2.2.2.1 rfl rfl ?_
    refine r_bipush (v := (80 : Int32)) hE dX8_fitsSort_g0.2.2.2.2.1 (by decide) ?_
    refine c_callVi hE hm [.int a1, .int (80 : Int32)] [] ck_X8_69 (cr_th hm rfl) (kc_th_fits h) (by decide) rfl rfl (Nat.le_of_ble_eq_true rfl) dX8_fitsSort_g0.2.2.2.2.2.1 (fun s1 r2 h => ?_)
    obtain ⟨hb, h⟩ := h
    exact c_zret hE hm hF dX8_fitsSort_g0.2.2.2.2.2.2.1 hb h
  · refine r_case (2 : Int32) h (fun q1 h => ?_) (fun q1 h => ?_)
    · refine r_tableAt (off := 35) hE (2 : Int32) 36 dX8_fitsSort_g0.2.1 q1 (by decide) (by decide) (by decide) (by decide) ?_
      refine r_aload_n hE 0 dX8_fitsSort_g0.2.2.2.2.2.2.2.1 rfl rfl ?_
      refine r_iload_n hE 1 dX8_fitsSort_g0.2.2.2.2.2.2.2.2.1 rfl rfl ?_
      refine r_bipush (v := (76 : Int32)) hE dX8_fitsSort_g0.2.2.2.2.2.2.2.2.2.1 (by decide) ?_
      refine c_callVi hE hm [.int a1, .int (76 : Int32)] [] ck_X8_69 (cr_th hm rfl) (kc_th_fits h) (by decide) rfl rfl (Nat.le_of_ble_eq_true rfl) dX8_fitsSort_g0.2.2.2.2.2.2.2.2.2.2.1 (fun s3 r4 h => ?_)
      obtain ⟨hb, h⟩ := h
      exact c_zret hE hm hF dX8_fitsSort_g0.2.2.2.2.2.2.2.2.2.2.2.1 hb h
    · refine r_case (3 : Int32) h (fun q2 h => ?_) (fun q2 h => ?_)
      · refine r_tableAt (off := 43) hE (3 : Int32) 44 dX8_fitsSort_g0.2.1 q2 (by decide) (by decide) (by decide) (by decide) ?_
        refine r_aload_n hE 0 dX8_fitsSort_g0.2.2.2.2.2.2.2.2.2.2.2.2.1 rfl rfl ?_
        refine r_iload_n hE 1 dX8_fitsSort_g0.2.2.2.2.2.2.2.2.2.2.2.2.2.1 rfl rfl ?_
        refine r_bipush (v := (78 : Int32)) hE dX8_fitsSort_g0.2.2.2.2.2.2.2.2.2.2.2.2.2.2.1 (by decide) ?_
        refine c_callVi hE hm [.int a1, .int (78 : Int32)] [] ck_X8_69 (cr_th hm rfl) (kc_th_fits h) (by decide) rfl rfl (Nat.le_of_ble_eq_true rfl) dX8_fitsSort_g0.2.2.2.2.2.2.2.2.2.2.2.2.2.2.2 (fun s5 r6 h => ?_)
        obtain ⟨hb, h⟩ := h
        exact c_zret hE hm hF dX8_fitsSort_g1.1 hb h
      · have n0 := lv_neT q0 (show (1 : Int32).toInt = 1 by decide)
        have n1 := lv_neT q1 (show (2 : Int32).toInt = 2 by decide)
        have n2 := lv_neT q2 (show (3 : Int32).toInt = 3 by decide)
        refine r_tableOut hE 52 dX8_fitsSort_g0.2.1 (by omega) (by decide) ?_
        refine r_iconst (v := (1 : Int32)) hE dX8_fitsSort_g1.2.1 (by decide) ?_
        exact c_zret hE hm hF dX8_fitsSort_g1.2.2 (Or.inr rfl) h
/-! wo_store -/
def wc_wo_store_49 (post : CS → Prop) (σ : CS) (v1 : Int32) (v2 : Int32) (v3 : Int32) : Prop := ((¬ ((c_rk_failure σ) = (0 : Int32))) → (post σ)) ∧ (((c_rk_failure σ) = (0 : Int32)) → (wc_th_wholeOf (fun (s1 : CS) (r2 : Int32) => wc_th_hold (fun (s3 : CS) => post s3) s1 v1 r2 v3) σ v2 (0 : Int32)))
set_option maxRecDepth 20000 in
theorem kc_wo_store_49  {E : gEnv} {l : Launch} {D : va_G} {G : gAd} {post : CS → Prop} (hE : gOK E cX11_store RX11 none 5) (hm : cOK E l D G (pV post) 4) (hF : gFin E) (σ : CS) (v1 : Int32) (v2 : Int32) (v3 : Int32) (h : wc_wo_store_49 post σ v1 v2 v3) : GW E (cW G σ) 49 [(0, .ref (G.1 1300)), (1, .int v1), (2, .int v2), (3, .int v3)] [] := by
  unfold wc_wo_store_49 at h
  have hN := hm.2.2.2.2.2.2.1
  refine r_aload_n hE 0 dX11_store_g1.2.2.2.2.2.2.2.2.2.1 rfl rfl ?_
  refine cg_wo_reckoner hE hm fk_X11_36 dX11_store_g1.2.2.2.2.2.2.2.2.2.2.1 ?_
  refine cg_rk_failure hE hm fk_X11_65 dX11_store_g1.2.2.2.2.2.2.2.2.2.2.2.1 ?_
  refine r_if_ne hE 77 dX11_store_g1.2.2.2.2.2.2.2.2.2.2.2.2.1 (by decide) h (fun h => ?_) (fun h => ?_)
  · exact c_vret hE hm hF dX11_store_g2.2.2.2.2.2.2.2 h
  · refine r_aload_n hE 0 dX11_store_g1.2.2.2.2.2.2.2.2.2.2.2.2.2.1 rfl rfl ?_
    refine cg_wo_things hE hm fk_X11_40 dX11_store_g1.2.2.2.2.2.2.2.2.2.2.2.2.2.2.1 ?_
    refine r_iload_n hE 1 dX11_store_g1.2.2.2.2.2.2.2.2.2.2.2.2.2.2.2 rfl rfl ?_
    refine r_aload_n hE 0 dX11_store_g2.1 rfl rfl ?_
    refine cg_wo_things hE hm fk_X11_40 dX11_store_g2.2.1 ?_
    refine r_iload_n hE 2 dX11_store_g2.2.2.1 rfl rfl ?_
    refine r_iconst (v := (0 : Int32)) hE dX11_store_g2.2.2.2.1 (by decide) ?_
    refine c_callVi hE hm [.int v2, .int (0 : Int32)] [.int v1, .ref (G.1 900)] ck_X11_304 (cr_th hm rfl) (kc_th_wholeOf h) (by decide) rfl rfl (Nat.le_of_ble_eq_true rfl) dX11_store_g2.2.2.2.2.1 (fun s1 r2 h => ?_)
    refine r_iload_n hE 3 dX11_store_g2.2.2.2.2.2.1 rfl rfl ?_
    refine c_callVv hE hm [.int v1, .int r2, .int v3] [] ck_X11_317 (cr_th hm rfl) (kc_th_hold h) (by decide) rfl rfl (Nat.le_of_ble_eq_true rfl) dX11_store_g2.2.2.2.2.2.2.1 (fun s3 h => ?_)
    exact c_vret hE hm hF dX11_store_g2.2.2.2.2.2.2.2 h
def wc_wo_store (post : CS → Prop) (σ : CS) (a1 : Int32) (a2 : Int32) (a3 : Int32) : Prop := wc_wo_askPlace (fun (s4 : CS) => ((¬ ((c_rk_failure s4) = (0 : Int32))) → (wc_wo_store_49 post s4 a1 a2 a3)) ∧ (((c_rk_failure s4) = (0 : Int32)) → (((a3 = (-1 : Int32)) → (wc_wo_store_49 post s4 a1 a2 a3)) ∧ ((¬ (a3 = (-1 : Int32))) → (wc_th_wholeOf (fun (s5 : CS) (r6 : Int32) => wc_th_fitsSort (fun (s7 : CS) (r8 : Int32) => ((¬ (r8 = (0 : Int32))) → (wc_wo_store_49 post s7 a1 a2 a3)) ∧ ((r8 = (0 : Int32)) → (wc_rk_fail (fun (s9 : CS) => wc_wo_store_49 post s9 a1 a2 a3) s7 (5 : Int32)))) s5 a3 r6) s4 a1 (0 : Int32)))))) σ a1 a2
set_option maxRecDepth 20000 in
theorem kc_wo_store {l : Launch} {D : va_G} {G : gAd} {post : CS → Prop} {σ : CS} {a1 : Int32} {a2 : Int32} {a3 : Int32} (h : wc_wo_store post σ a1 a2 a3) : cMet l D G yX11_store cX11_store 4 none 5 [.ref (G.1 1300), .int a1, .int a2, .int a3] σ (pV post) := by
  unfold wc_wo_store at h
  refine c_enter (own := RX11) (by decide +kernel) rfl [(0, .ref (G.1 1300)), (1, .int a1), (2, .int a2), (3, .int a3)] rfl (Nat.le_of_ble_eq_true rfl) ?_
  intro E hE hm hF
  have hN := hm.2.2.2.2.2.2.1
  refine r_aload_n hE 0 dX11_store_g0.1 rfl rfl ?_
  refine r_iload_n hE 1 dX11_store_g0.2.1 rfl rfl ?_
  refine r_iload_n hE 2 dX11_store_g0.2.2.1 rfl rfl ?_
  refine c_callVv hE hm [.int a1, .int a2] [] ck_X11_307 (cr_wo hm rfl) (kc_wo_askPlace h) (by decide) rfl rfl (Nat.le_of_ble_eq_true rfl) dX11_store_g0.2.2.2.1 (fun s4 h => ?_)
  refine r_aload_n hE 0 dX11_store_g0.2.2.2.2.1 rfl rfl ?_
  refine cg_wo_reckoner hE hm fk_X11_36 dX11_store_g0.2.2.2.2.2.1 ?_
  refine cg_rk_failure hE hm fk_X11_65 dX11_store_g0.2.2.2.2.2.2.1 ?_
  refine r_if_ne hE 49 dX11_store_g0.2.2.2.2.2.2.2.1 (by decide) h (fun h => ?_) (fun h => ?_)
  · exact kc_wo_store_49 hE hm hF _ _ _ _ h
  · refine r_iload_n hE 3 dX11_store_g0.2.2.2.2.2.2.2.2.1 rfl rfl ?_
    refine r_iconst (v := (-1 : Int32)) hE dX11_store_g0.2.2.2.2.2.2.2.2.2.1 (by decide) ?_
    refine r_icmp_eq hE 49 dX11_store_g0.2.2.2.2.2.2.2.2.2.2.1 (by decide) h (fun h => ?_) (fun h => ?_)
    · exact kc_wo_store_49 hE hm hF _ _ _ _ h
    · refine r_aload_n hE 0 dX11_store_g0.2.2.2.2.2.2.2.2.2.2.2.1 rfl rfl ?_
      refine cg_wo_things hE hm fk_X11_40 dX11_store_g0.2.2.2.2.2.2.2.2.2.2.2.2.1 ?_
      refine r_iload_n hE 3 dX11_store_g0.2.2.2.2.2.2.2.2.2.2.2.2.2.1 rfl rfl ?_
      refine r_aload_n hE 0 dX11_store_g0.2.2.2.2.2.2.2.2.2.2.2.2.2.2.1 rfl rfl ?_
      refine cg_wo_things hE hm fk_X11_40 dX11_store_g0.2.2.2.2.2.2.2.2.2.2.2.2.2.2.2 ?_
      refine r_iload_n hE 1 dX11_store_g1.1 rfl rfl ?_
      refine r_iconst (v := (0 : Int32)) hE dX11_store_g1.2.1 (by decide) ?_
      refine c_callVi hE hm [.int a1, .int (0 : Int32)] [.int a3, .ref (G.1 900)] ck_X11_304 (cr_th hm rfl) (kc_th_wholeOf h) (by decide) rfl rfl (Nat.le_of_ble_eq_true rfl) dX11_store_g1.2.2.1 (fun s5 r6 h => ?_)
      refine c_callVi hE hm [.int a3, .int r6] [] ck_X11_314 (cr_th hm rfl) (kc_th_fitsSort h) (by decide) rfl rfl (Nat.le_of_ble_eq_true rfl) dX11_store_g1.2.2.2.1 (fun s7 r8 h => ?_)
      refine r_if_ne hE 49 dX11_store_g1.2.2.2.2.1 (by decide) h (fun h => ?_) (fun h => ?_)
      · exact kc_wo_store_49 hE hm hF _ _ _ _ h
      · refine r_aload_n hE 0 dX11_store_g1.2.2.2.2.2.1 rfl rfl ?_
        refine cg_wo_reckoner hE hm fk_X11_36 dX11_store_g1.2.2.2.2.2.2.1 ?_
        refine r_iconst (v := (5 : Int32)) hE dX11_store_g1.2.2.2.2.2.2.2.1 (by decide) ?_
        refine c_callVv hE hm [.int (5 : Int32)] [] ck_X11_48 (cr_rk hm rfl) (kc_rk_fail h) (by decide) rfl rfl (Nat.le_of_ble_eq_true rfl) dX11_store_g1.2.2.2.2.2.2.2.2.1 (fun s9 h => ?_)
        exact kc_wo_store_49 hE hm hF _ _ _ _ h
/-! ru_endDeed -/
def wc_ru_endDeed (post : CS → Prop) (σ : CS) (a1 : Int32) : Prop := ((a1 = (0 : Int32)) → (wc_ru_drop (fun (s1 : CS) => post s1) σ)) ∧ ((¬ (a1 = (0 : Int32))) → (wc_ru_fallDown (fun (s2 : CS) => post s2) σ a1))
set_option maxRecDepth 20000 in
theorem kc_ru_endDeed {l : Launch} {D : va_G} {G : gAd} {post : CS → Prop} {σ : CS} {a1 : Int32} (h : wc_ru_endDeed post σ a1) : cMet l D G yX7_endDeed cX7_endDeed 2 none 5 [.ref (G.1 1200), .int a1] σ (pV post) := by
  unfold wc_ru_endDeed at h
  refine c_enter (own := RX7) (by decide +kernel) rfl [(0, .ref (G.1 1200)), (1, .int a1)] rfl (Nat.le_of_ble_eq_true rfl) ?_
  intro E hE hm hF
  have hN := hm.2.2.2.2.2.2.1
  refine r_iload_n hE 1 dX7_endDeed_g0.1 rfl rfl ?_
  refine r_if_eq hE 12 dX7_endDeed_g0.2.1 (by decide) h (fun h => ?_) (fun h => ?_)
  · refine r_aload_n hE 0 dX7_endDeed_g0.2.2.2.2.2.2.1 rfl rfl ?_
    refine c_callVv hE hm [] [] ck_X7_168 (cr_ru hm rfl) (kc_ru_drop h) (by decide) rfl rfl (Nat.le_of_ble_eq_true rfl) dX7_endDeed_g0.2.2.2.2.2.2.2.1 (fun s1 h => ?_)
    exact c_vret hE hm hF dX7_endDeed_g0.2.2.2.2.2.2.2.2 h
  · refine r_aload_n hE 0 dX7_endDeed_g0.2.2.1 rfl rfl ?_
    refine r_iload_n hE 1 dX7_endDeed_g0.2.2.2.1 rfl rfl ?_
    refine c_callVv hE hm [.int a1] [] ck_X7_158 (cr_ru hm rfl) (kc_ru_fallDown h) (by decide) rfl rfl (Nat.le_of_ble_eq_true rfl) dX7_endDeed_g0.2.2.2.2.1 (fun s2 h => ?_)
    refine r_goto hE 16 dX7_endDeed_g0.2.2.2.2.2.1 (by decide) ?_
    exact c_vret hE hm hF dX7_endDeed_g0.2.2.2.2.2.2.2.2 h
/-! fg_macroBodyOf -/
def wc_fg_macroBodyOf (post : CS → Int32 → Prop) (σ : CS) (a1 : Int32) : Prop := wc_SX12_inside (fun (s1 : CS) (r2 : Int32) => ((r2 = (0 : Int32)) → (post s1 (-1 : Int32))) ∧ ((¬ (r2 = (0 : Int32))) → (vp_in a1 12 ∧ (post s1 (c_fg_macroBody s1 a1.toNatClampNeg))))) σ a1 (c_fg_macros σ)
set_option maxRecDepth 20000 in
theorem kc_fg_macroBodyOf {l : Launch} {D : va_G} {G : gAd} {post : CS → Int32 → Prop} {σ : CS} {a1 : Int32} (h : wc_fg_macroBodyOf post σ a1) : cMet l D G yX1_macroBodyOf cX1_macroBodyOf 2 (some .int) 2 [.ref (G.1 300), .int a1] σ (pI post) := by
  unfold wc_fg_macroBodyOf at h
  refine c_enter (own := RX1) (by decide +kernel) rfl [(0, .ref (G.1 300)), (1, .int a1)] rfl (Nat.le_of_ble_eq_true rfl) ?_
  intro E hE hm hF
  have hN := hm.2.2.2.2.2.2.1
  refine r_iload_n hE 1 dX1_macroBodyOf_g0.1 rfl rfl ?_
  refine r_aload_n hE 0 dX1_macroBodyOf_g0.2.1 rfl rfl ?_
  refine cg_fg_macros hE hm fk_X1_65 dX1_macroBodyOf_g0.2.2.1 ?_
  refine c_callSNi hE hm [.int a1, .int (c_fg_macros σ)] [] ck_X1_74 cw_X1_74 (kc_SX12_inside h) (by decide) rfl rfl (Nat.le_of_ble_eq_true rfl) dX1_macroBodyOf_g0.2.2.2.1 (fun s1 r2 h => ?_)
  refine r_if_eq hE 20 dX1_macroBodyOf_g0.2.2.2.2.1 (by decide) h (fun h => ?_) (fun h => ?_)
  · refine r_iconst (v := (-1 : Int32)) hE dX1_macroBodyOf_g0.2.2.2.2.2.2.2.2.2.2.1 (by decide) ?_
    exact c_iret hE hm hF dX1_macroBodyOf_g0.2.2.2.2.2.2.2.2.2.2.2 h
  · refine r_aload_n hE 0 dX1_macroBodyOf_g0.2.2.2.2.2.1 rfl rfl ?_
    refine cg_fg_macroBody hE hm fk_X1_62 dX1_macroBodyOf_g0.2.2.2.2.2.2.1 ?_
    refine r_iload_n hE 1 dX1_macroBodyOf_g0.2.2.2.2.2.2.2.1 rfl rfl ?_
    obtain ⟨hi, h⟩ := h
    refine cl_fg_macroBody hE hm dX1_macroBodyOf_g0.2.2.2.2.2.2.2.2.1 hi ?_
    refine r_goto hE 21 dX1_macroBodyOf_g0.2.2.2.2.2.2.2.2.2.1 (by decide) ?_
    exact c_iret hE hm hF dX1_macroBodyOf_g0.2.2.2.2.2.2.2.2.2.2.2 h
/-! fg_paramsOf -/
def wc_fg_paramsOf (post : CS → Int32 → Prop) (σ : CS) (a1 : Int32) : Prop := wc_SX12_inside (fun (s1 : CS) (r2 : Int32) => ((r2 = (0 : Int32)) → (post s1 (0 : Int32))) ∧ ((¬ (r2 = (0 : Int32))) → (vp_in a1 12 ∧ (post s1 (c_fg_params s1 a1.toNatClampNeg))))) σ a1 (c_fg_macros σ)
set_option maxRecDepth 20000 in
theorem kc_fg_paramsOf {l : Launch} {D : va_G} {G : gAd} {post : CS → Int32 → Prop} {σ : CS} {a1 : Int32} (h : wc_fg_paramsOf post σ a1) : cMet l D G yX1_paramsOf cX1_paramsOf 2 (some .int) 2 [.ref (G.1 300), .int a1] σ (pI post) := by
  unfold wc_fg_paramsOf at h
  refine c_enter (own := RX1) (by decide +kernel) rfl [(0, .ref (G.1 300)), (1, .int a1)] rfl (Nat.le_of_ble_eq_true rfl) ?_
  intro E hE hm hF
  have hN := hm.2.2.2.2.2.2.1
  refine r_iload_n hE 1 dX1_paramsOf_g0.1 rfl rfl ?_
  refine r_aload_n hE 0 dX1_paramsOf_g0.2.1 rfl rfl ?_
  refine cg_fg_macros hE hm fk_X1_65 dX1_paramsOf_g0.2.2.1 ?_
  refine c_callSNi hE hm [.int a1, .int (c_fg_macros σ)] [] ck_X1_74 cw_X1_74 (kc_SX12_inside h) (by decide) rfl rfl (Nat.le_of_ble_eq_true rfl) dX1_paramsOf_g0.2.2.2.1 (fun s1 r2 h => ?_)
  refine r_if_eq hE 20 dX1_paramsOf_g0.2.2.2.2.1 (by decide) h (fun h => ?_) (fun h => ?_)
  · refine r_iconst (v := (0 : Int32)) hE dX1_paramsOf_g0.2.2.2.2.2.2.2.2.2.2.1 (by decide) ?_
    exact c_iret hE hm hF dX1_paramsOf_g0.2.2.2.2.2.2.2.2.2.2.2 h
  · refine r_aload_n hE 0 dX1_paramsOf_g0.2.2.2.2.2.1 rfl rfl ?_
    refine cg_fg_params hE hm fk_X1_56 dX1_paramsOf_g0.2.2.2.2.2.2.1 ?_
    refine r_iload_n hE 1 dX1_paramsOf_g0.2.2.2.2.2.2.2.1 rfl rfl ?_
    obtain ⟨hi, h⟩ := h
    refine cl_fg_params hE hm dX1_paramsOf_g0.2.2.2.2.2.2.2.2.1 hi ?_
    refine r_goto hE 21 dX1_paramsOf_g0.2.2.2.2.2.2.2.2.2.1 (by decide) ?_
    exact c_iret hE hm hF dX1_paramsOf_g0.2.2.2.2.2.2.2.2.2.2.2 h
/-! ru_valueAt -/
def wc_ru_valueAt_28 (post : CS → Int32 → Prop) (σ : CS) (t0 : Int32) : Prop := wc_SX12_inside (fun (s1 : CS) (r2 : Int32) => ((r2 = (0 : Int32)) → (post s1 (-1 : Int32))) ∧ ((¬ (r2 = (0 : Int32))) → (vp_in t0 401 ∧ (post s1 (c_ru_value s1 t0.toNatClampNeg))))) σ t0 (c_ru_values σ)
set_option maxRecDepth 20000 in
theorem kc_ru_valueAt_28  {E : gEnv} {l : Launch} {D : va_G} {G : gAd} {post : CS → Int32 → Prop} (hE : gOK E cX7_valueAt RX7 (some .int) 2) (hm : cOK E l D G (pI post) 3) (hF : gFin E) (σ : CS) (t0 : Int32) (h : wc_ru_valueAt_28 post σ t0) : GW E (cW G σ) 28 [(0, .ref (G.1 1200))] [.int t0] := by
  unfold wc_ru_valueAt_28 at h
  have hN := hm.2.2.2.2.2.2.1
  refine r_istore_n hE [(2, .int t0), (0, .ref (G.1 1200))] dX7_valueAt_g0.2.2.2.2.2.2.2.2.2.2.2.2.2.2.1 rfl hN (by decide) rfl ?_
  refine r_iload_n hE 0 dX7_valueAt_g0.2.2.2.2.2.2.2.2.2.2.2.2.2.2.2 rfl rfl ?_
  refine r_aload_n hE 1 dX7_valueAt_g1.1 rfl rfl ?_
  refine cg_ru_values hE hm fk_X7_35 dX7_valueAt_g1.2.1 ?_
  refine c_callSNi hE hm [.int t0, .int (c_ru_values σ)] [] ck_X7_92 cw_X7_92 (kc_SX12_inside h) (by decide) rfl rfl (Nat.le_of_ble_eq_true rfl) dX7_valueAt_g1.2.2.1 (fun s1 r2 h => ?_)
  refine r_if_eq hE 49 dX7_valueAt_g1.2.2.2.1 (by decide) h (fun h => ?_) (fun h => ?_)
  · refine r_iconst (v := (-1 : Int32)) hE dX7_valueAt_g1.2.2.2.2.2.2.2.2.2.1 (by decide) ?_
    exact c_iret hE hm hF dX7_valueAt_g1.2.2.2.2.2.2.2.2.2.2 h
  · refine r_aload_n hE 1 dX7_valueAt_g1.2.2.2.2.1 rfl rfl ?_
    refine cg_ru_value hE hm fk_X7_32 dX7_valueAt_g1.2.2.2.2.2.1 ?_
    refine r_iload_n hE 0 dX7_valueAt_g1.2.2.2.2.2.2.1 rfl rfl ?_
    obtain ⟨hi, h⟩ := h
    refine cl_ru_value hE hm dX7_valueAt_g1.2.2.2.2.2.2.2.1 hi ?_
    refine r_goto hE 50 dX7_valueAt_g1.2.2.2.2.2.2.2.2.1 (by decide) ?_
    exact c_iret hE hm hF dX7_valueAt_g1.2.2.2.2.2.2.2.2.2.2 h
def wc_ru_valueAt (post : CS → Int32 → Prop) (σ : CS) (a1 : Int32) : Prop := wc_SX12_inside (fun (s3 : CS) (r4 : Int32) => ((r4 = (0 : Int32)) → (wc_ru_valueAt_28 post s3 (-1 : Int32))) ∧ ((¬ (r4 = (0 : Int32))) → (vp_in (c_ru_top s3) 401 ∧ (wc_ru_valueAt_28 post s3 ((c_ru_floor s3 (c_ru_top s3).toNatClampNeg) + a1))))) σ (c_ru_top σ) (401 : Int32)
set_option maxRecDepth 20000 in
theorem kc_ru_valueAt {l : Launch} {D : va_G} {G : gAd} {post : CS → Int32 → Prop} {σ : CS} {a1 : Int32} (h : wc_ru_valueAt post σ a1) : cMet l D G yX7_valueAt cX7_valueAt 3 (some .int) 2 [.ref (G.1 1200), .int a1] σ (pI post) := by
  unfold wc_ru_valueAt at h
  refine c_enter (own := RX7) (by decide +kernel) rfl [(0, .ref (G.1 1200)), (1, .int a1)] rfl (Nat.le_of_ble_eq_true rfl) ?_
  intro E hE hm hF
  have hN := hm.2.2.2.2.2.2.1
  refine r_aload_n hE 0 dX7_valueAt_g0.1 rfl rfl ?_
  refine cg_ru_top hE hm fk_X7_28 dX7_valueAt_g0.2.1 ?_
  refine r_sipush (v := (401 : Int32)) hE dX7_valueAt_g0.2.2.1 (by decide) ?_
  refine c_callSNi hE hm [.int (c_ru_top σ), .int (401 : Int32)] [] ck_X7_92 cw_X7_92 (kc_SX12_inside h) (by decide) rfl rfl (Nat.le_of_ble_eq_true rfl) dX7_valueAt_g0.2.2.2.1 (fun s3 r4 h => ?_)
  refine r_if_eq hE 27 dX7_valueAt_g0.2.2.2.2.1 (by decide) h (fun h => ?_) (fun h => ?_)
  · refine r_iconst (v := (-1 : Int32)) hE dX7_valueAt_g0.2.2.2.2.2.2.2.2.2.2.2.2.2.1 (by decide) ?_
    refine r_pick [0] rfl ?_
    exact kc_ru_valueAt_28 hE hm hF _ _ h
  · refine r_aload_n hE 0 dX7_valueAt_g0.2.2.2.2.2.1 rfl rfl ?_
    refine cg_ru_floor hE hm fk_X7_18 dX7_valueAt_g0.2.2.2.2.2.2.1 ?_
    refine r_aload_n hE 0 dX7_valueAt_g0.2.2.2.2.2.2.2.1 rfl rfl ?_
    refine cg_ru_top hE hm fk_X7_28 dX7_valueAt_g0.2.2.2.2.2.2.2.2.1 ?_
    obtain ⟨hi, h⟩ := h
    refine cl_ru_floor hE hm dX7_valueAt_g0.2.2.2.2.2.2.2.2.2.1 hi ?_
    refine r_iload_n hE 1 dX7_valueAt_g0.2.2.2.2.2.2.2.2.2.2.1 rfl rfl ?_
    refine r_iadd hE dX7_valueAt_g0.2.2.2.2.2.2.2.2.2.2.2.1 ?_
    refine r_goto hE 28 dX7_valueAt_g0.2.2.2.2.2.2.2.2.2.2.2.2.1 (by decide) ?_
    refine r_pick [0] rfl ?_
    exact kc_ru_valueAt_28 hE hm hF _ _ h
/-! ru_finishCall -/
def wc_ru_finishCall_54 (post : CS → Prop) : Nat → CS → Int32 → Int32 → Prop
  | 0, _, _, _ => False
  | n + 1, σ, v1, v2 => c_ru_figure σ = 300 ∧ (wc_fg_paramsOf (fun (s1 : CS) (r2 : Int32) => ((r2 ≤ v2) → (c_ru_figure s1 = 300 ∧ (wc_fg_macroBodyOf (fun (s3 : CS) (r4 : Int32) => wc_ru_enterBlock (fun (s5 : CS) => post s5) s3 r4) s1 v1))) ∧ ((¬ (r2 ≤ v2)) → (wc_ru_valueAt (fun (s6 : CS) (r7 : Int32) => wc_ru_hold (fun (s8 : CS) => ∀ x9 : Int32, x9 = v2 + (1 : Int32) → wc_ru_finishCall_54 post n s8 v1 x9) s6 v2 r7) s1 v2))) σ v1)
set_option maxRecDepth 20000 in
theorem kc_ru_finishCall_54  {E : gEnv} {l : Launch} {D : va_G} {G : gAd} {post : CS → Prop} (hE : gOK E cX7_finishCall RX7 none 5) (hm : cOK E l D G (pV post) 3) (hF : gFin E) : ∀ (n0 : Nat) (σ : CS) (v1 : Int32) (v2 : Int32), wc_ru_finishCall_54 post n0 σ v1 v2 → GW E (cW G σ) 54 [(0, .ref (G.1 1200)), (1, .int v1), (2, .int v2)] [] := by
  intro n0
  induction n0 with
  | zero => intro σ v1 v2 h; exact h.elim
  | succ n0 ih =>
    intro σ v1 v2 h
    rw [wc_ru_finishCall_54] at h
    have hN := hm.2.2.2.2.2.2.1
    refine r_iload_n hE 2 dX7_finishCall_g1.2.2.2.2.2.2.2.2.2.2.2.2.1 rfl rfl ?_
    refine r_aload_n hE 0 dX7_finishCall_g1.2.2.2.2.2.2.2.2.2.2.2.2.2.1 rfl rfl ?_
    obtain ⟨hj, h⟩ := h
    refine cg_ru_figure hE hm fk_X7_44 dX7_finishCall_g1.2.2.2.2.2.2.2.2.2.2.2.2.2.2.1 hj ?_
    refine r_iload_n hE 1 dX7_finishCall_g1.2.2.2.2.2.2.2.2.2.2.2.2.2.2.2 rfl rfl ?_
    refine c_callVi hE hm [.int v1] [.int v2] ck_X7_213 (cr_fg hm rfl) (kc_fg_paramsOf h) (by decide) rfl rfl (Nat.le_of_ble_eq_true rfl) dX7_finishCall_g2.1 (fun s1 r2 h => ?_)
    refine r_icmp_ge hE 82 dX7_finishCall_g2.2.1 (by decide) h (fun h => ?_) (fun h => ?_)
    · refine r_aload_n hE 0 dX7_finishCall_g2.2.2.2.2.2.2.2.2.2.2.1 rfl rfl ?_
      refine r_aload_n hE 0 dX7_finishCall_g2.2.2.2.2.2.2.2.2.2.2.2.1 rfl rfl ?_
      obtain ⟨hj, h⟩ := h
      refine cg_ru_figure hE hm fk_X7_44 dX7_finishCall_g2.2.2.2.2.2.2.2.2.2.2.2.2.1 hj ?_
      refine r_iload_n hE 1 dX7_finishCall_g2.2.2.2.2.2.2.2.2.2.2.2.2.2.1 rfl rfl ?_
      refine c_callVi hE hm [.int v1] [.ref (G.1 1200)] ck_X7_216 (cr_fg hm rfl) (kc_fg_macroBodyOf h) (by decide) rfl rfl (Nat.le_of_ble_eq_true rfl) dX7_finishCall_g2.2.2.2.2.2.2.2.2.2.2.2.2.2.2.1 (fun s3 r4 h => ?_)
      refine c_callVv hE hm [.int r4] [] ck_X7_219 (cr_ru hm rfl) (kc_ru_enterBlock h) (by decide) rfl rfl (Nat.le_of_ble_eq_true rfl) dX7_finishCall_g2.2.2.2.2.2.2.2.2.2.2.2.2.2.2.2 (fun s5 h => ?_)
      exact c_vret hE hm hF dX7_finishCall_g3 h
    · refine r_aload_n hE 0 dX7_finishCall_g2.2.2.1 rfl rfl ?_
      refine r_iload_n hE 2 dX7_finishCall_g2.2.2.2.1 rfl rfl ?_
      refine r_aload_n hE 0 dX7_finishCall_g2.2.2.2.2.1 rfl rfl ?_
      refine r_iload_n hE 2 dX7_finishCall_g2.2.2.2.2.2.1 rfl rfl ?_
      refine c_callVi hE hm [.int v2] [.int v2, .ref (G.1 1200)] ck_X7_171 (cr_ru hm rfl) (kc_ru_valueAt h) (by decide) rfl rfl (Nat.le_of_ble_eq_true rfl) dX7_finishCall_g2.2.2.2.2.2.2.1 (fun s6 r7 h => ?_)
      refine c_callVv hE hm [.int v2, .int r7] [] ck_X7_127 (cr_ru hm rfl) (kc_ru_hold h) (by decide) rfl rfl (Nat.le_of_ble_eq_true rfl) dX7_finishCall_g2.2.2.2.2.2.2.2.1 (fun s8 h => ?_)
      obtain ⟨x9, ex9⟩ : ∃ z : Int32, z = v2 + (1 : Int32) := ⟨_, rfl⟩
      have h := h x9 ex9
      refine r_iinc (v := x9) hE [(2, .int x9), (0, .ref (G.1 1200)), (1, .int v1)] 2 dX7_finishCall_g2.2.2.2.2.2.2.2.2.1 rfl (by rw [ex9]; rfl) hN (by decide) rfl ?_
      refine r_goto hE 54 dX7_finishCall_g2.2.2.2.2.2.2.2.2.2.1 (by decide) ?_
      refine r_pick [1, 2, 0] rfl ?_
      exact ih _ _ _ h
def wc_ru_finishCall (post : CS → Prop) (σ : CS) (a1 : Int32) : Prop := vp_in (c_ru_top σ) 401 ∧ ((((c_ru_inBlock σ (c_ru_top σ).toNatClampNeg) = (0 : Int32)) → ((((c_ru_frame σ) < (8 : Int32)) → (∀ s10 : CS, s10 = c_ru_frame_s σ ((c_ru_frame σ) + (1 : Int32)) → wc_ru_emptyNames (fun (s11 : CS) => ∃ k : Nat, wc_ru_finishCall_54 post k s11 a1 (0 : Int32)) s10)) ∧ ((¬ ((c_ru_frame σ) < (8 : Int32))) → (wc_ru_fallDown (fun (s12 : CS) => post s12) σ (9 : Int32))))) ∧ ((¬ ((c_ru_inBlock σ (c_ru_top σ).toNatClampNeg) = (0 : Int32))) → (wc_ru_leaveMacro (fun (s13 : CS) => post s13) σ (-1 : Int32))))
set_option maxRecDepth 20000 in
theorem kc_ru_finishCall {l : Launch} {D : va_G} {G : gAd} {post : CS → Prop} {σ : CS} {a1 : Int32} (h : wc_ru_finishCall post σ a1) : cMet l D G yX7_finishCall cX7_finishCall 3 none 5 [.ref (G.1 1200), .int a1] σ (pV post) := by
  unfold wc_ru_finishCall at h
  refine c_enter (own := RX7) (by decide +kernel) rfl [(0, .ref (G.1 1200)), (1, .int a1)] rfl (Nat.le_of_ble_eq_true rfl) ?_
  intro E hE hm hF
  have hN := hm.2.2.2.2.2.2.1
  refine r_aload_n hE 0 dX7_finishCall_g0.1 rfl rfl ?_
  refine cg_ru_inBlock hE hm fk_X7_21 dX7_finishCall_g0.2.1 ?_
  refine r_aload_n hE 0 dX7_finishCall_g0.2.2.1 rfl rfl ?_
  refine cg_ru_top hE hm fk_X7_28 dX7_finishCall_g0.2.2.2.1 ?_
  obtain ⟨hi, h⟩ := h
  refine cl_ru_inBlock hE hm dX7_finishCall_g0.2.2.2.2.1 hi ?_
  refine r_if_eq hE 20 dX7_finishCall_g0.2.2.2.2.2.1 (by decide) h (fun h => ?_) (fun h => ?_)
  · refine r_aload_n hE 0 dX7_finishCall_g0.2.2.2.2.2.2.2.2.2.2.1 rfl rfl ?_
    refine cg_ru_frame hE hm fk_X7_41 dX7_finishCall_g0.2.2.2.2.2.2.2.2.2.2.2.1 ?_
    refine r_bipush (v := (8 : Int32)) hE dX7_finishCall_g0.2.2.2.2.2.2.2.2.2.2.2.2.1 (by decide) ?_
    refine r_icmp_lt hE 38 dX7_finishCall_g0.2.2.2.2.2.2.2.2.2.2.2.2.2.1 (by decide) h (fun h => ?_) (fun h => ?_)
    · refine r_aload_n hE 0 dX7_finishCall_g1.2.2.1 rfl rfl ?_
      refine r_dup hE dX7_finishCall_g1.2.2.2.1 rfl ?_
      refine cg_ru_frame hE hm fk_X7_41 dX7_finishCall_g1.2.2.2.2.1 ?_
      refine r_iconst (v := (1 : Int32)) hE dX7_finishCall_g1.2.2.2.2.2.1 (by decide) ?_
      refine r_iadd hE dX7_finishCall_g1.2.2.2.2.2.2.1 ?_
      refine cp_ru_frame hE hm fk_X7_41 dX7_finishCall_g1.2.2.2.2.2.2.2.1 h (fun s10 h => ?_)
      refine r_aload_n hE 0 dX7_finishCall_g1.2.2.2.2.2.2.2.2.1 rfl rfl ?_
      refine c_callVv hE hm [] [] ck_X7_79 (cr_ru hm rfl) (kc_ru_emptyNames h) (by decide) rfl rfl (Nat.le_of_ble_eq_true rfl) dX7_finishCall_g1.2.2.2.2.2.2.2.2.2.1 (fun s11 h => ?_)
      refine r_iconst (v := (0 : Int32)) hE dX7_finishCall_g1.2.2.2.2.2.2.2.2.2.2.1 (by decide) ?_
      refine r_istore_n hE [(2, .int (0 : Int32)), (0, .ref (G.1 1200)), (1, .int a1)] dX7_finishCall_g1.2.2.2.2.2.2.2.2.2.2.2.1 rfl hN (by decide) rfl ?_
      refine r_pick [1, 2, 0] rfl ?_
      obtain ⟨k, h⟩ := h
      exact kc_ru_finishCall_54 hE hm hF k _ _ _ h
    · refine r_aload_n hE 0 dX7_finishCall_g0.2.2.2.2.2.2.2.2.2.2.2.2.2.2.1 rfl rfl ?_
      refine r_bipush (v := (9 : Int32)) hE dX7_finishCall_g0.2.2.2.2.2.2.2.2.2.2.2.2.2.2.2 (by decide) ?_
      refine c_callVv hE hm [.int (9 : Int32)] [] ck_X7_158 (cr_ru hm rfl) (kc_ru_fallDown h) (by decide) rfl rfl (Nat.le_of_ble_eq_true rfl) dX7_finishCall_g1.1 (fun s12 h => ?_)
      refine r_goto hE 94 dX7_finishCall_g1.2.1 (by decide) ?_
      exact c_vret hE hm hF dX7_finishCall_g3 h
  · refine r_aload_n hE 0 dX7_finishCall_g0.2.2.2.2.2.2.1 rfl rfl ?_
    refine r_iconst (v := (-1 : Int32)) hE dX7_finishCall_g0.2.2.2.2.2.2.2.1 (by decide) ?_
    refine c_callVv hE hm [.int (-1 : Int32)] [] ck_X7_210 (cr_ru hm rfl) (kc_ru_leaveMacro h) (by decide) rfl rfl (Nat.le_of_ble_eq_true rfl) dX7_finishCall_g0.2.2.2.2.2.2.2.2.1 (fun s13 h => ?_)
    refine r_goto hE 94 dX7_finishCall_g0.2.2.2.2.2.2.2.2.2.1 (by decide) ?_
    exact c_vret hE hm hF dX7_finishCall_g3 h
/-! to_addDrawn -/
def wc_to_addDrawn (post : CS → Prop) (σ : CS) (a1 : Int32) : Prop := wc_SX12_inside (fun (s1 : CS) (r2 : Int32) => ((r2 = (0 : Int32)) → (post s1)) ∧ ((¬ (r2 = (0 : Int32))) → (vp_in (c_to_draws s1) 40 ∧ (∀ s3 : CS, s3 = c_to_drawn_s s1 (c_to_draws s1).toNatClampNeg a1 → ∀ s4 : CS, s4 = c_to_draws_s s3 ((c_to_draws s3) + (1 : Int32)) → post s4)))) σ (c_to_draws σ) (40 : Int32)
set_option maxRecDepth 20000 in
theorem kc_to_addDrawn {l : Launch} {D : va_G} {G : gAd} {post : CS → Prop} {σ : CS} {a1 : Int32} (h : wc_to_addDrawn post σ a1) : cMet l D G yX9_addDrawn cX9_addDrawn 2 none 2 [.ref (G.1 1100), .int a1] σ (pV post) := by
  unfold wc_to_addDrawn at h
  refine c_enter (own := RX9) (by decide +kernel) rfl [(0, .ref (G.1 1100)), (1, .int a1)] rfl (Nat.le_of_ble_eq_true rfl) ?_
  intro E hE hm hF
  have hN := hm.2.2.2.2.2.2.1
  refine r_aload_n hE 0 dX9_addDrawn_g0.1 rfl rfl ?_
  refine cg_to_draws hE hm fk_X9_24 dX9_addDrawn_g0.2.1 ?_
  refine r_bipush (v := (40 : Int32)) hE dX9_addDrawn_g0.2.2.1 (by decide) ?_
  refine c_callSNi hE hm [.int (c_to_draws σ), .int (40 : Int32)] [] ck_X9_41 cw_X9_41 (kc_SX12_inside h) (by decide) rfl rfl (Nat.le_of_ble_eq_true rfl) dX9_addDrawn_g0.2.2.2.1 (fun s1 r2 h => ?_)
  refine r_if_eq hE 32 dX9_addDrawn_g0.2.2.2.2.1 (by decide) h (fun h => ?_) (fun h => ?_)
  · exact c_vret hE hm hF dX9_addDrawn_g1.2 h
  · refine r_aload_n hE 0 dX9_addDrawn_g0.2.2.2.2.2.1 rfl rfl ?_
    refine cg_to_drawn hE hm fk_X9_9 dX9_addDrawn_g0.2.2.2.2.2.2.1 ?_
    refine r_aload_n hE 0 dX9_addDrawn_g0.2.2.2.2.2.2.2.1 rfl rfl ?_
    refine cg_to_draws hE hm fk_X9_24 dX9_addDrawn_g0.2.2.2.2.2.2.2.2.1 ?_
    refine r_iload_n hE 1 dX9_addDrawn_g0.2.2.2.2.2.2.2.2.2.1 rfl rfl ?_
    obtain ⟨hi, h⟩ := h
    refine cs_to_drawn hE hm dX9_addDrawn_g0.2.2.2.2.2.2.2.2.2.2.1 hi h (fun s3 h => ?_)
    refine r_aload_n hE 0 dX9_addDrawn_g0.2.2.2.2.2.2.2.2.2.2.2.1 rfl rfl ?_
    refine r_dup hE dX9_addDrawn_g0.2.2.2.2.2.2.2.2.2.2.2.2.1 rfl ?_
    refine cg_to_draws hE hm fk_X9_24 dX9_addDrawn_g0.2.2.2.2.2.2.2.2.2.2.2.2.2.1 ?_
    refine r_iconst (v := (1 : Int32)) hE dX9_addDrawn_g0.2.2.2.2.2.2.2.2.2.2.2.2.2.2.1 (by decide) ?_
    refine r_iadd hE dX9_addDrawn_g0.2.2.2.2.2.2.2.2.2.2.2.2.2.2.2 ?_
    refine cp_to_draws hE hm fk_X9_24 dX9_addDrawn_g1.1 h (fun s4 h => ?_)
    exact c_vret hE hm hF dX9_addDrawn_g1.2 h
/-! ru_finishDraw -/
def wc_ru_finishDraw (post : CS → Prop) (σ : CS) (a1 : Int32) : Prop := ((¬ (a1 = (-1 : Int32))) → (wc_to_isFullOf (fun (s1 : CS) (r2 : Int32) => ((r2 = (0 : Int32)) → (wc_to_addDrawn (fun (s3 : CS) => wc_ru_drop (fun (s4 : CS) => post s4) s3) s1 a1)) ∧ ((¬ (r2 = (0 : Int32))) → (wc_ru_fallDown (fun (s5 : CS) => post s5) s1 (9 : Int32)))) σ (5 : Int32))) ∧ ((a1 = (-1 : Int32)) → (wc_ru_fallDown (fun (s6 : CS) => post s6) σ (1 : Int32)))
set_option maxRecDepth 20000 in
theorem kc_ru_finishDraw {l : Launch} {D : va_G} {G : gAd} {post : CS → Prop} {σ : CS} {a1 : Int32} (h : wc_ru_finishDraw post σ a1) : cMet l D G yX7_finishDraw cX7_finishDraw 2 none 5 [.ref (G.1 1200), .int a1] σ (pV post) := by
  unfold wc_ru_finishDraw at h
  refine c_enter (own := RX7) (by decide +kernel) rfl [(0, .ref (G.1 1200)), (1, .int a1)] rfl (Nat.le_of_ble_eq_true rfl) ?_
  intro E hE hm hF
  have hN := hm.2.2.2.2.2.2.1
  refine r_iload_n hE 1 dX7_finishDraw_g0.1 rfl rfl ?_
  refine r_iconst (v := (-1 : Int32)) hE dX7_finishDraw_g0.2.1 (by decide) ?_
  refine r_icmp_ne hE 13 dX7_finishDraw_g0.2.2.1 (by decide) h (fun h => ?_) (fun h => ?_)
  · refine r_aload_n hE 0 dX7_finishDraw_g0.2.2.2.2.2.2.2.1 rfl rfl ?_
    refine cg_ru_told hE hm fk_X7_52 dX7_finishDraw_g0.2.2.2.2.2.2.2.2.1 ?_
    refine r_iconst (v := (5 : Int32)) hE dX7_finishDraw_g0.2.2.2.2.2.2.2.2.2.1 (by decide) ?_
    refine c_callVi hE hm [.int (5 : Int32)] [] ck_X7_154 (cr_to hm rfl) (kc_to_isFullOf h) (by decide) rfl rfl (Nat.le_of_ble_eq_true rfl) dX7_finishDraw_g0.2.2.2.2.2.2.2.2.2.2.1 (fun s1 r2 h => ?_)
    refine r_if_eq hE 33 dX7_finishDraw_g0.2.2.2.2.2.2.2.2.2.2.2.1 (by decide) h (fun h => ?_) (fun h => ?_)
    · refine r_aload_n hE 0 dX7_finishDraw_g1.1 rfl rfl ?_
      refine cg_ru_told hE hm fk_X7_52 dX7_finishDraw_g1.2.1 ?_
      refine r_iload_n hE 1 dX7_finishDraw_g1.2.2.1 rfl rfl ?_
      refine c_callVv hE hm [.int a1] [] ck_X7_242 (cr_to hm rfl) (kc_to_addDrawn h) (by decide) rfl rfl (Nat.le_of_ble_eq_true rfl) dX7_finishDraw_g1.2.2.2.1 (fun s3 h => ?_)
      refine r_aload_n hE 0 dX7_finishDraw_g1.2.2.2.2.1 rfl rfl ?_
      refine c_callVv hE hm [] [] ck_X7_168 (cr_ru hm rfl) (kc_ru_drop h) (by decide) rfl rfl (Nat.le_of_ble_eq_true rfl) dX7_finishDraw_g1.2.2.2.2.2.1 (fun s4 h => ?_)
      exact c_vret hE hm hF dX7_finishDraw_g1.2.2.2.2.2.2 h
    · refine r_aload_n hE 0 dX7_finishDraw_g0.2.2.2.2.2.2.2.2.2.2.2.2.1 rfl rfl ?_
      refine r_bipush (v := (9 : Int32)) hE dX7_finishDraw_g0.2.2.2.2.2.2.2.2.2.2.2.2.2.1 (by decide) ?_
      refine c_callVv hE hm [.int (9 : Int32)] [] ck_X7_158 (cr_ru hm rfl) (kc_ru_fallDown h) (by decide) rfl rfl (Nat.le_of_ble_eq_true rfl) dX7_finishDraw_g0.2.2.2.2.2.2.2.2.2.2.2.2.2.2.1 (fun s5 h => ?_)
      refine r_goto hE 45 dX7_finishDraw_g0.2.2.2.2.2.2.2.2.2.2.2.2.2.2.2 (by decide) ?_
      exact c_vret hE hm hF dX7_finishDraw_g1.2.2.2.2.2.2 h
  · refine r_aload_n hE 0 dX7_finishDraw_g0.2.2.2.1 rfl rfl ?_
    refine r_iconst (v := (1 : Int32)) hE dX7_finishDraw_g0.2.2.2.2.1 (by decide) ?_
    refine c_callVv hE hm [.int (1 : Int32)] [] ck_X7_158 (cr_ru hm rfl) (kc_ru_fallDown h) (by decide) rfl rfl (Nat.le_of_ble_eq_true rfl) dX7_finishDraw_g0.2.2.2.2.2.1 (fun s6 h => ?_)
    refine r_goto hE 45 dX7_finishDraw_g0.2.2.2.2.2.2.1 (by decide) ?_
    exact c_vret hE hm hF dX7_finishDraw_g1.2.2.2.2.2.2 h
/-! fg_bodyOf -/
def wc_fg_bodyOf (post : CS → Int32 → Prop) (σ : CS) (a1 : Int32) : Prop := ((a1 < (0 : Int32)) → (post σ (-1 : Int32))) ∧ ((¬ (a1 < (0 : Int32))) → ((((c_fg_nodes σ) ≤ a1) → (post σ (-1 : Int32))) ∧ ((¬ ((c_fg_nodes σ) ≤ a1)) → (vp_in a1 250 ∧ (post σ (c_fg_body σ a1.toNatClampNeg))))))
set_option maxRecDepth 20000 in
theorem kc_fg_bodyOf {l : Launch} {D : va_G} {G : gAd} {post : CS → Int32 → Prop} {σ : CS} {a1 : Int32} (h : wc_fg_bodyOf post σ a1) : cMet l D G yX1_bodyOf cX1_bodyOf 2 (some .int) 1 [.ref (G.1 300), .int a1] σ (pI post) := by
  unfold wc_fg_bodyOf at h
  refine c_enter (own := RX1) (by decide +kernel) rfl [(0, .ref (G.1 300)), (1, .int a1)] rfl (Nat.le_of_ble_eq_true rfl) ?_
  intro E hE hm hF
  have hN := hm.2.2.2.2.2.2.1
  refine r_iload_n hE 1 dX1_bodyOf_g0.1 rfl rfl ?_
  refine r_if_lt hE 21 dX1_bodyOf_g0.2.1 (by decide) h (fun h => ?_) (fun h => ?_)
  · refine r_iconst (v := (-1 : Int32)) hE dX1_bodyOf_g0.2.2.2.2.2.2.2.2.2.2.2.1 (by decide) ?_
    exact c_iret hE hm hF dX1_bodyOf_g0.2.2.2.2.2.2.2.2.2.2.2.2 h
  · refine r_iload_n hE 1 dX1_bodyOf_g0.2.2.1 rfl rfl ?_
    refine r_aload_n hE 0 dX1_bodyOf_g0.2.2.2.1 rfl rfl ?_
    refine cg_fg_nodes hE hm fk_X1_41 dX1_bodyOf_g0.2.2.2.2.1 ?_
    refine r_icmp_ge hE 21 dX1_bodyOf_g0.2.2.2.2.2.1 (by decide) h (fun h => ?_) (fun h => ?_)
    · refine r_iconst (v := (-1 : Int32)) hE dX1_bodyOf_g0.2.2.2.2.2.2.2.2.2.2.2.1 (by decide) ?_
      exact c_iret hE hm hF dX1_bodyOf_g0.2.2.2.2.2.2.2.2.2.2.2.2 h
    · refine r_aload_n hE 0 dX1_bodyOf_g0.2.2.2.2.2.2.1 rfl rfl ?_
      refine cg_fg_body hE hm fk_X1_35 dX1_bodyOf_g0.2.2.2.2.2.2.2.1 ?_
      refine r_iload_n hE 1 dX1_bodyOf_g0.2.2.2.2.2.2.2.2.1 rfl rfl ?_
      obtain ⟨hi, h⟩ := h
      refine cl_fg_body hE hm dX1_bodyOf_g0.2.2.2.2.2.2.2.2.2.1 hi ?_
      refine r_goto hE 22 dX1_bodyOf_g0.2.2.2.2.2.2.2.2.2.2.1 (by decide) ?_
      exact c_iret hE hm hF dX1_bodyOf_g0.2.2.2.2.2.2.2.2.2.2.2.2 h
/-! ru_finishIf -/
def wc_ru_finishIf_104 (post : CS → Prop) (σ : CS) (t1 : Int32) : Prop := wc_ru_enterBlock (fun (s1 : CS) => post s1) σ t1
set_option maxRecDepth 20000 in
theorem kc_ru_finishIf_104  {E : gEnv} {l : Launch} {D : va_G} {G : gAd} {post : CS → Prop} (hE : gOK E cX7_finishIf RX7 none 5) (hm : cOK E l D G (pV post) 3) (hF : gFin E) (σ : CS) (t1 : Int32) (h : wc_ru_finishIf_104 post σ t1) : GW E (cW G σ) 104 [] [.int t1, .ref (G.1 1200)] := by
  unfold wc_ru_finishIf_104 at h
  have hN := hm.2.2.2.2.2.2.1
  refine c_callVv hE hm [.int t1] [] ck_X7_219 (cr_ru hm rfl) (kc_ru_enterBlock h) (by decide) rfl rfl (Nat.le_of_ble_eq_true rfl) dX7_finishIf_g3.2.2.2.1 (fun s1 h => ?_)
  exact c_vret hE hm hF dX7_finishIf_g3.2.2.2.2 h
def wc_ru_finishIf_79 (post : CS → Prop) (σ : CS) (v1 : Int32) (t0 : Int32) : Prop := ((t0 = (0 : Int32)) → (c_ru_figure σ = 300 ∧ (wc_fg_otherOf (fun (s2 : CS) (r3 : Int32) => wc_ru_finishIf_104 post s2 r3) σ v1))) ∧ ((¬ (t0 = (0 : Int32))) → (c_ru_figure σ = 300 ∧ (wc_fg_bodyOf (fun (s4 : CS) (r5 : Int32) => wc_ru_finishIf_104 post s4 r5) σ v1)))
set_option maxRecDepth 20000 in
theorem kc_ru_finishIf_79  {E : gEnv} {l : Launch} {D : va_G} {G : gAd} {post : CS → Prop} (hE : gOK E cX7_finishIf RX7 none 5) (hm : cOK E l D G (pV post) 3) (hF : gFin E) (σ : CS) (v1 : Int32) (t0 : Int32) (h : wc_ru_finishIf_79 post σ v1 t0) : GW E (cW G σ) 79 [(0, .ref (G.1 1200)), (1, .int v1)] [.int t0] := by
  unfold wc_ru_finishIf_79 at h
  have hN := hm.2.2.2.2.2.2.1
  refine r_istore_n hE [(2, .int t0), (0, .ref (G.1 1200)), (1, .int v1)] dX7_finishIf_g2.2.2.2.2.2.2.1 rfl hN (by decide) rfl ?_
  refine r_aload_n hE 1 dX7_finishIf_g2.2.2.2.2.2.2.2.1 rfl rfl ?_
  refine r_iload_n hE 0 dX7_finishIf_g2.2.2.2.2.2.2.2.2.1 rfl rfl ?_
  refine r_if_eq hE 96 dX7_finishIf_g2.2.2.2.2.2.2.2.2.2.1 (by decide) h (fun h => ?_) (fun h => ?_)
  · refine r_aload_n hE 1 dX7_finishIf_g2.2.2.2.2.2.2.2.2.2.2.2.2.2.2.2 rfl rfl ?_
    obtain ⟨hj, h⟩ := h
    refine cg_ru_figure hE hm fk_X7_44 dX7_finishIf_g3.1 hj ?_
    refine r_iload_n hE 2 dX7_finishIf_g3.2.1 rfl rfl ?_
    refine c_callVi hE hm [.int v1] [.ref (G.1 1200)] ck_X7_233 (cr_fg hm rfl) (kc_fg_otherOf h) (by decide) rfl rfl (Nat.le_of_ble_eq_true rfl) dX7_finishIf_g3.2.2.1 (fun s2 r3 h => ?_)
    refine r_pick [] rfl ?_
    exact kc_ru_finishIf_104 hE hm hF _ _ h
  · refine r_aload_n hE 1 dX7_finishIf_g2.2.2.2.2.2.2.2.2.2.2.1 rfl rfl ?_
    obtain ⟨hj, h⟩ := h
    refine cg_ru_figure hE hm fk_X7_44 dX7_finishIf_g2.2.2.2.2.2.2.2.2.2.2.2.1 hj ?_
    refine r_iload_n hE 2 dX7_finishIf_g2.2.2.2.2.2.2.2.2.2.2.2.2.1 rfl rfl ?_
    refine c_callVi hE hm [.int v1] [.ref (G.1 1200)] ck_X7_230 (cr_fg hm rfl) (kc_fg_bodyOf h) (by decide) rfl rfl (Nat.le_of_ble_eq_true rfl) dX7_finishIf_g2.2.2.2.2.2.2.2.2.2.2.2.2.2.1 (fun s4 r5 h => ?_)
    refine r_goto hE 104 dX7_finishIf_g2.2.2.2.2.2.2.2.2.2.2.2.2.2.2.1 (by decide) ?_
    refine r_pick [] rfl ?_
    exact kc_ru_finishIf_104 hE hm hF _ _ h
def wc_ru_finishIf (post : CS → Prop) (σ : CS) (a1 : Int32) : Prop := vp_in (c_ru_top σ) 401 ∧ ((((c_ru_inBlock σ (c_ru_top σ).toNatClampNeg) = (0 : Int32)) → (wc_ru_valueAt (fun (s6 : CS) (r7 : Int32) => wc_wo_accepts (fun (s8 : CS) (r9 : Int32) => ((¬ (r9 = (0 : Int32))) → (wc_ru_valueAt (fun (s10 : CS) (r11 : Int32) => wc_th_partOf (fun (s12 : CS) (r13 : Int64) => (((lg_cmp r13 (1 : Int64)) = (0 : Int32)) → (wc_ru_finishIf_79 post s12 a1 (0 : Int32))) ∧ ((¬ ((lg_cmp r13 (1 : Int64)) = (0 : Int32))) → (wc_ru_finishIf_79 post s12 a1 (1 : Int32)))) s10 r11 (0 : Int32)) s8 (0 : Int32))) ∧ ((r9 = (0 : Int32)) → (wc_ru_fallDown (fun (s14 : CS) => post s14) s8 (c_rk_failure s8)))) s6 r7 (78 : Int32)) σ (0 : Int32))) ∧ ((¬ ((c_ru_inBlock σ (c_ru_top σ).toNatClampNeg) = (0 : Int32))) → (wc_ru_drop (fun (s15 : CS) => post s15) σ)))
set_option maxRecDepth 20000 in
theorem kc_ru_finishIf {l : Launch} {D : va_G} {G : gAd} {post : CS → Prop} {σ : CS} {a1 : Int32} (h : wc_ru_finishIf post σ a1) : cMet l D G yX7_finishIf cX7_finishIf 3 none 5 [.ref (G.1 1200), .int a1] σ (pV post) := by
  unfold wc_ru_finishIf at h
  refine c_enter (own := RX7) (by decide +kernel) rfl [(0, .ref (G.1 1200)), (1, .int a1)] rfl (Nat.le_of_ble_eq_true rfl) ?_
  intro E hE hm hF
  have hN := hm.2.2.2.2.2.2.1
  refine r_aload_n hE 0 dX7_finishIf_g0.1 rfl rfl ?_
  refine cg_ru_inBlock hE hm fk_X7_21 dX7_finishIf_g0.2.1 ?_
  refine r_aload_n hE 0 dX7_finishIf_g0.2.2.1 rfl rfl ?_
  refine cg_ru_top hE hm fk_X7_28 dX7_finishIf_g0.2.2.2.1 ?_
  obtain ⟨hi, h⟩ := h
  refine cl_ru_inBlock hE hm dX7_finishIf_g0.2.2.2.2.1 hi ?_
  refine r_if_eq hE 19 dX7_finishIf_g0.2.2.2.2.2.1 (by decide) h (fun h => ?_) (fun h => ?_)
  · refine r_aload_n hE 0 dX7_finishIf_g0.2.2.2.2.2.2.2.2.2.1 rfl rfl ?_
    refine cg_ru_shop hE hm fk_X7_48 dX7_finishIf_g0.2.2.2.2.2.2.2.2.2.2.1 ?_
    refine r_aload_n hE 0 dX7_finishIf_g0.2.2.2.2.2.2.2.2.2.2.2.1 rfl rfl ?_
    refine r_iconst (v := (0 : Int32)) hE dX7_finishIf_g0.2.2.2.2.2.2.2.2.2.2.2.2.1 (by decide) ?_
    refine c_callVi hE hm [.int (0 : Int32)] [.ref (G.1 1300)] ck_X7_171 (cr_ru hm rfl) (kc_ru_valueAt h) (by decide) rfl rfl (Nat.le_of_ble_eq_true rfl) dX7_finishIf_g0.2.2.2.2.2.2.2.2.2.2.2.2.2.1 (fun s6 r7 h => ?_)
    refine r_bipush (v := (78 : Int32)) hE dX7_finishIf_g0.2.2.2.2.2.2.2.2.2.2.2.2.2.2.1 (by decide) ?_
    refine c_callVi hE hm [.int r7, .int (78 : Int32)] [] ck_X7_222 (cr_wo hm rfl) (kc_wo_accepts h) (by decide) rfl rfl (Nat.le_of_ble_eq_true rfl) dX7_finishIf_g0.2.2.2.2.2.2.2.2.2.2.2.2.2.2.2 (fun s8 r9 h => ?_)
    refine r_if_ne hE 53 dX7_finishIf_g1.1 (by decide) h (fun h => ?_) (fun h => ?_)
    · refine r_aload_n hE 0 dX7_finishIf_g1.2.2.2.2.2.2.2.2.1 rfl rfl ?_
      refine cg_ru_shop hE hm fk_X7_48 dX7_finishIf_g1.2.2.2.2.2.2.2.2.2.1 ?_
      refine cg_wo_things hE hm fk_X7_61 dX7_finishIf_g1.2.2.2.2.2.2.2.2.2.2.1 ?_
      refine r_aload_n hE 0 dX7_finishIf_g1.2.2.2.2.2.2.2.2.2.2.2.1 rfl rfl ?_
      refine r_iconst (v := (0 : Int32)) hE dX7_finishIf_g1.2.2.2.2.2.2.2.2.2.2.2.2.1 (by decide) ?_
      refine c_callVi hE hm [.int (0 : Int32)] [.ref (G.1 900)] ck_X7_171 (cr_ru hm rfl) (kc_ru_valueAt h) (by decide) rfl rfl (Nat.le_of_ble_eq_true rfl) dX7_finishIf_g1.2.2.2.2.2.2.2.2.2.2.2.2.2.1 (fun s10 r11 h => ?_)
      refine r_iconst (v := (0 : Int32)) hE dX7_finishIf_g1.2.2.2.2.2.2.2.2.2.2.2.2.2.2.1 (by decide) ?_
      refine c_callVl hE hm [.int r11, .int (0 : Int32)] [] ck_X7_226 (cr_th hm rfl) (kc_th_partOf h) (by decide) rfl rfl (Nat.le_of_ble_eq_true rfl) dX7_finishIf_g1.2.2.2.2.2.2.2.2.2.2.2.2.2.2.2 (fun s12 r13 h => ?_)
      refine r_lconst (v := (1 : Int64)) hE dX7_finishIf_g2.1 (by decide) ?_
      refine r_lcmp hE dX7_finishIf_g2.2.1 ?_
      refine r_if_eq hE 78 dX7_finishIf_g2.2.2.1 (by decide) h (fun h => ?_) (fun h => ?_)
      · refine r_iconst (v := (0 : Int32)) hE dX7_finishIf_g2.2.2.2.2.2.1 (by decide) ?_
        exact kc_ru_finishIf_79 hE hm hF _ _ _ h
      · refine r_iconst (v := (1 : Int32)) hE dX7_finishIf_g2.2.2.2.1 (by decide) ?_
        refine r_goto hE 79 dX7_finishIf_g2.2.2.2.2.1 (by decide) ?_
        exact kc_ru_finishIf_79 hE hm hF _ _ _ h
    · refine r_aload_n hE 0 dX7_finishIf_g1.2.1 rfl rfl ?_
      refine r_aload_n hE 0 dX7_finishIf_g1.2.2.1 rfl rfl ?_
      refine cg_ru_shop hE hm fk_X7_48 dX7_finishIf_g1.2.2.2.1 ?_
      refine cg_wo_reckoner hE hm fk_X7_161 dX7_finishIf_g1.2.2.2.2.1 ?_
      refine cg_rk_failure hE hm fk_X7_165 dX7_finishIf_g1.2.2.2.2.2.1 ?_
      refine c_callVv hE hm [.int (c_rk_failure s8)] [] ck_X7_158 (cr_ru hm rfl) (kc_ru_fallDown h) (by decide) rfl rfl (Nat.le_of_ble_eq_true rfl) dX7_finishIf_g1.2.2.2.2.2.2.1 (fun s14 h => ?_)
      refine r_goto hE 107 dX7_finishIf_g1.2.2.2.2.2.2.2.1 (by decide) ?_
      exact c_vret hE hm hF dX7_finishIf_g3.2.2.2.2 h
  · refine r_aload_n hE 0 dX7_finishIf_g0.2.2.2.2.2.2.1 rfl rfl ?_
    refine c_callVv hE hm [] [] ck_X7_168 (cr_ru hm rfl) (kc_ru_drop h) (by decide) rfl rfl (Nat.le_of_ble_eq_true rfl) dX7_finishIf_g0.2.2.2.2.2.2.2.1 (fun s15 h => ?_)
    refine r_goto hE 107 dX7_finishIf_g0.2.2.2.2.2.2.2.2.1 (by decide) ?_
    exact c_vret hE hm hF dX7_finishIf_g3.2.2.2.2 h
/-! ru_finishState -/
def wc_ru_finishState_76 (post : CS → Prop) (σ : CS) (t1 : Int32) : Prop := wc_to_addStated (fun (s1 : CS) => wc_ru_drop (fun (s2 : CS) => post s2) s1) σ t1
set_option maxRecDepth 20000 in
theorem kc_ru_finishState_76  {E : gEnv} {l : Launch} {D : va_G} {G : gAd} {post : CS → Prop} (hE : gOK E cX7_finishState RX7 none 5) (hm : cOK E l D G (pV post) 2) (hF : gFin E) (σ : CS) (t1 : Int32) (h : wc_ru_finishState_76 post σ t1) : GW E (cW G σ) 76 [(0, .ref (G.1 1200))] [.int t1, .ref (G.1 1100)] := by
  unfold wc_ru_finishState_76 at h
  have hN := hm.2.2.2.2.2.2.1
  refine c_callVv hE hm [.int t1] [] ck_X7_239 (cr_to hm rfl) (kc_to_addStated h) (by decide) rfl rfl (Nat.le_of_ble_eq_true rfl) dX7_finishState_g2.2.2.2.2.1 (fun s1 h => ?_)
  refine r_aload_n hE 0 dX7_finishState_g2.2.2.2.2.2.1 rfl rfl ?_
  refine c_callVv hE hm [] [] ck_X7_168 (cr_ru hm rfl) (kc_ru_drop h) (by decide) rfl rfl (Nat.le_of_ble_eq_true rfl) dX7_finishState_g2.2.2.2.2.2.2.1 (fun s2 h => ?_)
  exact c_vret hE hm hF dX7_finishState_g2.2.2.2.2.2.2.2 h
def wc_ru_finishState (post : CS → Prop) (σ : CS) (a1 : Int32) : Prop := wc_to_isFullOf (fun (s3 : CS) (r4 : Int32) => ((r4 = (0 : Int32)) → (wc_wo_accepts (fun (s5 : CS) (r6 : Int32) => ((¬ (r6 = (0 : Int32))) → (wc_th_partOf (fun (s7 : CS) (r8 : Int64) => (((lg_cmp r8 (1 : Int64)) = (0 : Int32)) → (wc_ru_finishState_76 post s7 (0 : Int32))) ∧ ((¬ ((lg_cmp r8 (1 : Int64)) = (0 : Int32))) → (wc_ru_finishState_76 post s7 (1 : Int32)))) s5 a1 (0 : Int32))) ∧ ((r6 = (0 : Int32)) → (wc_ru_fallDown (fun (s9 : CS) => post s9) s5 (c_rk_failure s5)))) s3 a1 (78 : Int32))) ∧ ((¬ (r4 = (0 : Int32))) → (wc_ru_fallDown (fun (s10 : CS) => post s10) s3 (9 : Int32)))) σ (4 : Int32)
set_option maxRecDepth 20000 in
theorem kc_ru_finishState {l : Launch} {D : va_G} {G : gAd} {post : CS → Prop} {σ : CS} {a1 : Int32} (h : wc_ru_finishState post σ a1) : cMet l D G yX7_finishState cX7_finishState 2 none 5 [.ref (G.1 1200), .int a1] σ (pV post) := by
  unfold wc_ru_finishState at h
  refine c_enter (own := RX7) (by decide +kernel) rfl [(0, .ref (G.1 1200)), (1, .int a1)] rfl (Nat.le_of_ble_eq_true rfl) ?_
  intro E hE hm hF
  have hN := hm.2.2.2.2.2.2.1
  refine r_aload_n hE 0 dX7_finishState_g0.1 rfl rfl ?_
  refine cg_ru_told hE hm fk_X7_52 dX7_finishState_g0.2.1 ?_
  refine r_iconst (v := (4 : Int32)) hE dX7_finishState_g0.2.2.1 (by decide) ?_
  refine c_callVi hE hm [.int (4 : Int32)] [] ck_X7_154 (cr_to hm rfl) (kc_to_isFullOf h) (by decide) rfl rfl (Nat.le_of_ble_eq_true rfl) dX7_finishState_g0.2.2.2.1 (fun s3 r4 h => ?_)
  refine r_if_eq hE 20 dX7_finishState_g0.2.2.2.2.1 (by decide) h (fun h => ?_) (fun h => ?_)
  · refine r_aload_n hE 0 dX7_finishState_g0.2.2.2.2.2.2.2.2.2.1 rfl rfl ?_
    refine cg_ru_shop hE hm fk_X7_48 dX7_finishState_g0.2.2.2.2.2.2.2.2.2.2.1 ?_
    refine r_iload_n hE 1 dX7_finishState_g0.2.2.2.2.2.2.2.2.2.2.2.1 rfl rfl ?_
    refine r_bipush (v := (78 : Int32)) hE dX7_finishState_g0.2.2.2.2.2.2.2.2.2.2.2.2.1 (by decide) ?_
    refine c_callVi hE hm [.int a1, .int (78 : Int32)] [] ck_X7_222 (cr_wo hm rfl) (kc_wo_accepts h) (by decide) rfl rfl (Nat.le_of_ble_eq_true rfl) dX7_finishState_g0.2.2.2.2.2.2.2.2.2.2.2.2.2.1 (fun s5 r6 h => ?_)
    refine r_if_ne hE 50 dX7_finishState_g0.2.2.2.2.2.2.2.2.2.2.2.2.2.2.1 (by decide) h (fun h => ?_) (fun h => ?_)
    · refine r_aload_n hE 0 dX7_finishState_g1.2.2.2.2.2.2.1 rfl rfl ?_
      refine cg_ru_told hE hm fk_X7_52 dX7_finishState_g1.2.2.2.2.2.2.2.1 ?_
      refine r_aload_n hE 0 dX7_finishState_g1.2.2.2.2.2.2.2.2.1 rfl rfl ?_
      refine cg_ru_shop hE hm fk_X7_48 dX7_finishState_g1.2.2.2.2.2.2.2.2.2.1 ?_
      refine cg_wo_things hE hm fk_X7_61 dX7_finishState_g1.2.2.2.2.2.2.2.2.2.2.1 ?_
      refine r_iload_n hE 1 dX7_finishState_g1.2.2.2.2.2.2.2.2.2.2.2.1 rfl rfl ?_
      refine r_iconst (v := (0 : Int32)) hE dX7_finishState_g1.2.2.2.2.2.2.2.2.2.2.2.2.1 (by decide) ?_
      refine c_callVl hE hm [.int a1, .int (0 : Int32)] [.ref (G.1 1100)] ck_X7_226 (cr_th hm rfl) (kc_th_partOf h) (by decide) rfl rfl (Nat.le_of_ble_eq_true rfl) dX7_finishState_g1.2.2.2.2.2.2.2.2.2.2.2.2.2.1 (fun s7 r8 h => ?_)
      refine r_lconst (v := (1 : Int64)) hE dX7_finishState_g1.2.2.2.2.2.2.2.2.2.2.2.2.2.2.1 (by decide) ?_
      refine r_lcmp hE dX7_finishState_g1.2.2.2.2.2.2.2.2.2.2.2.2.2.2.2 ?_
      refine r_if_eq hE 75 dX7_finishState_g2.1 (by decide) h (fun h => ?_) (fun h => ?_)
      · refine r_iconst (v := (0 : Int32)) hE dX7_finishState_g2.2.2.2.1 (by decide) ?_
        refine r_pick [0] rfl ?_
        exact kc_ru_finishState_76 hE hm hF _ _ h
      · refine r_iconst (v := (1 : Int32)) hE dX7_finishState_g2.2.1 (by decide) ?_
        refine r_goto hE 76 dX7_finishState_g2.2.2.1 (by decide) ?_
        refine r_pick [0] rfl ?_
        exact kc_ru_finishState_76 hE hm hF _ _ h
    · refine r_aload_n hE 0 dX7_finishState_g0.2.2.2.2.2.2.2.2.2.2.2.2.2.2.2 rfl rfl ?_
      refine r_aload_n hE 0 dX7_finishState_g1.1 rfl rfl ?_
      refine cg_ru_shop hE hm fk_X7_48 dX7_finishState_g1.2.1 ?_
      refine cg_wo_reckoner hE hm fk_X7_161 dX7_finishState_g1.2.2.1 ?_
      refine cg_rk_failure hE hm fk_X7_165 dX7_finishState_g1.2.2.2.1 ?_
      refine c_callVv hE hm [.int (c_rk_failure s5)] [] ck_X7_158 (cr_ru hm rfl) (kc_ru_fallDown h) (by decide) rfl rfl (Nat.le_of_ble_eq_true rfl) dX7_finishState_g1.2.2.2.2.1 (fun s9 h => ?_)
      refine r_goto hE 83 dX7_finishState_g1.2.2.2.2.2.1 (by decide) ?_
      exact c_vret hE hm hF dX7_finishState_g2.2.2.2.2.2.2.2 h
  · refine r_aload_n hE 0 dX7_finishState_g0.2.2.2.2.2.1 rfl rfl ?_
    refine r_bipush (v := (9 : Int32)) hE dX7_finishState_g0.2.2.2.2.2.2.1 (by decide) ?_
    refine c_callVv hE hm [.int (9 : Int32)] [] ck_X7_158 (cr_ru hm rfl) (kc_ru_fallDown h) (by decide) rfl rfl (Nat.le_of_ble_eq_true rfl) dX7_finishState_g0.2.2.2.2.2.2.2.1 (fun s10 h => ?_)
    refine r_goto hE 83 dX7_finishState_g0.2.2.2.2.2.2.2.2.1 (by decide) ?_
    exact c_vret hE hm hF dX7_finishState_g2.2.2.2.2.2.2.2 h
