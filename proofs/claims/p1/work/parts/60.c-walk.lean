/-! SX12_inside -/
def wc_SX12_inside (post : CS → Int32 → Prop) (σ : CS) (a0 : Int32) (a1 : Int32) : Prop := ((a0 < (0 : Int32)) → (post σ (0 : Int32))) ∧ ((¬ (a0 < (0 : Int32))) → (((a1 ≤ a0) → (post σ (0 : Int32))) ∧ ((¬ (a1 ≤ a0)) → (post σ (1 : Int32)))))
set_option maxRecDepth 20000 in
theorem kc_SX12_inside {l : Launch} {D : va_G} {G : gAd} {post : CS → Int32 → Prop} {σ : CS} {a0 : Int32} {a1 : Int32} (h : wc_SX12_inside post σ a0 a1) : cMet l D G yX12_inside cX12_inside 2 (some .boolean) 1 [.int a0, .int a1] σ (pI post) := by
  unfold wc_SX12_inside at h
  refine c_enter (own := RX12) (by decide +kernel) rfl [(0, .int a0), (1, .int a1)] rfl (Nat.le_of_ble_eq_true rfl) ?_
  intro E hE hm hF
  have hN := hm.2.2.2.2.2.2.1
  refine r_iload_n hE 0 dX12_inside_g0.1 rfl rfl ?_
  refine r_if_lt hE 13 dX12_inside_g0.2.1 (by decide) h (fun h => ?_) (fun h => ?_)
  · refine r_iconst (v := (0 : Int32)) hE dX12_inside_g0.2.2.2.2.2.2.2.1 (by decide) ?_
    exact c_zret hE hm hF dX12_inside_g0.2.2.2.2.2.2.2.2 (Or.inl rfl) h
  · refine r_iload_n hE 0 dX12_inside_g0.2.2.1 rfl rfl ?_
    refine r_iload_n hE 1 dX12_inside_g0.2.2.2.1 rfl rfl ?_
    refine r_icmp_ge hE 13 dX12_inside_g0.2.2.2.2.1 (by decide) h (fun h => ?_) (fun h => ?_)
    · refine r_iconst (v := (0 : Int32)) hE dX12_inside_g0.2.2.2.2.2.2.2.1 (by decide) ?_
      exact c_zret hE hm hF dX12_inside_g0.2.2.2.2.2.2.2.2 (Or.inl rfl) h
    · refine r_iconst (v := (1 : Int32)) hE dX12_inside_g0.2.2.2.2.2.1 (by decide) ?_
      refine r_goto hE 14 dX12_inside_g0.2.2.2.2.2.2.1 (by decide) ?_
      exact c_zret hE hm hF dX12_inside_g0.2.2.2.2.2.2.2.2 (Or.inr rfl) h
/-! ft_layOnTape -/
def wc_ft_layOnTape_3 (post : CS → Prop) : Nat → CS → Int32 → Int32 → Prop
  | 0, _, _, _ => False
  | n + 1, σ, v1, v2 => ((v2 < (0 : Int32)) → (post σ)) ∧ ((¬ (v2 < (0 : Int32))) → (wc_SX12_inside (fun (s1 : CS) (r2 : Int32) => ((r2 = (0 : Int32)) → (post s1)) ∧ ((¬ (r2 = (0 : Int32))) → (vp_in (c_ft_tapeLength s1) 3000 ∧ (∀ s3 : CS, s3 = c_ft_tape_s s1 (c_ft_tapeLength s1).toNatClampNeg (((v1 >>> (v2 &&& 31)).toInt8.toInt32).toInt8.toInt32) → ∀ s4 : CS, s4 = c_ft_tapeLength_s s3 ((c_ft_tapeLength s3) + (1 : Int32)) → ∀ x5 : Int32, x5 = v2 + (-8 : Int32) → wc_ft_layOnTape_3 post n s4 v1 x5)))) σ (c_ft_tapeLength σ) (3000 : Int32)))
set_option maxRecDepth 20000 in
theorem kc_ft_layOnTape_3  {E : gEnv} {l : Launch} {D : va_G} {G : gAd} {post : CS → Prop} (hE : gOK E cX12_layOnTape RX12 none 2) (hm : cOK E l D G (pV post) 3) (hF : gFin E) : ∀ (n0 : Nat) (σ : CS) (v1 : Int32) (v2 : Int32), wc_ft_layOnTape_3 post n0 σ v1 v2 → GW E (cW G σ) 3 [(0, .ref (G.1 200)), (1, .int v1), (2, .int v2)] [] := by
  intro n0
  induction n0 with
  | zero => intro σ v1 v2 h; exact h.elim
  | succ n0 ih =>
    intro σ v1 v2 h
    rw [wc_ft_layOnTape_3] at h
    have hN := hm.2.2.2.2.2.2.1
    refine r_iload_n hE 2 dX12_layOnTape_g0.2.2.1 rfl rfl ?_
    refine r_if_lt hE 49 dX12_layOnTape_g0.2.2.2.1 (by decide) h (fun h => ?_) (fun h => ?_)
    · exact c_vret hE hm hF dX12_layOnTape_g1.2.2.2.2.2.2.2.2.2.2 h
    · refine r_aload_n hE 0 dX12_layOnTape_g0.2.2.2.2.1 rfl rfl ?_
      refine cg_ft_tapeLength hE hm fk_X12_13 dX12_layOnTape_g0.2.2.2.2.2.1 ?_
      refine r_sipush (v := (3000 : Int32)) hE dX12_layOnTape_g0.2.2.2.2.2.2.1 (by decide) ?_
      refine c_callSi hE hm [.int (c_ft_tapeLength σ), .int (3000 : Int32)] [] ck_X12_145 (kc_SX12_inside h) (by decide) rfl rfl (Nat.le_of_ble_eq_true rfl) dX12_layOnTape_g0.2.2.2.2.2.2.2.1 (fun s1 r2 h => ?_)
      refine r_if_eq hE 49 dX12_layOnTape_g0.2.2.2.2.2.2.2.2.1 (by decide) h (fun h => ?_) (fun h => ?_)
      · exact c_vret hE hm hF dX12_layOnTape_g1.2.2.2.2.2.2.2.2.2.2 h
      · refine r_aload_n hE 0 dX12_layOnTape_g0.2.2.2.2.2.2.2.2.2.1 rfl rfl ?_
        refine cg_ft_tape hE hm fk_X12_9 dX12_layOnTape_g0.2.2.2.2.2.2.2.2.2.2.1 ?_
        refine r_aload_n hE 0 dX12_layOnTape_g0.2.2.2.2.2.2.2.2.2.2.2.1 rfl rfl ?_
        refine cg_ft_tapeLength hE hm fk_X12_13 dX12_layOnTape_g0.2.2.2.2.2.2.2.2.2.2.2.2.1 ?_
        refine r_iload_n hE 1 dX12_layOnTape_g0.2.2.2.2.2.2.2.2.2.2.2.2.2.1 rfl rfl ?_
        refine r_iload_n hE 2 dX12_layOnTape_g0.2.2.2.2.2.2.2.2.2.2.2.2.2.2.1 rfl rfl ?_
        refine r_ishr hE dX12_layOnTape_g0.2.2.2.2.2.2.2.2.2.2.2.2.2.2.2 ?_
        refine r_i2b hE dX12_layOnTape_g1.1 ?_
        obtain ⟨hi, h⟩ := h
        refine cs_ft_tape hE hm dX12_layOnTape_g1.2.1 hi h (fun s3 h => ?_)
        refine r_aload_n hE 0 dX12_layOnTape_g1.2.2.1 rfl rfl ?_
        refine r_dup hE dX12_layOnTape_g1.2.2.2.1 rfl ?_
        refine cg_ft_tapeLength hE hm fk_X12_13 dX12_layOnTape_g1.2.2.2.2.1 ?_
        refine r_iconst (v := (1 : Int32)) hE dX12_layOnTape_g1.2.2.2.2.2.1 (by decide) ?_
        refine r_iadd hE dX12_layOnTape_g1.2.2.2.2.2.2.1 ?_
        refine cp_ft_tapeLength hE hm fk_X12_13 dX12_layOnTape_g1.2.2.2.2.2.2.2.1 h (fun s4 h => ?_)
        obtain ⟨x5, ex5⟩ : ∃ z : Int32, z = v2 + (-8 : Int32) := ⟨_, rfl⟩
        have h := h x5 ex5
        refine r_iinc (v := x5) hE [(2, .int x5), (0, .ref (G.1 200)), (1, .int v1)] 2 dX12_layOnTape_g1.2.2.2.2.2.2.2.2.1 rfl (by rw [ex5]; rfl) hN (by decide) rfl ?_
        refine r_goto hE 3 dX12_layOnTape_g1.2.2.2.2.2.2.2.2.2.1 (by decide) ?_
        refine r_pick [1, 2, 0] rfl ?_
        exact ih _ _ _ h
def wc_ft_layOnTape (post : CS → Prop) (σ : CS) (a1 : Int32) : Prop := ∃ k : Nat, wc_ft_layOnTape_3 post k σ a1 (24 : Int32)
set_option maxRecDepth 20000 in
theorem kc_ft_layOnTape {l : Launch} {D : va_G} {G : gAd} {post : CS → Prop} {σ : CS} {a1 : Int32} (h : wc_ft_layOnTape post σ a1) : cMet l D G yX12_layOnTape cX12_layOnTape 3 none 2 [.ref (G.1 200), .int a1] σ (pV post) := by
  unfold wc_ft_layOnTape at h
  refine c_enter (own := RX12) (by decide +kernel) rfl [(0, .ref (G.1 200)), (1, .int a1)] rfl (Nat.le_of_ble_eq_true rfl) ?_
  intro E hE hm hF
  have hN := hm.2.2.2.2.2.2.1
  refine r_bipush (v := (24 : Int32)) hE dX12_layOnTape_g0.1 (by decide) ?_
  refine r_istore_n hE [(2, .int (24 : Int32)), (0, .ref (G.1 200)), (1, .int a1)] dX12_layOnTape_g0.2.1 rfl hN (by decide) rfl ?_
  refine r_pick [1, 2, 0] rfl ?_
  obtain ⟨k, h⟩ := h
  exact kc_ft_layOnTape_3 hE hm hF k _ _ _ h
/-! ft_feed -/
def wc_ft_feed (post : CS → Int32 → Prop) (σ : CS) (a1 : Int32) (a2 : Int32) (a3 : Int32) (a4 : Int32) (a5 : Int32) : Prop := ((((c_ft_tapeLength σ) + (20 : Int32)) ≤ (3000 : Int32)) → (wc_ft_layOnTape (fun (s1 : CS) => wc_ft_layOnTape (fun (s2 : CS) => wc_ft_layOnTape (fun (s3 : CS) => wc_ft_layOnTape (fun (s4 : CS) => wc_ft_layOnTape (fun (s5 : CS) => post s5 (c_ft_tapeLength s5)) s4 a5) s3 a4) s2 a3) s1 a2) σ a1)) ∧ ((¬ (((c_ft_tapeLength σ) + (20 : Int32)) ≤ (3000 : Int32))) → (post σ (-2000000003 : Int32)))
set_option maxRecDepth 20000 in
theorem kc_ft_feed {l : Launch} {D : va_G} {G : gAd} {post : CS → Int32 → Prop} {σ : CS} {a1 : Int32} {a2 : Int32} {a3 : Int32} {a4 : Int32} {a5 : Int32} (h : wc_ft_feed post σ a1 a2 a3 a4 a5) : cMet l D G yX12_feed cX12_feed 6 (some .int) 3 [.ref (G.1 200), .int a1, .int a2, .int a3, .int a4, .int a5] σ (pI post) := by
  unfold wc_ft_feed at h
  refine c_enter (own := RX12) (by decide +kernel) rfl [(0, .ref (G.1 200)), (1, .int a1), (2, .int a2), (3, .int a3), (4, .int a4), (5, .int a5)] rfl (Nat.le_of_ble_eq_true rfl) ?_
  intro E hE hm hF
  have hN := hm.2.2.2.2.2.2.1
  refine r_aload_n hE 0 dX12_feed_g0.1 rfl rfl ?_
  refine cg_ft_tapeLength hE hm fk_X12_13 dX12_feed_g0.2.1 ?_
  refine r_bipush (v := (20 : Int32)) hE dX12_feed_g0.2.2.1 (by decide) ?_
  refine r_iadd hE dX12_feed_g0.2.2.2.1 ?_
  refine r_sipush (v := (3000 : Int32)) hE dX12_feed_g0.2.2.2.2.1 (by decide) ?_
  refine r_icmp_le hE 16 dX12_feed_g0.2.2.2.2.2.1 (by decide) h (fun h => ?_) (fun h => ?_)
  · refine r_aload_n hE 0 dX12_feed_g0.2.2.2.2.2.2.2.2.1 rfl rfl ?_
    refine r_iload_n hE 1 dX12_feed_g0.2.2.2.2.2.2.2.2.2.1 rfl rfl ?_
    refine c_callVv hE hm [.int a1] [] ck_X12_112 (cr_ft hm rfl) (kc_ft_layOnTape h) (by decide) rfl rfl (Nat.le_of_ble_eq_true rfl) dX12_feed_g0.2.2.2.2.2.2.2.2.2.2.1 (fun s1 h => ?_)
    refine r_aload_n hE 0 dX12_feed_g0.2.2.2.2.2.2.2.2.2.2.2.1 rfl rfl ?_
    refine r_iload_n hE 2 dX12_feed_g0.2.2.2.2.2.2.2.2.2.2.2.2.1 rfl rfl ?_
    refine c_callVv hE hm [.int a2] [] ck_X12_112 (cr_ft hm rfl) (kc_ft_layOnTape h) (by decide) rfl rfl (Nat.le_of_ble_eq_true rfl) dX12_feed_g0.2.2.2.2.2.2.2.2.2.2.2.2.2.1 (fun s2 h => ?_)
    refine r_aload_n hE 0 dX12_feed_g0.2.2.2.2.2.2.2.2.2.2.2.2.2.2.1 rfl rfl ?_
    refine r_iload_n hE 3 dX12_feed_g0.2.2.2.2.2.2.2.2.2.2.2.2.2.2.2 rfl rfl ?_
    refine c_callVv hE hm [.int a3] [] ck_X12_112 (cr_ft hm rfl) (kc_ft_layOnTape h) (by decide) rfl rfl (Nat.le_of_ble_eq_true rfl) dX12_feed_g1.1 (fun s3 h => ?_)
    refine r_aload_n hE 0 dX12_feed_g1.2.1 rfl rfl ?_
    refine r_iload hE 4 dX12_feed_g1.2.2.1 rfl ?_
    refine c_callVv hE hm [.int a4] [] ck_X12_112 (cr_ft hm rfl) (kc_ft_layOnTape h) (by decide) rfl rfl (Nat.le_of_ble_eq_true rfl) dX12_feed_g1.2.2.2.1 (fun s4 h => ?_)
    refine r_aload_n hE 0 dX12_feed_g1.2.2.2.2.1 rfl rfl ?_
    refine r_iload hE 5 dX12_feed_g1.2.2.2.2.2.1 rfl ?_
    refine c_callVv hE hm [.int a5] [] ck_X12_112 (cr_ft hm rfl) (kc_ft_layOnTape h) (by decide) rfl rfl (Nat.le_of_ble_eq_true rfl) dX12_feed_g1.2.2.2.2.2.2.1 (fun s5 h => ?_)
    refine r_aload_n hE 0 dX12_feed_g1.2.2.2.2.2.2.2.1 rfl rfl ?_
    refine cg_ft_tapeLength hE hm fk_X12_13 dX12_feed_g1.2.2.2.2.2.2.2.2.1 ?_
    exact c_iret hE hm hF dX12_feed_g1.2.2.2.2.2.2.2.2.2 h
  · refine r_ldc (v := (-2000000003 : Int32)) hE dX12_feed_g0.2.2.2.2.2.2.1 (gTb_2 (List.mem_of_getElem? (i := 200) rfl) rfl) ?_
    exact c_iret hE hm hF dX12_feed_g0.2.2.2.2.2.2.2.1 h
/-! ft_cut -/
def wc_ft_cut (post : CS → Int32 → Prop) (σ : CS) (a1 : Int32) : Prop := ((a1 < (0 : Int32)) → (post σ (-2000000002 : Int32))) ∧ ((¬ (a1 < (0 : Int32))) → (((a1 ≤ (c_ft_tapeLength σ)) → (∀ x1 : Int32, x1 = (c_ft_tapeLength σ) - a1 → ∀ s2 : CS, s2 = c_ft_tapeLength_s σ a1 → post s2 x1)) ∧ ((¬ (a1 ≤ (c_ft_tapeLength σ))) → (post σ (-2000000002 : Int32)))))
set_option maxRecDepth 20000 in
theorem kc_ft_cut {l : Launch} {D : va_G} {G : gAd} {post : CS → Int32 → Prop} {σ : CS} {a1 : Int32} (h : wc_ft_cut post σ a1) : cMet l D G yX12_cut cX12_cut 3 (some .int) 1 [.ref (G.1 200), .int a1] σ (pI post) := by
  unfold wc_ft_cut at h
  refine c_enter (own := RX12) (by decide +kernel) rfl [(0, .ref (G.1 200)), (1, .int a1)] rfl (Nat.le_of_ble_eq_true rfl) ?_
  intro E hE hm hF
  have hN := hm.2.2.2.2.2.2.1
  refine r_iload_n hE 1 dX12_cut_g0.1 rfl rfl ?_
  refine r_if_lt hE 12 dX12_cut_g0.2.1 (by decide) h (fun h => ?_) (fun h => ?_)
  · refine r_ldc (v := (-2000000002 : Int32)) hE dX12_cut_g0.2.2.2.2.2.2.1 (gTb_2 (List.mem_of_getElem? (i := 212) rfl) rfl) ?_
    exact c_iret hE hm hF dX12_cut_g0.2.2.2.2.2.2.2.1 h
  · refine r_iload_n hE 1 dX12_cut_g0.2.2.1 rfl rfl ?_
    refine r_aload_n hE 0 dX12_cut_g0.2.2.2.1 rfl rfl ?_
    refine cg_ft_tapeLength hE hm fk_X12_13 dX12_cut_g0.2.2.2.2.1 ?_
    refine r_icmp_le hE 15 dX12_cut_g0.2.2.2.2.2.1 (by decide) h (fun h => ?_) (fun h => ?_)
    · refine r_aload_n hE 0 dX12_cut_g0.2.2.2.2.2.2.2.2.1 rfl rfl ?_
      refine cg_ft_tapeLength hE hm fk_X12_13 dX12_cut_g0.2.2.2.2.2.2.2.2.2.1 ?_
      refine r_iload_n hE 1 dX12_cut_g0.2.2.2.2.2.2.2.2.2.2.1 rfl rfl ?_
      refine r_isub hE dX12_cut_g0.2.2.2.2.2.2.2.2.2.2.2.1 ?_
      refine r_topi h (fun x1 ex1 h => ?_)
      refine r_istore_n hE [(2, .int x1), (0, .ref (G.1 200)), (1, .int a1)] dX12_cut_g0.2.2.2.2.2.2.2.2.2.2.2.2.1 rfl hN (by decide) rfl ?_
      refine r_aload_n hE 1 dX12_cut_g0.2.2.2.2.2.2.2.2.2.2.2.2.2.1 rfl rfl ?_
      refine r_iload_n hE 2 dX12_cut_g0.2.2.2.2.2.2.2.2.2.2.2.2.2.2.1 rfl rfl ?_
      refine cp_ft_tapeLength hE hm fk_X12_13 dX12_cut_g0.2.2.2.2.2.2.2.2.2.2.2.2.2.2.2 h (fun s2 h => ?_)
      refine r_iload_n hE 0 dX12_cut_g1.1 rfl rfl ?_
      exact c_iret hE hm hF dX12_cut_g1.2 h
    · refine r_ldc (v := (-2000000002 : Int32)) hE dX12_cut_g0.2.2.2.2.2.2.1 (gTb_2 (List.mem_of_getElem? (i := 212) rfl) rfl) ?_
      exact c_iret hE hm hF dX12_cut_g0.2.2.2.2.2.2.2.1 h
/-! sp_clear_ft_tape -/
def wc_sp_clear_ft_tape_64 (post : CS → Prop) : Nat → CS → Int32 → Prop
  | 0, _, _ => False
  | n + 1, σ, v3 => (((13 : Int32) ≤ v3) → (post σ)) ∧ ((¬ ((13 : Int32) ≤ v3)) → (vp_in v3 13 ∧ (∀ s1 : CS, s1 = c_sp_names_s σ v3.toNatClampNeg (0 : Int32) → ∀ x2 : Int32, x2 = v3 + (1 : Int32) → wc_sp_clear_ft_tape_64 post n s1 x2)))
set_option maxRecDepth 20000 in
theorem kc_sp_clear_ft_tape_64  {E : gEnv} {l : Launch} {D : va_G} {G : gAd} {post : CS → Prop} (hE : gOK E cX1_clear RX1 none 3) (hm : cOK E l D G (pV post) 4) (hF : gFin E) : ∀ (n0 : Nat) (σ : CS) (v3 : Int32), wc_sp_clear_ft_tape_64 post n0 σ v3 → GW E (cW G σ) 64 [(0, .ref (G.1 400)), (3, .int v3)] [] := by
  intro n0
  induction n0 with
  | zero => intro σ v3 h; exact h.elim
  | succ n0 ih =>
    intro σ v3 h
    rw [wc_sp_clear_ft_tape_64] at h
    have hN := hm.2.2.2.2.2.2.1
    refine r_iload_n hE 1 dX1_clear_g2.2.2.2.2.2.2.1 rfl rfl ?_
    refine r_aload_n hE 0 dX1_clear_g2.2.2.2.2.2.2.2.1 rfl rfl ?_
    refine cg_sp_names hE hm fk_X1_53 dX1_clear_g2.2.2.2.2.2.2.2.2.1 ?_
    refine cn_sp_names hE hm dX1_clear_g2.2.2.2.2.2.2.2.2.2.1 ?_
    refine r_icmp_ge hE 86 dX1_clear_g2.2.2.2.2.2.2.2.2.2.2.1 (by decide) h (fun h => ?_) (fun h => ?_)
    · exact c_vret hE hm hF dX1_clear_g3.2.2 h
    · refine r_aload_n hE 0 dX1_clear_g2.2.2.2.2.2.2.2.2.2.2.2.1 rfl rfl ?_
      refine cg_sp_names hE hm fk_X1_53 dX1_clear_g2.2.2.2.2.2.2.2.2.2.2.2.2.1 ?_
      refine r_iload_n hE 1 dX1_clear_g2.2.2.2.2.2.2.2.2.2.2.2.2.2.1 rfl rfl ?_
      refine r_iconst (v := (0 : Int32)) hE dX1_clear_g2.2.2.2.2.2.2.2.2.2.2.2.2.2.2.1 (by decide) ?_
      obtain ⟨hi, h⟩ := h
      refine cs_sp_names hE hm dX1_clear_g2.2.2.2.2.2.2.2.2.2.2.2.2.2.2.2 hi h (fun s1 h => ?_)
      obtain ⟨x2, ex2⟩ : ∃ z : Int32, z = v3 + (1 : Int32) := ⟨_, rfl⟩
      have h := h x2 ex2
      refine r_iinc (v := x2) hE [(3, .int x2), (0, .ref (G.1 400))] 1 dX1_clear_g3.1 rfl (by rw [ex2]; rfl) hN (by decide) rfl ?_
      refine r_goto hE 64 dX1_clear_g3.2.1 (by decide) ?_
      refine r_pick [1, 0] rfl ?_
      exact ih _ _ h
def wc_sp_clear_ft_tape_25 (post : CS → Prop) (σ : CS) (t1 : Int32) : Prop := ∀ s3 : CS, s3 = c_sp_length_s σ t1 → ¬ (0 : Int32) < 0 ∧ ¬ (0 : Int32) < 0 ∧ ¬ (c_sp_length s3) < 0 ∧ (0 : Int32).toNatClampNeg + (c_sp_length s3).toNatClampNeg ≤ 3000 ∧ (0 : Int32).toNatClampNeg + (c_sp_length s3).toNatClampNeg ≤ 3000 ∧ (∀ i, i < (c_sp_length s3).toNatClampNeg → fits .byte (.int (c_ft_tape s3 ((0 : Int32).toNatClampNeg + i))) = true) ∧ ∀ s4 : CS, s4 = c_sp_text_w s3 (va_cpy (c_ft_tape s3) (c_sp_text s3) (0 : Int32).toNatClampNeg (0 : Int32).toNatClampNeg (c_sp_length s3).toNatClampNeg) → ∀ s5 : CS, s5 = c_sp_nodes_s s4 (0 : Int32) → ∀ s6 : CS, s6 = c_sp_deeds_s s5 (0 : Int32) → ∀ s7 : CS, s7 = c_sp_macros_s s6 (0 : Int32) → ∀ s8 : CS, s8 = c_sp_firstDeed_s s7 (-1 : Int32) → ∃ k : Nat, wc_sp_clear_ft_tape_64 post k s8 (0 : Int32)
set_option maxRecDepth 20000 in
theorem kc_sp_clear_ft_tape_25  {E : gEnv} {l : Launch} {D : va_G} {G : gAd} {post : CS → Prop} (hE : gOK E cX1_clear RX1 none 3) (hm : cOK E l D G (pV post) 4) (hF : gFin E) (σ : CS) (t1 : Int32) (h : wc_sp_clear_ft_tape_25 post σ t1) : GW E (cW G σ) 25 [(0, .ref (G.1 400)), (1, .ref (G.1 201))] [.int t1, .ref (G.1 400)] := by
  unfold wc_sp_clear_ft_tape_25 at h
  have hN := hm.2.2.2.2.2.2.1
  refine cp_sp_length hE hm fk_X1_15 dX1_clear_g0.2.2.2.2.2.2.2.2.2.2.2.2.2.2.2 h (fun s3 h => ?_)
  refine r_aload_n hE 1 dX1_clear_g1.1 rfl rfl ?_
  refine r_iconst (v := (0 : Int32)) hE dX1_clear_g1.2.1 (by decide) ?_
  refine r_aload_n hE 0 dX1_clear_g1.2.2.1 rfl rfl ?_
  refine cg_sp_text hE hm fk_X1_9 dX1_clear_g1.2.2.2.1 ?_
  refine r_iconst (v := (0 : Int32)) hE dX1_clear_g1.2.2.2.2.1 (by decide) ?_
  refine r_aload_n hE 0 dX1_clear_g1.2.2.2.2.2.1 rfl rfl ?_
  refine cg_sp_length hE hm fk_X1_15 dX1_clear_g1.2.2.2.2.2.2.1 ?_
  refine kcp_ft_sp hE hm (gTb_2 (List.mem_of_getElem? (i := 221) rfl) rfl) (gTb_2 (List.mem_of_getElem? (i := 223) rfl) rfl) (gTb_2 (List.mem_of_getElem? (i := 222) rfl) rfl) (gTb_1 (List.mem_of_getElem? (i := 13) rfl) rfl) (by decide) (Nat.le_of_ble_eq_true rfl) dX1_clear_g1.2.2.2.2.2.2.2.1 h (fun s4 h => ?_)
  refine r_aload_n hE 0 dX1_clear_g1.2.2.2.2.2.2.2.2.1 rfl rfl ?_
  refine r_iconst (v := (0 : Int32)) hE dX1_clear_g1.2.2.2.2.2.2.2.2.2.1 (by decide) ?_
  refine cp_sp_nodes hE hm fk_X1_41 dX1_clear_g1.2.2.2.2.2.2.2.2.2.2.1 h (fun s5 h => ?_)
  refine r_aload_n hE 0 dX1_clear_g1.2.2.2.2.2.2.2.2.2.2.2.1 rfl rfl ?_
  refine r_iconst (v := (0 : Int32)) hE dX1_clear_g1.2.2.2.2.2.2.2.2.2.2.2.2.1 (by decide) ?_
  refine cp_sp_deeds hE hm fk_X1_44 dX1_clear_g1.2.2.2.2.2.2.2.2.2.2.2.2.2.1 h (fun s6 h => ?_)
  refine r_aload_n hE 0 dX1_clear_g1.2.2.2.2.2.2.2.2.2.2.2.2.2.2.1 rfl rfl ?_
  refine r_iconst (v := (0 : Int32)) hE dX1_clear_g1.2.2.2.2.2.2.2.2.2.2.2.2.2.2.2 (by decide) ?_
  refine cp_sp_macros hE hm fk_X1_65 dX1_clear_g2.1 h (fun s7 h => ?_)
  refine r_aload_n hE 0 dX1_clear_g2.2.1 rfl rfl ?_
  refine r_iconst (v := (-1 : Int32)) hE dX1_clear_g2.2.2.1 (by decide) ?_
  refine cp_sp_firstDeed hE hm fk_X1_47 dX1_clear_g2.2.2.2.1 h (fun s8 h => ?_)
  refine r_iconst (v := (0 : Int32)) hE dX1_clear_g2.2.2.2.2.1 (by decide) ?_
  refine r_istore_n hE [(3, .int (0 : Int32)), (0, .ref (G.1 400)), (1, .ref (G.1 201))] dX1_clear_g2.2.2.2.2.2.1 rfl hN (by decide) rfl ?_
  refine r_pick [1, 0] rfl ?_
  obtain ⟨k, h⟩ := h
  exact kc_sp_clear_ft_tape_64 hE hm hF k _ _ h
def wc_sp_clear_ft_tape_20 (post : CS → Prop) (σ : CS) : Prop := wc_sp_clear_ft_tape_25 post σ (0 : Int32)
set_option maxRecDepth 20000 in
theorem kc_sp_clear_ft_tape_20  {E : gEnv} {l : Launch} {D : va_G} {G : gAd} {post : CS → Prop} (hE : gOK E cX1_clear RX1 none 3) (hm : cOK E l D G (pV post) 4) (hF : gFin E) (σ : CS) (h : wc_sp_clear_ft_tape_20 post σ) : GW E (cW G σ) 20 [(0, .ref (G.1 400)), (1, .ref (G.1 201))] [.ref (G.1 400)] := by
  unfold wc_sp_clear_ft_tape_20 at h
  have hN := hm.2.2.2.2.2.2.1
  refine r_iconst (v := (0 : Int32)) hE dX1_clear_g0.2.2.2.2.2.2.2.2.2.2.2.2.1 (by decide) ?_
  refine r_goto hE 25 dX1_clear_g0.2.2.2.2.2.2.2.2.2.2.2.2.2.1 (by decide) ?_
  exact kc_sp_clear_ft_tape_25 hE hm hF _ _ h
def wc_sp_clear_ft_tape (post : CS → Prop) (σ : CS) (a2 : Int32) : Prop := ((a2 < (0 : Int32)) → (wc_sp_clear_ft_tape_20 post σ)) ∧ ((¬ (a2 < (0 : Int32))) → ((((3000 : Int32) < a2) → (wc_sp_clear_ft_tape_20 post σ)) ∧ ((¬ ((3000 : Int32) < a2)) → (((a2 ≤ (3000 : Int32)) → (wc_sp_clear_ft_tape_25 post σ a2)) ∧ ((¬ (a2 ≤ (3000 : Int32))) → (wc_sp_clear_ft_tape_20 post σ))))))
set_option maxRecDepth 20000 in
theorem kc_sp_clear_ft_tape {l : Launch} {D : va_G} {G : gAd} {post : CS → Prop} {σ : CS} {a2 : Int32} (h : wc_sp_clear_ft_tape post σ a2) : cMet l D G yX1_clear cX1_clear 4 none 3 [.ref (G.1 400), .ref (G.1 201), .int a2] σ (pV post) := by
  unfold wc_sp_clear_ft_tape at h
  refine c_enter (own := RX1) (by decide +kernel) rfl [(0, .ref (G.1 400)), (1, .ref (G.1 201)), (2, .int a2)] rfl (Nat.le_of_ble_eq_true rfl) ?_
  intro E hE hm hF
  have hN := hm.2.2.2.2.2.2.1
  refine r_aload_n hE 0 dX1_clear_g0.1 rfl rfl ?_
  refine r_iload_n hE 2 dX1_clear_g0.2.1 rfl rfl ?_
  refine r_if_lt hE 20 dX1_clear_g0.2.2.1 (by decide) h (fun h => ?_) (fun h => ?_)
  · refine r_pick [0, 1] rfl ?_
    exact kc_sp_clear_ft_tape_20 hE hm hF _ h
  · refine r_iload_n hE 2 dX1_clear_g0.2.2.2.1 rfl rfl ?_
    refine r_aload_n hE 0 dX1_clear_g0.2.2.2.2.1 rfl rfl ?_
    refine cg_sp_text hE hm fk_X1_9 dX1_clear_g0.2.2.2.2.2.1 ?_
    refine cn_sp_text hE hm dX1_clear_g0.2.2.2.2.2.2.1 ?_
    refine r_icmp_gt hE 20 dX1_clear_g0.2.2.2.2.2.2.2.1 (by decide) h (fun h => ?_) (fun h => ?_)
    · refine r_pick [0, 1] rfl ?_
      exact kc_sp_clear_ft_tape_20 hE hm hF _ h
    · refine r_iload_n hE 2 dX1_clear_g0.2.2.2.2.2.2.2.2.1 rfl rfl ?_
      refine r_aload_n hE 1 dX1_clear_g0.2.2.2.2.2.2.2.2.2.1 rfl rfl ?_
      refine cn_ft_tape hE hm dX1_clear_g0.2.2.2.2.2.2.2.2.2.2.1 ?_
      refine r_icmp_le hE 24 dX1_clear_g0.2.2.2.2.2.2.2.2.2.2.2.1 (by decide) h (fun h => ?_) (fun h => ?_)
      · refine r_iload_n hE 2 dX1_clear_g0.2.2.2.2.2.2.2.2.2.2.2.2.2.2.1 rfl rfl ?_
        refine r_pick [0, 1] rfl ?_
        exact kc_sp_clear_ft_tape_25 hE hm hF _ _ h
      · refine r_pick [0, 1] rfl ?_
        exact kc_sp_clear_ft_tape_20 hE hm hF _ h
/-! fr_clear -/
def wc_fr_clear_7 (post : CS → Prop) : Nat → CS → Int32 → Prop
  | 0, _, _ => False
  | n + 1, σ, v1 => (((12 : Int32) ≤ v1) → (post σ)) ∧ ((¬ ((12 : Int32) ≤ v1)) → (vp_in v1 12 ∧ (∀ s1 : CS, s1 = c_fr_moved_s σ v1.toNatClampNeg (0 : Int32) → ∀ x2 : Int32, x2 = v1 + (1 : Int32) → wc_fr_clear_7 post n s1 x2)))
set_option maxRecDepth 20000 in
theorem kc_fr_clear_7  {E : gEnv} {l : Launch} {D : va_G} {G : gAd} {post : CS → Prop} (hE : gOK E cX2_clear RX2 none 1) (hm : cOK E l D G (pV post) 2) (hF : gFin E) : ∀ (n0 : Nat) (σ : CS) (v1 : Int32), wc_fr_clear_7 post n0 σ v1 → GW E (cW G σ) 7 [(0, .ref (G.1 1000)), (1, .int v1)] [] := by
  intro n0
  induction n0 with
  | zero => intro σ v1 h; exact h.elim
  | succ n0 ih =>
    intro σ v1 h
    rw [wc_fr_clear_7] at h
    have hN := hm.2.2.2.2.2.2.1
    refine r_iload_n hE 1 dX2_clear_g0.2.2.2.2.2.1 rfl rfl ?_
    refine r_bipush (v := (12 : Int32)) hE dX2_clear_g0.2.2.2.2.2.2.1 (by decide) ?_
    refine r_icmp_ge hE 26 dX2_clear_g0.2.2.2.2.2.2.2.1 (by decide) h (fun h => ?_) (fun h => ?_)
    · exact c_vret hE hm hF dX2_clear_g0.2.2.2.2.2.2.2.2.2.2.2.2.2.2.2 h
    · refine r_aload_n hE 0 dX2_clear_g0.2.2.2.2.2.2.2.2.1 rfl rfl ?_
      refine cg_fr_moved hE hm fk_X2_9 dX2_clear_g0.2.2.2.2.2.2.2.2.2.1 ?_
      refine r_iload_n hE 1 dX2_clear_g0.2.2.2.2.2.2.2.2.2.2.1 rfl rfl ?_
      refine r_iconst (v := (0 : Int32)) hE dX2_clear_g0.2.2.2.2.2.2.2.2.2.2.2.1 (by decide) ?_
      obtain ⟨hi, h⟩ := h
      refine cs_fr_moved hE hm dX2_clear_g0.2.2.2.2.2.2.2.2.2.2.2.2.1 hi (Or.inl rfl) h (fun s1 h => ?_)
      obtain ⟨x2, ex2⟩ : ∃ z : Int32, z = v1 + (1 : Int32) := ⟨_, rfl⟩
      have h := h x2 ex2
      refine r_iinc (v := x2) hE [(1, .int x2), (0, .ref (G.1 1000))] 1 dX2_clear_g0.2.2.2.2.2.2.2.2.2.2.2.2.2.1 rfl (by rw [ex2]; rfl) hN (by decide) rfl ?_
      refine r_goto hE 7 dX2_clear_g0.2.2.2.2.2.2.2.2.2.2.2.2.2.2.1 (by decide) ?_
      refine r_pick [1, 0] rfl ?_
      exact ih _ _ h
def wc_fr_clear (post : CS → Prop) (σ : CS) : Prop := ∀ s3 : CS, s3 = c_fr_came_s σ (0 : Int32) → ∃ k : Nat, wc_fr_clear_7 post k s3 (0 : Int32)
set_option maxRecDepth 20000 in
theorem kc_fr_clear {l : Launch} {D : va_G} {G : gAd} {post : CS → Prop} {σ : CS} (h : wc_fr_clear post σ) : cMet l D G yX2_clear cX2_clear 2 none 1 [.ref (G.1 1000)] σ (pV post) := by
  unfold wc_fr_clear at h
  refine c_enter (own := RX2) (by decide +kernel) rfl [(0, .ref (G.1 1000))] rfl (Nat.le_of_ble_eq_true rfl) ?_
  intro E hE hm hF
  have hN := hm.2.2.2.2.2.2.1
  refine r_aload_n hE 0 dX2_clear_g0.1 rfl rfl ?_
  refine r_iconst (v := (0 : Int32)) hE dX2_clear_g0.2.1 (by decide) ?_
  refine cp_fr_came hE hm fk_X2_35 dX2_clear_g0.2.2.1 h (fun s3 h => ?_)
  refine r_iconst (v := (0 : Int32)) hE dX2_clear_g0.2.2.2.1 (by decide) ?_
  refine r_istore_n hE [(1, .int (0 : Int32)), (0, .ref (G.1 1000))] dX2_clear_g0.2.2.2.2.1 rfl hN (by decide) rfl ?_
  refine r_pick [1, 0] rfl ?_
  obtain ⟨k, h⟩ := h
  exact kc_fr_clear_7 hE hm hF k _ _ h
/-! sp_endMacro -/
def wc_sp_endMacro (post : CS → Prop) (σ : CS) (a1 : Int32) (a2 : Int32) : Prop := wc_SX12_inside (fun (s1 : CS) (r2 : Int32) => ((r2 = (0 : Int32)) → (post s1)) ∧ ((¬ (r2 = (0 : Int32))) → (vp_in (c_sp_macros s1) 12 ∧ (∀ s3 : CS, s3 = c_sp_macroAt_s s1 (c_sp_macros s1).toNatClampNeg a1 → vp_in (c_sp_macros s3) 12 ∧ (∀ s4 : CS, s4 = c_sp_macroBody_s s3 (c_sp_macros s3).toNatClampNeg a2 → ∀ s5 : CS, s5 = c_sp_macros_s s4 ((c_sp_macros s4) + (1 : Int32)) → post s5))))) σ (c_sp_macros σ) (12 : Int32)
set_option maxRecDepth 20000 in
theorem kc_sp_endMacro {l : Launch} {D : va_G} {G : gAd} {post : CS → Prop} {σ : CS} {a1 : Int32} {a2 : Int32} (h : wc_sp_endMacro post σ a1 a2) : cMet l D G yX1_endMacro cX1_endMacro 3 none 2 [.ref (G.1 400), .int a1, .int a2] σ (pV post) := by
  unfold wc_sp_endMacro at h
  refine c_enter (own := RX1) (by decide +kernel) rfl [(0, .ref (G.1 400)), (1, .int a1), (2, .int a2)] rfl (Nat.le_of_ble_eq_true rfl) ?_
  intro E hE hm hF
  have hN := hm.2.2.2.2.2.2.1
  refine r_aload_n hE 0 dX1_endMacro_g0.1 rfl rfl ?_
  refine cg_sp_macros hE hm fk_X1_65 dX1_endMacro_g0.2.1 ?_
  refine r_bipush (v := (12 : Int32)) hE dX1_endMacro_g0.2.2.1 (by decide) ?_
  refine c_callSNi hE hm [.int (c_sp_macros σ), .int (12 : Int32)] [] ck_X1_74 cw_X1_74 (kc_SX12_inside h) (by decide) rfl rfl (Nat.le_of_ble_eq_true rfl) dX1_endMacro_g0.2.2.2.1 (fun s1 r2 h => ?_)
  refine r_if_eq hE 42 dX1_endMacro_g0.2.2.2.2.1 (by decide) h (fun h => ?_) (fun h => ?_)
  · exact c_vret hE hm hF dX1_endMacro_g1.2.2.2.2.2.2.2 h
  · refine r_aload_n hE 0 dX1_endMacro_g0.2.2.2.2.2.1 rfl rfl ?_
    refine cg_sp_macroAt hE hm fk_X1_59 dX1_endMacro_g0.2.2.2.2.2.2.1 ?_
    refine r_aload_n hE 0 dX1_endMacro_g0.2.2.2.2.2.2.2.1 rfl rfl ?_
    refine cg_sp_macros hE hm fk_X1_65 dX1_endMacro_g0.2.2.2.2.2.2.2.2.1 ?_
    refine r_iload_n hE 1 dX1_endMacro_g0.2.2.2.2.2.2.2.2.2.1 rfl rfl ?_
    obtain ⟨hi, h⟩ := h
    refine cs_sp_macroAt hE hm dX1_endMacro_g0.2.2.2.2.2.2.2.2.2.2.1 hi h (fun s3 h => ?_)
    refine r_aload_n hE 0 dX1_endMacro_g0.2.2.2.2.2.2.2.2.2.2.2.1 rfl rfl ?_
    refine cg_sp_macroBody hE hm fk_X1_62 dX1_endMacro_g0.2.2.2.2.2.2.2.2.2.2.2.2.1 ?_
    refine r_aload_n hE 0 dX1_endMacro_g0.2.2.2.2.2.2.2.2.2.2.2.2.2.1 rfl rfl ?_
    refine cg_sp_macros hE hm fk_X1_65 dX1_endMacro_g0.2.2.2.2.2.2.2.2.2.2.2.2.2.2.1 ?_
    refine r_iload_n hE 2 dX1_endMacro_g0.2.2.2.2.2.2.2.2.2.2.2.2.2.2.2 rfl rfl ?_
    obtain ⟨hi, h⟩ := h
    refine cs_sp_macroBody hE hm dX1_endMacro_g1.1 hi h (fun s4 h => ?_)
    refine r_aload_n hE 0 dX1_endMacro_g1.2.1 rfl rfl ?_
    refine r_dup hE dX1_endMacro_g1.2.2.1 rfl ?_
    refine cg_sp_macros hE hm fk_X1_65 dX1_endMacro_g1.2.2.2.1 ?_
    refine r_iconst (v := (1 : Int32)) hE dX1_endMacro_g1.2.2.2.2.1 (by decide) ?_
    refine r_iadd hE dX1_endMacro_g1.2.2.2.2.2.1 ?_
    refine cp_sp_macros hE hm fk_X1_65 dX1_endMacro_g1.2.2.2.2.2.2.1 h (fun s5 h => ?_)
    exact c_vret hE hm hF dX1_endMacro_g1.2.2.2.2.2.2.2 h
/-! sSJ0_isLatin1_aae02 -/
def wc_sSJ0_isLatin1_aae02 (post : CS → Int32 → Prop) (σ : CS) (a0 : Nat) : Prop := a0 < 87 ∧ (post σ (1 : Int32))
set_option maxRecDepth 20000 in
theorem kc_sSJ0_isLatin1_aae02 {l : Launch} {D : va_G} {G : gAd} {post : CS → Int32 → Prop} {σ : CS} {a0 : Nat} (h : wc_sSJ0_isLatin1_aae02 post σ a0) : cMet l D G yJ0_isLatin1_aae02 cJ0_isLatin1_aae02 1 (some .boolean) 1 [.ref (G.1 (5000 + a0))] σ (pI post) := by
  unfold wc_sSJ0_isLatin1_aae02 at h
  refine c_enter (own := RJ0) (by decide +kernel) rfl [(0, .ref (G.1 (5000 + a0)))] rfl (Nat.le_of_ble_eq_true rfl) ?_
  intro E hE hm hF
  have hN := hm.2.2.2.2.2.2.1
  refine kz_compact hE hm fk_J0_38 dJ0_isLatin1_aae02_g0.1 ?_
  refine r_if_eq (P := False) (Q := True) hE 17 dJ0_isLatin1_aae02_g0.2.1 (by decide) ⟨fun q => absurd q (by decide), fun _ => trivial⟩ (fun h => h.elim) (fun _ => ?_)
  refine r_aload_n hE 0 dJ0_isLatin1_aae02_g0.2.2.1 rfl rfl ?_
  obtain ⟨hx, h⟩ := h
  refine ks_coder hE hm hx fk_J0_15 dJ0_isLatin1_aae02_g0.2.2.2.1 ?_
  refine r_if_ne (P := False) (Q := True) hE 17 dJ0_isLatin1_aae02_g0.2.2.2.2.1 (by decide) ⟨fun q => absurd q (by decide), fun _ => trivial⟩ (fun h => h.elim) (fun _ => ?_)
  refine r_iconst (v := (1 : Int32)) hE dJ0_isLatin1_aae02_g0.2.2.2.2.2.1 (by decide) ?_
  refine r_goto hE 18 dJ0_isLatin1_aae02_g0.2.2.2.2.2.2.1 (by decide) ?_
  exact c_zret hE hm hF dJ0_isLatin1_aae02_g0.2.2.2.2.2.2.2.2 (Or.inr rfl) h
/-! SJ3_checkIndex_8e157_q -/
def wc_SJ3_checkIndex_8e157_q_9 (post : CS → Int32 → Prop) (σ : CS) (v0 : Int32) (v1 : Int32) (v2 : Nat) : Prop := False
set_option maxRecDepth 20000 in
theorem kc_SJ3_checkIndex_8e157_q_9  {E : gEnv} {l : Launch} {D : va_G} {G : gAd} {post : CS → Int32 → Prop} (hE : gOK E cJ3_checkIndex_8e157 RJ3 (some .int) 1) (hm : cOK E l D G (pI post) 3) (hF : gFin E) (σ : CS) (v0 : Int32) (v1 : Int32) (v2 : Nat) (h : wc_SJ3_checkIndex_8e157_q_9 post σ v0 v1 v2) : GW E (cW G σ) 9 [(0, .int v0), (1, .int v1), (2, .ref v2)] [] := by
  unfold wc_SJ3_checkIndex_8e157_q_9 at h
  have hN := hm.2.2.2.2.2.2.1
  refine r_aload_n hE 2 dJ3_checkIndex_8e157_g0.2.2.2.2.2.1 rfl rfl ?_
  refine r_iload_n hE 0 dJ3_checkIndex_8e157_g0.2.2.2.2.2.2.1 rfl rfl ?_
  refine r_iload_n hE 1 dJ3_checkIndex_8e157_g0.2.2.2.2.2.2.2.1 rfl rfl ?_
  exact h.elim
def wc_SJ3_checkIndex_8e157_q (post : CS → Int32 → Prop) (σ : CS) (a0 : Int32) (a1 : Int32) (a2 : Nat) : Prop := ((a0 < (0 : Int32)) → (wc_SJ3_checkIndex_8e157_q_9 post σ a0 a1 a2)) ∧ ((¬ (a0 < (0 : Int32))) → (((a0 < a1) → (post σ a0)) ∧ ((¬ (a0 < a1)) → (wc_SJ3_checkIndex_8e157_q_9 post σ a0 a1 a2))))
set_option maxRecDepth 20000 in
theorem kc_SJ3_checkIndex_8e157_q {l : Launch} {D : va_G} {G : gAd} {post : CS → Int32 → Prop} {σ : CS} {a0 : Int32} {a1 : Int32} {a2 : Nat} (h : wc_SJ3_checkIndex_8e157_q post σ a0 a1 a2) : cMet l D G yJ3_checkIndex_8e157 cJ3_checkIndex_8e157 3 (some .int) 1 [.int a0, .int a1, .ref a2] σ (pI post) := by
  unfold wc_SJ3_checkIndex_8e157_q at h
  refine c_enter (own := RJ3) (by decide +kernel) rfl [(0, .int a0), (1, .int a1), (2, .ref a2)] rfl (Nat.le_of_ble_eq_true rfl) ?_
  intro E hE hm hF
  have hN := hm.2.2.2.2.2.2.1
  refine r_iload_n hE 0 dJ3_checkIndex_8e157_g0.1 rfl rfl ?_
  refine r_if_lt hE 9 dJ3_checkIndex_8e157_g0.2.1 (by decide) h (fun h => ?_) (fun h => ?_)
  · exact kc_SJ3_checkIndex_8e157_q_9 hE hm hF _ _ _ _ h
  · refine r_iload_n hE 0 dJ3_checkIndex_8e157_g0.2.2.1 rfl rfl ?_
    refine r_iload_n hE 1 dJ3_checkIndex_8e157_g0.2.2.2.1 rfl rfl ?_
    refine r_icmp_lt hE 16 dJ3_checkIndex_8e157_g0.2.2.2.2.1 (by decide) h (fun h => ?_) (fun h => ?_)
    · refine r_iload_n hE 0 dJ3_checkIndex_8e157_g0.2.2.2.2.2.2.2.2.2.2.1 rfl rfl ?_
      exact c_iret hE hm hF dJ3_checkIndex_8e157_g0.2.2.2.2.2.2.2.2.2.2.2 h
    · exact kc_SJ3_checkIndex_8e157_q_9 hE hm hF _ _ _ _ h
/-! SJ3_checkIndex_8e157_z -/
def wc_SJ3_checkIndex_8e157_z_9 (post : CS → Int32 → Prop) (σ : CS) (v0 : Int32) (v1 : Int32) : Prop := False
set_option maxRecDepth 20000 in
theorem kc_SJ3_checkIndex_8e157_z_9  {E : gEnv} {l : Launch} {D : va_G} {G : gAd} {post : CS → Int32 → Prop} (hE : gOK E cJ3_checkIndex_8e157 RJ3 (some .int) 1) (hm : cOK E l D G (pI post) 3) (hF : gFin E) (σ : CS) (v0 : Int32) (v1 : Int32) (h : wc_SJ3_checkIndex_8e157_z_9 post σ v0 v1) : GW E (cW G σ) 9 [(0, .int v0), (1, .int v1), (2, .null)] [] := by
  unfold wc_SJ3_checkIndex_8e157_z_9 at h
  have hN := hm.2.2.2.2.2.2.1
  refine r_zload_n hE 2 dJ3_checkIndex_8e157_g0.2.2.2.2.2.1 rfl rfl ?_
  refine r_iload_n hE 0 dJ3_checkIndex_8e157_g0.2.2.2.2.2.2.1 rfl rfl ?_
  refine r_iload_n hE 1 dJ3_checkIndex_8e157_g0.2.2.2.2.2.2.2.1 rfl rfl ?_
  exact h.elim
def wc_SJ3_checkIndex_8e157_z (post : CS → Int32 → Prop) (σ : CS) (a0 : Int32) (a1 : Int32) : Prop := ((a0 < (0 : Int32)) → (wc_SJ3_checkIndex_8e157_z_9 post σ a0 a1)) ∧ ((¬ (a0 < (0 : Int32))) → (((a0 < a1) → (post σ a0)) ∧ ((¬ (a0 < a1)) → (wc_SJ3_checkIndex_8e157_z_9 post σ a0 a1))))
set_option maxRecDepth 20000 in
theorem kc_SJ3_checkIndex_8e157_z {l : Launch} {D : va_G} {G : gAd} {post : CS → Int32 → Prop} {σ : CS} {a0 : Int32} {a1 : Int32} (h : wc_SJ3_checkIndex_8e157_z post σ a0 a1) : cMet l D G yJ3_checkIndex_8e157 cJ3_checkIndex_8e157 3 (some .int) 1 [.int a0, .int a1, .null] σ (pI post) := by
  unfold wc_SJ3_checkIndex_8e157_z at h
  refine c_enter (own := RJ3) (by decide +kernel) rfl [(0, .int a0), (1, .int a1), (2, .null)] rfl (Nat.le_of_ble_eq_true rfl) ?_
  intro E hE hm hF
  have hN := hm.2.2.2.2.2.2.1
  refine r_iload_n hE 0 dJ3_checkIndex_8e157_g0.1 rfl rfl ?_
  refine r_if_lt hE 9 dJ3_checkIndex_8e157_g0.2.1 (by decide) h (fun h => ?_) (fun h => ?_)
  · exact kc_SJ3_checkIndex_8e157_z_9 hE hm hF _ _ _ h
  · refine r_iload_n hE 0 dJ3_checkIndex_8e157_g0.2.2.1 rfl rfl ?_
    refine r_iload_n hE 1 dJ3_checkIndex_8e157_g0.2.2.2.1 rfl rfl ?_
    refine r_icmp_lt hE 16 dJ3_checkIndex_8e157_g0.2.2.2.2.1 (by decide) h (fun h => ?_) (fun h => ?_)
    · refine r_iload_n hE 0 dJ3_checkIndex_8e157_g0.2.2.2.2.2.2.2.2.2.2.1 rfl rfl ?_
      exact c_iret hE hm hF dJ3_checkIndex_8e157_g0.2.2.2.2.2.2.2.2.2.2.2 h
    · exact kc_SJ3_checkIndex_8e157_z_9 hE hm hF _ _ _ h
/-! SJ0_checkIndex_df160 -/
def wc_SJ0_checkIndex_df160 (post : CS → Prop) (σ : CS) (a0 : Int32) (a1 : Int32) : Prop := (∀ t1 : Nat, wc_SJ3_checkIndex_8e157_q (fun (s2 : CS) (r3 : Int32) => post s2) σ a0 a1 t1) ∧ (wc_SJ3_checkIndex_8e157_z (fun (s4 : CS) (r5 : Int32) => post s4) σ a0 a1)
set_option maxRecDepth 20000 in
theorem kc_SJ0_checkIndex_df160 {l : Launch} {D : va_G} {G : gAd} {post : CS → Prop} {σ : CS} {a0 : Int32} {a1 : Int32} (h : wc_SJ0_checkIndex_df160 post σ a0 a1) : cMet l D G yJ0_checkIndex_df160 cJ0_checkIndex_df160 2 none 2 [.int a0, .int a1] σ (pV post) := by
  unfold wc_SJ0_checkIndex_df160 at h
  refine c_enter (own := RJ0) (by decide +kernel) rfl [(0, .int a0), (1, .int a1)] rfl (Nat.le_of_ble_eq_true rfl) ?_
  intro E hE hm hF
  have hN := hm.2.2.2.2.2.2.1
  refine r_iload_n hE 0 dJ0_checkIndex_df160_g0.1 rfl rfl ?_
  refine r_iload_n hE 1 dJ0_checkIndex_df160_g0.2.1 rfl rfl ?_
  refine kz_sioobe hE hm fk_J0_1053 dJ0_checkIndex_df160_g0.2.2.1 h (fun t1 h => ?_) (fun h => ?_)
  · refine c_callSi hE hm [.int a0, .int a1, .ref t1] [] ck_J0_1059 (kc_SJ3_checkIndex_8e157_q h) (by decide) rfl rfl (Nat.le_of_ble_eq_true rfl) dJ0_checkIndex_df160_g0.2.2.2.1 (fun s2 r3 h => ?_)
    refine r_pop hE dJ0_checkIndex_df160_g0.2.2.2.2.1 rfl ?_
    exact c_vret hE hm hF dJ0_checkIndex_df160_g0.2.2.2.2.2 h
  · refine c_callSi hE hm [.int a0, .int a1, .null] [] ck_J0_1059 (kc_SJ3_checkIndex_8e157_z h) (by decide) rfl rfl (Nat.le_of_ble_eq_true rfl) dJ0_checkIndex_df160_g0.2.2.2.1 (fun s4 r5 h => ?_)
    refine r_pop hE dJ0_checkIndex_df160_g0.2.2.2.2.1 rfl ?_
    exact c_vret hE hm hF dJ0_checkIndex_df160_g0.2.2.2.2.2 h
/-! SJ1_charAt_3b067_b -/
def wc_SJ1_charAt_3b067_b (post : CS → Int32 → Prop) (σ : CS) (a0 : Nat) (a1 : Int32) : Prop := a0 < 87 ∧ (wc_SJ0_checkIndex_df160 (fun (s1 : CS) => a0 < 87 ∧ (vp_in a1 (sL a0) ∧ (narrow .char (.int ((((sB a0 a1.toNatClampNeg) &&& (255 : Int32)).toUInt32 % 65536).toInt32)) = .int ((((sB a0 a1.toNatClampNeg) &&& (255 : Int32)).toUInt32 % 65536).toInt32) ∧ (post s1 ((((sB a0 a1.toNatClampNeg) &&& (255 : Int32)).toUInt32 % 65536).toInt32))))) σ a1 (nI (sL a0)))
set_option maxRecDepth 20000 in
theorem kc_SJ1_charAt_3b067_b {l : Launch} {D : va_G} {G : gAd} {post : CS → Int32 → Prop} {σ : CS} {a0 : Nat} {a1 : Int32} (h : wc_SJ1_charAt_3b067_b post σ a0 a1) : cMet l D G yJ1_charAt_3b067 cJ1_charAt_3b067 2 (some .char) 3 [.ref (G.1 (6000 + a0)), .int a1] σ (pI post) := by
  unfold wc_SJ1_charAt_3b067_b at h
  refine c_enter (own := RJ1) (by decide +kernel) rfl [(0, .ref (G.1 (6000 + a0))), (1, .int a1)] rfl (Nat.le_of_ble_eq_true rfl) ?_
  intro E hE hm hF
  have hN := hm.2.2.2.2.2.2.1
  refine r_iload_n hE 1 dJ1_charAt_3b067_g0.1 rfl rfl ?_
  refine r_aload_n hE 0 dJ1_charAt_3b067_g0.2.1 rfl rfl ?_
  obtain ⟨hx, h⟩ := h
  refine ks_len hE hm hx dJ1_charAt_3b067_g0.2.2.1 ?_
  refine c_callSv hE hm [.int a1, .int (nI (sL a0))] [] ck_J1_9 (kc_SJ0_checkIndex_df160 h) (by decide) rfl rfl (Nat.le_of_ble_eq_true rfl) dJ1_charAt_3b067_g0.2.2.2.1 (fun s1 h => ?_)
  refine r_aload_n hE 0 dJ1_charAt_3b067_g0.2.2.2.2.1 rfl rfl ?_
  refine r_iload_n hE 1 dJ1_charAt_3b067_g0.2.2.2.2.2.1 rfl rfl ?_
  obtain ⟨hx, h⟩ := h
  obtain ⟨hi, h⟩ := h
  refine ks_byte hE hm hx hi dJ1_charAt_3b067_g0.2.2.2.2.2.2.1 ?_
  refine r_sipush (v := (255 : Int32)) hE dJ1_charAt_3b067_g0.2.2.2.2.2.2.2.1 (by decide) ?_
  refine r_iand hE dJ1_charAt_3b067_g0.2.2.2.2.2.2.2.2.1 ?_
  refine r_i2c hE dJ1_charAt_3b067_g0.2.2.2.2.2.2.2.2.2.1 ?_
  obtain ⟨hn, h⟩ := h
  exact c_nret hE hm hF dJ1_charAt_3b067_g0.2.2.2.2.2.2.2.2.2.2 hn h
/-! sSJ0_charAt_5068e -/
def wc_sSJ0_charAt_5068e (post : CS → Int32 → Prop) (σ : CS) (a0 : Nat) (a1 : Int32) : Prop := a0 < 87 ∧ (wc_sSJ0_isLatin1_aae02 (fun (s1 : CS) (r2 : Int32) => ((r2 = (0 : Int32)) → (a0 < 87 ∧ (False))) ∧ ((¬ (r2 = (0 : Int32))) → (a0 < 87 ∧ (wc_SJ1_charAt_3b067_b (fun (s3 : CS) (r4 : Int32) => narrow .char (.int r4) = .int r4 ∧ (post s3 r4)) s1 a0 a1)))) σ a0)
set_option maxRecDepth 20000 in
theorem kc_sSJ0_charAt_5068e {l : Launch} {D : va_G} {G : gAd} {post : CS → Int32 → Prop} {σ : CS} {a0 : Nat} {a1 : Int32} (h : wc_sSJ0_charAt_5068e post σ a0 a1) : cMet l D G yJ0_charAt_5068e cJ0_charAt_5068e 2 (some .char) 4 [.ref (G.1 (5000 + a0)), .int a1] σ (pI post) := by
  unfold wc_sSJ0_charAt_5068e at h
  refine c_enter (own := RJ0) (by decide +kernel) rfl [(0, .ref (G.1 (5000 + a0))), (1, .int a1)] rfl (Nat.le_of_ble_eq_true rfl) ?_
  intro E hE hm hF
  have hN := hm.2.2.2.2.2.2.1
  refine r_aload_n hE 0 dJ0_charAt_5068e_g0.1 rfl rfl ?_
  obtain ⟨hx, h⟩ := h
  refine c_callKi hE hm [] [] ck_J0_492 ((c_z hE hm).2.2.1 _ hx).1 (kc_sSJ0_isLatin1_aae02 h) (by decide) rfl rfl (Nat.le_of_ble_eq_true rfl) dJ0_charAt_5068e_g0.2.1 (fun s1 r2 h => ?_)
  refine r_if_eq hE 16 dJ0_charAt_5068e_g0.2.2.1 (by decide) h (fun h => ?_) (fun h => ?_)
  · refine r_aload_n hE 0 dJ0_charAt_5068e_g0.2.2.2.2.2.2.2.2.1 rfl rfl ?_
    obtain ⟨hx, h⟩ := h
    refine ks_value hE hm hx fk_J0_9 dJ0_charAt_5068e_g0.2.2.2.2.2.2.2.2.2.1 ?_
    refine r_iload_n hE 1 dJ0_charAt_5068e_g0.2.2.2.2.2.2.2.2.2.2.1 rfl rfl ?_
    exact h.elim
  · refine r_aload_n hE 0 dJ0_charAt_5068e_g0.2.2.2.1 rfl rfl ?_
    obtain ⟨hx, h⟩ := h
    refine ks_value hE hm hx fk_J0_9 dJ0_charAt_5068e_g0.2.2.2.2.1 ?_
    refine r_iload_n hE 1 dJ0_charAt_5068e_g0.2.2.2.2.2.1 rfl rfl ?_
    refine c_callSi hE hm [.ref (G.1 (6000 + a0)), .int a1] [] ck_J0_495 (kc_SJ1_charAt_3b067_b h) (by decide) rfl rfl (Nat.le_of_ble_eq_true rfl) dJ0_charAt_5068e_g0.2.2.2.2.2.2.1 (fun s3 r4 h => ?_)
    obtain ⟨hn, h⟩ := h
    exact c_nret hE hm hF dJ0_charAt_5068e_g0.2.2.2.2.2.2.2.1 hn h
/-! sSJ0_coder_7d493 -/
def wc_sSJ0_coder_7d493 (post : CS → Int32 → Prop) (σ : CS) (a0 : Nat) : Prop := a0 < 87 ∧ (narrow .byte (.int (0 : Int32)) = .int (0 : Int32) ∧ (post σ (0 : Int32)))
set_option maxRecDepth 20000 in
theorem kc_sSJ0_coder_7d493 {l : Launch} {D : va_G} {G : gAd} {post : CS → Int32 → Prop} {σ : CS} {a0 : Nat} (h : wc_sSJ0_coder_7d493 post σ a0) : cMet l D G yJ0_coder_7d493 cJ0_coder_7d493 1 (some .byte) 1 [.ref (G.1 (5000 + a0))] σ (pI post) := by
  unfold wc_sSJ0_coder_7d493 at h
  refine c_enter (own := RJ0) (by decide +kernel) rfl [(0, .ref (G.1 (5000 + a0)))] rfl (Nat.le_of_ble_eq_true rfl) ?_
  intro E hE hm hF
  have hN := hm.2.2.2.2.2.2.1
  refine kz_compact hE hm fk_J0_38 dJ0_coder_7d493_g0.1 ?_
  refine r_if_eq (P := False) (Q := True) hE 13 dJ0_coder_7d493_g0.2.1 (by decide) ⟨fun q => absurd q (by decide), fun _ => trivial⟩ (fun h => h.elim) (fun _ => ?_)
  refine r_aload_n hE 0 dJ0_coder_7d493_g0.2.2.1 rfl rfl ?_
  obtain ⟨hx, h⟩ := h
  refine ks_coder hE hm hx fk_J0_15 dJ0_coder_7d493_g0.2.2.2.1 ?_
  refine r_goto hE 14 dJ0_coder_7d493_g0.2.2.2.2.1 (by decide) ?_
  obtain ⟨hn, h⟩ := h
  exact c_nret hE hm hF dJ0_coder_7d493_g0.2.2.2.2.2.2 hn h
/-! sSJ0_length_8abf5 -/
def wc_sSJ0_length_8abf5 (post : CS → Int32 → Prop) (σ : CS) (a0 : Nat) : Prop := a0 < 87 ∧ (a0 < 87 ∧ (a0 < 87 ∧ (wc_sSJ0_coder_7d493 (fun (s1 : CS) (r2 : Int32) => post s1 ((nI (sL a0)) >>> (r2 &&& 31))) σ a0)))
set_option maxRecDepth 20000 in
theorem kc_sSJ0_length_8abf5 {l : Launch} {D : va_G} {G : gAd} {post : CS → Int32 → Prop} {σ : CS} {a0 : Nat} (h : wc_sSJ0_length_8abf5 post σ a0) : cMet l D G yJ0_length_8abf5 cJ0_length_8abf5 1 (some .int) 2 [.ref (G.1 (5000 + a0))] σ (pI post) := by
  unfold wc_sSJ0_length_8abf5 at h
  refine c_enter (own := RJ0) (by decide +kernel) rfl [(0, .ref (G.1 (5000 + a0)))] rfl (Nat.le_of_ble_eq_true rfl) ?_
  intro E hE hm hF
  have hN := hm.2.2.2.2.2.2.1
  refine r_aload_n hE 0 dJ0_length_8abf5_g0.1 rfl rfl ?_
  obtain ⟨hx, h⟩ := h
  refine ks_value hE hm hx fk_J0_9 dJ0_length_8abf5_g0.2.1 ?_
  obtain ⟨hx, h⟩ := h
  refine ks_len hE hm hx dJ0_length_8abf5_g0.2.2.1 ?_
  refine r_aload_n hE 0 dJ0_length_8abf5_g0.2.2.2.1 rfl rfl ?_
  obtain ⟨hx, h⟩ := h
  refine c_callKi hE hm [] [.int (nI (sL a0))] ck_J0_335 ((c_z hE hm).2.2.1 _ hx).1 (kc_sSJ0_coder_7d493 h) (by decide) rfl rfl (Nat.le_of_ble_eq_true rfl) dJ0_length_8abf5_g0.2.2.2.2.1 (fun s1 r2 h => ?_)
  refine r_ishr hE dJ0_length_8abf5_g0.2.2.2.2.2.1 ?_
  exact c_iret hE hm hF dJ0_length_8abf5_g0.2.2.2.2.2.2 h
/-! sp_letterAt -/
def wc_sp_letterAt_56 (post : CS → Int32 → Prop) (σ : CS) (v2 : Int32) : Prop := post σ v2
set_option maxRecDepth 20000 in
theorem kc_sp_letterAt_56  {E : gEnv} {l : Launch} {D : va_G} {G : gAd} {post : CS → Int32 → Prop} (hE : gOK E cX1_letterAt RX1 (some .int) 1) (hm : cOK E l D G (pI post) 3) (hF : gFin E) (σ : CS) (v2 : Int32) (h : wc_sp_letterAt_56 post σ v2) : GW E (cW G σ) 56 [(2, .int v2)] [] := by
  unfold wc_sp_letterAt_56 at h
  have hN := hm.2.2.2.2.2.2.1
  refine r_iload_n hE 0 dX1_letterAt_g1.2.2.2.2.2.2.2.2.2.2.2.2.2.2.1 rfl rfl ?_
  refine r_goto hE 61 dX1_letterAt_g1.2.2.2.2.2.2.2.2.2.2.2.2.2.2.2 (by decide) ?_
  exact c_iret hE hm hF dX1_letterAt_g2.2 h
def wc_sp_letterAt_44 (post : CS → Int32 → Prop) (σ : CS) (v2 : Int32) : Prop := ((v2 < (48 : Int32)) → (post σ (0 : Int32))) ∧ ((¬ (v2 < (48 : Int32))) → ((((57 : Int32) < v2) → (post σ (0 : Int32))) ∧ ((¬ ((57 : Int32) < v2)) → (wc_sp_letterAt_56 post σ v2))))
set_option maxRecDepth 20000 in
theorem kc_sp_letterAt_44  {E : gEnv} {l : Launch} {D : va_G} {G : gAd} {post : CS → Int32 → Prop} (hE : gOK E cX1_letterAt RX1 (some .int) 1) (hm : cOK E l D G (pI post) 3) (hF : gFin E) (σ : CS) (v2 : Int32) (h : wc_sp_letterAt_44 post σ v2) : GW E (cW G σ) 44 [(2, .int v2)] [] := by
  unfold wc_sp_letterAt_44 at h
  have hN := hm.2.2.2.2.2.2.1
  refine r_iload_n hE 0 dX1_letterAt_g1.2.2.2.2.2.2.2.2.1 rfl rfl ?_
  refine r_bipush (v := (48 : Int32)) hE dX1_letterAt_g1.2.2.2.2.2.2.2.2.2.1 (by decide) ?_
  refine r_icmp_lt hE 60 dX1_letterAt_g1.2.2.2.2.2.2.2.2.2.2.1 (by decide) h (fun h => ?_) (fun h => ?_)
  · refine r_iconst (v := (0 : Int32)) hE dX1_letterAt_g2.1 (by decide) ?_
    exact c_iret hE hm hF dX1_letterAt_g2.2 h
  · refine r_iload_n hE 0 dX1_letterAt_g1.2.2.2.2.2.2.2.2.2.2.2.1 rfl rfl ?_
    refine r_bipush (v := (57 : Int32)) hE dX1_letterAt_g1.2.2.2.2.2.2.2.2.2.2.2.2.1 (by decide) ?_
    refine r_icmp_gt hE 60 dX1_letterAt_g1.2.2.2.2.2.2.2.2.2.2.2.2.2.1 (by decide) h (fun h => ?_) (fun h => ?_)
    · refine r_iconst (v := (0 : Int32)) hE dX1_letterAt_g2.1 (by decide) ?_
      exact c_iret hE hm hF dX1_letterAt_g2.2 h
    · exact kc_sp_letterAt_56 hE hm hF _ _ h
def wc_sp_letterAt_31 (post : CS → Int32 → Prop) (σ : CS) (t0 : Int32) : Prop := ((t0 < (97 : Int32)) → (wc_sp_letterAt_44 post σ t0)) ∧ ((¬ (t0 < (97 : Int32))) → (((t0 ≤ (122 : Int32)) → (wc_sp_letterAt_56 post σ t0)) ∧ ((¬ (t0 ≤ (122 : Int32))) → (wc_sp_letterAt_44 post σ t0))))
set_option maxRecDepth 20000 in
theorem kc_sp_letterAt_31  {E : gEnv} {l : Launch} {D : va_G} {G : gAd} {post : CS → Int32 → Prop} (hE : gOK E cX1_letterAt RX1 (some .int) 1) (hm : cOK E l D G (pI post) 3) (hF : gFin E) (σ : CS) (t0 : Int32) (h : wc_sp_letterAt_31 post σ t0) : GW E (cW G σ) 31 [] [.int t0] := by
  unfold wc_sp_letterAt_31 at h
  have hN := hm.2.2.2.2.2.2.1
  refine r_istore_n hE [(2, .int t0)] dX1_letterAt_g1.2.1 rfl hN (by decide) rfl ?_
  refine r_iload_n hE 0 dX1_letterAt_g1.2.2.1 rfl rfl ?_
  refine r_bipush (v := (97 : Int32)) hE dX1_letterAt_g1.2.2.2.1 (by decide) ?_
  refine r_icmp_lt hE 44 dX1_letterAt_g1.2.2.2.2.1 (by decide) h (fun h => ?_) (fun h => ?_)
  · exact kc_sp_letterAt_44 hE hm hF _ _ h
  · refine r_iload_n hE 0 dX1_letterAt_g1.2.2.2.2.2.1 rfl rfl ?_
    refine r_bipush (v := (122 : Int32)) hE dX1_letterAt_g1.2.2.2.2.2.2.1 (by decide) ?_
    refine r_icmp_le hE 56 dX1_letterAt_g1.2.2.2.2.2.2.2.1 (by decide) h (fun h => ?_) (fun h => ?_)
    · exact kc_sp_letterAt_56 hE hm hF _ _ h
    · exact kc_sp_letterAt_44 hE hm hF _ _ h
def wc_sp_letterAt_30 (post : CS → Int32 → Prop) (σ : CS) : Prop := wc_sp_letterAt_31 post σ (0 : Int32)
set_option maxRecDepth 20000 in
theorem kc_sp_letterAt_30  {E : gEnv} {l : Launch} {D : va_G} {G : gAd} {post : CS → Int32 → Prop} (hE : gOK E cX1_letterAt RX1 (some .int) 1) (hm : cOK E l D G (pI post) 3) (hF : gFin E) (σ : CS) (h : wc_sp_letterAt_30 post σ) : GW E (cW G σ) 30 [] [] := by
  unfold wc_sp_letterAt_30 at h
  have hN := hm.2.2.2.2.2.2.1
  refine r_iconst (v := (0 : Int32)) hE dX1_letterAt_g1.1 (by decide) ?_
  exact kc_sp_letterAt_31 hE hm hF _ _ h
def wc_sp_letterAt (post : CS → Int32 → Prop) (σ : CS) (a1 : Int32) : Prop := ((a1 < (0 : Int32)) → (wc_sp_letterAt_30 post σ)) ∧ ((¬ (a1 < (0 : Int32))) → ((((c_sp_length σ) ≤ a1) → (wc_sp_letterAt_30 post σ)) ∧ ((¬ ((c_sp_length σ) ≤ a1)) → ((((3000 : Int32) ≤ a1) → (wc_sp_letterAt_30 post σ)) ∧ ((¬ ((3000 : Int32) ≤ a1)) → (vp_in a1 3000 ∧ (wc_sp_letterAt_31 post σ (c_sp_text σ a1.toNatClampNeg))))))))
set_option maxRecDepth 20000 in
theorem kc_sp_letterAt {l : Launch} {D : va_G} {G : gAd} {post : CS → Int32 → Prop} {σ : CS} {a1 : Int32} (h : wc_sp_letterAt post σ a1) : cMet l D G yX1_letterAt cX1_letterAt 3 (some .int) 1 [.ref (G.1 400), .int a1] σ (pI post) := by
  unfold wc_sp_letterAt at h
  refine c_enter (own := RX1) (by decide +kernel) rfl [(0, .ref (G.1 400)), (1, .int a1)] rfl (Nat.le_of_ble_eq_true rfl) ?_
  intro E hE hm hF
  have hN := hm.2.2.2.2.2.2.1
  refine r_iload_n hE 1 dX1_letterAt_g0.1 rfl rfl ?_
  refine r_if_lt hE 30 dX1_letterAt_g0.2.1 (by decide) h (fun h => ?_) (fun h => ?_)
  · refine r_pick [] rfl ?_
    exact kc_sp_letterAt_30 hE hm hF _ h
  · refine r_iload_n hE 1 dX1_letterAt_g0.2.2.1 rfl rfl ?_
    refine r_aload_n hE 0 dX1_letterAt_g0.2.2.2.1 rfl rfl ?_
    refine cg_sp_length hE hm fk_X1_15 dX1_letterAt_g0.2.2.2.2.1 ?_
    refine r_icmp_ge hE 30 dX1_letterAt_g0.2.2.2.2.2.1 (by decide) h (fun h => ?_) (fun h => ?_)
    · refine r_pick [] rfl ?_
      exact kc_sp_letterAt_30 hE hm hF _ h
    · refine r_iload_n hE 1 dX1_letterAt_g0.2.2.2.2.2.2.1 rfl rfl ?_
      refine r_aload_n hE 0 dX1_letterAt_g0.2.2.2.2.2.2.2.1 rfl rfl ?_
      refine cg_sp_text hE hm fk_X1_9 dX1_letterAt_g0.2.2.2.2.2.2.2.2.1 ?_
      refine cn_sp_text hE hm dX1_letterAt_g0.2.2.2.2.2.2.2.2.2.1 ?_
      refine r_icmp_ge hE 30 dX1_letterAt_g0.2.2.2.2.2.2.2.2.2.2.1 (by decide) h (fun h => ?_) (fun h => ?_)
      · refine r_pick [] rfl ?_
        exact kc_sp_letterAt_30 hE hm hF _ h
      · refine r_aload_n hE 0 dX1_letterAt_g0.2.2.2.2.2.2.2.2.2.2.2.1 rfl rfl ?_
        refine cg_sp_text hE hm fk_X1_9 dX1_letterAt_g0.2.2.2.2.2.2.2.2.2.2.2.2.1 ?_
        refine r_iload_n hE 1 dX1_letterAt_g0.2.2.2.2.2.2.2.2.2.2.2.2.2.1 rfl rfl ?_
        obtain ⟨hi, h⟩ := h
        refine cl_sp_text hE hm dX1_letterAt_g0.2.2.2.2.2.2.2.2.2.2.2.2.2.2.1 hi ?_
        refine r_goto hE 31 dX1_letterAt_g0.2.2.2.2.2.2.2.2.2.2.2.2.2.2.2 (by decide) ?_
        refine r_pick [] rfl ?_
        exact kc_sp_letterAt_31 hE hm hF _ _ h
/-! sp_isWord_s -/
def wc_sp_isWord_s_2 (post : CS → Int32 → Prop) : Nat → CS → Int32 → Nat → Int32 → Prop
  | 0, _, _, _, _ => False
  | n + 1, σ, v1, v2, v3 => v2 < 87 ∧ (wc_sSJ0_length_8abf5 (fun (s1 : CS) (r2 : Int32) => ((r2 ≤ v3) → (v2 < 87 ∧ (wc_sSJ0_length_8abf5 (fun (s3 : CS) (r4 : Int32) => wc_sp_letterAt (fun (s5 : CS) (r6 : Int32) => ((¬ (r6 = (0 : Int32))) → (post s5 (0 : Int32))) ∧ ((r6 = (0 : Int32)) → (post s5 (1 : Int32)))) s3 (v1 + r4)) s1 v2))) ∧ ((¬ (r2 ≤ v3)) → (wc_sp_letterAt (fun (s7 : CS) (r8 : Int32) => v2 < 87 ∧ (wc_sSJ0_charAt_5068e (fun (s9 : CS) (r10 : Int32) => ((r8 = r10) → (∀ x11 : Int32, x11 = v3 + (1 : Int32) → wc_sp_isWord_s_2 post n s9 v1 v2 x11)) ∧ ((¬ (r8 = r10)) → (post s9 (0 : Int32)))) s7 v2 v3)) s1 (v1 + v3)))) σ v2)
set_option maxRecDepth 20000 in
theorem kc_sp_isWord_s_2  {E : gEnv} {l : Launch} {D : va_G} {G : gAd} {post : CS → Int32 → Prop} (hE : gOK E cX1_isWord RX1 (some .boolean) 5) (hm : cOK E l D G (pI post) 4) (hF : gFin E) : ∀ (n0 : Nat) (σ : CS) (v1 : Int32) (v2 : Nat) (v3 : Int32), wc_sp_isWord_s_2 post n0 σ v1 v2 v3 → GW E (cW G σ) 2 [(0, .ref (G.1 400)), (1, .int v1), (2, .ref (G.1 (5000 + v2))), (3, .int v3)] [] := by
  intro n0
  induction n0 with
  | zero => intro σ v1 v2 v3 h; exact h.elim
  | succ n0 ih =>
    intro σ v1 v2 v3 h
    rw [wc_sp_isWord_s_2] at h
    have hN := hm.2.2.2.2.2.2.1
    refine r_iload_n hE 3 dX1_isWord_g0.2.2.1 rfl rfl ?_
    refine r_aload_n hE 2 dX1_isWord_g0.2.2.2.1 rfl rfl ?_
    obtain ⟨hx, h⟩ := h
    refine c_callKi hE hm [] [.int v3] ck_X1_88 ((c_z hE hm).2.2.1 _ hx).1 (kc_sSJ0_length_8abf5 h) (by decide) rfl rfl (Nat.le_of_ble_eq_true rfl) dX1_isWord_g0.2.2.2.2.1 (fun s1 r2 h => ?_)
    refine r_icmp_ge hE 33 dX1_isWord_g0.2.2.2.2.2.1 (by decide) h (fun h => ?_) (fun h => ?_)
    · refine r_aload_n hE 0 dX1_isWord_g1.2.2.2.1 rfl rfl ?_
      refine r_iload_n hE 1 dX1_isWord_g1.2.2.2.2.1 rfl rfl ?_
      refine r_aload_n hE 2 dX1_isWord_g1.2.2.2.2.2.1 rfl rfl ?_
      obtain ⟨hx, h⟩ := h
      refine c_callKi hE hm [] [.int v1, .ref (G.1 400)] ck_X1_88 ((c_z hE hm).2.2.1 _ hx).1 (kc_sSJ0_length_8abf5 h) (by decide) rfl rfl (Nat.le_of_ble_eq_true rfl) dX1_isWord_g1.2.2.2.2.2.2.1 (fun s3 r4 h => ?_)
      refine r_iadd hE dX1_isWord_g1.2.2.2.2.2.2.2.1 ?_
      refine c_callVi hE hm [.int (v1 + r4)] [] ck_X1_85 (cr_sp hm rfl) (kc_sp_letterAt h) (by decide) rfl rfl (Nat.le_of_ble_eq_true rfl) dX1_isWord_g1.2.2.2.2.2.2.2.2.1 (fun s5 r6 h => ?_)
      refine r_if_ne hE 50 dX1_isWord_g1.2.2.2.2.2.2.2.2.2.1 (by decide) h (fun h => ?_) (fun h => ?_)
      · refine r_iconst (v := (0 : Int32)) hE dX1_isWord_g1.2.2.2.2.2.2.2.2.2.2.2.2.1 (by decide) ?_
        exact c_zret hE hm hF dX1_isWord_g1.2.2.2.2.2.2.2.2.2.2.2.2.2 (Or.inl rfl) h
      · refine r_iconst (v := (1 : Int32)) hE dX1_isWord_g1.2.2.2.2.2.2.2.2.2.2.1 (by decide) ?_
        refine r_goto hE 51 dX1_isWord_g1.2.2.2.2.2.2.2.2.2.2.2.1 (by decide) ?_
        exact c_zret hE hm hF dX1_isWord_g1.2.2.2.2.2.2.2.2.2.2.2.2.2 (Or.inr rfl) h
    · refine r_aload_n hE 0 dX1_isWord_g0.2.2.2.2.2.2.1 rfl rfl ?_
      refine r_iload_n hE 1 dX1_isWord_g0.2.2.2.2.2.2.2.1 rfl rfl ?_
      refine r_iload_n hE 3 dX1_isWord_g0.2.2.2.2.2.2.2.2.1 rfl rfl ?_
      refine r_iadd hE dX1_isWord_g0.2.2.2.2.2.2.2.2.2.1 ?_
      refine c_callVi hE hm [.int (v1 + v3)] [] ck_X1_85 (cr_sp hm rfl) (kc_sp_letterAt h) (by decide) rfl rfl (Nat.le_of_ble_eq_true rfl) dX1_isWord_g0.2.2.2.2.2.2.2.2.2.2.1 (fun s7 r8 h => ?_)
      refine r_aload_n hE 2 dX1_isWord_g0.2.2.2.2.2.2.2.2.2.2.2.1 rfl rfl ?_
      refine r_iload_n hE 3 dX1_isWord_g0.2.2.2.2.2.2.2.2.2.2.2.2.1 rfl rfl ?_
      obtain ⟨hx, h⟩ := h
      refine c_callKi hE hm [.int v3] [.int r8] ck_X1_93 ((c_z hE hm).2.2.1 _ hx).1 (kc_sSJ0_charAt_5068e h) (by decide) rfl rfl (Nat.le_of_ble_eq_true rfl) dX1_isWord_g0.2.2.2.2.2.2.2.2.2.2.2.2.2.1 (fun s9 r10 h => ?_)
      refine r_icmp_eq hE 27 dX1_isWord_g0.2.2.2.2.2.2.2.2.2.2.2.2.2.2.1 (by decide) h (fun h => ?_) (fun h => ?_)
      · obtain ⟨x11, ex11⟩ : ∃ z : Int32, z = v3 + (1 : Int32) := ⟨_, rfl⟩
        have h := h x11 ex11
        refine r_iinc (v := x11) hE [(3, .int x11), (0, .ref (G.1 400)), (1, .int v1), (2, .ref (G.1 (5000 + v2)))] 3 dX1_isWord_g1.2.1 rfl (by rw [ex11]; rfl) hN (by decide) rfl ?_
        refine r_goto hE 2 dX1_isWord_g1.2.2.1 (by decide) ?_
        refine r_pick [1, 2, 3, 0] rfl ?_
        exact ih _ _ _ _ h
      · refine r_iconst (v := (0 : Int32)) hE dX1_isWord_g0.2.2.2.2.2.2.2.2.2.2.2.2.2.2.2 (by decide) ?_
        exact c_zret hE hm hF dX1_isWord_g1.1 (Or.inl rfl) h
def wc_sp_isWord_s (post : CS → Int32 → Prop) (σ : CS) (a1 : Int32) (a2 : Nat) : Prop := ∃ k : Nat, wc_sp_isWord_s_2 post k σ a1 a2 (0 : Int32)
set_option maxRecDepth 20000 in
theorem kc_sp_isWord_s {l : Launch} {D : va_G} {G : gAd} {post : CS → Int32 → Prop} {σ : CS} {a1 : Int32} {a2 : Nat} (h : wc_sp_isWord_s post σ a1 a2) : cMet l D G yX1_isWord cX1_isWord 4 (some .boolean) 5 [.ref (G.1 400), .int a1, .ref (G.1 (5000 + a2))] σ (pI post) := by
  unfold wc_sp_isWord_s at h
  refine c_enter (own := RX1) (by decide +kernel) rfl [(0, .ref (G.1 400)), (1, .int a1), (2, .ref (G.1 (5000 + a2)))] rfl (Nat.le_of_ble_eq_true rfl) ?_
  intro E hE hm hF
  have hN := hm.2.2.2.2.2.2.1
  refine r_iconst (v := (0 : Int32)) hE dX1_isWord_g0.1 (by decide) ?_
  refine r_istore_n hE [(3, .int (0 : Int32)), (0, .ref (G.1 400)), (1, .int a1), (2, .ref (G.1 (5000 + a2)))] dX1_isWord_g0.2.1 rfl hN (by decide) rfl ?_
  refine r_pick [1, 2, 3, 0] rfl ?_
  obtain ⟨k, h⟩ := h
  exact kc_sp_isWord_s_2 hE hm hF k _ _ _ _ h
/-! rd_isSign -/
def wc_rd_isSign (post : CS → Int32 → Prop) (σ : CS) (a1 : Int32) : Prop := ((¬ ((c_rd_kind σ) = (4 : Int32))) → (post σ (0 : Int32))) ∧ (((c_rd_kind σ) = (4 : Int32)) → (((¬ ((c_rd_sign σ) = a1)) → (post σ (0 : Int32))) ∧ (((c_rd_sign σ) = a1) → (post σ (1 : Int32)))))
set_option maxRecDepth 20000 in
theorem kc_rd_isSign {l : Launch} {D : va_G} {G : gAd} {post : CS → Int32 → Prop} {σ : CS} {a1 : Int32} (h : wc_rd_isSign post σ a1) : cMet l D G yX5_isSign cX5_isSign 2 (some .boolean) 1 [.ref (G.1 600), .int a1] σ (pI post) := by
  unfold wc_rd_isSign at h
  refine c_enter (own := RX5) (by decide +kernel) rfl [(0, .ref (G.1 600)), (1, .int a1)] rfl (Nat.le_of_ble_eq_true rfl) ?_
  intro E hE hm hF
  have hN := hm.2.2.2.2.2.2.1
  refine r_aload_n hE 0 dX5_isSign_g0.1 rfl rfl ?_
  refine cg_rd_kind hE hm fk_X5_18 dX5_isSign_g0.2.1 ?_
  refine r_iconst (v := (4 : Int32)) hE dX5_isSign_g0.2.2.1 (by decide) ?_
  refine r_icmp_ne hE 20 dX5_isSign_g0.2.2.2.1 (by decide) h (fun h => ?_) (fun h => ?_)
  · refine r_iconst (v := (0 : Int32)) hE dX5_isSign_g0.2.2.2.2.2.2.2.2.2.2.1 (by decide) ?_
    exact c_zret hE hm hF dX5_isSign_g0.2.2.2.2.2.2.2.2.2.2.2 (Or.inl rfl) h
  · refine r_aload_n hE 0 dX5_isSign_g0.2.2.2.2.1 rfl rfl ?_
    refine cg_rd_sign hE hm fk_X5_21 dX5_isSign_g0.2.2.2.2.2.1 ?_
    refine r_iload_n hE 1 dX5_isSign_g0.2.2.2.2.2.2.1 rfl rfl ?_
    refine r_icmp_ne hE 20 dX5_isSign_g0.2.2.2.2.2.2.2.1 (by decide) h (fun h => ?_) (fun h => ?_)
    · refine r_iconst (v := (0 : Int32)) hE dX5_isSign_g0.2.2.2.2.2.2.2.2.2.2.1 (by decide) ?_
      exact c_zret hE hm hF dX5_isSign_g0.2.2.2.2.2.2.2.2.2.2.2 (Or.inl rfl) h
    · refine r_iconst (v := (1 : Int32)) hE dX5_isSign_g0.2.2.2.2.2.2.2.2.1 (by decide) ?_
      refine r_goto hE 21 dX5_isSign_g0.2.2.2.2.2.2.2.2.2.1 (by decide) ?_
      exact c_zret hE hm hF dX5_isSign_g0.2.2.2.2.2.2.2.2.2.2.2 (Or.inr rfl) h
/-! rd_misplaced -/
def wc_rd_misplaced (post : CS → Int32 → Prop) (σ : CS) : Prop := ((¬ ((c_rd_kind σ) = (1 : Int32))) → (post σ (2 : Int32))) ∧ (((c_rd_kind σ) = (1 : Int32)) → (post σ (1 : Int32)))
set_option maxRecDepth 20000 in
theorem kc_rd_misplaced {l : Launch} {D : va_G} {G : gAd} {post : CS → Int32 → Prop} {σ : CS} (h : wc_rd_misplaced post σ) : cMet l D G yX5_misplaced cX5_misplaced 1 (some .int) 1 [.ref (G.1 600)] σ (pI post) := by
  unfold wc_rd_misplaced at h
  refine c_enter (own := RX5) (by decide +kernel) rfl [(0, .ref (G.1 600))] rfl (Nat.le_of_ble_eq_true rfl) ?_
  intro E hE hm hF
  have hN := hm.2.2.2.2.2.2.1
  refine r_aload_n hE 0 dX5_misplaced_g0.1 rfl rfl ?_
  refine cg_rd_kind hE hm fk_X5_18 dX5_misplaced_g0.2.1 ?_
  refine r_iconst (v := (1 : Int32)) hE dX5_misplaced_g0.2.2.1 (by decide) ?_
  refine r_icmp_ne hE 12 dX5_misplaced_g0.2.2.2.1 (by decide) h (fun h => ?_) (fun h => ?_)
  · refine r_iconst (v := (2 : Int32)) hE dX5_misplaced_g0.2.2.2.2.2.2.1 (by decide) ?_
    exact c_iret hE hm hF dX5_misplaced_g0.2.2.2.2.2.2.2 h
  · refine r_iconst (v := (1 : Int32)) hE dX5_misplaced_g0.2.2.2.2.1 (by decide) ?_
    refine r_goto hE 13 dX5_misplaced_g0.2.2.2.2.2.1 (by decide) ?_
    exact c_iret hE hm hF dX5_misplaced_g0.2.2.2.2.2.2.2 h
/-! SJ1_canEncode_9a6ad -/
def wc_SJ1_canEncode_9a6ad (post : CS → Int32 → Prop) (σ : CS) (a0 : Int32) : Prop := ((a0 < (0 : Int32)) → (post σ (0 : Int32))) ∧ ((¬ (a0 < (0 : Int32))) → ((((255 : Int32) < a0) → (post σ (0 : Int32))) ∧ ((¬ ((255 : Int32) < a0)) → (post σ (1 : Int32)))))
set_option maxRecDepth 20000 in
theorem kc_SJ1_canEncode_9a6ad {l : Launch} {D : va_G} {G : gAd} {post : CS → Int32 → Prop} {σ : CS} {a0 : Int32} (h : wc_SJ1_canEncode_9a6ad post σ a0) : cMet l D G yJ1_canEncode_9a6ad cJ1_canEncode_9a6ad 1 (some .boolean) 1 [.int a0] σ (pI post) := by
  unfold wc_SJ1_canEncode_9a6ad at h
  refine c_enter (own := RJ1) (by decide +kernel) rfl [(0, .int a0)] rfl (Nat.le_of_ble_eq_true rfl) ?_
  intro E hE hm hF
  have hN := hm.2.2.2.2.2.2.1
  refine r_iload_n hE 0 dJ1_canEncode_9a6ad_g0.1 rfl rfl ?_
  refine r_if_lt hE 15 dJ1_canEncode_9a6ad_g0.2.1 (by decide) h (fun h => ?_) (fun h => ?_)
  · refine r_iconst (v := (0 : Int32)) hE dJ1_canEncode_9a6ad_g0.2.2.2.2.2.2.2.1 (by decide) ?_
    exact c_zret hE hm hF dJ1_canEncode_9a6ad_g0.2.2.2.2.2.2.2.2 (Or.inl rfl) h
  · refine r_iload_n hE 0 dJ1_canEncode_9a6ad_g0.2.2.1 rfl rfl ?_
    refine r_sipush (v := (255 : Int32)) hE dJ1_canEncode_9a6ad_g0.2.2.2.1 (by decide) ?_
    refine r_icmp_gt hE 15 dJ1_canEncode_9a6ad_g0.2.2.2.2.1 (by decide) h (fun h => ?_) (fun h => ?_)
    · refine r_iconst (v := (0 : Int32)) hE dJ1_canEncode_9a6ad_g0.2.2.2.2.2.2.2.1 (by decide) ?_
      exact c_zret hE hm hF dJ1_canEncode_9a6ad_g0.2.2.2.2.2.2.2.2 (Or.inl rfl) h
    · refine r_iconst (v := (1 : Int32)) hE dJ1_canEncode_9a6ad_g0.2.2.2.2.2.1 (by decide) ?_
      refine r_goto hE 16 dJ1_canEncode_9a6ad_g0.2.2.2.2.2.2.1 (by decide) ?_
      exact c_zret hE hm hF dJ1_canEncode_9a6ad_g0.2.2.2.2.2.2.2.2 (Or.inr rfl) h
/-! SJ1_indexOfChar_4cfef_b -/
def wc_SJ1_indexOfChar_4cfef_b_7 (post : CS → Int32 → Prop) : Nat → CS → Nat → Int32 → Int32 → Int32 → Prop
  | 0, _, _, _, _, _ => False
  | n + 1, σ, v0, v3, v4, v5 => ((v3 ≤ v5) → (post σ (-1 : Int32))) ∧ ((¬ (v3 ≤ v5)) → (v0 < 87 ∧ (vp_in v5 (sL v0) ∧ (((¬ ((sB v0 v5.toNatClampNeg) = v4)) → (∀ x1 : Int32, x1 = v5 + (1 : Int32) → wc_SJ1_indexOfChar_4cfef_b_7 post n σ v0 v3 v4 x1)) ∧ (((sB v0 v5.toNatClampNeg) = v4) → (post σ v5))))))
set_option maxRecDepth 20000 in
theorem kc_SJ1_indexOfChar_4cfef_b_7  {E : gEnv} {l : Launch} {D : va_G} {G : gAd} {post : CS → Int32 → Prop} (hE : gOK E cJ1_indexOfChar_4cfef RJ1 (some .int) 1) (hm : cOK E l D G (pI post) 6) (hF : gFin E) : ∀ (n0 : Nat) (σ : CS) (v0 : Nat) (v3 : Int32) (v4 : Int32) (v5 : Int32), wc_SJ1_indexOfChar_4cfef_b_7 post n0 σ v0 v3 v4 v5 → GW E (cW G σ) 7 [(0, .ref (G.1 (6000 + v0))), (3, .int v3), (4, .int v4), (5, .int v5)] [] := by
  intro n0
  induction n0 with
  | zero => intro σ v0 v3 v4 v5 h; exact h.elim
  | succ n0 ih =>
    intro σ v0 v3 v4 v5 h
    rw [wc_SJ1_indexOfChar_4cfef_b_7] at h
    have hN := hm.2.2.2.2.2.2.1
    refine r_iload hE 3 dJ1_indexOfChar_4cfef_g0.2.2.2.2.2.1 rfl ?_
    refine r_iload_n hE 1 dJ1_indexOfChar_4cfef_g0.2.2.2.2.2.2.1 rfl rfl ?_
    refine r_icmp_ge hE 31 dJ1_indexOfChar_4cfef_g0.2.2.2.2.2.2.2.1 (by decide) h (fun h => ?_) (fun h => ?_)
    · refine r_iconst (v := (-1 : Int32)) hE dJ1_indexOfChar_4cfef_g1.2.1 (by decide) ?_
      exact c_iret hE hm hF dJ1_indexOfChar_4cfef_g1.2.2 h
    · refine r_aload_n hE 0 dJ1_indexOfChar_4cfef_g0.2.2.2.2.2.2.2.2.1 rfl rfl ?_
      refine r_iload hE 3 dJ1_indexOfChar_4cfef_g0.2.2.2.2.2.2.2.2.2.1 rfl ?_
      obtain ⟨hx, h⟩ := h
      obtain ⟨hi, h⟩ := h
      refine ks_byte hE hm hx hi dJ1_indexOfChar_4cfef_g0.2.2.2.2.2.2.2.2.2.2.1 ?_
      refine r_iload hE 2 dJ1_indexOfChar_4cfef_g0.2.2.2.2.2.2.2.2.2.2.2.1 rfl ?_
      refine r_icmp_ne hE 25 dJ1_indexOfChar_4cfef_g0.2.2.2.2.2.2.2.2.2.2.2.2.1 (by decide) h (fun h => ?_) (fun h => ?_)
      · obtain ⟨x1, ex1⟩ : ∃ z : Int32, z = v5 + (1 : Int32) := ⟨_, rfl⟩
        have h := h x1 ex1
        refine r_iinc (v := x1) hE [(5, .int x1), (0, .ref (G.1 (6000 + v0))), (3, .int v3), (4, .int v4)] 3 dJ1_indexOfChar_4cfef_g0.2.2.2.2.2.2.2.2.2.2.2.2.2.2.2 rfl (by rw [ex1]; rfl) hN (by decide) rfl ?_
        refine r_goto hE 7 dJ1_indexOfChar_4cfef_g1.1 (by decide) ?_
        refine r_pick [1, 2, 3, 0] rfl ?_
        exact ih _ _ _ _ _ h
      · refine r_iload hE 3 dJ1_indexOfChar_4cfef_g0.2.2.2.2.2.2.2.2.2.2.2.2.2.1 rfl ?_
        exact c_iret hE hm hF dJ1_indexOfChar_4cfef_g0.2.2.2.2.2.2.2.2.2.2.2.2.2.2.1 h
def wc_SJ1_indexOfChar_4cfef_b (post : CS → Int32 → Prop) (σ : CS) (a0 : Nat) (a1 : Int32) (a2 : Int32) (a3 : Int32) : Prop := ∀ x2 : Int32, x2 = a1.toInt8.toInt32 → ∃ k : Nat, wc_SJ1_indexOfChar_4cfef_b_7 post k σ a0 a3 x2 a2
set_option maxRecDepth 20000 in
theorem kc_SJ1_indexOfChar_4cfef_b {l : Launch} {D : va_G} {G : gAd} {post : CS → Int32 → Prop} {σ : CS} {a0 : Nat} {a1 : Int32} {a2 : Int32} {a3 : Int32} (h : wc_SJ1_indexOfChar_4cfef_b post σ a0 a1 a2 a3) : cMet l D G yJ1_indexOfChar_4cfef cJ1_indexOfChar_4cfef 6 (some .int) 1 [.ref (G.1 (6000 + a0)), .int a1, .int a2, .int a3] σ (pI post) := by
  unfold wc_SJ1_indexOfChar_4cfef_b at h
  refine c_enter (own := RJ1) (by decide +kernel) rfl [(0, .ref (G.1 (6000 + a0))), (1, .int a1), (2, .int a2), (3, .int a3)] rfl (Nat.le_of_ble_eq_true rfl) ?_
  intro E hE hm hF
  have hN := hm.2.2.2.2.2.2.1
  refine r_iload_n hE 1 dJ1_indexOfChar_4cfef_g0.1 rfl rfl ?_
  refine r_i2b hE dJ1_indexOfChar_4cfef_g0.2.1 ?_
  refine r_topi h (fun x2 ex2 h => ?_)
  refine r_istore hE [(4, .int x2), (0, .ref (G.1 (6000 + a0))), (1, .int a1), (2, .int a2), (3, .int a3)] dJ1_indexOfChar_4cfef_g0.2.2.1 hN (by decide) rfl ?_
  refine r_iload_n hE 3 dJ1_indexOfChar_4cfef_g0.2.2.2.1 rfl rfl ?_
  refine r_istore hE [(5, .int a2), (4, .int x2), (0, .ref (G.1 (6000 + a0))), (1, .int a1), (2, .int a2), (3, .int a3)] dJ1_indexOfChar_4cfef_g0.2.2.2.2.1 hN (by decide) rfl ?_
  refine r_pick [2, 5, 1, 0] rfl ?_
  obtain ⟨k, h⟩ := h
  exact kc_SJ1_indexOfChar_4cfef_b_7 hE hm hF k _ _ _ _ _ h
/-! SJ1_indexOf_4cfef_b -/
def wc_SJ1_indexOf_4cfef_b (post : CS → Int32 → Prop) (σ : CS) (a0 : Nat) (a1 : Int32) (a2 : Int32) (a3 : Int32) : Prop := wc_SJ1_canEncode_9a6ad (fun (s1 : CS) (r2 : Int32) => ((¬ (r2 = (0 : Int32))) → (∀ x3 : Int32, x3 = (if a2 < (0 : Int32) then (0 : Int32) else a2) → a0 < 87 ∧ (∀ x4 : Int32, x4 = (if (nI (sL a0)) < a3 then (nI (sL a0)) else a3) → ((x3 < x4) → (wc_SJ1_indexOfChar_4cfef_b (fun (s5 : CS) (r6 : Int32) => post s5 r6) s1 a0 a1 x3 x4)) ∧ ((¬ (x3 < x4)) → (post s1 (-1 : Int32)))))) ∧ ((r2 = (0 : Int32)) → (post s1 (-1 : Int32)))) σ a1
set_option maxRecDepth 20000 in
theorem kc_SJ1_indexOf_4cfef_b {l : Launch} {D : va_G} {G : gAd} {post : CS → Int32 → Prop} {σ : CS} {a0 : Nat} {a1 : Int32} {a2 : Int32} {a3 : Int32} (h : wc_SJ1_indexOf_4cfef_b post σ a0 a1 a2 a3) : cMet l D G yJ1_indexOf_4cfef cJ1_indexOf_4cfef 4 (some .int) 2 [.ref (G.1 (6000 + a0)), .int a1, .int a2, .int a3] σ (pI post) := by
  unfold wc_SJ1_indexOf_4cfef_b at h
  refine c_enter (own := RJ1) (by decide +kernel) rfl [(0, .ref (G.1 (6000 + a0))), (1, .int a1), (2, .int a2), (3, .int a3)] rfl (Nat.le_of_ble_eq_true rfl) ?_
  intro E hE hm hF
  have hN := hm.2.2.2.2.2.2.1
  refine r_iload_n hE 1 dJ1_indexOf_4cfef_g0.1 rfl rfl ?_
  refine c_callSi hE hm [.int a1] [] ck_J1_88 (kc_SJ1_canEncode_9a6ad h) (by decide) rfl rfl (Nat.le_of_ble_eq_true rfl) dJ1_indexOf_4cfef_g0.2.1 (fun s1 r2 h => ?_)
  refine r_if_ne hE 9 dJ1_indexOf_4cfef_g0.2.2.1 (by decide) h (fun h => ?_) (fun h => ?_)
  · refine r_iload_n hE 2 dJ1_indexOf_4cfef_g0.2.2.2.2.2.1 rfl rfl ?_
    refine r_iconst (v := (0 : Int32)) hE dJ1_indexOf_4cfef_g0.2.2.2.2.2.2.1 (by decide) ?_
    refine r_mmax hE (gTb_3 (List.mem_of_getElem? (i := 25) rfl) rfl) (gTb_3 (List.mem_of_getElem? (i := 26) rfl) rfl) (gTb_1 (List.mem_of_getElem? (i := 16) rfl) rfl) (gTb_3 (List.mem_of_getElem? (i := 27) rfl) rfl) (by decide) (Nat.le_of_ble_eq_true rfl) dJ1_indexOf_4cfef_g0.2.2.2.2.2.2.2.1 ?_
    refine r_topi h (fun x3 ex3 h => ?_)
    refine r_istore_n hE [(2, .int x3), (0, .ref (G.1 (6000 + a0))), (1, .int a1), (3, .int a3)] dJ1_indexOf_4cfef_g0.2.2.2.2.2.2.2.2.1 rfl hN (by decide) rfl ?_
    refine r_iload_n hE 3 dJ1_indexOf_4cfef_g0.2.2.2.2.2.2.2.2.2.1 rfl rfl ?_
    refine r_aload_n hE 1 dJ1_indexOf_4cfef_g0.2.2.2.2.2.2.2.2.2.2.1 rfl rfl ?_
    obtain ⟨hx, h⟩ := h
    refine ks_len hE hm hx dJ1_indexOf_4cfef_g0.2.2.2.2.2.2.2.2.2.2.2.1 ?_
    refine r_mmin hE (gTb_3 (List.mem_of_getElem? (i := 28) rfl) rfl) (gTb_3 (List.mem_of_getElem? (i := 29) rfl) rfl) (gTb_1 (List.mem_of_getElem? (i := 16) rfl) rfl) (gTb_3 (List.mem_of_getElem? (i := 30) rfl) rfl) (by decide) (Nat.le_of_ble_eq_true rfl) dJ1_indexOf_4cfef_g0.2.2.2.2.2.2.2.2.2.2.2.2.1 ?_
    refine r_topi h (fun x4 ex4 h => ?_)
    refine r_istore_n hE [(3, .int x4), (2, .int x3), (0, .ref (G.1 (6000 + a0))), (1, .int a1)] dJ1_indexOf_4cfef_g0.2.2.2.2.2.2.2.2.2.2.2.2.2.1 rfl hN (by decide) rfl ?_
    refine r_iload_n hE 1 dJ1_indexOf_4cfef_g0.2.2.2.2.2.2.2.2.2.2.2.2.2.2.1 rfl rfl ?_
    refine r_iload_n hE 0 dJ1_indexOf_4cfef_g0.2.2.2.2.2.2.2.2.2.2.2.2.2.2.2 rfl rfl ?_
    refine r_icmp_lt hE 29 dJ1_indexOf_4cfef_g1.1 (by decide) h (fun h => ?_) (fun h => ?_)
    · refine r_aload_n hE 2 dJ1_indexOf_4cfef_g1.2.2.2.1 rfl rfl ?_
      refine r_iload_n hE 3 dJ1_indexOf_4cfef_g1.2.2.2.2.1 rfl rfl ?_
      refine r_iload_n hE 1 dJ1_indexOf_4cfef_g1.2.2.2.2.2.1 rfl rfl ?_
      refine r_iload_n hE 0 dJ1_indexOf_4cfef_g1.2.2.2.2.2.2.1 rfl rfl ?_
      refine c_callSi hE hm [.ref (G.1 (6000 + a0)), .int a1, .int x3, .int x4] [] ck_J1_95 (kc_SJ1_indexOfChar_4cfef_b h) (by decide) rfl rfl (Nat.le_of_ble_eq_true rfl) dJ1_indexOf_4cfef_g1.2.2.2.2.2.2.2.1 (fun s5 r6 h => ?_)
      exact c_iret hE hm hF dJ1_indexOf_4cfef_g1.2.2.2.2.2.2.2.2 h
    · refine r_iconst (v := (-1 : Int32)) hE dJ1_indexOf_4cfef_g1.2.1 (by decide) ?_
      exact c_iret hE hm hF dJ1_indexOf_4cfef_g1.2.2.1 h
  · refine r_iconst (v := (-1 : Int32)) hE dJ1_indexOf_4cfef_g0.2.2.2.1 (by decide) ?_
    exact c_iret hE hm hF dJ1_indexOf_4cfef_g0.2.2.2.2.1 h
/-! sSJ0_indexOf_7cf53 -/
def wc_sSJ0_indexOf_7cf53 (post : CS → Int32 → Prop) (σ : CS) (a0 : Nat) (a1 : Int32) (a2 : Int32) : Prop := a0 < 87 ∧ (wc_sSJ0_isLatin1_aae02 (fun (s1 : CS) (r2 : Int32) => ((r2 = (0 : Int32)) → (a0 < 87 ∧ (a0 < 87 ∧ (wc_sSJ0_length_8abf5 (fun (s3 : CS) (r4 : Int32) => False) s1 a0)))) ∧ ((¬ (r2 = (0 : Int32))) → (a0 < 87 ∧ (a0 < 87 ∧ (wc_sSJ0_length_8abf5 (fun (s5 : CS) (r6 : Int32) => wc_SJ1_indexOf_4cfef_b (fun (s7 : CS) (r8 : Int32) => post s7 r8) s5 a0 a1 a2 r6) s1 a0))))) σ a0)
set_option maxRecDepth 20000 in
theorem kc_sSJ0_indexOf_7cf53 {l : Launch} {D : va_G} {G : gAd} {post : CS → Int32 → Prop} {σ : CS} {a0 : Nat} {a1 : Int32} {a2 : Int32} (h : wc_sSJ0_indexOf_7cf53 post σ a0 a1 a2) : cMet l D G yJ0_indexOf_7cf53 cJ0_indexOf_7cf53 3 (some .int) 3 [.ref (G.1 (5000 + a0)), .int a1, .int a2] σ (pI post) := by
  unfold wc_sSJ0_indexOf_7cf53 at h
  refine c_enter (own := RJ0) (by decide +kernel) rfl [(0, .ref (G.1 (5000 + a0))), (1, .int a1), (2, .int a2)] rfl (Nat.le_of_ble_eq_true rfl) ?_
  intro E hE hm hF
  have hN := hm.2.2.2.2.2.2.1
  refine r_aload_n hE 0 dJ0_indexOf_7cf53_g0.1 rfl rfl ?_
  obtain ⟨hx, h⟩ := h
  refine c_callKi hE hm [] [] ck_J0_492 ((c_z hE hm).2.2.1 _ hx).1 (kc_sSJ0_isLatin1_aae02 h) (by decide) rfl rfl (Nat.le_of_ble_eq_true rfl) dJ0_indexOf_7cf53_g0.2.1 (fun s1 r2 h => ?_)
  refine r_if_eq hE 23 dJ0_indexOf_7cf53_g0.2.2.1 (by decide) h (fun h => ?_) (fun h => ?_)
  · refine r_aload_n hE 0 dJ0_indexOf_7cf53_g0.2.2.2.2.2.2.2.2.2.2.2.1 rfl rfl ?_
    obtain ⟨hx, h⟩ := h
    refine ks_value hE hm hx fk_J0_9 dJ0_indexOf_7cf53_g0.2.2.2.2.2.2.2.2.2.2.2.2.1 ?_
    refine r_iload_n hE 1 dJ0_indexOf_7cf53_g0.2.2.2.2.2.2.2.2.2.2.2.2.2.1 rfl rfl ?_
    refine r_iload_n hE 2 dJ0_indexOf_7cf53_g0.2.2.2.2.2.2.2.2.2.2.2.2.2.2.1 rfl rfl ?_
    refine r_aload_n hE 0 dJ0_indexOf_7cf53_g0.2.2.2.2.2.2.2.2.2.2.2.2.2.2.2 rfl rfl ?_
    obtain ⟨hx, h⟩ := h
    refine c_callKi hE hm [] [.int a2, .int a1, .ref (G.1 (6000 + a0))] ck_J0_505 ((c_z hE hm).2.2.1 _ hx).1 (kc_sSJ0_length_8abf5 h) (by decide) rfl rfl (Nat.le_of_ble_eq_true rfl) dJ0_indexOf_7cf53_g1.1 (fun s3 r4 h => ?_)
    exact h.elim
  · refine r_aload_n hE 0 dJ0_indexOf_7cf53_g0.2.2.2.1 rfl rfl ?_
    obtain ⟨hx, h⟩ := h
    refine ks_value hE hm hx fk_J0_9 dJ0_indexOf_7cf53_g0.2.2.2.2.1 ?_
    refine r_iload_n hE 1 dJ0_indexOf_7cf53_g0.2.2.2.2.2.1 rfl rfl ?_
    refine r_iload_n hE 2 dJ0_indexOf_7cf53_g0.2.2.2.2.2.2.1 rfl rfl ?_
    refine r_aload_n hE 0 dJ0_indexOf_7cf53_g0.2.2.2.2.2.2.2.1 rfl rfl ?_
    obtain ⟨hx, h⟩ := h
    refine c_callKi hE hm [] [.int a2, .int a1, .ref (G.1 (6000 + a0))] ck_J0_505 ((c_z hE hm).2.2.1 _ hx).1 (kc_sSJ0_length_8abf5 h) (by decide) rfl rfl (Nat.le_of_ble_eq_true rfl) dJ0_indexOf_7cf53_g0.2.2.2.2.2.2.2.2.1 (fun s5 r6 h => ?_)
    refine c_callSi hE hm [.ref (G.1 (6000 + a0)), .int a1, .int a2, .int r6] [] ck_J0_637 (kc_SJ1_indexOf_4cfef_b h) (by decide) rfl rfl (Nat.le_of_ble_eq_true rfl) dJ0_indexOf_7cf53_g0.2.2.2.2.2.2.2.2.2.1 (fun s7 r8 h => ?_)
    refine r_goto hE 36 dJ0_indexOf_7cf53_g0.2.2.2.2.2.2.2.2.2.2.1 (by decide) ?_
    exact c_iret hE hm hF dJ0_indexOf_7cf53_g1.2.2 h
/-! sSJ0_indexOf_0f7a4 -/
def wc_sSJ0_indexOf_0f7a4 (post : CS → Int32 → Prop) (σ : CS) (a0 : Nat) (a1 : Int32) : Prop := a0 < 87 ∧ (wc_sSJ0_indexOf_7cf53 (fun (s1 : CS) (r2 : Int32) => post s1 r2) σ a0 a1 (0 : Int32))
set_option maxRecDepth 20000 in
theorem kc_sSJ0_indexOf_0f7a4 {l : Launch} {D : va_G} {G : gAd} {post : CS → Int32 → Prop} {σ : CS} {a0 : Nat} {a1 : Int32} (h : wc_sSJ0_indexOf_0f7a4 post σ a0 a1) : cMet l D G yJ0_indexOf_0f7a4 cJ0_indexOf_0f7a4 2 (some .int) 4 [.ref (G.1 (5000 + a0)), .int a1] σ (pI post) := by
  unfold wc_sSJ0_indexOf_0f7a4 at h
  refine c_enter (own := RJ0) (by decide +kernel) rfl [(0, .ref (G.1 (5000 + a0))), (1, .int a1)] rfl (Nat.le_of_ble_eq_true rfl) ?_
  intro E hE hm hF
  have hN := hm.2.2.2.2.2.2.1
  refine r_aload_n hE 0 dJ0_indexOf_0f7a4_g0.1 rfl rfl ?_
  refine r_iload_n hE 1 dJ0_indexOf_0f7a4_g0.2.1 rfl rfl ?_
  refine r_iconst (v := (0 : Int32)) hE dJ0_indexOf_0f7a4_g0.2.2.1 (by decide) ?_
  obtain ⟨hx, h⟩ := h
  refine c_callKi hE hm [.int a1, .int (0 : Int32)] [] ck_J0_633 ((c_z hE hm).2.2.1 _ hx).1 (kc_sSJ0_indexOf_7cf53 h) (by decide) rfl rfl (Nat.le_of_ble_eq_true rfl) dJ0_indexOf_0f7a4_g0.2.2.2.1 (fun s1 r2 h => ?_)
  exact c_iret hE hm hF dJ0_indexOf_0f7a4_g0.2.2.2.2 h
/-! sp_byteAt -/
def wc_sp_byteAt (post : CS → Int32 → Prop) (σ : CS) (a1 : Int32) : Prop := ((a1 < (0 : Int32)) → (post σ (-1 : Int32))) ∧ ((¬ (a1 < (0 : Int32))) → ((((c_sp_length σ) ≤ a1) → (post σ (-1 : Int32))) ∧ ((¬ ((c_sp_length σ) ≤ a1)) → ((((3000 : Int32) ≤ a1) → (post σ (-1 : Int32))) ∧ ((¬ ((3000 : Int32) ≤ a1)) → (vp_in a1 3000 ∧ (post σ ((c_sp_text σ a1.toNatClampNeg) &&& (255 : Int32)))))))))
set_option maxRecDepth 20000 in
theorem kc_sp_byteAt {l : Launch} {D : va_G} {G : gAd} {post : CS → Int32 → Prop} {σ : CS} {a1 : Int32} (h : wc_sp_byteAt post σ a1) : cMet l D G yX1_byteAt cX1_byteAt 2 (some .int) 1 [.ref (G.1 400), .int a1] σ (pI post) := by
  unfold wc_sp_byteAt at h
  refine c_enter (own := RX1) (by decide +kernel) rfl [(0, .ref (G.1 400)), (1, .int a1)] rfl (Nat.le_of_ble_eq_true rfl) ?_
  intro E hE hm hF
  have hN := hm.2.2.2.2.2.2.1
  refine r_iload_n hE 1 dX1_byteAt_g0.1 rfl rfl ?_
  refine r_if_lt hE 34 dX1_byteAt_g0.2.1 (by decide) h (fun h => ?_) (fun h => ?_)
  · refine r_iconst (v := (-1 : Int32)) hE dX1_byteAt_g1.2.2.1 (by decide) ?_
    exact c_iret hE hm hF dX1_byteAt_g1.2.2.2 h
  · refine r_iload_n hE 1 dX1_byteAt_g0.2.2.1 rfl rfl ?_
    refine r_aload_n hE 0 dX1_byteAt_g0.2.2.2.1 rfl rfl ?_
    refine cg_sp_length hE hm fk_X1_15 dX1_byteAt_g0.2.2.2.2.1 ?_
    refine r_icmp_ge hE 34 dX1_byteAt_g0.2.2.2.2.2.1 (by decide) h (fun h => ?_) (fun h => ?_)
    · refine r_iconst (v := (-1 : Int32)) hE dX1_byteAt_g1.2.2.1 (by decide) ?_
      exact c_iret hE hm hF dX1_byteAt_g1.2.2.2 h
    · refine r_iload_n hE 1 dX1_byteAt_g0.2.2.2.2.2.2.1 rfl rfl ?_
      refine r_aload_n hE 0 dX1_byteAt_g0.2.2.2.2.2.2.2.1 rfl rfl ?_
      refine cg_sp_text hE hm fk_X1_9 dX1_byteAt_g0.2.2.2.2.2.2.2.2.1 ?_
      refine cn_sp_text hE hm dX1_byteAt_g0.2.2.2.2.2.2.2.2.2.1 ?_
      refine r_icmp_ge hE 34 dX1_byteAt_g0.2.2.2.2.2.2.2.2.2.2.1 (by decide) h (fun h => ?_) (fun h => ?_)
      · refine r_iconst (v := (-1 : Int32)) hE dX1_byteAt_g1.2.2.1 (by decide) ?_
        exact c_iret hE hm hF dX1_byteAt_g1.2.2.2 h
      · refine r_aload_n hE 0 dX1_byteAt_g0.2.2.2.2.2.2.2.2.2.2.2.1 rfl rfl ?_
        refine cg_sp_text hE hm fk_X1_9 dX1_byteAt_g0.2.2.2.2.2.2.2.2.2.2.2.2.1 ?_
        refine r_iload_n hE 1 dX1_byteAt_g0.2.2.2.2.2.2.2.2.2.2.2.2.2.1 rfl rfl ?_
        obtain ⟨hi, h⟩ := h
        refine cl_sp_text hE hm dX1_byteAt_g0.2.2.2.2.2.2.2.2.2.2.2.2.2.2.1 hi ?_
        refine r_sipush (v := (255 : Int32)) hE dX1_byteAt_g0.2.2.2.2.2.2.2.2.2.2.2.2.2.2.2 (by decide) ?_
        refine r_iand hE dX1_byteAt_g1.1 ?_
        refine r_goto hE 35 dX1_byteAt_g1.2.1 (by decide) ?_
        exact c_iret hE hm hF dX1_byteAt_g1.2.2.2 h
/-! rd_next -/
def wc_rd_next_289 (post : CS → Prop) (σ : CS) (t1 : Int32) : Prop := ∀ s1 : CS, s1 = c_rd_kind_s σ t1 → post s1
set_option maxRecDepth 20000 in
theorem kc_rd_next_289  {E : gEnv} {l : Launch} {D : va_G} {G : gAd} {post : CS → Prop} (hE : gOK E cX5_next RX5 none 5) (hm : cOK E l D G (pV post) 5) (hF : gFin E) (σ : CS) (t1 : Int32) (h : wc_rd_next_289 post σ t1) : GW E (cW G σ) 289 [] [.int t1, .ref (G.1 600)] := by
  unfold wc_rd_next_289 at h
  have hN := hm.2.2.2.2.2.2.1
  refine cp_rd_kind hE hm fk_X5_18 dX5_next_g9.2.2.2.2.2.2.2.1 h (fun s1 h => ?_)
  exact c_vret hE hm hF dX5_next_g9.2.2.2.2.2.2.2.2 h
def wc_rd_next_288 (post : CS → Prop) (σ : CS) : Prop := wc_rd_next_289 post σ (1 : Int32)
set_option maxRecDepth 20000 in
theorem kc_rd_next_288  {E : gEnv} {l : Launch} {D : va_G} {G : gAd} {post : CS → Prop} (hE : gOK E cX5_next RX5 none 5) (hm : cOK E l D G (pV post) 5) (hF : gFin E) (σ : CS) (h : wc_rd_next_288 post σ) : GW E (cW G σ) 288 [] [.ref (G.1 600)] := by
  unfold wc_rd_next_288 at h
  have hN := hm.2.2.2.2.2.2.1
  refine r_iconst (v := (1 : Int32)) hE dX5_next_g9.2.2.2.2.2.2.1 (by decide) ?_
  exact kc_rd_next_289 hE hm hF _ _ h
def wc_rd_next_258 (post : CS → Prop) (σ : CS) (t1 : Int32) : Prop := ∀ s2 : CS, s2 = c_rd_kind_s σ t1 → post s2
set_option maxRecDepth 20000 in
theorem kc_rd_next_258  {E : gEnv} {l : Launch} {D : va_G} {G : gAd} {post : CS → Prop} (hE : gOK E cX5_next RX5 none 5) (hm : cOK E l D G (pV post) 5) (hF : gFin E) (σ : CS) (t1 : Int32) (h : wc_rd_next_258 post σ t1) : GW E (cW G σ) 258 [] [.int t1, .ref (G.1 600)] := by
  unfold wc_rd_next_258 at h
  have hN := hm.2.2.2.2.2.2.1
  refine cp_rd_kind hE hm fk_X5_18 dX5_next_g8.2.2.2.2.2.2.2.2.1 h (fun s2 h => ?_)
  refine r_goto hE 292 dX5_next_g8.2.2.2.2.2.2.2.2.2.1 (by decide) ?_
  exact c_vret hE hm hF dX5_next_g9.2.2.2.2.2.2.2.2 h
def wc_rd_next_228 (post : CS → Prop) (σ : CS) (t1 : Int32) : Prop := ∀ s3 : CS, s3 = c_rd_kind_s σ t1 → post s3
set_option maxRecDepth 20000 in
theorem kc_rd_next_228  {E : gEnv} {l : Launch} {D : va_G} {G : gAd} {post : CS → Prop} (hE : gOK E cX5_next RX5 none 5) (hm : cOK E l D G (pV post) 5) (hF : gFin E) (σ : CS) (t1 : Int32) (h : wc_rd_next_228 post σ t1) : GW E (cW G σ) 228 [] [.int t1, .ref (G.1 600)] := by
  unfold wc_rd_next_228 at h
  have hN := hm.2.2.2.2.2.2.1
  refine cp_rd_kind hE hm fk_X5_18 dX5_next_g7.2.2.2.2.2.2.2.2.2.1 h (fun s3 h => ?_)
  refine r_goto hE 292 dX5_next_g7.2.2.2.2.2.2.2.2.2.2.1 (by decide) ?_
  exact c_vret hE hm hF dX5_next_g9.2.2.2.2.2.2.2.2 h
def wc_rd_next_186 (post : CS → Prop) (σ : CS) (v2 : Int32) (v3 : Int32) (v4 : Int32) : Prop := ((¬ ((c_rd_end σ) = (c_rd_at σ))) → (((v3 = (0 : Int32)) → (((¬ (v4 = (0 : Int32))) → (wc_rd_next_288 post σ)) ∧ ((v4 = (0 : Int32)) → ((((9 : Int32) < ((c_rd_end σ) - (c_rd_at σ))) → (wc_rd_next_288 post σ)) ∧ ((¬ ((9 : Int32) < ((c_rd_end σ) - (c_rd_at σ)))) → (wc_rd_next_289 post σ (3 : Int32))))))) ∧ ((¬ (v3 = (0 : Int32))) → ((((10 : Int32) < ((c_rd_end σ) - (c_rd_at σ))) → (wc_rd_next_258 post σ (1 : Int32))) ∧ ((¬ ((10 : Int32) < ((c_rd_end σ) - (c_rd_at σ)))) → (wc_rd_next_258 post σ (2 : Int32))))))) ∧ (((c_rd_end σ) = (c_rd_at σ)) → (∀ s4 : CS, s4 = c_rd_end_s σ ((c_rd_at σ) + (1 : Int32)) → ∀ s5 : CS, s5 = c_rd_sign_s s4 v2 → wc_sSJ0_indexOf_0f7a4 (fun (s6 : CS) (r7 : Int32) => ((r7 < (0 : Int32)) → (wc_rd_next_228 post s6 (1 : Int32))) ∧ ((¬ (r7 < (0 : Int32))) → (wc_rd_next_228 post s6 (4 : Int32)))) s5 0 ((v2.toUInt32 % 65536).toInt32)))
set_option maxRecDepth 20000 in
theorem kc_rd_next_186  {E : gEnv} {l : Launch} {D : va_G} {G : gAd} {post : CS → Prop} (hE : gOK E cX5_next RX5 none 5) (hm : cOK E l D G (pV post) 5) (hF : gFin E) (σ : CS) (v2 : Int32) (v3 : Int32) (v4 : Int32) (h : wc_rd_next_186 post σ v2 v3 v4) : GW E (cW G σ) 186 [(0, .ref (G.1 600)), (2, .int v2), (3, .int v3), (4, .int v4)] [] := by
  unfold wc_rd_next_186 at h
  have hN := hm.2.2.2.2.2.2.1
  refine r_aload_n hE 0 dX5_next_g6.2.2.1 rfl rfl ?_
  refine cg_rd_end hE hm fk_X5_15 dX5_next_g6.2.2.2.1 ?_
  refine r_aload_n hE 0 dX5_next_g6.2.2.2.2.1 rfl rfl ?_
  refine cg_rd_at hE hm fk_X5_9 dX5_next_g6.2.2.2.2.2.1 ?_
  refine r_icmp_ne hE 234 dX5_next_g6.2.2.2.2.2.2.1 (by decide) h (fun h => ?_) (fun h => ?_)
  · refine r_iload_n hE 2 dX5_next_g7.2.2.2.2.2.2.2.2.2.2.2.1 rfl rfl ?_
    refine r_if_eq hE 264 dX5_next_g7.2.2.2.2.2.2.2.2.2.2.2.2.1 (by decide) h (fun h => ?_) (fun h => ?_)
    · refine r_aload_n hE 0 dX5_next_g8.2.2.2.2.2.2.2.2.2.2.1 rfl rfl ?_
      refine r_iload hE 3 dX5_next_g8.2.2.2.2.2.2.2.2.2.2.2.1 rfl ?_
      refine r_if_ne hE 288 dX5_next_g8.2.2.2.2.2.2.2.2.2.2.2.2.1 (by decide) h (fun h => ?_) (fun h => ?_)
      · refine r_pick [] rfl ?_
        exact kc_rd_next_288 hE hm hF _ h
      · refine r_aload_n hE 0 dX5_next_g8.2.2.2.2.2.2.2.2.2.2.2.2.2.1 rfl rfl ?_
        refine cg_rd_end hE hm fk_X5_15 dX5_next_g8.2.2.2.2.2.2.2.2.2.2.2.2.2.2.1 ?_
        refine r_aload_n hE 0 dX5_next_g8.2.2.2.2.2.2.2.2.2.2.2.2.2.2.2 rfl rfl ?_
        refine cg_rd_at hE hm fk_X5_9 dX5_next_g9.1 ?_
        refine r_isub hE dX5_next_g9.2.1 ?_
        refine r_bipush (v := (9 : Int32)) hE dX5_next_g9.2.2.1 (by decide) ?_
        refine r_icmp_gt hE 288 dX5_next_g9.2.2.2.1 (by decide) h (fun h => ?_) (fun h => ?_)
        · refine r_pick [] rfl ?_
          exact kc_rd_next_288 hE hm hF _ h
        · refine r_iconst (v := (3 : Int32)) hE dX5_next_g9.2.2.2.2.1 (by decide) ?_
          refine r_goto hE 289 dX5_next_g9.2.2.2.2.2.1 (by decide) ?_
          refine r_pick [] rfl ?_
          exact kc_rd_next_289 hE hm hF _ _ h
    · refine r_aload_n hE 0 dX5_next_g7.2.2.2.2.2.2.2.2.2.2.2.2.2.1 rfl rfl ?_
      refine r_aload_n hE 0 dX5_next_g7.2.2.2.2.2.2.2.2.2.2.2.2.2.2.1 rfl rfl ?_
      refine cg_rd_end hE hm fk_X5_15 dX5_next_g7.2.2.2.2.2.2.2.2.2.2.2.2.2.2.2 ?_
      refine r_aload_n hE 0 dX5_next_g8.1 rfl rfl ?_
      refine cg_rd_at hE hm fk_X5_9 dX5_next_g8.2.1 ?_
      refine r_isub hE dX5_next_g8.2.2.1 ?_
      refine r_bipush (v := (10 : Int32)) hE dX5_next_g8.2.2.2.1 (by decide) ?_
      refine r_icmp_gt hE 257 dX5_next_g8.2.2.2.2.1 (by decide) h (fun h => ?_) (fun h => ?_)
      · refine r_iconst (v := (1 : Int32)) hE dX5_next_g8.2.2.2.2.2.2.2.1 (by decide) ?_
        refine r_pick [] rfl ?_
        exact kc_rd_next_258 hE hm hF _ _ h
      · refine r_iconst (v := (2 : Int32)) hE dX5_next_g8.2.2.2.2.2.1 (by decide) ?_
        refine r_goto hE 258 dX5_next_g8.2.2.2.2.2.2.1 (by decide) ?_
        refine r_pick [] rfl ?_
        exact kc_rd_next_258 hE hm hF _ _ h
  · refine r_aload_n hE 0 dX5_next_g6.2.2.2.2.2.2.2.1 rfl rfl ?_
    refine r_aload_n hE 0 dX5_next_g6.2.2.2.2.2.2.2.2.1 rfl rfl ?_
    refine cg_rd_at hE hm fk_X5_9 dX5_next_g6.2.2.2.2.2.2.2.2.2.1 ?_
    refine r_iconst (v := (1 : Int32)) hE dX5_next_g6.2.2.2.2.2.2.2.2.2.2.1 (by decide) ?_
    refine r_iadd hE dX5_next_g6.2.2.2.2.2.2.2.2.2.2.2.1 ?_
    refine cp_rd_end hE hm fk_X5_15 dX5_next_g6.2.2.2.2.2.2.2.2.2.2.2.2.1 h (fun s4 h => ?_)
    refine r_aload_n hE 0 dX5_next_g6.2.2.2.2.2.2.2.2.2.2.2.2.2.1 rfl rfl ?_
    refine r_iload_n hE 1 dX5_next_g6.2.2.2.2.2.2.2.2.2.2.2.2.2.2.1 rfl rfl ?_
    refine cp_rd_sign hE hm fk_X5_21 dX5_next_g6.2.2.2.2.2.2.2.2.2.2.2.2.2.2.2 h (fun s5 h => ?_)
    refine r_aload_n hE 0 dX5_next_g7.1 rfl rfl ?_
    refine ks_ldc (tx := ";,=<+-*/()[]{}") (i := 0) hE hm (List.mem_of_getElem? (i := 0) rfl) dX5_next_g7.2.1 ?_
    refine r_iload_n hE 1 dX5_next_g7.2.2.1 rfl rfl ?_
    refine r_i2c hE dX5_next_g7.2.2.2.1 ?_
    refine c_callKi hE hm [.int ((v2.toUInt32 % 65536).toInt32)] [.ref (G.1 600)] ck_X5_83 ((c_z hE hm).2.2.1 _ (by decide)).1 (kc_sSJ0_indexOf_0f7a4 h) (by decide) rfl rfl (Nat.le_of_ble_eq_true rfl) dX5_next_g7.2.2.2.2.1 (fun s6 r7 h => ?_)
    refine r_if_lt hE 227 dX5_next_g7.2.2.2.2.2.1 (by decide) h (fun h => ?_) (fun h => ?_)
    · refine r_iconst (v := (1 : Int32)) hE dX5_next_g7.2.2.2.2.2.2.2.2.1 (by decide) ?_
      refine r_pick [] rfl ?_
      exact kc_rd_next_228 hE hm hF _ _ h
    · refine r_iconst (v := (4 : Int32)) hE dX5_next_g7.2.2.2.2.2.2.1 (by decide) ?_
      refine r_goto hE 228 dX5_next_g7.2.2.2.2.2.2.2.1 (by decide) ?_
      refine r_pick [] rfl ?_
      exact kc_rd_next_228 hE hm hF _ _ h
def wc_rd_next_158 (post : CS → Prop) (lp107 : CS → Int32 → Int32 → Int32 → Prop) (σ : CS) (v3 : Int32) (t0 : Int32) (t1 : Int32) : Prop := ∀ x8 : Int32, x8 = t0 ||| t1 → ∀ s9 : CS, s9 = c_rd_end_s σ ((c_rd_end σ) + (1 : Int32)) → c_rd_figure s9 = 400 ∧ (wc_sp_byteAt (fun (s10 : CS) (r11 : Int32) => lp107 s10 r11 v3 x8) s9 (c_rd_end s9))
set_option maxRecDepth 20000 in
theorem kc_rd_next_158  {E : gEnv} {l : Launch} {D : va_G} {G : gAd} {post : CS → Prop} (hE : gOK E cX5_next RX5 none 5) (hm : cOK E l D G (pV post) 5) (hF : gFin E) {lp107 : CS → Int32 → Int32 → Int32 → Prop} (hl107 : ∀ (σ : CS) (v2 : Int32) (v3 : Int32) (v4 : Int32), lp107 σ v2 v3 v4 → GW E (cW G σ) 107 [(0, .ref (G.1 600)), (2, .int v2), (3, .int v3), (4, .int v4)] []) (σ : CS) (v3 : Int32) (t0 : Int32) (t1 : Int32) (h : wc_rd_next_158 post lp107 σ v3 t0 t1) : GW E (cW G σ) 158 [(0, .ref (G.1 600)), (3, .int v3)] [.int t1, .int t0] := by
  unfold wc_rd_next_158 at h
  have hN := hm.2.2.2.2.2.2.1
  refine r_ior hE dX5_next_g5.2.2.2.1 ?_
  refine r_topi h (fun x8 ex8 h => ?_)
  refine r_istore hE [(4, .int x8), (0, .ref (G.1 600)), (3, .int v3)] dX5_next_g5.2.2.2.2.1 hN (by decide) rfl ?_
  refine r_aload_n hE 1 dX5_next_g5.2.2.2.2.2.1 rfl rfl ?_
  refine r_dup hE dX5_next_g5.2.2.2.2.2.2.1 rfl ?_
  refine cg_rd_end hE hm fk_X5_15 dX5_next_g5.2.2.2.2.2.2.2.1 ?_
  refine r_iconst (v := (1 : Int32)) hE dX5_next_g5.2.2.2.2.2.2.2.2.1 (by decide) ?_
  refine r_iadd hE dX5_next_g5.2.2.2.2.2.2.2.2.2.1 ?_
  refine cp_rd_end hE hm fk_X5_15 dX5_next_g5.2.2.2.2.2.2.2.2.2.2.1 h (fun s9 h => ?_)
  refine r_aload_n hE 1 dX5_next_g5.2.2.2.2.2.2.2.2.2.2.2.1 rfl rfl ?_
  obtain ⟨hj, h⟩ := h
  refine cg_rd_figure hE hm fk_X5_36 dX5_next_g5.2.2.2.2.2.2.2.2.2.2.2.2.1 hj ?_
  refine r_aload_n hE 1 dX5_next_g5.2.2.2.2.2.2.2.2.2.2.2.2.2.1 rfl rfl ?_
  refine cg_rd_end hE hm fk_X5_15 dX5_next_g5.2.2.2.2.2.2.2.2.2.2.2.2.2.2.1 ?_
  refine c_callVi hE hm [.int (c_rd_end s9)] [] ck_X5_74 (cr_sp hm rfl) (kc_sp_byteAt h) (by decide) rfl rfl (Nat.le_of_ble_eq_true rfl) dX5_next_g5.2.2.2.2.2.2.2.2.2.2.2.2.2.2.2 (fun s10 r11 h => ?_)
  refine r_istore_n hE [(2, .int r11), (4, .int x8), (0, .ref (G.1 600)), (3, .int v3)] dX5_next_g6.1 rfl hN (by decide) rfl ?_
  refine r_goto hE 107 dX5_next_g6.2.1 (by decide) ?_
  refine r_pick [2, 0, 3, 1] rfl ?_
  exact hl107 _ _ _ _ h
def wc_rd_next_145 (post : CS → Prop) (lp107 : CS → Int32 → Int32 → Int32 → Prop) (σ : CS) (v2 : Int32) (v3 : Int32) (v4 : Int32) : Prop := ((v2 < (97 : Int32)) → (wc_rd_next_158 post lp107 σ v3 v4 (0 : Int32))) ∧ ((¬ (v2 < (97 : Int32))) → (wc_rd_next_158 post lp107 σ v3 v4 (1 : Int32)))
set_option maxRecDepth 20000 in
theorem kc_rd_next_145  {E : gEnv} {l : Launch} {D : va_G} {G : gAd} {post : CS → Prop} (hE : gOK E cX5_next RX5 none 5) (hm : cOK E l D G (pV post) 5) (hF : gFin E) {lp107 : CS → Int32 → Int32 → Int32 → Prop} (hl107 : ∀ (σ : CS) (v2 : Int32) (v3 : Int32) (v4 : Int32), lp107 σ v2 v3 v4 → GW E (cW G σ) 107 [(0, .ref (G.1 600)), (2, .int v2), (3, .int v3), (4, .int v4)] []) (σ : CS) (v2 : Int32) (v3 : Int32) (v4 : Int32) (h : wc_rd_next_145 post lp107 σ v2 v3 v4) : GW E (cW G σ) 145 [(0, .ref (G.1 600)), (2, .int v2), (3, .int v3), (4, .int v4)] [] := by
  unfold wc_rd_next_145 at h
  have hN := hm.2.2.2.2.2.2.1
  refine r_iload hE 3 dX5_next_g4.2.2.2.2.2.2.2.2.2.2.2.2.1 rfl ?_
  refine r_iload_n hE 1 dX5_next_g4.2.2.2.2.2.2.2.2.2.2.2.2.2.1 rfl rfl ?_
  refine r_bipush (v := (97 : Int32)) hE dX5_next_g4.2.2.2.2.2.2.2.2.2.2.2.2.2.2.1 (by decide) ?_
  refine r_icmp_lt hE 157 dX5_next_g4.2.2.2.2.2.2.2.2.2.2.2.2.2.2.2 (by decide) h (fun h => ?_) (fun h => ?_)
  · refine r_iconst (v := (0 : Int32)) hE dX5_next_g5.2.2.1 (by decide) ?_
    refine r_pick [0, 2] rfl ?_
    exact kc_rd_next_158 hE hm hF hl107 _ _ _ _ h
  · refine r_iconst (v := (1 : Int32)) hE dX5_next_g5.1 (by decide) ?_
    refine r_goto hE 158 dX5_next_g5.2.1 (by decide) ?_
    refine r_pick [0, 2] rfl ?_
    exact kc_rd_next_158 hE hm hF hl107 _ _ _ _ h
def wc_rd_next_133 (post : CS → Prop) (lp107 : CS → Int32 → Int32 → Int32 → Prop) (σ : CS) (v2 : Int32) (v3 : Int32) (v4 : Int32) : Prop := ((v2 < (48 : Int32)) → (wc_rd_next_186 post σ v2 v3 v4)) ∧ ((¬ (v2 < (48 : Int32))) → ((((57 : Int32) < v2) → (wc_rd_next_186 post σ v2 v3 v4)) ∧ ((¬ ((57 : Int32) < v2)) → (wc_rd_next_145 post lp107 σ v2 v3 v4))))
set_option maxRecDepth 20000 in
theorem kc_rd_next_133  {E : gEnv} {l : Launch} {D : va_G} {G : gAd} {post : CS → Prop} (hE : gOK E cX5_next RX5 none 5) (hm : cOK E l D G (pV post) 5) (hF : gFin E) {lp107 : CS → Int32 → Int32 → Int32 → Prop} (hl107 : ∀ (σ : CS) (v2 : Int32) (v3 : Int32) (v4 : Int32), lp107 σ v2 v3 v4 → GW E (cW G σ) 107 [(0, .ref (G.1 600)), (2, .int v2), (3, .int v3), (4, .int v4)] []) (σ : CS) (v2 : Int32) (v3 : Int32) (v4 : Int32) (h : wc_rd_next_133 post lp107 σ v2 v3 v4) : GW E (cW G σ) 133 [(0, .ref (G.1 600)), (2, .int v2), (3, .int v3), (4, .int v4)] [] := by
  unfold wc_rd_next_133 at h
  have hN := hm.2.2.2.2.2.2.1
  refine r_iload_n hE 1 dX5_next_g4.2.2.2.2.2.2.1 rfl rfl ?_
  refine r_bipush (v := (48 : Int32)) hE dX5_next_g4.2.2.2.2.2.2.2.1 (by decide) ?_
  refine r_icmp_lt hE 186 dX5_next_g4.2.2.2.2.2.2.2.2.1 (by decide) h (fun h => ?_) (fun h => ?_)
  · exact kc_rd_next_186 hE hm hF _ _ _ _ h
  · refine r_iload_n hE 1 dX5_next_g4.2.2.2.2.2.2.2.2.2.1 rfl rfl ?_
    refine r_bipush (v := (57 : Int32)) hE dX5_next_g4.2.2.2.2.2.2.2.2.2.2.1 (by decide) ?_
    refine r_icmp_gt hE 186 dX5_next_g4.2.2.2.2.2.2.2.2.2.2.2.1 (by decide) h (fun h => ?_) (fun h => ?_)
    · exact kc_rd_next_186 hE hm hF _ _ _ _ h
    · exact kc_rd_next_145 hE hm hF hl107 _ _ _ _ h
def wc_rd_next_107 (post : CS → Prop) : Nat → CS → Int32 → Int32 → Int32 → Prop
  | 0, _, _, _, _ => False
  | n + 1, σ, v2, v3, v4 => c_rd_figure σ = 400 ∧ ((((c_sp_length σ) ≤ (c_rd_end σ)) → (wc_rd_next_186 post σ v2 v3 v4)) ∧ ((¬ ((c_sp_length σ) ≤ (c_rd_end σ))) → (((v2 < (97 : Int32)) → (wc_rd_next_133 post (fun (ys : CS) (y0 : Int32) (y1 : Int32) (y2 : Int32) => wc_rd_next_107 post n ys y0 y1 y2) σ v2 v3 v4)) ∧ ((¬ (v2 < (97 : Int32))) → (((v2 ≤ (122 : Int32)) → (wc_rd_next_145 post (fun (ys : CS) (y0 : Int32) (y1 : Int32) (y2 : Int32) => wc_rd_next_107 post n ys y0 y1 y2) σ v2 v3 v4)) ∧ ((¬ (v2 ≤ (122 : Int32))) → (wc_rd_next_133 post (fun (ys : CS) (y0 : Int32) (y1 : Int32) (y2 : Int32) => wc_rd_next_107 post n ys y0 y1 y2) σ v2 v3 v4)))))))
set_option maxRecDepth 20000 in
theorem kc_rd_next_107  {E : gEnv} {l : Launch} {D : va_G} {G : gAd} {post : CS → Prop} (hE : gOK E cX5_next RX5 none 5) (hm : cOK E l D G (pV post) 5) (hF : gFin E) : ∀ (n0 : Nat) (σ : CS) (v2 : Int32) (v3 : Int32) (v4 : Int32), wc_rd_next_107 post n0 σ v2 v3 v4 → GW E (cW G σ) 107 [(0, .ref (G.1 600)), (2, .int v2), (3, .int v3), (4, .int v4)] [] := by
  intro n0
  induction n0 with
  | zero => intro σ v2 v3 v4 h; exact h.elim
  | succ n0 ih =>
    intro σ v2 v3 v4 h
    rw [wc_rd_next_107] at h
    have hN := hm.2.2.2.2.2.2.1
    refine r_aload_n hE 0 dX5_next_g3.2.2.2.2.2.2.2.2.2.2.1 rfl rfl ?_
    refine cg_rd_end hE hm fk_X5_15 dX5_next_g3.2.2.2.2.2.2.2.2.2.2.2.1 ?_
    refine r_aload_n hE 0 dX5_next_g3.2.2.2.2.2.2.2.2.2.2.2.2.1 rfl rfl ?_
    obtain ⟨hj, h⟩ := h
    refine cg_rd_figure hE hm fk_X5_36 dX5_next_g3.2.2.2.2.2.2.2.2.2.2.2.2.2.1 hj ?_
    refine cg_sp_length hE hm fk_X5_78 dX5_next_g3.2.2.2.2.2.2.2.2.2.2.2.2.2.2.1 ?_
    refine r_icmp_ge hE 186 dX5_next_g3.2.2.2.2.2.2.2.2.2.2.2.2.2.2.2 (by decide) h (fun h => ?_) (fun h => ?_)
    · exact kc_rd_next_186 hE hm hF _ _ _ _ h
    · refine r_iload_n hE 1 dX5_next_g4.1 rfl rfl ?_
      refine r_bipush (v := (97 : Int32)) hE dX5_next_g4.2.1 (by decide) ?_
      refine r_icmp_lt hE 133 dX5_next_g4.2.2.1 (by decide) h (fun h => ?_) (fun h => ?_)
      · exact kc_rd_next_133 hE hm hF ih _ _ _ _ h
      · refine r_iload_n hE 1 dX5_next_g4.2.2.2.1 rfl rfl ?_
        refine r_bipush (v := (122 : Int32)) hE dX5_next_g4.2.2.2.2.1 (by decide) ?_
        refine r_icmp_le hE 145 dX5_next_g4.2.2.2.2.2.1 (by decide) h (fun h => ?_) (fun h => ?_)
        · exact kc_rd_next_145 hE hm hF ih _ _ _ _ h
        · exact kc_rd_next_133 hE hm hF ih _ _ _ _ h
def wc_rd_next_103 (post : CS → Prop) (σ : CS) (v2 : Int32) (t0 : Int32) : Prop := ∃ k : Nat, wc_rd_next_107 post k σ v2 t0 (0 : Int32)
set_option maxRecDepth 20000 in
theorem kc_rd_next_103  {E : gEnv} {l : Launch} {D : va_G} {G : gAd} {post : CS → Prop} (hE : gOK E cX5_next RX5 none 5) (hm : cOK E l D G (pV post) 5) (hF : gFin E) (σ : CS) (v2 : Int32) (t0 : Int32) (h : wc_rd_next_103 post σ v2 t0) : GW E (cW G σ) 103 [(0, .ref (G.1 600)), (2, .int v2)] [.int t0] := by
  unfold wc_rd_next_103 at h
  have hN := hm.2.2.2.2.2.2.1
  refine r_istore_n hE [(3, .int t0), (0, .ref (G.1 600)), (2, .int v2)] dX5_next_g3.2.2.2.2.2.2.2.1 rfl hN (by decide) rfl ?_
  refine r_iconst (v := (0 : Int32)) hE dX5_next_g3.2.2.2.2.2.2.2.2.1 (by decide) ?_
  refine r_istore hE [(4, .int (0 : Int32)), (3, .int t0), (0, .ref (G.1 600)), (2, .int v2)] dX5_next_g3.2.2.2.2.2.2.2.2.2.1 hN (by decide) rfl ?_
  refine r_pick [2, 3, 1, 0] rfl ?_
  obtain ⟨k, h⟩ := h
  exact kc_rd_next_107 hE hm hF k _ _ _ _ h
def wc_rd_next_102 (post : CS → Prop) (σ : CS) (v2 : Int32) : Prop := wc_rd_next_103 post σ v2 (0 : Int32)
set_option maxRecDepth 20000 in
theorem kc_rd_next_102  {E : gEnv} {l : Launch} {D : va_G} {G : gAd} {post : CS → Prop} (hE : gOK E cX5_next RX5 none 5) (hm : cOK E l D G (pV post) 5) (hF : gFin E) (σ : CS) (v2 : Int32) (h : wc_rd_next_102 post σ v2) : GW E (cW G σ) 102 [(0, .ref (G.1 600)), (2, .int v2)] [] := by
  unfold wc_rd_next_102 at h
  have hN := hm.2.2.2.2.2.2.1
  refine r_iconst (v := (0 : Int32)) hE dX5_next_g3.2.2.2.2.2.2.1 (by decide) ?_
  exact kc_rd_next_103 hE hm hF _ _ _ h
def wc_rd_next_60 (post : CS → Prop) (σ : CS) (v1 : Int32) (v2 : Int32) : Prop := ∀ s12 : CS, s12 = c_rd_at_s σ v1 → ∀ s13 : CS, s13 = c_rd_end_s s12 v1 → ∀ s14 : CS, s14 = c_rd_sign_s s13 (-1 : Int32) → ((¬ (v2 = (-1 : Int32))) → (((v2 < (97 : Int32)) → (wc_rd_next_102 post s14 v2)) ∧ ((¬ (v2 < (97 : Int32))) → ((((122 : Int32) < v2) → (wc_rd_next_102 post s14 v2)) ∧ ((¬ ((122 : Int32) < v2)) → (wc_rd_next_103 post s14 v2 (1 : Int32))))))) ∧ ((v2 = (-1 : Int32)) → (∀ s15 : CS, s15 = c_rd_kind_s s14 (0 : Int32) → post s15))
set_option maxRecDepth 20000 in
theorem kc_rd_next_60  {E : gEnv} {l : Launch} {D : va_G} {G : gAd} {post : CS → Prop} (hE : gOK E cX5_next RX5 none 5) (hm : cOK E l D G (pV post) 5) (hF : gFin E) (σ : CS) (v1 : Int32) (v2 : Int32) (h : wc_rd_next_60 post σ v1 v2) : GW E (cW G σ) 60 [(0, .ref (G.1 600)), (1, .int v1), (2, .int v2)] [] := by
  unfold wc_rd_next_60 at h
  have hN := hm.2.2.2.2.2.2.1
  refine r_aload_n hE 0 dX5_next_g1.2.2.2.2.2.2.2.2.2.2.2.2.2.2.1 rfl rfl ?_
  refine r_iload_n hE 1 dX5_next_g1.2.2.2.2.2.2.2.2.2.2.2.2.2.2.2 rfl rfl ?_
  refine cp_rd_at hE hm fk_X5_9 dX5_next_g2.1 h (fun s12 h => ?_)
  refine r_aload_n hE 0 dX5_next_g2.2.1 rfl rfl ?_
  refine r_iload_n hE 1 dX5_next_g2.2.2.1 rfl rfl ?_
  refine cp_rd_end hE hm fk_X5_15 dX5_next_g2.2.2.2.1 h (fun s13 h => ?_)
  refine r_aload_n hE 0 dX5_next_g2.2.2.2.2.1 rfl rfl ?_
  refine r_iconst (v := (-1 : Int32)) hE dX5_next_g2.2.2.2.2.2.1 (by decide) ?_
  refine cp_rd_sign hE hm fk_X5_21 dX5_next_g2.2.2.2.2.2.2.1 h (fun s14 h => ?_)
  refine r_iload_n hE 2 dX5_next_g2.2.2.2.2.2.2.2.1 rfl rfl ?_
  refine r_iconst (v := (-1 : Int32)) hE dX5_next_g2.2.2.2.2.2.2.2.2.1 (by decide) ?_
  refine r_icmp_ne hE 86 dX5_next_g2.2.2.2.2.2.2.2.2.2.1 (by decide) h (fun h => ?_) (fun h => ?_)
  · refine r_iload_n hE 2 dX5_next_g2.2.2.2.2.2.2.2.2.2.2.2.2.2.2.1 rfl rfl ?_
    refine r_bipush (v := (97 : Int32)) hE dX5_next_g2.2.2.2.2.2.2.2.2.2.2.2.2.2.2.2 (by decide) ?_
    refine r_icmp_lt hE 102 dX5_next_g3.1 (by decide) h (fun h => ?_) (fun h => ?_)
    · refine r_pick [0, 2] rfl ?_
      exact kc_rd_next_102 hE hm hF _ _ h
    · refine r_iload_n hE 2 dX5_next_g3.2.1 rfl rfl ?_
      refine r_bipush (v := (122 : Int32)) hE dX5_next_g3.2.2.1 (by decide) ?_
      refine r_icmp_gt hE 102 dX5_next_g3.2.2.2.1 (by decide) h (fun h => ?_) (fun h => ?_)
      · refine r_pick [0, 2] rfl ?_
        exact kc_rd_next_102 hE hm hF _ _ h
      · refine r_iconst (v := (1 : Int32)) hE dX5_next_g3.2.2.2.2.1 (by decide) ?_
        refine r_goto hE 103 dX5_next_g3.2.2.2.2.2.1 (by decide) ?_
        refine r_pick [0, 2] rfl ?_
        exact kc_rd_next_103 hE hm hF _ _ _ h
  · refine r_aload_n hE 0 dX5_next_g2.2.2.2.2.2.2.2.2.2.2.1 rfl rfl ?_
    refine r_iconst (v := (0 : Int32)) hE dX5_next_g2.2.2.2.2.2.2.2.2.2.2.2.1 (by decide) ?_
    refine cp_rd_kind hE hm fk_X5_18 dX5_next_g2.2.2.2.2.2.2.2.2.2.2.2.2.1 h (fun s15 h => ?_)
    exact c_vret hE hm hF dX5_next_g2.2.2.2.2.2.2.2.2.2.2.2.2.2.1 h
def wc_rd_next_45 (post : CS → Prop) (lp22 : CS → Int32 → Int32 → Prop) (σ : CS) (v1 : Int32) : Prop := ∀ x16 : Int32, x16 = v1 + (1 : Int32) → c_rd_figure σ = 400 ∧ (wc_sp_byteAt (fun (s17 : CS) (r18 : Int32) => lp22 s17 x16 r18) σ x16)
set_option maxRecDepth 20000 in
theorem kc_rd_next_45  {E : gEnv} {l : Launch} {D : va_G} {G : gAd} {post : CS → Prop} (hE : gOK E cX5_next RX5 none 5) (hm : cOK E l D G (pV post) 5) (hF : gFin E) {lp22 : CS → Int32 → Int32 → Prop} (hl22 : ∀ (σ : CS) (v1 : Int32) (v2 : Int32), lp22 σ v1 v2 → GW E (cW G σ) 22 [(0, .ref (G.1 600)), (1, .int v1), (2, .int v2)] []) (σ : CS) (v1 : Int32) (h : wc_rd_next_45 post lp22 σ v1) : GW E (cW G σ) 45 [(0, .ref (G.1 600)), (1, .int v1)] [] := by
  unfold wc_rd_next_45 at h
  have hN := hm.2.2.2.2.2.2.1
  obtain ⟨x16, ex16⟩ : ∃ z : Int32, z = v1 + (1 : Int32) := ⟨_, rfl⟩
  have h := h x16 ex16
  refine r_iinc (v := x16) hE [(1, .int x16), (0, .ref (G.1 600))] 1 dX5_next_g1.2.2.2.2.2.2.2.1 rfl (by rw [ex16]; rfl) hN (by decide) rfl ?_
  refine r_aload_n hE 1 dX5_next_g1.2.2.2.2.2.2.2.2.1 rfl rfl ?_
  obtain ⟨hj, h⟩ := h
  refine cg_rd_figure hE hm fk_X5_36 dX5_next_g1.2.2.2.2.2.2.2.2.2.1 hj ?_
  refine r_iload_n hE 0 dX5_next_g1.2.2.2.2.2.2.2.2.2.2.1 rfl rfl ?_
  refine c_callVi hE hm [.int x16] [] ck_X5_74 (cr_sp hm rfl) (kc_sp_byteAt h) (by decide) rfl rfl (Nat.le_of_ble_eq_true rfl) dX5_next_g1.2.2.2.2.2.2.2.2.2.2.2.1 (fun s17 r18 h => ?_)
  refine r_istore_n hE [(2, .int r18), (1, .int x16), (0, .ref (G.1 600))] dX5_next_g1.2.2.2.2.2.2.2.2.2.2.2.2.1 rfl hN (by decide) rfl ?_
  refine r_goto hE 22 dX5_next_g1.2.2.2.2.2.2.2.2.2.2.2.2.2.1 (by decide) ?_
  refine r_pick [2, 1, 0] rfl ?_
  exact hl22 _ _ _ h
def wc_rd_next_22 (post : CS → Prop) : Nat → CS → Int32 → Int32 → Prop
  | 0, _, _, _ => False
  | n + 1, σ, v1, v2 => c_rd_figure σ = 400 ∧ ((((c_sp_length σ) ≤ v1) → (wc_rd_next_60 post σ v1 v2)) ∧ ((¬ ((c_sp_length σ) ≤ v1)) → (((v2 = (10 : Int32)) → (wc_rd_next_45 post (fun (ys : CS) (y0 : Int32) (y1 : Int32) => wc_rd_next_22 post n ys y0 y1) σ v1)) ∧ ((¬ (v2 = (10 : Int32))) → (((¬ (v2 = (32 : Int32))) → (wc_rd_next_60 post σ v1 v2)) ∧ ((v2 = (32 : Int32)) → (wc_rd_next_45 post (fun (ys : CS) (y0 : Int32) (y1 : Int32) => wc_rd_next_22 post n ys y0 y1) σ v1)))))))
set_option maxRecDepth 20000 in
theorem kc_rd_next_22  {E : gEnv} {l : Launch} {D : va_G} {G : gAd} {post : CS → Prop} (hE : gOK E cX5_next RX5 none 5) (hm : cOK E l D G (pV post) 5) (hF : gFin E) : ∀ (n0 : Nat) (σ : CS) (v1 : Int32) (v2 : Int32), wc_rd_next_22 post n0 σ v1 v2 → GW E (cW G σ) 22 [(0, .ref (G.1 600)), (1, .int v1), (2, .int v2)] [] := by
  intro n0
  induction n0 with
  | zero => intro σ v1 v2 h; exact h.elim
  | succ n0 ih =>
    intro σ v1 v2 h
    rw [wc_rd_next_22] at h
    have hN := hm.2.2.2.2.2.2.1
    refine r_iload_n hE 1 dX5_next_g0.2.2.2.2.2.2.2.2.2.2.2.2.1 rfl rfl ?_
    refine r_aload_n hE 0 dX5_next_g0.2.2.2.2.2.2.2.2.2.2.2.2.2.1 rfl rfl ?_
    obtain ⟨hj, h⟩ := h
    refine cg_rd_figure hE hm fk_X5_36 dX5_next_g0.2.2.2.2.2.2.2.2.2.2.2.2.2.2.1 hj ?_
    refine cg_sp_length hE hm fk_X5_78 dX5_next_g0.2.2.2.2.2.2.2.2.2.2.2.2.2.2.2 ?_
    refine r_icmp_ge hE 60 dX5_next_g1.1 (by decide) h (fun h => ?_) (fun h => ?_)
    · exact kc_rd_next_60 hE hm hF _ _ _ h
    · refine r_iload_n hE 2 dX5_next_g1.2.1 rfl rfl ?_
      refine r_bipush (v := (10 : Int32)) hE dX5_next_g1.2.2.1 (by decide) ?_
      refine r_icmp_eq hE 45 dX5_next_g1.2.2.2.1 (by decide) h (fun h => ?_) (fun h => ?_)
      · refine r_pick [0, 1] rfl ?_
        exact kc_rd_next_45 hE hm hF ih _ _ h
      · refine r_iload_n hE 2 dX5_next_g1.2.2.2.2.1 rfl rfl ?_
        refine r_bipush (v := (32 : Int32)) hE dX5_next_g1.2.2.2.2.2.1 (by decide) ?_
        refine r_icmp_ne hE 60 dX5_next_g1.2.2.2.2.2.2.1 (by decide) h (fun h => ?_) (fun h => ?_)
        · exact kc_rd_next_60 hE hm hF _ _ _ h
        · refine r_pick [0, 1] rfl ?_
          exact kc_rd_next_45 hE hm hF ih _ _ h
def wc_rd_next (post : CS → Prop) (σ : CS) : Prop := (((c_rd_fault σ) = (0 : Int32)) → (∀ x19 : Int32, x19 = c_rd_end σ → c_rd_figure σ = 400 ∧ (wc_sp_byteAt (fun (s20 : CS) (r21 : Int32) => ∃ k : Nat, wc_rd_next_22 post k s20 x19 r21) σ x19))) ∧ ((¬ ((c_rd_fault σ) = (0 : Int32))) → (post σ))
set_option maxRecDepth 20000 in
theorem kc_rd_next {l : Launch} {D : va_G} {G : gAd} {post : CS → Prop} {σ : CS} (h : wc_rd_next post σ) : cMet l D G yX5_next cX5_next 5 none 5 [.ref (G.1 600)] σ (pV post) := by
  unfold wc_rd_next at h
  refine c_enter (own := RX5) (by decide +kernel) rfl [(0, .ref (G.1 600))] rfl (Nat.le_of_ble_eq_true rfl) ?_
  intro E hE hm hF
  have hN := hm.2.2.2.2.2.2.1
  refine r_aload_n hE 0 dX5_next_g0.1 rfl rfl ?_
  refine cg_rd_fault hE hm fk_X5_30 dX5_next_g0.2.1 ?_
  refine r_if_eq hE 8 dX5_next_g0.2.2.1 (by decide) h (fun h => ?_) (fun h => ?_)
  · refine r_aload_n hE 0 dX5_next_g0.2.2.2.2.1 rfl rfl ?_
    refine cg_rd_end hE hm fk_X5_15 dX5_next_g0.2.2.2.2.2.1 ?_
    refine r_topi h (fun x19 ex19 h => ?_)
    refine r_istore_n hE [(1, .int x19), (0, .ref (G.1 600))] dX5_next_g0.2.2.2.2.2.2.1 rfl hN (by decide) rfl ?_
    refine r_aload_n hE 1 dX5_next_g0.2.2.2.2.2.2.2.1 rfl rfl ?_
    obtain ⟨hj, h⟩ := h
    refine cg_rd_figure hE hm fk_X5_36 dX5_next_g0.2.2.2.2.2.2.2.2.1 hj ?_
    refine r_iload_n hE 0 dX5_next_g0.2.2.2.2.2.2.2.2.2.1 rfl rfl ?_
    refine c_callVi hE hm [.int x19] [] ck_X5_74 (cr_sp hm rfl) (kc_sp_byteAt h) (by decide) rfl rfl (Nat.le_of_ble_eq_true rfl) dX5_next_g0.2.2.2.2.2.2.2.2.2.2.1 (fun s20 r21 h => ?_)
    refine r_istore_n hE [(2, .int r21), (1, .int x19), (0, .ref (G.1 600))] dX5_next_g0.2.2.2.2.2.2.2.2.2.2.2.1 rfl hN (by decide) rfl ?_
    refine r_pick [2, 1, 0] rfl ?_
    obtain ⟨k, h⟩ := h
    exact kc_rd_next_22 hE hm hF k _ _ _ h
  · exact c_vret hE hm hF dX5_next_g0.2.2.2.1 h
/-! rd_noteFault -/
def wc_rd_noteFault (post : CS → Prop) (σ : CS) (a1 : Int32) (a2 : Int32) : Prop := ((¬ ((c_rd_fault σ) = (0 : Int32))) → (post σ)) ∧ (((c_rd_fault σ) = (0 : Int32)) → (∀ s1 : CS, s1 = c_rd_fault_s σ a1 → ∀ s2 : CS, s2 = c_rd_faultAt_s s1 a2 → ∀ s3 : CS, s3 = c_rd_kind_s s2 (0 : Int32) → post s3))
set_option maxRecDepth 20000 in
theorem kc_rd_noteFault {l : Launch} {D : va_G} {G : gAd} {post : CS → Prop} {σ : CS} {a1 : Int32} {a2 : Int32} (h : wc_rd_noteFault post σ a1 a2) : cMet l D G yX5_noteFault cX5_noteFault 3 none 1 [.ref (G.1 600), .int a1, .int a2] σ (pV post) := by
  unfold wc_rd_noteFault at h
  refine c_enter (own := RX5) (by decide +kernel) rfl [(0, .ref (G.1 600)), (1, .int a1), (2, .int a2)] rfl (Nat.le_of_ble_eq_true rfl) ?_
  intro E hE hm hF
  have hN := hm.2.2.2.2.2.2.1
  refine r_aload_n hE 0 dX5_noteFault_g0.1 rfl rfl ?_
  refine cg_rd_fault hE hm fk_X5_30 dX5_noteFault_g0.2.1 ?_
  refine r_if_ne hE 22 dX5_noteFault_g0.2.2.1 (by decide) h (fun h => ?_) (fun h => ?_)
  · exact c_vret hE hm hF dX5_noteFault_g0.2.2.2.2.2.2.2.2.2.2.2.2 h
  · refine r_aload_n hE 0 dX5_noteFault_g0.2.2.2.1 rfl rfl ?_
    refine r_iload_n hE 1 dX5_noteFault_g0.2.2.2.2.1 rfl rfl ?_
    refine cp_rd_fault hE hm fk_X5_30 dX5_noteFault_g0.2.2.2.2.2.1 h (fun s1 h => ?_)
    refine r_aload_n hE 0 dX5_noteFault_g0.2.2.2.2.2.2.1 rfl rfl ?_
    refine r_iload_n hE 2 dX5_noteFault_g0.2.2.2.2.2.2.2.1 rfl rfl ?_
    refine cp_rd_faultAt hE hm fk_X5_33 dX5_noteFault_g0.2.2.2.2.2.2.2.2.1 h (fun s2 h => ?_)
    refine r_aload_n hE 0 dX5_noteFault_g0.2.2.2.2.2.2.2.2.2.1 rfl rfl ?_
    refine r_iconst (v := (0 : Int32)) hE dX5_noteFault_g0.2.2.2.2.2.2.2.2.2.2.1 (by decide) ?_
    refine cp_rd_kind hE hm fk_X5_18 dX5_noteFault_g0.2.2.2.2.2.2.2.2.2.2.2.1 h (fun s3 h => ?_)
    exact c_vret hE hm hF dX5_noteFault_g0.2.2.2.2.2.2.2.2.2.2.2.2 h
/-! rd_close -/
def wc_rd_close (post : CS → Prop) (σ : CS) (a1 : Int32) : Prop := wc_rd_isSign (fun (s1 : CS) (r2 : Int32) => ((r2 = (0 : Int32)) → (wc_rd_misplaced (fun (s3 : CS) (r4 : Int32) => wc_rd_noteFault (fun (s5 : CS) => post s5) s3 r4 (c_rd_at s3)) s1)) ∧ ((¬ (r2 = (0 : Int32))) → (∀ s6 : CS, s6 = c_rd_depth_s s1 ((c_rd_depth s1) - (1 : Int32)) → wc_rd_next (fun (s7 : CS) => post s7) s6))) σ a1
set_option maxRecDepth 20000 in
theorem kc_rd_close {l : Launch} {D : va_G} {G : gAd} {post : CS → Prop} {σ : CS} {a1 : Int32} (h : wc_rd_close post σ a1) : cMet l D G yX5_close cX5_close 2 none 6 [.ref (G.1 600), .int a1] σ (pV post) := by
  unfold wc_rd_close at h
  refine c_enter (own := RX5) (by decide +kernel) rfl [(0, .ref (G.1 600)), (1, .int a1)] rfl (Nat.le_of_ble_eq_true rfl) ?_
  intro E hE hm hF
  have hN := hm.2.2.2.2.2.2.1
  refine r_aload_n hE 0 dX5_close_g0.1 rfl rfl ?_
  refine r_iload_n hE 1 dX5_close_g0.2.1 rfl rfl ?_
  refine c_callVi hE hm [.int a1] [] ck_X5_88 (cr_rd hm rfl) (kc_rd_isSign h) (by decide) rfl rfl (Nat.le_of_ble_eq_true rfl) dX5_close_g0.2.2.1 (fun s1 r2 h => ?_)
  refine r_if_eq hE 25 dX5_close_g0.2.2.2.1 (by decide) h (fun h => ?_) (fun h => ?_)
  · refine r_aload_n hE 0 dX5_close_g0.2.2.2.2.2.2.2.2.2.2.2.2.2.1 rfl rfl ?_
    refine r_aload_n hE 0 dX5_close_g0.2.2.2.2.2.2.2.2.2.2.2.2.2.2.1 rfl rfl ?_
    refine c_callVi hE hm [] [.ref (G.1 600)] ck_X5_68 (cr_rd hm rfl) (kc_rd_misplaced h) (by decide) rfl rfl (Nat.le_of_ble_eq_true rfl) dX5_close_g0.2.2.2.2.2.2.2.2.2.2.2.2.2.2.2 (fun s3 r4 h => ?_)
    refine r_aload_n hE 0 dX5_close_g1.1 rfl rfl ?_
    refine cg_rd_at hE hm fk_X5_9 dX5_close_g1.2.1 ?_
    refine c_callVv hE hm [.int r4, .int (c_rd_at s3)] [] ck_X5_71 (cr_rd hm rfl) (kc_rd_noteFault h) (by decide) rfl rfl (Nat.le_of_ble_eq_true rfl) dX5_close_g1.2.2.1 (fun s5 h => ?_)
    exact c_vret hE hm hF dX5_close_g1.2.2.2 h
  · refine r_aload_n hE 0 dX5_close_g0.2.2.2.2.1 rfl rfl ?_
    refine r_dup hE dX5_close_g0.2.2.2.2.2.1 rfl ?_
    refine cg_rd_depth hE hm fk_X5_27 dX5_close_g0.2.2.2.2.2.2.1 ?_
    refine r_iconst (v := (1 : Int32)) hE dX5_close_g0.2.2.2.2.2.2.2.1 (by decide) ?_
    refine r_isub hE dX5_close_g0.2.2.2.2.2.2.2.2.1 ?_
    refine cp_rd_depth hE hm fk_X5_27 dX5_close_g0.2.2.2.2.2.2.2.2.2.1 h (fun s6 h => ?_)
    refine r_aload_n hE 0 dX5_close_g0.2.2.2.2.2.2.2.2.2.2.1 rfl rfl ?_
    refine c_callVv hE hm [] [] ck_X5_40 (cr_rd hm rfl) (kc_rd_next h) (by decide) rfl rfl (Nat.le_of_ble_eq_true rfl) dX5_close_g0.2.2.2.2.2.2.2.2.2.2.2.1 (fun s7 h => ?_)
    refine r_goto hE 37 dX5_close_g0.2.2.2.2.2.2.2.2.2.2.2.2.1 (by decide) ?_
    exact c_vret hE hm hF dX5_close_g1.2.2.2 h
/-! sp_follow -/
def wc_sp_follow (post : CS → Prop) (σ : CS) (a1 : Int32) (a2 : Int32) : Prop := ((a1 < (0 : Int32)) → (post σ)) ∧ ((¬ (a1 < (0 : Int32))) → ((((c_sp_nodes σ) ≤ a1) → (post σ)) ∧ ((¬ ((c_sp_nodes σ) ≤ a1)) → (vp_in a1 250 ∧ (∀ s1 : CS, s1 = c_sp_next_s σ a1.toNatClampNeg a2 → post s1)))))
set_option maxRecDepth 20000 in
theorem kc_sp_follow {l : Launch} {D : va_G} {G : gAd} {post : CS → Prop} {σ : CS} {a1 : Int32} {a2 : Int32} (h : wc_sp_follow post σ a1 a2) : cMet l D G yX1_follow cX1_follow 3 none 1 [.ref (G.1 400), .int a1, .int a2] σ (pV post) := by
  unfold wc_sp_follow at h
  refine c_enter (own := RX1) (by decide +kernel) rfl [(0, .ref (G.1 400)), (1, .int a1), (2, .int a2)] rfl (Nat.le_of_ble_eq_true rfl) ?_
  intro E hE hm hF
  have hN := hm.2.2.2.2.2.2.1
  refine r_iload_n hE 1 dX1_follow_g0.1 rfl rfl ?_
  refine r_if_lt hE 19 dX1_follow_g0.2.1 (by decide) h (fun h => ?_) (fun h => ?_)
  · exact c_vret hE hm hF dX1_follow_g0.2.2.2.2.2.2.2.2.2.2.2 h
  · refine r_iload_n hE 1 dX1_follow_g0.2.2.1 rfl rfl ?_
    refine r_aload_n hE 0 dX1_follow_g0.2.2.2.1 rfl rfl ?_
    refine cg_sp_nodes hE hm fk_X1_41 dX1_follow_g0.2.2.2.2.1 ?_
    refine r_icmp_ge hE 19 dX1_follow_g0.2.2.2.2.2.1 (by decide) h (fun h => ?_) (fun h => ?_)
    · exact c_vret hE hm hF dX1_follow_g0.2.2.2.2.2.2.2.2.2.2.2 h
    · refine r_aload_n hE 0 dX1_follow_g0.2.2.2.2.2.2.1 rfl rfl ?_
      refine cg_sp_next hE hm fk_X1_32 dX1_follow_g0.2.2.2.2.2.2.2.1 ?_
      refine r_iload_n hE 1 dX1_follow_g0.2.2.2.2.2.2.2.2.1 rfl rfl ?_
      refine r_iload_n hE 2 dX1_follow_g0.2.2.2.2.2.2.2.2.2.1 rfl rfl ?_
      obtain ⟨hi, h⟩ := h
      refine cs_sp_next hE hm dX1_follow_g0.2.2.2.2.2.2.2.2.2.2.1 hi h (fun s1 h => ?_)
      exact c_vret hE hm hF dX1_follow_g0.2.2.2.2.2.2.2.2.2.2.2 h
/-! sp_hang -/
def wc_sp_hang (post : CS → Prop) (σ : CS) (a1 : Int32) (a2 : Int32) : Prop := ((a1 < (0 : Int32)) → (post σ)) ∧ ((¬ (a1 < (0 : Int32))) → ((((c_sp_nodes σ) ≤ a1) → (post σ)) ∧ ((¬ ((c_sp_nodes σ) ≤ a1)) → (vp_in a1 250 ∧ (∀ s1 : CS, s1 = c_sp_first_s σ a1.toNatClampNeg a2 → post s1)))))
set_option maxRecDepth 20000 in
theorem kc_sp_hang {l : Launch} {D : va_G} {G : gAd} {post : CS → Prop} {σ : CS} {a1 : Int32} {a2 : Int32} (h : wc_sp_hang post σ a1 a2) : cMet l D G yX1_hang cX1_hang 3 none 1 [.ref (G.1 400), .int a1, .int a2] σ (pV post) := by
  unfold wc_sp_hang at h
  refine c_enter (own := RX1) (by decide +kernel) rfl [(0, .ref (G.1 400)), (1, .int a1), (2, .int a2)] rfl (Nat.le_of_ble_eq_true rfl) ?_
  intro E hE hm hF
  have hN := hm.2.2.2.2.2.2.1
  refine r_iload_n hE 1 dX1_hang_g0.1 rfl rfl ?_
  refine r_if_lt hE 19 dX1_hang_g0.2.1 (by decide) h (fun h => ?_) (fun h => ?_)
  · exact c_vret hE hm hF dX1_hang_g0.2.2.2.2.2.2.2.2.2.2.2 h
  · refine r_iload_n hE 1 dX1_hang_g0.2.2.1 rfl rfl ?_
    refine r_aload_n hE 0 dX1_hang_g0.2.2.2.1 rfl rfl ?_
    refine cg_sp_nodes hE hm fk_X1_41 dX1_hang_g0.2.2.2.2.1 ?_
    refine r_icmp_ge hE 19 dX1_hang_g0.2.2.2.2.2.1 (by decide) h (fun h => ?_) (fun h => ?_)
    · exact c_vret hE hm hF dX1_hang_g0.2.2.2.2.2.2.2.2.2.2.2 h
    · refine r_aload_n hE 0 dX1_hang_g0.2.2.2.2.2.2.1 rfl rfl ?_
      refine cg_sp_first hE hm fk_X1_29 dX1_hang_g0.2.2.2.2.2.2.2.1 ?_
      refine r_iload_n hE 1 dX1_hang_g0.2.2.2.2.2.2.2.2.1 rfl rfl ?_
      refine r_iload_n hE 2 dX1_hang_g0.2.2.2.2.2.2.2.2.2.1 rfl rfl ?_
      obtain ⟨hi, h⟩ := h
      refine cs_sp_first hE hm dX1_hang_g0.2.2.2.2.2.2.2.2.2.2.1 hi h (fun s1 h => ?_)
      exact c_vret hE hm hF dX1_hang_g0.2.2.2.2.2.2.2.2.2.2.2 h
/-! sp_hangBlock -/
def wc_sp_hangBlock (post : CS → Prop) (σ : CS) (a1 : Int32) (a2 : Int32) : Prop := ((a1 < (0 : Int32)) → (post σ)) ∧ ((¬ (a1 < (0 : Int32))) → ((((c_sp_nodes σ) ≤ a1) → (post σ)) ∧ ((¬ ((c_sp_nodes σ) ≤ a1)) → (vp_in a1 250 ∧ (∀ s1 : CS, s1 = c_sp_body_s σ a1.toNatClampNeg a2 → post s1)))))
set_option maxRecDepth 20000 in
theorem kc_sp_hangBlock {l : Launch} {D : va_G} {G : gAd} {post : CS → Prop} {σ : CS} {a1 : Int32} {a2 : Int32} (h : wc_sp_hangBlock post σ a1 a2) : cMet l D G yX1_hangBlock cX1_hangBlock 3 none 1 [.ref (G.1 400), .int a1, .int a2] σ (pV post) := by
  unfold wc_sp_hangBlock at h
  refine c_enter (own := RX1) (by decide +kernel) rfl [(0, .ref (G.1 400)), (1, .int a1), (2, .int a2)] rfl (Nat.le_of_ble_eq_true rfl) ?_
  intro E hE hm hF
  have hN := hm.2.2.2.2.2.2.1
  refine r_iload_n hE 1 dX1_hangBlock_g0.1 rfl rfl ?_
  refine r_if_lt hE 19 dX1_hangBlock_g0.2.1 (by decide) h (fun h => ?_) (fun h => ?_)
  · exact c_vret hE hm hF dX1_hangBlock_g0.2.2.2.2.2.2.2.2.2.2.2 h
  · refine r_iload_n hE 1 dX1_hangBlock_g0.2.2.1 rfl rfl ?_
    refine r_aload_n hE 0 dX1_hangBlock_g0.2.2.2.1 rfl rfl ?_
    refine cg_sp_nodes hE hm fk_X1_41 dX1_hangBlock_g0.2.2.2.2.1 ?_
    refine r_icmp_ge hE 19 dX1_hangBlock_g0.2.2.2.2.2.1 (by decide) h (fun h => ?_) (fun h => ?_)
    · exact c_vret hE hm hF dX1_hangBlock_g0.2.2.2.2.2.2.2.2.2.2.2 h
    · refine r_aload_n hE 0 dX1_hangBlock_g0.2.2.2.2.2.2.1 rfl rfl ?_
      refine cg_sp_body hE hm fk_X1_35 dX1_hangBlock_g0.2.2.2.2.2.2.2.1 ?_
      refine r_iload_n hE 1 dX1_hangBlock_g0.2.2.2.2.2.2.2.2.1 rfl rfl ?_
      refine r_iload_n hE 2 dX1_hangBlock_g0.2.2.2.2.2.2.2.2.2.1 rfl rfl ?_
      obtain ⟨hi, h⟩ := h
      refine cs_sp_body hE hm dX1_hangBlock_g0.2.2.2.2.2.2.2.2.2.2.1 hi h (fun s1 h => ?_)
      exact c_vret hE hm hF dX1_hangBlock_g0.2.2.2.2.2.2.2.2.2.2.2 h
/-! sp_hangElse -/
def wc_sp_hangElse (post : CS → Prop) (σ : CS) (a1 : Int32) (a2 : Int32) : Prop := ((a1 < (0 : Int32)) → (post σ)) ∧ ((¬ (a1 < (0 : Int32))) → ((((c_sp_nodes σ) ≤ a1) → (post σ)) ∧ ((¬ ((c_sp_nodes σ) ≤ a1)) → (vp_in a1 250 ∧ (∀ s1 : CS, s1 = c_sp_other_s σ a1.toNatClampNeg a2 → vp_in a1 250 ∧ (∀ s2 : CS, s2 = c_sp_data_s s1 a1.toNatClampNeg (1 : Int32) → post s2))))))
set_option maxRecDepth 20000 in
theorem kc_sp_hangElse {l : Launch} {D : va_G} {G : gAd} {post : CS → Prop} {σ : CS} {a1 : Int32} {a2 : Int32} (h : wc_sp_hangElse post σ a1 a2) : cMet l D G yX1_hangElse cX1_hangElse 3 none 1 [.ref (G.1 400), .int a1, .int a2] σ (pV post) := by
  unfold wc_sp_hangElse at h
  refine c_enter (own := RX1) (by decide +kernel) rfl [(0, .ref (G.1 400)), (1, .int a1), (2, .int a2)] rfl (Nat.le_of_ble_eq_true rfl) ?_
  intro E hE hm hF
  have hN := hm.2.2.2.2.2.2.1
  refine r_iload_n hE 1 dX1_hangElse_g0.1 rfl rfl ?_
  refine r_if_lt hE 26 dX1_hangElse_g0.2.1 (by decide) h (fun h => ?_) (fun h => ?_)
  · exact c_vret hE hm hF dX1_hangElse_g1 h
  · refine r_iload_n hE 1 dX1_hangElse_g0.2.2.1 rfl rfl ?_
    refine r_aload_n hE 0 dX1_hangElse_g0.2.2.2.1 rfl rfl ?_
    refine cg_sp_nodes hE hm fk_X1_41 dX1_hangElse_g0.2.2.2.2.1 ?_
    refine r_icmp_ge hE 26 dX1_hangElse_g0.2.2.2.2.2.1 (by decide) h (fun h => ?_) (fun h => ?_)
    · exact c_vret hE hm hF dX1_hangElse_g1 h
    · refine r_aload_n hE 0 dX1_hangElse_g0.2.2.2.2.2.2.1 rfl rfl ?_
      refine cg_sp_other hE hm fk_X1_38 dX1_hangElse_g0.2.2.2.2.2.2.2.1 ?_
      refine r_iload_n hE 1 dX1_hangElse_g0.2.2.2.2.2.2.2.2.1 rfl rfl ?_
      refine r_iload_n hE 2 dX1_hangElse_g0.2.2.2.2.2.2.2.2.2.1 rfl rfl ?_
      obtain ⟨hi, h⟩ := h
      refine cs_sp_other hE hm dX1_hangElse_g0.2.2.2.2.2.2.2.2.2.2.1 hi h (fun s1 h => ?_)
      refine r_aload_n hE 0 dX1_hangElse_g0.2.2.2.2.2.2.2.2.2.2.2.1 rfl rfl ?_
      refine cg_sp_data hE hm fk_X1_26 dX1_hangElse_g0.2.2.2.2.2.2.2.2.2.2.2.2.1 ?_
      refine r_iload_n hE 1 dX1_hangElse_g0.2.2.2.2.2.2.2.2.2.2.2.2.2.1 rfl rfl ?_
      refine r_iconst (v := (1 : Int32)) hE dX1_hangElse_g0.2.2.2.2.2.2.2.2.2.2.2.2.2.2.1 (by decide) ?_
      obtain ⟨hi, h⟩ := h
      refine cs_sp_data hE hm dX1_hangElse_g0.2.2.2.2.2.2.2.2.2.2.2.2.2.2.2 hi h (fun s2 h => ?_)
      exact c_vret hE hm hF dX1_hangElse_g1 h
/-! sp_add -/
def wc_sp_add_103 (post : CS → Int32 → Prop) (σ : CS) (v4 : Int32) (t1 : Int32) (t2 : Int32) : Prop := ∀ s1 : CS, s1 = c_sp_deeds_s σ (t1 + t2) → post s1 v4
set_option maxRecDepth 20000 in
theorem kc_sp_add_103  {E : gEnv} {l : Launch} {D : va_G} {G : gAd} {post : CS → Int32 → Prop} (hE : gOK E cX1_add RX1 (some .int) 2) (hm : cOK E l D G (pI post) 5) (hF : gFin E) (σ : CS) (v4 : Int32) (t1 : Int32) (t2 : Int32) (h : wc_sp_add_103 post σ v4 t1 t2) : GW E (cW G σ) 103 [(4, .int v4)] [.int t2, .int t1, .ref (G.1 400)] := by
  unfold wc_sp_add_103 at h
  have hN := hm.2.2.2.2.2.2.1
  refine r_iadd hE dX1_add_g3.2.2.2.2.2.2.2.2.2.2.2.2.1 ?_
  refine cp_sp_deeds hE hm fk_X1_44 dX1_add_g3.2.2.2.2.2.2.2.2.2.2.2.2.2.1 h (fun s1 h => ?_)
  refine r_iload hE 0 dX1_add_g3.2.2.2.2.2.2.2.2.2.2.2.2.2.2.1 rfl ?_
  exact c_iret hE hm hF dX1_add_g3.2.2.2.2.2.2.2.2.2.2.2.2.2.2.2 h
def wc_sp_add (post : CS → Int32 → Prop) (σ : CS) (a1 : Int32) (a2 : Int32) (a3 : Int32) : Prop := wc_SX12_inside (fun (s2 : CS) (r3 : Int32) => ((¬ (r3 = (0 : Int32))) → (∀ x4 : Int32, x4 = c_sp_nodes s2 → vp_in x4 250 ∧ (∀ s5 : CS, s5 = c_sp_type_s s2 x4.toNatClampNeg a1 → vp_in x4 250 ∧ (∀ s6 : CS, s6 = c_sp_at_s s5 x4.toNatClampNeg a2 → vp_in x4 250 ∧ (∀ s7 : CS, s7 = c_sp_data_s s6 x4.toNatClampNeg a3 → vp_in x4 250 ∧ (∀ s8 : CS, s8 = c_sp_first_s s7 x4.toNatClampNeg (-1 : Int32) → vp_in x4 250 ∧ (∀ s9 : CS, s9 = c_sp_next_s s8 x4.toNatClampNeg (-1 : Int32) → vp_in x4 250 ∧ (∀ s10 : CS, s10 = c_sp_body_s s9 x4.toNatClampNeg (-1 : Int32) → vp_in x4 250 ∧ (∀ s11 : CS, s11 = c_sp_other_s s10 x4.toNatClampNeg (-1 : Int32) → ∀ s12 : CS, s12 = c_sp_nodes_s s11 ((c_sp_nodes s11) + (1 : Int32)) → (((6 : Int32) < a1) → (wc_sp_add_103 post s12 x4 (c_sp_deeds s12) (0 : Int32))) ∧ ((¬ ((6 : Int32) < a1)) → (wc_sp_add_103 post s12 x4 (c_sp_deeds s12) (1 : Int32)))))))))))) ∧ ((r3 = (0 : Int32)) → (post s2 (-1 : Int32)))) σ (c_sp_nodes σ) (250 : Int32)
set_option maxRecDepth 20000 in
theorem kc_sp_add {l : Launch} {D : va_G} {G : gAd} {post : CS → Int32 → Prop} {σ : CS} {a1 : Int32} {a2 : Int32} {a3 : Int32} (h : wc_sp_add post σ a1 a2 a3) : cMet l D G yX1_add cX1_add 5 (some .int) 2 [.ref (G.1 400), .int a1, .int a2, .int a3] σ (pI post) := by
  unfold wc_sp_add at h
  refine c_enter (own := RX1) (by decide +kernel) rfl [(0, .ref (G.1 400)), (1, .int a1), (2, .int a2), (3, .int a3)] rfl (Nat.le_of_ble_eq_true rfl) ?_
  intro E hE hm hF
  have hN := hm.2.2.2.2.2.2.1
  refine r_aload_n hE 0 dX1_add_g0.1 rfl rfl ?_
  refine cg_sp_nodes hE hm fk_X1_41 dX1_add_g0.2.1 ?_
  refine r_sipush (v := (250 : Int32)) hE dX1_add_g0.2.2.1 (by decide) ?_
  refine c_callSNi hE hm [.int (c_sp_nodes σ), .int (250 : Int32)] [] ck_X1_74 cw_X1_74 (kc_SX12_inside h) (by decide) rfl rfl (Nat.le_of_ble_eq_true rfl) dX1_add_g0.2.2.2.1 (fun s2 r3 h => ?_)
  refine r_if_ne hE 15 dX1_add_g0.2.2.2.2.1 (by decide) h (fun h => ?_) (fun h => ?_)
  · refine r_aload_n hE 0 dX1_add_g0.2.2.2.2.2.2.2.1 rfl rfl ?_
    refine cg_sp_nodes hE hm fk_X1_41 dX1_add_g0.2.2.2.2.2.2.2.2.1 ?_
    refine r_topi h (fun x4 ex4 h => ?_)
    refine r_istore hE [(4, .int x4), (0, .ref (G.1 400)), (1, .int a1), (2, .int a2), (3, .int a3)] dX1_add_g0.2.2.2.2.2.2.2.2.2.1 hN (by decide) rfl ?_
    refine r_aload_n hE 1 dX1_add_g0.2.2.2.2.2.2.2.2.2.2.1 rfl rfl ?_
    refine cg_sp_type hE hm fk_X1_19 dX1_add_g0.2.2.2.2.2.2.2.2.2.2.2.1 ?_
    refine r_iload hE 0 dX1_add_g0.2.2.2.2.2.2.2.2.2.2.2.2.1 rfl ?_
    refine r_iload_n hE 2 dX1_add_g0.2.2.2.2.2.2.2.2.2.2.2.2.2.1 rfl rfl ?_
    obtain ⟨hi, h⟩ := h
    refine cs_sp_type hE hm dX1_add_g0.2.2.2.2.2.2.2.2.2.2.2.2.2.2.1 hi h (fun s5 h => ?_)
    refine r_aload_n hE 1 dX1_add_g0.2.2.2.2.2.2.2.2.2.2.2.2.2.2.2 rfl rfl ?_
    refine cg_sp_at hE hm fk_X1_23 dX1_add_g1.1 ?_
    refine r_iload hE 0 dX1_add_g1.2.1 rfl ?_
    refine r_iload_n hE 3 dX1_add_g1.2.2.1 rfl rfl ?_
    obtain ⟨hi, h⟩ := h
    refine cs_sp_at hE hm dX1_add_g1.2.2.2.1 hi h (fun s6 h => ?_)
    refine r_aload_n hE 1 dX1_add_g1.2.2.2.2.1 rfl rfl ?_
    refine cg_sp_data hE hm fk_X1_26 dX1_add_g1.2.2.2.2.2.1 ?_
    refine r_iload hE 0 dX1_add_g1.2.2.2.2.2.2.1 rfl ?_
    refine r_iload_n hE 4 dX1_add_g1.2.2.2.2.2.2.2.1 rfl rfl ?_
    obtain ⟨hi, h⟩ := h
    refine cs_sp_data hE hm dX1_add_g1.2.2.2.2.2.2.2.2.1 hi h (fun s7 h => ?_)
    refine r_aload_n hE 1 dX1_add_g1.2.2.2.2.2.2.2.2.2.1 rfl rfl ?_
    refine cg_sp_first hE hm fk_X1_29 dX1_add_g1.2.2.2.2.2.2.2.2.2.2.1 ?_
    refine r_iload hE 0 dX1_add_g1.2.2.2.2.2.2.2.2.2.2.2.1 rfl ?_
    refine r_iconst (v := (-1 : Int32)) hE dX1_add_g1.2.2.2.2.2.2.2.2.2.2.2.2.1 (by decide) ?_
    obtain ⟨hi, h⟩ := h
    refine cs_sp_first hE hm dX1_add_g1.2.2.2.2.2.2.2.2.2.2.2.2.2.1 hi h (fun s8 h => ?_)
    refine r_aload_n hE 1 dX1_add_g1.2.2.2.2.2.2.2.2.2.2.2.2.2.2.1 rfl rfl ?_
    refine cg_sp_next hE hm fk_X1_32 dX1_add_g1.2.2.2.2.2.2.2.2.2.2.2.2.2.2.2 ?_
    refine r_iload hE 0 dX1_add_g2.1 rfl ?_
    refine r_iconst (v := (-1 : Int32)) hE dX1_add_g2.2.1 (by decide) ?_
    obtain ⟨hi, h⟩ := h
    refine cs_sp_next hE hm dX1_add_g2.2.2.1 hi h (fun s9 h => ?_)
    refine r_aload_n hE 1 dX1_add_g2.2.2.2.1 rfl rfl ?_
    refine cg_sp_body hE hm fk_X1_35 dX1_add_g2.2.2.2.2.1 ?_
    refine r_iload hE 0 dX1_add_g2.2.2.2.2.2.1 rfl ?_
    refine r_iconst (v := (-1 : Int32)) hE dX1_add_g2.2.2.2.2.2.2.1 (by decide) ?_
    obtain ⟨hi, h⟩ := h
    refine cs_sp_body hE hm dX1_add_g2.2.2.2.2.2.2.2.1 hi h (fun s10 h => ?_)
    refine r_aload_n hE 1 dX1_add_g2.2.2.2.2.2.2.2.2.1 rfl rfl ?_
    refine cg_sp_other hE hm fk_X1_38 dX1_add_g2.2.2.2.2.2.2.2.2.2.1 ?_
    refine r_iload hE 0 dX1_add_g2.2.2.2.2.2.2.2.2.2.2.1 rfl ?_
    refine r_iconst (v := (-1 : Int32)) hE dX1_add_g2.2.2.2.2.2.2.2.2.2.2.2.1 (by decide) ?_
    obtain ⟨hi, h⟩ := h
    refine cs_sp_other hE hm dX1_add_g2.2.2.2.2.2.2.2.2.2.2.2.2.1 hi h (fun s11 h => ?_)
    refine r_aload_n hE 1 dX1_add_g2.2.2.2.2.2.2.2.2.2.2.2.2.2.1 rfl rfl ?_
    refine r_dup hE dX1_add_g2.2.2.2.2.2.2.2.2.2.2.2.2.2.2.1 rfl ?_
    refine cg_sp_nodes hE hm fk_X1_41 dX1_add_g2.2.2.2.2.2.2.2.2.2.2.2.2.2.2.2 ?_
    refine r_iconst (v := (1 : Int32)) hE dX1_add_g3.1 (by decide) ?_
    refine r_iadd hE dX1_add_g3.2.1 ?_
    refine cp_sp_nodes hE hm fk_X1_41 dX1_add_g3.2.2.1 h (fun s12 h => ?_)
    refine r_aload_n hE 1 dX1_add_g3.2.2.2.1 rfl rfl ?_
    refine r_dup hE dX1_add_g3.2.2.2.2.1 rfl ?_
    refine cg_sp_deeds hE hm fk_X1_44 dX1_add_g3.2.2.2.2.2.1 ?_
    refine r_iload_n hE 2 dX1_add_g3.2.2.2.2.2.2.1 rfl rfl ?_
    refine r_bipush (v := (6 : Int32)) hE dX1_add_g3.2.2.2.2.2.2.2.1 (by decide) ?_
    refine r_icmp_gt hE 102 dX1_add_g3.2.2.2.2.2.2.2.2.1 (by decide) h (fun h => ?_) (fun h => ?_)
    · refine r_iconst (v := (0 : Int32)) hE dX1_add_g3.2.2.2.2.2.2.2.2.2.2.2.1 (by decide) ?_
      refine r_pick [0] rfl ?_
      exact kc_sp_add_103 hE hm hF _ _ _ _ h
    · refine r_iconst (v := (1 : Int32)) hE dX1_add_g3.2.2.2.2.2.2.2.2.2.1 (by decide) ?_
      refine r_goto hE 103 dX1_add_g3.2.2.2.2.2.2.2.2.2.2.1 (by decide) ?_
      refine r_pick [0] rfl ?_
      exact kc_sp_add_103 hE hm hF _ _ _ _ h
  · refine r_iconst (v := (-1 : Int32)) hE dX1_add_g0.2.2.2.2.2.1 (by decide) ?_
    exact c_iret hE hm hF dX1_add_g0.2.2.2.2.2.2.1 h
/-! rd_newNode -/
def wc_rd_newNode (post : CS → Int32 → Prop) (σ : CS) (a1 : Int32) (a2 : Int32) : Prop := (((c_rd_fault σ) = (0 : Int32)) → (c_rd_figure σ = 400 ∧ (wc_sp_add (fun (s1 : CS) (r2 : Int32) => ((¬ (r2 = (-1 : Int32))) → (post s1 r2)) ∧ ((r2 = (-1 : Int32)) → (wc_rd_noteFault (fun (s3 : CS) => post s3 r2) s1 (3 : Int32) (c_rd_at s1)))) σ a1 (c_rd_at σ) a2))) ∧ ((¬ ((c_rd_fault σ) = (0 : Int32))) → (post σ (-1 : Int32)))
set_option maxRecDepth 20000 in
theorem kc_rd_newNode {l : Launch} {D : va_G} {G : gAd} {post : CS → Int32 → Prop} {σ : CS} {a1 : Int32} {a2 : Int32} (h : wc_rd_newNode post σ a1 a2) : cMet l D G yX5_newNode cX5_newNode 4 (some .int) 3 [.ref (G.1 600), .int a1, .int a2] σ (pI post) := by
  unfold wc_rd_newNode at h
  refine c_enter (own := RX5) (by decide +kernel) rfl [(0, .ref (G.1 600)), (1, .int a1), (2, .int a2)] rfl (Nat.le_of_ble_eq_true rfl) ?_
  intro E hE hm hF
  have hN := hm.2.2.2.2.2.2.1
  refine r_aload_n hE 0 dX5_newNode_g0.1 rfl rfl ?_
  refine cg_rd_fault hE hm fk_X5_30 dX5_newNode_g0.2.1 ?_
  refine r_if_eq hE 9 dX5_newNode_g0.2.2.1 (by decide) h (fun h => ?_) (fun h => ?_)
  · refine r_aload_n hE 0 dX5_newNode_g0.2.2.2.2.2.1 rfl rfl ?_
    obtain ⟨hj, h⟩ := h
    refine cg_rd_figure hE hm fk_X5_36 dX5_newNode_g0.2.2.2.2.2.2.1 hj ?_
    refine r_iload_n hE 1 dX5_newNode_g0.2.2.2.2.2.2.2.1 rfl rfl ?_
    refine r_aload_n hE 0 dX5_newNode_g0.2.2.2.2.2.2.2.2.1 rfl rfl ?_
    refine cg_rd_at hE hm fk_X5_9 dX5_newNode_g0.2.2.2.2.2.2.2.2.2.1 ?_
    refine r_iload_n hE 2 dX5_newNode_g0.2.2.2.2.2.2.2.2.2.2.1 rfl rfl ?_
    refine c_callVi hE hm [.int a1, .int (c_rd_at σ), .int a2] [] ck_X5_104 (cr_sp hm rfl) (kc_sp_add h) (by decide) rfl rfl (Nat.le_of_ble_eq_true rfl) dX5_newNode_g0.2.2.2.2.2.2.2.2.2.2.2.1 (fun s1 r2 h => ?_)
    refine r_istore_n hE [(3, .int r2), (0, .ref (G.1 600)), (1, .int a1), (2, .int a2)] dX5_newNode_g0.2.2.2.2.2.2.2.2.2.2.2.2.1 rfl hN (by decide) rfl ?_
    refine r_iload_n hE 0 dX5_newNode_g0.2.2.2.2.2.2.2.2.2.2.2.2.2.1 rfl rfl ?_
    refine r_iconst (v := (-1 : Int32)) hE dX5_newNode_g0.2.2.2.2.2.2.2.2.2.2.2.2.2.2.1 (by decide) ?_
    refine r_icmp_ne hE 37 dX5_newNode_g0.2.2.2.2.2.2.2.2.2.2.2.2.2.2.2 (by decide) h (fun h => ?_) (fun h => ?_)
    · refine r_iload_n hE 0 dX5_newNode_g1.2.2.2.2.2.1 rfl rfl ?_
      exact c_iret hE hm hF dX5_newNode_g1.2.2.2.2.2.2 h
    · refine r_aload_n hE 1 dX5_newNode_g1.1 rfl rfl ?_
      refine r_iconst (v := (3 : Int32)) hE dX5_newNode_g1.2.1 (by decide) ?_
      refine r_aload_n hE 1 dX5_newNode_g1.2.2.1 rfl rfl ?_
      refine cg_rd_at hE hm fk_X5_9 dX5_newNode_g1.2.2.2.1 ?_
      refine c_callVv hE hm [.int (3 : Int32), .int (c_rd_at s1)] [] ck_X5_71 (cr_rd hm rfl) (kc_rd_noteFault h) (by decide) rfl rfl (Nat.le_of_ble_eq_true rfl) dX5_newNode_g1.2.2.2.2.1 (fun s3 h => ?_)
      refine r_iload_n hE 0 dX5_newNode_g1.2.2.2.2.2.1 rfl rfl ?_
      exact c_iret hE hm hF dX5_newNode_g1.2.2.2.2.2.2 h
  · refine r_iconst (v := (-1 : Int32)) hE dX5_newNode_g0.2.2.2.1 (by decide) ?_
    exact c_iret hE hm hF dX5_newNode_g0.2.2.2.2.1 h
/-! rd_digitsValue -/
def wc_rd_digitsValue_7 (post : CS → Int32 → Prop) : Nat → CS → Int32 → Int32 → Prop
  | 0, _, _, _ => False
  | n + 1, σ, v1, v2 => (((c_rd_end σ) ≤ v2) → (post σ v1)) ∧ ((¬ ((c_rd_end σ) ≤ v2)) → ((((9 : Int32) ≤ (v2 - (c_rd_at σ))) → (post σ v1)) ∧ ((¬ ((9 : Int32) ≤ (v2 - (c_rd_at σ)))) → (c_rd_figure σ = 400 ∧ (wc_sp_byteAt (fun (s1 : CS) (r2 : Int32) => ∀ x3 : Int32, x3 = (v1 * (10 : Int32)) + (r2 - (48 : Int32)) → ∀ x4 : Int32, x4 = v2 + (1 : Int32) → wc_rd_digitsValue_7 post n s1 x3 x4) σ v2)))))
set_option maxRecDepth 20000 in
theorem kc_rd_digitsValue_7  {E : gEnv} {l : Launch} {D : va_G} {G : gAd} {post : CS → Int32 → Prop} (hE : gOK E cX5_digitsValue RX5 (some .int) 2) (hm : cOK E l D G (pI post) 3) (hF : gFin E) : ∀ (n0 : Nat) (σ : CS) (v1 : Int32) (v2 : Int32), wc_rd_digitsValue_7 post n0 σ v1 v2 → GW E (cW G σ) 7 [(0, .ref (G.1 600)), (1, .int v1), (2, .int v2)] [] := by
  intro n0
  induction n0 with
  | zero => intro σ v1 v2 h; exact h.elim
  | succ n0 ih =>
    intro σ v1 v2 h
    rw [wc_rd_digitsValue_7] at h
    have hN := hm.2.2.2.2.2.2.1
    refine r_iload_n hE 2 dX5_digitsValue_g0.2.2.2.2.2.1 rfl rfl ?_
    refine r_aload_n hE 0 dX5_digitsValue_g0.2.2.2.2.2.2.1 rfl rfl ?_
    refine cg_rd_end hE hm fk_X5_15 dX5_digitsValue_g0.2.2.2.2.2.2.2.1 ?_
    refine r_icmp_ge hE 49 dX5_digitsValue_g0.2.2.2.2.2.2.2.2.1 (by decide) h (fun h => ?_) (fun h => ?_)
    · refine r_iload_n hE 1 dX5_digitsValue_g1.2.2.2.2.2.2.2.2.2.2.2.2.1 rfl rfl ?_
      exact c_iret hE hm hF dX5_digitsValue_g1.2.2.2.2.2.2.2.2.2.2.2.2.2 h
    · refine r_iload_n hE 2 dX5_digitsValue_g0.2.2.2.2.2.2.2.2.2.1 rfl rfl ?_
      refine r_aload_n hE 0 dX5_digitsValue_g0.2.2.2.2.2.2.2.2.2.2.1 rfl rfl ?_
      refine cg_rd_at hE hm fk_X5_9 dX5_digitsValue_g0.2.2.2.2.2.2.2.2.2.2.2.1 ?_
      refine r_isub hE dX5_digitsValue_g0.2.2.2.2.2.2.2.2.2.2.2.2.1 ?_
      refine r_bipush (v := (9 : Int32)) hE dX5_digitsValue_g0.2.2.2.2.2.2.2.2.2.2.2.2.2.1 (by decide) ?_
      refine r_icmp_ge hE 49 dX5_digitsValue_g0.2.2.2.2.2.2.2.2.2.2.2.2.2.2.1 (by decide) h (fun h => ?_) (fun h => ?_)
      · refine r_iload_n hE 1 dX5_digitsValue_g1.2.2.2.2.2.2.2.2.2.2.2.2.1 rfl rfl ?_
        exact c_iret hE hm hF dX5_digitsValue_g1.2.2.2.2.2.2.2.2.2.2.2.2.2 h
      · refine r_iload_n hE 1 dX5_digitsValue_g0.2.2.2.2.2.2.2.2.2.2.2.2.2.2.2 rfl rfl ?_
        refine r_bipush (v := (10 : Int32)) hE dX5_digitsValue_g1.1 (by decide) ?_
        refine r_imul hE dX5_digitsValue_g1.2.1 ?_
        refine r_aload_n hE 0 dX5_digitsValue_g1.2.2.1 rfl rfl ?_
        obtain ⟨hj, h⟩ := h
        refine cg_rd_figure hE hm fk_X5_36 dX5_digitsValue_g1.2.2.2.1 hj ?_
        refine r_iload_n hE 2 dX5_digitsValue_g1.2.2.2.2.1 rfl rfl ?_
        refine c_callVi hE hm [.int v2] [.int (v1 * (10 : Int32))] ck_X5_74 (cr_sp hm rfl) (kc_sp_byteAt h) (by decide) rfl rfl (Nat.le_of_ble_eq_true rfl) dX5_digitsValue_g1.2.2.2.2.2.1 (fun s1 r2 h => ?_)
        refine r_bipush (v := (48 : Int32)) hE dX5_digitsValue_g1.2.2.2.2.2.2.1 (by decide) ?_
        refine r_isub hE dX5_digitsValue_g1.2.2.2.2.2.2.2.1 ?_
        refine r_iadd hE dX5_digitsValue_g1.2.2.2.2.2.2.2.2.1 ?_
        refine r_topi h (fun x3 ex3 h => ?_)
        refine r_istore_n hE [(1, .int x3), (0, .ref (G.1 600)), (2, .int v2)] dX5_digitsValue_g1.2.2.2.2.2.2.2.2.2.1 rfl hN (by decide) rfl ?_
        obtain ⟨x4, ex4⟩ : ∃ z : Int32, z = v2 + (1 : Int32) := ⟨_, rfl⟩
        have h := h x4 ex4
        refine r_iinc (v := x4) hE [(2, .int x4), (1, .int x3), (0, .ref (G.1 600))] 2 dX5_digitsValue_g1.2.2.2.2.2.2.2.2.2.2.1 rfl (by rw [ex4]; rfl) hN (by decide) rfl ?_
        refine r_goto hE 7 dX5_digitsValue_g1.2.2.2.2.2.2.2.2.2.2.2.1 (by decide) ?_
        refine r_pick [2, 1, 0] rfl ?_
        exact ih _ _ _ h
def wc_rd_digitsValue (post : CS → Int32 → Prop) (σ : CS) : Prop := ∀ x5 : Int32, x5 = c_rd_at σ → ∃ k : Nat, wc_rd_digitsValue_7 post k σ (0 : Int32) x5
set_option maxRecDepth 20000 in
theorem kc_rd_digitsValue {l : Launch} {D : va_G} {G : gAd} {post : CS → Int32 → Prop} {σ : CS} (h : wc_rd_digitsValue post σ) : cMet l D G yX5_digitsValue cX5_digitsValue 3 (some .int) 2 [.ref (G.1 600)] σ (pI post) := by
  unfold wc_rd_digitsValue at h
  refine c_enter (own := RX5) (by decide +kernel) rfl [(0, .ref (G.1 600))] rfl (Nat.le_of_ble_eq_true rfl) ?_
  intro E hE hm hF
  have hN := hm.2.2.2.2.2.2.1
  refine r_iconst (v := (0 : Int32)) hE dX5_digitsValue_g0.1 (by decide) ?_
  refine r_istore_n hE [(1, .int (0 : Int32)), (0, .ref (G.1 600))] dX5_digitsValue_g0.2.1 rfl hN (by decide) rfl ?_
  refine r_aload_n hE 1 dX5_digitsValue_g0.2.2.1 rfl rfl ?_
  refine cg_rd_at hE hm fk_X5_9 dX5_digitsValue_g0.2.2.2.1 ?_
  refine r_topi h (fun x5 ex5 h => ?_)
  refine r_istore_n hE [(2, .int x5), (1, .int (0 : Int32)), (0, .ref (G.1 600))] dX5_digitsValue_g0.2.2.2.2.1 rfl hN (by decide) rfl ?_
  refine r_pick [2, 1, 0] rfl ?_
  obtain ⟨k, h⟩ := h
  exact kc_rd_digitsValue_7 hE hm hF k _ _ _ h
/-! rd_isName -/
def wc_rd_isName (post : CS → Int32 → Prop) (σ : CS) : Prop := ((¬ ((c_rd_kind σ) = (2 : Int32))) → (post σ (0 : Int32))) ∧ (((c_rd_kind σ) = (2 : Int32)) → (c_rd_figure σ = 400 ∧ (wc_sp_isWord_s (fun (s1 : CS) (r2 : Int32) => ((¬ (r2 = (0 : Int32))) → (post s1 (0 : Int32))) ∧ ((r2 = (0 : Int32)) → (c_rd_figure s1 = 400 ∧ (wc_sp_isWord_s (fun (s3 : CS) (r4 : Int32) => ((¬ (r4 = (0 : Int32))) → (post s3 (0 : Int32))) ∧ ((r4 = (0 : Int32)) → (c_rd_figure s3 = 400 ∧ (wc_sp_isWord_s (fun (s5 : CS) (r6 : Int32) => ((¬ (r6 = (0 : Int32))) → (post s5 (0 : Int32))) ∧ ((r6 = (0 : Int32)) → (c_rd_figure s5 = 400 ∧ (wc_sp_isWord_s (fun (s7 : CS) (r8 : Int32) => ((¬ (r8 = (0 : Int32))) → (post s7 (0 : Int32))) ∧ ((r8 = (0 : Int32)) → (c_rd_figure s7 = 400 ∧ (wc_sp_isWord_s (fun (s9 : CS) (r10 : Int32) => ((¬ (r10 = (0 : Int32))) → (post s9 (0 : Int32))) ∧ ((r10 = (0 : Int32)) → (c_rd_figure s9 = 400 ∧ (wc_sp_isWord_s (fun (s11 : CS) (r12 : Int32) => ((¬ (r12 = (0 : Int32))) → (post s11 (0 : Int32))) ∧ ((r12 = (0 : Int32)) → (c_rd_figure s11 = 400 ∧ (wc_sp_isWord_s (fun (s13 : CS) (r14 : Int32) => ((¬ (r14 = (0 : Int32))) → (post s13 (0 : Int32))) ∧ ((r14 = (0 : Int32)) → (post s13 (1 : Int32)))) s11 (c_rd_at s11) 7)))) s9 (c_rd_at s9) 6)))) s7 (c_rd_at s7) 5)))) s5 (c_rd_at s5) 4)))) s3 (c_rd_at s3) 3)))) s1 (c_rd_at s1) 2)))) σ (c_rd_at σ) 1)))
set_option maxRecDepth 20000 in
theorem kc_rd_isName {l : Launch} {D : va_G} {G : gAd} {post : CS → Int32 → Prop} {σ : CS} (h : wc_rd_isName post σ) : cMet l D G yX5_isName cX5_isName 1 (some .boolean) 6 [.ref (G.1 600)] σ (pI post) := by
  unfold wc_rd_isName at h
  refine c_enter (own := RX5) (by decide +kernel) rfl [(0, .ref (G.1 600))] rfl (Nat.le_of_ble_eq_true rfl) ?_
  intro E hE hm hF
  have hN := hm.2.2.2.2.2.2.1
  refine r_aload_n hE 0 dX5_isName_g0.1 rfl rfl ?_
  refine cg_rd_kind hE hm fk_X5_18 dX5_isName_g0.2.1 ?_
  refine r_iconst (v := (2 : Int32)) hE dX5_isName_g0.2.2.1 (by decide) ?_
  refine r_icmp_ne hE 124 dX5_isName_g0.2.2.2.1 (by decide) h (fun h => ?_) (fun h => ?_)
  · refine r_iconst (v := (0 : Int32)) hE dX5_isName_g3.2.2.2.2.2.2.2.1 (by decide) ?_
    exact c_zret hE hm hF dX5_isName_g3.2.2.2.2.2.2.2.2 (Or.inl rfl) h
  · refine r_aload_n hE 0 dX5_isName_g0.2.2.2.2.1 rfl rfl ?_
    obtain ⟨hj, h⟩ := h
    refine cg_rd_figure hE hm fk_X5_36 dX5_isName_g0.2.2.2.2.2.1 hj ?_
    refine r_aload_n hE 0 dX5_isName_g0.2.2.2.2.2.2.1 rfl rfl ?_
    refine cg_rd_at hE hm fk_X5_9 dX5_isName_g0.2.2.2.2.2.2.2.1 ?_
    refine ks_ldc (tx := "macro") (i := 1) hE hm (List.mem_of_getElem? (i := 1) rfl) dX5_isName_g0.2.2.2.2.2.2.2.2.1 ?_
    refine c_callVi hE hm [.int (c_rd_at σ), .ref (G.1 (5000 + 1))] [] ck_X5_45 (cr_sp hm rfl) (kc_sp_isWord_s h) (by decide) rfl rfl (Nat.le_of_ble_eq_true rfl) dX5_isName_g0.2.2.2.2.2.2.2.2.2.1 (fun s1 r2 h => ?_)
    refine r_if_ne hE 124 dX5_isName_g0.2.2.2.2.2.2.2.2.2.2.1 (by decide) h (fun h => ?_) (fun h => ?_)
    · refine r_iconst (v := (0 : Int32)) hE dX5_isName_g3.2.2.2.2.2.2.2.1 (by decide) ?_
      exact c_zret hE hm hF dX5_isName_g3.2.2.2.2.2.2.2.2 (Or.inl rfl) h
    · refine r_aload_n hE 0 dX5_isName_g0.2.2.2.2.2.2.2.2.2.2.2.1 rfl rfl ?_
      obtain ⟨hj, h⟩ := h
      refine cg_rd_figure hE hm fk_X5_36 dX5_isName_g0.2.2.2.2.2.2.2.2.2.2.2.2.1 hj ?_
      refine r_aload_n hE 0 dX5_isName_g0.2.2.2.2.2.2.2.2.2.2.2.2.2.1 rfl rfl ?_
      refine cg_rd_at hE hm fk_X5_9 dX5_isName_g0.2.2.2.2.2.2.2.2.2.2.2.2.2.2.1 ?_
      refine ks_ldc (tx := "if") (i := 2) hE hm (List.mem_of_getElem? (i := 2) rfl) dX5_isName_g0.2.2.2.2.2.2.2.2.2.2.2.2.2.2.2 ?_
      refine c_callVi hE hm [.int (c_rd_at s1), .ref (G.1 (5000 + 2))] [] ck_X5_45 (cr_sp hm rfl) (kc_sp_isWord_s h) (by decide) rfl rfl (Nat.le_of_ble_eq_true rfl) dX5_isName_g1.1 (fun s3 r4 h => ?_)
      refine r_if_ne hE 124 dX5_isName_g1.2.1 (by decide) h (fun h => ?_) (fun h => ?_)
      · refine r_iconst (v := (0 : Int32)) hE dX5_isName_g3.2.2.2.2.2.2.2.1 (by decide) ?_
        exact c_zret hE hm hF dX5_isName_g3.2.2.2.2.2.2.2.2 (Or.inl rfl) h
      · refine r_aload_n hE 0 dX5_isName_g1.2.2.1 rfl rfl ?_
        obtain ⟨hj, h⟩ := h
        refine cg_rd_figure hE hm fk_X5_36 dX5_isName_g1.2.2.2.1 hj ?_
        refine r_aload_n hE 0 dX5_isName_g1.2.2.2.2.1 rfl rfl ?_
        refine cg_rd_at hE hm fk_X5_9 dX5_isName_g1.2.2.2.2.2.1 ?_
        refine ks_ldc (tx := "else") (i := 3) hE hm (List.mem_of_getElem? (i := 3) rfl) dX5_isName_g1.2.2.2.2.2.2.1 ?_
        refine c_callVi hE hm [.int (c_rd_at s3), .ref (G.1 (5000 + 3))] [] ck_X5_45 (cr_sp hm rfl) (kc_sp_isWord_s h) (by decide) rfl rfl (Nat.le_of_ble_eq_true rfl) dX5_isName_g1.2.2.2.2.2.2.2.1 (fun s5 r6 h => ?_)
        refine r_if_ne hE 124 dX5_isName_g1.2.2.2.2.2.2.2.2.1 (by decide) h (fun h => ?_) (fun h => ?_)
        · refine r_iconst (v := (0 : Int32)) hE dX5_isName_g3.2.2.2.2.2.2.2.1 (by decide) ?_
          exact c_zret hE hm hF dX5_isName_g3.2.2.2.2.2.2.2.2 (Or.inl rfl) h
        · refine r_aload_n hE 0 dX5_isName_g1.2.2.2.2.2.2.2.2.2.1 rfl rfl ?_
          obtain ⟨hj, h⟩ := h
          refine cg_rd_figure hE hm fk_X5_36 dX5_isName_g1.2.2.2.2.2.2.2.2.2.2.1 hj ?_
          refine r_aload_n hE 0 dX5_isName_g1.2.2.2.2.2.2.2.2.2.2.2.1 rfl rfl ?_
          refine cg_rd_at hE hm fk_X5_9 dX5_isName_g1.2.2.2.2.2.2.2.2.2.2.2.2.1 ?_
          refine ks_ldc (tx := "times") (i := 4) hE hm (List.mem_of_getElem? (i := 4) rfl) dX5_isName_g1.2.2.2.2.2.2.2.2.2.2.2.2.2.1 ?_
          refine c_callVi hE hm [.int (c_rd_at s5), .ref (G.1 (5000 + 4))] [] ck_X5_45 (cr_sp hm rfl) (kc_sp_isWord_s h) (by decide) rfl rfl (Nat.le_of_ble_eq_true rfl) dX5_isName_g1.2.2.2.2.2.2.2.2.2.2.2.2.2.2.1 (fun s7 r8 h => ?_)
          refine r_if_ne hE 124 dX5_isName_g1.2.2.2.2.2.2.2.2.2.2.2.2.2.2.2 (by decide) h (fun h => ?_) (fun h => ?_)
          · refine r_iconst (v := (0 : Int32)) hE dX5_isName_g3.2.2.2.2.2.2.2.1 (by decide) ?_
            exact c_zret hE hm hF dX5_isName_g3.2.2.2.2.2.2.2.2 (Or.inl rfl) h
          · refine r_aload_n hE 0 dX5_isName_g2.1 rfl rfl ?_
            obtain ⟨hj, h⟩ := h
            refine cg_rd_figure hE hm fk_X5_36 dX5_isName_g2.2.1 hj ?_
            refine r_aload_n hE 0 dX5_isName_g2.2.2.1 rfl rfl ?_
            refine cg_rd_at hE hm fk_X5_9 dX5_isName_g2.2.2.2.1 ?_
            refine ks_ldc (tx := "state") (i := 5) hE hm (List.mem_of_getElem? (i := 5) rfl) dX5_isName_g2.2.2.2.2.1 ?_
            refine c_callVi hE hm [.int (c_rd_at s7), .ref (G.1 (5000 + 5))] [] ck_X5_45 (cr_sp hm rfl) (kc_sp_isWord_s h) (by decide) rfl rfl (Nat.le_of_ble_eq_true rfl) dX5_isName_g2.2.2.2.2.2.1 (fun s9 r10 h => ?_)
            refine r_if_ne hE 124 dX5_isName_g2.2.2.2.2.2.2.1 (by decide) h (fun h => ?_) (fun h => ?_)
            · refine r_iconst (v := (0 : Int32)) hE dX5_isName_g3.2.2.2.2.2.2.2.1 (by decide) ?_
              exact c_zret hE hm hF dX5_isName_g3.2.2.2.2.2.2.2.2 (Or.inl rfl) h
            · refine r_aload_n hE 0 dX5_isName_g2.2.2.2.2.2.2.2.1 rfl rfl ?_
              obtain ⟨hj, h⟩ := h
              refine cg_rd_figure hE hm fk_X5_36 dX5_isName_g2.2.2.2.2.2.2.2.2.1 hj ?_
              refine r_aload_n hE 0 dX5_isName_g2.2.2.2.2.2.2.2.2.2.1 rfl rfl ?_
              refine cg_rd_at hE hm fk_X5_9 dX5_isName_g2.2.2.2.2.2.2.2.2.2.2.1 ?_
              refine ks_ldc (tx := "draw") (i := 6) hE hm (List.mem_of_getElem? (i := 6) rfl) dX5_isName_g2.2.2.2.2.2.2.2.2.2.2.2.1 ?_
              refine c_callVi hE hm [.int (c_rd_at s9), .ref (G.1 (5000 + 6))] [] ck_X5_45 (cr_sp hm rfl) (kc_sp_isWord_s h) (by decide) rfl rfl (Nat.le_of_ble_eq_true rfl) dX5_isName_g2.2.2.2.2.2.2.2.2.2.2.2.2.1 (fun s11 r12 h => ?_)
              refine r_if_ne hE 124 dX5_isName_g2.2.2.2.2.2.2.2.2.2.2.2.2.2.1 (by decide) h (fun h => ?_) (fun h => ?_)
              · refine r_iconst (v := (0 : Int32)) hE dX5_isName_g3.2.2.2.2.2.2.2.1 (by decide) ?_
                exact c_zret hE hm hF dX5_isName_g3.2.2.2.2.2.2.2.2 (Or.inl rfl) h
              · refine r_aload_n hE 0 dX5_isName_g2.2.2.2.2.2.2.2.2.2.2.2.2.2.2.1 rfl rfl ?_
                obtain ⟨hj, h⟩ := h
                refine cg_rd_figure hE hm fk_X5_36 dX5_isName_g2.2.2.2.2.2.2.2.2.2.2.2.2.2.2.2 hj ?_
                refine r_aload_n hE 0 dX5_isName_g3.1 rfl rfl ?_
                refine cg_rd_at hE hm fk_X5_9 dX5_isName_g3.2.1 ?_
                refine ks_ldc (tx := "give") (i := 7) hE hm (List.mem_of_getElem? (i := 7) rfl) dX5_isName_g3.2.2.1 ?_
                refine c_callVi hE hm [.int (c_rd_at s11), .ref (G.1 (5000 + 7))] [] ck_X5_45 (cr_sp hm rfl) (kc_sp_isWord_s h) (by decide) rfl rfl (Nat.le_of_ble_eq_true rfl) dX5_isName_g3.2.2.2.1 (fun s13 r14 h => ?_)
                refine r_if_ne hE 124 dX5_isName_g3.2.2.2.2.1 (by decide) h (fun h => ?_) (fun h => ?_)
                · refine r_iconst (v := (0 : Int32)) hE dX5_isName_g3.2.2.2.2.2.2.2.1 (by decide) ?_
                  exact c_zret hE hm hF dX5_isName_g3.2.2.2.2.2.2.2.2 (Or.inl rfl) h
                · refine r_iconst (v := (1 : Int32)) hE dX5_isName_g3.2.2.2.2.2.1 (by decide) ?_
                  refine r_goto hE 125 dX5_isName_g3.2.2.2.2.2.2.1 (by decide) ?_
                  exact c_zret hE hm hF dX5_isName_g3.2.2.2.2.2.2.2.2 (Or.inr rfl) h
/-! sp_become -/
def wc_sp_become (post : CS → Prop) (σ : CS) (a1 : Int32) (a2 : Int32) (a3 : Int32) : Prop := ((a1 < (0 : Int32)) → (post σ)) ∧ ((¬ (a1 < (0 : Int32))) → ((((c_sp_nodes σ) ≤ a1) → (post σ)) ∧ ((¬ ((c_sp_nodes σ) ≤ a1)) → (vp_in a1 250 ∧ (∀ s1 : CS, s1 = c_sp_type_s σ a1.toNatClampNeg a2 → vp_in a1 250 ∧ (∀ s2 : CS, s2 = c_sp_data_s s1 a1.toNatClampNeg a3 → post s2))))))
set_option maxRecDepth 20000 in
theorem kc_sp_become {l : Launch} {D : va_G} {G : gAd} {post : CS → Prop} {σ : CS} {a1 : Int32} {a2 : Int32} {a3 : Int32} (h : wc_sp_become post σ a1 a2 a3) : cMet l D G yX1_become cX1_become 4 none 1 [.ref (G.1 400), .int a1, .int a2, .int a3] σ (pV post) := by
  unfold wc_sp_become at h
  refine c_enter (own := RX1) (by decide +kernel) rfl [(0, .ref (G.1 400)), (1, .int a1), (2, .int a2), (3, .int a3)] rfl (Nat.le_of_ble_eq_true rfl) ?_
  intro E hE hm hF
  have hN := hm.2.2.2.2.2.2.1
  refine r_iload_n hE 1 dX1_become_g0.1 rfl rfl ?_
  refine r_if_lt hE 26 dX1_become_g0.2.1 (by decide) h (fun h => ?_) (fun h => ?_)
  · exact c_vret hE hm hF dX1_become_g1 h
  · refine r_iload_n hE 1 dX1_become_g0.2.2.1 rfl rfl ?_
    refine r_aload_n hE 0 dX1_become_g0.2.2.2.1 rfl rfl ?_
    refine cg_sp_nodes hE hm fk_X1_41 dX1_become_g0.2.2.2.2.1 ?_
    refine r_icmp_ge hE 26 dX1_become_g0.2.2.2.2.2.1 (by decide) h (fun h => ?_) (fun h => ?_)
    · exact c_vret hE hm hF dX1_become_g1 h
    · refine r_aload_n hE 0 dX1_become_g0.2.2.2.2.2.2.1 rfl rfl ?_
      refine cg_sp_type hE hm fk_X1_19 dX1_become_g0.2.2.2.2.2.2.2.1 ?_
      refine r_iload_n hE 1 dX1_become_g0.2.2.2.2.2.2.2.2.1 rfl rfl ?_
      refine r_iload_n hE 2 dX1_become_g0.2.2.2.2.2.2.2.2.2.1 rfl rfl ?_
      obtain ⟨hi, h⟩ := h
      refine cs_sp_type hE hm dX1_become_g0.2.2.2.2.2.2.2.2.2.2.1 hi h (fun s1 h => ?_)
      refine r_aload_n hE 0 dX1_become_g0.2.2.2.2.2.2.2.2.2.2.2.1 rfl rfl ?_
      refine cg_sp_data hE hm fk_X1_26 dX1_become_g0.2.2.2.2.2.2.2.2.2.2.2.2.1 ?_
      refine r_iload_n hE 1 dX1_become_g0.2.2.2.2.2.2.2.2.2.2.2.2.2.1 rfl rfl ?_
      refine r_iload_n hE 3 dX1_become_g0.2.2.2.2.2.2.2.2.2.2.2.2.2.2.1 rfl rfl ?_
      obtain ⟨hi, h⟩ := h
      refine cs_sp_data hE hm dX1_become_g0.2.2.2.2.2.2.2.2.2.2.2.2.2.2.2 hi h (fun s2 h => ?_)
      exact c_vret hE hm hF dX1_become_g1 h
/-! sp_namesIn -/
def wc_sp_namesIn (post : CS → Int32 → Prop) (σ : CS) (a1 : Int32) : Prop := wc_SX12_inside (fun (s1 : CS) (r2 : Int32) => ((r2 = (0 : Int32)) → (post s1 (0 : Int32))) ∧ ((¬ (r2 = (0 : Int32))) → (vp_in a1 13 ∧ (post s1 (c_sp_names s1 a1.toNatClampNeg))))) σ a1 (13 : Int32)
set_option maxRecDepth 20000 in
theorem kc_sp_namesIn {l : Launch} {D : va_G} {G : gAd} {post : CS → Int32 → Prop} {σ : CS} {a1 : Int32} (h : wc_sp_namesIn post σ a1) : cMet l D G yX1_namesIn cX1_namesIn 2 (some .int) 2 [.ref (G.1 400), .int a1] σ (pI post) := by
  unfold wc_sp_namesIn at h
  refine c_enter (own := RX1) (by decide +kernel) rfl [(0, .ref (G.1 400)), (1, .int a1)] rfl (Nat.le_of_ble_eq_true rfl) ?_
  intro E hE hm hF
  have hN := hm.2.2.2.2.2.2.1
  refine r_iload_n hE 1 dX1_namesIn_g0.1 rfl rfl ?_
  refine r_aload_n hE 0 dX1_namesIn_g0.2.1 rfl rfl ?_
  refine cg_sp_names hE hm fk_X1_53 dX1_namesIn_g0.2.2.1 ?_
  refine cn_sp_names hE hm dX1_namesIn_g0.2.2.2.1 ?_
  refine c_callSNi hE hm [.int a1, .int (13 : Int32)] [] ck_X1_74 cw_X1_74 (kc_SX12_inside h) (by decide) rfl rfl (Nat.le_of_ble_eq_true rfl) dX1_namesIn_g0.2.2.2.2.1 (fun s1 r2 h => ?_)
  refine r_if_eq hE 21 dX1_namesIn_g0.2.2.2.2.2.1 (by decide) h (fun h => ?_) (fun h => ?_)
  · refine r_iconst (v := (0 : Int32)) hE dX1_namesIn_g0.2.2.2.2.2.2.2.2.2.2.2.1 (by decide) ?_
    exact c_iret hE hm hF dX1_namesIn_g0.2.2.2.2.2.2.2.2.2.2.2.2 h
  · refine r_aload_n hE 0 dX1_namesIn_g0.2.2.2.2.2.2.1 rfl rfl ?_
    refine cg_sp_names hE hm fk_X1_53 dX1_namesIn_g0.2.2.2.2.2.2.2.1 ?_
    refine r_iload_n hE 1 dX1_namesIn_g0.2.2.2.2.2.2.2.2.1 rfl rfl ?_
    obtain ⟨hi, h⟩ := h
    refine cl_sp_names hE hm dX1_namesIn_g0.2.2.2.2.2.2.2.2.2.1 hi ?_
    refine r_goto hE 22 dX1_namesIn_g0.2.2.2.2.2.2.2.2.2.2.1 (by decide) ?_
    exact c_iret hE hm hF dX1_namesIn_g0.2.2.2.2.2.2.2.2.2.2.2.2 h
/-! sp_sameWord -/
def wc_sp_sameWord_2 (post : CS → Int32 → Prop) : Nat → CS → Int32 → Int32 → Int32 → Prop
  | 0, _, _, _, _ => False
  | n + 1, σ, v1, v2, v3 => (((10 : Int32) ≤ v3) → (post σ (1 : Int32))) ∧ ((¬ ((10 : Int32) ≤ v3)) → (wc_sp_letterAt (fun (s1 : CS) (r2 : Int32) => wc_sp_letterAt (fun (s3 : CS) (r4 : Int32) => ((r2 = r4) → (((¬ (r2 = (0 : Int32))) → (∀ x5 : Int32, x5 = v3 + (1 : Int32) → wc_sp_sameWord_2 post n s3 v1 v2 x5)) ∧ ((r2 = (0 : Int32)) → (post s3 (1 : Int32))))) ∧ ((¬ (r2 = r4)) → (post s3 (0 : Int32)))) s1 (v2 + v3)) σ (v1 + v3)))
set_option maxRecDepth 20000 in
theorem kc_sp_sameWord_2  {E : gEnv} {l : Launch} {D : va_G} {G : gAd} {post : CS → Int32 → Prop} (hE : gOK E cX1_sameWord RX1 (some .boolean) 2) (hm : cOK E l D G (pI post) 5) (hF : gFin E) : ∀ (n0 : Nat) (σ : CS) (v1 : Int32) (v2 : Int32) (v3 : Int32), wc_sp_sameWord_2 post n0 σ v1 v2 v3 → GW E (cW G σ) 2 [(0, .ref (G.1 400)), (1, .int v1), (2, .int v2), (3, .int v3)] [] := by
  intro n0
  induction n0 with
  | zero => intro σ v1 v2 v3 h; exact h.elim
  | succ n0 ih =>
    intro σ v1 v2 v3 h
    rw [wc_sp_sameWord_2] at h
    have hN := hm.2.2.2.2.2.2.1
    refine r_iload_n hE 3 dX1_sameWord_g0.2.2.1 rfl rfl ?_
    refine r_bipush (v := (10 : Int32)) hE dX1_sameWord_g0.2.2.2.1 (by decide) ?_
    refine r_icmp_ge hE 44 dX1_sameWord_g0.2.2.2.2.1 (by decide) h (fun h => ?_) (fun h => ?_)
    · refine r_iconst (v := (1 : Int32)) hE dX1_sameWord_g1.2.2.2.2.2.2.2.2.2.2.1 (by decide) ?_
      exact c_zret hE hm hF dX1_sameWord_g1.2.2.2.2.2.2.2.2.2.2.2 (Or.inr rfl) h
    · refine r_aload_n hE 0 dX1_sameWord_g0.2.2.2.2.2.1 rfl rfl ?_
      refine r_iload_n hE 1 dX1_sameWord_g0.2.2.2.2.2.2.1 rfl rfl ?_
      refine r_iload_n hE 3 dX1_sameWord_g0.2.2.2.2.2.2.2.1 rfl rfl ?_
      refine r_iadd hE dX1_sameWord_g0.2.2.2.2.2.2.2.2.1 ?_
      refine c_callVi hE hm [.int (v1 + v3)] [] ck_X1_85 (cr_sp hm rfl) (kc_sp_letterAt h) (by decide) rfl rfl (Nat.le_of_ble_eq_true rfl) dX1_sameWord_g0.2.2.2.2.2.2.2.2.2.1 (fun s1 r2 h => ?_)
      refine r_istore hE [(4, .int r2), (0, .ref (G.1 400)), (1, .int v1), (2, .int v2), (3, .int v3)] dX1_sameWord_g0.2.2.2.2.2.2.2.2.2.2.1 hN (by decide) rfl ?_
      refine r_iload hE 0 dX1_sameWord_g0.2.2.2.2.2.2.2.2.2.2.2.1 rfl ?_
      refine r_aload_n hE 1 dX1_sameWord_g0.2.2.2.2.2.2.2.2.2.2.2.2.1 rfl rfl ?_
      refine r_iload_n hE 3 dX1_sameWord_g0.2.2.2.2.2.2.2.2.2.2.2.2.2.1 rfl rfl ?_
      refine r_iload_n hE 4 dX1_sameWord_g0.2.2.2.2.2.2.2.2.2.2.2.2.2.2.1 rfl rfl ?_
      refine r_iadd hE dX1_sameWord_g0.2.2.2.2.2.2.2.2.2.2.2.2.2.2.2 ?_
      refine c_callVi hE hm [.int (v2 + v3)] [.int r2] ck_X1_85 (cr_sp hm rfl) (kc_sp_letterAt h) (by decide) rfl rfl (Nat.le_of_ble_eq_true rfl) dX1_sameWord_g1.1 (fun s3 r4 h => ?_)
      refine r_icmp_eq hE 31 dX1_sameWord_g1.2.1 (by decide) h (fun h => ?_) (fun h => ?_)
      · refine r_iload hE 0 dX1_sameWord_g1.2.2.2.2.1 rfl ?_
        refine r_if_ne hE 38 dX1_sameWord_g1.2.2.2.2.2.1 (by decide) h (fun h => ?_) (fun h => ?_)
        · obtain ⟨x5, ex5⟩ : ∃ z : Int32, z = v3 + (1 : Int32) := ⟨_, rfl⟩
          have h := h x5 ex5
          refine r_iinc (v := x5) hE [(3, .int x5), (4, .int r2), (0, .ref (G.1 400)), (1, .int v1), (2, .int v2)] 4 dX1_sameWord_g1.2.2.2.2.2.2.2.2.1 rfl (by rw [ex5]; rfl) hN (by decide) rfl ?_
          refine r_goto hE 2 dX1_sameWord_g1.2.2.2.2.2.2.2.2.2.1 (by decide) ?_
          refine r_pick [2, 3, 4, 0] rfl ?_
          exact ih _ _ _ _ h
        · refine r_iconst (v := (1 : Int32)) hE dX1_sameWord_g1.2.2.2.2.2.2.1 (by decide) ?_
          exact c_zret hE hm hF dX1_sameWord_g1.2.2.2.2.2.2.2.1 (Or.inr rfl) h
      · refine r_iconst (v := (0 : Int32)) hE dX1_sameWord_g1.2.2.1 (by decide) ?_
        exact c_zret hE hm hF dX1_sameWord_g1.2.2.2.1 (Or.inl rfl) h
def wc_sp_sameWord (post : CS → Int32 → Prop) (σ : CS) (a1 : Int32) (a2 : Int32) : Prop := ∃ k : Nat, wc_sp_sameWord_2 post k σ a1 a2 (0 : Int32)
set_option maxRecDepth 20000 in
theorem kc_sp_sameWord {l : Launch} {D : va_G} {G : gAd} {post : CS → Int32 → Prop} {σ : CS} {a1 : Int32} {a2 : Int32} (h : wc_sp_sameWord post σ a1 a2) : cMet l D G yX1_sameWord cX1_sameWord 5 (some .boolean) 2 [.ref (G.1 400), .int a1, .int a2] σ (pI post) := by
  unfold wc_sp_sameWord at h
  refine c_enter (own := RX1) (by decide +kernel) rfl [(0, .ref (G.1 400)), (1, .int a1), (2, .int a2)] rfl (Nat.le_of_ble_eq_true rfl) ?_
  intro E hE hm hF
  have hN := hm.2.2.2.2.2.2.1
  refine r_iconst (v := (0 : Int32)) hE dX1_sameWord_g0.1 (by decide) ?_
  refine r_istore_n hE [(3, .int (0 : Int32)), (0, .ref (G.1 400)), (1, .int a1), (2, .int a2)] dX1_sameWord_g0.2.1 rfl hN (by decide) rfl ?_
  refine r_pick [1, 2, 3, 0] rfl ?_
  obtain ⟨k, h⟩ := h
  exact kc_sp_sameWord_2 hE hm hF k _ _ _ _ h
/-! sp_nameNumber -/
def wc_sp_nameNumber_2 (post : CS → Int32 → Prop) : Nat → CS → Int32 → Int32 → Int32 → Prop
  | 0, _, _, _, _ => False
  | n + 1, σ, v1, v2, v3 => wc_sp_namesIn (fun (s1 : CS) (r2 : Int32) => ((r2 ≤ v3) → (post s1 (-1 : Int32))) ∧ ((¬ (r2 ≤ v3)) → ((((20 : Int32) ≤ v3) → (post s1 (-1 : Int32))) ∧ ((¬ ((20 : Int32) ≤ v3)) → (vp_in ((v1 * (20 : Int32)) + v3) 260 ∧ (wc_sp_sameWord (fun (s3 : CS) (r4 : Int32) => ((r4 = (0 : Int32)) → (∀ x5 : Int32, x5 = v3 + (1 : Int32) → wc_sp_nameNumber_2 post n s3 v1 v2 x5)) ∧ ((¬ (r4 = (0 : Int32))) → (post s3 v3))) s1 (c_sp_nameAt s1 ((v1 * (20 : Int32)) + v3).toNatClampNeg) v2)))))) σ v1
set_option maxRecDepth 20000 in
theorem kc_sp_nameNumber_2  {E : gEnv} {l : Launch} {D : va_G} {G : gAd} {post : CS → Int32 → Prop} (hE : gOK E cX1_nameNumber RX1 (some .int) 3) (hm : cOK E l D G (pI post) 4) (hF : gFin E) : ∀ (n0 : Nat) (σ : CS) (v1 : Int32) (v2 : Int32) (v3 : Int32), wc_sp_nameNumber_2 post n0 σ v1 v2 v3 → GW E (cW G σ) 2 [(0, .ref (G.1 400)), (1, .int v1), (2, .int v2), (3, .int v3)] [] := by
  intro n0
  induction n0 with
  | zero => intro σ v1 v2 v3 h; exact h.elim
  | succ n0 ih =>
    intro σ v1 v2 v3 h
    rw [wc_sp_nameNumber_2] at h
    have hN := hm.2.2.2.2.2.2.1
    refine r_iload_n hE 3 dX1_nameNumber_g0.2.2.1 rfl rfl ?_
    refine r_aload_n hE 0 dX1_nameNumber_g0.2.2.2.1 rfl rfl ?_
    refine r_iload_n hE 1 dX1_nameNumber_g0.2.2.2.2.1 rfl rfl ?_
    refine c_callVi hE hm [.int v1] [.int v3] ck_X1_78 (cr_sp hm rfl) (kc_sp_namesIn h) (by decide) rfl rfl (Nat.le_of_ble_eq_true rfl) dX1_nameNumber_g0.2.2.2.2.2.1 (fun s1 r2 h => ?_)
    refine r_icmp_ge hE 44 dX1_nameNumber_g0.2.2.2.2.2.2.1 (by decide) h (fun h => ?_) (fun h => ?_)
    · refine r_iconst (v := (-1 : Int32)) hE dX1_nameNumber_g1.2.2.2.2.2.2.2.2.2.2.1 (by decide) ?_
      exact c_iret hE hm hF dX1_nameNumber_g1.2.2.2.2.2.2.2.2.2.2.2 h
    · refine r_iload_n hE 3 dX1_nameNumber_g0.2.2.2.2.2.2.2.1 rfl rfl ?_
      refine r_bipush (v := (20 : Int32)) hE dX1_nameNumber_g0.2.2.2.2.2.2.2.2.1 (by decide) ?_
      refine r_icmp_ge hE 44 dX1_nameNumber_g0.2.2.2.2.2.2.2.2.2.1 (by decide) h (fun h => ?_) (fun h => ?_)
      · refine r_iconst (v := (-1 : Int32)) hE dX1_nameNumber_g1.2.2.2.2.2.2.2.2.2.2.1 (by decide) ?_
        exact c_iret hE hm hF dX1_nameNumber_g1.2.2.2.2.2.2.2.2.2.2.2 h
      · refine r_aload_n hE 0 dX1_nameNumber_g0.2.2.2.2.2.2.2.2.2.2.1 rfl rfl ?_
        refine r_aload_n hE 0 dX1_nameNumber_g0.2.2.2.2.2.2.2.2.2.2.2.1 rfl rfl ?_
        refine cg_sp_nameAt hE hm fk_X1_50 dX1_nameNumber_g0.2.2.2.2.2.2.2.2.2.2.2.2.1 ?_
        refine r_iload_n hE 1 dX1_nameNumber_g0.2.2.2.2.2.2.2.2.2.2.2.2.2.1 rfl rfl ?_
        refine r_bipush (v := (20 : Int32)) hE dX1_nameNumber_g0.2.2.2.2.2.2.2.2.2.2.2.2.2.2.1 (by decide) ?_
        refine r_imul hE dX1_nameNumber_g0.2.2.2.2.2.2.2.2.2.2.2.2.2.2.2 ?_
        refine r_iload_n hE 3 dX1_nameNumber_g1.1 rfl rfl ?_
        refine r_iadd hE dX1_nameNumber_g1.2.1 ?_
        obtain ⟨hi, h⟩ := h
        refine cl_sp_nameAt hE hm dX1_nameNumber_g1.2.2.1 hi ?_
        refine r_iload_n hE 2 dX1_nameNumber_g1.2.2.2.1 rfl rfl ?_
        refine c_callVi hE hm [.int (c_sp_nameAt s1 ((v1 * (20 : Int32)) + v3).toNatClampNeg), .int v2] [] ck_X1_82 (cr_sp hm rfl) (kc_sp_sameWord h) (by decide) rfl rfl (Nat.le_of_ble_eq_true rfl) dX1_nameNumber_g1.2.2.2.2.1 (fun s3 r4 h => ?_)
        refine r_if_eq hE 38 dX1_nameNumber_g1.2.2.2.2.2.1 (by decide) h (fun h => ?_) (fun h => ?_)
        · obtain ⟨x5, ex5⟩ : ∃ z : Int32, z = v3 + (1 : Int32) := ⟨_, rfl⟩
          have h := h x5 ex5
          refine r_iinc (v := x5) hE [(3, .int x5), (0, .ref (G.1 400)), (1, .int v1), (2, .int v2)] 3 dX1_nameNumber_g1.2.2.2.2.2.2.2.2.1 rfl (by rw [ex5]; rfl) hN (by decide) rfl ?_
          refine r_goto hE 2 dX1_nameNumber_g1.2.2.2.2.2.2.2.2.2.1 (by decide) ?_
          refine r_pick [1, 2, 3, 0] rfl ?_
          exact ih _ _ _ _ h
        · refine r_iload_n hE 3 dX1_nameNumber_g1.2.2.2.2.2.2.1 rfl rfl ?_
          exact c_iret hE hm hF dX1_nameNumber_g1.2.2.2.2.2.2.2.1 h
def wc_sp_nameNumber (post : CS → Int32 → Prop) (σ : CS) (a1 : Int32) (a2 : Int32) : Prop := ∃ k : Nat, wc_sp_nameNumber_2 post k σ a1 a2 (0 : Int32)
set_option maxRecDepth 20000 in
theorem kc_sp_nameNumber {l : Launch} {D : va_G} {G : gAd} {post : CS → Int32 → Prop} {σ : CS} {a1 : Int32} {a2 : Int32} (h : wc_sp_nameNumber post σ a1 a2) : cMet l D G yX1_nameNumber cX1_nameNumber 4 (some .int) 3 [.ref (G.1 400), .int a1, .int a2] σ (pI post) := by
  unfold wc_sp_nameNumber at h
  refine c_enter (own := RX1) (by decide +kernel) rfl [(0, .ref (G.1 400)), (1, .int a1), (2, .int a2)] rfl (Nat.le_of_ble_eq_true rfl) ?_
  intro E hE hm hF
  have hN := hm.2.2.2.2.2.2.1
  refine r_iconst (v := (0 : Int32)) hE dX1_nameNumber_g0.1 (by decide) ?_
  refine r_istore_n hE [(3, .int (0 : Int32)), (0, .ref (G.1 400)), (1, .int a1), (2, .int a2)] dX1_nameNumber_g0.2.1 rfl hN (by decide) rfl ?_
  refine r_pick [1, 2, 3, 0] rfl ?_
  obtain ⟨k, h⟩ := h
  exact kc_sp_nameNumber_2 hE hm hF k _ _ _ _ h
