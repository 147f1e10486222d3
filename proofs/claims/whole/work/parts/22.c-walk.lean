/-! ft_layOnTape -/
def wc_ft_layOnTape_3 (post : CS → Prop) : Nat → CS → Int32 → Int32 → Prop
  | 0, _, _, _ => False
  | n + 1, σ, v1, v2 => ((v2 < (0 : Int32)) → (post σ)) ∧ ((¬ (v2 < (0 : Int32))) → ((((3000 : Int32) ≤ (c_ft_tapeLength σ)) → (post σ)) ∧ ((¬ ((3000 : Int32) ≤ (c_ft_tapeLength σ))) → (vp_in (c_ft_tapeLength σ) 3000 ∧ (∀ s1 : CS, s1 = c_ft_tape_s σ (c_ft_tapeLength σ).toNatClampNeg (((v1 >>> (v2 &&& 31)).toInt8.toInt32).toInt8.toInt32) → ∀ s2 : CS, s2 = c_ft_tapeLength_s s1 ((c_ft_tapeLength s1) + (1 : Int32)) → ∀ x3 : Int32, x3 = v2 + (-8 : Int32) → wc_ft_layOnTape_3 post n s2 v1 x3)))))
set_option maxRecDepth 20000 in
theorem kc_ft_layOnTape_3 {E : gEnv} {l : Launch} {D : va_G} {G : gAd} {post : CS → Prop} (hE : gOK E cX12_layOnTape RX12 none 1) (hm : cOK E l D G (pV post) 3) : ∀ (n : Nat) (σ : CS) (v1 : Int32) (v2 : Int32), wc_ft_layOnTape_3 post n σ v1 v2 → GW E (cW G σ) 3 [(0, .ref (G.1 200)), (1, .int v1), (2, .int v2)] [] := by
  intro n
  induction n with
  | zero => intro σ v1 v2 h; exact h.elim
  | succ n ih =>
    intro σ v1 v2 h
    rw [wc_ft_layOnTape_3] at h
    have hN := hm.2.2.2.2.2.2.1
    refine r_iload_n hE 2 dX12_layOnTape_g0.2.2.1 rfl rfl ?_
    refine r_if_lt hE 46 dX12_layOnTape_g0.2.2.2.1 (by decide) h (fun h => ?_) (fun h => ?_)
    · exact c_vret hE hm dX12_layOnTape_g1.2.2.2.2.2.2.2.2.2 h
    · refine r_aload_n hE 0 dX12_layOnTape_g0.2.2.2.2.1 rfl rfl ?_
      refine cg_ft_tapeLength hE hm fk_X12_13 dX12_layOnTape_g0.2.2.2.2.2.1 ?_
      refine r_sipush (v := (3000 : Int32)) hE dX12_layOnTape_g0.2.2.2.2.2.2.1 (by decide) ?_
      refine r_icmp_ge hE 46 dX12_layOnTape_g0.2.2.2.2.2.2.2.1 (by decide) h (fun h => ?_) (fun h => ?_)
      · exact c_vret hE hm dX12_layOnTape_g1.2.2.2.2.2.2.2.2.2 h
      · refine r_aload_n hE 0 dX12_layOnTape_g0.2.2.2.2.2.2.2.2.1 rfl rfl ?_
        refine cg_ft_tape hE hm fk_X12_9 dX12_layOnTape_g0.2.2.2.2.2.2.2.2.2.1 ?_
        refine r_aload_n hE 0 dX12_layOnTape_g0.2.2.2.2.2.2.2.2.2.2.1 rfl rfl ?_
        refine cg_ft_tapeLength hE hm fk_X12_13 dX12_layOnTape_g0.2.2.2.2.2.2.2.2.2.2.2.1 ?_
        refine r_iload_n hE 1 dX12_layOnTape_g0.2.2.2.2.2.2.2.2.2.2.2.2.1 rfl rfl ?_
        refine r_iload_n hE 2 dX12_layOnTape_g0.2.2.2.2.2.2.2.2.2.2.2.2.2.1 rfl rfl ?_
        refine r_ishr hE dX12_layOnTape_g0.2.2.2.2.2.2.2.2.2.2.2.2.2.2.1 ?_
        refine r_i2b hE dX12_layOnTape_g0.2.2.2.2.2.2.2.2.2.2.2.2.2.2.2 ?_
        obtain ⟨hi, h⟩ := h
        refine cs_ft_tape hE hm dX12_layOnTape_g1.1 hi h (fun s1 h => ?_)
        refine r_aload_n hE 0 dX12_layOnTape_g1.2.1 rfl rfl ?_
        refine r_dup hE dX12_layOnTape_g1.2.2.1 rfl ?_
        refine cg_ft_tapeLength hE hm fk_X12_13 dX12_layOnTape_g1.2.2.2.1 ?_
        refine r_iconst (v := (1 : Int32)) hE dX12_layOnTape_g1.2.2.2.2.1 (by decide) ?_
        refine r_iadd hE dX12_layOnTape_g1.2.2.2.2.2.1 ?_
        refine cp_ft_tapeLength hE hm fk_X12_13 dX12_layOnTape_g1.2.2.2.2.2.2.1 h (fun s2 h => ?_)
        obtain ⟨x3, ex3⟩ : ∃ z : Int32, z = v2 + (-8 : Int32) := ⟨_, rfl⟩
        have h := h x3 ex3
        refine r_iinc (v := x3) hE [(2, .int x3), (0, .ref (G.1 200)), (1, .int v1)] 2 dX12_layOnTape_g1.2.2.2.2.2.2.2.1 rfl (by rw [ex3]; rfl) hN (by decide) rfl ?_
        refine r_goto hE 3 dX12_layOnTape_g1.2.2.2.2.2.2.2.2.1 (by decide) ?_
        refine r_pick [1, 2, 0] rfl ?_
        exact ih _ _ _ h
def wc_ft_layOnTape (post : CS → Prop) (σ : CS) (a1 : Int32) : Prop := ∃ k : Nat, wc_ft_layOnTape_3 post k σ a1 (24 : Int32)
set_option maxRecDepth 20000 in
theorem kc_ft_layOnTape {l : Launch} {D : va_G} {G : gAd} {post : CS → Prop} {σ : CS} {a1 : Int32} (h : wc_ft_layOnTape post σ a1) : cMet l D G yX12_layOnTape cX12_layOnTape 3 none 1 [.ref (G.1 200), .int a1] σ (pV post) := by
  unfold wc_ft_layOnTape at h
  refine c_enter (own := RX12) (by decide +kernel) rfl [(0, .ref (G.1 200)), (1, .int a1)] rfl (Nat.le_of_ble_eq_true rfl) ?_
  intro E hE hm
  have hN := hm.2.2.2.2.2.2.1
  refine r_bipush (v := (24 : Int32)) hE dX12_layOnTape_g0.1 (by decide) ?_
  refine r_istore_n hE [(2, .int (24 : Int32)), (0, .ref (G.1 200)), (1, .int a1)] dX12_layOnTape_g0.2.1 rfl hN (by decide) rfl ?_
  refine r_pick [1, 2, 0] rfl ?_
  obtain ⟨k, h⟩ := h
  exact kc_ft_layOnTape_3 hE hm k _ _ _ h
/-! ft_feed -/
def wc_ft_feed (post : CS → Int32 → Prop) (σ : CS) (a1 : Int32) (a2 : Int32) (a3 : Int32) (a4 : Int32) (a5 : Int32) : Prop := ((((c_ft_tapeLength σ) + (20 : Int32)) ≤ (3000 : Int32)) → (wc_ft_layOnTape (fun (s1 : CS) => wc_ft_layOnTape (fun (s2 : CS) => wc_ft_layOnTape (fun (s3 : CS) => wc_ft_layOnTape (fun (s4 : CS) => wc_ft_layOnTape (fun (s5 : CS) => post s5 (c_ft_tapeLength s5)) s4 a5) s3 a4) s2 a3) s1 a2) σ a1)) ∧ ((¬ (((c_ft_tapeLength σ) + (20 : Int32)) ≤ (3000 : Int32))) → (post σ (-2000000003 : Int32)))
set_option maxRecDepth 20000 in
theorem kc_ft_feed {l : Launch} {D : va_G} {G : gAd} {post : CS → Int32 → Prop} {σ : CS} {a1 : Int32} {a2 : Int32} {a3 : Int32} {a4 : Int32} {a5 : Int32} (h : wc_ft_feed post σ a1 a2 a3 a4 a5) : cMet l D G yX12_feed cX12_feed 6 (some .int) 2 [.ref (G.1 200), .int a1, .int a2, .int a3, .int a4, .int a5] σ (pI post) := by
  unfold wc_ft_feed at h
  refine c_enter (own := RX12) (by decide +kernel) rfl [(0, .ref (G.1 200)), (1, .int a1), (2, .int a2), (3, .int a3), (4, .int a4), (5, .int a5)] rfl (Nat.le_of_ble_eq_true rfl) ?_
  intro E hE hm
  have hN := hm.2.2.2.2.2.2.1
  refine r_aload_n hE 0 dX12_feed_g0.1 rfl rfl ?_
  refine cg_ft_tapeLength hE hm fk_X12_13 dX12_feed_g0.2.1 ?_
  refine r_bipush (v := (20 : Int32)) hE dX12_feed_g0.2.2.1 (by decide) ?_
  refine r_iadd hE dX12_feed_g0.2.2.2.1 ?_
  refine r_sipush (v := (3000 : Int32)) hE dX12_feed_g0.2.2.2.2.1 (by decide) ?_
  refine r_icmp_le hE 16 dX12_feed_g0.2.2.2.2.2.1 (by decide) h (fun h => ?_) (fun h => ?_)
  · refine r_aload_n hE 0 dX12_feed_g0.2.2.2.2.2.2.2.2.1 rfl rfl ?_
    refine r_iload_n hE 1 dX12_feed_g0.2.2.2.2.2.2.2.2.2.1 rfl rfl ?_
    refine c_callVv hE hm [.int a1] [] ck_X12_112 (cr_ft hm rfl) (kc_ft_layOnTape h) (by decide) rfl rfl (Nat.le_of_ble_eq_true rfl) dX12_feed_g0.2.2.2.2.2.2.2.2.2.2.1 (fun s1 h => ?_)
    refine r_aload_n hE 0 dX12_feed_g0.2.2.2.2.2.2.2.2.2.2.2.1 rfl rfl ?_
    refine r_iload_n hE 2 dX12_feed_g0.2.2.2.2.2.2.2.2.2.2.2.2.1 rfl rfl ?_
    refine c_callVv hE hm [.int a2] [] ck_X12_112 (cr_ft hm rfl) (kc_ft_layOnTape h) (by decide) rfl rfl (Nat.le_of_ble_eq_true rfl) dX12_feed_g0.2.2.2.2.2.2.2.2.2.2.2.2.2.1 (fun s2 h => ?_)
    refine r_aload_n hE 0 dX12_feed_g0.2.2.2.2.2.2.2.2.2.2.2.2.2.2.1 rfl rfl ?_
    refine r_iload_n hE 3 dX12_feed_g0.2.2.2.2.2.2.2.2.2.2.2.2.2.2.2 rfl rfl ?_
    refine c_callVv hE hm [.int a3] [] ck_X12_112 (cr_ft hm rfl) (kc_ft_layOnTape h) (by decide) rfl rfl (Nat.le_of_ble_eq_true rfl) dX12_feed_g1.1 (fun s3 h => ?_)
    refine r_aload_n hE 0 dX12_feed_g1.2.1 rfl rfl ?_
    refine r_iload hE 4 dX12_feed_g1.2.2.1 rfl ?_
    refine c_callVv hE hm [.int a4] [] ck_X12_112 (cr_ft hm rfl) (kc_ft_layOnTape h) (by decide) rfl rfl (Nat.le_of_ble_eq_true rfl) dX12_feed_g1.2.2.2.1 (fun s4 h => ?_)
    refine r_aload_n hE 0 dX12_feed_g1.2.2.2.2.1 rfl rfl ?_
    refine r_iload hE 5 dX12_feed_g1.2.2.2.2.2.1 rfl ?_
    refine c_callVv hE hm [.int a5] [] ck_X12_112 (cr_ft hm rfl) (kc_ft_layOnTape h) (by decide) rfl rfl (Nat.le_of_ble_eq_true rfl) dX12_feed_g1.2.2.2.2.2.2.1 (fun s5 h => ?_)
    refine r_aload_n hE 0 dX12_feed_g1.2.2.2.2.2.2.2.1 rfl rfl ?_
    refine cg_ft_tapeLength hE hm fk_X12_13 dX12_feed_g1.2.2.2.2.2.2.2.2.1 ?_
    exact c_iret hE hm dX12_feed_g1.2.2.2.2.2.2.2.2.2 h
  · refine r_ldc (v := (-2000000003 : Int32)) hE dX12_feed_g0.2.2.2.2.2.2.1 (gTb_2 (List.mem_of_getElem? (i := 200) rfl) rfl) ?_
    exact c_iret hE hm dX12_feed_g0.2.2.2.2.2.2.2.1 h
/-! ft_cut -/
def wc_ft_cut (post : CS → Int32 → Prop) (σ : CS) (a1 : Int32) : Prop := ((a1 < (0 : Int32)) → (post σ (-2000000002 : Int32))) ∧ ((¬ (a1 < (0 : Int32))) → (((a1 ≤ (c_ft_tapeLength σ)) → (∀ x1 : Int32, x1 = (c_ft_tapeLength σ) - a1 → ∀ s2 : CS, s2 = c_ft_tapeLength_s σ a1 → post s2 x1)) ∧ ((¬ (a1 ≤ (c_ft_tapeLength σ))) → (post σ (-2000000002 : Int32)))))
set_option maxRecDepth 20000 in
theorem kc_ft_cut {l : Launch} {D : va_G} {G : gAd} {post : CS → Int32 → Prop} {σ : CS} {a1 : Int32} (h : wc_ft_cut post σ a1) : cMet l D G yX12_cut cX12_cut 3 (some .int) 1 [.ref (G.1 200), .int a1] σ (pI post) := by
  unfold wc_ft_cut at h
  refine c_enter (own := RX12) (by decide +kernel) rfl [(0, .ref (G.1 200)), (1, .int a1)] rfl (Nat.le_of_ble_eq_true rfl) ?_
  intro E hE hm
  have hN := hm.2.2.2.2.2.2.1
  refine r_iload_n hE 1 dX12_cut_g0.1 rfl rfl ?_
  refine r_if_lt hE 12 dX12_cut_g0.2.1 (by decide) h (fun h => ?_) (fun h => ?_)
  · refine r_ldc (v := (-2000000002 : Int32)) hE dX12_cut_g0.2.2.2.2.2.2.1 (gTb_2 (List.mem_of_getElem? (i := 209) rfl) rfl) ?_
    exact c_iret hE hm dX12_cut_g0.2.2.2.2.2.2.2.1 h
  · refine r_iload_n hE 1 dX12_cut_g0.2.2.1 rfl rfl ?_
    refine r_aload_n hE 0 dX12_cut_g0.2.2.2.1 rfl rfl ?_
    refine cg_ft_tapeLength hE hm fk_X12_13 dX12_cut_g0.2.2.2.2.1 ?_
    refine r_icmp_le hE 15 dX12_cut_g0.2.2.2.2.2.1 (by decide) h (fun h => ?_) (fun h => ?_)
    · refine r_aload_n hE 0 dX12_cut_g0.2.2.2.2.2.2.2.2.1 rfl rfl ?_
      refine cg_ft_tapeLength hE hm fk_X12_13 dX12_cut_g0.2.2.2.2.2.2.2.2.2.1 ?_
      refine r_iload_n hE 1 dX12_cut_g0.2.2.2.2.2.2.2.2.2.2.1 rfl rfl ?_
      refine r_isub hE dX12_cut_g0.2.2.2.2.2.2.2.2.2.2.2.1 ?_
      refine r_topi h (fun x1 ex1 h => ?_)
      refine r_istore_n hE [(2, .int x1), (0, .ref (G.1 200)), (1, .int a1)] dX12_cut_g0.2.2.2.2.2.2.2.2.2.2.2.2.1 rfl hN (by decide) rfl ?_
      refine r_aload_n hE 1 dX12_cut_g0.2.2.2.2.2.2.2.2.2.2.2.2.2.1 rfl rfl ?_
      refine r_iload_n hE 2 dX12_cut_g0.2.2.2.2.2.2.2.2.2.2.2.2.2.2.1 rfl rfl ?_
      refine cp_ft_tapeLength hE hm fk_X12_13 dX12_cut_g0.2.2.2.2.2.2.2.2.2.2.2.2.2.2.2 h (fun s2 h => ?_)
      refine r_iload_n hE 0 dX12_cut_g1.1 rfl rfl ?_
      exact c_iret hE hm dX12_cut_g1.2 h
    · refine r_ldc (v := (-2000000002 : Int32)) hE dX12_cut_g0.2.2.2.2.2.2.1 (gTb_2 (List.mem_of_getElem? (i := 209) rfl) rfl) ?_
      exact c_iret hE hm dX12_cut_g0.2.2.2.2.2.2.2.1 h
/-! ft_place -/
def wc_ft_place (post : CS → Int32 → Prop) (σ : CS) : Prop := post σ (c_ft_faultPlace σ)
set_option maxRecDepth 20000 in
theorem kc_ft_place {l : Launch} {D : va_G} {G : gAd} {post : CS → Int32 → Prop} {σ : CS} (h : wc_ft_place post σ) : cMet l D G yX12_place cX12_place 1 (some .int) 1 [.ref (G.1 200)] σ (pI post) := by
  unfold wc_ft_place at h
  refine c_enter (own := RX12) (by decide +kernel) rfl [(0, .ref (G.1 200))] rfl (Nat.le_of_ble_eq_true rfl) ?_
  intro E hE hm
  have hN := hm.2.2.2.2.2.2.1
  refine r_aload_n hE 0 dX12_place_g0.1 rfl rfl ?_
  refine cg_ft_faultPlace hE hm fk_X12_38 dX12_place_g0.2.1 ?_
  exact c_iret hE hm dX12_place_g0.2.2 h
/-! SX12_inside -/
def wc_SX12_inside (post : CS → Int32 → Prop) (σ : CS) (a0 : Int32) (a1 : Int32) : Prop := ((a0 < (0 : Int32)) → (post σ (0 : Int32))) ∧ ((¬ (a0 < (0 : Int32))) → (((a1 ≤ a0) → (post σ (0 : Int32))) ∧ ((¬ (a1 ≤ a0)) → (post σ (1 : Int32)))))
set_option maxRecDepth 20000 in
theorem kc_SX12_inside {l : Launch} {D : va_G} {G : gAd} {post : CS → Int32 → Prop} {σ : CS} {a0 : Int32} {a1 : Int32} (h : wc_SX12_inside post σ a0 a1) : cMet l D G yX12_inside cX12_inside 2 (some .boolean) 1 [.int a0, .int a1] σ (pI post) := by
  unfold wc_SX12_inside at h
  refine c_enter (own := RX12) (by decide +kernel) rfl [(0, .int a0), (1, .int a1)] rfl (Nat.le_of_ble_eq_true rfl) ?_
  intro E hE hm
  have hN := hm.2.2.2.2.2.2.1
  refine r_iload_n hE 0 dX12_inside_g0.1 rfl rfl ?_
  refine r_if_lt hE 13 dX12_inside_g0.2.1 (by decide) h (fun h => ?_) (fun h => ?_)
  · refine r_iconst (v := (0 : Int32)) hE dX12_inside_g0.2.2.2.2.2.2.2.1 (by decide) ?_
    exact c_zret hE hm dX12_inside_g0.2.2.2.2.2.2.2.2 (Or.inl rfl) h
  · refine r_iload_n hE 0 dX12_inside_g0.2.2.1 rfl rfl ?_
    refine r_iload_n hE 1 dX12_inside_g0.2.2.2.1 rfl rfl ?_
    refine r_icmp_ge hE 13 dX12_inside_g0.2.2.2.2.1 (by decide) h (fun h => ?_) (fun h => ?_)
    · refine r_iconst (v := (0 : Int32)) hE dX12_inside_g0.2.2.2.2.2.2.2.1 (by decide) ?_
      exact c_zret hE hm dX12_inside_g0.2.2.2.2.2.2.2.2 (Or.inl rfl) h
    · refine r_iconst (v := (1 : Int32)) hE dX12_inside_g0.2.2.2.2.2.1 (by decide) ?_
      refine r_goto hE 14 dX12_inside_g0.2.2.2.2.2.2.1 (by decide) ?_
      exact c_zret hE hm dX12_inside_g0.2.2.2.2.2.2.2.2 (Or.inr rfl) h
/-! fg_namesIn -/
def wc_fg_namesIn (post : CS → Int32 → Prop) (σ : CS) (a1 : Int32) : Prop := wc_SX12_inside (fun (s1 : CS) (r2 : Int32) => ((r2 = (0 : Int32)) → (post s1 (0 : Int32))) ∧ ((¬ (r2 = (0 : Int32))) → (vp_in a1 13 ∧ (post s1 (c_fg_names s1 a1.toNatClampNeg))))) σ a1 (13 : Int32)
set_option maxRecDepth 20000 in
theorem kc_fg_namesIn {l : Launch} {D : va_G} {G : gAd} {post : CS → Int32 → Prop} {σ : CS} {a1 : Int32} (h : wc_fg_namesIn post σ a1) : cMet l D G yX1_namesIn cX1_namesIn 2 (some .int) 2 [.ref (G.1 300), .int a1] σ (pI post) := by
  unfold wc_fg_namesIn at h
  refine c_enter (own := RX1) (by decide +kernel) rfl [(0, .ref (G.1 300)), (1, .int a1)] rfl (Nat.le_of_ble_eq_true rfl) ?_
  intro E hE hm
  have hN := hm.2.2.2.2.2.2.1
  refine r_iload_n hE 1 dX1_namesIn_g0.1 rfl rfl ?_
  refine r_aload_n hE 0 dX1_namesIn_g0.2.1 rfl rfl ?_
  refine cg_fg_names hE hm fk_X1_53 dX1_namesIn_g0.2.2.1 ?_
  refine cn_fg_names hE hm dX1_namesIn_g0.2.2.2.1 ?_
  refine c_callSNi hE hm [.int a1, .int (13 : Int32)] [] ck_X1_74 cw_X1_74 (kc_SX12_inside h) (by decide) rfl rfl (Nat.le_of_ble_eq_true rfl) dX1_namesIn_g0.2.2.2.2.1 (fun s1 r2 h => ?_)
  refine r_if_eq hE 21 dX1_namesIn_g0.2.2.2.2.2.1 (by decide) h (fun h => ?_) (fun h => ?_)
  · refine r_iconst (v := (0 : Int32)) hE dX1_namesIn_g0.2.2.2.2.2.2.2.2.2.2.2.1 (by decide) ?_
    exact c_iret hE hm dX1_namesIn_g0.2.2.2.2.2.2.2.2.2.2.2.2 h
  · refine r_aload_n hE 0 dX1_namesIn_g0.2.2.2.2.2.2.1 rfl rfl ?_
    refine cg_fg_names hE hm fk_X1_53 dX1_namesIn_g0.2.2.2.2.2.2.2.1 ?_
    refine r_iload_n hE 1 dX1_namesIn_g0.2.2.2.2.2.2.2.2.1 rfl rfl ?_
    obtain ⟨hi, h⟩ := h
    refine cl_fg_names hE hm dX1_namesIn_g0.2.2.2.2.2.2.2.2.2.1 hi ?_
    refine r_goto hE 22 dX1_namesIn_g0.2.2.2.2.2.2.2.2.2.2.1 (by decide) ?_
    exact c_iret hE hm dX1_namesIn_g0.2.2.2.2.2.2.2.2.2.2.2.2 h
/-! ft_about -/
def wc_ft_about (post : CS → Int32 → Prop) (σ : CS) (a1 : Int32) : Prop := ((a1 < (0 : Int32)) → (post σ (-2000000002 : Int32))) ∧ ((¬ (a1 < (0 : Int32))) → (((a1 ≤ (3 : Int32)) → (((¬ ((c_ft_hasFigure σ) = (0 : Int32))) → ((a1 = (0 : Int32) → (c_ft_figure σ = 300 ∧ (post σ (c_fg_macros σ)))) ∧ (¬ a1 = (0 : Int32) → ((a1 = (1 : Int32) → (c_ft_figure σ = 300 ∧ (post σ (c_fg_nodes σ)))) ∧ (¬ a1 = (1 : Int32) → ((a1 = (2 : Int32) → (c_ft_figure σ = 300 ∧ (post σ (c_fg_deeds σ)))) ∧ (¬ a1 = (2 : Int32) → (c_ft_figure σ = 300 ∧ (wc_fg_namesIn (fun (s1 : CS) (r2 : Int32) => post s1 r2) σ (12 : Int32)))))))))) ∧ (((c_ft_hasFigure σ) = (0 : Int32)) → (post σ (-2000000003 : Int32))))) ∧ ((¬ (a1 ≤ (3 : Int32))) → (post σ (-2000000002 : Int32)))))
set_option maxRecDepth 20000 in
theorem kc_ft_about {l : Launch} {D : va_G} {G : gAd} {post : CS → Int32 → Prop} {σ : CS} {a1 : Int32} (h : wc_ft_about post σ a1) : cMet l D G yX12_about cX12_about 2 (some .int) 3 [.ref (G.1 200), .int a1] σ (pI post) := by
  unfold wc_ft_about at h
  refine c_enter (own := RX12) (by decide +kernel) rfl [(0, .ref (G.1 200)), (1, .int a1)] rfl (Nat.le_of_ble_eq_true rfl) ?_
  intro E hE hm
  have hN := hm.2.2.2.2.2.2.1
  refine r_iload_n hE 1 dX12_about_g0.1 rfl rfl ?_
  refine r_if_lt hE 9 dX12_about_g0.2.1 (by decide) h (fun h => ?_) (fun h => ?_)
  · refine r_ldc (v := (-2000000002 : Int32)) hE dX12_about_g0.2.2.2.2.2.1 (gTb_2 (List.mem_of_getElem? (i := 209) rfl) rfl) ?_
    exact c_iret hE hm dX12_about_g0.2.2.2.2.2.2.1 h
  · refine r_iload_n hE 1 dX12_about_g0.2.2.1 rfl rfl ?_
    refine r_iconst (v := (3 : Int32)) hE dX12_about_g0.2.2.2.1 (by decide) ?_
    refine r_icmp_le hE 12 dX12_about_g0.2.2.2.2.1 (by decide) h (fun h => ?_) (fun h => ?_)
    · refine r_aload_n hE 0 dX12_about_g0.2.2.2.2.2.2.2.1 rfl rfl ?_
      refine cg_ft_hasFigure hE hm fk_X12_34 dX12_about_g0.2.2.2.2.2.2.2.2.1 ?_
      refine r_if_ne hE 22 dX12_about_g0.2.2.2.2.2.2.2.2.2.1 (by decide) h (fun h => ?_) (fun h => ?_)
      · refine r_iload_n hE 1 dX12_about_g0.2.2.2.2.2.2.2.2.2.2.2.2.1 rfl rfl ?_
        refine r_case (0 : Int32) h (fun q0 h => ?_) (fun q0 h => ?_)
        · refine r_tableAt (off := 25) hE (0 : Int32) 48 dX12_about_g0.2.2.2.2.2.2.2.2.2.2.2.2.2.1 q0 (by decide) (by decide) (by decide) (by decide) ?_
          refine r_aload_n hE 0 dX12_about_g0.2.2.2.2.2.2.2.2.2.2.2.2.2.2.1 rfl rfl ?_
          obtain ⟨hj, h⟩ := h
          refine cg_ft_figure hE hm fk_X12_27 dX12_about_g0.2.2.2.2.2.2.2.2.2.2.2.2.2.2.2 hj ?_
          refine cg_fg_macros hE hm fk_X12_135 dX12_about_g1.1 ?_
          exact c_iret hE hm dX12_about_g1.2.1 h
        · refine r_case (1 : Int32) h (fun q1 h => ?_) (fun q1 h => ?_)
          · refine r_tableAt (off := 33) hE (1 : Int32) 56 dX12_about_g0.2.2.2.2.2.2.2.2.2.2.2.2.2.1 q1 (by decide) (by decide) (by decide) (by decide) ?_
            refine r_aload_n hE 0 dX12_about_g1.2.2.1 rfl rfl ?_
            obtain ⟨hj, h⟩ := h
            refine cg_ft_figure hE hm fk_X12_27 dX12_about_g1.2.2.2.1 hj ?_
            refine cg_fg_nodes hE hm fk_X12_132 dX12_about_g1.2.2.2.2.1 ?_
            exact c_iret hE hm dX12_about_g1.2.2.2.2.2.1 h
          · refine r_case (2 : Int32) h (fun q2 h => ?_) (fun q2 h => ?_)
            · refine r_tableAt (off := 41) hE (2 : Int32) 64 dX12_about_g0.2.2.2.2.2.2.2.2.2.2.2.2.2.1 q2 (by decide) (by decide) (by decide) (by decide) ?_
              refine r_aload_n hE 0 dX12_about_g1.2.2.2.2.2.2.1 rfl rfl ?_
              obtain ⟨hj, h⟩ := h
              refine cg_ft_figure hE hm fk_X12_27 dX12_about_g1.2.2.2.2.2.2.2.1 hj ?_
              refine cg_fg_deeds hE hm fk_X12_138 dX12_about_g1.2.2.2.2.2.2.2.2.1 ?_
              exact c_iret hE hm dX12_about_g1.2.2.2.2.2.2.2.2.2.1 h
            · have n0 := lv_neT q0 (show (0 : Int32).toInt = 0 by decide)
              have n1 := lv_neT q1 (show (1 : Int32).toInt = 1 by decide)
              have n2 := lv_neT q2 (show (2 : Int32).toInt = 2 by decide)
              refine r_tableOut hE 72 dX12_about_g0.2.2.2.2.2.2.2.2.2.2.2.2.2.1 (by omega) (by decide) ?_
              refine r_aload_n hE 0 dX12_about_g1.2.2.2.2.2.2.2.2.2.2.1 rfl rfl ?_
              obtain ⟨hj, h⟩ := h
              refine cg_ft_figure hE hm fk_X12_27 dX12_about_g1.2.2.2.2.2.2.2.2.2.2.2.1 hj ?_
              refine r_bipush (v := (12 : Int32)) hE dX12_about_g1.2.2.2.2.2.2.2.2.2.2.2.2.1 (by decide) ?_
              refine c_callVi hE hm [.int (12 : Int32)] [] ck_X12_141 (cr_fg hm rfl) (kc_fg_namesIn h) (by decide) rfl rfl (Nat.le_of_ble_eq_true rfl) dX12_about_g1.2.2.2.2.2.2.2.2.2.2.2.2.2.1 (fun s1 r2 h => ?_)
              exact c_iret hE hm dX12_about_g1.2.2.2.2.2.2.2.2.2.2.2.2.2.2 h
      · refine r_ldc (v := (-2000000003 : Int32)) hE dX12_about_g0.2.2.2.2.2.2.2.2.2.2.1 (gTb_2 (List.mem_of_getElem? (i := 200) rfl) rfl) ?_
        exact c_iret hE hm dX12_about_g0.2.2.2.2.2.2.2.2.2.2.2.1 h
    · refine r_ldc (v := (-2000000002 : Int32)) hE dX12_about_g0.2.2.2.2.2.1 (gTb_2 (List.mem_of_getElem? (i := 209) rfl) rfl) ?_
      exact c_iret hE hm dX12_about_g0.2.2.2.2.2.2.1 h
/-! fr_moveTo -/
def wc_fr_moveTo (post : CS → Prop) (σ : CS) (a1 : Int32) (a2 : Int64) (a4 : Int64) : Prop := wc_SX12_inside (fun (s1 : CS) (r2 : Int32) => ((r2 = (0 : Int32)) → (post s1)) ∧ ((¬ (r2 = (0 : Int32))) → (vp_in a1 12 ∧ (∀ s3 : CS, s3 = c_fr_moved_s s1 a1.toNatClampNeg (1 : Int32) → vp_in a1 12 ∧ (∀ s4 : CS, s4 = c_fr_toX_s s3 a1.toNatClampNeg a2 → vp_in a1 12 ∧ (∀ s5 : CS, s5 = c_fr_toY_s s4 a1.toNatClampNeg a4 → post s5)))))) σ a1 (12 : Int32)
set_option maxRecDepth 20000 in
theorem kc_fr_moveTo {l : Launch} {D : va_G} {G : gAd} {post : CS → Prop} {σ : CS} {a1 : Int32} {a2 : Int64} {a4 : Int64} (h : wc_fr_moveTo post σ a1 a2 a4) : cMet l D G yX2_moveTo cX2_moveTo 6 none 2 [.ref (G.1 1000), .int a1, .long a2, .long a4] σ (pV post) := by
  unfold wc_fr_moveTo at h
  refine c_enter (own := RX2) (by decide +kernel) rfl [(0, .ref (G.1 1000)), (1, .int a1), (2, .long a2), (4, .long a4)] rfl (Nat.le_of_ble_eq_true rfl) ?_
  intro E hE hm
  have hN := hm.2.2.2.2.2.2.1
  refine r_iload_n hE 1 dX2_moveTo_g0.1 rfl rfl ?_
  refine r_bipush (v := (12 : Int32)) hE dX2_moveTo_g0.2.1 (by decide) ?_
  refine c_callSNi hE hm [.int a1, .int (12 : Int32)] [] ck_X2_39 cw_X2_39 (kc_SX12_inside h) (by decide) rfl rfl (Nat.le_of_ble_eq_true rfl) dX2_moveTo_g0.2.2.1 (fun s1 r2 h => ?_)
  refine r_if_eq hE 31 dX2_moveTo_g0.2.2.2.1 (by decide) h (fun h => ?_) (fun h => ?_)
  · exact c_vret hE hm dX2_moveTo_g1.2.2.2 h
  · refine r_aload_n hE 0 dX2_moveTo_g0.2.2.2.2.1 rfl rfl ?_
    refine cg_fr_moved hE hm fk_X2_9 dX2_moveTo_g0.2.2.2.2.2.1 ?_
    refine r_iload_n hE 1 dX2_moveTo_g0.2.2.2.2.2.2.1 rfl rfl ?_
    refine r_iconst (v := (1 : Int32)) hE dX2_moveTo_g0.2.2.2.2.2.2.2.1 (by decide) ?_
    obtain ⟨hi, h⟩ := h
    refine cs_fr_moved hE hm dX2_moveTo_g0.2.2.2.2.2.2.2.2.1 hi (Or.inr rfl) h (fun s3 h => ?_)
    refine r_aload_n hE 0 dX2_moveTo_g0.2.2.2.2.2.2.2.2.2.1 rfl rfl ?_
    refine cg_fr_toX hE hm fk_X2_15 dX2_moveTo_g0.2.2.2.2.2.2.2.2.2.2.1 ?_
    refine r_iload_n hE 1 dX2_moveTo_g0.2.2.2.2.2.2.2.2.2.2.2.1 rfl rfl ?_
    refine r_lload_n hE 2 dX2_moveTo_g0.2.2.2.2.2.2.2.2.2.2.2.2.1 rfl rfl ?_
    obtain ⟨hi, h⟩ := h
    refine cs_fr_toX hE hm dX2_moveTo_g0.2.2.2.2.2.2.2.2.2.2.2.2.2.1 hi h (fun s4 h => ?_)
    refine r_aload_n hE 0 dX2_moveTo_g0.2.2.2.2.2.2.2.2.2.2.2.2.2.2.1 rfl rfl ?_
    refine cg_fr_toY hE hm fk_X2_19 dX2_moveTo_g0.2.2.2.2.2.2.2.2.2.2.2.2.2.2.2 ?_
    refine r_iload_n hE 1 dX2_moveTo_g1.1 rfl rfl ?_
    refine r_lload hE 3 dX2_moveTo_g1.2.1 rfl ?_
    obtain ⟨hi, h⟩ := h
    refine cs_fr_toY hE hm dX2_moveTo_g1.2.2.1 hi h (fun s5 h => ?_)
    exact c_vret hE hm dX2_moveTo_g1.2.2.2 h
/-! rk_begin -/
def wc_rk_begin (post : CS → Prop) (σ : CS) : Prop := ∀ s1 : CS, s1 = c_rk_failure_s σ (0 : Int32) → post s1
set_option maxRecDepth 20000 in
theorem kc_rk_begin {l : Launch} {D : va_G} {G : gAd} {post : CS → Prop} {σ : CS} (h : wc_rk_begin post σ) : cMet l D G yX6_begin cX6_begin 1 none 1 [.ref (G.1 800)] σ (pV post) := by
  unfold wc_rk_begin at h
  refine c_enter (own := RX6) (by decide +kernel) rfl [(0, .ref (G.1 800))] rfl (Nat.le_of_ble_eq_true rfl) ?_
  intro E hE hm
  have hN := hm.2.2.2.2.2.2.1
  refine r_aload_n hE 0 dX6_begin_g0.1 rfl rfl ?_
  refine r_iconst (v := (0 : Int32)) hE dX6_begin_g0.2.1 (by decide) ?_
  refine cp_rk_failure hE hm fk_X6_9 dX6_begin_g0.2.2.1 h (fun s1 h => ?_)
  exact c_vret hE hm dX6_begin_g0.2.2.2 h
/-! rk_reduced -/
def wc_rk_reduced_150 (post : CS → Int64 → Prop) (σ : CS) : Prop := ∀ s1 : CS, s1 = c_rk_failure_s σ (7 : Int32) → post s1 (1 : Int64)
set_option maxRecDepth 20000 in
theorem kc_rk_reduced_150 {E : gEnv} {l : Launch} {D : va_G} {G : gAd} {post : CS → Int64 → Prop} (hE : gOK E cX6_reduced RX6 (some .long) 1) (hm : cOK E l D G (pL post) 13) (σ : CS) (h : wc_rk_reduced_150 post σ) : GW E (cW G σ) 150 [(0, .ref (G.1 800))] [] := by
  unfold wc_rk_reduced_150 at h
  have hN := hm.2.2.2.2.2.2.1
  refine r_aload_n hE 0 dX6_reduced_g5.2.2.2.1 rfl rfl ?_
  refine r_bipush (v := (7 : Int32)) hE dX6_reduced_g5.2.2.2.2.1 (by decide) ?_
  refine cp_rk_failure hE hm fk_X6_9 dX6_reduced_g5.2.2.2.2.2.1 h (fun s1 h => ?_)
  refine r_lconst (v := (1 : Int64)) hE dX6_reduced_g5.2.2.2.2.2.2.1 (by decide) ?_
  exact c_lret hE hm dX6_reduced_g5.2.2.2.2.2.2.2.1 h
def wc_rk_reduced_102 (post : CS → Int64 → Prop) (σ : CS) (v1 : Int64) (v3 : Int64) (v5 : Int64) : Prop := ((¬ ((lg_cmp v5 (0 : Int64)) = (0 : Int32))) → (¬ v5 = 0 ∧ (∀ x2 : Int64, x2 = v1 / v5 → ¬ v5 = 0 ∧ (∀ x3 : Int64, x3 = v3 / v5 → (((0 : Int32) < (lg_cmp x2 (1000000000 : Int64))) → (wc_rk_reduced_150 post σ)) ∧ ((¬ ((0 : Int32) < (lg_cmp x2 (1000000000 : Int64)))) → ((((lg_cmp x2 (-1000000000 : Int64)) < (0 : Int32)) → (wc_rk_reduced_150 post σ)) ∧ ((¬ ((lg_cmp x2 (-1000000000 : Int64)) < (0 : Int32))) → ((((lg_cmp x3 (1000000000 : Int64)) ≤ (0 : Int32)) → (post σ ((x2 <<< ((32 : Int32).toInt64 &&& 63)) ||| x3))) ∧ ((¬ ((lg_cmp x3 (1000000000 : Int64)) ≤ (0 : Int32))) → (wc_rk_reduced_150 post σ)))))))))) ∧ (((lg_cmp v5 (0 : Int64)) = (0 : Int32)) → (post σ (1 : Int64)))
set_option maxRecDepth 20000 in
theorem kc_rk_reduced_102 {E : gEnv} {l : Launch} {D : va_G} {G : gAd} {post : CS → Int64 → Prop} (hE : gOK E cX6_reduced RX6 (some .long) 1) (hm : cOK E l D G (pL post) 13) (σ : CS) (v1 : Int64) (v3 : Int64) (v5 : Int64) (h : wc_rk_reduced_102 post σ v1 v3 v5) : GW E (cW G σ) 102 [(0, .ref (G.1 800)), (1, .long v1), (3, .long v3), (5, .long v5)] [] := by
  unfold wc_rk_reduced_102 at h
  have hN := hm.2.2.2.2.2.2.1
  refine r_lload hE 3 dX6_reduced_g3.2.2.2.2.2.2.2.2.2.1 rfl ?_
  refine r_lconst (v := (0 : Int64)) hE dX6_reduced_g3.2.2.2.2.2.2.2.2.2.2.1 (by decide) ?_
  refine r_lcmp hE dX6_reduced_g3.2.2.2.2.2.2.2.2.2.2.2.1 ?_
  refine r_if_ne hE 111 dX6_reduced_g3.2.2.2.2.2.2.2.2.2.2.2.2.1 (by decide) h (fun h => ?_) (fun h => ?_)
  · refine r_lload_n hE 1 dX6_reduced_g3.2.2.2.2.2.2.2.2.2.2.2.2.2.2.2 rfl rfl ?_
    refine r_lload hE 3 dX6_reduced_g4.1 rfl ?_
    obtain ⟨hz, h⟩ := h
    refine r_ldiv hE dX6_reduced_g4.2.1 hz ?_
    refine r_topl h (fun x2 ex2 h => ?_)
    refine r_lstore hE [(9, .long x2), (0, .ref (G.1 800)), (1, .long v1), (3, .long v3), (5, .long v5)] dX6_reduced_g4.2.2.1 hN (by decide) rfl ?_
    refine r_lload_n hE 3 dX6_reduced_g4.2.2.2.1 rfl rfl ?_
    refine r_lload hE 4 dX6_reduced_g4.2.2.2.2.1 rfl ?_
    obtain ⟨hz, h⟩ := h
    refine r_ldiv hE dX6_reduced_g4.2.2.2.2.2.1 hz ?_
    refine r_topl h (fun x3 ex3 h => ?_)
    refine r_lstore hE [(11, .long x3), (9, .long x2), (0, .ref (G.1 800)), (1, .long v1), (3, .long v3), (5, .long v5)] dX6_reduced_g4.2.2.2.2.2.2.1 hN (by decide) rfl ?_
    refine r_lload hE 1 dX6_reduced_g4.2.2.2.2.2.2.2.1 rfl ?_
    refine r_ldc2 (v := (1000000000 : Int64)) hE dX6_reduced_g4.2.2.2.2.2.2.2.2.1 (gTb_4 (List.mem_of_getElem? (i := 85) rfl) rfl) ?_
    refine r_lcmp hE dX6_reduced_g4.2.2.2.2.2.2.2.2.2.1 ?_
    refine r_if_gt hE 150 dX6_reduced_g4.2.2.2.2.2.2.2.2.2.2.1 (by decide) h (fun h => ?_) (fun h => ?_)
    · refine r_pick [2] rfl ?_
      exact kc_rk_reduced_150 hE hm _ h
    · refine r_lload hE 1 dX6_reduced_g4.2.2.2.2.2.2.2.2.2.2.2.1 rfl ?_
      refine r_ldc2 (v := (-1000000000 : Int64)) hE dX6_reduced_g4.2.2.2.2.2.2.2.2.2.2.2.2.1 (gTb_4 (List.mem_of_getElem? (i := 86) rfl) rfl) ?_
      refine r_lcmp hE dX6_reduced_g4.2.2.2.2.2.2.2.2.2.2.2.2.2.1 ?_
      refine r_if_lt hE 150 dX6_reduced_g4.2.2.2.2.2.2.2.2.2.2.2.2.2.2.1 (by decide) h (fun h => ?_) (fun h => ?_)
      · refine r_pick [2] rfl ?_
        exact kc_rk_reduced_150 hE hm _ h
      · refine r_lload hE 0 dX6_reduced_g4.2.2.2.2.2.2.2.2.2.2.2.2.2.2.2 rfl ?_
        refine r_ldc2 (v := (1000000000 : Int64)) hE dX6_reduced_g5.1 (gTb_4 (List.mem_of_getElem? (i := 85) rfl) rfl) ?_
        refine r_lcmp hE dX6_reduced_g5.2.1 ?_
        refine r_if_le hE 158 dX6_reduced_g5.2.2.1 (by decide) h (fun h => ?_) (fun h => ?_)
        · refine r_lload hE 1 dX6_reduced_g5.2.2.2.2.2.2.2.2.1 rfl ?_
          refine r_bipush (v := (32 : Int32)) hE dX6_reduced_g5.2.2.2.2.2.2.2.2.2.1 (by decide) ?_
          refine r_lshl hE dX6_reduced_g5.2.2.2.2.2.2.2.2.2.2.1 ?_
          refine r_lload hE 0 dX6_reduced_g5.2.2.2.2.2.2.2.2.2.2.2.1 rfl ?_
          refine r_lor hE dX6_reduced_g5.2.2.2.2.2.2.2.2.2.2.2.2.1 ?_
          exact c_lret hE hm dX6_reduced_g5.2.2.2.2.2.2.2.2.2.2.2.2.2 h
        · refine r_pick [2] rfl ?_
          exact kc_rk_reduced_150 hE hm _ h
  · refine r_lconst (v := (1 : Int64)) hE dX6_reduced_g3.2.2.2.2.2.2.2.2.2.2.2.2.2.1 (by decide) ?_
    exact c_lret hE hm dX6_reduced_g3.2.2.2.2.2.2.2.2.2.2.2.2.2.2.1 h
def wc_rk_reduced_94 (post : CS → Int64 → Prop) (σ : CS) (v1 : Int64) (v3 : Int64) (v5 : Int64) (t0 : Int32) (t1 : Int32) : Prop := ((t0 = t1) → (wc_rk_reduced_102 post σ v1 v3 v5)) ∧ ((¬ (t0 = t1)) → (∀ x4 : Int64, x4 = -v5 → wc_rk_reduced_102 post σ v1 v3 x4))
set_option maxRecDepth 20000 in
theorem kc_rk_reduced_94 {E : gEnv} {l : Launch} {D : va_G} {G : gAd} {post : CS → Int64 → Prop} (hE : gOK E cX6_reduced RX6 (some .long) 1) (hm : cOK E l D G (pL post) 13) (σ : CS) (v1 : Int64) (v3 : Int64) (v5 : Int64) (t0 : Int32) (t1 : Int32) (h : wc_rk_reduced_94 post σ v1 v3 v5 t0 t1) : GW E (cW G σ) 94 [(0, .ref (G.1 800)), (1, .long v1), (3, .long v3), (5, .long v5)] [.int t1, .int t0] := by
  unfold wc_rk_reduced_94 at h
  have hN := hm.2.2.2.2.2.2.1
  refine r_icmp_eq hE 102 dX6_reduced_g3.2.2.2.2.2.1 (by decide) h (fun h => ?_) (fun h => ?_)
  · exact kc_rk_reduced_102 hE hm _ _ _ _ h
  · refine r_lload hE 3 dX6_reduced_g3.2.2.2.2.2.2.1 rfl ?_
    refine r_lneg hE dX6_reduced_g3.2.2.2.2.2.2.2.1 ?_
    refine r_topl h (fun x4 ex4 h => ?_)
    refine r_lstore hE [(5, .long x4), (0, .ref (G.1 800)), (1, .long v1), (3, .long v3)] dX6_reduced_g3.2.2.2.2.2.2.2.2.1 hN (by decide) rfl ?_
    refine r_pick [1, 2, 3, 0] rfl ?_
    exact kc_rk_reduced_102 hE hm _ _ _ _ h
def wc_rk_reduced_83 (post : CS → Int64 → Prop) (σ : CS) (v1 : Int64) (v3 : Int64) (v5 : Int64) (t0 : Int32) : Prop := (((0 : Int32) ≤ (lg_cmp v3 (0 : Int64))) → (wc_rk_reduced_94 post σ v1 v3 v5 t0 (0 : Int32))) ∧ ((¬ ((0 : Int32) ≤ (lg_cmp v3 (0 : Int64)))) → (wc_rk_reduced_94 post σ v1 v3 v5 t0 (1 : Int32)))
set_option maxRecDepth 20000 in
theorem kc_rk_reduced_83 {E : gEnv} {l : Launch} {D : va_G} {G : gAd} {post : CS → Int64 → Prop} (hE : gOK E cX6_reduced RX6 (some .long) 1) (hm : cOK E l D G (pL post) 13) (σ : CS) (v1 : Int64) (v3 : Int64) (v5 : Int64) (t0 : Int32) (h : wc_rk_reduced_83 post σ v1 v3 v5 t0) : GW E (cW G σ) 83 [(0, .ref (G.1 800)), (1, .long v1), (3, .long v3), (5, .long v5)] [.int t0] := by
  unfold wc_rk_reduced_83 at h
  have hN := hm.2.2.2.2.2.2.1
  refine r_lload_n hE 2 dX6_reduced_g2.2.2.2.2.2.2.2.2.2.2.2.2.2.2.1 rfl rfl ?_
  refine r_lconst (v := (0 : Int64)) hE dX6_reduced_g2.2.2.2.2.2.2.2.2.2.2.2.2.2.2.2 (by decide) ?_
  refine r_lcmp hE dX6_reduced_g3.1 ?_
  refine r_if_ge hE 93 dX6_reduced_g3.2.1 (by decide) h (fun h => ?_) (fun h => ?_)
  · refine r_iconst (v := (0 : Int32)) hE dX6_reduced_g3.2.2.2.2.1 (by decide) ?_
    exact kc_rk_reduced_94 hE hm _ _ _ _ _ _ h
  · refine r_iconst (v := (1 : Int32)) hE dX6_reduced_g3.2.2.1 (by decide) ?_
    refine r_goto hE 94 dX6_reduced_g3.2.2.2.1 (by decide) ?_
    exact kc_rk_reduced_94 hE hm _ _ _ _ _ _ h
def wc_rk_reduced_71 (post : CS → Int64 → Prop) (σ : CS) (v1 : Int64) (v3 : Int64) (v5 : Int64) : Prop := (((0 : Int32) ≤ (lg_cmp v5 (0 : Int64))) → (wc_rk_reduced_83 post σ v1 v3 v5 (0 : Int32))) ∧ ((¬ ((0 : Int32) ≤ (lg_cmp v5 (0 : Int64)))) → (wc_rk_reduced_83 post σ v1 v3 v5 (1 : Int32)))
set_option maxRecDepth 20000 in
theorem kc_rk_reduced_71 {E : gEnv} {l : Launch} {D : va_G} {G : gAd} {post : CS → Int64 → Prop} (hE : gOK E cX6_reduced RX6 (some .long) 1) (hm : cOK E l D G (pL post) 13) (σ : CS) (v1 : Int64) (v3 : Int64) (v5 : Int64) (h : wc_rk_reduced_71 post σ v1 v3 v5) : GW E (cW G σ) 71 [(0, .ref (G.1 800)), (1, .long v1), (3, .long v3), (5, .long v5)] [] := by
  unfold wc_rk_reduced_71 at h
  have hN := hm.2.2.2.2.2.2.1
  refine r_lload hE 3 dX6_reduced_g2.2.2.2.2.2.2.2.1 rfl ?_
  refine r_lconst (v := (0 : Int64)) hE dX6_reduced_g2.2.2.2.2.2.2.2.2.1 (by decide) ?_
  refine r_lcmp hE dX6_reduced_g2.2.2.2.2.2.2.2.2.2.1 ?_
  refine r_if_ge hE 82 dX6_reduced_g2.2.2.2.2.2.2.2.2.2.2.1 (by decide) h (fun h => ?_) (fun h => ?_)
  · refine r_iconst (v := (0 : Int32)) hE dX6_reduced_g2.2.2.2.2.2.2.2.2.2.2.2.2.2.1 (by decide) ?_
    exact kc_rk_reduced_83 hE hm _ _ _ _ _ h
  · refine r_iconst (v := (1 : Int32)) hE dX6_reduced_g2.2.2.2.2.2.2.2.2.2.2.2.1 (by decide) ?_
    refine r_goto hE 83 dX6_reduced_g2.2.2.2.2.2.2.2.2.2.2.2.2.1 (by decide) ?_
    exact kc_rk_reduced_83 hE hm _ _ _ _ _ h
def wc_rk_reduced_35 (post : CS → Int64 → Prop) : Nat → CS → Int64 → Int64 → Int64 → Int64 → Int32 → Prop
  | 0, _, _, _, _, _, _ => False
  | n + 1, σ, v1, v3, v5, v7, v9 => (((200 : Int32) ≤ v9) → (wc_rk_reduced_71 post σ v1 v3 v5)) ∧ ((¬ ((200 : Int32) ≤ v9)) → ((((lg_cmp v7 (0 : Int64)) = (0 : Int32)) → (wc_rk_reduced_71 post σ v1 v3 v5)) ∧ ((¬ ((lg_cmp v7 (0 : Int64)) = (0 : Int32))) → (¬ v7 = 0 ∧ (∀ x5 : Int64, x5 = v5 - v5 / v7 * v7 → ∀ x6 : Int32, x6 = v9 + (1 : Int32) → wc_rk_reduced_35 post n σ v1 v3 v7 x5 x6)))))
set_option maxRecDepth 20000 in
theorem kc_rk_reduced_35 {E : gEnv} {l : Launch} {D : va_G} {G : gAd} {post : CS → Int64 → Prop} (hE : gOK E cX6_reduced RX6 (some .long) 1) (hm : cOK E l D G (pL post) 13) : ∀ (n : Nat) (σ : CS) (v1 : Int64) (v3 : Int64) (v5 : Int64) (v7 : Int64) (v9 : Int32), wc_rk_reduced_35 post n σ v1 v3 v5 v7 v9 → GW E (cW G σ) 35 [(0, .ref (G.1 800)), (1, .long v1), (3, .long v3), (5, .long v5), (7, .long v7), (9, .int v9)] [] := by
  intro n
  induction n with
  | zero => intro σ v1 v3 v5 v7 v9 h; exact h.elim
  | succ n ih =>
    intro σ v1 v3 v5 v7 v9 h
    rw [wc_rk_reduced_35] at h
    have hN := hm.2.2.2.2.2.2.1
    refine r_iload hE 5 dX6_reduced_g1.2.2.2.2.2.2.1 rfl ?_
    refine r_sipush (v := (200 : Int32)) hE dX6_reduced_g1.2.2.2.2.2.2.2.1 (by decide) ?_
    refine r_icmp_ge hE 71 dX6_reduced_g1.2.2.2.2.2.2.2.2.1 (by decide) h (fun h => ?_) (fun h => ?_)
    · refine r_pick [0, 1, 2, 3] rfl ?_
      exact kc_rk_reduced_71 hE hm _ _ _ _ h
    · refine r_lload hE 4 dX6_reduced_g1.2.2.2.2.2.2.2.2.2.1 rfl ?_
      refine r_lconst (v := (0 : Int64)) hE dX6_reduced_g1.2.2.2.2.2.2.2.2.2.2.1 (by decide) ?_
      refine r_lcmp hE dX6_reduced_g1.2.2.2.2.2.2.2.2.2.2.2.1 ?_
      refine r_if_eq hE 71 dX6_reduced_g1.2.2.2.2.2.2.2.2.2.2.2.2.1 (by decide) h (fun h => ?_) (fun h => ?_)
      · refine r_pick [0, 1, 2, 3] rfl ?_
        exact kc_rk_reduced_71 hE hm _ _ _ _ h
      · refine r_lload hE 3 dX6_reduced_g1.2.2.2.2.2.2.2.2.2.2.2.2.2.1 rfl ?_
        refine r_lload hE 4 dX6_reduced_g1.2.2.2.2.2.2.2.2.2.2.2.2.2.2.1 rfl ?_
        obtain ⟨hz, h⟩ := h
        refine r_lrem hE dX6_reduced_g1.2.2.2.2.2.2.2.2.2.2.2.2.2.2.2 hz ?_
        refine r_topl h (fun x5 ex5 h => ?_)
        refine r_lstore hE [(10, .long x5), (0, .ref (G.1 800)), (1, .long v1), (3, .long v3), (5, .long v5), (7, .long v7), (9, .int v9)] dX6_reduced_g2.1 hN (by decide) rfl ?_
        refine r_lload hE 5 dX6_reduced_g2.2.1 rfl ?_
        refine r_lstore hE [(5, .long v7), (10, .long x5), (0, .ref (G.1 800)), (1, .long v1), (3, .long v3), (7, .long v7), (9, .int v9)] dX6_reduced_g2.2.2.1 hN (by decide) rfl ?_
        refine r_lload hE 1 dX6_reduced_g2.2.2.2.1 rfl ?_
        refine r_lstore hE [(7, .long x5), (5, .long v7), (10, .long x5), (0, .ref (G.1 800)), (1, .long v1), (3, .long v3), (9, .int v9)] dX6_reduced_g2.2.2.2.2.1 hN (by decide) rfl ?_
        obtain ⟨x6, ex6⟩ : ∃ z : Int32, z = v9 + (1 : Int32) := ⟨_, rfl⟩
        have h := h x6 ex6
        refine r_iinc (v := x6) hE [(9, .int x6), (7, .long x5), (5, .long v7), (10, .long x5), (0, .ref (G.1 800)), (1, .long v1), (3, .long v3)] 6 dX6_reduced_g2.2.2.2.2.2.1 rfl (by rw [ex6]; rfl) hN (by decide) rfl ?_
        refine r_goto hE 35 dX6_reduced_g2.2.2.2.2.2.2.1 (by decide) ?_
        refine r_pick [4, 5, 6, 2, 1, 0] rfl ?_
        exact ih _ _ _ _ _ _ h
def wc_rk_reduced (post : CS → Int64 → Prop) (σ : CS) (a1 : Int64) (a3 : Int64) : Prop := (((c_rk_failure σ) = (0 : Int32)) → (((¬ ((lg_cmp a3 (0 : Int64)) = (0 : Int32))) → (¬ a3 = 0 ∧ (∀ x7 : Int64, x7 = a1 - a1 / a3 * a3 → ∃ k : Nat, wc_rk_reduced_35 post k σ a1 a3 a3 x7 (0 : Int32)))) ∧ (((lg_cmp a3 (0 : Int64)) = (0 : Int32)) → (∀ s8 : CS, s8 = c_rk_failure_s σ (6 : Int32) → post s8 (1 : Int64))))) ∧ ((¬ ((c_rk_failure σ) = (0 : Int32))) → (post σ (1 : Int64)))
set_option maxRecDepth 20000 in
theorem kc_rk_reduced {l : Launch} {D : va_G} {G : gAd} {post : CS → Int64 → Prop} {σ : CS} {a1 : Int64} {a3 : Int64} (h : wc_rk_reduced post σ a1 a3) : cMet l D G yX6_reduced cX6_reduced 13 (some .long) 1 [.ref (G.1 800), .long a1, .long a3] σ (pL post) := by
  unfold wc_rk_reduced at h
  refine c_enter (own := RX6) (by decide +kernel) rfl [(0, .ref (G.1 800)), (1, .long a1), (3, .long a3)] rfl (Nat.le_of_ble_eq_true rfl) ?_
  intro E hE hm
  have hN := hm.2.2.2.2.2.2.1
  refine r_aload_n hE 0 dX6_reduced_g0.1 rfl rfl ?_
  refine cg_rk_failure hE hm fk_X6_9 dX6_reduced_g0.2.1 ?_
  refine r_if_eq hE 9 dX6_reduced_g0.2.2.1 (by decide) h (fun h => ?_) (fun h => ?_)
  · refine r_lload_n hE 2 dX6_reduced_g0.2.2.2.2.2.1 rfl rfl ?_
    refine r_lconst (v := (0 : Int64)) hE dX6_reduced_g0.2.2.2.2.2.2.1 (by decide) ?_
    refine r_lcmp hE dX6_reduced_g0.2.2.2.2.2.2.2.1 ?_
    refine r_if_ne hE 23 dX6_reduced_g0.2.2.2.2.2.2.2.2.1 (by decide) h (fun h => ?_) (fun h => ?_)
    · refine r_lload_n hE 2 dX6_reduced_g0.2.2.2.2.2.2.2.2.2.2.2.2.2.2.1 rfl rfl ?_
      refine r_lstore hE [(5, .long a3), (0, .ref (G.1 800)), (1, .long a1), (3, .long a3)] dX6_reduced_g0.2.2.2.2.2.2.2.2.2.2.2.2.2.2.2 hN (by decide) rfl ?_
      refine r_lload_n hE 2 dX6_reduced_g1.1 rfl rfl ?_
      refine r_lload hE 0 dX6_reduced_g1.2.1 rfl ?_
      obtain ⟨hz, h⟩ := h
      refine r_lrem hE dX6_reduced_g1.2.2.1 hz ?_
      refine r_topl h (fun x7 ex7 h => ?_)
      refine r_lstore hE [(7, .long x7), (5, .long a3), (0, .ref (G.1 800)), (1, .long a1), (3, .long a3)] dX6_reduced_g1.2.2.2.1 hN (by decide) rfl ?_
      refine r_iconst (v := (0 : Int32)) hE dX6_reduced_g1.2.2.2.2.1 (by decide) ?_
      refine r_istore hE [(9, .int (0 : Int32)), (7, .long x7), (5, .long a3), (0, .ref (G.1 800)), (1, .long a1), (3, .long a3)] dX6_reduced_g1.2.2.2.2.2.1 hN (by decide) rfl ?_
      refine r_pick [3, 4, 5, 2, 1, 0] rfl ?_
      obtain ⟨k, h⟩ := h
      exact kc_rk_reduced_35 hE hm k _ _ _ _ _ _ h
    · refine r_aload_n hE 0 dX6_reduced_g0.2.2.2.2.2.2.2.2.2.1 rfl rfl ?_
      refine r_bipush (v := (6 : Int32)) hE dX6_reduced_g0.2.2.2.2.2.2.2.2.2.2.1 (by decide) ?_
      refine cp_rk_failure hE hm fk_X6_9 dX6_reduced_g0.2.2.2.2.2.2.2.2.2.2.2.1 h (fun s8 h => ?_)
      refine r_lconst (v := (1 : Int64)) hE dX6_reduced_g0.2.2.2.2.2.2.2.2.2.2.2.2.1 (by decide) ?_
      exact c_lret hE hm dX6_reduced_g0.2.2.2.2.2.2.2.2.2.2.2.2.2.1 h
  · refine r_lconst (v := (1 : Int64)) hE dX6_reduced_g0.2.2.2.1 (by decide) ?_
    exact c_lret hE hm dX6_reduced_g0.2.2.2.2.1 h
/-! ft_move -/
def wc_ft_move (post : CS → Int32 → Prop) (σ : CS) (a1 : Int32) (a2 : Int32) (a3 : Int32) (a4 : Int32) : Prop := wc_SX12_inside (fun (s1 : CS) (r2 : Int32) => ((r2 = (0 : Int32)) → (post s1 (-2000000002 : Int32))) ∧ ((¬ (r2 = (0 : Int32))) → (((¬ (a4 = (0 : Int32))) → (wc_rk_begin (fun (s3 : CS) => wc_rk_reduced (fun (s4 : CS) (r5 : Int64) => wc_rk_reduced (fun (s6 : CS) (r7 : Int64) => (((c_rk_failure s6) = (0 : Int32)) → (((¬ ((c_ft_hasFigure s6) = (0 : Int32))) → (wc_fr_moveTo (fun (s8 : CS) => post s8 (1 : Int32)) s6 a1 r5 r7)) ∧ (((c_ft_hasFigure s6) = (0 : Int32)) → (post s6 (-2000000003 : Int32))))) ∧ ((¬ ((c_rk_failure s6) = (0 : Int32))) → (post s6 (-2000000002 : Int32)))) s4 (a3.toInt64) (a4.toInt64)) s3 (a2.toInt64) (a4.toInt64)) s1)) ∧ ((a4 = (0 : Int32)) → (post s1 (-2000000002 : Int32)))))) σ a1 (12 : Int32)
set_option maxRecDepth 20000 in
theorem kc_ft_move {l : Launch} {D : va_G} {G : gAd} {post : CS → Int32 → Prop} {σ : CS} {a1 : Int32} {a2 : Int32} {a3 : Int32} {a4 : Int32} (h : wc_ft_move post σ a1 a2 a3 a4) : cMet l D G yX12_move cX12_move 9 (some .int) 3 [.ref (G.1 200), .int a1, .int a2, .int a3, .int a4] σ (pI post) := by
  unfold wc_ft_move at h
  refine c_enter (own := RX12) (by decide +kernel) rfl [(0, .ref (G.1 200)), (1, .int a1), (2, .int a2), (3, .int a3), (4, .int a4)] rfl (Nat.le_of_ble_eq_true rfl) ?_
  intro E hE hm
  have hN := hm.2.2.2.2.2.2.1
  refine r_iload_n hE 1 dX12_move_g0.1 rfl rfl ?_
  refine r_bipush (v := (12 : Int32)) hE dX12_move_g0.2.1 (by decide) ?_
  refine c_callSi hE hm [.int a1, .int (12 : Int32)] [] ck_X12_145 (kc_SX12_inside h) (by decide) rfl rfl (Nat.le_of_ble_eq_true rfl) dX12_move_g0.2.2.1 (fun s1 r2 h => ?_)
  refine r_if_eq hE 14 dX12_move_g0.2.2.2.1 (by decide) h (fun h => ?_) (fun h => ?_)
  · refine r_ldc (v := (-2000000002 : Int32)) hE dX12_move_g0.2.2.2.2.2.2.1 (gTb_2 (List.mem_of_getElem? (i := 209) rfl) rfl) ?_
    exact c_iret hE hm dX12_move_g0.2.2.2.2.2.2.2.1 h
  · refine r_iload hE 4 dX12_move_g0.2.2.2.2.1 rfl ?_
    refine r_if_ne hE 17 dX12_move_g0.2.2.2.2.2.1 (by decide) h (fun h => ?_) (fun h => ?_)
    · refine r_aload_n hE 0 dX12_move_g0.2.2.2.2.2.2.2.2.1 rfl rfl ?_
      refine cg_ft_reckoner hE hm fk_X12_62 dX12_move_g0.2.2.2.2.2.2.2.2.2.1 ?_
      refine c_callVv hE hm [] [] ck_X12_149 (cr_rk hm rfl) (kc_rk_begin h) (by decide) rfl rfl (Nat.le_of_ble_eq_true rfl) dX12_move_g0.2.2.2.2.2.2.2.2.2.2.1 (fun s3 h => ?_)
      refine r_aload_n hE 0 dX12_move_g0.2.2.2.2.2.2.2.2.2.2.2.1 rfl rfl ?_
      refine cg_ft_reckoner hE hm fk_X12_62 dX12_move_g0.2.2.2.2.2.2.2.2.2.2.2.2.1 ?_
      refine r_iload_n hE 2 dX12_move_g0.2.2.2.2.2.2.2.2.2.2.2.2.2.1 rfl rfl ?_
      refine r_i2l hE dX12_move_g0.2.2.2.2.2.2.2.2.2.2.2.2.2.2.1 ?_
      refine r_iload hE 4 dX12_move_g0.2.2.2.2.2.2.2.2.2.2.2.2.2.2.2 rfl ?_
      refine r_i2l hE dX12_move_g1.1 ?_
      refine c_callVl hE hm [.long (a2.toInt64), .long (a4.toInt64)] [] ck_X12_152 (cr_rk hm rfl) (kc_rk_reduced h) (by decide) rfl rfl (Nat.le_of_ble_eq_true rfl) dX12_move_g1.2.1 (fun s4 r5 h => ?_)
      refine r_lstore hE [(5, .long r5), (0, .ref (G.1 200)), (1, .int a1), (2, .int a2), (3, .int a3), (4, .int a4)] dX12_move_g1.2.2.1 hN (by decide) rfl ?_
      refine r_aload_n hE 1 dX12_move_g1.2.2.2.1 rfl rfl ?_
      refine cg_ft_reckoner hE hm fk_X12_62 dX12_move_g1.2.2.2.2.1 ?_
      refine r_iload_n hE 4 dX12_move_g1.2.2.2.2.2.1 rfl rfl ?_
      refine r_i2l hE dX12_move_g1.2.2.2.2.2.2.1 ?_
      refine r_iload hE 5 dX12_move_g1.2.2.2.2.2.2.2.1 rfl ?_
      refine r_i2l hE dX12_move_g1.2.2.2.2.2.2.2.2.1 ?_
      refine c_callVl hE hm [.long (a3.toInt64), .long (a4.toInt64)] [] ck_X12_152 (cr_rk hm rfl) (kc_rk_reduced h) (by decide) rfl rfl (Nat.le_of_ble_eq_true rfl) dX12_move_g1.2.2.2.2.2.2.2.2.2.1 (fun s6 r7 h => ?_)
      refine r_lstore hE [(7, .long r7), (5, .long r5), (0, .ref (G.1 200)), (1, .int a1), (2, .int a2), (3, .int a3), (4, .int a4)] dX12_move_g1.2.2.2.2.2.2.2.2.2.2.1 hN (by decide) rfl ?_
      refine r_aload_n hE 2 dX12_move_g1.2.2.2.2.2.2.2.2.2.2.2.1 rfl rfl ?_
      refine cg_ft_reckoner hE hm fk_X12_62 dX12_move_g1.2.2.2.2.2.2.2.2.2.2.2.2.1 ?_
      refine cg_rk_failure hE hm fk_X12_156 dX12_move_g1.2.2.2.2.2.2.2.2.2.2.2.2.2.1 ?_
      refine r_if_eq hE 65 dX12_move_g1.2.2.2.2.2.2.2.2.2.2.2.2.2.2.1 (by decide) h (fun h => ?_) (fun h => ?_)
      · refine r_aload_n hE 2 dX12_move_g2.2.1 rfl rfl ?_
        refine cg_ft_hasFigure hE hm fk_X12_34 dX12_move_g2.2.2.1 ?_
        refine r_if_ne hE 75 dX12_move_g2.2.2.2.1 (by decide) h (fun h => ?_) (fun h => ?_)
        · refine r_aload_n hE 2 dX12_move_g2.2.2.2.2.2.2.1 rfl rfl ?_
          refine cg_ft_frees hE hm fk_X12_76 dX12_move_g2.2.2.2.2.2.2.2.1 ?_
          refine r_iload_n hE 3 dX12_move_g2.2.2.2.2.2.2.2.2.1 rfl rfl ?_
          refine r_lload hE 1 dX12_move_g2.2.2.2.2.2.2.2.2.2.1 rfl ?_
          refine r_lload hE 0 dX12_move_g2.2.2.2.2.2.2.2.2.2.2.1 rfl ?_
          refine c_callVv hE hm [.int a1, .long r5, .long r7] [] ck_X12_159 (cr_fr hm rfl) (kc_fr_moveTo h) (by decide) rfl rfl (Nat.le_of_ble_eq_true rfl) dX12_move_g2.2.2.2.2.2.2.2.2.2.2.2.1 (fun s8 h => ?_)
          refine r_iconst (v := (1 : Int32)) hE dX12_move_g2.2.2.2.2.2.2.2.2.2.2.2.2.1 (by decide) ?_
          exact c_iret hE hm dX12_move_g2.2.2.2.2.2.2.2.2.2.2.2.2.2 h
        · refine r_ldc (v := (-2000000003 : Int32)) hE dX12_move_g2.2.2.2.2.1 (gTb_2 (List.mem_of_getElem? (i := 200) rfl) rfl) ?_
          exact c_iret hE hm dX12_move_g2.2.2.2.2.2.1 h
      · refine r_ldc (v := (-2000000002 : Int32)) hE dX12_move_g1.2.2.2.2.2.2.2.2.2.2.2.2.2.2.2 (gTb_2 (List.mem_of_getElem? (i := 209) rfl) rfl) ?_
        exact c_iret hE hm dX12_move_g2.1 h
    · refine r_ldc (v := (-2000000002 : Int32)) hE dX12_move_g0.2.2.2.2.2.2.1 (gTb_2 (List.mem_of_getElem? (i := 209) rfl) rfl) ?_
      exact c_iret hE hm dX12_move_g0.2.2.2.2.2.2.2.1 h
/-! fr_isMoved -/
def wc_fr_isMoved (post : CS → Int32 → Prop) (σ : CS) (a1 : Int32) : Prop := wc_SX12_inside (fun (s1 : CS) (r2 : Int32) => ((r2 = (0 : Int32)) → (post s1 (0 : Int32))) ∧ ((¬ (r2 = (0 : Int32))) → (vp_in a1 12 ∧ ((((c_fr_moved s1 a1.toNatClampNeg) = (0 : Int32)) → (post s1 (0 : Int32))) ∧ ((¬ ((c_fr_moved s1 a1.toNatClampNeg) = (0 : Int32))) → (post s1 (1 : Int32))))))) σ a1 (12 : Int32)
set_option maxRecDepth 20000 in
theorem kc_fr_isMoved {l : Launch} {D : va_G} {G : gAd} {post : CS → Int32 → Prop} {σ : CS} {a1 : Int32} (h : wc_fr_isMoved post σ a1) : cMet l D G yX2_isMoved cX2_isMoved 2 (some .boolean) 2 [.ref (G.1 1000), .int a1] σ (pI post) := by
  unfold wc_fr_isMoved at h
  refine c_enter (own := RX2) (by decide +kernel) rfl [(0, .ref (G.1 1000)), (1, .int a1)] rfl (Nat.le_of_ble_eq_true rfl) ?_
  intro E hE hm
  have hN := hm.2.2.2.2.2.2.1
  refine r_iload_n hE 1 dX2_isMoved_g0.1 rfl rfl ?_
  refine r_bipush (v := (12 : Int32)) hE dX2_isMoved_g0.2.1 (by decide) ?_
  refine c_callSNi hE hm [.int a1, .int (12 : Int32)] [] ck_X2_39 cw_X2_39 (kc_SX12_inside h) (by decide) rfl rfl (Nat.le_of_ble_eq_true rfl) dX2_isMoved_g0.2.2.1 (fun s1 r2 h => ?_)
  refine r_if_eq hE 22 dX2_isMoved_g0.2.2.2.1 (by decide) h (fun h => ?_) (fun h => ?_)
  · refine r_iconst (v := (0 : Int32)) hE dX2_isMoved_g0.2.2.2.2.2.2.2.2.2.2.2.1 (by decide) ?_
    exact c_zret hE hm dX2_isMoved_g0.2.2.2.2.2.2.2.2.2.2.2.2 (Or.inl rfl) h
  · refine r_aload_n hE 0 dX2_isMoved_g0.2.2.2.2.1 rfl rfl ?_
    refine cg_fr_moved hE hm fk_X2_9 dX2_isMoved_g0.2.2.2.2.2.1 ?_
    refine r_iload_n hE 1 dX2_isMoved_g0.2.2.2.2.2.2.1 rfl rfl ?_
    obtain ⟨hi, h⟩ := h
    refine cl_fr_moved hE hm dX2_isMoved_g0.2.2.2.2.2.2.2.1 hi ?_
    refine r_if_eq hE 22 dX2_isMoved_g0.2.2.2.2.2.2.2.2.1 (by decide) h (fun h => ?_) (fun h => ?_)
    · refine r_iconst (v := (0 : Int32)) hE dX2_isMoved_g0.2.2.2.2.2.2.2.2.2.2.2.1 (by decide) ?_
      exact c_zret hE hm dX2_isMoved_g0.2.2.2.2.2.2.2.2.2.2.2.2 (Or.inl rfl) h
    · refine r_iconst (v := (1 : Int32)) hE dX2_isMoved_g0.2.2.2.2.2.2.2.2.2.1 (by decide) ?_
      refine r_goto hE 23 dX2_isMoved_g0.2.2.2.2.2.2.2.2.2.2.1 (by decide) ?_
      exact c_zret hE hm dX2_isMoved_g0.2.2.2.2.2.2.2.2.2.2.2.2 (Or.inr rfl) h
/-! fr_loosen -/
def wc_fr_loosen (post : CS → Prop) (σ : CS) (a1 : Int32) : Prop := wc_SX12_inside (fun (s1 : CS) (r2 : Int32) => ((r2 = (0 : Int32)) → (post s1)) ∧ ((¬ (r2 = (0 : Int32))) → (vp_in a1 12 ∧ (∀ s3 : CS, s3 = c_fr_moved_s s1 a1.toNatClampNeg (0 : Int32) → post s3)))) σ a1 (12 : Int32)
set_option maxRecDepth 20000 in
theorem kc_fr_loosen {l : Launch} {D : va_G} {G : gAd} {post : CS → Prop} {σ : CS} {a1 : Int32} (h : wc_fr_loosen post σ a1) : cMet l D G yX2_loosen cX2_loosen 2 none 2 [.ref (G.1 1000), .int a1] σ (pV post) := by
  unfold wc_fr_loosen at h
  refine c_enter (own := RX2) (by decide +kernel) rfl [(0, .ref (G.1 1000)), (1, .int a1)] rfl (Nat.le_of_ble_eq_true rfl) ?_
  intro E hE hm
  have hN := hm.2.2.2.2.2.2.1
  refine r_iload_n hE 1 dX2_loosen_g0.1 rfl rfl ?_
  refine r_bipush (v := (12 : Int32)) hE dX2_loosen_g0.2.1 (by decide) ?_
  refine c_callSNi hE hm [.int a1, .int (12 : Int32)] [] ck_X2_39 cw_X2_39 (kc_SX12_inside h) (by decide) rfl rfl (Nat.le_of_ble_eq_true rfl) dX2_loosen_g0.2.2.1 (fun s1 r2 h => ?_)
  refine r_if_eq hE 16 dX2_loosen_g0.2.2.2.1 (by decide) h (fun h => ?_) (fun h => ?_)
  · exact c_vret hE hm dX2_loosen_g0.2.2.2.2.2.2.2.2.2 h
  · refine r_aload_n hE 0 dX2_loosen_g0.2.2.2.2.1 rfl rfl ?_
    refine cg_fr_moved hE hm fk_X2_9 dX2_loosen_g0.2.2.2.2.2.1 ?_
    refine r_iload_n hE 1 dX2_loosen_g0.2.2.2.2.2.2.1 rfl rfl ?_
    refine r_iconst (v := (0 : Int32)) hE dX2_loosen_g0.2.2.2.2.2.2.2.1 (by decide) ?_
    obtain ⟨hi, h⟩ := h
    refine cs_fr_moved hE hm dX2_loosen_g0.2.2.2.2.2.2.2.2.1 hi (Or.inl rfl) h (fun s3 h => ?_)
    exact c_vret hE hm dX2_loosen_g0.2.2.2.2.2.2.2.2.2 h
/-! ft_loose -/
def wc_ft_loose_38 (post : CS → Int32 → Prop) (σ : CS) (v1 : Int32) (t0 : Int32) : Prop := wc_fr_loosen (fun (s1 : CS) => post s1 t0) σ v1
set_option maxRecDepth 20000 in
theorem kc_ft_loose_38 {E : gEnv} {l : Launch} {D : va_G} {G : gAd} {post : CS → Int32 → Prop} (hE : gOK E cX12_loose RX12 (some .int) 3) (hm : cOK E l D G (pI post) 3) (σ : CS) (v1 : Int32) (t0 : Int32) (h : wc_ft_loose_38 post σ v1 t0) : GW E (cW G σ) 38 [(0, .ref (G.1 200)), (1, .int v1)] [.int t0] := by
  unfold wc_ft_loose_38 at h
  have hN := hm.2.2.2.2.2.2.1
  refine r_istore_n hE [(2, .int t0), (0, .ref (G.1 200)), (1, .int v1)] dX12_loose_g1.2.2.2.1 rfl hN (by decide) rfl ?_
  refine r_aload_n hE 1 dX12_loose_g1.2.2.2.2.1 rfl rfl ?_
  refine cg_ft_frees hE hm fk_X12_76 dX12_loose_g1.2.2.2.2.2.1 ?_
  refine r_iload_n hE 2 dX12_loose_g1.2.2.2.2.2.2.1 rfl rfl ?_
  refine c_callVv hE hm [.int v1] [] ck_X12_167 (cr_fr hm rfl) (kc_fr_loosen h) (by decide) rfl rfl (Nat.le_of_ble_eq_true rfl) dX12_loose_g1.2.2.2.2.2.2.2.1 (fun s1 h => ?_)
  refine r_iload_n hE 0 dX12_loose_g1.2.2.2.2.2.2.2.2.1 rfl rfl ?_
  exact c_iret hE hm dX12_loose_g1.2.2.2.2.2.2.2.2.2 h
def wc_ft_loose (post : CS → Int32 → Prop) (σ : CS) (a1 : Int32) : Prop := wc_SX12_inside (fun (s2 : CS) (r3 : Int32) => ((¬ (r3 = (0 : Int32))) → (((¬ ((c_ft_hasFigure s2) = (0 : Int32))) → (wc_fr_isMoved (fun (s4 : CS) (r5 : Int32) => ((r5 = (0 : Int32)) → (wc_ft_loose_38 post s4 a1 (0 : Int32))) ∧ ((¬ (r5 = (0 : Int32))) → (wc_ft_loose_38 post s4 a1 (1 : Int32)))) s2 a1)) ∧ (((c_ft_hasFigure s2) = (0 : Int32)) → (post s2 (-2000000003 : Int32))))) ∧ ((r3 = (0 : Int32)) → (post s2 (-2000000002 : Int32)))) σ a1 (12 : Int32)
set_option maxRecDepth 20000 in
theorem kc_ft_loose {l : Launch} {D : va_G} {G : gAd} {post : CS → Int32 → Prop} {σ : CS} {a1 : Int32} (h : wc_ft_loose post σ a1) : cMet l D G yX12_loose cX12_loose 3 (some .int) 3 [.ref (G.1 200), .int a1] σ (pI post) := by
  unfold wc_ft_loose at h
  refine c_enter (own := RX12) (by decide +kernel) rfl [(0, .ref (G.1 200)), (1, .int a1)] rfl (Nat.le_of_ble_eq_true rfl) ?_
  intro E hE hm
  have hN := hm.2.2.2.2.2.2.1
  refine r_iload_n hE 1 dX12_loose_g0.1 rfl rfl ?_
  refine r_bipush (v := (12 : Int32)) hE dX12_loose_g0.2.1 (by decide) ?_
  refine c_callSi hE hm [.int a1, .int (12 : Int32)] [] ck_X12_145 (kc_SX12_inside h) (by decide) rfl rfl (Nat.le_of_ble_eq_true rfl) dX12_loose_g0.2.2.1 (fun s2 r3 h => ?_)
  refine r_if_ne hE 12 dX12_loose_g0.2.2.2.1 (by decide) h (fun h => ?_) (fun h => ?_)
  · refine r_aload_n hE 0 dX12_loose_g0.2.2.2.2.2.2.1 rfl rfl ?_
    refine cg_ft_hasFigure hE hm fk_X12_34 dX12_loose_g0.2.2.2.2.2.2.2.1 ?_
    refine r_if_ne hE 22 dX12_loose_g0.2.2.2.2.2.2.2.2.1 (by decide) h (fun h => ?_) (fun h => ?_)
    · refine r_aload_n hE 0 dX12_loose_g0.2.2.2.2.2.2.2.2.2.2.2.1 rfl rfl ?_
      refine cg_ft_frees hE hm fk_X12_76 dX12_loose_g0.2.2.2.2.2.2.2.2.2.2.2.2.1 ?_
      refine r_iload_n hE 1 dX12_loose_g0.2.2.2.2.2.2.2.2.2.2.2.2.2.1 rfl rfl ?_
      refine c_callVi hE hm [.int a1] [] ck_X12_163 (cr_fr hm rfl) (kc_fr_isMoved h) (by decide) rfl rfl (Nat.le_of_ble_eq_true rfl) dX12_loose_g0.2.2.2.2.2.2.2.2.2.2.2.2.2.2.1 (fun s4 r5 h => ?_)
      refine r_if_eq hE 37 dX12_loose_g0.2.2.2.2.2.2.2.2.2.2.2.2.2.2.2 (by decide) h (fun h => ?_) (fun h => ?_)
      · refine r_iconst (v := (0 : Int32)) hE dX12_loose_g1.2.2.1 (by decide) ?_
        exact kc_ft_loose_38 hE hm _ _ _ h
      · refine r_iconst (v := (1 : Int32)) hE dX12_loose_g1.1 (by decide) ?_
        refine r_goto hE 38 dX12_loose_g1.2.1 (by decide) ?_
        exact kc_ft_loose_38 hE hm _ _ _ h
    · refine r_ldc (v := (-2000000003 : Int32)) hE dX12_loose_g0.2.2.2.2.2.2.2.2.2.1 (gTb_2 (List.mem_of_getElem? (i := 200) rfl) rfl) ?_
      exact c_iret hE hm dX12_loose_g0.2.2.2.2.2.2.2.2.2.2.1 h
  · refine r_ldc (v := (-2000000002 : Int32)) hE dX12_loose_g0.2.2.2.2.1 (gTb_2 (List.mem_of_getElem? (i := 209) rfl) rfl) ?_
    exact c_iret hE hm dX12_loose_g0.2.2.2.2.2.1 h
/-! ft_count -/
def wc_ft_count (post : CS → Int32 → Prop) (σ : CS) (a1 : Int32) : Prop := (a1 = (0 : Int32) → (post σ (c_to_draws σ))) ∧ (¬ a1 = (0 : Int32) → ((a1 = (1 : Int32) → (post σ (c_to_states σ))) ∧ (¬ a1 = (1 : Int32) → ((a1 = (2 : Int32) → (post σ (c_to_falls σ))) ∧ (¬ a1 = (2 : Int32) → ((a1 = (3 : Int32) → (post σ (c_fr_came σ))) ∧ (¬ a1 = (3 : Int32) → ((a1 = (4 : Int32) → (post σ (c_to_steps σ))) ∧ (¬ a1 = (4 : Int32) → ((a1 = (5 : Int32) → ((((c_to_spent σ) = (0 : Int32)) → (post σ (0 : Int32))) ∧ ((¬ ((c_to_spent σ) = (0 : Int32))) → (post σ (1 : Int32))))) ∧ (¬ a1 = (5 : Int32) → ((a1 = (6 : Int32) → (post σ (c_ft_runs σ))) ∧ (¬ a1 = (6 : Int32) → ((a1 = (7 : Int32) → (post σ (c_ft_tapeLength σ))) ∧ (¬ a1 = (7 : Int32) → ((a1 = (8 : Int32) → (post σ (c_ou_length σ))) ∧ (¬ a1 = (8 : Int32) → (post σ (-2000000002 : Int32)))))))))))))))))))
set_option maxRecDepth 20000 in
theorem kc_ft_count {l : Launch} {D : va_G} {G : gAd} {post : CS → Int32 → Prop} {σ : CS} {a1 : Int32} (h : wc_ft_count post σ a1) : cMet l D G yX12_count cX12_count 2 (some .int) 1 [.ref (G.1 200), .int a1] σ (pI post) := by
  unfold wc_ft_count at h
  refine c_enter (own := RX12) (by decide +kernel) rfl [(0, .ref (G.1 200)), (1, .int a1)] rfl (Nat.le_of_ble_eq_true rfl) ?_
  intro E hE hm
  have hN := hm.2.2.2.2.2.2.1
  refine r_iload_n hE 1 dX12_count_g0.1 rfl rfl ?_
  refine r_case (0 : Int32) h (fun q0 h => ?_) (fun q0 h => ?_)
  · refine r_tableAt (off := 51) hE (0 : Int32) 52 dX12_count_g0.2.1 q0 (by decide) (by decide) (by decide) (by decide) ?_
    refine r_aload_n hE 0 dX12_count_g0.2.2.1 rfl rfl ?_
    refine cg_ft_told hE hm fk_X12_83 dX12_count_g0.2.2.2.1 ?_
    refine cg_to_draws hE hm fk_X12_177 dX12_count_g0.2.2.2.2.1 ?_
    exact c_iret hE hm dX12_count_g0.2.2.2.2.2.1 h
  · refine r_case (1 : Int32) h (fun q1 h => ?_) (fun q1 h => ?_)
    · refine r_tableAt (off := 59) hE (1 : Int32) 60 dX12_count_g0.2.1 q1 (by decide) (by decide) (by decide) (by decide) ?_
      refine r_aload_n hE 0 dX12_count_g0.2.2.2.2.2.2.1 rfl rfl ?_
      refine cg_ft_told hE hm fk_X12_83 dX12_count_g0.2.2.2.2.2.2.2.1 ?_
      refine cg_to_states hE hm fk_X12_180 dX12_count_g0.2.2.2.2.2.2.2.2.1 ?_
      exact c_iret hE hm dX12_count_g0.2.2.2.2.2.2.2.2.2.1 h
    · refine r_case (2 : Int32) h (fun q2 h => ?_) (fun q2 h => ?_)
      · refine r_tableAt (off := 67) hE (2 : Int32) 68 dX12_count_g0.2.1 q2 (by decide) (by decide) (by decide) (by decide) ?_
        refine r_aload_n hE 0 dX12_count_g0.2.2.2.2.2.2.2.2.2.2.1 rfl rfl ?_
        refine cg_ft_told hE hm fk_X12_83 dX12_count_g0.2.2.2.2.2.2.2.2.2.2.2.1 ?_
        refine cg_to_falls hE hm fk_X12_183 dX12_count_g0.2.2.2.2.2.2.2.2.2.2.2.2.1 ?_
        exact c_iret hE hm dX12_count_g0.2.2.2.2.2.2.2.2.2.2.2.2.2.1 h
      · refine r_case (3 : Int32) h (fun q3 h => ?_) (fun q3 h => ?_)
        · refine r_tableAt (off := 75) hE (3 : Int32) 76 dX12_count_g0.2.1 q3 (by decide) (by decide) (by decide) (by decide) ?_
          refine r_aload_n hE 0 dX12_count_g0.2.2.2.2.2.2.2.2.2.2.2.2.2.2.1 rfl rfl ?_
          refine cg_ft_frees hE hm fk_X12_76 dX12_count_g0.2.2.2.2.2.2.2.2.2.2.2.2.2.2.2 ?_
          refine cg_fr_came hE hm fk_X12_186 dX12_count_g1.1 ?_
          exact c_iret hE hm dX12_count_g1.2.1 h
        · refine r_case (4 : Int32) h (fun q4 h => ?_) (fun q4 h => ?_)
          · refine r_tableAt (off := 83) hE (4 : Int32) 84 dX12_count_g0.2.1 q4 (by decide) (by decide) (by decide) (by decide) ?_
            refine r_aload_n hE 0 dX12_count_g1.2.2.1 rfl rfl ?_
            refine cg_ft_told hE hm fk_X12_83 dX12_count_g1.2.2.2.1 ?_
            refine cg_to_steps hE hm fk_X12_189 dX12_count_g1.2.2.2.2.1 ?_
            exact c_iret hE hm dX12_count_g1.2.2.2.2.2.1 h
          · refine r_case (5 : Int32) h (fun q5 h => ?_) (fun q5 h => ?_)
            · refine r_tableAt (off := 91) hE (5 : Int32) 92 dX12_count_g0.2.1 q5 (by decide) (by decide) (by decide) (by decide) ?_
              refine r_aload_n hE 0 dX12_count_g1.2.2.2.2.2.2.1 rfl rfl ?_
              refine cg_ft_told hE hm fk_X12_83 dX12_count_g1.2.2.2.2.2.2.2.1 ?_
              refine cg_to_spent hE hm fk_X12_174 dX12_count_g1.2.2.2.2.2.2.2.2.1 ?_
              refine r_if_eq hE 106 dX12_count_g1.2.2.2.2.2.2.2.2.2.1 (by decide) h (fun h => ?_) (fun h => ?_)
              · refine r_iconst (v := (0 : Int32)) hE dX12_count_g1.2.2.2.2.2.2.2.2.2.2.2.2.1 (by decide) ?_
                exact c_iret hE hm dX12_count_g1.2.2.2.2.2.2.2.2.2.2.2.2.2.1 h
              · refine r_iconst (v := (1 : Int32)) hE dX12_count_g1.2.2.2.2.2.2.2.2.2.2.1 (by decide) ?_
                refine r_goto hE 107 dX12_count_g1.2.2.2.2.2.2.2.2.2.2.2.1 (by decide) ?_
                exact c_iret hE hm dX12_count_g1.2.2.2.2.2.2.2.2.2.2.2.2.2.1 h
            · refine r_case (6 : Int32) h (fun q6 h => ?_) (fun q6 h => ?_)
              · refine r_tableAt (off := 107) hE (6 : Int32) 108 dX12_count_g0.2.1 q6 (by decide) (by decide) (by decide) (by decide) ?_
                refine r_aload_n hE 0 dX12_count_g1.2.2.2.2.2.2.2.2.2.2.2.2.2.2.1 rfl rfl ?_
                refine cg_ft_runs hE hm fk_X12_101 dX12_count_g1.2.2.2.2.2.2.2.2.2.2.2.2.2.2.2 ?_
                exact c_iret hE hm dX12_count_g2.1 h
              · refine r_case (7 : Int32) h (fun q7 h => ?_) (fun q7 h => ?_)
                · refine r_tableAt (off := 112) hE (7 : Int32) 113 dX12_count_g0.2.1 q7 (by decide) (by decide) (by decide) (by decide) ?_
                  refine r_aload_n hE 0 dX12_count_g2.2.1 rfl rfl ?_
                  refine cg_ft_tapeLength hE hm fk_X12_13 dX12_count_g2.2.2.1 ?_
                  exact c_iret hE hm dX12_count_g2.2.2.2.1 h
                · refine r_case (8 : Int32) h (fun q8 h => ?_) (fun q8 h => ?_)
                  · refine r_tableAt (off := 117) hE (8 : Int32) 118 dX12_count_g0.2.1 q8 (by decide) (by decide) (by decide) (by decide) ?_
                    refine r_aload_n hE 0 dX12_count_g2.2.2.2.2.1 rfl rfl ?_
                    refine cg_ft_out hE hm fk_X12_20 dX12_count_g2.2.2.2.2.2.1 ?_
                    refine cg_ou_length hE hm fk_X12_192 dX12_count_g2.2.2.2.2.2.2.1 ?_
                    exact c_iret hE hm dX12_count_g2.2.2.2.2.2.2.2.1 h
                  · have n0 := lv_neT q0 (show (0 : Int32).toInt = 0 by decide)
                    have n1 := lv_neT q1 (show (1 : Int32).toInt = 1 by decide)
                    have n2 := lv_neT q2 (show (2 : Int32).toInt = 2 by decide)
                    have n3 := lv_neT q3 (show (3 : Int32).toInt = 3 by decide)
                    have n4 := lv_neT q4 (show (4 : Int32).toInt = 4 by decide)
                    have n5 := lv_neT q5 (show (5 : Int32).toInt = 5 by decide)
                    have n6 := lv_neT q6 (show (6 : Int32).toInt = 6 by decide)
                    have n7 := lv_neT q7 (show (7 : Int32).toInt = 7 by decide)
                    have n8 := lv_neT q8 (show (8 : Int32).toInt = 8 by decide)
                    refine r_tableOut hE 126 dX12_count_g0.2.1 (by omega) (by decide) ?_
                    refine r_ldc (v := (-2000000002 : Int32)) hE dX12_count_g2.2.2.2.2.2.2.2.2.1 (gTb_2 (List.mem_of_getElem? (i := 209) rfl) rfl) ?_
                    exact c_iret hE hm dX12_count_g2.2.2.2.2.2.2.2.2.2 h
/-! to_fallAt -/
def wc_to_fallAt (post : CS → Int32 → Prop) (σ : CS) (a1 : Int32) (a2 : Int32) : Prop := wc_SX12_inside (fun (s1 : CS) (r2 : Int32) => ((r2 = (0 : Int32)) → (post s1 (-1 : Int32))) ∧ ((¬ (r2 = (0 : Int32))) → (((a1 < (12 : Int32)) → (((¬ (a2 = (0 : Int32))) → (vp_in a1 12 ∧ (post s1 (c_to_bytes s1 a1.toNatClampNeg)))) ∧ ((a2 = (0 : Int32)) → (vp_in a1 12 ∧ (post s1 (c_to_failures s1 a1.toNatClampNeg)))))) ∧ ((¬ (a1 < (12 : Int32))) → (post s1 (-1 : Int32)))))) σ a1 (c_to_falls σ)
set_option maxRecDepth 20000 in
theorem kc_to_fallAt {l : Launch} {D : va_G} {G : gAd} {post : CS → Int32 → Prop} {σ : CS} {a1 : Int32} {a2 : Int32} (h : wc_to_fallAt post σ a1 a2) : cMet l D G yX9_fallAt cX9_fallAt 3 (some .int) 2 [.ref (G.1 1100), .int a1, .int a2] σ (pI post) := by
  unfold wc_to_fallAt at h
  refine c_enter (own := RX9) (by decide +kernel) rfl [(0, .ref (G.1 1100)), (1, .int a1), (2, .int a2)] rfl (Nat.le_of_ble_eq_true rfl) ?_
  intro E hE hm
  have hN := hm.2.2.2.2.2.2.1
  refine r_iload_n hE 1 dX9_fallAt_g0.1 rfl rfl ?_
  refine r_aload_n hE 0 dX9_fallAt_g0.2.1 rfl rfl ?_
  refine cg_to_falls hE hm fk_X9_31 dX9_fallAt_g0.2.2.1 ?_
  refine c_callSNi hE hm [.int a1, .int (c_to_falls σ)] [] ck_X9_41 cw_X9_41 (kc_SX12_inside h) (by decide) rfl rfl (Nat.le_of_ble_eq_true rfl) dX9_fallAt_g0.2.2.2.1 (fun s1 r2 h => ?_)
  refine r_if_eq hE 17 dX9_fallAt_g0.2.2.2.2.1 (by decide) h (fun h => ?_) (fun h => ?_)
  · refine r_iconst (v := (-1 : Int32)) hE dX9_fallAt_g0.2.2.2.2.2.2.2.2.1 (by decide) ?_
    exact c_iret hE hm dX9_fallAt_g0.2.2.2.2.2.2.2.2.2.1 h
  · refine r_iload_n hE 1 dX9_fallAt_g0.2.2.2.2.2.1 rfl rfl ?_
    refine r_bipush (v := (12 : Int32)) hE dX9_fallAt_g0.2.2.2.2.2.2.1 (by decide) ?_
    refine r_icmp_lt hE 19 dX9_fallAt_g0.2.2.2.2.2.2.2.1 (by decide) h (fun h => ?_) (fun h => ?_)
    · refine r_iload_n hE 2 dX9_fallAt_g0.2.2.2.2.2.2.2.2.2.2.1 rfl rfl ?_
      refine r_if_ne hE 32 dX9_fallAt_g0.2.2.2.2.2.2.2.2.2.2.2.1 (by decide) h (fun h => ?_) (fun h => ?_)
      · refine r_aload_n hE 0 dX9_fallAt_g1.2.1 rfl rfl ?_
        refine cg_to_bytes hE hm fk_X9_21 dX9_fallAt_g1.2.2.1 ?_
        refine r_iload_n hE 1 dX9_fallAt_g1.2.2.2.1 rfl rfl ?_
        obtain ⟨hi, h⟩ := h
        refine cl_to_bytes hE hm dX9_fallAt_g1.2.2.2.2.1 hi ?_
        exact c_iret hE hm dX9_fallAt_g1.2.2.2.2.2 h
      · refine r_aload_n hE 0 dX9_fallAt_g0.2.2.2.2.2.2.2.2.2.2.2.2.1 rfl rfl ?_
        refine cg_to_failures hE hm fk_X9_18 dX9_fallAt_g0.2.2.2.2.2.2.2.2.2.2.2.2.2.1 ?_
        refine r_iload_n hE 1 dX9_fallAt_g0.2.2.2.2.2.2.2.2.2.2.2.2.2.2.1 rfl rfl ?_
        obtain ⟨hi, h⟩ := h
        refine cl_to_failures hE hm dX9_fallAt_g0.2.2.2.2.2.2.2.2.2.2.2.2.2.2.2 hi ?_
        refine r_goto hE 38 dX9_fallAt_g1.1 (by decide) ?_
        exact c_iret hE hm dX9_fallAt_g1.2.2.2.2.2 h
    · refine r_iconst (v := (-1 : Int32)) hE dX9_fallAt_g0.2.2.2.2.2.2.2.2.1 (by decide) ?_
      exact c_iret hE hm dX9_fallAt_g0.2.2.2.2.2.2.2.2.2.1 h
/-! ft_fall -/
def wc_ft_fall (post : CS → Int32 → Prop) (σ : CS) (a1 : Int32) (a2 : Int32) : Prop := wc_SX12_inside (fun (s1 : CS) (r2 : Int32) => ((¬ (r2 = (0 : Int32))) → (wc_to_fallAt (fun (s3 : CS) (r4 : Int32) => post s3 r4) s1 a1 a2)) ∧ ((r2 = (0 : Int32)) → (post s1 (-2000000002 : Int32)))) σ a2 (2 : Int32)
set_option maxRecDepth 20000 in
theorem kc_ft_fall {l : Launch} {D : va_G} {G : gAd} {post : CS → Int32 → Prop} {σ : CS} {a1 : Int32} {a2 : Int32} (h : wc_ft_fall post σ a1 a2) : cMet l D G yX12_fall cX12_fall 3 (some .int) 3 [.ref (G.1 200), .int a1, .int a2] σ (pI post) := by
  unfold wc_ft_fall at h
  refine c_enter (own := RX12) (by decide +kernel) rfl [(0, .ref (G.1 200)), (1, .int a1), (2, .int a2)] rfl (Nat.le_of_ble_eq_true rfl) ?_
  intro E hE hm
  have hN := hm.2.2.2.2.2.2.1
  refine r_iload_n hE 2 dX12_fall_g0.1 rfl rfl ?_
  refine r_iconst (v := (2 : Int32)) hE dX12_fall_g0.2.1 (by decide) ?_
  refine c_callSi hE hm [.int a2, .int (2 : Int32)] [] ck_X12_145 (kc_SX12_inside h) (by decide) rfl rfl (Nat.le_of_ble_eq_true rfl) dX12_fall_g0.2.2.1 (fun s1 r2 h => ?_)
  refine r_if_ne hE 11 dX12_fall_g0.2.2.2.1 (by decide) h (fun h => ?_) (fun h => ?_)
  · refine r_aload_n hE 0 dX12_fall_g0.2.2.2.2.2.2.1 rfl rfl ?_
    refine cg_ft_told hE hm fk_X12_83 dX12_fall_g0.2.2.2.2.2.2.2.1 ?_
    refine r_iload_n hE 1 dX12_fall_g0.2.2.2.2.2.2.2.2.1 rfl rfl ?_
    refine r_iload_n hE 2 dX12_fall_g0.2.2.2.2.2.2.2.2.2.1 rfl rfl ?_
    refine c_callVi hE hm [.int a1, .int a2] [] ck_X12_232 (cr_to hm rfl) (kc_to_fallAt h) (by decide) rfl rfl (Nat.le_of_ble_eq_true rfl) dX12_fall_g0.2.2.2.2.2.2.2.2.2.2.1 (fun s3 r4 h => ?_)
    exact c_iret hE hm dX12_fall_g0.2.2.2.2.2.2.2.2.2.2.2 h
  · refine r_ldc (v := (-2000000002 : Int32)) hE dX12_fall_g0.2.2.2.2.1 (gTb_2 (List.mem_of_getElem? (i := 209) rfl) rfl) ?_
    exact c_iret hE hm dX12_fall_g0.2.2.2.2.2.1 h
/-! SX6_bottom -/
def wc_SX6_bottom (post : CS → Int64 → Prop) (σ : CS) (a0 : Int64) : Prop := post σ (a0 &&& (4294967295 : Int64))
set_option maxRecDepth 20000 in
theorem kc_SX6_bottom {l : Launch} {D : va_G} {G : gAd} {post : CS → Int64 → Prop} {σ : CS} {a0 : Int64} (h : wc_SX6_bottom post σ a0) : cMet l D G yX6_bottom cX6_bottom 2 (some .long) 1 [.long a0] σ (pL post) := by
  unfold wc_SX6_bottom at h
  refine c_enter (own := RX6) (by decide +kernel) rfl [(0, .long a0)] rfl (Nat.le_of_ble_eq_true rfl) ?_
  intro E hE hm
  have hN := hm.2.2.2.2.2.2.1
  refine r_lload_n hE 0 dX6_bottom_g0.1 rfl rfl ?_
  refine r_ldc2 (v := (4294967295 : Int64)) hE dX6_bottom_g0.2.1 (gTb_5 (List.mem_of_getElem? (i := 10) rfl) rfl) ?_
  refine r_land hE dX6_bottom_g0.2.2.1 ?_
  exact c_lret hE hm dX6_bottom_g0.2.2.2 h
/-! SX6_top -/
def wc_SX6_top (post : CS → Int64 → Prop) (σ : CS) (a0 : Int64) : Prop := post σ (a0 >>> ((32 : Int32).toInt64 &&& 63))
set_option maxRecDepth 20000 in
theorem kc_SX6_top {l : Launch} {D : va_G} {G : gAd} {post : CS → Int64 → Prop} {σ : CS} {a0 : Int64} (h : wc_SX6_top post σ a0) : cMet l D G yX6_top cX6_top 2 (some .long) 1 [.long a0] σ (pL post) := by
  unfold wc_SX6_top at h
  refine c_enter (own := RX6) (by decide +kernel) rfl [(0, .long a0)] rfl (Nat.le_of_ble_eq_true rfl) ?_
  intro E hE hm
  have hN := hm.2.2.2.2.2.2.1
  refine r_lload_n hE 0 dX6_top_g0.1 rfl rfl ?_
  refine r_bipush (v := (32 : Int32)) hE dX6_top_g0.2.1 (by decide) ?_
  refine r_lshr hE dX6_top_g0.2.2.1 ?_
  exact c_lret hE hm dX6_top_g0.2.2.2 h
/-! rk_plus -/
def wc_rk_plus (post : CS → Int64 → Prop) (σ : CS) (a1 : Int64) (a3 : Int64) : Prop := wc_SX6_top (fun (s1 : CS) (r2 : Int64) => wc_SX6_bottom (fun (s3 : CS) (r4 : Int64) => wc_SX6_top (fun (s5 : CS) (r6 : Int64) => wc_SX6_bottom (fun (s7 : CS) (r8 : Int64) => wc_SX6_bottom (fun (s9 : CS) (r10 : Int64) => wc_SX6_bottom (fun (s11 : CS) (r12 : Int64) => wc_rk_reduced (fun (s13 : CS) (r14 : Int64) => post s13 r14) s11 ((r2 * r4) + (r6 * r8)) (r10 * r12)) s9 a3) s7 a1) s5 a1) s3 a3) s1 a3) σ a1
set_option maxRecDepth 20000 in
theorem kc_rk_plus {l : Launch} {D : va_G} {G : gAd} {post : CS → Int64 → Prop} {σ : CS} {a1 : Int64} {a3 : Int64} (h : wc_rk_plus post σ a1 a3) : cMet l D G yX6_plus cX6_plus 5 (some .long) 2 [.ref (G.1 800), .long a1, .long a3] σ (pL post) := by
  unfold wc_rk_plus at h
  refine c_enter (own := RX6) (by decide +kernel) rfl [(0, .ref (G.1 800)), (1, .long a1), (3, .long a3)] rfl (Nat.le_of_ble_eq_true rfl) ?_
  intro E hE hm
  have hN := hm.2.2.2.2.2.2.1
  refine r_aload_n hE 0 dX6_plus_g0.1 rfl rfl ?_
  refine r_lload_n hE 1 dX6_plus_g0.2.1 rfl rfl ?_
  refine c_callSl hE hm [.long a1] [.ref (G.1 800)] ck_X6_19 (kc_SX6_top h) (by decide) rfl rfl (Nat.le_of_ble_eq_true rfl) dX6_plus_g0.2.2.1 (fun s1 r2 h => ?_)
  refine r_lload_n hE 2 dX6_plus_g0.2.2.2.1 rfl rfl ?_
  refine c_callSl hE hm [.long a3] [.long r2, .ref (G.1 800)] ck_X6_23 (kc_SX6_bottom h) (by decide) rfl rfl (Nat.le_of_ble_eq_true rfl) dX6_plus_g0.2.2.2.2.1 (fun s3 r4 h => ?_)
  refine r_lmul hE dX6_plus_g0.2.2.2.2.2.1 ?_
  refine r_lload_n hE 2 dX6_plus_g0.2.2.2.2.2.2.1 rfl rfl ?_
  refine c_callSl hE hm [.long a3] [.long (r2 * r4), .ref (G.1 800)] ck_X6_19 (kc_SX6_top h) (by decide) rfl rfl (Nat.le_of_ble_eq_true rfl) dX6_plus_g0.2.2.2.2.2.2.2.1 (fun s5 r6 h => ?_)
  refine r_lload_n hE 1 dX6_plus_g0.2.2.2.2.2.2.2.2.1 rfl rfl ?_
  refine c_callSl hE hm [.long a1] [.long r6, .long (r2 * r4), .ref (G.1 800)] ck_X6_23 (kc_SX6_bottom h) (by decide) rfl rfl (Nat.le_of_ble_eq_true rfl) dX6_plus_g0.2.2.2.2.2.2.2.2.2.1 (fun s7 r8 h => ?_)
  refine r_lmul hE dX6_plus_g0.2.2.2.2.2.2.2.2.2.2.1 ?_
  refine r_ladd hE dX6_plus_g0.2.2.2.2.2.2.2.2.2.2.2.1 ?_
  refine r_lload_n hE 1 dX6_plus_g0.2.2.2.2.2.2.2.2.2.2.2.2.1 rfl rfl ?_
  refine c_callSl hE hm [.long a1] [.long ((r2 * r4) + (r6 * r8)), .ref (G.1 800)] ck_X6_23 (kc_SX6_bottom h) (by decide) rfl rfl (Nat.le_of_ble_eq_true rfl) dX6_plus_g0.2.2.2.2.2.2.2.2.2.2.2.2.2.1 (fun s9 r10 h => ?_)
  refine r_lload_n hE 2 dX6_plus_g0.2.2.2.2.2.2.2.2.2.2.2.2.2.2.1 rfl rfl ?_
  refine c_callSl hE hm [.long a3] [.long r10, .long ((r2 * r4) + (r6 * r8)), .ref (G.1 800)] ck_X6_23 (kc_SX6_bottom h) (by decide) rfl rfl (Nat.le_of_ble_eq_true rfl) dX6_plus_g0.2.2.2.2.2.2.2.2.2.2.2.2.2.2.2 (fun s11 r12 h => ?_)
  refine r_lmul hE dX6_plus_g1.1 ?_
  refine c_callVl hE hm [.long ((r2 * r4) + (r6 * r8)), .long (r10 * r12)] [] ck_X6_32 (cr_rk hm rfl) (kc_rk_reduced h) (by decide) rfl rfl (Nat.le_of_ble_eq_true rfl) dX6_plus_g1.2.1 (fun s13 r14 h => ?_)
  exact c_lret hE hm dX6_plus_g1.2.2 h
/-! rk_times -/
def wc_rk_times (post : CS → Int64 → Prop) (σ : CS) (a1 : Int64) (a3 : Int64) : Prop := wc_SX6_top (fun (s1 : CS) (r2 : Int64) => wc_SX6_top (fun (s3 : CS) (r4 : Int64) => wc_SX6_bottom (fun (s5 : CS) (r6 : Int64) => wc_SX6_bottom (fun (s7 : CS) (r8 : Int64) => wc_rk_reduced (fun (s9 : CS) (r10 : Int64) => post s9 r10) s7 (r2 * r4) (r6 * r8)) s5 a3) s3 a1) s1 a3) σ a1
set_option maxRecDepth 20000 in
theorem kc_rk_times {l : Launch} {D : va_G} {G : gAd} {post : CS → Int64 → Prop} {σ : CS} {a1 : Int64} {a3 : Int64} (h : wc_rk_times post σ a1 a3) : cMet l D G yX6_times cX6_times 5 (some .long) 2 [.ref (G.1 800), .long a1, .long a3] σ (pL post) := by
  unfold wc_rk_times at h
  refine c_enter (own := RX6) (by decide +kernel) rfl [(0, .ref (G.1 800)), (1, .long a1), (3, .long a3)] rfl (Nat.le_of_ble_eq_true rfl) ?_
  intro E hE hm
  have hN := hm.2.2.2.2.2.2.1
  refine r_aload_n hE 0 dX6_times_g0.1 rfl rfl ?_
  refine r_lload_n hE 1 dX6_times_g0.2.1 rfl rfl ?_
  refine c_callSl hE hm [.long a1] [.ref (G.1 800)] ck_X6_19 (kc_SX6_top h) (by decide) rfl rfl (Nat.le_of_ble_eq_true rfl) dX6_times_g0.2.2.1 (fun s1 r2 h => ?_)
  refine r_lload_n hE 2 dX6_times_g0.2.2.2.1 rfl rfl ?_
  refine c_callSl hE hm [.long a3] [.long r2, .ref (G.1 800)] ck_X6_19 (kc_SX6_top h) (by decide) rfl rfl (Nat.le_of_ble_eq_true rfl) dX6_times_g0.2.2.2.2.1 (fun s3 r4 h => ?_)
  refine r_lmul hE dX6_times_g0.2.2.2.2.2.1 ?_
  refine r_lload_n hE 1 dX6_times_g0.2.2.2.2.2.2.1 rfl rfl ?_
  refine c_callSl hE hm [.long a1] [.long (r2 * r4), .ref (G.1 800)] ck_X6_23 (kc_SX6_bottom h) (by decide) rfl rfl (Nat.le_of_ble_eq_true rfl) dX6_times_g0.2.2.2.2.2.2.2.1 (fun s5 r6 h => ?_)
  refine r_lload_n hE 2 dX6_times_g0.2.2.2.2.2.2.2.2.1 rfl rfl ?_
  refine c_callSl hE hm [.long a3] [.long r6, .long (r2 * r4), .ref (G.1 800)] ck_X6_23 (kc_SX6_bottom h) (by decide) rfl rfl (Nat.le_of_ble_eq_true rfl) dX6_times_g0.2.2.2.2.2.2.2.2.2.1 (fun s7 r8 h => ?_)
  refine r_lmul hE dX6_times_g0.2.2.2.2.2.2.2.2.2.2.1 ?_
  refine c_callVl hE hm [.long (r2 * r4), .long (r6 * r8)] [] ck_X6_32 (cr_rk hm rfl) (kc_rk_reduced h) (by decide) rfl rfl (Nat.le_of_ble_eq_true rfl) dX6_times_g0.2.2.2.2.2.2.2.2.2.2.2.1 (fun s9 r10 h => ?_)
  exact c_lret hE hm dX6_times_g0.2.2.2.2.2.2.2.2.2.2.2.2 h
/-! SX6_whole -/
def wc_SX6_whole (post : CS → Int64 → Prop) (σ : CS) (a0 : Int32) : Prop := post σ (((a0.toInt64) <<< ((32 : Int32).toInt64 &&& 63)) ||| (1 : Int64))
set_option maxRecDepth 20000 in
theorem kc_SX6_whole {l : Launch} {D : va_G} {G : gAd} {post : CS → Int64 → Prop} {σ : CS} {a0 : Int32} (h : wc_SX6_whole post σ a0) : cMet l D G yX6_whole cX6_whole 1 (some .long) 1 [.int a0] σ (pL post) := by
  unfold wc_SX6_whole at h
  refine c_enter (own := RX6) (by decide +kernel) rfl [(0, .int a0)] rfl (Nat.le_of_ble_eq_true rfl) ?_
  intro E hE hm
  have hN := hm.2.2.2.2.2.2.1
  refine r_iload_n hE 0 dX6_whole_g0.1 rfl rfl ?_
  refine r_i2l hE dX6_whole_g0.2.1 ?_
  refine r_bipush (v := (32 : Int32)) hE dX6_whole_g0.2.2.1 (by decide) ?_
  refine r_lshl hE dX6_whole_g0.2.2.2.1 ?_
  refine r_lconst (v := (1 : Int64)) hE dX6_whole_g0.2.2.2.2.1 (by decide) ?_
  refine r_lor hE dX6_whole_g0.2.2.2.2.2.1 ?_
  exact c_lret hE hm dX6_whole_g0.2.2.2.2.2.2 h
/-! ft_further -/
def wc_ft_further (post : CS → Int64 → Prop) (σ : CS) (a1 : Int64) (a3 : Int32) (a4 : Int32) : Prop := wc_rk_begin (fun (s1 : CS) => wc_SX6_whole (fun (s2 : CS) (r3 : Int64) => wc_SX6_whole (fun (s4 : CS) (r5 : Int64) => wc_rk_times (fun (s6 : CS) (r7 : Int64) => wc_rk_plus (fun (s8 : CS) (r9 : Int64) => post s8 r9) s6 a1 r7) s4 r3 r5) s2 a3) s1 a4) σ
set_option maxRecDepth 20000 in
theorem kc_ft_further {l : Launch} {D : va_G} {G : gAd} {post : CS → Int64 → Prop} {σ : CS} {a1 : Int64} {a3 : Int32} {a4 : Int32} (h : wc_ft_further post σ a1 a3 a4) : cMet l D G yX12_further cX12_further 5 (some .long) 3 [.ref (G.1 200), .long a1, .int a3, .int a4] σ (pL post) := by
  unfold wc_ft_further at h
  refine c_enter (own := RX12) (by decide +kernel) rfl [(0, .ref (G.1 200)), (1, .long a1), (3, .int a3), (4, .int a4)] rfl (Nat.le_of_ble_eq_true rfl) ?_
  intro E hE hm
  have hN := hm.2.2.2.2.2.2.1
  refine r_aload_n hE 0 dX12_further_g0.1 rfl rfl ?_
  refine cg_ft_reckoner hE hm fk_X12_62 dX12_further_g0.2.1 ?_
  refine c_callVv hE hm [] [] ck_X12_149 (cr_rk hm rfl) (kc_rk_begin h) (by decide) rfl rfl (Nat.le_of_ble_eq_true rfl) dX12_further_g0.2.2.1 (fun s1 h => ?_)
  refine r_aload_n hE 0 dX12_further_g0.2.2.2.1 rfl rfl ?_
  refine cg_ft_reckoner hE hm fk_X12_62 dX12_further_g0.2.2.2.2.1 ?_
  refine r_lload_n hE 1 dX12_further_g0.2.2.2.2.2.1 rfl rfl ?_
  refine r_aload_n hE 0 dX12_further_g0.2.2.2.2.2.2.1 rfl rfl ?_
  refine cg_ft_reckoner hE hm fk_X12_62 dX12_further_g0.2.2.2.2.2.2.2.1 ?_
  refine r_iload hE 3 dX12_further_g0.2.2.2.2.2.2.2.2.1 rfl ?_
  refine c_callSl hE hm [.int a4] [.ref (G.1 800), .long a1, .ref (G.1 800)] ck_X12_295 (kc_SX6_whole h) (by decide) rfl rfl (Nat.le_of_ble_eq_true rfl) dX12_further_g0.2.2.2.2.2.2.2.2.2.1 (fun s2 r3 h => ?_)
  refine r_iload_n hE 2 dX12_further_g0.2.2.2.2.2.2.2.2.2.2.1 rfl rfl ?_
  refine c_callSl hE hm [.int a3] [.long r3, .ref (G.1 800), .long a1, .ref (G.1 800)] ck_X12_295 (kc_SX6_whole h) (by decide) rfl rfl (Nat.le_of_ble_eq_true rfl) dX12_further_g0.2.2.2.2.2.2.2.2.2.2.2.1 (fun s4 r5 h => ?_)
  refine c_callVl hE hm [.long r3, .long r5] [.long a1, .ref (G.1 800)] ck_X12_299 (cr_rk hm rfl) (kc_rk_times h) (by decide) rfl rfl (Nat.le_of_ble_eq_true rfl) dX12_further_g0.2.2.2.2.2.2.2.2.2.2.2.2.1 (fun s6 r7 h => ?_)
  refine c_callVl hE hm [.long a1, .long r7] [] ck_X12_302 (cr_rk hm rfl) (kc_rk_plus h) (by decide) rfl rfl (Nat.le_of_ble_eq_true rfl) dX12_further_g0.2.2.2.2.2.2.2.2.2.2.2.2.2.1 (fun s8 r9 h => ?_)
  exact c_lret hE hm dX12_further_g0.2.2.2.2.2.2.2.2.2.2.2.2.2.2 h
/-! ft_swept -/
def wc_ft_swept (post : CS → Int32 → Prop) (σ : CS) (a1 : Int32) : Prop := wc_SX12_inside (fun (s1 : CS) (r2 : Int32) => ((r2 = (0 : Int32)) → (post s1 (-1 : Int32))) ∧ ((¬ (r2 = (0 : Int32))) → ((((21 : Int32) ≤ a1) → (post s1 (-1 : Int32))) ∧ ((¬ ((21 : Int32) ≤ a1)) → (vp_in a1 21 ∧ (post s1 (c_ft_sweeping s1 a1.toNatClampNeg))))))) σ a1 (c_ft_sweepingMany σ)
set_option maxRecDepth 20000 in
theorem kc_ft_swept {l : Launch} {D : va_G} {G : gAd} {post : CS → Int32 → Prop} {σ : CS} {a1 : Int32} (h : wc_ft_swept post σ a1) : cMet l D G yX12_swept cX12_swept 2 (some .int) 2 [.ref (G.1 200), .int a1] σ (pI post) := by
  unfold wc_ft_swept at h
  refine c_enter (own := RX12) (by decide +kernel) rfl [(0, .ref (G.1 200)), (1, .int a1)] rfl (Nat.le_of_ble_eq_true rfl) ?_
  intro E hE hm
  have hN := hm.2.2.2.2.2.2.1
  refine r_iload_n hE 1 dX12_swept_g0.1 rfl rfl ?_
  refine r_aload_n hE 0 dX12_swept_g0.2.1 rfl rfl ?_
  refine cg_ft_sweepingMany hE hm fk_X12_108 dX12_swept_g0.2.2.1 ?_
  refine c_callSi hE hm [.int a1, .int (c_ft_sweepingMany σ)] [] ck_X12_145 (kc_SX12_inside h) (by decide) rfl rfl (Nat.le_of_ble_eq_true rfl) dX12_swept_g0.2.2.2.1 (fun s1 r2 h => ?_)
  refine r_if_eq hE 29 dX12_swept_g0.2.2.2.2.1 (by decide) h (fun h => ?_) (fun h => ?_)
  · refine r_iconst (v := (-1 : Int32)) hE dX12_swept_g0.2.2.2.2.2.2.2.2.2.2.2.2.2.2.2 (by decide) ?_
    exact c_iret hE hm dX12_swept_g1 h
  · refine r_iload_n hE 1 dX12_swept_g0.2.2.2.2.2.1 rfl rfl ?_
    refine r_aload_n hE 0 dX12_swept_g0.2.2.2.2.2.2.1 rfl rfl ?_
    refine cg_ft_sweeping hE hm fk_X12_104 dX12_swept_g0.2.2.2.2.2.2.2.1 ?_
    refine cn_ft_sweeping hE hm dX12_swept_g0.2.2.2.2.2.2.2.2.1 ?_
    refine r_icmp_ge hE 29 dX12_swept_g0.2.2.2.2.2.2.2.2.2.1 (by decide) h (fun h => ?_) (fun h => ?_)
    · refine r_iconst (v := (-1 : Int32)) hE dX12_swept_g0.2.2.2.2.2.2.2.2.2.2.2.2.2.2.2 (by decide) ?_
      exact c_iret hE hm dX12_swept_g1 h
    · refine r_aload_n hE 0 dX12_swept_g0.2.2.2.2.2.2.2.2.2.2.1 rfl rfl ?_
      refine cg_ft_sweeping hE hm fk_X12_104 dX12_swept_g0.2.2.2.2.2.2.2.2.2.2.2.1 ?_
      refine r_iload_n hE 1 dX12_swept_g0.2.2.2.2.2.2.2.2.2.2.2.2.1 rfl rfl ?_
      obtain ⟨hi, h⟩ := h
      refine cl_ft_sweeping hE hm dX12_swept_g0.2.2.2.2.2.2.2.2.2.2.2.2.2.1 hi ?_
      refine r_goto hE 30 dX12_swept_g0.2.2.2.2.2.2.2.2.2.2.2.2.2.2.1 (by decide) ?_
      exact c_iret hE hm dX12_swept_g1 h
/-! fr_remember -/
def wc_fr_remember_2 (post : CS → Prop) : Nat → CS → Int32 → Prop
  | 0, _, _ => False
  | n + 1, σ, v1 => (((12 : Int32) ≤ v1) → (post σ)) ∧ ((¬ ((12 : Int32) ≤ v1)) → (vp_in v1 12 ∧ (vp_in v1 12 ∧ (isB (c_fr_moved σ v1.toNatClampNeg) ∧ (∀ s1 : CS, s1 = c_fr_wasMoved_s σ v1.toNatClampNeg (c_fr_moved σ v1.toNatClampNeg) → vp_in v1 12 ∧ (vp_in v1 12 ∧ (∀ s2 : CS, s2 = c_fr_wasX_s s1 v1.toNatClampNeg (c_fr_toX s1 v1.toNatClampNeg) → vp_in v1 12 ∧ (vp_in v1 12 ∧ (∀ s3 : CS, s3 = c_fr_wasY_s s2 v1.toNatClampNeg (c_fr_toY s2 v1.toNatClampNeg) → ∀ x4 : Int32, x4 = v1 + (1 : Int32) → wc_fr_remember_2 post n s3 x4)))))))))
set_option maxRecDepth 20000 in
theorem kc_fr_remember_2 {E : gEnv} {l : Launch} {D : va_G} {G : gAd} {post : CS → Prop} (hE : gOK E cX2_remember RX2 none 1) (hm : cOK E l D G (pV post) 2) : ∀ (n : Nat) (σ : CS) (v1 : Int32), wc_fr_remember_2 post n σ v1 → GW E (cW G σ) 2 [(0, .ref (G.1 1000)), (1, .int v1)] [] := by
  intro n
  induction n with
  | zero => intro σ v1 h; exact h.elim
  | succ n ih =>
    intro σ v1 h
    rw [wc_fr_remember_2] at h
    have hN := hm.2.2.2.2.2.2.1
    refine r_iload_n hE 1 dX2_remember_g0.2.2.1 rfl rfl ?_
    refine r_bipush (v := (12 : Int32)) hE dX2_remember_g0.2.2.2.1 (by decide) ?_
    refine r_icmp_ge hE 50 dX2_remember_g0.2.2.2.2.1 (by decide) h (fun h => ?_) (fun h => ?_)
    · exact c_vret hE hm dX2_remember_g1.2.2.2.2.2.2.2.2.2.2.2.2.2.2.2 h
    · refine r_aload_n hE 0 dX2_remember_g0.2.2.2.2.2.1 rfl rfl ?_
      refine cg_fr_wasMoved hE hm fk_X2_22 dX2_remember_g0.2.2.2.2.2.2.1 ?_
      refine r_iload_n hE 1 dX2_remember_g0.2.2.2.2.2.2.2.1 rfl rfl ?_
      refine r_aload_n hE 0 dX2_remember_g0.2.2.2.2.2.2.2.2.1 rfl rfl ?_
      refine cg_fr_moved hE hm fk_X2_9 dX2_remember_g0.2.2.2.2.2.2.2.2.2.1 ?_
      refine r_iload_n hE 1 dX2_remember_g0.2.2.2.2.2.2.2.2.2.2.1 rfl rfl ?_
      obtain ⟨hi, h⟩ := h
      refine cl_fr_moved hE hm dX2_remember_g0.2.2.2.2.2.2.2.2.2.2.2.1 hi ?_
      obtain ⟨hi, h⟩ := h
      obtain ⟨hb, h⟩ := h
      refine cs_fr_wasMoved hE hm dX2_remember_g0.2.2.2.2.2.2.2.2.2.2.2.2.1 hi hb h (fun s1 h => ?_)
      refine r_aload_n hE 0 dX2_remember_g0.2.2.2.2.2.2.2.2.2.2.2.2.2.1 rfl rfl ?_
      refine cg_fr_wasX hE hm fk_X2_25 dX2_remember_g0.2.2.2.2.2.2.2.2.2.2.2.2.2.2.1 ?_
      refine r_iload_n hE 1 dX2_remember_g0.2.2.2.2.2.2.2.2.2.2.2.2.2.2.2 rfl rfl ?_
      refine r_aload_n hE 0 dX2_remember_g1.1 rfl rfl ?_
      refine cg_fr_toX hE hm fk_X2_15 dX2_remember_g1.2.1 ?_
      refine r_iload_n hE 1 dX2_remember_g1.2.2.1 rfl rfl ?_
      obtain ⟨hi, h⟩ := h
      refine cl_fr_toX hE hm dX2_remember_g1.2.2.2.1 hi ?_
      obtain ⟨hi, h⟩ := h
      refine cs_fr_wasX hE hm dX2_remember_g1.2.2.2.2.1 hi h (fun s2 h => ?_)
      refine r_aload_n hE 0 dX2_remember_g1.2.2.2.2.2.1 rfl rfl ?_
      refine cg_fr_wasY hE hm fk_X2_28 dX2_remember_g1.2.2.2.2.2.2.1 ?_
      refine r_iload_n hE 1 dX2_remember_g1.2.2.2.2.2.2.2.1 rfl rfl ?_
      refine r_aload_n hE 0 dX2_remember_g1.2.2.2.2.2.2.2.2.1 rfl rfl ?_
      refine cg_fr_toY hE hm fk_X2_19 dX2_remember_g1.2.2.2.2.2.2.2.2.2.1 ?_
      refine r_iload_n hE 1 dX2_remember_g1.2.2.2.2.2.2.2.2.2.2.1 rfl rfl ?_
      obtain ⟨hi, h⟩ := h
      refine cl_fr_toY hE hm dX2_remember_g1.2.2.2.2.2.2.2.2.2.2.2.1 hi ?_
      obtain ⟨hi, h⟩ := h
      refine cs_fr_wasY hE hm dX2_remember_g1.2.2.2.2.2.2.2.2.2.2.2.2.1 hi h (fun s3 h => ?_)
      obtain ⟨x4, ex4⟩ : ∃ z : Int32, z = v1 + (1 : Int32) := ⟨_, rfl⟩
      have h := h x4 ex4
      refine r_iinc (v := x4) hE [(1, .int x4), (0, .ref (G.1 1000))] 1 dX2_remember_g1.2.2.2.2.2.2.2.2.2.2.2.2.2.1 rfl (by rw [ex4]; rfl) hN (by decide) rfl ?_
      refine r_goto hE 2 dX2_remember_g1.2.2.2.2.2.2.2.2.2.2.2.2.2.2.1 (by decide) ?_
      refine r_pick [1, 0] rfl ?_
      exact ih _ _ h
def wc_fr_remember (post : CS → Prop) (σ : CS) : Prop := ∃ k : Nat, wc_fr_remember_2 post k σ (0 : Int32)
set_option maxRecDepth 20000 in
theorem kc_fr_remember {l : Launch} {D : va_G} {G : gAd} {post : CS → Prop} {σ : CS} (h : wc_fr_remember post σ) : cMet l D G yX2_remember cX2_remember 2 none 1 [.ref (G.1 1000)] σ (pV post) := by
  unfold wc_fr_remember at h
  refine c_enter (own := RX2) (by decide +kernel) rfl [(0, .ref (G.1 1000))] rfl (Nat.le_of_ble_eq_true rfl) ?_
  intro E hE hm
  have hN := hm.2.2.2.2.2.2.1
  refine r_iconst (v := (0 : Int32)) hE dX2_remember_g0.1 (by decide) ?_
  refine r_istore_n hE [(1, .int (0 : Int32)), (0, .ref (G.1 1000))] dX2_remember_g0.2.1 rfl hN (by decide) rfl ?_
  refine r_pick [1, 0] rfl ?_
  obtain ⟨k, h⟩ := h
  exact kc_fr_remember_2 hE hm k _ _ h
/-! fr_restore -/
def wc_fr_restore_2 (post : CS → Prop) : Nat → CS → Int32 → Prop
  | 0, _, _ => False
  | n + 1, σ, v1 => (((12 : Int32) ≤ v1) → (post σ)) ∧ ((¬ ((12 : Int32) ≤ v1)) → (vp_in v1 12 ∧ (vp_in v1 12 ∧ (isB (c_fr_wasMoved σ v1.toNatClampNeg) ∧ (∀ s1 : CS, s1 = c_fr_moved_s σ v1.toNatClampNeg (c_fr_wasMoved σ v1.toNatClampNeg) → vp_in v1 12 ∧ (vp_in v1 12 ∧ (∀ s2 : CS, s2 = c_fr_toX_s s1 v1.toNatClampNeg (c_fr_wasX s1 v1.toNatClampNeg) → vp_in v1 12 ∧ (vp_in v1 12 ∧ (∀ s3 : CS, s3 = c_fr_toY_s s2 v1.toNatClampNeg (c_fr_wasY s2 v1.toNatClampNeg) → ∀ x4 : Int32, x4 = v1 + (1 : Int32) → wc_fr_restore_2 post n s3 x4)))))))))
set_option maxRecDepth 20000 in
theorem kc_fr_restore_2 {E : gEnv} {l : Launch} {D : va_G} {G : gAd} {post : CS → Prop} (hE : gOK E cX2_restore RX2 none 1) (hm : cOK E l D G (pV post) 2) : ∀ (n : Nat) (σ : CS) (v1 : Int32), wc_fr_restore_2 post n σ v1 → GW E (cW G σ) 2 [(0, .ref (G.1 1000)), (1, .int v1)] [] := by
  intro n
  induction n with
  | zero => intro σ v1 h; exact h.elim
  | succ n ih =>
    intro σ v1 h
    rw [wc_fr_restore_2] at h
    have hN := hm.2.2.2.2.2.2.1
    refine r_iload_n hE 1 dX2_restore_g0.2.2.1 rfl rfl ?_
    refine r_bipush (v := (12 : Int32)) hE dX2_restore_g0.2.2.2.1 (by decide) ?_
    refine r_icmp_ge hE 50 dX2_restore_g0.2.2.2.2.1 (by decide) h (fun h => ?_) (fun h => ?_)
    · exact c_vret hE hm dX2_restore_g1.2.2.2.2.2.2.2.2.2.2.2.2.2.2.2 h
    · refine r_aload_n hE 0 dX2_restore_g0.2.2.2.2.2.1 rfl rfl ?_
      refine cg_fr_moved hE hm fk_X2_9 dX2_restore_g0.2.2.2.2.2.2.1 ?_
      refine r_iload_n hE 1 dX2_restore_g0.2.2.2.2.2.2.2.1 rfl rfl ?_
      refine r_aload_n hE 0 dX2_restore_g0.2.2.2.2.2.2.2.2.1 rfl rfl ?_
      refine cg_fr_wasMoved hE hm fk_X2_22 dX2_restore_g0.2.2.2.2.2.2.2.2.2.1 ?_
      refine r_iload_n hE 1 dX2_restore_g0.2.2.2.2.2.2.2.2.2.2.1 rfl rfl ?_
      obtain ⟨hi, h⟩ := h
      refine cl_fr_wasMoved hE hm dX2_restore_g0.2.2.2.2.2.2.2.2.2.2.2.1 hi ?_
      obtain ⟨hi, h⟩ := h
      obtain ⟨hb, h⟩ := h
      refine cs_fr_moved hE hm dX2_restore_g0.2.2.2.2.2.2.2.2.2.2.2.2.1 hi hb h (fun s1 h => ?_)
      refine r_aload_n hE 0 dX2_restore_g0.2.2.2.2.2.2.2.2.2.2.2.2.2.1 rfl rfl ?_
      refine cg_fr_toX hE hm fk_X2_15 dX2_restore_g0.2.2.2.2.2.2.2.2.2.2.2.2.2.2.1 ?_
      refine r_iload_n hE 1 dX2_restore_g0.2.2.2.2.2.2.2.2.2.2.2.2.2.2.2 rfl rfl ?_
      refine r_aload_n hE 0 dX2_restore_g1.1 rfl rfl ?_
      refine cg_fr_wasX hE hm fk_X2_25 dX2_restore_g1.2.1 ?_
      refine r_iload_n hE 1 dX2_restore_g1.2.2.1 rfl rfl ?_
      obtain ⟨hi, h⟩ := h
      refine cl_fr_wasX hE hm dX2_restore_g1.2.2.2.1 hi ?_
      obtain ⟨hi, h⟩ := h
      refine cs_fr_toX hE hm dX2_restore_g1.2.2.2.2.1 hi h (fun s2 h => ?_)
      refine r_aload_n hE 0 dX2_restore_g1.2.2.2.2.2.1 rfl rfl ?_
      refine cg_fr_toY hE hm fk_X2_19 dX2_restore_g1.2.2.2.2.2.2.1 ?_
      refine r_iload_n hE 1 dX2_restore_g1.2.2.2.2.2.2.2.1 rfl rfl ?_
      refine r_aload_n hE 0 dX2_restore_g1.2.2.2.2.2.2.2.2.1 rfl rfl ?_
      refine cg_fr_wasY hE hm fk_X2_28 dX2_restore_g1.2.2.2.2.2.2.2.2.2.1 ?_
      refine r_iload_n hE 1 dX2_restore_g1.2.2.2.2.2.2.2.2.2.2.1 rfl rfl ?_
      obtain ⟨hi, h⟩ := h
      refine cl_fr_wasY hE hm dX2_restore_g1.2.2.2.2.2.2.2.2.2.2.2.1 hi ?_
      obtain ⟨hi, h⟩ := h
      refine cs_fr_toY hE hm dX2_restore_g1.2.2.2.2.2.2.2.2.2.2.2.2.1 hi h (fun s3 h => ?_)
      obtain ⟨x4, ex4⟩ : ∃ z : Int32, z = v1 + (1 : Int32) := ⟨_, rfl⟩
      have h := h x4 ex4
      refine r_iinc (v := x4) hE [(1, .int x4), (0, .ref (G.1 1000))] 1 dX2_restore_g1.2.2.2.2.2.2.2.2.2.2.2.2.2.1 rfl (by rw [ex4]; rfl) hN (by decide) rfl ?_
      refine r_goto hE 2 dX2_restore_g1.2.2.2.2.2.2.2.2.2.2.2.2.2.2.1 (by decide) ?_
      refine r_pick [1, 0] rfl ?_
      exact ih _ _ h
def wc_fr_restore (post : CS → Prop) (σ : CS) : Prop := ∃ k : Nat, wc_fr_restore_2 post k σ (0 : Int32)
set_option maxRecDepth 20000 in
theorem kc_fr_restore {l : Launch} {D : va_G} {G : gAd} {post : CS → Prop} {σ : CS} (h : wc_fr_restore post σ) : cMet l D G yX2_restore cX2_restore 2 none 1 [.ref (G.1 1000)] σ (pV post) := by
  unfold wc_fr_restore at h
  refine c_enter (own := RX2) (by decide +kernel) rfl [(0, .ref (G.1 1000))] rfl (Nat.le_of_ble_eq_true rfl) ?_
  intro E hE hm
  have hN := hm.2.2.2.2.2.2.1
  refine r_iconst (v := (0 : Int32)) hE dX2_restore_g0.1 (by decide) ?_
  refine r_istore_n hE [(1, .int (0 : Int32)), (0, .ref (G.1 1000))] dX2_restore_g0.2.1 rfl hN (by decide) rfl ?_
  refine r_pick [1, 0] rfl ?_
  obtain ⟨k, h⟩ := h
  exact kc_fr_restore_2 hE hm k _ _ h
/-! fr_scatter -/
def wc_fr_scatter_4 (post : CS → Int32 → Prop) : Nat → CS → Int32 → Int32 → Prop
  | 0, _, _, _ => False
  | n + 1, σ, v2, v3 => (((12 : Int32) ≤ v3) → (post σ v2)) ∧ ((¬ ((12 : Int32) ≤ v3)) → (∀ x1 : Int32, x1 = (v2 * (1103515245 : Int32)) + (12345 : Int32) → wc_SX6_whole (fun (s2 : CS) (r3 : Int64) => ∀ x4 : Int32, x4 = (x1 * (1103515245 : Int32)) + (12345 : Int32) → wc_SX6_whole (fun (s5 : CS) (r6 : Int64) => wc_fr_moveTo (fun (s7 : CS) => ∀ x8 : Int32, x8 = v3 + (1 : Int32) → wc_fr_scatter_4 post n s7 x4 x8) s5 v3 r3 r6) s2 ((((x4.toUInt32 >>> ((16 : Int32).toUInt32 &&& Int32.toUInt32 31)).toInt32) - ((x4.toUInt32 >>> ((16 : Int32).toUInt32 &&& Int32.toUInt32 31)).toInt32) / (41 : Int32) * (41 : Int32)) - (20 : Int32))) σ ((((x1.toUInt32 >>> ((16 : Int32).toUInt32 &&& Int32.toUInt32 31)).toInt32) - ((x1.toUInt32 >>> ((16 : Int32).toUInt32 &&& Int32.toUInt32 31)).toInt32) / (41 : Int32) * (41 : Int32)) - (20 : Int32))))
set_option maxRecDepth 20000 in
theorem kc_fr_scatter_4 {E : gEnv} {l : Launch} {D : va_G} {G : gAd} {post : CS → Int32 → Prop} (hE : gOK E cX2_scatter RX2 (some .int) 3) (hm : cOK E l D G (pI post) 6) : ∀ (n : Nat) (σ : CS) (v2 : Int32) (v3 : Int32), wc_fr_scatter_4 post n σ v2 v3 → GW E (cW G σ) 4 [(0, .ref (G.1 1000)), (2, .int v2), (3, .int v3)] [] := by
  intro n
  induction n with
  | zero => intro σ v2 v3 h; exact h.elim
  | succ n ih =>
    intro σ v2 v3 h
    rw [wc_fr_scatter_4] at h
    have hN := hm.2.2.2.2.2.2.1
    refine r_iload_n hE 2 dX2_scatter_g0.2.2.2.2.1 rfl rfl ?_
    refine r_bipush (v := (12 : Int32)) hE dX2_scatter_g0.2.2.2.2.2.1 (by decide) ?_
    refine r_icmp_ge hE 69 dX2_scatter_g0.2.2.2.2.2.2.1 (by decide) h (fun h => ?_) (fun h => ?_)
    · refine r_iload_n hE 1 dX2_scatter_g2.2.2.2.2.2.2.2.2.2.2.1 rfl rfl ?_
      exact c_iret hE hm dX2_scatter_g2.2.2.2.2.2.2.2.2.2.2.2 h
    · refine r_iload_n hE 1 dX2_scatter_g0.2.2.2.2.2.2.2.1 rfl rfl ?_
      refine r_ldc (v := (1103515245 : Int32)) hE dX2_scatter_g0.2.2.2.2.2.2.2.2.1 (gTb_7 (List.mem_of_getElem? (i := 20) rfl) rfl) ?_
      refine r_imul hE dX2_scatter_g0.2.2.2.2.2.2.2.2.2.1 ?_
      refine r_sipush (v := (12345 : Int32)) hE dX2_scatter_g0.2.2.2.2.2.2.2.2.2.2.1 (by decide) ?_
      refine r_iadd hE dX2_scatter_g0.2.2.2.2.2.2.2.2.2.2.2.1 ?_
      refine r_topi h (fun x1 ex1 h => ?_)
      refine r_istore_n hE [(2, .int x1), (0, .ref (G.1 1000)), (3, .int v3)] dX2_scatter_g0.2.2.2.2.2.2.2.2.2.2.2.2.1 rfl hN (by decide) rfl ?_
      refine r_iload_n hE 0 dX2_scatter_g0.2.2.2.2.2.2.2.2.2.2.2.2.2.1 rfl rfl ?_
      refine r_bipush (v := (16 : Int32)) hE dX2_scatter_g0.2.2.2.2.2.2.2.2.2.2.2.2.2.2.1 (by decide) ?_
      refine r_iushr hE dX2_scatter_g0.2.2.2.2.2.2.2.2.2.2.2.2.2.2.2 ?_
      refine r_bipush (v := (41 : Int32)) hE dX2_scatter_g1.1 (by decide) ?_
      refine r_irem hE dX2_scatter_g1.2.1 (by decide) ?_
      refine r_bipush (v := (20 : Int32)) hE dX2_scatter_g1.2.2.1 (by decide) ?_
      refine r_isub hE dX2_scatter_g1.2.2.2.1 ?_
      refine c_callSl hE hm [.int ((((x1.toUInt32 >>> ((16 : Int32).toUInt32 &&& Int32.toUInt32 31)).toInt32) - ((x1.toUInt32 >>> ((16 : Int32).toUInt32 &&& Int32.toUInt32 31)).toInt32) / (41 : Int32) * (41 : Int32)) - (20 : Int32))] [] ck_X2_46 (kc_SX6_whole h) (by decide) rfl rfl (Nat.le_of_ble_eq_true rfl) dX2_scatter_g1.2.2.2.2.1 (fun s2 r3 h => ?_)
      refine r_lstore hE [(4, .long r3), (2, .int x1), (0, .ref (G.1 1000)), (3, .int v3)] dX2_scatter_g1.2.2.2.2.2.1 hN (by decide) rfl ?_
      refine r_iload_n hE 1 dX2_scatter_g1.2.2.2.2.2.2.1 rfl rfl ?_
      refine r_ldc (v := (1103515245 : Int32)) hE dX2_scatter_g1.2.2.2.2.2.2.2.1 (gTb_7 (List.mem_of_getElem? (i := 20) rfl) rfl) ?_
      refine r_imul hE dX2_scatter_g1.2.2.2.2.2.2.2.2.1 ?_
      refine r_sipush (v := (12345 : Int32)) hE dX2_scatter_g1.2.2.2.2.2.2.2.2.2.1 (by decide) ?_
      refine r_iadd hE dX2_scatter_g1.2.2.2.2.2.2.2.2.2.2.1 ?_
      refine r_topi h (fun x4 ex4 h => ?_)
      refine r_istore_n hE [(2, .int x4), (4, .long r3), (0, .ref (G.1 1000)), (3, .int v3)] dX2_scatter_g1.2.2.2.2.2.2.2.2.2.2.2.1 rfl hN (by decide) rfl ?_
      refine r_aload_n hE 2 dX2_scatter_g1.2.2.2.2.2.2.2.2.2.2.2.2.1 rfl rfl ?_
      refine r_iload_n hE 3 dX2_scatter_g1.2.2.2.2.2.2.2.2.2.2.2.2.2.1 rfl rfl ?_
      refine r_lload hE 1 dX2_scatter_g1.2.2.2.2.2.2.2.2.2.2.2.2.2.2.1 rfl ?_
      refine r_iload_n hE 0 dX2_scatter_g1.2.2.2.2.2.2.2.2.2.2.2.2.2.2.2 rfl rfl ?_
      refine r_bipush (v := (16 : Int32)) hE dX2_scatter_g2.1 (by decide) ?_
      refine r_iushr hE dX2_scatter_g2.2.1 ?_
      refine r_bipush (v := (41 : Int32)) hE dX2_scatter_g2.2.2.1 (by decide) ?_
      refine r_irem hE dX2_scatter_g2.2.2.2.1 (by decide) ?_
      refine r_bipush (v := (20 : Int32)) hE dX2_scatter_g2.2.2.2.2.1 (by decide) ?_
      refine r_isub hE dX2_scatter_g2.2.2.2.2.2.1 ?_
      refine c_callSl hE hm [.int ((((x4.toUInt32 >>> ((16 : Int32).toUInt32 &&& Int32.toUInt32 31)).toInt32) - ((x4.toUInt32 >>> ((16 : Int32).toUInt32 &&& Int32.toUInt32 31)).toInt32) / (41 : Int32) * (41 : Int32)) - (20 : Int32))] [.long r3, .int v3, .ref (G.1 1000)] ck_X2_46 (kc_SX6_whole h) (by decide) rfl rfl (Nat.le_of_ble_eq_true rfl) dX2_scatter_g2.2.2.2.2.2.2.1 (fun s5 r6 h => ?_)
      refine c_callVv hE hm [.int v3, .long r3, .long r6] [] ck_X2_50 (cr_fr hm rfl) (kc_fr_moveTo h) (by decide) rfl rfl (Nat.le_of_ble_eq_true rfl) dX2_scatter_g2.2.2.2.2.2.2.2.1 (fun s7 h => ?_)
      obtain ⟨x8, ex8⟩ : ∃ z : Int32, z = v3 + (1 : Int32) := ⟨_, rfl⟩
      have h := h x8 ex8
      refine r_iinc (v := x8) hE [(3, .int x8), (2, .int x4), (4, .long r3), (0, .ref (G.1 1000))] 3 dX2_scatter_g2.2.2.2.2.2.2.2.2.1 rfl (by rw [ex8]; rfl) hN (by decide) rfl ?_
      refine r_goto hE 4 dX2_scatter_g2.2.2.2.2.2.2.2.2.2.1 (by decide) ?_
      refine r_pick [3, 1, 0] rfl ?_
      exact ih _ _ _ h
def wc_fr_scatter (post : CS → Int32 → Prop) (σ : CS) (a1 : Int32) : Prop := ∃ k : Nat, wc_fr_scatter_4 post k σ a1 (0 : Int32)
set_option maxRecDepth 20000 in
theorem kc_fr_scatter {l : Launch} {D : va_G} {G : gAd} {post : CS → Int32 → Prop} {σ : CS} {a1 : Int32} (h : wc_fr_scatter post σ a1) : cMet l D G yX2_scatter cX2_scatter 6 (some .int) 3 [.ref (G.1 1000), .int a1] σ (pI post) := by
  unfold wc_fr_scatter at h
  refine c_enter (own := RX2) (by decide +kernel) rfl [(0, .ref (G.1 1000)), (1, .int a1)] rfl (Nat.le_of_ble_eq_true rfl) ?_
  intro E hE hm
  have hN := hm.2.2.2.2.2.2.1
  refine r_iload_n hE 1 dX2_scatter_g0.1 rfl rfl ?_
  refine r_istore_n hE [(2, .int a1), (0, .ref (G.1 1000)), (1, .int a1)] dX2_scatter_g0.2.1 rfl hN (by decide) rfl ?_
  refine r_iconst (v := (0 : Int32)) hE dX2_scatter_g0.2.2.1 (by decide) ?_
  refine r_istore_n hE [(3, .int (0 : Int32)), (2, .int a1), (0, .ref (G.1 1000)), (1, .int a1)] dX2_scatter_g0.2.2.2.1 rfl hN (by decide) rfl ?_
  refine r_pick [2, 1, 0] rfl ?_
  obtain ⟨k, h⟩ := h
  exact kc_fr_scatter_4 hE hm k _ _ _ h
/-! fg_byteAt -/
def wc_fg_byteAt (post : CS → Int32 → Prop) (σ : CS) (a1 : Int32) : Prop := ((a1 < (0 : Int32)) → (post σ (-1 : Int32))) ∧ ((¬ (a1 < (0 : Int32))) → ((((c_fg_length σ) ≤ a1) → (post σ (-1 : Int32))) ∧ ((¬ ((c_fg_length σ) ≤ a1)) → ((((3000 : Int32) ≤ a1) → (post σ (-1 : Int32))) ∧ ((¬ ((3000 : Int32) ≤ a1)) → (vp_in a1 3000 ∧ (post σ ((c_fg_text σ a1.toNatClampNeg) &&& (255 : Int32)))))))))
set_option maxRecDepth 20000 in
theorem kc_fg_byteAt {l : Launch} {D : va_G} {G : gAd} {post : CS → Int32 → Prop} {σ : CS} {a1 : Int32} (h : wc_fg_byteAt post σ a1) : cMet l D G yX1_byteAt cX1_byteAt 2 (some .int) 1 [.ref (G.1 300), .int a1] σ (pI post) := by
  unfold wc_fg_byteAt at h
  refine c_enter (own := RX1) (by decide +kernel) rfl [(0, .ref (G.1 300)), (1, .int a1)] rfl (Nat.le_of_ble_eq_true rfl) ?_
  intro E hE hm
  have hN := hm.2.2.2.2.2.2.1
  refine r_iload_n hE 1 dX1_byteAt_g0.1 rfl rfl ?_
  refine r_if_lt hE 34 dX1_byteAt_g0.2.1 (by decide) h (fun h => ?_) (fun h => ?_)
  · refine r_iconst (v := (-1 : Int32)) hE dX1_byteAt_g1.2.2.1 (by decide) ?_
    exact c_iret hE hm dX1_byteAt_g1.2.2.2 h
  · refine r_iload_n hE 1 dX1_byteAt_g0.2.2.1 rfl rfl ?_
    refine r_aload_n hE 0 dX1_byteAt_g0.2.2.2.1 rfl rfl ?_
    refine cg_fg_length hE hm fk_X1_15 dX1_byteAt_g0.2.2.2.2.1 ?_
    refine r_icmp_ge hE 34 dX1_byteAt_g0.2.2.2.2.2.1 (by decide) h (fun h => ?_) (fun h => ?_)
    · refine r_iconst (v := (-1 : Int32)) hE dX1_byteAt_g1.2.2.1 (by decide) ?_
      exact c_iret hE hm dX1_byteAt_g1.2.2.2 h
    · refine r_iload_n hE 1 dX1_byteAt_g0.2.2.2.2.2.2.1 rfl rfl ?_
      refine r_aload_n hE 0 dX1_byteAt_g0.2.2.2.2.2.2.2.1 rfl rfl ?_
      refine cg_fg_text hE hm fk_X1_9 dX1_byteAt_g0.2.2.2.2.2.2.2.2.1 ?_
      refine cn_fg_text hE hm dX1_byteAt_g0.2.2.2.2.2.2.2.2.2.1 ?_
      refine r_icmp_ge hE 34 dX1_byteAt_g0.2.2.2.2.2.2.2.2.2.2.1 (by decide) h (fun h => ?_) (fun h => ?_)
      · refine r_iconst (v := (-1 : Int32)) hE dX1_byteAt_g1.2.2.1 (by decide) ?_
        exact c_iret hE hm dX1_byteAt_g1.2.2.2 h
      · refine r_aload_n hE 0 dX1_byteAt_g0.2.2.2.2.2.2.2.2.2.2.2.1 rfl rfl ?_
        refine cg_fg_text hE hm fk_X1_9 dX1_byteAt_g0.2.2.2.2.2.2.2.2.2.2.2.2.1 ?_
        refine r_iload_n hE 1 dX1_byteAt_g0.2.2.2.2.2.2.2.2.2.2.2.2.2.1 rfl rfl ?_
        obtain ⟨hi, h⟩ := h
        refine cl_fg_text hE hm dX1_byteAt_g0.2.2.2.2.2.2.2.2.2.2.2.2.2.2.1 hi ?_
        refine r_sipush (v := (255 : Int32)) hE dX1_byteAt_g0.2.2.2.2.2.2.2.2.2.2.2.2.2.2.2 (by decide) ?_
        refine r_iand hE dX1_byteAt_g1.1 ?_
        refine r_goto hE 35 dX1_byteAt_g1.2.1 (by decide) ?_
        exact c_iret hE hm dX1_byteAt_g1.2.2.2 h
/-! fg_add -/
def wc_fg_add_103 (post : CS → Int32 → Prop) (σ : CS) (v4 : Int32) (t1 : Int32) (t2 : Int32) : Prop := ∀ s1 : CS, s1 = c_fg_deeds_s σ (t1 + t2) → post s1 v4
set_option maxRecDepth 20000 in
theorem kc_fg_add_103 {E : gEnv} {l : Launch} {D : va_G} {G : gAd} {post : CS → Int32 → Prop} (hE : gOK E cX1_add RX1 (some .int) 2) (hm : cOK E l D G (pI post) 5) (σ : CS) (v4 : Int32) (t1 : Int32) (t2 : Int32) (h : wc_fg_add_103 post σ v4 t1 t2) : GW E (cW G σ) 103 [(4, .int v4)] [.int t2, .int t1, .ref (G.1 300)] := by
  unfold wc_fg_add_103 at h
  have hN := hm.2.2.2.2.2.2.1
  refine r_iadd hE dX1_add_g3.2.2.2.2.2.2.2.2.2.2.2.2.1 ?_
  refine cp_fg_deeds hE hm fk_X1_44 dX1_add_g3.2.2.2.2.2.2.2.2.2.2.2.2.2.1 h (fun s1 h => ?_)
  refine r_iload hE 0 dX1_add_g3.2.2.2.2.2.2.2.2.2.2.2.2.2.2.1 rfl ?_
  exact c_iret hE hm dX1_add_g3.2.2.2.2.2.2.2.2.2.2.2.2.2.2.2 h
def wc_fg_add (post : CS → Int32 → Prop) (σ : CS) (a1 : Int32) (a2 : Int32) (a3 : Int32) : Prop := wc_SX12_inside (fun (s2 : CS) (r3 : Int32) => ((¬ (r3 = (0 : Int32))) → (∀ x4 : Int32, x4 = c_fg_nodes s2 → vp_in x4 250 ∧ (∀ s5 : CS, s5 = c_fg_type_s s2 x4.toNatClampNeg a1 → vp_in x4 250 ∧ (∀ s6 : CS, s6 = c_fg_at_s s5 x4.toNatClampNeg a2 → vp_in x4 250 ∧ (∀ s7 : CS, s7 = c_fg_data_s s6 x4.toNatClampNeg a3 → vp_in x4 250 ∧ (∀ s8 : CS, s8 = c_fg_first_s s7 x4.toNatClampNeg (-1 : Int32) → vp_in x4 250 ∧ (∀ s9 : CS, s9 = c_fg_next_s s8 x4.toNatClampNeg (-1 : Int32) → vp_in x4 250 ∧ (∀ s10 : CS, s10 = c_fg_body_s s9 x4.toNatClampNeg (-1 : Int32) → vp_in x4 250 ∧ (∀ s11 : CS, s11 = c_fg_other_s s10 x4.toNatClampNeg (-1 : Int32) → ∀ s12 : CS, s12 = c_fg_nodes_s s11 ((c_fg_nodes s11) + (1 : Int32)) → (((6 : Int32) < a1) → (wc_fg_add_103 post s12 x4 (c_fg_deeds s12) (0 : Int32))) ∧ ((¬ ((6 : Int32) < a1)) → (wc_fg_add_103 post s12 x4 (c_fg_deeds s12) (1 : Int32)))))))))))) ∧ ((r3 = (0 : Int32)) → (post s2 (-1 : Int32)))) σ (c_fg_nodes σ) (250 : Int32)
set_option maxRecDepth 20000 in
theorem kc_fg_add {l : Launch} {D : va_G} {G : gAd} {post : CS → Int32 → Prop} {σ : CS} {a1 : Int32} {a2 : Int32} {a3 : Int32} (h : wc_fg_add post σ a1 a2 a3) : cMet l D G yX1_add cX1_add 5 (some .int) 2 [.ref (G.1 300), .int a1, .int a2, .int a3] σ (pI post) := by
  unfold wc_fg_add at h
  refine c_enter (own := RX1) (by decide +kernel) rfl [(0, .ref (G.1 300)), (1, .int a1), (2, .int a2), (3, .int a3)] rfl (Nat.le_of_ble_eq_true rfl) ?_
  intro E hE hm
  have hN := hm.2.2.2.2.2.2.1
  refine r_aload_n hE 0 dX1_add_g0.1 rfl rfl ?_
  refine cg_fg_nodes hE hm fk_X1_41 dX1_add_g0.2.1 ?_
  refine r_sipush (v := (250 : Int32)) hE dX1_add_g0.2.2.1 (by decide) ?_
  refine c_callSNi hE hm [.int (c_fg_nodes σ), .int (250 : Int32)] [] ck_X1_74 cw_X1_74 (kc_SX12_inside h) (by decide) rfl rfl (Nat.le_of_ble_eq_true rfl) dX1_add_g0.2.2.2.1 (fun s2 r3 h => ?_)
  refine r_if_ne hE 15 dX1_add_g0.2.2.2.2.1 (by decide) h (fun h => ?_) (fun h => ?_)
  · refine r_aload_n hE 0 dX1_add_g0.2.2.2.2.2.2.2.1 rfl rfl ?_
    refine cg_fg_nodes hE hm fk_X1_41 dX1_add_g0.2.2.2.2.2.2.2.2.1 ?_
    refine r_topi h (fun x4 ex4 h => ?_)
    refine r_istore hE [(4, .int x4), (0, .ref (G.1 300)), (1, .int a1), (2, .int a2), (3, .int a3)] dX1_add_g0.2.2.2.2.2.2.2.2.2.1 hN (by decide) rfl ?_
    refine r_aload_n hE 1 dX1_add_g0.2.2.2.2.2.2.2.2.2.2.1 rfl rfl ?_
    refine cg_fg_type hE hm fk_X1_19 dX1_add_g0.2.2.2.2.2.2.2.2.2.2.2.1 ?_
    refine r_iload hE 0 dX1_add_g0.2.2.2.2.2.2.2.2.2.2.2.2.1 rfl ?_
    refine r_iload_n hE 2 dX1_add_g0.2.2.2.2.2.2.2.2.2.2.2.2.2.1 rfl rfl ?_
    obtain ⟨hi, h⟩ := h
    refine cs_fg_type hE hm dX1_add_g0.2.2.2.2.2.2.2.2.2.2.2.2.2.2.1 hi h (fun s5 h => ?_)
    refine r_aload_n hE 1 dX1_add_g0.2.2.2.2.2.2.2.2.2.2.2.2.2.2.2 rfl rfl ?_
    refine cg_fg_at hE hm fk_X1_23 dX1_add_g1.1 ?_
    refine r_iload hE 0 dX1_add_g1.2.1 rfl ?_
    refine r_iload_n hE 3 dX1_add_g1.2.2.1 rfl rfl ?_
    obtain ⟨hi, h⟩ := h
    refine cs_fg_at hE hm dX1_add_g1.2.2.2.1 hi h (fun s6 h => ?_)
    refine r_aload_n hE 1 dX1_add_g1.2.2.2.2.1 rfl rfl ?_
    refine cg_fg_data hE hm fk_X1_26 dX1_add_g1.2.2.2.2.2.1 ?_
    refine r_iload hE 0 dX1_add_g1.2.2.2.2.2.2.1 rfl ?_
    refine r_iload_n hE 4 dX1_add_g1.2.2.2.2.2.2.2.1 rfl rfl ?_
    obtain ⟨hi, h⟩ := h
    refine cs_fg_data hE hm dX1_add_g1.2.2.2.2.2.2.2.2.1 hi h (fun s7 h => ?_)
    refine r_aload_n hE 1 dX1_add_g1.2.2.2.2.2.2.2.2.2.1 rfl rfl ?_
    refine cg_fg_first hE hm fk_X1_29 dX1_add_g1.2.2.2.2.2.2.2.2.2.2.1 ?_
    refine r_iload hE 0 dX1_add_g1.2.2.2.2.2.2.2.2.2.2.2.1 rfl ?_
    refine r_iconst (v := (-1 : Int32)) hE dX1_add_g1.2.2.2.2.2.2.2.2.2.2.2.2.1 (by decide) ?_
    obtain ⟨hi, h⟩ := h
    refine cs_fg_first hE hm dX1_add_g1.2.2.2.2.2.2.2.2.2.2.2.2.2.1 hi h (fun s8 h => ?_)
    refine r_aload_n hE 1 dX1_add_g1.2.2.2.2.2.2.2.2.2.2.2.2.2.2.1 rfl rfl ?_
    refine cg_fg_next hE hm fk_X1_32 dX1_add_g1.2.2.2.2.2.2.2.2.2.2.2.2.2.2.2 ?_
    refine r_iload hE 0 dX1_add_g2.1 rfl ?_
    refine r_iconst (v := (-1 : Int32)) hE dX1_add_g2.2.1 (by decide) ?_
    obtain ⟨hi, h⟩ := h
    refine cs_fg_next hE hm dX1_add_g2.2.2.1 hi h (fun s9 h => ?_)
    refine r_aload_n hE 1 dX1_add_g2.2.2.2.1 rfl rfl ?_
    refine cg_fg_body hE hm fk_X1_35 dX1_add_g2.2.2.2.2.1 ?_
    refine r_iload hE 0 dX1_add_g2.2.2.2.2.2.1 rfl ?_
    refine r_iconst (v := (-1 : Int32)) hE dX1_add_g2.2.2.2.2.2.2.1 (by decide) ?_
    obtain ⟨hi, h⟩ := h
    refine cs_fg_body hE hm dX1_add_g2.2.2.2.2.2.2.2.1 hi h (fun s10 h => ?_)
    refine r_aload_n hE 1 dX1_add_g2.2.2.2.2.2.2.2.2.1 rfl rfl ?_
    refine cg_fg_other hE hm fk_X1_38 dX1_add_g2.2.2.2.2.2.2.2.2.2.1 ?_
    refine r_iload hE 0 dX1_add_g2.2.2.2.2.2.2.2.2.2.2.1 rfl ?_
    refine r_iconst (v := (-1 : Int32)) hE dX1_add_g2.2.2.2.2.2.2.2.2.2.2.2.1 (by decide) ?_
    obtain ⟨hi, h⟩ := h
    refine cs_fg_other hE hm dX1_add_g2.2.2.2.2.2.2.2.2.2.2.2.2.1 hi h (fun s11 h => ?_)
    refine r_aload_n hE 1 dX1_add_g2.2.2.2.2.2.2.2.2.2.2.2.2.2.1 rfl rfl ?_
    refine r_dup hE dX1_add_g2.2.2.2.2.2.2.2.2.2.2.2.2.2.2.1 rfl ?_
    refine cg_fg_nodes hE hm fk_X1_41 dX1_add_g2.2.2.2.2.2.2.2.2.2.2.2.2.2.2.2 ?_
    refine r_iconst (v := (1 : Int32)) hE dX1_add_g3.1 (by decide) ?_
    refine r_iadd hE dX1_add_g3.2.1 ?_
    refine cp_fg_nodes hE hm fk_X1_41 dX1_add_g3.2.2.1 h (fun s12 h => ?_)
    refine r_aload_n hE 1 dX1_add_g3.2.2.2.1 rfl rfl ?_
    refine r_dup hE dX1_add_g3.2.2.2.2.1 rfl ?_
    refine cg_fg_deeds hE hm fk_X1_44 dX1_add_g3.2.2.2.2.2.1 ?_
    refine r_iload_n hE 2 dX1_add_g3.2.2.2.2.2.2.1 rfl rfl ?_
    refine r_bipush (v := (6 : Int32)) hE dX1_add_g3.2.2.2.2.2.2.2.1 (by decide) ?_
    refine r_icmp_gt hE 102 dX1_add_g3.2.2.2.2.2.2.2.2.1 (by decide) h (fun h => ?_) (fun h => ?_)
    · refine r_iconst (v := (0 : Int32)) hE dX1_add_g3.2.2.2.2.2.2.2.2.2.2.2.1 (by decide) ?_
      refine r_pick [0] rfl ?_
      exact kc_fg_add_103 hE hm _ _ _ _ h
    · refine r_iconst (v := (1 : Int32)) hE dX1_add_g3.2.2.2.2.2.2.2.2.2.1 (by decide) ?_
      refine r_goto hE 103 dX1_add_g3.2.2.2.2.2.2.2.2.2.2.1 (by decide) ?_
      refine r_pick [0] rfl ?_
      exact kc_fg_add_103 hE hm _ _ _ _ h
  · refine r_iconst (v := (-1 : Int32)) hE dX1_add_g0.2.2.2.2.2.1 (by decide) ?_
    exact c_iret hE hm dX1_add_g0.2.2.2.2.2.2.1 h
/-! fg_become -/
def wc_fg_become (post : CS → Prop) (σ : CS) (a1 : Int32) (a2 : Int32) (a3 : Int32) : Prop := ((a1 < (0 : Int32)) → (post σ)) ∧ ((¬ (a1 < (0 : Int32))) → ((((c_fg_nodes σ) ≤ a1) → (post σ)) ∧ ((¬ ((c_fg_nodes σ) ≤ a1)) → (vp_in a1 250 ∧ (∀ s1 : CS, s1 = c_fg_type_s σ a1.toNatClampNeg a2 → vp_in a1 250 ∧ (∀ s2 : CS, s2 = c_fg_data_s s1 a1.toNatClampNeg a3 → post s2))))))
set_option maxRecDepth 20000 in
theorem kc_fg_become {l : Launch} {D : va_G} {G : gAd} {post : CS → Prop} {σ : CS} {a1 : Int32} {a2 : Int32} {a3 : Int32} (h : wc_fg_become post σ a1 a2 a3) : cMet l D G yX1_become cX1_become 4 none 1 [.ref (G.1 300), .int a1, .int a2, .int a3] σ (pV post) := by
  unfold wc_fg_become at h
  refine c_enter (own := RX1) (by decide +kernel) rfl [(0, .ref (G.1 300)), (1, .int a1), (2, .int a2), (3, .int a3)] rfl (Nat.le_of_ble_eq_true rfl) ?_
  intro E hE hm
  have hN := hm.2.2.2.2.2.2.1
  refine r_iload_n hE 1 dX1_become_g0.1 rfl rfl ?_
  refine r_if_lt hE 26 dX1_become_g0.2.1 (by decide) h (fun h => ?_) (fun h => ?_)
  · exact c_vret hE hm dX1_become_g1 h
  · refine r_iload_n hE 1 dX1_become_g0.2.2.1 rfl rfl ?_
    refine r_aload_n hE 0 dX1_become_g0.2.2.2.1 rfl rfl ?_
    refine cg_fg_nodes hE hm fk_X1_41 dX1_become_g0.2.2.2.2.1 ?_
    refine r_icmp_ge hE 26 dX1_become_g0.2.2.2.2.2.1 (by decide) h (fun h => ?_) (fun h => ?_)
    · exact c_vret hE hm dX1_become_g1 h
    · refine r_aload_n hE 0 dX1_become_g0.2.2.2.2.2.2.1 rfl rfl ?_
      refine cg_fg_type hE hm fk_X1_19 dX1_become_g0.2.2.2.2.2.2.2.1 ?_
      refine r_iload_n hE 1 dX1_become_g0.2.2.2.2.2.2.2.2.1 rfl rfl ?_
      refine r_iload_n hE 2 dX1_become_g0.2.2.2.2.2.2.2.2.2.1 rfl rfl ?_
      obtain ⟨hi, h⟩ := h
      refine cs_fg_type hE hm dX1_become_g0.2.2.2.2.2.2.2.2.2.2.1 hi h (fun s1 h => ?_)
      refine r_aload_n hE 0 dX1_become_g0.2.2.2.2.2.2.2.2.2.2.2.1 rfl rfl ?_
      refine cg_fg_data hE hm fk_X1_26 dX1_become_g0.2.2.2.2.2.2.2.2.2.2.2.2.1 ?_
      refine r_iload_n hE 1 dX1_become_g0.2.2.2.2.2.2.2.2.2.2.2.2.2.1 rfl rfl ?_
      refine r_iload_n hE 3 dX1_become_g0.2.2.2.2.2.2.2.2.2.2.2.2.2.2.1 rfl rfl ?_
      obtain ⟨hi, h⟩ := h
      refine cs_fg_data hE hm dX1_become_g0.2.2.2.2.2.2.2.2.2.2.2.2.2.2.2 hi h (fun s2 h => ?_)
      exact c_vret hE hm dX1_become_g1 h
/-! fg_hang -/
def wc_fg_hang (post : CS → Prop) (σ : CS) (a1 : Int32) (a2 : Int32) : Prop := ((a1 < (0 : Int32)) → (post σ)) ∧ ((¬ (a1 < (0 : Int32))) → ((((c_fg_nodes σ) ≤ a1) → (post σ)) ∧ ((¬ ((c_fg_nodes σ) ≤ a1)) → (vp_in a1 250 ∧ (∀ s1 : CS, s1 = c_fg_first_s σ a1.toNatClampNeg a2 → post s1)))))
set_option maxRecDepth 20000 in
theorem kc_fg_hang {l : Launch} {D : va_G} {G : gAd} {post : CS → Prop} {σ : CS} {a1 : Int32} {a2 : Int32} (h : wc_fg_hang post σ a1 a2) : cMet l D G yX1_hang cX1_hang 3 none 1 [.ref (G.1 300), .int a1, .int a2] σ (pV post) := by
  unfold wc_fg_hang at h
  refine c_enter (own := RX1) (by decide +kernel) rfl [(0, .ref (G.1 300)), (1, .int a1), (2, .int a2)] rfl (Nat.le_of_ble_eq_true rfl) ?_
  intro E hE hm
  have hN := hm.2.2.2.2.2.2.1
  refine r_iload_n hE 1 dX1_hang_g0.1 rfl rfl ?_
  refine r_if_lt hE 19 dX1_hang_g0.2.1 (by decide) h (fun h => ?_) (fun h => ?_)
  · exact c_vret hE hm dX1_hang_g0.2.2.2.2.2.2.2.2.2.2.2 h
  · refine r_iload_n hE 1 dX1_hang_g0.2.2.1 rfl rfl ?_
    refine r_aload_n hE 0 dX1_hang_g0.2.2.2.1 rfl rfl ?_
    refine cg_fg_nodes hE hm fk_X1_41 dX1_hang_g0.2.2.2.2.1 ?_
    refine r_icmp_ge hE 19 dX1_hang_g0.2.2.2.2.2.1 (by decide) h (fun h => ?_) (fun h => ?_)
    · exact c_vret hE hm dX1_hang_g0.2.2.2.2.2.2.2.2.2.2.2 h
    · refine r_aload_n hE 0 dX1_hang_g0.2.2.2.2.2.2.1 rfl rfl ?_
      refine cg_fg_first hE hm fk_X1_29 dX1_hang_g0.2.2.2.2.2.2.2.1 ?_
      refine r_iload_n hE 1 dX1_hang_g0.2.2.2.2.2.2.2.2.1 rfl rfl ?_
      refine r_iload_n hE 2 dX1_hang_g0.2.2.2.2.2.2.2.2.2.1 rfl rfl ?_
      obtain ⟨hi, h⟩ := h
      refine cs_fg_first hE hm dX1_hang_g0.2.2.2.2.2.2.2.2.2.2.1 hi h (fun s1 h => ?_)
      exact c_vret hE hm dX1_hang_g0.2.2.2.2.2.2.2.2.2.2.2 h
/-! fg_follow -/
def wc_fg_follow (post : CS → Prop) (σ : CS) (a1 : Int32) (a2 : Int32) : Prop := ((a1 < (0 : Int32)) → (post σ)) ∧ ((¬ (a1 < (0 : Int32))) → ((((c_fg_nodes σ) ≤ a1) → (post σ)) ∧ ((¬ ((c_fg_nodes σ) ≤ a1)) → (vp_in a1 250 ∧ (∀ s1 : CS, s1 = c_fg_next_s σ a1.toNatClampNeg a2 → post s1)))))
set_option maxRecDepth 20000 in
theorem kc_fg_follow {l : Launch} {D : va_G} {G : gAd} {post : CS → Prop} {σ : CS} {a1 : Int32} {a2 : Int32} (h : wc_fg_follow post σ a1 a2) : cMet l D G yX1_follow cX1_follow 3 none 1 [.ref (G.1 300), .int a1, .int a2] σ (pV post) := by
  unfold wc_fg_follow at h
  refine c_enter (own := RX1) (by decide +kernel) rfl [(0, .ref (G.1 300)), (1, .int a1), (2, .int a2)] rfl (Nat.le_of_ble_eq_true rfl) ?_
  intro E hE hm
  have hN := hm.2.2.2.2.2.2.1
  refine r_iload_n hE 1 dX1_follow_g0.1 rfl rfl ?_
  refine r_if_lt hE 19 dX1_follow_g0.2.1 (by decide) h (fun h => ?_) (fun h => ?_)
  · exact c_vret hE hm dX1_follow_g0.2.2.2.2.2.2.2.2.2.2.2 h
  · refine r_iload_n hE 1 dX1_follow_g0.2.2.1 rfl rfl ?_
    refine r_aload_n hE 0 dX1_follow_g0.2.2.2.1 rfl rfl ?_
    refine cg_fg_nodes hE hm fk_X1_41 dX1_follow_g0.2.2.2.2.1 ?_
    refine r_icmp_ge hE 19 dX1_follow_g0.2.2.2.2.2.1 (by decide) h (fun h => ?_) (fun h => ?_)
    · exact c_vret hE hm dX1_follow_g0.2.2.2.2.2.2.2.2.2.2.2 h
    · refine r_aload_n hE 0 dX1_follow_g0.2.2.2.2.2.2.1 rfl rfl ?_
      refine cg_fg_next hE hm fk_X1_32 dX1_follow_g0.2.2.2.2.2.2.2.1 ?_
      refine r_iload_n hE 1 dX1_follow_g0.2.2.2.2.2.2.2.2.1 rfl rfl ?_
      refine r_iload_n hE 2 dX1_follow_g0.2.2.2.2.2.2.2.2.2.1 rfl rfl ?_
      obtain ⟨hi, h⟩ := h
      refine cs_fg_next hE hm dX1_follow_g0.2.2.2.2.2.2.2.2.2.2.1 hi h (fun s1 h => ?_)
      exact c_vret hE hm dX1_follow_g0.2.2.2.2.2.2.2.2.2.2.2 h
/-! fg_hangBlock -/
def wc_fg_hangBlock (post : CS → Prop) (σ : CS) (a1 : Int32) (a2 : Int32) : Prop := ((a1 < (0 : Int32)) → (post σ)) ∧ ((¬ (a1 < (0 : Int32))) → ((((c_fg_nodes σ) ≤ a1) → (post σ)) ∧ ((¬ ((c_fg_nodes σ) ≤ a1)) → (vp_in a1 250 ∧ (∀ s1 : CS, s1 = c_fg_body_s σ a1.toNatClampNeg a2 → post s1)))))
set_option maxRecDepth 20000 in
theorem kc_fg_hangBlock {l : Launch} {D : va_G} {G : gAd} {post : CS → Prop} {σ : CS} {a1 : Int32} {a2 : Int32} (h : wc_fg_hangBlock post σ a1 a2) : cMet l D G yX1_hangBlock cX1_hangBlock 3 none 1 [.ref (G.1 300), .int a1, .int a2] σ (pV post) := by
  unfold wc_fg_hangBlock at h
  refine c_enter (own := RX1) (by decide +kernel) rfl [(0, .ref (G.1 300)), (1, .int a1), (2, .int a2)] rfl (Nat.le_of_ble_eq_true rfl) ?_
  intro E hE hm
  have hN := hm.2.2.2.2.2.2.1
  refine r_iload_n hE 1 dX1_hangBlock_g0.1 rfl rfl ?_
  refine r_if_lt hE 19 dX1_hangBlock_g0.2.1 (by decide) h (fun h => ?_) (fun h => ?_)
  · exact c_vret hE hm dX1_hangBlock_g0.2.2.2.2.2.2.2.2.2.2.2 h
  · refine r_iload_n hE 1 dX1_hangBlock_g0.2.2.1 rfl rfl ?_
    refine r_aload_n hE 0 dX1_hangBlock_g0.2.2.2.1 rfl rfl ?_
    refine cg_fg_nodes hE hm fk_X1_41 dX1_hangBlock_g0.2.2.2.2.1 ?_
    refine r_icmp_ge hE 19 dX1_hangBlock_g0.2.2.2.2.2.1 (by decide) h (fun h => ?_) (fun h => ?_)
    · exact c_vret hE hm dX1_hangBlock_g0.2.2.2.2.2.2.2.2.2.2.2 h
    · refine r_aload_n hE 0 dX1_hangBlock_g0.2.2.2.2.2.2.1 rfl rfl ?_
      refine cg_fg_body hE hm fk_X1_35 dX1_hangBlock_g0.2.2.2.2.2.2.2.1 ?_
      refine r_iload_n hE 1 dX1_hangBlock_g0.2.2.2.2.2.2.2.2.1 rfl rfl ?_
      refine r_iload_n hE 2 dX1_hangBlock_g0.2.2.2.2.2.2.2.2.2.1 rfl rfl ?_
      obtain ⟨hi, h⟩ := h
      refine cs_fg_body hE hm dX1_hangBlock_g0.2.2.2.2.2.2.2.2.2.2.1 hi h (fun s1 h => ?_)
      exact c_vret hE hm dX1_hangBlock_g0.2.2.2.2.2.2.2.2.2.2.2 h
/-! fg_hangElse -/
def wc_fg_hangElse (post : CS → Prop) (σ : CS) (a1 : Int32) (a2 : Int32) : Prop := ((a1 < (0 : Int32)) → (post σ)) ∧ ((¬ (a1 < (0 : Int32))) → ((((c_fg_nodes σ) ≤ a1) → (post σ)) ∧ ((¬ ((c_fg_nodes σ) ≤ a1)) → (vp_in a1 250 ∧ (∀ s1 : CS, s1 = c_fg_other_s σ a1.toNatClampNeg a2 → vp_in a1 250 ∧ (∀ s2 : CS, s2 = c_fg_data_s s1 a1.toNatClampNeg (1 : Int32) → post s2))))))
set_option maxRecDepth 20000 in
theorem kc_fg_hangElse {l : Launch} {D : va_G} {G : gAd} {post : CS → Prop} {σ : CS} {a1 : Int32} {a2 : Int32} (h : wc_fg_hangElse post σ a1 a2) : cMet l D G yX1_hangElse cX1_hangElse 3 none 1 [.ref (G.1 300), .int a1, .int a2] σ (pV post) := by
  unfold wc_fg_hangElse at h
  refine c_enter (own := RX1) (by decide +kernel) rfl [(0, .ref (G.1 300)), (1, .int a1), (2, .int a2)] rfl (Nat.le_of_ble_eq_true rfl) ?_
  intro E hE hm
  have hN := hm.2.2.2.2.2.2.1
  refine r_iload_n hE 1 dX1_hangElse_g0.1 rfl rfl ?_
  refine r_if_lt hE 26 dX1_hangElse_g0.2.1 (by decide) h (fun h => ?_) (fun h => ?_)
  · exact c_vret hE hm dX1_hangElse_g1 h
  · refine r_iload_n hE 1 dX1_hangElse_g0.2.2.1 rfl rfl ?_
    refine r_aload_n hE 0 dX1_hangElse_g0.2.2.2.1 rfl rfl ?_
    refine cg_fg_nodes hE hm fk_X1_41 dX1_hangElse_g0.2.2.2.2.1 ?_
    refine r_icmp_ge hE 26 dX1_hangElse_g0.2.2.2.2.2.1 (by decide) h (fun h => ?_) (fun h => ?_)
    · exact c_vret hE hm dX1_hangElse_g1 h
    · refine r_aload_n hE 0 dX1_hangElse_g0.2.2.2.2.2.2.1 rfl rfl ?_
      refine cg_fg_other hE hm fk_X1_38 dX1_hangElse_g0.2.2.2.2.2.2.2.1 ?_
      refine r_iload_n hE 1 dX1_hangElse_g0.2.2.2.2.2.2.2.2.1 rfl rfl ?_
      refine r_iload_n hE 2 dX1_hangElse_g0.2.2.2.2.2.2.2.2.2.1 rfl rfl ?_
      obtain ⟨hi, h⟩ := h
      refine cs_fg_other hE hm dX1_hangElse_g0.2.2.2.2.2.2.2.2.2.2.1 hi h (fun s1 h => ?_)
      refine r_aload_n hE 0 dX1_hangElse_g0.2.2.2.2.2.2.2.2.2.2.2.1 rfl rfl ?_
      refine cg_fg_data hE hm fk_X1_26 dX1_hangElse_g0.2.2.2.2.2.2.2.2.2.2.2.2.1 ?_
      refine r_iload_n hE 1 dX1_hangElse_g0.2.2.2.2.2.2.2.2.2.2.2.2.2.1 rfl rfl ?_
      refine r_iconst (v := (1 : Int32)) hE dX1_hangElse_g0.2.2.2.2.2.2.2.2.2.2.2.2.2.2.1 (by decide) ?_
      obtain ⟨hi, h⟩ := h
      refine cs_fg_data hE hm dX1_hangElse_g0.2.2.2.2.2.2.2.2.2.2.2.2.2.2.2 hi h (fun s2 h => ?_)
      exact c_vret hE hm dX1_hangElse_g1 h
/-! fg_typeOf -/
def wc_fg_typeOf (post : CS → Int32 → Prop) (σ : CS) (a1 : Int32) : Prop := ((a1 < (0 : Int32)) → (post σ (-1 : Int32))) ∧ ((¬ (a1 < (0 : Int32))) → ((((c_fg_nodes σ) ≤ a1) → (post σ (-1 : Int32))) ∧ ((¬ ((c_fg_nodes σ) ≤ a1)) → (vp_in a1 250 ∧ (post σ (c_fg_type σ a1.toNatClampNeg))))))
set_option maxRecDepth 20000 in
theorem kc_fg_typeOf {l : Launch} {D : va_G} {G : gAd} {post : CS → Int32 → Prop} {σ : CS} {a1 : Int32} (h : wc_fg_typeOf post σ a1) : cMet l D G yX1_typeOf cX1_typeOf 2 (some .int) 1 [.ref (G.1 300), .int a1] σ (pI post) := by
  unfold wc_fg_typeOf at h
  refine c_enter (own := RX1) (by decide +kernel) rfl [(0, .ref (G.1 300)), (1, .int a1)] rfl (Nat.le_of_ble_eq_true rfl) ?_
  intro E hE hm
  have hN := hm.2.2.2.2.2.2.1
  refine r_iload_n hE 1 dX1_typeOf_g0.1 rfl rfl ?_
  refine r_if_lt hE 21 dX1_typeOf_g0.2.1 (by decide) h (fun h => ?_) (fun h => ?_)
  · refine r_iconst (v := (-1 : Int32)) hE dX1_typeOf_g0.2.2.2.2.2.2.2.2.2.2.2.1 (by decide) ?_
    exact c_iret hE hm dX1_typeOf_g0.2.2.2.2.2.2.2.2.2.2.2.2 h
  · refine r_iload_n hE 1 dX1_typeOf_g0.2.2.1 rfl rfl ?_
    refine r_aload_n hE 0 dX1_typeOf_g0.2.2.2.1 rfl rfl ?_
    refine cg_fg_nodes hE hm fk_X1_41 dX1_typeOf_g0.2.2.2.2.1 ?_
    refine r_icmp_ge hE 21 dX1_typeOf_g0.2.2.2.2.2.1 (by decide) h (fun h => ?_) (fun h => ?_)
    · refine r_iconst (v := (-1 : Int32)) hE dX1_typeOf_g0.2.2.2.2.2.2.2.2.2.2.2.1 (by decide) ?_
      exact c_iret hE hm dX1_typeOf_g0.2.2.2.2.2.2.2.2.2.2.2.2 h
    · refine r_aload_n hE 0 dX1_typeOf_g0.2.2.2.2.2.2.1 rfl rfl ?_
      refine cg_fg_type hE hm fk_X1_19 dX1_typeOf_g0.2.2.2.2.2.2.2.1 ?_
      refine r_iload_n hE 1 dX1_typeOf_g0.2.2.2.2.2.2.2.2.1 rfl rfl ?_
      obtain ⟨hi, h⟩ := h
      refine cl_fg_type hE hm dX1_typeOf_g0.2.2.2.2.2.2.2.2.2.1 hi ?_
      refine r_goto hE 22 dX1_typeOf_g0.2.2.2.2.2.2.2.2.2.2.1 (by decide) ?_
      exact c_iret hE hm dX1_typeOf_g0.2.2.2.2.2.2.2.2.2.2.2.2 h
/-! fg_atOf -/
def wc_fg_atOf (post : CS → Int32 → Prop) (σ : CS) (a1 : Int32) : Prop := ((a1 < (0 : Int32)) → (post σ (-1 : Int32))) ∧ ((¬ (a1 < (0 : Int32))) → ((((c_fg_nodes σ) ≤ a1) → (post σ (-1 : Int32))) ∧ ((¬ ((c_fg_nodes σ) ≤ a1)) → (vp_in a1 250 ∧ (post σ (c_fg_at σ a1.toNatClampNeg))))))
set_option maxRecDepth 20000 in
theorem kc_fg_atOf {l : Launch} {D : va_G} {G : gAd} {post : CS → Int32 → Prop} {σ : CS} {a1 : Int32} (h : wc_fg_atOf post σ a1) : cMet l D G yX1_atOf cX1_atOf 2 (some .int) 1 [.ref (G.1 300), .int a1] σ (pI post) := by
  unfold wc_fg_atOf at h
  refine c_enter (own := RX1) (by decide +kernel) rfl [(0, .ref (G.1 300)), (1, .int a1)] rfl (Nat.le_of_ble_eq_true rfl) ?_
  intro E hE hm
  have hN := hm.2.2.2.2.2.2.1
  refine r_iload_n hE 1 dX1_atOf_g0.1 rfl rfl ?_
  refine r_if_lt hE 21 dX1_atOf_g0.2.1 (by decide) h (fun h => ?_) (fun h => ?_)
  · refine r_iconst (v := (-1 : Int32)) hE dX1_atOf_g0.2.2.2.2.2.2.2.2.2.2.2.1 (by decide) ?_
    exact c_iret hE hm dX1_atOf_g0.2.2.2.2.2.2.2.2.2.2.2.2 h
  · refine r_iload_n hE 1 dX1_atOf_g0.2.2.1 rfl rfl ?_
    refine r_aload_n hE 0 dX1_atOf_g0.2.2.2.1 rfl rfl ?_
    refine cg_fg_nodes hE hm fk_X1_41 dX1_atOf_g0.2.2.2.2.1 ?_
    refine r_icmp_ge hE 21 dX1_atOf_g0.2.2.2.2.2.1 (by decide) h (fun h => ?_) (fun h => ?_)
    · refine r_iconst (v := (-1 : Int32)) hE dX1_atOf_g0.2.2.2.2.2.2.2.2.2.2.2.1 (by decide) ?_
      exact c_iret hE hm dX1_atOf_g0.2.2.2.2.2.2.2.2.2.2.2.2 h
    · refine r_aload_n hE 0 dX1_atOf_g0.2.2.2.2.2.2.1 rfl rfl ?_
      refine cg_fg_at hE hm fk_X1_23 dX1_atOf_g0.2.2.2.2.2.2.2.1 ?_
      refine r_iload_n hE 1 dX1_atOf_g0.2.2.2.2.2.2.2.2.1 rfl rfl ?_
      obtain ⟨hi, h⟩ := h
      refine cl_fg_at hE hm dX1_atOf_g0.2.2.2.2.2.2.2.2.2.1 hi ?_
      refine r_goto hE 22 dX1_atOf_g0.2.2.2.2.2.2.2.2.2.2.1 (by decide) ?_
      exact c_iret hE hm dX1_atOf_g0.2.2.2.2.2.2.2.2.2.2.2.2 h
/-! fg_dataOf -/
def wc_fg_dataOf (post : CS → Int32 → Prop) (σ : CS) (a1 : Int32) : Prop := ((a1 < (0 : Int32)) → (post σ (-1 : Int32))) ∧ ((¬ (a1 < (0 : Int32))) → ((((c_fg_nodes σ) ≤ a1) → (post σ (-1 : Int32))) ∧ ((¬ ((c_fg_nodes σ) ≤ a1)) → (vp_in a1 250 ∧ (post σ (c_fg_data σ a1.toNatClampNeg))))))
set_option maxRecDepth 20000 in
theorem kc_fg_dataOf {l : Launch} {D : va_G} {G : gAd} {post : CS → Int32 → Prop} {σ : CS} {a1 : Int32} (h : wc_fg_dataOf post σ a1) : cMet l D G yX1_dataOf cX1_dataOf 2 (some .int) 1 [.ref (G.1 300), .int a1] σ (pI post) := by
  unfold wc_fg_dataOf at h
  refine c_enter (own := RX1) (by decide +kernel) rfl [(0, .ref (G.1 300)), (1, .int a1)] rfl (Nat.le_of_ble_eq_true rfl) ?_
  intro E hE hm
  have hN := hm.2.2.2.2.2.2.1
  refine r_iload_n hE 1 dX1_dataOf_g0.1 rfl rfl ?_
  refine r_if_lt hE 21 dX1_dataOf_g0.2.1 (by decide) h (fun h => ?_) (fun h => ?_)
  · refine r_iconst (v := (-1 : Int32)) hE dX1_dataOf_g0.2.2.2.2.2.2.2.2.2.2.2.1 (by decide) ?_
    exact c_iret hE hm dX1_dataOf_g0.2.2.2.2.2.2.2.2.2.2.2.2 h
  · refine r_iload_n hE 1 dX1_dataOf_g0.2.2.1 rfl rfl ?_
    refine r_aload_n hE 0 dX1_dataOf_g0.2.2.2.1 rfl rfl ?_
    refine cg_fg_nodes hE hm fk_X1_41 dX1_dataOf_g0.2.2.2.2.1 ?_
    refine r_icmp_ge hE 21 dX1_dataOf_g0.2.2.2.2.2.1 (by decide) h (fun h => ?_) (fun h => ?_)
    · refine r_iconst (v := (-1 : Int32)) hE dX1_dataOf_g0.2.2.2.2.2.2.2.2.2.2.2.1 (by decide) ?_
      exact c_iret hE hm dX1_dataOf_g0.2.2.2.2.2.2.2.2.2.2.2.2 h
    · refine r_aload_n hE 0 dX1_dataOf_g0.2.2.2.2.2.2.1 rfl rfl ?_
      refine cg_fg_data hE hm fk_X1_26 dX1_dataOf_g0.2.2.2.2.2.2.2.1 ?_
      refine r_iload_n hE 1 dX1_dataOf_g0.2.2.2.2.2.2.2.2.1 rfl rfl ?_
      obtain ⟨hi, h⟩ := h
      refine cl_fg_data hE hm dX1_dataOf_g0.2.2.2.2.2.2.2.2.2.1 hi ?_
      refine r_goto hE 22 dX1_dataOf_g0.2.2.2.2.2.2.2.2.2.2.1 (by decide) ?_
      exact c_iret hE hm dX1_dataOf_g0.2.2.2.2.2.2.2.2.2.2.2.2 h
/-! fg_firstOf -/
def wc_fg_firstOf (post : CS → Int32 → Prop) (σ : CS) (a1 : Int32) : Prop := ((a1 < (0 : Int32)) → (post σ (-1 : Int32))) ∧ ((¬ (a1 < (0 : Int32))) → ((((c_fg_nodes σ) ≤ a1) → (post σ (-1 : Int32))) ∧ ((¬ ((c_fg_nodes σ) ≤ a1)) → (vp_in a1 250 ∧ (post σ (c_fg_first σ a1.toNatClampNeg))))))
set_option maxRecDepth 20000 in
theorem kc_fg_firstOf {l : Launch} {D : va_G} {G : gAd} {post : CS → Int32 → Prop} {σ : CS} {a1 : Int32} (h : wc_fg_firstOf post σ a1) : cMet l D G yX1_firstOf cX1_firstOf 2 (some .int) 1 [.ref (G.1 300), .int a1] σ (pI post) := by
  unfold wc_fg_firstOf at h
  refine c_enter (own := RX1) (by decide +kernel) rfl [(0, .ref (G.1 300)), (1, .int a1)] rfl (Nat.le_of_ble_eq_true rfl) ?_
  intro E hE hm
  have hN := hm.2.2.2.2.2.2.1
  refine r_iload_n hE 1 dX1_firstOf_g0.1 rfl rfl ?_
  refine r_if_lt hE 21 dX1_firstOf_g0.2.1 (by decide) h (fun h => ?_) (fun h => ?_)
  · refine r_iconst (v := (-1 : Int32)) hE dX1_firstOf_g0.2.2.2.2.2.2.2.2.2.2.2.1 (by decide) ?_
    exact c_iret hE hm dX1_firstOf_g0.2.2.2.2.2.2.2.2.2.2.2.2 h
  · refine r_iload_n hE 1 dX1_firstOf_g0.2.2.1 rfl rfl ?_
    refine r_aload_n hE 0 dX1_firstOf_g0.2.2.2.1 rfl rfl ?_
    refine cg_fg_nodes hE hm fk_X1_41 dX1_firstOf_g0.2.2.2.2.1 ?_
    refine r_icmp_ge hE 21 dX1_firstOf_g0.2.2.2.2.2.1 (by decide) h (fun h => ?_) (fun h => ?_)
    · refine r_iconst (v := (-1 : Int32)) hE dX1_firstOf_g0.2.2.2.2.2.2.2.2.2.2.2.1 (by decide) ?_
      exact c_iret hE hm dX1_firstOf_g0.2.2.2.2.2.2.2.2.2.2.2.2 h
    · refine r_aload_n hE 0 dX1_firstOf_g0.2.2.2.2.2.2.1 rfl rfl ?_
      refine cg_fg_first hE hm fk_X1_29 dX1_firstOf_g0.2.2.2.2.2.2.2.1 ?_
      refine r_iload_n hE 1 dX1_firstOf_g0.2.2.2.2.2.2.2.2.1 rfl rfl ?_
      obtain ⟨hi, h⟩ := h
      refine cl_fg_first hE hm dX1_firstOf_g0.2.2.2.2.2.2.2.2.2.1 hi ?_
      refine r_goto hE 22 dX1_firstOf_g0.2.2.2.2.2.2.2.2.2.2.1 (by decide) ?_
      exact c_iret hE hm dX1_firstOf_g0.2.2.2.2.2.2.2.2.2.2.2.2 h
/-! fg_nextOf -/
def wc_fg_nextOf (post : CS → Int32 → Prop) (σ : CS) (a1 : Int32) : Prop := ((a1 < (0 : Int32)) → (post σ (-1 : Int32))) ∧ ((¬ (a1 < (0 : Int32))) → ((((c_fg_nodes σ) ≤ a1) → (post σ (-1 : Int32))) ∧ ((¬ ((c_fg_nodes σ) ≤ a1)) → (vp_in a1 250 ∧ (post σ (c_fg_next σ a1.toNatClampNeg))))))
set_option maxRecDepth 20000 in
theorem kc_fg_nextOf {l : Launch} {D : va_G} {G : gAd} {post : CS → Int32 → Prop} {σ : CS} {a1 : Int32} (h : wc_fg_nextOf post σ a1) : cMet l D G yX1_nextOf cX1_nextOf 2 (some .int) 1 [.ref (G.1 300), .int a1] σ (pI post) := by
  unfold wc_fg_nextOf at h
  refine c_enter (own := RX1) (by decide +kernel) rfl [(0, .ref (G.1 300)), (1, .int a1)] rfl (Nat.le_of_ble_eq_true rfl) ?_
  intro E hE hm
  have hN := hm.2.2.2.2.2.2.1
  refine r_iload_n hE 1 dX1_nextOf_g0.1 rfl rfl ?_
  refine r_if_lt hE 21 dX1_nextOf_g0.2.1 (by decide) h (fun h => ?_) (fun h => ?_)
  · refine r_iconst (v := (-1 : Int32)) hE dX1_nextOf_g0.2.2.2.2.2.2.2.2.2.2.2.1 (by decide) ?_
    exact c_iret hE hm dX1_nextOf_g0.2.2.2.2.2.2.2.2.2.2.2.2 h
  · refine r_iload_n hE 1 dX1_nextOf_g0.2.2.1 rfl rfl ?_
    refine r_aload_n hE 0 dX1_nextOf_g0.2.2.2.1 rfl rfl ?_
    refine cg_fg_nodes hE hm fk_X1_41 dX1_nextOf_g0.2.2.2.2.1 ?_
    refine r_icmp_ge hE 21 dX1_nextOf_g0.2.2.2.2.2.1 (by decide) h (fun h => ?_) (fun h => ?_)
    · refine r_iconst (v := (-1 : Int32)) hE dX1_nextOf_g0.2.2.2.2.2.2.2.2.2.2.2.1 (by decide) ?_
      exact c_iret hE hm dX1_nextOf_g0.2.2.2.2.2.2.2.2.2.2.2.2 h
    · refine r_aload_n hE 0 dX1_nextOf_g0.2.2.2.2.2.2.1 rfl rfl ?_
      refine cg_fg_next hE hm fk_X1_32 dX1_nextOf_g0.2.2.2.2.2.2.2.1 ?_
      refine r_iload_n hE 1 dX1_nextOf_g0.2.2.2.2.2.2.2.2.1 rfl rfl ?_
      obtain ⟨hi, h⟩ := h
      refine cl_fg_next hE hm dX1_nextOf_g0.2.2.2.2.2.2.2.2.2.1 hi ?_
      refine r_goto hE 22 dX1_nextOf_g0.2.2.2.2.2.2.2.2.2.2.1 (by decide) ?_
      exact c_iret hE hm dX1_nextOf_g0.2.2.2.2.2.2.2.2.2.2.2.2 h
/-! fg_bodyOf -/
def wc_fg_bodyOf (post : CS → Int32 → Prop) (σ : CS) (a1 : Int32) : Prop := ((a1 < (0 : Int32)) → (post σ (-1 : Int32))) ∧ ((¬ (a1 < (0 : Int32))) → ((((c_fg_nodes σ) ≤ a1) → (post σ (-1 : Int32))) ∧ ((¬ ((c_fg_nodes σ) ≤ a1)) → (vp_in a1 250 ∧ (post σ (c_fg_body σ a1.toNatClampNeg))))))
set_option maxRecDepth 20000 in
theorem kc_fg_bodyOf {l : Launch} {D : va_G} {G : gAd} {post : CS → Int32 → Prop} {σ : CS} {a1 : Int32} (h : wc_fg_bodyOf post σ a1) : cMet l D G yX1_bodyOf cX1_bodyOf 2 (some .int) 1 [.ref (G.1 300), .int a1] σ (pI post) := by
  unfold wc_fg_bodyOf at h
  refine c_enter (own := RX1) (by decide +kernel) rfl [(0, .ref (G.1 300)), (1, .int a1)] rfl (Nat.le_of_ble_eq_true rfl) ?_
  intro E hE hm
  have hN := hm.2.2.2.2.2.2.1
  refine r_iload_n hE 1 dX1_bodyOf_g0.1 rfl rfl ?_
  refine r_if_lt hE 21 dX1_bodyOf_g0.2.1 (by decide) h (fun h => ?_) (fun h => ?_)
  · refine r_iconst (v := (-1 : Int32)) hE dX1_bodyOf_g0.2.2.2.2.2.2.2.2.2.2.2.1 (by decide) ?_
    exact c_iret hE hm dX1_bodyOf_g0.2.2.2.2.2.2.2.2.2.2.2.2 h
  · refine r_iload_n hE 1 dX1_bodyOf_g0.2.2.1 rfl rfl ?_
    refine r_aload_n hE 0 dX1_bodyOf_g0.2.2.2.1 rfl rfl ?_
    refine cg_fg_nodes hE hm fk_X1_41 dX1_bodyOf_g0.2.2.2.2.1 ?_
    refine r_icmp_ge hE 21 dX1_bodyOf_g0.2.2.2.2.2.1 (by decide) h (fun h => ?_) (fun h => ?_)
    · refine r_iconst (v := (-1 : Int32)) hE dX1_bodyOf_g0.2.2.2.2.2.2.2.2.2.2.2.1 (by decide) ?_
      exact c_iret hE hm dX1_bodyOf_g0.2.2.2.2.2.2.2.2.2.2.2.2 h
    · refine r_aload_n hE 0 dX1_bodyOf_g0.2.2.2.2.2.2.1 rfl rfl ?_
      refine cg_fg_body hE hm fk_X1_35 dX1_bodyOf_g0.2.2.2.2.2.2.2.1 ?_
      refine r_iload_n hE 1 dX1_bodyOf_g0.2.2.2.2.2.2.2.2.1 rfl rfl ?_
      obtain ⟨hi, h⟩ := h
      refine cl_fg_body hE hm dX1_bodyOf_g0.2.2.2.2.2.2.2.2.2.1 hi ?_
      refine r_goto hE 22 dX1_bodyOf_g0.2.2.2.2.2.2.2.2.2.2.1 (by decide) ?_
      exact c_iret hE hm dX1_bodyOf_g0.2.2.2.2.2.2.2.2.2.2.2.2 h
/-! fg_otherOf -/
def wc_fg_otherOf (post : CS → Int32 → Prop) (σ : CS) (a1 : Int32) : Prop := ((a1 < (0 : Int32)) → (post σ (-1 : Int32))) ∧ ((¬ (a1 < (0 : Int32))) → ((((c_fg_nodes σ) ≤ a1) → (post σ (-1 : Int32))) ∧ ((¬ ((c_fg_nodes σ) ≤ a1)) → (vp_in a1 250 ∧ (post σ (c_fg_other σ a1.toNatClampNeg))))))
set_option maxRecDepth 20000 in
theorem kc_fg_otherOf {l : Launch} {D : va_G} {G : gAd} {post : CS → Int32 → Prop} {σ : CS} {a1 : Int32} (h : wc_fg_otherOf post σ a1) : cMet l D G yX1_otherOf cX1_otherOf 2 (some .int) 1 [.ref (G.1 300), .int a1] σ (pI post) := by
  unfold wc_fg_otherOf at h
  refine c_enter (own := RX1) (by decide +kernel) rfl [(0, .ref (G.1 300)), (1, .int a1)] rfl (Nat.le_of_ble_eq_true rfl) ?_
  intro E hE hm
  have hN := hm.2.2.2.2.2.2.1
  refine r_iload_n hE 1 dX1_otherOf_g0.1 rfl rfl ?_
  refine r_if_lt hE 21 dX1_otherOf_g0.2.1 (by decide) h (fun h => ?_) (fun h => ?_)
  · refine r_iconst (v := (-1 : Int32)) hE dX1_otherOf_g0.2.2.2.2.2.2.2.2.2.2.2.1 (by decide) ?_
    exact c_iret hE hm dX1_otherOf_g0.2.2.2.2.2.2.2.2.2.2.2.2 h
  · refine r_iload_n hE 1 dX1_otherOf_g0.2.2.1 rfl rfl ?_
    refine r_aload_n hE 0 dX1_otherOf_g0.2.2.2.1 rfl rfl ?_
    refine cg_fg_nodes hE hm fk_X1_41 dX1_otherOf_g0.2.2.2.2.1 ?_
    refine r_icmp_ge hE 21 dX1_otherOf_g0.2.2.2.2.2.1 (by decide) h (fun h => ?_) (fun h => ?_)
    · refine r_iconst (v := (-1 : Int32)) hE dX1_otherOf_g0.2.2.2.2.2.2.2.2.2.2.2.1 (by decide) ?_
      exact c_iret hE hm dX1_otherOf_g0.2.2.2.2.2.2.2.2.2.2.2.2 h
    · refine r_aload_n hE 0 dX1_otherOf_g0.2.2.2.2.2.2.1 rfl rfl ?_
      refine cg_fg_other hE hm fk_X1_38 dX1_otherOf_g0.2.2.2.2.2.2.2.1 ?_
      refine r_iload_n hE 1 dX1_otherOf_g0.2.2.2.2.2.2.2.2.1 rfl rfl ?_
      obtain ⟨hi, h⟩ := h
      refine cl_fg_other hE hm dX1_otherOf_g0.2.2.2.2.2.2.2.2.2.1 hi ?_
      refine r_goto hE 22 dX1_otherOf_g0.2.2.2.2.2.2.2.2.2.2.1 (by decide) ?_
      exact c_iret hE hm dX1_otherOf_g0.2.2.2.2.2.2.2.2.2.2.2.2 h
/-! fg_letterAt -/
def wc_fg_letterAt_56 (post : CS → Int32 → Prop) (σ : CS) (v2 : Int32) : Prop := post σ v2
set_option maxRecDepth 20000 in
theorem kc_fg_letterAt_56 {E : gEnv} {l : Launch} {D : va_G} {G : gAd} {post : CS → Int32 → Prop} (hE : gOK E cX1_letterAt RX1 (some .int) 1) (hm : cOK E l D G (pI post) 3) (σ : CS) (v2 : Int32) (h : wc_fg_letterAt_56 post σ v2) : GW E (cW G σ) 56 [(2, .int v2)] [] := by
  unfold wc_fg_letterAt_56 at h
  have hN := hm.2.2.2.2.2.2.1
  refine r_iload_n hE 0 dX1_letterAt_g1.2.2.2.2.2.2.2.2.2.2.2.2.2.2.1 rfl rfl ?_
  refine r_goto hE 61 dX1_letterAt_g1.2.2.2.2.2.2.2.2.2.2.2.2.2.2.2 (by decide) ?_
  exact c_iret hE hm dX1_letterAt_g2.2 h
def wc_fg_letterAt_44 (post : CS → Int32 → Prop) (σ : CS) (v2 : Int32) : Prop := ((v2 < (48 : Int32)) → (post σ (0 : Int32))) ∧ ((¬ (v2 < (48 : Int32))) → ((((57 : Int32) < v2) → (post σ (0 : Int32))) ∧ ((¬ ((57 : Int32) < v2)) → (wc_fg_letterAt_56 post σ v2))))
set_option maxRecDepth 20000 in
theorem kc_fg_letterAt_44 {E : gEnv} {l : Launch} {D : va_G} {G : gAd} {post : CS → Int32 → Prop} (hE : gOK E cX1_letterAt RX1 (some .int) 1) (hm : cOK E l D G (pI post) 3) (σ : CS) (v2 : Int32) (h : wc_fg_letterAt_44 post σ v2) : GW E (cW G σ) 44 [(2, .int v2)] [] := by
  unfold wc_fg_letterAt_44 at h
  have hN := hm.2.2.2.2.2.2.1
  refine r_iload_n hE 0 dX1_letterAt_g1.2.2.2.2.2.2.2.2.1 rfl rfl ?_
  refine r_bipush (v := (48 : Int32)) hE dX1_letterAt_g1.2.2.2.2.2.2.2.2.2.1 (by decide) ?_
  refine r_icmp_lt hE 60 dX1_letterAt_g1.2.2.2.2.2.2.2.2.2.2.1 (by decide) h (fun h => ?_) (fun h => ?_)
  · refine r_iconst (v := (0 : Int32)) hE dX1_letterAt_g2.1 (by decide) ?_
    exact c_iret hE hm dX1_letterAt_g2.2 h
  · refine r_iload_n hE 0 dX1_letterAt_g1.2.2.2.2.2.2.2.2.2.2.2.1 rfl rfl ?_
    refine r_bipush (v := (57 : Int32)) hE dX1_letterAt_g1.2.2.2.2.2.2.2.2.2.2.2.2.1 (by decide) ?_
    refine r_icmp_gt hE 60 dX1_letterAt_g1.2.2.2.2.2.2.2.2.2.2.2.2.2.1 (by decide) h (fun h => ?_) (fun h => ?_)
    · refine r_iconst (v := (0 : Int32)) hE dX1_letterAt_g2.1 (by decide) ?_
      exact c_iret hE hm dX1_letterAt_g2.2 h
    · exact kc_fg_letterAt_56 hE hm _ _ h
def wc_fg_letterAt_31 (post : CS → Int32 → Prop) (σ : CS) (t0 : Int32) : Prop := ((t0 < (97 : Int32)) → (wc_fg_letterAt_44 post σ t0)) ∧ ((¬ (t0 < (97 : Int32))) → (((t0 ≤ (122 : Int32)) → (wc_fg_letterAt_56 post σ t0)) ∧ ((¬ (t0 ≤ (122 : Int32))) → (wc_fg_letterAt_44 post σ t0))))
set_option maxRecDepth 20000 in
theorem kc_fg_letterAt_31 {E : gEnv} {l : Launch} {D : va_G} {G : gAd} {post : CS → Int32 → Prop} (hE : gOK E cX1_letterAt RX1 (some .int) 1) (hm : cOK E l D G (pI post) 3) (σ : CS) (t0 : Int32) (h : wc_fg_letterAt_31 post σ t0) : GW E (cW G σ) 31 [] [.int t0] := by
  unfold wc_fg_letterAt_31 at h
  have hN := hm.2.2.2.2.2.2.1
  refine r_istore_n hE [(2, .int t0)] dX1_letterAt_g1.2.1 rfl hN (by decide) rfl ?_
  refine r_iload_n hE 0 dX1_letterAt_g1.2.2.1 rfl rfl ?_
  refine r_bipush (v := (97 : Int32)) hE dX1_letterAt_g1.2.2.2.1 (by decide) ?_
  refine r_icmp_lt hE 44 dX1_letterAt_g1.2.2.2.2.1 (by decide) h (fun h => ?_) (fun h => ?_)
  · exact kc_fg_letterAt_44 hE hm _ _ h
  · refine r_iload_n hE 0 dX1_letterAt_g1.2.2.2.2.2.1 rfl rfl ?_
    refine r_bipush (v := (122 : Int32)) hE dX1_letterAt_g1.2.2.2.2.2.2.1 (by decide) ?_
    refine r_icmp_le hE 56 dX1_letterAt_g1.2.2.2.2.2.2.2.1 (by decide) h (fun h => ?_) (fun h => ?_)
    · exact kc_fg_letterAt_56 hE hm _ _ h
    · exact kc_fg_letterAt_44 hE hm _ _ h
def wc_fg_letterAt_30 (post : CS → Int32 → Prop) (σ : CS) : Prop := wc_fg_letterAt_31 post σ (0 : Int32)
set_option maxRecDepth 20000 in
theorem kc_fg_letterAt_30 {E : gEnv} {l : Launch} {D : va_G} {G : gAd} {post : CS → Int32 → Prop} (hE : gOK E cX1_letterAt RX1 (some .int) 1) (hm : cOK E l D G (pI post) 3) (σ : CS) (h : wc_fg_letterAt_30 post σ) : GW E (cW G σ) 30 [] [] := by
  unfold wc_fg_letterAt_30 at h
  have hN := hm.2.2.2.2.2.2.1
  refine r_iconst (v := (0 : Int32)) hE dX1_letterAt_g1.1 (by decide) ?_
  exact kc_fg_letterAt_31 hE hm _ _ h
def wc_fg_letterAt (post : CS → Int32 → Prop) (σ : CS) (a1 : Int32) : Prop := ((a1 < (0 : Int32)) → (wc_fg_letterAt_30 post σ)) ∧ ((¬ (a1 < (0 : Int32))) → ((((c_fg_length σ) ≤ a1) → (wc_fg_letterAt_30 post σ)) ∧ ((¬ ((c_fg_length σ) ≤ a1)) → ((((3000 : Int32) ≤ a1) → (wc_fg_letterAt_30 post σ)) ∧ ((¬ ((3000 : Int32) ≤ a1)) → (vp_in a1 3000 ∧ (wc_fg_letterAt_31 post σ (c_fg_text σ a1.toNatClampNeg))))))))
set_option maxRecDepth 20000 in
theorem kc_fg_letterAt {l : Launch} {D : va_G} {G : gAd} {post : CS → Int32 → Prop} {σ : CS} {a1 : Int32} (h : wc_fg_letterAt post σ a1) : cMet l D G yX1_letterAt cX1_letterAt 3 (some .int) 1 [.ref (G.1 300), .int a1] σ (pI post) := by
  unfold wc_fg_letterAt at h
  refine c_enter (own := RX1) (by decide +kernel) rfl [(0, .ref (G.1 300)), (1, .int a1)] rfl (Nat.le_of_ble_eq_true rfl) ?_
  intro E hE hm
  have hN := hm.2.2.2.2.2.2.1
  refine r_iload_n hE 1 dX1_letterAt_g0.1 rfl rfl ?_
  refine r_if_lt hE 30 dX1_letterAt_g0.2.1 (by decide) h (fun h => ?_) (fun h => ?_)
  · refine r_pick [] rfl ?_
    exact kc_fg_letterAt_30 hE hm _ h
  · refine r_iload_n hE 1 dX1_letterAt_g0.2.2.1 rfl rfl ?_
    refine r_aload_n hE 0 dX1_letterAt_g0.2.2.2.1 rfl rfl ?_
    refine cg_fg_length hE hm fk_X1_15 dX1_letterAt_g0.2.2.2.2.1 ?_
    refine r_icmp_ge hE 30 dX1_letterAt_g0.2.2.2.2.2.1 (by decide) h (fun h => ?_) (fun h => ?_)
    · refine r_pick [] rfl ?_
      exact kc_fg_letterAt_30 hE hm _ h
    · refine r_iload_n hE 1 dX1_letterAt_g0.2.2.2.2.2.2.1 rfl rfl ?_
      refine r_aload_n hE 0 dX1_letterAt_g0.2.2.2.2.2.2.2.1 rfl rfl ?_
      refine cg_fg_text hE hm fk_X1_9 dX1_letterAt_g0.2.2.2.2.2.2.2.2.1 ?_
      refine cn_fg_text hE hm dX1_letterAt_g0.2.2.2.2.2.2.2.2.2.1 ?_
      refine r_icmp_ge hE 30 dX1_letterAt_g0.2.2.2.2.2.2.2.2.2.2.1 (by decide) h (fun h => ?_) (fun h => ?_)
      · refine r_pick [] rfl ?_
        exact kc_fg_letterAt_30 hE hm _ h
      · refine r_aload_n hE 0 dX1_letterAt_g0.2.2.2.2.2.2.2.2.2.2.2.1 rfl rfl ?_
        refine cg_fg_text hE hm fk_X1_9 dX1_letterAt_g0.2.2.2.2.2.2.2.2.2.2.2.2.1 ?_
        refine r_iload_n hE 1 dX1_letterAt_g0.2.2.2.2.2.2.2.2.2.2.2.2.2.1 rfl rfl ?_
        obtain ⟨hi, h⟩ := h
        refine cl_fg_text hE hm dX1_letterAt_g0.2.2.2.2.2.2.2.2.2.2.2.2.2.2.1 hi ?_
        refine r_goto hE 31 dX1_letterAt_g0.2.2.2.2.2.2.2.2.2.2.2.2.2.2.2 (by decide) ?_
        refine r_pick [] rfl ?_
        exact kc_fg_letterAt_31 hE hm _ _ h
/-! fg_sameWord -/
def wc_fg_sameWord_2 (post : CS → Int32 → Prop) : Nat → CS → Int32 → Int32 → Int32 → Prop
  | 0, _, _, _, _ => False
  | n + 1, σ, v1, v2, v3 => (((10 : Int32) ≤ v3) → (post σ (1 : Int32))) ∧ ((¬ ((10 : Int32) ≤ v3)) → (wc_fg_letterAt (fun (s1 : CS) (r2 : Int32) => wc_fg_letterAt (fun (s3 : CS) (r4 : Int32) => ((r2 = r4) → (((¬ (r2 = (0 : Int32))) → (∀ x5 : Int32, x5 = v3 + (1 : Int32) → wc_fg_sameWord_2 post n s3 v1 v2 x5)) ∧ ((r2 = (0 : Int32)) → (post s3 (1 : Int32))))) ∧ ((¬ (r2 = r4)) → (post s3 (0 : Int32)))) s1 (v2 + v3)) σ (v1 + v3)))
set_option maxRecDepth 20000 in
theorem kc_fg_sameWord_2 {E : gEnv} {l : Launch} {D : va_G} {G : gAd} {post : CS → Int32 → Prop} (hE : gOK E cX1_sameWord RX1 (some .boolean) 2) (hm : cOK E l D G (pI post) 5) : ∀ (n : Nat) (σ : CS) (v1 : Int32) (v2 : Int32) (v3 : Int32), wc_fg_sameWord_2 post n σ v1 v2 v3 → GW E (cW G σ) 2 [(0, .ref (G.1 300)), (1, .int v1), (2, .int v2), (3, .int v3)] [] := by
  intro n
  induction n with
  | zero => intro σ v1 v2 v3 h; exact h.elim
  | succ n ih =>
    intro σ v1 v2 v3 h
    rw [wc_fg_sameWord_2] at h
    have hN := hm.2.2.2.2.2.2.1
    refine r_iload_n hE 3 dX1_sameWord_g0.2.2.1 rfl rfl ?_
    refine r_bipush (v := (10 : Int32)) hE dX1_sameWord_g0.2.2.2.1 (by decide) ?_
    refine r_icmp_ge hE 44 dX1_sameWord_g0.2.2.2.2.1 (by decide) h (fun h => ?_) (fun h => ?_)
    · refine r_iconst (v := (1 : Int32)) hE dX1_sameWord_g1.2.2.2.2.2.2.2.2.2.2.1 (by decide) ?_
      exact c_zret hE hm dX1_sameWord_g1.2.2.2.2.2.2.2.2.2.2.2 (Or.inr rfl) h
    · refine r_aload_n hE 0 dX1_sameWord_g0.2.2.2.2.2.1 rfl rfl ?_
      refine r_iload_n hE 1 dX1_sameWord_g0.2.2.2.2.2.2.1 rfl rfl ?_
      refine r_iload_n hE 3 dX1_sameWord_g0.2.2.2.2.2.2.2.1 rfl rfl ?_
      refine r_iadd hE dX1_sameWord_g0.2.2.2.2.2.2.2.2.1 ?_
      refine c_callVi hE hm [.int (v1 + v3)] [] ck_X1_85 (cr_fg hm rfl) (kc_fg_letterAt h) (by decide) rfl rfl (Nat.le_of_ble_eq_true rfl) dX1_sameWord_g0.2.2.2.2.2.2.2.2.2.1 (fun s1 r2 h => ?_)
      refine r_istore hE [(4, .int r2), (0, .ref (G.1 300)), (1, .int v1), (2, .int v2), (3, .int v3)] dX1_sameWord_g0.2.2.2.2.2.2.2.2.2.2.1 hN (by decide) rfl ?_
      refine r_iload hE 0 dX1_sameWord_g0.2.2.2.2.2.2.2.2.2.2.2.1 rfl ?_
      refine r_aload_n hE 1 dX1_sameWord_g0.2.2.2.2.2.2.2.2.2.2.2.2.1 rfl rfl ?_
      refine r_iload_n hE 3 dX1_sameWord_g0.2.2.2.2.2.2.2.2.2.2.2.2.2.1 rfl rfl ?_
      refine r_iload_n hE 4 dX1_sameWord_g0.2.2.2.2.2.2.2.2.2.2.2.2.2.2.1 rfl rfl ?_
      refine r_iadd hE dX1_sameWord_g0.2.2.2.2.2.2.2.2.2.2.2.2.2.2.2 ?_
      refine c_callVi hE hm [.int (v2 + v3)] [.int r2] ck_X1_85 (cr_fg hm rfl) (kc_fg_letterAt h) (by decide) rfl rfl (Nat.le_of_ble_eq_true rfl) dX1_sameWord_g1.1 (fun s3 r4 h => ?_)
      refine r_icmp_eq hE 31 dX1_sameWord_g1.2.1 (by decide) h (fun h => ?_) (fun h => ?_)
      · refine r_iload hE 0 dX1_sameWord_g1.2.2.2.2.1 rfl ?_
        refine r_if_ne hE 38 dX1_sameWord_g1.2.2.2.2.2.1 (by decide) h (fun h => ?_) (fun h => ?_)
        · obtain ⟨x5, ex5⟩ : ∃ z : Int32, z = v3 + (1 : Int32) := ⟨_, rfl⟩
          have h := h x5 ex5
          refine r_iinc (v := x5) hE [(3, .int x5), (4, .int r2), (0, .ref (G.1 300)), (1, .int v1), (2, .int v2)] 4 dX1_sameWord_g1.2.2.2.2.2.2.2.2.1 rfl (by rw [ex5]; rfl) hN (by decide) rfl ?_
          refine r_goto hE 2 dX1_sameWord_g1.2.2.2.2.2.2.2.2.2.1 (by decide) ?_
          refine r_pick [2, 3, 4, 0] rfl ?_
          exact ih _ _ _ _ h
        · refine r_iconst (v := (1 : Int32)) hE dX1_sameWord_g1.2.2.2.2.2.2.1 (by decide) ?_
          exact c_zret hE hm dX1_sameWord_g1.2.2.2.2.2.2.2.1 (Or.inr rfl) h
      · refine r_iconst (v := (0 : Int32)) hE dX1_sameWord_g1.2.2.1 (by decide) ?_
        exact c_zret hE hm dX1_sameWord_g1.2.2.2.1 (Or.inl rfl) h
def wc_fg_sameWord (post : CS → Int32 → Prop) (σ : CS) (a1 : Int32) (a2 : Int32) : Prop := ∃ k : Nat, wc_fg_sameWord_2 post k σ a1 a2 (0 : Int32)
set_option maxRecDepth 20000 in
theorem kc_fg_sameWord {l : Launch} {D : va_G} {G : gAd} {post : CS → Int32 → Prop} {σ : CS} {a1 : Int32} {a2 : Int32} (h : wc_fg_sameWord post σ a1 a2) : cMet l D G yX1_sameWord cX1_sameWord 5 (some .boolean) 2 [.ref (G.1 300), .int a1, .int a2] σ (pI post) := by
  unfold wc_fg_sameWord at h
  refine c_enter (own := RX1) (by decide +kernel) rfl [(0, .ref (G.1 300)), (1, .int a1), (2, .int a2)] rfl (Nat.le_of_ble_eq_true rfl) ?_
  intro E hE hm
  have hN := hm.2.2.2.2.2.2.1
  refine r_iconst (v := (0 : Int32)) hE dX1_sameWord_g0.1 (by decide) ?_
  refine r_istore_n hE [(3, .int (0 : Int32)), (0, .ref (G.1 300)), (1, .int a1), (2, .int a2)] dX1_sameWord_g0.2.1 rfl hN (by decide) rfl ?_
  refine r_pick [1, 2, 3, 0] rfl ?_
  obtain ⟨k, h⟩ := h
  exact kc_fg_sameWord_2 hE hm k _ _ _ _ h
/-! fg_nameNumber -/
def wc_fg_nameNumber_2 (post : CS → Int32 → Prop) : Nat → CS → Int32 → Int32 → Int32 → Prop
  | 0, _, _, _, _ => False
  | n + 1, σ, v1, v2, v3 => wc_fg_namesIn (fun (s1 : CS) (r2 : Int32) => ((r2 ≤ v3) → (post s1 (-1 : Int32))) ∧ ((¬ (r2 ≤ v3)) → ((((20 : Int32) ≤ v3) → (post s1 (-1 : Int32))) ∧ ((¬ ((20 : Int32) ≤ v3)) → (vp_in ((v1 * (20 : Int32)) + v3) 260 ∧ (wc_fg_sameWord (fun (s3 : CS) (r4 : Int32) => ((r4 = (0 : Int32)) → (∀ x5 : Int32, x5 = v3 + (1 : Int32) → wc_fg_nameNumber_2 post n s3 v1 v2 x5)) ∧ ((¬ (r4 = (0 : Int32))) → (post s3 v3))) s1 (c_fg_nameAt s1 ((v1 * (20 : Int32)) + v3).toNatClampNeg) v2)))))) σ v1
set_option maxRecDepth 20000 in
theorem kc_fg_nameNumber_2 {E : gEnv} {l : Launch} {D : va_G} {G : gAd} {post : CS → Int32 → Prop} (hE : gOK E cX1_nameNumber RX1 (some .int) 3) (hm : cOK E l D G (pI post) 4) : ∀ (n : Nat) (σ : CS) (v1 : Int32) (v2 : Int32) (v3 : Int32), wc_fg_nameNumber_2 post n σ v1 v2 v3 → GW E (cW G σ) 2 [(0, .ref (G.1 300)), (1, .int v1), (2, .int v2), (3, .int v3)] [] := by
  intro n
  induction n with
  | zero => intro σ v1 v2 v3 h; exact h.elim
  | succ n ih =>
    intro σ v1 v2 v3 h
    rw [wc_fg_nameNumber_2] at h
    have hN := hm.2.2.2.2.2.2.1
    refine r_iload_n hE 3 dX1_nameNumber_g0.2.2.1 rfl rfl ?_
    refine r_aload_n hE 0 dX1_nameNumber_g0.2.2.2.1 rfl rfl ?_
    refine r_iload_n hE 1 dX1_nameNumber_g0.2.2.2.2.1 rfl rfl ?_
    refine c_callVi hE hm [.int v1] [.int v3] ck_X1_78 (cr_fg hm rfl) (kc_fg_namesIn h) (by decide) rfl rfl (Nat.le_of_ble_eq_true rfl) dX1_nameNumber_g0.2.2.2.2.2.1 (fun s1 r2 h => ?_)
    refine r_icmp_ge hE 44 dX1_nameNumber_g0.2.2.2.2.2.2.1 (by decide) h (fun h => ?_) (fun h => ?_)
    · refine r_iconst (v := (-1 : Int32)) hE dX1_nameNumber_g1.2.2.2.2.2.2.2.2.2.2.1 (by decide) ?_
      exact c_iret hE hm dX1_nameNumber_g1.2.2.2.2.2.2.2.2.2.2.2 h
    · refine r_iload_n hE 3 dX1_nameNumber_g0.2.2.2.2.2.2.2.1 rfl rfl ?_
      refine r_bipush (v := (20 : Int32)) hE dX1_nameNumber_g0.2.2.2.2.2.2.2.2.1 (by decide) ?_
      refine r_icmp_ge hE 44 dX1_nameNumber_g0.2.2.2.2.2.2.2.2.2.1 (by decide) h (fun h => ?_) (fun h => ?_)
      · refine r_iconst (v := (-1 : Int32)) hE dX1_nameNumber_g1.2.2.2.2.2.2.2.2.2.2.1 (by decide) ?_
        exact c_iret hE hm dX1_nameNumber_g1.2.2.2.2.2.2.2.2.2.2.2 h
      · refine r_aload_n hE 0 dX1_nameNumber_g0.2.2.2.2.2.2.2.2.2.2.1 rfl rfl ?_
        refine r_aload_n hE 0 dX1_nameNumber_g0.2.2.2.2.2.2.2.2.2.2.2.1 rfl rfl ?_
        refine cg_fg_nameAt hE hm fk_X1_50 dX1_nameNumber_g0.2.2.2.2.2.2.2.2.2.2.2.2.1 ?_
        refine r_iload_n hE 1 dX1_nameNumber_g0.2.2.2.2.2.2.2.2.2.2.2.2.2.1 rfl rfl ?_
        refine r_bipush (v := (20 : Int32)) hE dX1_nameNumber_g0.2.2.2.2.2.2.2.2.2.2.2.2.2.2.1 (by decide) ?_
        refine r_imul hE dX1_nameNumber_g0.2.2.2.2.2.2.2.2.2.2.2.2.2.2.2 ?_
        refine r_iload_n hE 3 dX1_nameNumber_g1.1 rfl rfl ?_
        refine r_iadd hE dX1_nameNumber_g1.2.1 ?_
        obtain ⟨hi, h⟩ := h
        refine cl_fg_nameAt hE hm dX1_nameNumber_g1.2.2.1 hi ?_
        refine r_iload_n hE 2 dX1_nameNumber_g1.2.2.2.1 rfl rfl ?_
        refine c_callVi hE hm [.int (c_fg_nameAt s1 ((v1 * (20 : Int32)) + v3).toNatClampNeg), .int v2] [] ck_X1_82 (cr_fg hm rfl) (kc_fg_sameWord h) (by decide) rfl rfl (Nat.le_of_ble_eq_true rfl) dX1_nameNumber_g1.2.2.2.2.1 (fun s3 r4 h => ?_)
        refine r_if_eq hE 38 dX1_nameNumber_g1.2.2.2.2.2.1 (by decide) h (fun h => ?_) (fun h => ?_)
        · obtain ⟨x5, ex5⟩ : ∃ z : Int32, z = v3 + (1 : Int32) := ⟨_, rfl⟩
          have h := h x5 ex5
          refine r_iinc (v := x5) hE [(3, .int x5), (0, .ref (G.1 300)), (1, .int v1), (2, .int v2)] 3 dX1_nameNumber_g1.2.2.2.2.2.2.2.2.1 rfl (by rw [ex5]; rfl) hN (by decide) rfl ?_
          refine r_goto hE 2 dX1_nameNumber_g1.2.2.2.2.2.2.2.2.2.1 (by decide) ?_
          refine r_pick [1, 2, 3, 0] rfl ?_
          exact ih _ _ _ _ h
        · refine r_iload_n hE 3 dX1_nameNumber_g1.2.2.2.2.2.2.1 rfl rfl ?_
          exact c_iret hE hm dX1_nameNumber_g1.2.2.2.2.2.2.2.1 h
def wc_fg_nameNumber (post : CS → Int32 → Prop) (σ : CS) (a1 : Int32) (a2 : Int32) : Prop := ∃ k : Nat, wc_fg_nameNumber_2 post k σ a1 a2 (0 : Int32)
set_option maxRecDepth 20000 in
theorem kc_fg_nameNumber {l : Launch} {D : va_G} {G : gAd} {post : CS → Int32 → Prop} {σ : CS} {a1 : Int32} {a2 : Int32} (h : wc_fg_nameNumber post σ a1 a2) : cMet l D G yX1_nameNumber cX1_nameNumber 4 (some .int) 3 [.ref (G.1 300), .int a1, .int a2] σ (pI post) := by
  unfold wc_fg_nameNumber at h
  refine c_enter (own := RX1) (by decide +kernel) rfl [(0, .ref (G.1 300)), (1, .int a1), (2, .int a2)] rfl (Nat.le_of_ble_eq_true rfl) ?_
  intro E hE hm
  have hN := hm.2.2.2.2.2.2.1
  refine r_iconst (v := (0 : Int32)) hE dX1_nameNumber_g0.1 (by decide) ?_
  refine r_istore_n hE [(3, .int (0 : Int32)), (0, .ref (G.1 300)), (1, .int a1), (2, .int a2)] dX1_nameNumber_g0.2.1 rfl hN (by decide) rfl ?_
  refine r_pick [1, 2, 3, 0] rfl ?_
  obtain ⟨k, h⟩ := h
  exact kc_fg_nameNumber_2 hE hm k _ _ _ _ h
/-! fg_tell -/
def wc_fg_tell (post : CS → Int32 → Prop) (σ : CS) (a1 : Int32) (a2 : Int32) : Prop := wc_fg_namesIn (fun (s1 : CS) (r2 : Int32) => wc_SX12_inside (fun (s3 : CS) (r4 : Int32) => ((r4 = (0 : Int32)) → (post s3 (-1 : Int32))) ∧ ((¬ (r4 = (0 : Int32))) → (wc_SX12_inside (fun (s5 : CS) (r6 : Int32) => ((¬ (r6 = (0 : Int32))) → (vp_in ((a1 * (20 : Int32)) + r2) 260 ∧ (∀ s7 : CS, s7 = c_fg_nameAt_s s5 ((a1 * (20 : Int32)) + r2).toNatClampNeg a2 → vp_in a1 13 ∧ (vp_in a1 13 ∧ (∀ s8 : CS, s8 = c_fg_names_s s7 a1.toNatClampNeg ((c_fg_names s7 a1.toNatClampNeg) + (1 : Int32)) → post s8 r2))))) ∧ ((r6 = (0 : Int32)) → (post s5 (-1 : Int32)))) s3 r2 (20 : Int32)))) s1 a1 (13 : Int32)) σ a1
set_option maxRecDepth 20000 in
theorem kc_fg_tell {l : Launch} {D : va_G} {G : gAd} {post : CS → Int32 → Prop} {σ : CS} {a1 : Int32} {a2 : Int32} (h : wc_fg_tell post σ a1 a2) : cMet l D G yX1_tell cX1_tell 4 (some .int) 3 [.ref (G.1 300), .int a1, .int a2] σ (pI post) := by
  unfold wc_fg_tell at h
  refine c_enter (own := RX1) (by decide +kernel) rfl [(0, .ref (G.1 300)), (1, .int a1), (2, .int a2)] rfl (Nat.le_of_ble_eq_true rfl) ?_
  intro E hE hm
  have hN := hm.2.2.2.2.2.2.1
  refine r_aload_n hE 0 dX1_tell_g0.1 rfl rfl ?_
  refine r_iload_n hE 1 dX1_tell_g0.2.1 rfl rfl ?_
  refine c_callVi hE hm [.int a1] [] ck_X1_78 (cr_fg hm rfl) (kc_fg_namesIn h) (by decide) rfl rfl (Nat.le_of_ble_eq_true rfl) dX1_tell_g0.2.2.1 (fun s1 r2 h => ?_)
  refine r_istore_n hE [(3, .int r2), (0, .ref (G.1 300)), (1, .int a1), (2, .int a2)] dX1_tell_g0.2.2.2.1 rfl hN (by decide) rfl ?_
  refine r_iload_n hE 2 dX1_tell_g0.2.2.2.2.1 rfl rfl ?_
  refine r_aload_n hE 1 dX1_tell_g0.2.2.2.2.2.1 rfl rfl ?_
  refine cg_fg_names hE hm fk_X1_53 dX1_tell_g0.2.2.2.2.2.2.1 ?_
  refine cn_fg_names hE hm dX1_tell_g0.2.2.2.2.2.2.2.1 ?_
  refine c_callSNi hE hm [.int a1, .int (13 : Int32)] [] ck_X1_74 cw_X1_74 (kc_SX12_inside h) (by decide) rfl rfl (Nat.le_of_ble_eq_true rfl) dX1_tell_g0.2.2.2.2.2.2.2.2.1 (fun s3 r4 h => ?_)
  refine r_if_eq hE 27 dX1_tell_g0.2.2.2.2.2.2.2.2.2.1 (by decide) h (fun h => ?_) (fun h => ?_)
  · refine r_iconst (v := (-1 : Int32)) hE dX1_tell_g0.2.2.2.2.2.2.2.2.2.2.2.2.2.2.1 (by decide) ?_
    exact c_iret hE hm dX1_tell_g0.2.2.2.2.2.2.2.2.2.2.2.2.2.2.2 h
  · refine r_iload_n hE 0 dX1_tell_g0.2.2.2.2.2.2.2.2.2.2.1 rfl rfl ?_
    refine r_bipush (v := (20 : Int32)) hE dX1_tell_g0.2.2.2.2.2.2.2.2.2.2.2.1 (by decide) ?_
    refine c_callSNi hE hm [.int r2, .int (20 : Int32)] [] ck_X1_74 cw_X1_74 (kc_SX12_inside h) (by decide) rfl rfl (Nat.le_of_ble_eq_true rfl) dX1_tell_g0.2.2.2.2.2.2.2.2.2.2.2.2.1 (fun s5 r6 h => ?_)
    refine r_if_ne hE 29 dX1_tell_g0.2.2.2.2.2.2.2.2.2.2.2.2.2.1 (by decide) h (fun h => ?_) (fun h => ?_)
    · refine r_aload_n hE 1 dX1_tell_g1.1 rfl rfl ?_
      refine cg_fg_nameAt hE hm fk_X1_50 dX1_tell_g1.2.1 ?_
      refine r_iload_n hE 2 dX1_tell_g1.2.2.1 rfl rfl ?_
      refine r_bipush (v := (20 : Int32)) hE dX1_tell_g1.2.2.2.1 (by decide) ?_
      refine r_imul hE dX1_tell_g1.2.2.2.2.1 ?_
      refine r_iload_n hE 0 dX1_tell_g1.2.2.2.2.2.1 rfl rfl ?_
      refine r_iadd hE dX1_tell_g1.2.2.2.2.2.2.1 ?_
      refine r_iload_n hE 3 dX1_tell_g1.2.2.2.2.2.2.2.1 rfl rfl ?_
      obtain ⟨hi, h⟩ := h
      refine cs_fg_nameAt hE hm dX1_tell_g1.2.2.2.2.2.2.2.2.1 hi h (fun s7 h => ?_)
      refine r_aload_n hE 1 dX1_tell_g1.2.2.2.2.2.2.2.2.2.1 rfl rfl ?_
      refine cg_fg_names hE hm fk_X1_53 dX1_tell_g1.2.2.2.2.2.2.2.2.2.2.1 ?_
      refine r_iload_n hE 2 dX1_tell_g1.2.2.2.2.2.2.2.2.2.2.2.1 rfl rfl ?_
      refine r_dup2 hE dX1_tell_g1.2.2.2.2.2.2.2.2.2.2.2.2.1 rfl rfl ?_
      obtain ⟨hi, h⟩ := h
      refine cl_fg_names hE hm dX1_tell_g1.2.2.2.2.2.2.2.2.2.2.2.2.2.1 hi ?_
      refine r_iconst (v := (1 : Int32)) hE dX1_tell_g1.2.2.2.2.2.2.2.2.2.2.2.2.2.2.1 (by decide) ?_
      refine r_iadd hE dX1_tell_g1.2.2.2.2.2.2.2.2.2.2.2.2.2.2.2 ?_
      obtain ⟨hi, h⟩ := h
      refine cs_fg_names hE hm dX1_tell_g2.1 hi h (fun s8 h => ?_)
      refine r_iload_n hE 0 dX1_tell_g2.2.1 rfl rfl ?_
      exact c_iret hE hm dX1_tell_g2.2.2 h
    · refine r_iconst (v := (-1 : Int32)) hE dX1_tell_g0.2.2.2.2.2.2.2.2.2.2.2.2.2.2.1 (by decide) ?_
      exact c_iret hE hm dX1_tell_g0.2.2.2.2.2.2.2.2.2.2.2.2.2.2.2 h
/-! fg_paramAt -/
def wc_fg_paramAt (post : CS → Int32 → Prop) (σ : CS) (a1 : Int32) (a2 : Int32) : Prop := wc_SX12_inside (fun (s1 : CS) (r2 : Int32) => ((r2 = (0 : Int32)) → (post s1 (-1 : Int32))) ∧ ((¬ (r2 = (0 : Int32))) → (wc_SX12_inside (fun (s3 : CS) (r4 : Int32) => ((r4 = (0 : Int32)) → (post s3 (-1 : Int32))) ∧ ((¬ (r4 = (0 : Int32))) → (vp_in ((a1 * (20 : Int32)) + a2) 260 ∧ (post s3 (c_fg_nameAt s3 ((a1 * (20 : Int32)) + a2).toNatClampNeg))))) s1 a2 (20 : Int32)))) σ a1 (12 : Int32)
set_option maxRecDepth 20000 in
theorem kc_fg_paramAt {l : Launch} {D : va_G} {G : gAd} {post : CS → Int32 → Prop} {σ : CS} {a1 : Int32} {a2 : Int32} (h : wc_fg_paramAt post σ a1 a2) : cMet l D G yX1_paramAt cX1_paramAt 3 (some .int) 2 [.ref (G.1 300), .int a1, .int a2] σ (pI post) := by
  unfold wc_fg_paramAt at h
  refine c_enter (own := RX1) (by decide +kernel) rfl [(0, .ref (G.1 300)), (1, .int a1), (2, .int a2)] rfl (Nat.le_of_ble_eq_true rfl) ?_
  intro E hE hm
  have hN := hm.2.2.2.2.2.2.1
  refine r_iload_n hE 1 dX1_paramAt_g0.1 rfl rfl ?_
  refine r_bipush (v := (12 : Int32)) hE dX1_paramAt_g0.2.1 (by decide) ?_
  refine c_callSNi hE hm [.int a1, .int (12 : Int32)] [] ck_X1_74 cw_X1_74 (kc_SX12_inside h) (by decide) rfl rfl (Nat.le_of_ble_eq_true rfl) dX1_paramAt_g0.2.2.1 (fun s1 r2 h => ?_)
  refine r_if_eq hE 32 dX1_paramAt_g0.2.2.2.1 (by decide) h (fun h => ?_) (fun h => ?_)
  · refine r_iconst (v := (-1 : Int32)) hE dX1_paramAt_g1.2.1 (by decide) ?_
    exact c_iret hE hm dX1_paramAt_g1.2.2 h
  · refine r_iload_n hE 2 dX1_paramAt_g0.2.2.2.2.1 rfl rfl ?_
    refine r_bipush (v := (20 : Int32)) hE dX1_paramAt_g0.2.2.2.2.2.1 (by decide) ?_
    refine c_callSNi hE hm [.int a2, .int (20 : Int32)] [] ck_X1_74 cw_X1_74 (kc_SX12_inside h) (by decide) rfl rfl (Nat.le_of_ble_eq_true rfl) dX1_paramAt_g0.2.2.2.2.2.2.1 (fun s3 r4 h => ?_)
    refine r_if_eq hE 32 dX1_paramAt_g0.2.2.2.2.2.2.2.1 (by decide) h (fun h => ?_) (fun h => ?_)
    · refine r_iconst (v := (-1 : Int32)) hE dX1_paramAt_g1.2.1 (by decide) ?_
      exact c_iret hE hm dX1_paramAt_g1.2.2 h
    · refine r_aload_n hE 0 dX1_paramAt_g0.2.2.2.2.2.2.2.2.1 rfl rfl ?_
      refine cg_fg_nameAt hE hm fk_X1_50 dX1_paramAt_g0.2.2.2.2.2.2.2.2.2.1 ?_
      refine r_iload_n hE 1 dX1_paramAt_g0.2.2.2.2.2.2.2.2.2.2.1 rfl rfl ?_
      refine r_bipush (v := (20 : Int32)) hE dX1_paramAt_g0.2.2.2.2.2.2.2.2.2.2.2.1 (by decide) ?_
      refine r_imul hE dX1_paramAt_g0.2.2.2.2.2.2.2.2.2.2.2.2.1 ?_
      refine r_iload_n hE 2 dX1_paramAt_g0.2.2.2.2.2.2.2.2.2.2.2.2.2.1 rfl rfl ?_
      refine r_iadd hE dX1_paramAt_g0.2.2.2.2.2.2.2.2.2.2.2.2.2.2.1 ?_
      obtain ⟨hi, h⟩ := h
      refine cl_fg_nameAt hE hm dX1_paramAt_g0.2.2.2.2.2.2.2.2.2.2.2.2.2.2.2 hi ?_
      refine r_goto hE 33 dX1_paramAt_g1.1 (by decide) ?_
      exact c_iret hE hm dX1_paramAt_g1.2.2 h
/-! fg_endHeader -/
def wc_fg_endHeader (post : CS → Prop) (σ : CS) (a1 : Int32) : Prop := wc_SX12_inside (fun (s1 : CS) (r2 : Int32) => ((r2 = (0 : Int32)) → (post s1)) ∧ ((¬ (r2 = (0 : Int32))) → (vp_in a1 13 ∧ (vp_in a1 12 ∧ (∀ s3 : CS, s3 = c_fg_params_s s1 a1.toNatClampNeg (c_fg_names s1 a1.toNatClampNeg) → post s3))))) σ a1 (12 : Int32)
set_option maxRecDepth 20000 in
theorem kc_fg_endHeader {l : Launch} {D : va_G} {G : gAd} {post : CS → Prop} {σ : CS} {a1 : Int32} (h : wc_fg_endHeader post σ a1) : cMet l D G yX1_endHeader cX1_endHeader 2 none 2 [.ref (G.1 300), .int a1] σ (pV post) := by
  unfold wc_fg_endHeader at h
  refine c_enter (own := RX1) (by decide +kernel) rfl [(0, .ref (G.1 300)), (1, .int a1)] rfl (Nat.le_of_ble_eq_true rfl) ?_
  intro E hE hm
  have hN := hm.2.2.2.2.2.2.1
  refine r_iload_n hE 1 dX1_endHeader_g0.1 rfl rfl ?_
  refine r_bipush (v := (12 : Int32)) hE dX1_endHeader_g0.2.1 (by decide) ?_
  refine c_callSNi hE hm [.int a1, .int (12 : Int32)] [] ck_X1_74 cw_X1_74 (kc_SX12_inside h) (by decide) rfl rfl (Nat.le_of_ble_eq_true rfl) dX1_endHeader_g0.2.2.1 (fun s1 r2 h => ?_)
  refine r_if_eq hE 21 dX1_endHeader_g0.2.2.2.1 (by decide) h (fun h => ?_) (fun h => ?_)
  · exact c_vret hE hm dX1_endHeader_g0.2.2.2.2.2.2.2.2.2.2.2.2 h
  · refine r_aload_n hE 0 dX1_endHeader_g0.2.2.2.2.1 rfl rfl ?_
    refine cg_fg_params hE hm fk_X1_56 dX1_endHeader_g0.2.2.2.2.2.1 ?_
    refine r_iload_n hE 1 dX1_endHeader_g0.2.2.2.2.2.2.1 rfl rfl ?_
    refine r_aload_n hE 0 dX1_endHeader_g0.2.2.2.2.2.2.2.1 rfl rfl ?_
    refine cg_fg_names hE hm fk_X1_53 dX1_endHeader_g0.2.2.2.2.2.2.2.2.1 ?_
    refine r_iload_n hE 1 dX1_endHeader_g0.2.2.2.2.2.2.2.2.2.1 rfl rfl ?_
    obtain ⟨hi, h⟩ := h
    refine cl_fg_names hE hm dX1_endHeader_g0.2.2.2.2.2.2.2.2.2.2.1 hi ?_
    obtain ⟨hi, h⟩ := h
    refine cs_fg_params hE hm dX1_endHeader_g0.2.2.2.2.2.2.2.2.2.2.2.1 hi h (fun s3 h => ?_)
    exact c_vret hE hm dX1_endHeader_g0.2.2.2.2.2.2.2.2.2.2.2.2 h
