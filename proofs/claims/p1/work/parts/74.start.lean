/-! AT THE START: what each first call answers, of the class and of the reference -/
theorem p_in {post : MS → Int32 → Prop} {σ : MS} {a lo hi : Int64} (h1 : lo.toInt ≤ a.toInt → a.toInt ≤ hi.toInt → post σ 1) (h0 : ¬ (lo.toInt ≤ a.toInt ∧ a.toInt ≤ hi.toInt) → post σ 0) : wm_in post σ a lo hi := by
  unfold wm_in
  simp only [lg_cmp_lt, lg_cmp_gt, Int64.lt_iff_toInt_lt]
  exact ⟨fun h => h0 (by omega), fun h => ⟨fun h2 => h0 (by omega), fun h2 => h1 (by omega) (by omega)⟩⟩
theorem p_in32 {post : MS → Int32 → Prop} {σ : MS} {a : Int32} {lo hi : Int64} (h1 : lo.toInt ≤ a.toInt → a.toInt ≤ hi.toInt → post σ 1) (h0 : ¬ (lo.toInt ≤ a.toInt ∧ a.toInt ≤ hi.toInt) → post σ 0) : wm_in post σ a.toInt64 lo hi :=
  p_in (by rw [Int32.toInt_toInt64]; exact h1) (by rw [Int32.toInt_toInt64]; exact h0)
theorem p_inside {post : CS → Int32 → Prop} {σ : CS} {a n : Int32} (h1 : 0 ≤ a.toInt → a.toInt < n.toInt → post σ 1) (h0 : ¬ (0 ≤ a.toInt ∧ a.toInt < n.toInt) → post σ 0) : wc_SX12_inside post σ a n := by
  unfold wc_SX12_inside
  have z : (0 : Int32).toInt = 0 := rfl
  simp only [Int32.lt_iff_toInt_lt, Int32.le_iff_toInt_le, z]
  exact ⟨fun h => h0 (by omega), fun h => ⟨fun h2 => h0 (by omega), fun h2 => h1 (by omega) (by omega)⟩⟩
theorem i_ne {a b : Int32} (h : ¬ a = b) : a.toInt ≠ b.toInt := fun e => h (Int32.toInt_inj.mp e)
theorem st_place : ∃ r : Int32, wc_ft_place (fun _ x => x = r) cS0 ∧ wm_place (fun _ x => x = r) mS0 := ⟨-1, rfl, fun s e => by subst e; rfl⟩
theorem st_cut (a : Int32) : ∃ r : Int32, wc_ft_cut (fun _ x => x = r) cS0 a ∧ wm_cut (fun _ x => x = r) mS0 a := by
  by_cases h : a = 0
  · subst h
    refine ⟨0, ⟨fun h => absurd h (by decide), fun _ => ⟨fun _ x e s _ => by rw [e]; rfl, fun h => absurd h (by decide)⟩⟩, fun s e => ?_⟩
    subst e
    exact p_in32 (fun _ _ => ⟨fun _ x e s _ => by rw [e]; rfl, fun h => absurd h (by decide)⟩) (fun h => absurd h (by decide))
  · have h1 := i_ne h
    have z : (0 : Int32).toInt = 0 := rfl
    refine ⟨-2000000002, ⟨fun _ => rfl, fun h2 => ⟨fun h3 => absurd h3 ?_, fun _ => rfl⟩⟩, fun s e => ?_⟩
    · show ¬ a ≤ (0 : Int32)
      rw [Int32.lt_iff_toInt_lt] at h2
      rw [Int32.le_iff_toInt_le]
      omega
    · subst e
      refine p_in32 (fun h2 h3 => absurd h1 ?_) (fun _ => ⟨fun h => absurd rfl h, fun _ => rfl⟩)
      have e1 : (0 : Int64).toInt = 0 := rfl
      have e2 : ((m_taped (m_code_s mS0 (0 : Int32))).toInt64).toInt = 0 := rfl
      rw [e1] at h2
      rw [e2] at h3
      omega
theorem st_about (a : Int32) : ∃ r : Int32, wc_ft_about (fun _ x => x = r) cS0 a ∧ wm_about (fun _ x => x = r) mS0 a := by
  have z : (0 : Int32).toInt = 0 := rfl
  have z3 : (3 : Int32).toInt = 3 := rfl
  by_cases h : 0 ≤ a.toInt ∧ a.toInt ≤ 3
  · refine ⟨-2000000003, ⟨fun h2 => absurd h2 (by rw [Int32.lt_iff_toInt_lt]; omega), fun _ => ⟨fun _ => ⟨fun h3 => absurd rfl h3, fun _ => rfl⟩, fun h3 => absurd (by rw [Int32.le_iff_toInt_le]; omega) h3⟩⟩, fun s e => ?_⟩
    subst e
    exact p_in32 (fun _ _ => ⟨fun _ => ⟨fun h3 => absurd rfl h3, fun _ => rfl⟩, fun h3 => absurd h3 (by decide)⟩) (fun h3 => absurd h h3)
  · refine ⟨-2000000002, ⟨fun _ => rfl, fun h2 => ⟨fun h3 => absurd h3 ?_, fun _ => rfl⟩⟩, fun s e => ?_⟩
    · rw [Int32.lt_iff_toInt_lt] at h2
      rw [Int32.le_iff_toInt_le]
      omega
    · subst e
      exact p_in32 (fun h2 h3 => absurd ⟨h2, h3⟩ h) (fun _ => ⟨fun h => absurd rfl h, fun _ => rfl⟩)
theorem st_loose (a : Int32) : ∃ r : Int32, wc_ft_loose (fun _ x => x = r) cS0 a ∧ wm_loose (fun _ x => x = r) mS0 a := by
  by_cases h : 0 ≤ a.toInt ∧ a.toInt < 12
  · refine ⟨-2000000003, p_inside (fun _ _ => ⟨fun _ => ⟨fun h3 => absurd rfl h3, fun _ => rfl⟩, fun h3 => absurd h3 (by decide)⟩) (fun h3 => absurd h h3), fun s e => ?_⟩
    subst e
    exact p_in32 (fun _ _ => ⟨fun _ => ⟨fun h3 => absurd rfl h3, fun _ => rfl⟩, fun h3 => absurd h3 (by decide)⟩) (fun h3 => absurd (show (0 : Int64).toInt ≤ a.toInt ∧ a.toInt ≤ (11 : Int64).toInt from ⟨h.1, by show a.toInt ≤ 11; omega⟩) h3)
  · refine ⟨-2000000002, p_inside (fun h1 h2 => absurd ⟨h1, h2⟩ h) (fun _ => ⟨fun h3 => absurd rfl h3, fun _ => rfl⟩), fun s e => ?_⟩
    subst e
    refine p_in32 (fun h1 h2 => absurd ⟨h1, ?_⟩ h) (fun _ => ⟨fun h3 => absurd rfl h3, fun _ => rfl⟩)
    have e2 : (11 : Int64).toInt = 11 := rfl
    omega
theorem st_run : ∃ r : Int32, wc_ft_run (fun _ x => x = r) cS0 ∧ wm_run (fun _ x => x = r) mS0 := ⟨-2000000003, ⟨fun h => absurd rfl h, fun _ => rfl⟩, fun s e => by subst e; exact ⟨fun h => absurd rfl h, fun _ => rfl⟩⟩
theorem st_print : ∃ r : Int32, wc_ft_print (fun _ x => x = r) cS0 ∧ wm_print (fun _ x => x = r) mS0 := ⟨-2000000003, ⟨fun h => absurd rfl h, fun _ => rfl⟩, fun s e => by subst e; exact ⟨fun h => absurd rfl h, fun _ => rfl⟩⟩
theorem st_count (a : Int32) : ∃ r : Int32, wc_ft_count (fun _ x => x = r) cS0 a ∧ wm_count (fun _ x => x = r) mS0 a := by
  by_cases h0 : a = 0
  · exact ⟨0, br_t h0 rfl, fun s e => by subst e; exact br_t h0 rfl⟩
  by_cases h1 : a = 1
  · exact ⟨0, br_f h0 (br_t h1 rfl), fun s e => by subst e; exact br_f h0 (br_t h1 rfl)⟩
  by_cases h2 : a = 2
  · exact ⟨0, br_f h0 (br_f h1 (br_t h2 rfl)), fun s e => by subst e; exact br_f h0 (br_f h1 (br_t h2 rfl))⟩
  by_cases h3 : a = 3
  · exact ⟨0, br_f h0 (br_f h1 (br_f h2 (br_t h3 rfl))), fun s e => by subst e; exact br_f h0 (br_f h1 (br_f h2 (br_t h3 rfl)))⟩
  by_cases h4 : a = 4
  · exact ⟨0, br_f h0 (br_f h1 (br_f h2 (br_f h3 (br_t h4 rfl)))), fun s e => by subst e; exact br_f h0 (br_f h1 (br_f h2 (br_f h3 (br_t h4 rfl))))⟩
  by_cases h5 : a = 5
  · exact ⟨0, br_f h0 (br_f h1 (br_f h2 (br_f h3 (br_f h4 (br_t h5 (br_t rfl rfl)))))), fun s e => by subst e; exact br_f h0 (br_f h1 (br_f h2 (br_f h3 (br_f h4 (br_t h5 (br_t rfl rfl))))))⟩
  by_cases h6 : a = 6
  · exact ⟨0, br_f h0 (br_f h1 (br_f h2 (br_f h3 (br_f h4 (br_f h5 (br_t h6 rfl)))))), fun s e => by subst e; exact br_f h0 (br_f h1 (br_f h2 (br_f h3 (br_f h4 (br_f h5 (br_t h6 rfl))))))⟩
  by_cases h7 : a = 7
  · exact ⟨0, br_f h0 (br_f h1 (br_f h2 (br_f h3 (br_f h4 (br_f h5 (br_f h6 (br_t h7 rfl))))))), fun s e => by subst e; exact br_f h0 (br_f h1 (br_f h2 (br_f h3 (br_f h4 (br_f h5 (br_f h6 (br_t h7 rfl)))))))⟩
  by_cases h8 : a = 8
  · exact ⟨0, br_f h0 (br_f h1 (br_f h2 (br_f h3 (br_f h4 (br_f h5 (br_f h6 (br_f h7 (br_t h8 rfl)))))))), fun s e => by subst e; exact br_f h0 (br_f h1 (br_f h2 (br_f h3 (br_f h4 (br_f h5 (br_f h6 (br_f h7 (br_t h8 rfl))))))))⟩
  exact ⟨-2000000002, br_f h0 (br_f h1 (br_f h2 (br_f h3 (br_f h4 (br_f h5 (br_f h6 (br_f h7 (br_f h8 rfl)))))))), fun s e => by subst e; exact br_f h0 (br_f h1 (br_f h2 (br_f h3 (br_f h4 (br_f h5 (br_f h6 (br_f h7 (br_f h8 rfl))))))))⟩
theorem st_fall (i a : Int32) : ∃ r : Int32, wc_ft_fall (fun _ x => x = r) cS0 i a ∧ wm_fall (fun _ x => x = r) mS0 i a := by
  by_cases h : 0 ≤ a.toInt ∧ a.toInt < 2
  · refine ⟨-1, p_inside (fun _ _ => ⟨fun _ => p_inside (fun h1 h2 => absurd h2 ?_) (fun _ => ⟨fun _ => rfl, fun h3 => absurd rfl h3⟩), fun h3 => absurd h3 (by decide)⟩) (fun h3 => absurd h h3), fun s e => ?_⟩
    · show ¬ i.toInt < 0
      omega
    · subst e
      refine p_in32 (fun _ _ => ⟨fun _ => p_in32 (fun h1 h2 => absurd h2 ?_) (fun _ => ⟨fun h3 => absurd rfl h3, fun _ => rfl⟩), fun h3 => absurd h3 (by decide)⟩) (fun h3 => absurd (show (0 : Int64).toInt ≤ a.toInt ∧ a.toInt ≤ (1 : Int64).toInt from ⟨h.1, by show a.toInt ≤ 1; omega⟩) h3)
      have e1 : (0 : Int64).toInt = 0 := rfl
      rw [e1] at h1
      show ¬ i.toInt ≤ -1
      omega
  · refine ⟨-2000000002, p_inside (fun h1 h2 => absurd ⟨h1, h2⟩ h) (fun _ => ⟨fun h3 => absurd rfl h3, fun _ => rfl⟩), fun s e => ?_⟩
    subst e
    refine p_in32 (fun h1 h2 => absurd ⟨h1, ?_⟩ h) (fun _ => ⟨fun h3 => absurd rfl h3, fun _ => rfl⟩)
    have e2 : (1 : Int64).toInt = 1 := rfl
    omega
theorem st_back : ∃ r : Int32, wc_ft_back (fun _ x => x = r) cS0 ∧ wm_back (fun _ x => x = r) mS0 := by
  refine ⟨0, ⟨fun _ => ⟨by decide, by decide, by decide, by decide, by decide, fun i hi => absurd hi (Nat.not_lt_zero i), fun s e s2 e2 => by subst e; subst e2; rfl⟩, fun h => absurd h (by decide)⟩, fun s e => ?_⟩
  subst e
  exact ⟨fun _ => ⟨1, ⟨fun _ s e => by subst e; rfl, fun h => absurd h (by decide)⟩⟩, fun h => absurd h (by decide)⟩
theorem st_sweep (a b c d i : Int32) : ∃ r : Int32, wc_ft_sweep (fun _ x => x = r) cS0 a b c d i ∧ wm_sweep (fun _ x => x = r) mS0 a b c d i := by
  refine ⟨-2000000001, p_inside (fun h1 h2 => absurd h2 ?_) (fun _ => ⟨fun h3 => absurd rfl h3, fun _ => rfl⟩), fun s e => ?_⟩
  · show ¬ a.toInt < 0
    omega
  · subst e
    exact ⟨fun _ => rfl, fun h => absurd rfl h⟩
theorem st_swept (a : Int32) : ∃ r : Int32, wc_ft_swept (fun _ x => x = r) cS0 a ∧ wm_swept (fun _ x => x = r) mS0 a := by
  refine ⟨-1, p_inside (fun h1 h2 => absurd h2 ?_) (fun _ => ⟨fun _ => rfl, fun h3 => absurd rfl h3⟩), fun s e => ?_⟩
  · show ¬ a.toInt < 0
    omega
  · subst e
    refine p_in32 (fun h1 h2 => absurd h2 ?_) (fun _ => ⟨fun _ => rfl, fun h3 => absurd rfl h3⟩)
    have e1 : (0 : Int64).toInt = 0 := rfl
    rw [e1] at h1
    show ¬ a.toInt ≤ -1
    omega
theorem st_tried (a n i : Int32) : ∃ r : Int32, wc_ft_tried (fun _ x => x = r) cS0 a n i ∧ wm_tried (fun _ x => x = r) mS0 a n i := by
  have z1 : (1 : Int32).toInt = 1 := rfl
  have z20 : (20 : Int32).toInt = 20 := rfl
  by_cases h : 1 ≤ n.toInt ∧ n.toInt ≤ 20
  · by_cases hi : (0 : Int32) ≤ i
    · refine ⟨-2000000003, ⟨fun h2 => absurd h2 (by rw [Int32.lt_iff_toInt_lt]; omega), fun _ => ⟨fun h2 => absurd h2 (by rw [Int32.lt_iff_toInt_lt]; omega), fun _ => br_t hi ⟨fun h3 => absurd rfl h3, fun _ => rfl⟩⟩⟩, fun s e => ?_⟩
      subst e
      exact p_in32 (fun _ _ => ⟨fun h3 => absurd h3 (by decide), fun _ => br_t hi ⟨fun h3 => absurd rfl h3, fun _ => rfl⟩⟩) (fun h3 => absurd h h3)
    · refine ⟨-2000000002, ⟨fun _ => rfl, fun _ => ⟨fun _ => rfl, fun _ => br_f hi rfl⟩⟩, fun s e => ?_⟩
      subst e
      exact p_in32 (fun _ _ => ⟨fun h3 => absurd h3 (by decide), fun _ => br_f hi rfl⟩) (fun h3 => absurd h h3)
  · refine ⟨-2000000002, ⟨fun _ => rfl, fun h1 => ⟨fun _ => rfl, fun h2 => absurd ?_ h⟩⟩, fun s e => ?_⟩
    · rw [Int32.lt_iff_toInt_lt] at h1 h2
      omega
    · subst e
      exact p_in32 (fun h1 h2 => absurd ⟨h1, h2⟩ h) (fun _ => ⟨fun _ => rfl, fun h3 => absurd rfl h3⟩)
/-! the calls that throw -/
theorem tc_inside {post : CS → Int32 → Prop} {a n : Int32} (hn : n.toInt = 0) (h0 : post cS0 0) : wc_SX12_inside post cS0 a n := p_inside (fun h1 h2 => absurd h2 (by rw [hn]; omega)) (fun _ => h0)
theorem tc_kind (a : Int32) : wc_ft_kind (fun _ _ => False) (fun _ => True) cS0 a := tc_inside rfl ⟨fun h => absurd rfl h, fun _ => trivial⟩
theorem tc_number (a b c : Int32) : wc_ft_number (fun _ _ => False) (fun _ => True) cS0 a b c := tc_inside rfl ⟨fun h => absurd rfl h, fun _ => trivial⟩
theorem tc_leans (a : Int32) : wc_ft_leans (fun _ _ => False) (fun _ => True) cS0 a := tc_inside rfl ⟨fun h => absurd rfl h, fun _ => trivial⟩
theorem tc_stated (a : Int32) : wc_ft_stated (fun _ _ => False) (fun _ => True) cS0 a := tc_inside rfl ⟨fun h => absurd rfl h, fun _ => trivial⟩
theorem tc_same (a b : Int32) : wc_ft_same (fun _ _ => False) (fun _ => True) cS0 a b := tc_inside rfl ⟨fun _ => trivial, fun h => absurd rfl h⟩
theorem tc_write (a : Int32) : wc_ft_write (fun _ _ => False) (fun _ => True) cS0 a := tc_inside rfl ⟨fun h => absurd rfl h, fun _ => trivial⟩
theorem tc_out (a : Int32) : wc_ft_out (fun _ _ => False) (fun _ => True) cS0 a := tc_inside rfl ⟨fun h => absurd rfl h, fun _ => trivial⟩
theorem tm_none {post : MS → Int32 → Prop} {a : Int32} {hi : Int64} (hh : hi.toInt = -1) (h0 : post mS0 0) : wm_in post mS0 a.toInt64 (0 : Int64) hi := p_in32 (fun h1 h2 => absurd h2 (by have e1 : (0 : Int64).toInt = 0 := rfl; rw [e1] at h1; rw [hh]; omega)) (fun _ => h0)
theorem tm_noDrawn {post : MS → Int32 → Prop} {a : Int32} (h : post (m_code_s mS0 (1 : Int32)) 1) : wm_noDrawn post mS0 a := tm_none rfl ⟨fun _ s e => by subst e; exact ⟨fun h => absurd h (by decide), fun _ => h⟩, fun h => absurd rfl h⟩
theorem tm_kind (a : Int32) : wm_kind (fun s _ => m_code s = 1) mS0 a := tm_noDrawn ⟨fun h => absurd h (by decide), fun _ => rfl⟩
theorem tm_number (a b c : Int32) : wm_number_ (fun s _ => m_code s = 1) mS0 a b c := tm_noDrawn ⟨fun h => absurd h (by decide), fun _ => rfl⟩
theorem tm_leans (a : Int32) : wm_leans (fun s _ => m_code s = 1) mS0 a := tm_noDrawn ⟨fun h => absurd h (by decide), fun _ => rfl⟩
theorem tm_same (a b : Int32) : wm_same (fun s _ => m_code s = 1) mS0 a b := tm_noDrawn ⟨fun _ => rfl, fun h => absurd h (by decide)⟩
theorem tm_write (a : Int32) : wm_write (fun s _ => m_code s = 1) mS0 a := tm_noDrawn ⟨fun h => absurd h (by decide), fun _ => rfl⟩
theorem tm_stated (a : Int32) : wm_stated (fun s _ => m_code s = 1) mS0 a := tm_none rfl ⟨fun _ s e => by subst e; exact ⟨fun h => absurd h (by decide), fun _ => rfl⟩, fun h => absurd rfl h⟩
theorem tm_out (a : Int32) : wm_out (fun s _ => m_code s = 1) mS0 a := tm_none rfl ⟨fun _ s e => by subst e; exact ⟨fun h => absurd h (by decide), fun _ => rfl⟩, fun h => absurd rfl h⟩
/-! feed -/
theorem p_lay1 {post : CS → Prop} {n : Nat} {σ : CS} {v w : Int32} {t : Nat} (ht : c_ft_tapeLength σ = nI t) (hlt : t < 3000) (hw : ¬ w < 0) (k : ∀ σ' : CS, c_ft_tapeLength σ' = nI (t + 1) → wc_ft_layOnTape_3 post n σ' v (w + (-8 : Int32))) : wc_ft_layOnTape_3 post (n + 1) σ v w := by
  have e1 : (nI t).toInt = (t : Int) := nI_toInt (by omega)
  have e2 : (3000 : Int32).toInt = 3000 := rfl
  refine ⟨fun h => absurd h hw, fun _ => p_inside (fun _ _ => ⟨fun h => absurd h (by decide), fun _ => ⟨by rw [ht]; exact vp_in_nI hlt (by omega), fun s3 e3 s4 e4 x e => ?_⟩⟩) (fun h => absurd ?_ h)⟩
  · subst e3; subst e4; subst e
    refine k _ ?_
    show σ.1 201 + 1 = nI (t + 1)
    rw [show σ.1 201 = nI t from ht, nI_1]
  · rw [ht, e1, e2]
    omega
theorem p_lay {post : CS → Prop} {σ : CS} {v : Int32} {t : Nat} (ht : c_ft_tapeLength σ = nI t) (hlt : t + 4 ≤ 3000) (k : ∀ σ' : CS, c_ft_tapeLength σ' = nI (t + 4) → post σ') : wc_ft_layOnTape post σ v :=
  ⟨5, p_lay1 ht (by omega) (by decide) (fun _ h1 => p_lay1 h1 (by omega) (by decide) (fun _ h2 => p_lay1 h2 (by omega) (by decide) (fun _ h3 => p_lay1 h3 (by omega) (by decide) (fun _ h4 => ⟨fun _ => k _ h4, fun h => absurd (by decide) h⟩))))⟩
theorem p_four1 {post : MS → Prop} {n : Nat} {σ : MS} {v w : Int32} {t : Nat} (ht : m_taped σ = nI t) (hlt : t < 3000) (hw : ¬ w < 0) (k : ∀ σ' : MS, m_taped σ' = nI (t + 1) → wm_four_2 post n σ' v (w + (-1 : Int32))) : wm_four_2 post (n + 1) σ v w := by
  refine ⟨fun h => absurd h hw, fun _ => ⟨by rw [ht]; exact vp_in_nI hlt (by omega), fun s1 e1 s2 e2 x e => ?_⟩⟩
  subst e1; subst e2; subst e
  refine k _ ?_
  show σ.1 2 + 1 = nI (t + 1)
  rw [show σ.1 2 = nI t from ht, nI_1]
theorem p_four {post : MS → Prop} {σ : MS} {v : Int32} {t : Nat} (ht : m_taped σ = nI t) (hlt : t + 4 ≤ 3000) (k : ∀ σ' : MS, m_taped σ' = nI (t + 4) → post σ') : wm_four post σ v :=
  ⟨5, p_four1 ht (by omega) (by decide) (fun _ h1 => p_four1 h1 (by omega) (by decide) (fun _ h2 => p_four1 h2 (by omega) (by decide) (fun _ h3 => p_four1 h3 (by omega) (by decide) (fun _ h4 => ⟨fun _ => k _ h4, fun h => absurd (by decide) h⟩))))⟩
theorem st_feed (a b c d e : Int32) : ∃ r : Int32, wc_ft_feed (fun _ x => x = r) cS0 a b c d e ∧ wm_feed (fun _ x => x = r) mS0 a b c d e := by
  refine ⟨nI 20, ⟨fun _ => p_lay (t := 0) rfl (by decide) (fun _ h1 => p_lay h1 (by decide) (fun _ h2 => p_lay h2 (by decide) (fun _ h3 => p_lay h3 (by decide) (fun _ h4 => p_lay h4 (by decide) (fun _ h5 => h5))))), fun h => absurd (by decide) h⟩, fun s es => ?_⟩
  subst es
  exact ⟨fun _ => p_four (t := 0) rfl (by decide) (fun _ h1 => p_four h1 (by decide) (fun _ h2 => p_four h2 (by decide) (fun _ h3 => p_four h3 (by decide) (fun _ h4 => p_four h4 (by decide) (fun _ h5 => h5))))), fun h => absurd (by decide) h⟩
/-! read -/
theorem vin_add {a v N : Nat} (h : a + v < N) (hN : N < 2 ^ 31) : vp_in (nI a + nI v) N := by rw [nI_add]; exact vp_in_nI h hN
theorem lt_of_n {v M : Nat} (hM : M < 2 ^ 31) (hv : v < 2 ^ 31) (h : ¬ nI M ≤ nI v) : v < M := by
  rcases Nat.lt_or_ge v M with q | q
  · exact q
  · exact absurd (nI_le q hv) h
theorem pm_425 {post : MS → Prop} (hp : ∀ σ : MS, σ.1 19 = 0 → post σ) : ∀ (n v : Nat) (σ : MS), σ.1 19 = 0 → v + n = 13 → v ≤ 12 → wm_become_425 post n σ (nI v)
  | 0, v, σ, _, e, h2 => by omega
  | n + 1, v, σ, h, e, h2 => ⟨fun _ => hp σ h, fun hn => by
    have hv : v < 12 := lt_of_n (by decide) (by omega) hn
    exact ⟨vp_in_nI hv (by decide), fun s1 e1 x2 e2 => by subst e1; rw [e2, nI_1]; exact pm_425 hp n (v + 1) _ h (by omega) (by omega)⟩⟩
theorem pm_57 {post : MS → Prop} (hp : ∀ σ : MS, σ.1 19 = 0 → post σ) : ∀ (n v : Nat) (σ : MS), σ.1 19 = 0 → v + n = 21 → v ≤ 20 → wm_clearRun_57 post n σ (nI v)
  | 0, v, σ, _, e, h2 => by omega
  | n + 1, v, σ, h, e, h2 => ⟨fun _ => hp σ h, fun hn => by
    have hv : v < 20 := lt_of_n (by decide) (by omega) hn
    exact ⟨vp_in_nI (by omega) (by decide), fun s1 e1 x2 e2 => by subst e1; rw [e2, nI_1]; exact pm_57 hp n (v + 1) _ h (by omega) (by omega)⟩⟩
theorem pm_clearRun {post : MS → Prop} (hp : ∀ σ : MS, σ.1 19 = 0 → post σ) (σ : MS) (h : σ.1 19 = 0) : wm_clearRun post σ := by
  intro s3 e3 s4 e4 s5 e5 s6 e6 s7 e7 s8 e8 s9 e9 s10 e10 s11 e11 s12 e12 s13 e13
  subst e3; subst e4; subst e5; subst e6; subst e7; subst e8; subst e9; subst e10; subst e11; subst e12; subst e13
  exact ⟨21, pm_57 hp 21 0 _ h rfl (by decide)⟩
theorem pm_375 {post : MS → Prop} (hp : ∀ σ : MS, σ.1 19 = 0 → post σ) : ∀ (n v : Nat) (σ : MS), σ.1 19 = 0 → v + n = 2601 → v ≤ 2600 → wm_become_375 post n σ (nI v)
  | 0, v, σ, _, e, h2 => by omega
  | n + 1, v, σ, h, e, h2 => ⟨fun _ s3 e3 => by
    subst e3
    exact pm_clearRun (fun σ' h' s5 e5 s6 e6 => by subst e5; subst e6; exact ⟨13, pm_425 hp 13 0 _ h' rfl (by decide)⟩) _ h, fun hn => by
    have hv : v < 2600 := lt_of_n (by decide) (by omega) hn
    exact ⟨vin_add (a := 2600) (by omega) (by decide), vp_in_nI (by omega) (by decide), fun s1 e1 x2 e2 => by subst e1; rw [e2, nI_1]; exact pm_375 hp n (v + 1) _ h (by omega) (by omega)⟩⟩
theorem pm_344 {post : MS → Prop} (hp : ∀ σ : MS, σ.1 19 = 0 → post σ) : ∀ (n v : Nat) (σ : MS), σ.1 19 = 0 → v + n = 261 → v ≤ 260 → wm_become_344 post n σ (nI v)
  | 0, v, σ, _, e, h2 => by omega
  | n + 1, v, σ, h, e, h2 => ⟨fun _ => ⟨2601, pm_375 hp 2601 0 _ h rfl (by decide)⟩, fun hn => by
    have hv : v < 260 := lt_of_n (by decide) (by omega) hn
    exact ⟨vin_add (a := 260) (by omega) (by decide), vp_in_nI (by omega) (by decide), fun s1 e1 x2 e2 => by subst e1; rw [e2, nI_1]; exact pm_344 hp n (v + 1) _ h (by omega) (by omega)⟩⟩
theorem pm_313 {post : MS → Prop} (hp : ∀ σ : MS, σ.1 19 = 0 → post σ) : ∀ (n v : Nat) (σ : MS), σ.1 19 = 0 → v + n = 131 → v ≤ 130 → wm_become_313 post n σ (nI v)
  | 0, v, σ, _, e, h2 => by omega
  | n + 1, v, σ, h, e, h2 => ⟨fun _ => ⟨261, pm_344 hp 261 0 _ h rfl (by decide)⟩, fun hn => by
    have hv : v < 130 := lt_of_n (by decide) (by omega) hn
    exact ⟨vin_add (a := 130) (by omega) (by decide), vp_in_nI (by omega) (by decide), fun s1 e1 x2 e2 => by subst e1; rw [e2, nI_1]; exact pm_313 hp n (v + 1) _ h (by omega) (by omega)⟩⟩
theorem pm_moved {post : MS → Int32 → Prop} {σ : MS} {a : Int32} (h : ∀ r, post σ r) : wm_moved post σ a := ⟨fun _ => h _, fun _ => h _⟩
theorem pm_236 {post : MS → Prop} (hp : ∀ σ : MS, σ.1 19 = 0 → post σ) : ∀ (n v : Nat) (σ : MS), σ.1 19 = 0 → v + n = 14 → v ≤ 13 → wm_become_236 post n σ (nI v)
  | 0, v, σ, _, e, h2 => by omega
  | n + 1, v, σ, h, e, h2 => ⟨fun _ => ⟨131, pm_313 hp 131 0 _ h rfl (by decide)⟩, fun hn => by
    have hv : v < 13 := lt_of_n (by decide) (by omega) hn
    have q1 : vp_in ((13 : Int32) + nI v) 26 := vin_add (a := 13) (by omega) (by decide)
    have q2 : vp_in (nI v) 26 := vp_in_nI (by omega) (by decide)
    refine ⟨q1, q2, fun s13 e13 => ⟨q1, q2, fun s14 e14 => ⟨q1, pm_moved (fun r => ⟨q2, fun s17 e17 => ⟨q1, q2, fun s18 e18 x2 e2 => ?_⟩⟩)⟩⟩⟩
    subst e13; subst e14; subst e17; subst e18
    rw [e2, nI_1]
    exact pm_236 hp n (v + 1) _ h (by omega) (by omega)⟩
theorem pm_become {post : MS → Prop} (hp : ∀ σ : MS, σ.1 19 = 0 → post σ) (σ : MS) (a : Int32) (h33 : σ.1 33 = 0) : wm_become post σ a := by
  refine ⟨1, ⟨fun _ s35 e35 s36 e36 s37 e37 => pm_moved (fun r s40 e40 => ⟨14, ?_⟩), fun hn => absurd ?_ hn⟩⟩
  · subst e35; subst e36; subst e37; subst e40
    exact pm_236 hp 14 0 _ h33 rfl (by decide)
  · show σ.1 33 ≤ (0 : Int32)
    rw [h33]
    decide
/-- the reference behind its loop over the names -/
def mOne (σ : MS) : Prop := σ.1 2 = 0 ∧ σ.1 31 = 0 ∧ σ.1 33 = 0
theorem pm_126 {σ : MS} {t : Int32} (h : mOne σ) : wm_read_126 (fun _ x => x = 0) σ t := by
  obtain ⟨h2, h31, h33⟩ := h
  intro s1 e1
  subst e1
  refine ⟨fun hn => absurd h31 hn, fun _ => ⟨fun _ s4 e4 => ?_, fun hn => absurd hn (by decide)⟩⟩
  subst e4
  exact pm_become (fun σ' h' => h') _ _ h33
theorem pm_deeds {σ : MS} (h : mOne σ) (h4 : σ.1 4 = 0) : wm_readDeeds (fun s r => wm_read_126 (fun _ x => x = 0) s r) σ (0 : Int32) := by
  have h31 := h.2.1
  intro s9 e9
  subst e9
  refine ⟨vp_in_nI (n := 0) (by decide) (by decide), fun s10 e10 => ⟨2, ⟨fun hn => absurd hn (by decide), fun _ => ⟨fun hn => absurd h31 (by subst e10; exact hn), fun _ => ⟨fun hn => absurd hn (by decide), fun _ => ⟨fun _ => ⟨fun _ => ?_, fun hn => absurd hn (by decide)⟩, fun hn => absurd hn ?_⟩⟩⟩⟩⟩⟩
  · subst e10
    refine ⟨fun hn => absurd rfl hn, fun _ => ⟨fun _ => ⟨fun hn => absurd h4 hn, fun _ => ?_⟩, fun hn => absurd rfl hn⟩⟩
    refine ⟨fun _ => ⟨fun _ => pm_126 h, fun hn => absurd rfl hn⟩, fun hn => absurd rfl hn⟩
  · subst e10
    show ¬ σ.1 4 = (3 : Int32)
    rw [h4]
    decide
theorem pm_104 {σ : MS} (h : mOne σ) (h4 : σ.1 4 = 0) : wm_read_104 (fun _ x => x = 0) σ := by
  intro s7 e7
  subst e7
  exact ⟨fun hn => absurd h.2.1 hn, fun _ => ⟨fun hn => absurd hn (by decide), fun _ => pm_deeds h h4⟩⟩
theorem pm_scan {σ : MS} (h : mOne σ) : wm_scan (fun s => ∃ k : Nat, wm_read_71 (fun _ x => x = 0) k s) σ (0 : Int32) := by
  have h2 := h.1
  refine ⟨1, ⟨fun _ s16 e16 s17 e17 => ⟨fun hn => absurd ?_ hn, fun _ s28 e28 s29 e29 => ⟨1, ?_⟩⟩, fun hn => absurd ?_ hn⟩⟩
  · subst e16; subst e17
    show (0 : Int32) = σ.1 2
    rw [h2]
  · subst e16; subst e17; subst e28; subst e29
    refine ⟨fun hn => absurd h.2.1 hn, fun _ => ⟨fun hn => absurd hn (by decide), fun _ => ⟨fun _ => pm_104 h rfl, fun hn => absurd hn (show ¬ (0 : Int32) = 1 by decide)⟩⟩⟩
  · show σ.1 2 ≤ (0 : Int32)
    rw [h2]
    decide
theorem pm_33 : ∀ (n v : Nat) (σ : MS), mOne σ → v + n = 27 → v ≤ 26 → wm_read_33 (fun _ x => x = 0) n σ (nI v)
  | 0, v, σ, _, e, h2 => by omega
  | n + 1, v, σ, h, e, h2 => ⟨fun _ => pm_scan h, fun hn => by
    have hv : v < 26 := lt_of_n (by decide) (by omega) hn
    have q2 : vp_in (nI v) 26 := vp_in_nI (by omega) (by decide)
    refine ⟨q2, fun s18 e18 => ⟨q2, fun s19 e19 => ⟨q2, fun s20 e20 x2 e2 => ?_⟩⟩⟩
    subst e18; subst e19; subst e20
    rw [e2, nI_1]
    exact pm_33 n (v + 1) _ h (by omega) (by omega)⟩
theorem tm_read : wm_read (fun _ x => x = 0) mS0 := by
  intro s22 e22 s23 e23 s24 e24 s25 e25 s26 e26 s27 e27
  subst e22; subst e23; subst e24; subst e25; subst e26; subst e27
  exact ⟨14, pm_33 14 13 _ ⟨rfl, rfl, rfl⟩ rfl (by decide)⟩
/-! read, of the class -/
theorem pc_64 {F : Nat → Int32} {Rf : Nat → Nat} {post : CS → Prop} (hp : ∀ σ : CS, σ.1 = F → σ.2.2.2.2 = Rf → post σ) : ∀ (n v : Nat) (σ : CS), σ.1 = F → σ.2.2.2.2 = Rf → v + n = 14 → v ≤ 13 → wc_sp_clear_ft_tape_64 post n σ (nI v)
  | 0, v, σ, _, _, e, h2 => by omega
  | n + 1, v, σ, h, hr, e, h2 => ⟨fun _ => hp σ h hr, fun hn => by
    have hv : v < 13 := lt_of_n (by decide) (by omega) hn
    exact ⟨vp_in_nI (by omega) (by decide), fun s1 e1 x2 e2 => by subst e1; rw [e2, nI_1]; exact pc_64 hp n (v + 1) _ h hr (by omega) (by omega)⟩⟩
theorem pc_7 {F : Nat → Int32} {Rf : Nat → Nat} {post : CS → Prop} (hp : ∀ σ : CS, σ.1 = F → σ.2.2.2.2 = Rf → post σ) : ∀ (n v : Nat) (σ : CS), σ.1 = F → σ.2.2.2.2 = Rf → v + n = 13 → v ≤ 12 → wc_fr_clear_7 post n σ (nI v)
  | 0, v, σ, _, _, e, h2 => by omega
  | n + 1, v, σ, h, hr, e, h2 => ⟨fun _ => hp σ h hr, fun hn => by
    have hv : v < 12 := lt_of_n (by decide) (by omega) hn
    exact ⟨vp_in_nI (by omega) (by decide), fun s1 e1 x2 e2 => by subst e1; rw [e2, nI_1]; exact pc_7 hp n (v + 1) _ h hr (by omega) (by omega)⟩⟩
/-- a class's state whose reader stands before an empty text -/
def cOne (σ : CS) : Prop := σ.1 401 = 0 ∧ σ.1 409 = 0 ∧ σ.2.2.2.2 203 = 300 ∧ σ.2.2.2.2 204 = 400
theorem pc_end {σ : CS} (h : cOne σ) : ∀ s8 : CS, s8 = c_ft_hasFigure_s (c_ft_spare_s (c_ft_figure_s σ 400) 300) (1 : Int32) → wc_to_clear (fun (s9 : CS) => wc_th_clear (fun (s10 : CS) => wc_fr_clear (fun (s11 : CS) => ∀ s12 : CS, s12 = c_ft_sweepingMany_s s11 (0 : Int32) → c_ft_figure s12 = 400 ∧ ((fun (_ : CS) (x : Int32) => x = 0) s12 (c_sp_nodes s12))) s10) s9) s8 := by
  intro s8 e8 s1 e1 s2 e2 s3 e3 s4 e4 s5 e5 s6 e6 s7 e7
  subst e8; subst e1; subst e2; subst e3; subst e4; subst e5; subst e6; subst e7
  refine ⟨13, pc_7 (fun σ' h1 h2 s12 e12 => ?_) 13 0 _ rfl rfl rfl (by decide)⟩
  subst e12
  refine ⟨?_, ?_⟩
  · show σ'.2.2.2.2 203 = 400
    rw [h2]
    rfl
  · show σ'.1 409 = 0
    rw [h1]
    exact h.2.1
theorem tc_read : wc_ft_read (fun _ x => x = 0) cS0 := by
  refine ⟨rfl, ⟨fun hn => absurd hn (by decide), fun _ => ⟨fun hn => absurd hn (by decide), fun _ => ⟨fun _ => ?_, fun hn => absurd (by decide) hn⟩⟩⟩⟩
  intro s3 e3
  subst e3
  refine ⟨by decide, by decide, by decide, by decide, by decide, fun i hi => absurd hi (Nat.not_lt_zero i), fun s4 e4 s5 e5 s6 e6 s7 e7 s8 e8 => ?_⟩
  subst e4; subst e5; subst e6; subst e7; subst e8
  refine ⟨14, pc_64 (fun σ h1 h2 s2 e2 => ?_) 14 0 _ rfl rfl rfl (by decide)⟩
  subst e2
  obtain ⟨f, l, r, q, o⟩ := σ
  have h1 : f = _ := h1
  have h2 : o = _ := h2
  subst h1; subst h2
  refine ⟨rfl, ?_⟩
  intro s16 e16 s17 e17 s18 e18 s19 e19 s20 e20
  subst e16; subst e17; subst e18; subst e19; subst e20
  refine ⟨fun _ x19 e19 => ?_, fun hn => absurd rfl hn⟩
  subst e19
  refine ⟨rfl, ⟨fun hn => absurd hn (show ¬ (0 : Int32) < 0 by decide), fun _ => ⟨fun _ => ?_, fun hn => absurd (show (0 : Int32) ≤ 0 by decide) hn⟩⟩⟩
  refine ⟨1, rfl, fun _ s12 e12 s13 e13 s14 e14 => ⟨fun hn => absurd rfl hn, fun _ s15 e15 => ?_⟩, fun hn => absurd (show (0 : Int32) ≤ 0 by decide) hn⟩
  subst e12; subst e13; subst e14; subst e15
  refine ⟨1, fun hn => absurd hn (by decide), fun _ => ⟨fun _ s1 e1 => ?_, fun hn => absurd hn (show ¬ (0 : Int32) = 2 by decide)⟩⟩
  subst e1
  refine ⟨rfl, ?_⟩
  show wcB_rd_deeds (wr_X5_block 199) _ _
  refine ⟨1, fun hn => absurd hn (by decide), fun _ => ⟨fun _ s4 e4 => ?_, fun hn => absurd rfl hn⟩⟩
  subst e4
  refine ⟨fun _ s5 e5 => ?_, fun hn => absurd rfl hn⟩
  subst e5
  refine ⟨fun _ => ⟨rfl, rfl, fun s6 e6 s7 e7 => ?_⟩, fun hn => absurd rfl hn⟩
  subst e6; subst e7
  exact pc_end ⟨rfl, rfl, rfl, rfl⟩
theorem st_read : ∃ r : Int32, wc_ft_read (fun _ x => x = r) cS0 ∧ wm_read (fun _ x => x = r) mS0 := ⟨0, tc_read, tm_read⟩
/-! move: the two ways to the greatest divisor -/
theorem b64 {x : Int} (h : x.natAbs ≤ 2 ^ 40) : x.bmod (2 ^ 64) = x := Int.bmod_eq_of_le_mul_two (by omega) (by omega)
theorem i64_rem {x y : Int64} (h : x.toInt.natAbs ≤ 2 ^ 40) : (x - x / y * y).toInt = x.toInt.tmod y.toInt := by
  rw [Int64.toInt_sub, Int64.toInt_mul, Int64.toInt_div, Int.bmod_mul_bmod, Int.sub_bmod_bmod, Int.mul_comm, ← Int.tmod_def]
  refine b64 ?_
  rw [Int.natAbs_tmod]
  exact Nat.le_trans (Nat.mod_le _ _) h
theorem i64_div {x y : Int64} (h : x.toInt.natAbs ≤ 2 ^ 40) : (x / y).toInt = x.toInt.tdiv y.toInt := by
  rw [Int64.toInt_div]
  exact b64 (Nat.le_trans (Int.natAbs_tdiv_le_natAbs _ _) h)
theorem i64_neg {x : Int64} (h : x.toInt.natAbs ≤ 2 ^ 40) : (-x).toInt = -x.toInt := by
  rw [Int64.toInt_neg]
  exact b64 (by rw [Int.natAbs_neg]; exact h)
theorem i64_0 {x : Int64} : x = 0 ↔ x.toInt = 0 := by rw [← Int64.toInt_inj]; rfl
theorem half_rem {d r : Nat} (h0 : 0 < r) (h : r ≤ d) : 2 * (d % r) < d := by
  have h1 := Nat.mod_lt d h0
  have h2 := Nat.div_add_mod d r
  have h3 : 1 ≤ d / r := Nat.div_pos h h0
  have h4 : r ≤ r * (d / r) := Nat.le_mul_of_pos_right r h3
  omega
/-- Euclid's way, a step: the product of the two falls to less than its half -/
theorem euc_step {d r n : Nat} (h0 : 0 < r) (h : r < d) (hp : d * r < 2 ^ (n + 1)) : r * (d % r) < 2 ^ n := by
  have h1 := half_rem h0 (Nat.le_of_lt h)
  have h2 : r * (2 * (d % r)) ≤ r * d := Nat.mul_le_mul_left r (Nat.le_of_lt h1)
  have h3 : r * (2 * (d % r)) = 2 * (r * (d % r)) := by rw [Nat.mul_left_comm]
  rw [h3, Nat.mul_comm r d] at h2
  rw [Nat.pow_succ] at hp
  omega
theorem pc_35 {post : CS → Int64 → Prop} {σ : CS} {t b : Int64} {g : Nat} (hfin : ∀ d : Int64, d.toInt.natAbs = g → wc_rk_reduced_71 post σ t b d) : ∀ (n : Nat) (d r : Int64) (i : Nat), d.toInt.natAbs ≤ 2 ^ 40 → Nat.gcd d.toInt.natAbs r.toInt.natAbs = g → r.toInt.natAbs < d.toInt.natAbs → d.toInt.natAbs * r.toInt.natAbs < 2 ^ n → i + n ≤ 199 → wc_rk_reduced_35 post (n + 1) σ t b d r (nI i)
  | n, d, r, i, hd, hg, hlt, hp, hi => by
    have hfin' : r.toInt.natAbs = 0 → wc_rk_reduced_71 post σ t b d := fun h0 => hfin d (by rw [h0, Nat.gcd_zero_right] at hg; exact hg)
    refine ⟨fun h => absurd h (nI_ge (show i < 200 by omega) (by decide)), fun _ => ⟨fun h => hfin' ?_, fun h => ?_⟩⟩
    · rw [lg_cmp_eq, i64_0] at h
      rw [h]; rfl
    · rw [lg_cmp_eq, i64_0] at h
      have hr0 : 0 < r.toInt.natAbs := Int.natAbs_pos.mpr h
      refine ⟨fun e => h (i64_0.mp e), fun x5 e5 x6 e6 => ?_⟩
      have e7 : x5.toInt.natAbs = d.toInt.natAbs % r.toInt.natAbs := by rw [e5, i64_rem hd, Int.natAbs_tmod]
      cases n with
      | zero =>
        have : 0 < d.toInt.natAbs * r.toInt.natAbs := Nat.mul_pos (by omega) hr0
        rw [Nat.pow_zero] at hp
        omega
      | succ n =>
        rw [e6, nI_1]
        refine pc_35 hfin n r x5 (i + 1) (by omega) ?_ ?_ ?_ (by omega)
        · rw [e7, ← hg, Nat.gcd_comm r.toInt.natAbs, ← Nat.gcd_rec, Nat.gcd_comm]
        · rw [e7]; exact Nat.mod_lt _ hr0
        · rw [e7]; exact euc_step hr0 hlt hp
theorem pm_17 {post : MS → Int64 → Prop} {σ : MS} {g : Nat} (hfin : ∀ d : Int64, d.toInt = (g : Int) → post σ d) : ∀ (n : Nat) (d r : Int64), d.toInt.natAbs ≤ 2 ^ 40 → 0 ≤ d.toInt → 0 ≤ r.toInt → Nat.gcd d.toInt.natAbs r.toInt.natAbs = g → r.toInt.natAbs < d.toInt.natAbs → d.toInt.natAbs * r.toInt.natAbs < 2 ^ n → wm_measure_17 post (n + 1) σ d r
  | n, d, r, hd, hd0, hr0, hg, hlt, hp => by
    refine ⟨fun h => hfin d ?_, fun h => ?_⟩
    · rw [lg_cmp_eq, i64_0] at h
      rw [h] at hg
      rw [show (0 : Int).natAbs = 0 from rfl, Nat.gcd_zero_right] at hg
      omega
    · rw [lg_cmp_eq, i64_0] at h
      have hr1 : 0 < r.toInt.natAbs := Int.natAbs_pos.mpr h
      refine ⟨fun e => h (i64_0.mp e), fun x5 e5 => ?_⟩
      have e6 : x5.toInt = d.toInt.tmod r.toInt := by rw [e5, i64_rem hd]
      have e7 : x5.toInt.natAbs = d.toInt.natAbs % r.toInt.natAbs := by rw [e6, Int.natAbs_tmod]
      cases n with
      | zero =>
        have : 0 < d.toInt.natAbs * r.toInt.natAbs := Nat.mul_pos (by omega) hr1
        rw [Nat.pow_zero] at hp
        omega
      | succ n =>
        refine pm_17 hfin n r x5 (by omega) hr0 (by rw [e6]; exact Int.tmod_nonneg _ hd0) ?_ ?_ ?_
        · rw [e7, ← hg, Nat.gcd_comm r.toInt.natAbs, ← Nat.gcd_rec, Nat.gcd_comm]
        · rw [e7]; exact Nat.mod_lt _ hr1
        · rw [e7]; exact euc_step hr1 hlt hp
/-- a place is LOST: the fraction t / b, brought down -/
def gcI (t b : Int) : Int := (Nat.gcd t.natAbs b.natAbs : Nat)
def lostA (x y : Int) : Prop := 1000000000 < x ∨ x < -1000000000 ∨ 1000000000 < y
def lostI (t b : Int) : Prop := if b < 0 then lostA (-(t.tdiv (gcI t b))) (-(b.tdiv (gcI t b))) else lostA (t.tdiv (gcI t b)) (b.tdiv (gcI t b))
theorem pc_102 {post : CS → Int64 → Prop} {σ : CS} {t b D : Int64} (ht : t.toInt.natAbs ≤ 2 ^ 40) (hb : b.toInt.natAbs ≤ 2 ^ 40) (hD : D.toInt ≠ 0) (hl : lostA (t.toInt.tdiv D.toInt) (b.toInt.tdiv D.toInt) → ∀ r, post (c_rk_failure_s σ (7 : Int32)) r) (hn : ¬ lostA (t.toInt.tdiv D.toInt) (b.toInt.tdiv D.toInt) → ∀ r, post σ r) : wc_rk_reduced_102 post σ t b D := by
  have hD0 : ¬ D = 0 := fun e => hD (i64_0.mp e)
  have k1 : (1000000000 : Int64).toInt = 1000000000 := rfl
  have k2 : (-1000000000 : Int64).toInt = -1000000000 := rfl
  have hL : lostA (t.toInt.tdiv D.toInt) (b.toInt.tdiv D.toInt) → wc_rk_reduced_150 post σ := fun h s1 e1 => by subst e1; exact hl h _
  refine ⟨fun _ => ⟨hD0, fun x2 e2 => ⟨hD0, fun x3 e3 => ?_⟩⟩, fun h => absurd ((lg_cmp_eq _ _).mp h) hD0⟩
  have q2 : x2.toInt = t.toInt.tdiv D.toInt := by rw [e2, i64_div ht]
  have q3 : x3.toInt = b.toInt.tdiv D.toInt := by rw [e3, i64_div hb]
  rw [← q2, ← q3] at hL hn
  refine ⟨fun h => hL (Or.inl ?_), fun h1 => ⟨fun h => hL (Or.inr (Or.inl ?_)), fun h2 => ⟨fun h => hn ?_ _, fun h => hL (Or.inr (Or.inr ?_))⟩⟩⟩
  · rw [lg_cmp_gt, Int64.lt_iff_toInt_lt, k1] at h; exact h
  · rw [lg_cmp_lt, Int64.lt_iff_toInt_lt, k2] at h; exact h
  · rw [lg_cmp_gt, Int64.lt_iff_toInt_lt, k1] at h1
    rw [lg_cmp_lt, Int64.lt_iff_toInt_lt, k2] at h2
    rw [lg_cmp_le, Int64.le_iff_toInt_le, k1] at h
    unfold lostA
    omega
  · rw [lg_cmp_le, Int64.le_iff_toInt_le, k1] at h; omega
theorem pc_71 {post : CS → Int64 → Prop} {σ : CS} {t b d : Int64} (ht : t.toInt.natAbs ≤ 2 ^ 40) (hb : b.toInt.natAbs ≤ 2 ^ 40) (hb0 : b.toInt ≠ 0) (hd : (d.toInt.natAbs : Int) = gcI t.toInt b.toInt) (hl : lostI t.toInt b.toInt → ∀ r, post (c_rk_failure_s σ (7 : Int32)) r) (hn : ¬ lostI t.toInt b.toInt → ∀ r, post σ r) : wc_rk_reduced_71 post σ t b d := by
  have hg0 : 0 < gcI t.toInt b.toInt := by
    unfold gcI
    have : 0 < Nat.gcd t.toInt.natAbs b.toInt.natAbs := Nat.gcd_pos_of_pos_right _ (Int.natAbs_pos.mpr hb0)
    omega
  have hgle : gcI t.toInt b.toInt ≤ (b.toInt.natAbs : Int) := by
    unfold gcI
    have : Nat.gcd t.toInt.natAbs b.toInt.natAbs ≤ b.toInt.natAbs := Nat.gcd_le_right _ (Int.natAbs_pos.mpr hb0)
    omega
  have hds : d.toInt.natAbs ≤ 2 ^ 40 := by omega
  have z : (0 : Int64).toInt = 0 := rfl
  have key : ∀ D : Int64, (b.toInt < 0 → D.toInt = -gcI t.toInt b.toInt) → (¬ b.toInt < 0 → D.toInt = gcI t.toInt b.toInt) → wc_rk_reduced_102 post σ t b D := by
    intro D h1 h2
    by_cases hneg : b.toInt < 0
    · have hD := h1 hneg
      unfold lostI at hl hn
      rw [if_pos hneg] at hl hn
      refine pc_102 ht hb (by omega) ?_ ?_
      · rw [hD, Int.tdiv_neg, Int.tdiv_neg]; exact hl
      · rw [hD, Int.tdiv_neg, Int.tdiv_neg]; exact hn
    · have hD := h2 hneg
      unfold lostI at hl hn
      rw [if_neg hneg] at hl hn
      refine pc_102 ht hb (by omega) ?_ ?_
      · rw [hD]; exact hl
      · rw [hD]; exact hn
  have hneg : (-d).toInt = -d.toInt := i64_neg hds
  refine ⟨fun h => ⟨fun h2 => ⟨fun _ => key d ?_ ?_, fun q => absurd rfl q⟩, fun h2 => ⟨fun q => absurd q (by decide), fun _ x e => key x ?_ ?_⟩⟩, fun h => ⟨fun h2 => ⟨fun q => absurd q (by decide), fun _ x e => key x ?_ ?_⟩, fun h2 => ⟨fun _ => key d ?_ ?_, fun q => absurd rfl q⟩⟩⟩
  all_goals (rw [lg_cmp_ge, Int64.le_iff_toInt_le, z] at h h2; intro q; first | (subst e; rw [hneg]; omega) | omega)
theorem pc_reduced {post : CS → Int64 → Prop} {σ : CS} {t b : Int64} (ht : t.toInt.natAbs ≤ 2 ^ 31) (hb : b.toInt.natAbs ≤ 2 ^ 31) (hb0 : b.toInt ≠ 0) (hl : lostI t.toInt b.toInt → c_rk_failure σ = 0 → ∀ r, post (c_rk_failure_s σ (7 : Int32)) r) (hn : ¬ lostI t.toInt b.toInt → c_rk_failure σ = 0 → ∀ r, post σ r) (hf : ¬ c_rk_failure σ = 0 → ∀ r, post σ r) : wc_rk_reduced post σ t b := by
  refine ⟨fun h0 => ⟨fun _ => ⟨fun e => hb0 (i64_0.mp e), fun x7 e7 => ⟨63, ?_⟩⟩, fun h => absurd (i64_0.mp ((lg_cmp_eq _ _).mp h)) hb0⟩, fun h0 => hf h0 _⟩
  have hb1 : 0 < b.toInt.natAbs := Int.natAbs_pos.mpr hb0
  have e8 : x7.toInt.natAbs = t.toInt.natAbs % b.toInt.natAbs := by rw [e7, i64_rem (by omega), Int.natAbs_tmod]
  have hlt : x7.toInt.natAbs < b.toInt.natAbs := by rw [e8]; exact Nat.mod_lt _ hb1
  have hm : b.toInt.natAbs * x7.toInt.natAbs < 2 ^ 62 := by
    have h1 : b.toInt.natAbs * x7.toInt.natAbs ≤ 2 ^ 31 * x7.toInt.natAbs := Nat.mul_le_mul_right _ hb
    omega
  refine pc_35 (g := Nat.gcd t.toInt.natAbs b.toInt.natAbs) (fun d hd => pc_71 (by omega) (by omega) hb0 (by rw [hd]; rfl) (fun h => hl h h0) (fun h => hn h h0)) 62 b x7 0 (by omega) ?_ hlt hm (by decide)
  rw [e8, Nat.gcd_comm, ← Nat.gcd_rec, Nat.gcd_comm]
/-- the reference's pile: p numbers, failure f, no figure -/
def mPi (σ : MS) (p : Nat) (f : Int32) : Prop := σ.1 53 = nI p ∧ σ.1 54 = f ∧ σ.1 30 = 0
theorem pm_push {post : MS → Prop} {σ : MS} {p : Nat} {f : Int32} {a b : Int64} (h : mPi σ p f) (hp : p < 40) (k : ∀ σ' : MS, mPi σ' (p + 1) f → σ'.2.2.2 51 = vp_updL (σ.2.2.2 51) p a → σ'.2.2.2 52 = vp_updL (σ.2.2.2 52) p b → post σ') : wm_push post σ a b := by
  obtain ⟨h1, h2, h3⟩ := h
  have hc : (nI p).toNatClampNeg = p := nI_clamp (by omega)
  have hq : vp_in (m_piled σ) 40 := by
    show vp_in (σ.1 53) 40
    rw [h1]; exact vp_in_nI hp (by decide)
  refine ⟨hq, fun s1 e1 => ?_⟩
  subst e1
  refine ⟨hq, fun s2 e2 s3 e3 => ?_⟩
  subst e2; subst e3
  refine k _ ⟨?_, h2, h3⟩ ?_ ?_
  · show σ.1 53 + 1 = nI (p + 1)
    rw [h1, nI_1]
  · show vp_updL (σ.2.2.2 51) (σ.1 53).toNatClampNeg a = _
    rw [h1, hc]
  · show vp_updL (σ.2.2.2 52) (σ.1 53).toNatClampNeg b = _
    rw [h1, hc]
theorem pm_measure {post : MS → Int64 → Prop} {σ : MS} {t b : Int64} (ht : t.toInt.natAbs ≤ 2 ^ 31) (hb : b.toInt.natAbs ≤ 2 ^ 31) (hb0 : 0 < b.toInt) (h : ∀ d : Int64, d.toInt = gcI t.toInt b.toInt → post σ d) : wm_measure post σ t b := by
  have key : ∀ x : Int64, x.toInt.natAbs = t.toInt.natAbs → 0 ≤ x.toInt → wm_measure_12 post σ b x := by
    intro x hx hx0
    have hb1 : 0 < b.toInt.natAbs := by omega
    refine ⟨64, ⟨fun q => absurd (i64_0.mp ((lg_cmp_eq _ _).mp q)) (by omega), fun _ => ⟨fun e => absurd (i64_0.mp e) (by omega), fun x1 e1 => ?_⟩⟩⟩
    have e6 : x1.toInt = x.toInt.tmod b.toInt := by rw [e1, i64_rem (by omega)]
    have e8 : x1.toInt.natAbs = t.toInt.natAbs % b.toInt.natAbs := by rw [e6, Int.natAbs_tmod, hx]
    have hlt : x1.toInt.natAbs < b.toInt.natAbs := by rw [e8]; exact Nat.mod_lt _ hb1
    have hm : b.toInt.natAbs * x1.toInt.natAbs < 2 ^ 62 := by
      have h1 : b.toInt.natAbs * x1.toInt.natAbs ≤ 2 ^ 31 * x1.toInt.natAbs := Nat.mul_le_mul_right _ hb
      omega
    refine pm_17 (g := Nat.gcd t.toInt.natAbs b.toInt.natAbs) h 62 b x1 (by omega) (by omega) (by rw [e6]; exact Int.tmod_nonneg _ hx0) ?_ hlt hm
    rw [e8, Nat.gcd_comm, ← Nat.gcd_rec, Nat.gcd_comm]
  have z : (0 : Int64).toInt = 0 := rfl
  refine ⟨fun q => key t rfl ?_, fun q => key (-t) ?_ ?_⟩
  · rw [lg_cmp_ge, Int64.le_iff_toInt_le, z] at q; exact q
  · rw [i64_neg (by omega), Int.natAbs_neg]
  · rw [lg_cmp_ge, Int64.le_iff_toInt_le, z] at q
    rw [i64_neg (by omega)]
    omega
theorem pm_98 {post : MS → Prop} {σ : MS} {p : Nat} (h : mPi σ p 0) (hp : p < 40) (k : ∀ σ' : MS, mPi σ' (p + 1) 7 → post σ') : wm_come_98 post σ :=
  ⟨fun q => absurd h.2.1 q, fun _ s1 e1 => by subst e1; exact pm_push (f := 7) ⟨h.1, rfl, h.2.2⟩ hp (fun σ' h' _ _ => k σ' h')⟩
theorem pm_69 {post : MS → Prop} {σ : MS} {p : Nat} {x y : Int64} (h : mPi σ p 0) (hp : p < 40) (hl : lostA x.toInt y.toInt → ∀ σ' : MS, mPi σ' (p + 1) 7 → post σ') (hn : ¬ lostA x.toInt y.toInt → ∀ σ' : MS, mPi σ' (p + 1) 0 → post σ') : wm_come_69 post σ x y := by
  have k1 : (1000000000 : Int64).toInt = 1000000000 := rfl
  have k2 : (-1000000000 : Int64).toInt = -1000000000 := rfl
  refine ⟨fun q => pm_98 h hp (hl (Or.inl ?_)), fun q1 => ⟨fun q => pm_98 h hp (hl (Or.inr (Or.inl ?_))), fun q2 => ⟨fun q => pm_push h hp (fun σ' h' _ _ => hn ?_ σ' h'), fun q => pm_98 h hp (hl (Or.inr (Or.inr ?_)))⟩⟩⟩
  · rw [lg_cmp_gt, Int64.lt_iff_toInt_lt, k1] at q; exact q
  · rw [lg_cmp_lt, Int64.lt_iff_toInt_lt, k2] at q; exact q
  · rw [lg_cmp_gt, Int64.lt_iff_toInt_lt, k1] at q1
    rw [lg_cmp_lt, Int64.lt_iff_toInt_lt, k2] at q2
    rw [lg_cmp_le, Int64.le_iff_toInt_le, k1] at q
    unfold lostA
    omega
  · rw [lg_cmp_le, Int64.le_iff_toInt_le, k1] at q; omega
/-- come, with a bottom above 0 -/
theorem pm_come {post : MS → Prop} {σ : MS} {p : Nat} {f : Int32} {t b : Int64} (h : mPi σ (p + 2) f) (hf : f = 0 ∨ f = 7) (hp : p < 38) (ht : t.toInt.natAbs ≤ 2 ^ 31) (hb : b.toInt.natAbs ≤ 2 ^ 31) (hb0 : 0 < b.toInt) (hl : f = 7 ∨ lostA (t.toInt.tdiv (gcI t.toInt b.toInt)) (b.toInt.tdiv (gcI t.toInt b.toInt)) → ∀ σ' : MS, mPi σ' (p + 1) 7 → post σ') (hn : f = 0 → ¬ lostA (t.toInt.tdiv (gcI t.toInt b.toInt)) (b.toInt.tdiv (gcI t.toInt b.toInt)) → ∀ σ' : MS, mPi σ' (p + 1) 0 → post σ') : wm_come post σ t b := by
  intro s4 e4
  have h4 : mPi s4 p f := by
    subst e4
    refine ⟨?_, h.2.1, h.2.2⟩
    show σ.1 53 - 2 = nI p
    rw [h.1, ← nI_1, ← nI_1, Int32.add_assoc]
    exact Int32.add_sub_cancel _ _
  have z : (0 : Int64).toInt = 0 := rfl
  rcases hf with rfl | rfl
  · have hg0 : gcI t.toInt b.toInt ≠ 0 := by
      unfold gcI
      have : 0 < Nat.gcd t.toInt.natAbs b.toInt.natAbs := Nat.gcd_pos_of_pos_right _ (by omega)
      omega
    have hge : (0 : Int32) ≤ lg_cmp b 0 := by rw [lg_cmp_ge, Int64.le_iff_toInt_le, z]; omega
    refine ⟨fun _ => pm_measure ht hb hb0 (fun d hd => ?_), fun q => absurd (show s4.1 54 ≤ (0 : Int32) by rw [h4.2.1]; decide) q⟩
    have hd0 : ¬ d = 0 := fun e => hg0 (by rw [← hd]; exact i64_0.mp e)
    refine br_t hge ⟨hd0, br_t hge ⟨hd0, pm_69 h4 (by omega) (fun q => hl (Or.inr ?_)) (fun q => hn rfl ?_)⟩⟩
    · rw [i64_div (by omega), i64_div (by omega), hd] at q; exact q
    · rw [i64_div (by omega), i64_div (by omega), hd] at q; exact q
  · refine ⟨fun q => absurd q (by show ¬ s4.1 54 ≤ (0 : Int32); rw [h4.2.1]; decide), fun _ => pm_push h4 (by omega) (fun σ' h' _ _ => hl (Or.inl rfl) σ' h')⟩
theorem gcI_neg (t b : Int) : gcI (-t) (-b) = gcI t b := by unfold gcI; rw [Int.natAbs_neg, Int.natAbs_neg]
theorem pm_by {post : MS → Prop} {σ : MS} {p : Nat} {f : Int32} {t b : Int64} (h : mPi σ (p + 2) f) (hf : f = 0 ∨ f = 7) (hp : p < 38) (t0 : σ.2.2.2 51 p = t) (t1 : σ.2.2.2 51 (p + 1) = b) (b0 : σ.2.2.2 52 p = 1) (b1 : σ.2.2.2 52 (p + 1) = 1) (ht : t.toInt.natAbs ≤ 2 ^ 31) (hb : b.toInt.natAbs ≤ 2 ^ 31) (hb0 : b.toInt ≠ 0) (hl : f = 7 ∨ lostI t.toInt b.toInt → ∀ σ' : MS, mPi σ' (p + 1) 7 → post σ') (hn : f = 0 → ¬ lostI t.toInt b.toInt → ∀ σ' : MS, mPi σ' (p + 1) 0 → post σ') : wm_by post σ := by
  intro x4 e4
  have z : (0 : Int64).toInt = 0 := rfl
  have ex : x4 = nI p := by
    rw [e4]
    show σ.1 53 - 2 = nI p
    rw [h.1, ← nI_1, ← nI_1, Int32.add_assoc]
    exact Int32.add_sub_cancel _ _
  have c0 : x4.toNatClampNeg = p := by rw [ex]; exact nI_clamp (by omega)
  have c1 : (x4 + (1 : Int32)).toNatClampNeg = p + 1 := by rw [ex, nI_1]; exact nI_clamp (by omega)
  have q0 : vp_in x4 40 := by rw [ex]; exact vp_in_nI (by omega) (by decide)
  have q1 : vp_in (x4 + (1 : Int32)) 40 := by rw [ex, nI_1]; exact vp_in_nI (by omega) (by decide)
  have mt : m_top σ (x4 + (1 : Int32)).toNatClampNeg = b := by rw [c1]; exact t1
  have e51 : ∀ v : Int32, ((v = 0 ∧ 0 < b.toInt) ∨ (v = 1 ∧ b.toInt < 0)) → wm_by_51 post σ x4 v := by
    intro v hv
    refine ⟨q0, q1, fun x2 e2 => ⟨q0, q1, fun x3 e3 => ?_⟩⟩
    have e2 : x2 = t := by rw [e2, c0, c1]; show σ.2.2.2 51 p * σ.2.2.2 52 (p + 1) = t; rw [t0, b1, Int64.mul_one]
    have e3 : x3 = b := by rw [e3, c0, c1]; show σ.2.2.2 52 p * σ.2.2.2 51 (p + 1) = b; rw [t1, b0, Int64.one_mul]
    subst e2; subst e3
    rcases hv with ⟨rfl, hpos⟩ | ⟨rfl, hneg⟩
    · unfold lostI at hl hn
      rw [if_neg (by omega)] at hl hn
      exact br_t rfl (br_t rfl (pm_come h hf hp ht hb hpos hl hn))
    · unfold lostI at hl hn
      rw [if_pos hneg] at hl hn
      have n1 := i64_neg (x := x2) (by omega)
      have n2 := i64_neg (x := x3) (by omega)
      refine br_f (by decide) (br_f (by decide) (pm_come h hf hp (by rw [n1, Int.natAbs_neg]; exact ht) (by rw [n2, Int.natAbs_neg]; exact hb) (by omega) ?_ ?_))
      · rw [n1, n2, gcI_neg, Int.neg_tdiv, Int.neg_tdiv]; exact hl
      · rw [n1, n2, gcI_neg, Int.neg_tdiv, Int.neg_tdiv]; exact hn
  refine ⟨q1, ⟨fun _ => ⟨q1, ⟨fun q => e51 0 (Or.inl ⟨rfl, ?_⟩), fun q => e51 1 (Or.inr ⟨rfl, ?_⟩)⟩⟩, fun q => absurd ?_ hb0⟩⟩
  · rw [mt, lg_cmp_ge, Int64.le_iff_toInt_le, z] at q; omega
  · rw [mt, lg_cmp_ge, Int64.le_iff_toInt_le, z] at q; omega
  · rw [mt, lg_cmp_eq] at q; exact i64_0.mp q
theorem i32_small (a : Int32) : a.toInt64.toInt.natAbs ≤ 2 ^ 31 := by
  rw [Int32.toInt_toInt64]
  have h1 := Int32.le_toInt a
  have h2 := Int32.toInt_lt a
  omega
theorem lup_n {f : Nat → Int64} {j k : Nat} {x : Int64} (h : j ≠ k) : vp_updL f k x j = f j := pk_uLn h
theorem st_move (k x y d : Int32) : ∃ r : Int32, wc_ft_move (fun _ v => v = r) cS0 k x y d ∧ wm_move (fun _ v => v = r) mS0 k x y d := by
  by_cases hk : 0 ≤ k.toInt ∧ k.toInt < 12
  · by_cases hd : d = 0
    · refine ⟨-2000000002, p_inside (fun _ _ => ⟨fun h => absurd h (by decide), fun _ => ⟨fun h => absurd hd h, fun _ => rfl⟩⟩) (fun h => absurd hk h), fun s e => ?_⟩
      subst e
      exact p_in32 (fun _ _ => ⟨fun h => absurd h (by decide), fun _ => ⟨fun h => absurd hd h, fun _ => rfl⟩⟩) (fun h => absurd (show (0 : Int64).toInt ≤ k.toInt ∧ k.toInt ≤ (11 : Int64).toInt from ⟨hk.1, by show k.toInt ≤ 11; omega⟩) h)
    · have hd0 : d.toInt64.toInt ≠ 0 := by
        rw [Int32.toInt_toInt64]
        exact i_ne hd
      by_cases hL : lostI x.toInt64.toInt d.toInt64.toInt ∨ lostI y.toInt64.toInt d.toInt64.toInt
      · refine ⟨-2000000002, p_inside (fun _ _ => ⟨fun h => absurd h (by decide), fun _ => ⟨fun _ => ?_, fun h => absurd h hd⟩⟩) (fun h => absurd hk h), fun s e => ?_⟩
        · intro s1 e1
          subst e1
          refine pc_reduced (i32_small x) (i32_small d) hd0 (fun _ _ r => ?_) (fun h1 _ r => ?_) (fun h _ => absurd rfl h)
          · exact pc_reduced (i32_small y) (i32_small d) hd0 (fun _ h => absurd h (by decide)) (fun _ h => absurd h (by decide)) (fun _ _ => ⟨fun h => absurd h (by decide), fun _ => rfl⟩)
          · exact pc_reduced (i32_small y) (i32_small d) hd0 (fun _ _ _ => ⟨fun h => absurd h (by decide), fun _ => rfl⟩) (fun h2 _ _ => absurd hL (by rintro (q | q); exact h1 q; exact h2 q)) (fun h _ => absurd rfl h)
        · subst e
          refine p_in32 (fun _ _ => ⟨fun h => absurd h (by decide), fun _ => ⟨fun _ s7 e7 s8 e8 => ?_, fun _ => rfl⟩⟩) (fun h => absurd (show (0 : Int64).toInt ≤ k.toInt ∧ k.toInt ≤ (11 : Int64).toInt from ⟨hk.1, by show k.toInt ≤ 11; omega⟩) h)
          subst e7; subst e8
          refine pm_push (p := 0) (f := 0) ⟨rfl, rfl, rfl⟩ (by decide) (fun σ1 g1 a1 b1 => pm_push g1 (by decide) (fun σ2 g2 a2 b2 => ?_))
          have fin : ∀ (σ5 : MS), mPi σ5 2 7 → (((m_failure σ5) ≤ (0 : Int32)) → (wm_move_81 (fun _ v => v = -2000000002) σ5 k (0 : Int32))) ∧ ((¬ ((m_failure σ5) ≤ (0 : Int32))) → (wm_move_81 (fun _ v => v = -2000000002) σ5 k (1 : Int32))) := fun σ5 g5 => ⟨fun h => absurd h (by show ¬ σ5.1 54 ≤ (0 : Int32); rw [g5.2.1]; decide), fun _ s1 e1 s2 e2 => ⟨fun h => absurd h (by decide), fun _ => rfl⟩⟩
          have two : ∀ (σ3 : MS) (f : Int32), mPi σ3 1 f → (f = 0 ∧ ¬ lostI x.toInt64.toInt d.toInt64.toInt ∨ f = 7) → wm_whole (fun (s12 : MS) => wm_whole (fun (s13 : MS) => wm_by (fun (s14 : MS) => (((m_failure s14) ≤ (0 : Int32)) → (wm_move_81 (fun _ v => v = -2000000002) s14 k (0 : Int32))) ∧ ((¬ ((m_failure s14) ≤ (0 : Int32))) → (wm_move_81 (fun _ v => v = -2000000002) s14 k (1 : Int32)))) s13) s12 (d.toInt64)) σ3 (y.toInt64) := by
            intro σ3 f g3 hf
            refine pm_push g3 (by decide) (fun σ4 g4 a4 b4 => pm_push g4 (by decide) (fun σ5 g5 a5 b5 => ?_))
            refine pm_by (p := 1) (t := y.toInt64) (b := d.toInt64) g5 (by rcases hf with q | q; exact Or.inl q.1; exact Or.inr q) (by decide) (by rw [a5, lup_n (by decide), a4]; exact pk_uLs) (by rw [a5]; exact pk_uLs) (by rw [b5, lup_n (by decide), b4]; exact pk_uLs) (by rw [b5]; exact pk_uLs) (i32_small y) (i32_small d) hd0 (fun _ => fin) (fun hf0 hny => ?_)
            rcases hf with ⟨-, q⟩ | q
            · exact absurd hL (by rintro (r | r); exact q r; exact hny r)
            · rw [q] at hf0; exact absurd hf0 (by decide)
          refine pm_by (p := 0) (t := x.toInt64) (b := d.toInt64) g2 (Or.inl rfl) (by decide) (by rw [a2, lup_n (by decide), a1]; exact pk_uLs) (by rw [a2]; exact pk_uLs) (by rw [b2, lup_n (by decide), b1]; exact pk_uLs) (by rw [b2]; exact pk_uLs) (i32_small x) (i32_small d) hd0 (fun _ σ3 g3 => two σ3 7 g3 (Or.inr rfl)) (fun _ hnx σ3 g3 => two σ3 0 g3 (Or.inl ⟨rfl, hnx⟩))
      · have hLx : ¬ lostI x.toInt64.toInt d.toInt64.toInt := fun q => hL (Or.inl q)
        have hLy : ¬ lostI y.toInt64.toInt d.toInt64.toInt := fun q => hL (Or.inr q)
        refine ⟨-2000000003, p_inside (fun _ _ => ⟨fun h => absurd h (by decide), fun _ => ⟨fun _ => ?_, fun h => absurd h hd⟩⟩) (fun h => absurd hk h), fun s e => ?_⟩
        · intro s1 e1
          subst e1
          refine pc_reduced (i32_small x) (i32_small d) hd0 (fun h => absurd h hLx) (fun _ _ r => ?_) (fun h _ => absurd rfl h)
          exact pc_reduced (i32_small y) (i32_small d) hd0 (fun h => absurd h hLy) (fun _ _ _ => ⟨fun _ => ⟨fun h => absurd rfl h, fun _ => rfl⟩, fun h => absurd rfl h⟩) (fun h _ => absurd rfl h)
        · subst e
          refine p_in32 (fun _ _ => ⟨fun h => absurd h (by decide), fun _ => ⟨fun _ s7 e7 s8 e8 => ?_, fun h => absurd h hd⟩⟩) (fun h => absurd (show (0 : Int64).toInt ≤ k.toInt ∧ k.toInt ≤ (11 : Int64).toInt from ⟨hk.1, by show k.toInt ≤ 11; omega⟩) h)
          subst e7; subst e8
          refine pm_push (p := 0) (f := 0) ⟨rfl, rfl, rfl⟩ (by decide) (fun σ1 g1 a1 b1 => pm_push g1 (by decide) (fun σ2 g2 a2 b2 => ?_))
          refine pm_by (p := 0) (t := x.toInt64) (b := d.toInt64) g2 (Or.inl rfl) (by decide) (by rw [a2, lup_n (by decide), a1]; exact pk_uLs) (by rw [a2]; exact pk_uLs) (by rw [b2, lup_n (by decide), b1]; exact pk_uLs) (by rw [b2]; exact pk_uLs) (i32_small x) (i32_small d) hd0 (fun q => absurd q (by rintro (r | r); exact absurd r (by decide); exact hLx r)) (fun _ _ σ3 g3 => ?_)
          refine pm_push g3 (by decide) (fun σ4 g4 a4 b4 => pm_push g4 (by decide) (fun σ5 g5 a5 b5 => ?_))
          refine pm_by (p := 1) (t := y.toInt64) (b := d.toInt64) g5 (Or.inl rfl) (by decide) (by rw [a5, lup_n (by decide), a4]; exact pk_uLs) (by rw [a5]; exact pk_uLs) (by rw [b5, lup_n (by decide), b4]; exact pk_uLs) (by rw [b5]; exact pk_uLs) (i32_small y) (i32_small d) hd0 (fun q => absurd q (by rintro (r | r); exact absurd r (by decide); exact hLy r)) (fun _ _ σ6 g6 => ?_)
          refine ⟨fun _ s1 e1 s2 e2 => ⟨fun _ => ⟨fun h => absurd ?_ h, fun _ => rfl⟩, fun h => absurd rfl h⟩, fun h => absurd ?_ h⟩
          · subst e1; subst e2
            exact g6.2.2
          · show σ6.1 54 ≤ (0 : Int32)
            rw [g6.2.1]
            decide
  · refine ⟨-2000000002, p_inside (fun h1 h2 => absurd ⟨h1, h2⟩ hk) (fun _ => ⟨fun _ => rfl, fun h => absurd rfl h⟩), fun s e => ?_⟩
    subst e
    refine p_in32 (fun h1 h2 => absurd ⟨h1, ?_⟩ hk) (fun _ => ⟨fun _ => rfl, fun h => absurd rfl h⟩)
    have e2 : (11 : Int64).toInt = 11 := rfl
    omega
