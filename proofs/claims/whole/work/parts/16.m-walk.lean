/-! yes -/
def wm_yes_10 (post : MS → Int32 → Prop) (σ : MS) (t1 : Int64) : Prop := wm_number (fun (s1 : MS) (r2 : Int32) => post s1 r2) σ t1 (1 : Int64) (0 : Int32)
set_option maxRecDepth 20000 in
theorem km_yes_10 {E : gEnv} {l : Launch} {D : va_G} {cl : List vw_C} {G : gAd} {post : MS → Int32 → Prop} (hE : gOK E cX13_yes RX13 (some .int) 3) (hm : mOK E l D cl G (qI post) 2) (σ : MS) (t1 : Int64) (h : wm_yes_10 post σ t1) : GW E (mW G σ) 10 [] [.long t1, .ref (G.1 0)] := by
  unfold wm_yes_10 at h
  have hN := hm.2.2.2.2.2.2.1
  refine r_lconst (v := (1 : Int64)) hE dX13_yes_10 (by decide) ?_
  refine r_iconst (v := (0 : Int32)) hE dX13_yes_11 (by decide) ?_
  refine m_callVi hE hm [.long t1, .long (1 : Int64), .int (0 : Int32)] [] mc_number (km_number hm.2.2.2.2.2.2.2.2 h) (by decide) rfl rfl (Nat.le_of_ble_eq_true rfl) dX13_yes_12 (fun s1 r2 h => ?_)
  exact m_iret hE hm dX13_yes_15 h
def wm_yes (post : MS → Int32 → Prop) (σ : MS) (a1 : Int32) : Prop := ((a1 = (0 : Int32)) → (wm_yes_10 post σ (0 : Int64))) ∧ ((¬ (a1 = (0 : Int32))) → (wm_yes_10 post σ (1 : Int64)))
set_option maxRecDepth 20000 in
theorem km_yes {l : Launch} {D : va_G} {cl : List vw_C} {G : gAd} {post : MS → Int32 → Prop} (hcl : mC cl) {σ : MS} {a1 : Int32} (h : wm_yes post σ a1) : mMet l D cl G yX13_yes cX13_yes 2 (some .int) 3 [.ref (G.1 0), .int a1] σ (qI post) := by
  unfold wm_yes at h
  refine m_enter hcl (by decide +kernel) rfl [(0, .ref (G.1 0)), (1, .int a1)] rfl (Nat.le_of_ble_eq_true rfl) ?_
  intro E hE hm
  have hN := hm.2.2.2.2.2.2.1
  refine r_aload_n hE 0 dX13_yes_0 rfl rfl ?_
  refine r_iload_n hE 1 dX13_yes_1 rfl rfl ?_
  refine r_if_eq hE 9 dX13_yes_2 (by decide) h (fun h => ?_) (fun h => ?_)
  · refine r_lconst (v := (0 : Int64)) hE dX13_yes_9 (by decide) ?_
    refine r_pick [] rfl ?_
    exact km_yes_10 hE hm _ _ h
  · refine r_lconst (v := (1 : Int64)) hE dX13_yes_5 (by decide) ?_
    refine r_goto hE 10 dX13_yes_6 (by decide) ?_
    refine r_pick [] rfl ?_
    exact km_yes_10 hE hm _ _ h
/-! toolOne -/
def wm_toolOne_52 (post : MS → Int32 → Prop) (σ : MS) (v1 : Int32) (v2 : Int32) : Prop := wm_part (fun (s1 : MS) => wm_told (fun (s2 : MS) (r3 : Int32) => post s2 r3) s1) σ v2 v1
set_option maxRecDepth 20000 in
theorem km_toolOne_52 {E : gEnv} {l : Launch} {D : va_G} {cl : List vw_C} {G : gAd} {post : MS → Int32 → Prop} (hE : gOK E cX13_toolOne RX13 (some .int) 7) (hm : mOK E l D cl G (qI post) 3) (σ : MS) (v1 : Int32) (v2 : Int32) (h : wm_toolOne_52 post σ v1 v2) : GW E (mW G σ) 52 [(0, .ref (G.1 0)), (1, .int v1), (2, .int v2)] [] := by
  unfold wm_toolOne_52 at h
  have hN := hm.2.2.2.2.2.2.1
  refine r_aload_n hE 0 dX13_toolOne_52 rfl rfl ?_
  refine r_iload_n hE 2 dX13_toolOne_53 rfl rfl ?_
  refine r_iload_n hE 1 dX13_toolOne_54 rfl rfl ?_
  refine m_callVv hE hm [.int v2, .int v1] [] mc_part (km_part hm.2.2.2.2.2.2.2.2 h) (by decide) rfl rfl (Nat.le_of_ble_eq_true rfl) dX13_toolOne_55 (fun s1 h => ?_)
  refine r_aload_n hE 0 dX13_toolOne_58 rfl rfl ?_
  refine m_callVi hE hm [] [] mc_told (km_told hm.2.2.2.2.2.2.2.2 h) (by decide) rfl rfl (Nat.le_of_ble_eq_true rfl) dX13_toolOne_59 (fun s2 r3 h => ?_)
  exact m_iret hE hm dX13_toolOne_62 h
def wm_toolOne_140 (post : MS → Int32 → Prop) (σ : MS) (t1 : Int32) : Prop := wm_yes (fun (s4 : MS) (r5 : Int32) => post s4 r5) σ t1
set_option maxRecDepth 20000 in
theorem km_toolOne_140 {E : gEnv} {l : Launch} {D : va_G} {cl : List vw_C} {G : gAd} {post : MS → Int32 → Prop} (hE : gOK E cX13_toolOne RX13 (some .int) 7) (hm : mOK E l D cl G (qI post) 3) (σ : MS) (t1 : Int32) (h : wm_toolOne_140 post σ t1) : GW E (mW G σ) 140 [] [.int t1, .ref (G.1 0)] := by
  unfold wm_toolOne_140 at h
  have hN := hm.2.2.2.2.2.2.1
  refine m_callVi hE hm [.int t1] [] mc_yes (km_yes hm.2.2.2.2.2.2.2.2 h) (by decide) rfl rfl (Nat.le_of_ble_eq_true rfl) dX13_toolOne_140 (fun s4 r5 h => ?_)
  exact m_iret hE hm dX13_toolOne_143 h
def wm_toolOne (post : MS → Int32 → Prop) (σ : MS) (a1 : Int32) (a2 : Int32) : Prop := (a1 = (0 : Int32) → (wm_toolOne_52 post σ a1 a2)) ∧ (¬ a1 = (0 : Int32) → ((a1 = (1 : Int32) → (wm_toolOne_52 post σ a1 a2)) ∧ (¬ a1 = (1 : Int32) → ((a1 = (2 : Int32) → (wm_part (fun (s6 : MS) => wm_negative (fun (s7 : MS) => wm_part (fun (s8 : MS) => wm_by (fun (s9 : MS) => wm_told (fun (s10 : MS) (r11 : Int32) => post s10 r11) s9) s8) s7 a2 (1 : Int32)) s6) σ a2 (0 : Int32))) ∧ (¬ a1 = (2 : Int32) → ((a1 = (3 : Int32) → (wm_centre (fun (s12 : MS) (r13 : Int32) => post s12 r13) σ a2)) ∧ (¬ a1 = (3 : Int32) → ((a1 = (4 : Int32) → (wm_part (fun (s14 : MS) => wm_told (fun (s15 : MS) (r16 : Int32) => post s15 r16) s14) σ a2 (2 : Int32))) ∧ (¬ a1 = (4 : Int32) → ((a1 = (5 : Int32) → (wm_half (fun (s17 : MS) (r18 : Int32) => post s17 r18) σ a2)) ∧ (¬ a1 = (5 : Int32) → ((a1 = (6 : Int32) → (vp_in a2 480 ∧ (vp_in (m_rowOf σ a2.toNatClampNeg) 480 ∧ (wm_number (fun (s19 : MS) (r20 : Int32) => post s19 r20) σ ((m_rowSize σ (m_rowOf σ a2.toNatClampNeg).toNatClampNeg).toInt64) (1 : Int64) (0 : Int32))))) ∧ (¬ a1 = (6 : Int32) → ((a1 = (7 : Int32) → ((((0 : Int32) ≤ a2) → (wm_toolOne_140 post σ (0 : Int32))) ∧ ((¬ ((0 : Int32) ≤ a2)) → (wm_toolOne_140 post σ (1 : Int32))))) ∧ (¬ a1 = (7 : Int32) → ((a1 = (8 : Int32) → (vp_in a2 480 ∧ (wm_number (fun (s21 : MS) (r22 : Int32) => post s21 r22) σ ((m_sort σ a2.toNatClampNeg).toInt64) (1 : Int64) (0 : Int32)))) ∧ (¬ a1 = (8 : Int32) → (wm_newRow (fun (s23 : MS) (r24 : Int32) => post s23 r24) σ (a1 - (9 : Int32)) a2))))))))))))))))))
set_option maxRecDepth 20000 in
theorem km_toolOne {l : Launch} {D : va_G} {cl : List vw_C} {G : gAd} {post : MS → Int32 → Prop} (hcl : mC cl) {σ : MS} {a1 : Int32} {a2 : Int32} (h : wm_toolOne post σ a1 a2) : mMet l D cl G yX13_toolOne cX13_toolOne 3 (some .int) 7 [.ref (G.1 0), .int a1, .int a2] σ (qI post) := by
  unfold wm_toolOne at h
  refine m_enter hcl (by decide +kernel) rfl [(0, .ref (G.1 0)), (1, .int a1), (2, .int a2)] rfl (Nat.le_of_ble_eq_true rfl) ?_
  intro E hE hm
  have hN := hm.2.2.2.2.2.2.1
  refine r_iload_n hE 1 dX13_toolOne_0 rfl rfl ?_
  refine r_case (0 : Int32) h (fun q0 h => ?_) (fun q0 h => ?_)
  · refine r_tableAt (off := 51) hE (0 : Int32) 52 dX13_toolOne_1 q0 (by decide) (by decide) (by decide) (by decide) ?_
    exact km_toolOne_52 hE hm _ _ _ h
  · refine r_case (1 : Int32) h (fun q1 h => ?_) (fun q1 h => ?_)
    · refine r_tableAt (off := 51) hE (1 : Int32) 52 dX13_toolOne_1 q1 (by decide) (by decide) (by decide) (by decide) ?_
      exact km_toolOne_52 hE hm _ _ _ h
    · refine r_case (2 : Int32) h (fun q2 h => ?_) (fun q2 h => ?_)
      · refine r_tableAt (off := 62) hE (2 : Int32) 63 dX13_toolOne_1 q2 (by decide) (by decide) (by decide) (by decide) ?_
        refine r_aload_n hE 0 dX13_toolOne_63 rfl rfl ?_
        refine r_iload_n hE 2 dX13_toolOne_64 rfl rfl ?_
        refine r_iconst (v := (0 : Int32)) hE dX13_toolOne_65 (by decide) ?_
        refine m_callVv hE hm [.int a2, .int (0 : Int32)] [] mc_part (km_part hm.2.2.2.2.2.2.2.2 h) (by decide) rfl rfl (Nat.le_of_ble_eq_true rfl) dX13_toolOne_66 (fun s6 h => ?_)
        refine r_aload_n hE 0 dX13_toolOne_69 rfl rfl ?_
        refine m_callVv hE hm [] [] mc_negative (km_negative hm.2.2.2.2.2.2.2.2 h) (by decide) rfl rfl (Nat.le_of_ble_eq_true rfl) dX13_toolOne_70 (fun s7 h => ?_)
        refine r_aload_n hE 0 dX13_toolOne_73 rfl rfl ?_
        refine r_iload_n hE 2 dX13_toolOne_74 rfl rfl ?_
        refine r_iconst (v := (1 : Int32)) hE dX13_toolOne_75 (by decide) ?_
        refine m_callVv hE hm [.int a2, .int (1 : Int32)] [] mc_part (km_part hm.2.2.2.2.2.2.2.2 h) (by decide) rfl rfl (Nat.le_of_ble_eq_true rfl) dX13_toolOne_76 (fun s8 h => ?_)
        refine r_aload_n hE 0 dX13_toolOne_79 rfl rfl ?_
        refine m_callVv hE hm [] [] mc_by (km_by hm.2.2.2.2.2.2.2.2 h) (by decide) rfl rfl (Nat.le_of_ble_eq_true rfl) dX13_toolOne_80 (fun s9 h => ?_)
        refine r_aload_n hE 0 dX13_toolOne_83 rfl rfl ?_
        refine m_callVi hE hm [] [] mc_told (km_told hm.2.2.2.2.2.2.2.2 h) (by decide) rfl rfl (Nat.le_of_ble_eq_true rfl) dX13_toolOne_84 (fun s10 r11 h => ?_)
        exact m_iret hE hm dX13_toolOne_87 h
      · refine r_case (3 : Int32) h (fun q3 h => ?_) (fun q3 h => ?_)
        · refine r_tableAt (off := 87) hE (3 : Int32) 88 dX13_toolOne_1 q3 (by decide) (by decide) (by decide) (by decide) ?_
          refine r_aload_n hE 0 dX13_toolOne_88 rfl rfl ?_
          refine r_iload_n hE 2 dX13_toolOne_89 rfl rfl ?_
          refine m_callVi hE hm [.int a2] [] mc_centre (km_centre hm.2.2.2.2.2.2.2.2 h) (by decide) rfl rfl (Nat.le_of_ble_eq_true rfl) dX13_toolOne_90 (fun s12 r13 h => ?_)
          exact m_iret hE hm dX13_toolOne_93 h
        · refine r_case (4 : Int32) h (fun q4 h => ?_) (fun q4 h => ?_)
          · refine r_tableAt (off := 93) hE (4 : Int32) 94 dX13_toolOne_1 q4 (by decide) (by decide) (by decide) (by decide) ?_
            refine r_aload_n hE 0 dX13_toolOne_94 rfl rfl ?_
            refine r_iload_n hE 2 dX13_toolOne_95 rfl rfl ?_
            refine r_iconst (v := (2 : Int32)) hE dX13_toolOne_96 (by decide) ?_
            refine m_callVv hE hm [.int a2, .int (2 : Int32)] [] mc_part (km_part hm.2.2.2.2.2.2.2.2 h) (by decide) rfl rfl (Nat.le_of_ble_eq_true rfl) dX13_toolOne_97 (fun s14 h => ?_)
            refine r_aload_n hE 0 dX13_toolOne_100 rfl rfl ?_
            refine m_callVi hE hm [] [] mc_told (km_told hm.2.2.2.2.2.2.2.2 h) (by decide) rfl rfl (Nat.le_of_ble_eq_true rfl) dX13_toolOne_101 (fun s15 r16 h => ?_)
            exact m_iret hE hm dX13_toolOne_104 h
          · refine r_case (5 : Int32) h (fun q5 h => ?_) (fun q5 h => ?_)
            · refine r_tableAt (off := 104) hE (5 : Int32) 105 dX13_toolOne_1 q5 (by decide) (by decide) (by decide) (by decide) ?_
              refine r_aload_n hE 0 dX13_toolOne_105 rfl rfl ?_
              refine r_iload_n hE 2 dX13_toolOne_106 rfl rfl ?_
              refine m_callVi hE hm [.int a2] [] mc_half (km_half hm.2.2.2.2.2.2.2.2 h) (by decide) rfl rfl (Nat.le_of_ble_eq_true rfl) dX13_toolOne_107 (fun s17 r18 h => ?_)
              exact m_iret hE hm dX13_toolOne_110 h
            · refine r_case (6 : Int32) h (fun q6 h => ?_) (fun q6 h => ?_)
              · refine r_tableAt (off := 110) hE (6 : Int32) 111 dX13_toolOne_1 q6 (by decide) (by decide) (by decide) (by decide) ?_
                refine r_aload_n hE 0 dX13_toolOne_111 rfl rfl ?_
                refine r_aload_n hE 0 dX13_toolOne_112 rfl rfl ?_
                refine mg_rowSize hE hm dX13_toolOne_113 ?_
                refine r_aload_n hE 0 dX13_toolOne_116 rfl rfl ?_
                refine mg_rowOf hE hm dX13_toolOne_117 ?_
                refine r_iload_n hE 2 dX13_toolOne_120 rfl rfl ?_
                obtain ⟨hi, h⟩ := h
                refine ml_rowOf hE hm dX13_toolOne_121 hi ?_
                obtain ⟨hi, h⟩ := h
                refine ml_rowSize hE hm dX13_toolOne_122 hi ?_
                refine r_i2l hE dX13_toolOne_123 ?_
                refine r_lconst (v := (1 : Int64)) hE dX13_toolOne_124 (by decide) ?_
                refine r_iconst (v := (0 : Int32)) hE dX13_toolOne_125 (by decide) ?_
                refine m_callVi hE hm [.long ((m_rowSize σ (m_rowOf σ a2.toNatClampNeg).toNatClampNeg).toInt64), .long (1 : Int64), .int (0 : Int32)] [] mc_number (km_number hm.2.2.2.2.2.2.2.2 h) (by decide) rfl rfl (Nat.le_of_ble_eq_true rfl) dX13_toolOne_126 (fun s19 r20 h => ?_)
                exact m_iret hE hm dX13_toolOne_129 h
              · refine r_case (7 : Int32) h (fun q7 h => ?_) (fun q7 h => ?_)
                · refine r_tableAt (off := 129) hE (7 : Int32) 130 dX13_toolOne_1 q7 (by decide) (by decide) (by decide) (by decide) ?_
                  refine r_aload_n hE 0 dX13_toolOne_130 rfl rfl ?_
                  refine r_iload_n hE 2 dX13_toolOne_131 rfl rfl ?_
                  refine r_if_ge hE 139 dX13_toolOne_132 (by decide) h (fun h => ?_) (fun h => ?_)
                  · refine r_iconst (v := (0 : Int32)) hE dX13_toolOne_139 (by decide) ?_
                    refine r_pick [] rfl ?_
                    exact km_toolOne_140 hE hm _ _ h
                  · refine r_iconst (v := (1 : Int32)) hE dX13_toolOne_135 (by decide) ?_
                    refine r_goto hE 140 dX13_toolOne_136 (by decide) ?_
                    refine r_pick [] rfl ?_
                    exact km_toolOne_140 hE hm _ _ h
                · refine r_case (8 : Int32) h (fun q8 h => ?_) (fun q8 h => ?_)
                  · refine r_tableAt (off := 143) hE (8 : Int32) 144 dX13_toolOne_1 q8 (by decide) (by decide) (by decide) (by decide) ?_
                    refine r_aload_n hE 0 dX13_toolOne_144 rfl rfl ?_
                    refine r_aload_n hE 0 dX13_toolOne_145 rfl rfl ?_
                    refine mg_sort hE hm dX13_toolOne_146 ?_
                    refine r_iload_n hE 2 dX13_toolOne_149 rfl rfl ?_
                    obtain ⟨hi, h⟩ := h
                    refine ml_sort hE hm dX13_toolOne_150 hi ?_
                    refine r_i2l hE dX13_toolOne_151 ?_
                    refine r_lconst (v := (1 : Int64)) hE dX13_toolOne_152 (by decide) ?_
                    refine r_iconst (v := (0 : Int32)) hE dX13_toolOne_153 (by decide) ?_
                    refine m_callVi hE hm [.long ((m_sort σ a2.toNatClampNeg).toInt64), .long (1 : Int64), .int (0 : Int32)] [] mc_number (km_number hm.2.2.2.2.2.2.2.2 h) (by decide) rfl rfl (Nat.le_of_ble_eq_true rfl) dX13_toolOne_154 (fun s21 r22 h => ?_)
                    exact m_iret hE hm dX13_toolOne_157 h
                  · have n0 := lv_neT q0 (show (0 : Int32).toInt = 0 by decide)
                    have n1 := lv_neT q1 (show (1 : Int32).toInt = 1 by decide)
                    have n2 := lv_neT q2 (show (2 : Int32).toInt = 2 by decide)
                    have n3 := lv_neT q3 (show (3 : Int32).toInt = 3 by decide)
                    have n4 := lv_neT q4 (show (4 : Int32).toInt = 4 by decide)
                    have n5 := lv_neT q5 (show (5 : Int32).toInt = 5 by decide)
                    have n6 := lv_neT q6 (show (6 : Int32).toInt = 6 by decide)
                    have n7 := lv_neT q7 (show (7 : Int32).toInt = 7 by decide)
                    have n8 := lv_neT q8 (show (8 : Int32).toInt = 8 by decide)
                    refine r_tableOut hE 158 dX13_toolOne_1 (by omega) (by decide) ?_
                    refine r_aload_n hE 0 dX13_toolOne_158 rfl rfl ?_
                    refine r_iload_n hE 1 dX13_toolOne_159 rfl rfl ?_
                    refine r_bipush (v := (9 : Int32)) hE dX13_toolOne_160 (by decide) ?_
                    refine r_isub hE dX13_toolOne_162 ?_
                    refine r_iload_n hE 2 dX13_toolOne_163 rfl rfl ?_
                    refine m_callVi hE hm [.int (a1 - (9 : Int32)), .int a2] [] mc_newRow (km_newRow hm.2.2.2.2.2.2.2.2 h) (by decide) rfl rfl (Nat.le_of_ble_eq_true rfl) dX13_toolOne_164 (fun s23 r24 h => ?_)
                    exact m_iret hE hm dX13_toolOne_167 h
/-! toolThree -/
def wm_toolThree_110 (post : MS → Int32 → Prop) (σ : MS) (v2 : Int32) : Prop := wm_fail (fun (s1 : MS) => post s1 v2) σ (3 : Int32)
set_option maxRecDepth 20000 in
theorem km_toolThree_110 {E : gEnv} {l : Launch} {D : va_G} {cl : List vw_C} {G : gAd} {post : MS → Int32 → Prop} (hE : gOK E cX13_toolThree RX13 (some .int) 8) (hm : mOK E l D cl G (qI post) 5) (σ : MS) (v2 : Int32) (h : wm_toolThree_110 post σ v2) : GW E (mW G σ) 110 [(0, .ref (G.1 0)), (2, .int v2)] [] := by
  unfold wm_toolThree_110 at h
  have hN := hm.2.2.2.2.2.2.1
  refine r_aload_n hE 0 dX13_toolThree_110 rfl rfl ?_
  refine r_iconst (v := (3 : Int32)) hE dX13_toolThree_111 (by decide) ?_
  refine m_callVv hE hm [.int (3 : Int32)] [] mc_fail (km_fail hm.2.2.2.2.2.2.2.2 h) (by decide) rfl rfl (Nat.le_of_ble_eq_true rfl) dX13_toolThree_112 (fun s1 h => ?_)
  refine r_iload_n hE 1 dX13_toolThree_115 rfl rfl ?_
  exact m_iret hE hm dX13_toolThree_116 h
def wm_toolThree (post : MS → Int32 → Prop) (σ : MS) (a1 : Int32) (a2 : Int32) (a3 : Int32) (a4 : Int32) : Prop := (a1 = (0 : Int32) → (vp_in ((7 : Int32) * a4) 3360 ∧ (vp_in ((7 : Int32) * a4) 3360 ∧ (wm_scale (fun (s2 : MS) (r3 : Int32) => post s2 r3) σ a2 a3 (m_up σ ((7 : Int32) * a4).toNatClampNeg) (m_low σ ((7 : Int32) * a4).toNatClampNeg))))) ∧ (¬ a1 = (0 : Int32) → ((a1 = (1 : Int32) → (wm_ring (fun (s4 : MS) (r5 : Int32) => post s4 r5) σ a2 a3 a4)) ∧ (¬ a1 = (1 : Int32) → ((a1 = (2 : Int32) → (wm_area (fun (s6 : MS) => wm_told (fun (s7 : MS) (r8 : Int32) => post s7 r8) s6) σ a2 a3 a4)) ∧ (¬ a1 = (2 : Int32) → (vp_in ((7 : Int32) * a4) 3360 ∧ (((¬ ((lg_cmp (m_low σ ((7 : Int32) * a4).toNatClampNeg) (1 : Int64)) = (0 : Int32))) → (wm_toolThree_110 post σ a2)) ∧ (((lg_cmp (m_low σ ((7 : Int32) * a4).toNatClampNeg) (1 : Int64)) = (0 : Int32)) → (vp_in ((7 : Int32) * a4) 3360 ∧ (wm_in (fun (s9 : MS) (r10 : Int32) => ((¬ (r10 = (0 : Int32))) → (vp_in ((7 : Int32) * a4) 3360 ∧ (wm_cut_ (fun (s11 : MS) (r12 : Int32) => post s11 r12) s9 a2 a3 (m_up s9 ((7 : Int32) * a4).toNatClampNeg)))) ∧ ((r10 = (0 : Int32)) → (wm_toolThree_110 post s9 a2))) σ (m_up σ ((7 : Int32) * a4).toNatClampNeg) (0 : Int64) (1 : Int64)))))))))))
set_option maxRecDepth 20000 in
theorem km_toolThree {l : Launch} {D : va_G} {cl : List vw_C} {G : gAd} {post : MS → Int32 → Prop} (hcl : mC cl) {σ : MS} {a1 : Int32} {a2 : Int32} {a3 : Int32} {a4 : Int32} (h : wm_toolThree post σ a1 a2 a3 a4) : mMet l D cl G yX13_toolThree cX13_toolThree 5 (some .int) 8 [.ref (G.1 0), .int a1, .int a2, .int a3, .int a4] σ (qI post) := by
  unfold wm_toolThree at h
  refine m_enter hcl (by decide +kernel) rfl [(0, .ref (G.1 0)), (1, .int a1), (2, .int a2), (3, .int a3), (4, .int a4)] rfl (Nat.le_of_ble_eq_true rfl) ?_
  intro E hE hm
  have hN := hm.2.2.2.2.2.2.1
  refine r_iload_n hE 1 dX13_toolThree_0 rfl rfl ?_
  refine r_case (0 : Int32) h (fun q0 h => ?_) (fun q0 h => ?_)
  · refine r_tableAt (off := 27) hE (0 : Int32) 28 dX13_toolThree_1 q0 (by decide) (by decide) (by decide) (by decide) ?_
    refine r_aload_n hE 0 dX13_toolThree_28 rfl rfl ?_
    refine r_iload_n hE 2 dX13_toolThree_29 rfl rfl ?_
    refine r_iload_n hE 3 dX13_toolThree_30 rfl rfl ?_
    refine r_aload_n hE 0 dX13_toolThree_31 rfl rfl ?_
    refine mg_up hE hm dX13_toolThree_32 ?_
    refine r_bipush (v := (7 : Int32)) hE dX13_toolThree_35 (by decide) ?_
    refine r_iload hE 4 dX13_toolThree_37 rfl ?_
    refine r_imul hE dX13_toolThree_39 ?_
    obtain ⟨hi, h⟩ := h
    refine ml_up hE hm dX13_toolThree_40 hi ?_
    refine r_aload_n hE 0 dX13_toolThree_41 rfl rfl ?_
    refine mg_low hE hm dX13_toolThree_42 ?_
    refine r_bipush (v := (7 : Int32)) hE dX13_toolThree_45 (by decide) ?_
    refine r_iload hE 4 dX13_toolThree_47 rfl ?_
    refine r_imul hE dX13_toolThree_49 ?_
    obtain ⟨hi, h⟩ := h
    refine ml_low hE hm dX13_toolThree_50 hi ?_
    refine m_callVi hE hm [.int a2, .int a3, .long (m_up σ ((7 : Int32) * a4).toNatClampNeg), .long (m_low σ ((7 : Int32) * a4).toNatClampNeg)] [] mc_scale (km_scale hm.2.2.2.2.2.2.2.2 h) (by decide) rfl rfl (Nat.le_of_ble_eq_true rfl) dX13_toolThree_51 (fun s2 r3 h => ?_)
    exact m_iret hE hm dX13_toolThree_54 h
  · refine r_case (1 : Int32) h (fun q1 h => ?_) (fun q1 h => ?_)
    · refine r_tableAt (off := 54) hE (1 : Int32) 55 dX13_toolThree_1 q1 (by decide) (by decide) (by decide) (by decide) ?_
      refine r_aload_n hE 0 dX13_toolThree_55 rfl rfl ?_
      refine r_iload_n hE 2 dX13_toolThree_56 rfl rfl ?_
      refine r_iload_n hE 3 dX13_toolThree_57 rfl rfl ?_
      refine r_iload hE 4 dX13_toolThree_58 rfl ?_
      refine m_callVi hE hm [.int a2, .int a3, .int a4] [] mc_ring (km_ring hm.2.2.2.2.2.2.2.2 h) (by decide) rfl rfl (Nat.le_of_ble_eq_true rfl) dX13_toolThree_60 (fun s4 r5 h => ?_)
      exact m_iret hE hm dX13_toolThree_63 h
    · refine r_case (2 : Int32) h (fun q2 h => ?_) (fun q2 h => ?_)
      · refine r_tableAt (off := 63) hE (2 : Int32) 64 dX13_toolThree_1 q2 (by decide) (by decide) (by decide) (by decide) ?_
        refine r_aload_n hE 0 dX13_toolThree_64 rfl rfl ?_
        refine r_iload_n hE 2 dX13_toolThree_65 rfl rfl ?_
        refine r_iload_n hE 3 dX13_toolThree_66 rfl rfl ?_
        refine r_iload hE 4 dX13_toolThree_67 rfl ?_
        refine m_callVv hE hm [.int a2, .int a3, .int a4] [] mc_area (km_area hm.2.2.2.2.2.2.2.2 h) (by decide) rfl rfl (Nat.le_of_ble_eq_true rfl) dX13_toolThree_69 (fun s6 h => ?_)
        refine r_aload_n hE 0 dX13_toolThree_72 rfl rfl ?_
        refine m_callVi hE hm [] [] mc_told (km_told hm.2.2.2.2.2.2.2.2 h) (by decide) rfl rfl (Nat.le_of_ble_eq_true rfl) dX13_toolThree_73 (fun s7 r8 h => ?_)
        exact m_iret hE hm dX13_toolThree_76 h
      · have n0 := lv_neT q0 (show (0 : Int32).toInt = 0 by decide)
        have n1 := lv_neT q1 (show (1 : Int32).toInt = 1 by decide)
        have n2 := lv_neT q2 (show (2 : Int32).toInt = 2 by decide)
        refine r_tableOut hE 77 dX13_toolThree_1 (by omega) (by decide) ?_
        refine r_aload_n hE 0 dX13_toolThree_77 rfl rfl ?_
        refine mg_low hE hm dX13_toolThree_78 ?_
        refine r_bipush (v := (7 : Int32)) hE dX13_toolThree_81 (by decide) ?_
        refine r_iload hE 4 dX13_toolThree_83 rfl ?_
        refine r_imul hE dX13_toolThree_85 ?_
        obtain ⟨hi, h⟩ := h
        refine ml_low hE hm dX13_toolThree_86 hi ?_
        refine r_lconst (v := (1 : Int64)) hE dX13_toolThree_87 (by decide) ?_
        refine r_lcmp hE dX13_toolThree_88 ?_
        refine r_if_ne hE 110 dX13_toolThree_89 (by decide) h (fun h => ?_) (fun h => ?_)
        · refine r_pick [0, 2] rfl ?_
          exact km_toolThree_110 hE hm _ _ h
        · refine r_aload_n hE 0 dX13_toolThree_92 rfl rfl ?_
          refine mg_up hE hm dX13_toolThree_93 ?_
          refine r_bipush (v := (7 : Int32)) hE dX13_toolThree_96 (by decide) ?_
          refine r_iload hE 4 dX13_toolThree_98 rfl ?_
          refine r_imul hE dX13_toolThree_100 ?_
          obtain ⟨hi, h⟩ := h
          refine ml_up hE hm dX13_toolThree_101 hi ?_
          refine r_lconst (v := (0 : Int64)) hE dX13_toolThree_102 (by decide) ?_
          refine r_lconst (v := (1 : Int64)) hE dX13_toolThree_103 (by decide) ?_
          refine m_callSi hE hm [.long (m_up σ ((7 : Int32) * a4).toNatClampNeg), .long (0 : Int64), .long (1 : Int64)] [] mc_in (km_in hm.2.2.2.2.2.2.2.2 h) (by decide) rfl rfl (Nat.le_of_ble_eq_true rfl) dX13_toolThree_104 (fun s9 r10 h => ?_)
          refine r_if_ne hE 117 dX13_toolThree_107 (by decide) h (fun h => ?_) (fun h => ?_)
          · refine r_aload_n hE 0 dX13_toolThree_117 rfl rfl ?_
            refine r_iload_n hE 2 dX13_toolThree_118 rfl rfl ?_
            refine r_iload_n hE 3 dX13_toolThree_119 rfl rfl ?_
            refine r_aload_n hE 0 dX13_toolThree_120 rfl rfl ?_
            refine mg_up hE hm dX13_toolThree_121 ?_
            refine r_bipush (v := (7 : Int32)) hE dX13_toolThree_124 (by decide) ?_
            refine r_iload hE 4 dX13_toolThree_126 rfl ?_
            refine r_imul hE dX13_toolThree_128 ?_
            obtain ⟨hi, h⟩ := h
            refine ml_up hE hm dX13_toolThree_129 hi ?_
            refine m_callVi hE hm [.int a2, .int a3, .long (m_up s9 ((7 : Int32) * a4).toNatClampNeg)] [] mc_cut_ (km_cut_ hm.2.2.2.2.2.2.2.2 h) (by decide) rfl rfl (Nat.le_of_ble_eq_true rfl) dX13_toolThree_130 (fun s11 r12 h => ?_)
            exact m_iret hE hm dX13_toolThree_133 h
          · refine r_pick [0, 2] rfl ?_
            exact km_toolThree_110 hE hm _ _ h
/-! newPoint -/
def wm_newPoint (post : MS → Int32 → Prop) (σ : MS) (a1 : Int32) (a2 : Int32) (a3 : Int32) : Prop := wm_newThing (fun (s1 : MS) (r2 : Int32) => wm_part (fun (s3 : MS) => wm_keep (fun (s4 : MS) => wm_part (fun (s5 : MS) => wm_keep (fun (s6 : MS) => post s6 r2) s5 r2 (1 : Int32)) s4 a3 (0 : Int32)) s3 r2 (0 : Int32)) s1 a2 (0 : Int32)) σ a1
set_option maxRecDepth 20000 in
theorem km_newPoint {l : Launch} {D : va_G} {cl : List vw_C} {G : gAd} {post : MS → Int32 → Prop} (hcl : mC cl) {σ : MS} {a1 : Int32} {a2 : Int32} {a3 : Int32} (h : wm_newPoint post σ a1 a2 a3) : mMet l D cl G yX13_newPoint cX13_newPoint 5 (some .int) 3 [.ref (G.1 0), .int a1, .int a2, .int a3] σ (qI post) := by
  unfold wm_newPoint at h
  refine m_enter hcl (by decide +kernel) rfl [(0, .ref (G.1 0)), (1, .int a1), (2, .int a2), (3, .int a3)] rfl (Nat.le_of_ble_eq_true rfl) ?_
  intro E hE hm
  have hN := hm.2.2.2.2.2.2.1
  refine r_aload_n hE 0 dX13_newPoint_0 rfl rfl ?_
  refine r_iload_n hE 1 dX13_newPoint_1 rfl rfl ?_
  refine m_callVi hE hm [.int a1] [] mc_newThing (km_newThing hm.2.2.2.2.2.2.2.2 h) (by decide) rfl rfl (Nat.le_of_ble_eq_true rfl) dX13_newPoint_2 (fun s1 r2 h => ?_)
  refine r_istore hE [(4, .int r2), (0, .ref (G.1 0)), (1, .int a1), (2, .int a2), (3, .int a3)] dX13_newPoint_5 hN (by decide) rfl ?_
  refine r_aload_n hE 1 dX13_newPoint_7 rfl rfl ?_
  refine r_iload_n hE 3 dX13_newPoint_8 rfl rfl ?_
  refine r_iconst (v := (0 : Int32)) hE dX13_newPoint_9 (by decide) ?_
  refine m_callVv hE hm [.int a2, .int (0 : Int32)] [] mc_part (km_part hm.2.2.2.2.2.2.2.2 h) (by decide) rfl rfl (Nat.le_of_ble_eq_true rfl) dX13_newPoint_10 (fun s3 h => ?_)
  refine r_aload_n hE 1 dX13_newPoint_13 rfl rfl ?_
  refine r_iload hE 0 dX13_newPoint_14 rfl ?_
  refine r_iconst (v := (0 : Int32)) hE dX13_newPoint_16 (by decide) ?_
  refine m_callVv hE hm [.int r2, .int (0 : Int32)] [] mc_keep (km_keep hm.2.2.2.2.2.2.2.2 h) (by decide) rfl rfl (Nat.le_of_ble_eq_true rfl) dX13_newPoint_17 (fun s4 h => ?_)
  refine r_aload_n hE 1 dX13_newPoint_20 rfl rfl ?_
  refine r_iload_n hE 4 dX13_newPoint_21 rfl rfl ?_
  refine r_iconst (v := (0 : Int32)) hE dX13_newPoint_22 (by decide) ?_
  refine m_callVv hE hm [.int a3, .int (0 : Int32)] [] mc_part (km_part hm.2.2.2.2.2.2.2.2 h) (by decide) rfl rfl (Nat.le_of_ble_eq_true rfl) dX13_newPoint_23 (fun s5 h => ?_)
  refine r_aload_n hE 1 dX13_newPoint_26 rfl rfl ?_
  refine r_iload hE 0 dX13_newPoint_27 rfl ?_
  refine r_iconst (v := (1 : Int32)) hE dX13_newPoint_29 (by decide) ?_
  refine m_callVv hE hm [.int r2, .int (1 : Int32)] [] mc_keep (km_keep hm.2.2.2.2.2.2.2.2 h) (by decide) rfl rfl (Nat.le_of_ble_eq_true rfl) dX13_newPoint_30 (fun s6 h => ?_)
  refine r_iload hE 0 dX13_newPoint_33 rfl ?_
  exact m_iret hE hm dX13_newPoint_35 h
/-! newFree -/
def wm_newFree_91 (post : MS → Int32 → Prop) (σ : MS) (v3 : Int32) : Prop := ∀ s1 : MS, s1 = m_frees_s σ ((m_frees σ) + (1 : Int32)) → post s1 v3
set_option maxRecDepth 20000 in
theorem km_newFree_91 {E : gEnv} {l : Launch} {D : va_G} {cl : List vw_C} {G : gAd} {post : MS → Int32 → Prop} (hE : gOK E cX13_newFree RX13 (some .int) 4) (hm : mOK E l D cl G (qI post) 5) (σ : MS) (v3 : Int32) (h : wm_newFree_91 post σ v3) : GW E (mW G σ) 91 [(0, .ref (G.1 0)), (3, .int v3)] [] := by
  unfold wm_newFree_91 at h
  have hN := hm.2.2.2.2.2.2.1
  refine r_aload_n hE 0 dX13_newFree_91 rfl rfl ?_
  refine r_dup hE dX13_newFree_92 rfl ?_
  refine mg_frees hE hm dX13_newFree_93 ?_
  refine r_iconst (v := (1 : Int32)) hE dX13_newFree_96 (by decide) ?_
  refine r_iadd hE dX13_newFree_97 ?_
  refine mp_frees hE hm dX13_newFree_98 h (fun s1 h => ?_)
  refine r_iload_n hE 1 dX13_newFree_101 rfl rfl ?_
  exact m_iret hE hm dX13_newFree_102 h
def wm_newFree_28 (post : MS → Int32 → Prop) : Nat → MS → Int32 → Int32 → Prop
  | 0, _, _, _ => False
  | n + 1, σ, v3, v4 => (((2 : Int32) ≤ v4) → (wm_newFree_91 post σ v3)) ∧ ((¬ ((2 : Int32) ≤ v4)) → (vp_in (m_frees σ) 12 ∧ ((((m_isMoved σ (m_frees σ).toNatClampNeg) = (0 : Int32)) → (wm_newFree_91 post σ v3)) ∧ ((¬ ((m_isMoved σ (m_frees σ).toNatClampNeg) = (0 : Int32))) → (vp_in (((2 : Int32) * (m_frees σ)) + v4) 24 ∧ (vp_in (((2 : Int32) * (m_frees σ)) + v4) 24 ∧ (wm_push (fun (s2 : MS) => wm_keep (fun (s3 : MS) => ∀ x4 : Int32, x4 = v4 + (1 : Int32) → wm_newFree_28 post n s3 v3 x4) s2 v3 v4) σ (m_movedTop σ (((2 : Int32) * (m_frees σ)) + v4).toNatClampNeg) (m_movedBottom σ (((2 : Int32) * (m_frees σ)) + v4).toNatClampNeg))))))))
set_option maxRecDepth 20000 in
theorem km_newFree_28 {E : gEnv} {l : Launch} {D : va_G} {cl : List vw_C} {G : gAd} {post : MS → Int32 → Prop} (hE : gOK E cX13_newFree RX13 (some .int) 4) (hm : mOK E l D cl G (qI post) 5) : ∀ (n : Nat) (σ : MS) (v3 : Int32) (v4 : Int32), wm_newFree_28 post n σ v3 v4 → GW E (mW G σ) 28 [(0, .ref (G.1 0)), (3, .int v3), (4, .int v4)] [] := by
  intro n
  induction n with
  | zero => intro σ v3 v4 h; exact h.elim
  | succ n ih =>
    intro σ v3 v4 h
    rw [wm_newFree_28] at h
    have hN := hm.2.2.2.2.2.2.1
    refine r_iload hE 2 dX13_newFree_28 rfl ?_
    refine r_iconst (v := (2 : Int32)) hE dX13_newFree_30 (by decide) ?_
    refine r_icmp_ge hE 91 dX13_newFree_31 (by decide) h (fun h => ?_) (fun h => ?_)
    · refine r_pick [0, 1] rfl ?_
      exact km_newFree_91 hE hm _ _ h
    · refine r_aload_n hE 0 dX13_newFree_34 rfl rfl ?_
      refine mg_isMoved hE hm dX13_newFree_35 ?_
      refine r_aload_n hE 0 dX13_newFree_38 rfl rfl ?_
      refine mg_frees hE hm dX13_newFree_39 ?_
      obtain ⟨hi, h⟩ := h
      refine ml_isMoved hE hm dX13_newFree_42 hi ?_
      refine r_if_eq hE 91 dX13_newFree_43 (by decide) h (fun h => ?_) (fun h => ?_)
      · refine r_pick [0, 1] rfl ?_
        exact km_newFree_91 hE hm _ _ h
      · refine r_aload_n hE 0 dX13_newFree_46 rfl rfl ?_
        refine r_aload_n hE 0 dX13_newFree_47 rfl rfl ?_
        refine mg_movedTop hE hm dX13_newFree_48 ?_
        refine r_iconst (v := (2 : Int32)) hE dX13_newFree_51 (by decide) ?_
        refine r_aload_n hE 0 dX13_newFree_52 rfl rfl ?_
        refine mg_frees hE hm dX13_newFree_53 ?_
        refine r_imul hE dX13_newFree_56 ?_
        refine r_iload hE 2 dX13_newFree_57 rfl ?_
        refine r_iadd hE dX13_newFree_59 ?_
        obtain ⟨hi, h⟩ := h
        refine ml_movedTop hE hm dX13_newFree_60 hi ?_
        refine r_aload_n hE 0 dX13_newFree_61 rfl rfl ?_
        refine mg_movedBottom hE hm dX13_newFree_62 ?_
        refine r_iconst (v := (2 : Int32)) hE dX13_newFree_65 (by decide) ?_
        refine r_aload_n hE 0 dX13_newFree_66 rfl rfl ?_
        refine mg_frees hE hm dX13_newFree_67 ?_
        refine r_imul hE dX13_newFree_70 ?_
        refine r_iload hE 2 dX13_newFree_71 rfl ?_
        refine r_iadd hE dX13_newFree_73 ?_
        obtain ⟨hi, h⟩ := h
        refine ml_movedBottom hE hm dX13_newFree_74 hi ?_
        refine m_callVv hE hm [.long (m_movedTop σ (((2 : Int32) * (m_frees σ)) + v4).toNatClampNeg), .long (m_movedBottom σ (((2 : Int32) * (m_frees σ)) + v4).toNatClampNeg)] [] mc_push (km_push hm.2.2.2.2.2.2.2.2 h) (by decide) rfl rfl (Nat.le_of_ble_eq_true rfl) dX13_newFree_75 (fun s2 h => ?_)
        refine r_aload_n hE 0 dX13_newFree_78 rfl rfl ?_
        refine r_iload_n hE 1 dX13_newFree_79 rfl rfl ?_
        refine r_iload hE 2 dX13_newFree_80 rfl ?_
        refine m_callVv hE hm [.int v3, .int v4] [] mc_keep (km_keep hm.2.2.2.2.2.2.2.2 h) (by decide) rfl rfl (Nat.le_of_ble_eq_true rfl) dX13_newFree_82 (fun s3 h => ?_)
        obtain ⟨x4, ex4⟩ : ∃ z : Int32, z = v4 + (1 : Int32) := ⟨_, rfl⟩
        have h := h x4 ex4
        refine r_iinc (v := x4) hE [(4, .int x4), (0, .ref (G.1 0)), (3, .int v3)] 2 dX13_newFree_85 rfl (by rw [ex4]; rfl) hN (by decide) rfl ?_
        refine r_goto hE 28 dX13_newFree_88 (by decide) ?_
        refine r_pick [1, 2, 0] rfl ?_
        exact ih _ _ _ h
def wm_newFree (post : MS → Int32 → Prop) (σ : MS) (a1 : Int32) (a2 : Int32) : Prop := ((¬ ((m_frees σ) = (12 : Int32))) → (wm_newPoint (fun (s5 : MS) (r6 : Int32) => ∃ k : Nat, wm_newFree_28 post k s5 r6 (0 : Int32)) σ (2 : Int32) a1 a2)) ∧ (((m_frees σ) = (12 : Int32)) → (wm_fail (fun (s7 : MS) => post s7 a1) σ (9 : Int32)))
set_option maxRecDepth 20000 in
theorem km_newFree {l : Launch} {D : va_G} {cl : List vw_C} {G : gAd} {post : MS → Int32 → Prop} (hcl : mC cl) {σ : MS} {a1 : Int32} {a2 : Int32} (h : wm_newFree post σ a1 a2) : mMet l D cl G yX13_newFree cX13_newFree 5 (some .int) 4 [.ref (G.1 0), .int a1, .int a2] σ (qI post) := by
  unfold wm_newFree at h
  refine m_enter hcl (by decide +kernel) rfl [(0, .ref (G.1 0)), (1, .int a1), (2, .int a2)] rfl (Nat.le_of_ble_eq_true rfl) ?_
  intro E hE hm
  have hN := hm.2.2.2.2.2.2.1
  refine r_aload_n hE 0 dX13_newFree_0 rfl rfl ?_
  refine mg_frees hE hm dX13_newFree_1 ?_
  refine r_bipush (v := (12 : Int32)) hE dX13_newFree_4 (by decide) ?_
  refine r_icmp_ne hE 17 dX13_newFree_6 (by decide) h (fun h => ?_) (fun h => ?_)
  · refine r_aload_n hE 0 dX13_newFree_17 rfl rfl ?_
    refine r_iconst (v := (2 : Int32)) hE dX13_newFree_18 (by decide) ?_
    refine r_iload_n hE 1 dX13_newFree_19 rfl rfl ?_
    refine r_iload_n hE 2 dX13_newFree_20 rfl rfl ?_
    refine m_callVi hE hm [.int (2 : Int32), .int a1, .int a2] [] mc_newPoint (km_newPoint hm.2.2.2.2.2.2.2.2 h) (by decide) rfl rfl (Nat.le_of_ble_eq_true rfl) dX13_newFree_21 (fun s5 r6 h => ?_)
    refine r_istore_n hE [(3, .int r6), (0, .ref (G.1 0)), (1, .int a1), (2, .int a2)] dX13_newFree_24 rfl hN (by decide) rfl ?_
    refine r_iconst (v := (0 : Int32)) hE dX13_newFree_25 (by decide) ?_
    refine r_istore hE [(4, .int (0 : Int32)), (3, .int r6), (0, .ref (G.1 0)), (1, .int a1), (2, .int a2)] dX13_newFree_26 hN (by decide) rfl ?_
    refine r_pick [2, 1, 0] rfl ?_
    obtain ⟨k, h⟩ := h
    exact km_newFree_28 hE hm k _ _ _ h
  · refine r_aload_n hE 0 dX13_newFree_9 rfl rfl ?_
    refine r_bipush (v := (9 : Int32)) hE dX13_newFree_10 (by decide) ?_
    refine m_callVv hE hm [.int (9 : Int32)] [] mc_fail (km_fail hm.2.2.2.2.2.2.2.2 h) (by decide) rfl rfl (Nat.le_of_ble_eq_true rfl) dX13_newFree_12 (fun s7 h => ?_)
    refine r_iload_n hE 1 dX13_newFree_15 rfl rfl ?_
    exact m_iret hE hm dX13_newFree_16 h
/-! areLike -/
def wm_areLike_28 (post : MS → Int32 → Prop) (σ : MS) (v1 : Int32) (v2 : Int32) (v3 : Int32) (v4 : Int32) : Prop := ((¬ (v3 = v4)) → (post σ (0 : Int32))) ∧ ((v3 = v4) → (vp_in v1 480 ∧ (vp_in v2 480 ∧ (((¬ ((m_rowOf σ v1.toNatClampNeg) = (m_rowOf σ v2.toNatClampNeg))) → (post σ (0 : Int32))) ∧ (((m_rowOf σ v1.toNatClampNeg) = (m_rowOf σ v2.toNatClampNeg)) → (post σ (1 : Int32)))))))
set_option maxRecDepth 20000 in
theorem km_areLike_28 {E : gEnv} {l : Launch} {D : va_G} {cl : List vw_C} {G : gAd} {post : MS → Int32 → Prop} (hE : gOK E cX13_areLike RX13 (some .boolean) 2) (hm : mOK E l D cl G (qI post) 8) (σ : MS) (v1 : Int32) (v2 : Int32) (v3 : Int32) (v4 : Int32) (h : wm_areLike_28 post σ v1 v2 v3 v4) : GW E (mW G σ) 28 [(0, .ref (G.1 0)), (1, .int v1), (2, .int v2), (3, .int v3), (4, .int v4)] [] := by
  unfold wm_areLike_28 at h
  have hN := hm.2.2.2.2.2.2.1
  refine r_iload_n hE 3 dX13_areLike_28 rfl rfl ?_
  refine r_iload hE 4 dX13_areLike_29 rfl ?_
  refine r_icmp_ne hE 53 dX13_areLike_31 (by decide) h (fun h => ?_) (fun h => ?_)
  · refine r_iconst (v := (0 : Int32)) hE dX13_areLike_53 (by decide) ?_
    exact m_zret hE hm dX13_areLike_54 (Or.inl rfl) h
  · refine r_aload_n hE 0 dX13_areLike_34 rfl rfl ?_
    refine mg_rowOf hE hm dX13_areLike_35 ?_
    refine r_iload_n hE 1 dX13_areLike_38 rfl rfl ?_
    obtain ⟨hi, h⟩ := h
    refine ml_rowOf hE hm dX13_areLike_39 hi ?_
    refine r_aload_n hE 0 dX13_areLike_40 rfl rfl ?_
    refine mg_rowOf hE hm dX13_areLike_41 ?_
    refine r_iload_n hE 2 dX13_areLike_44 rfl rfl ?_
    obtain ⟨hi, h⟩ := h
    refine ml_rowOf hE hm dX13_areLike_45 hi ?_
    refine r_icmp_ne hE 53 dX13_areLike_46 (by decide) h (fun h => ?_) (fun h => ?_)
    · refine r_iconst (v := (0 : Int32)) hE dX13_areLike_53 (by decide) ?_
      exact m_zret hE hm dX13_areLike_54 (Or.inl rfl) h
    · refine r_iconst (v := (1 : Int32)) hE dX13_areLike_49 (by decide) ?_
      refine r_goto hE 54 dX13_areLike_50 (by decide) ?_
      exact m_zret hE hm dX13_areLike_54 (Or.inr rfl) h
def wm_areLike_196 (post : MS → Int32 → Prop) (lp123 : MS → Int32 → Int32 → Int32 → Int32 → Int32 → Prop) (σ : MS) (v1 : Int32) (v2 : Int32) (v6 : Int32) (v7 : Int32) (t0 : Int32) : Prop := ∀ x1 : Int32, x1 = v7 + (1 : Int32) → lp123 σ v1 v2 t0 v6 x1
set_option maxRecDepth 20000 in
theorem km_areLike_196 {E : gEnv} {l : Launch} {D : va_G} {cl : List vw_C} {G : gAd} {post : MS → Int32 → Prop} (hE : gOK E cX13_areLike RX13 (some .boolean) 2) (hm : mOK E l D cl G (qI post) 8) {lp123 : MS → Int32 → Int32 → Int32 → Int32 → Int32 → Prop} (hl123 : ∀ (σ : MS) (v1 : Int32) (v2 : Int32) (v5 : Int32) (v6 : Int32) (v7 : Int32), lp123 σ v1 v2 v5 v6 v7 → GW E (mW G σ) 123 [(0, .ref (G.1 0)), (1, .int v1), (2, .int v2), (5, .int v5), (6, .int v6), (7, .int v7)] []) (σ : MS) (v1 : Int32) (v2 : Int32) (v6 : Int32) (v7 : Int32) (t0 : Int32) (h : wm_areLike_196 post lp123 σ v1 v2 v6 v7 t0) : GW E (mW G σ) 196 [(0, .ref (G.1 0)), (1, .int v1), (2, .int v2), (6, .int v6), (7, .int v7)] [.int t0] := by
  unfold wm_areLike_196 at h
  have hN := hm.2.2.2.2.2.2.1
  refine r_istore hE [(5, .int t0), (0, .ref (G.1 0)), (1, .int v1), (2, .int v2), (6, .int v6), (7, .int v7)] dX13_areLike_196 hN (by decide) rfl ?_
  obtain ⟨x1, ex1⟩ : ∃ z : Int32, z = v7 + (1 : Int32) := ⟨_, rfl⟩
  have h := h x1 ex1
  refine r_iinc (v := x1) hE [(7, .int x1), (5, .int t0), (0, .ref (G.1 0)), (1, .int v1), (2, .int v2), (6, .int v6)] 5 dX13_areLike_198 rfl (by rw [ex1]; rfl) hN (by decide) rfl ?_
  refine r_goto hE 123 dX13_areLike_201 (by decide) ?_
  refine r_pick [2, 3, 4, 1, 5, 0] rfl ?_
  exact hl123 _ _ _ _ _ _ h
def wm_areLike_195 (post : MS → Int32 → Prop) (lp123 : MS → Int32 → Int32 → Int32 → Int32 → Int32 → Prop) (σ : MS) (v1 : Int32) (v2 : Int32) (v6 : Int32) (v7 : Int32) : Prop := wm_areLike_196 post lp123 σ v1 v2 v6 v7 (0 : Int32)
set_option maxRecDepth 20000 in
theorem km_areLike_195 {E : gEnv} {l : Launch} {D : va_G} {cl : List vw_C} {G : gAd} {post : MS → Int32 → Prop} (hE : gOK E cX13_areLike RX13 (some .boolean) 2) (hm : mOK E l D cl G (qI post) 8) {lp123 : MS → Int32 → Int32 → Int32 → Int32 → Int32 → Prop} (hl123 : ∀ (σ : MS) (v1 : Int32) (v2 : Int32) (v5 : Int32) (v6 : Int32) (v7 : Int32), lp123 σ v1 v2 v5 v6 v7 → GW E (mW G σ) 123 [(0, .ref (G.1 0)), (1, .int v1), (2, .int v2), (5, .int v5), (6, .int v6), (7, .int v7)] []) (σ : MS) (v1 : Int32) (v2 : Int32) (v6 : Int32) (v7 : Int32) (h : wm_areLike_195 post lp123 σ v1 v2 v6 v7) : GW E (mW G σ) 195 [(0, .ref (G.1 0)), (1, .int v1), (2, .int v2), (6, .int v6), (7, .int v7)] [] := by
  unfold wm_areLike_195 at h
  have hN := hm.2.2.2.2.2.2.1
  refine r_iconst (v := (0 : Int32)) hE dX13_areLike_195 (by decide) ?_
  exact km_areLike_196 hE hm hl123 _ _ _ _ _ _ h
def wm_areLike_123 (post : MS → Int32 → Prop) : Nat → MS → Int32 → Int32 → Int32 → Int32 → Int32 → Prop
  | 0, _, _, _, _, _, _ => False
  | n + 1, σ, v1, v2, v5, v6, v7 => ((v6 ≤ v7) → (isB v5 ∧ (post σ v5))) ∧ ((¬ (v6 ≤ v7)) → (((v5 = (0 : Int32)) → (isB v5 ∧ (post σ v5))) ∧ ((¬ (v5 = (0 : Int32))) → (vp_in (((7 : Int32) * v1) + v7) 3360 ∧ (vp_in (((7 : Int32) * v2) + v7) 3360 ∧ (((¬ ((lg_cmp (m_up σ (((7 : Int32) * v1) + v7).toNatClampNeg) (m_up σ (((7 : Int32) * v2) + v7).toNatClampNeg)) = (0 : Int32))) → (wm_areLike_195 post (fun (ys : MS) (y0 : Int32) (y1 : Int32) (y2 : Int32) (y3 : Int32) (y4 : Int32) => wm_areLike_123 post n ys y0 y1 y2 y3 y4) σ v1 v2 v6 v7)) ∧ (((lg_cmp (m_up σ (((7 : Int32) * v1) + v7).toNatClampNeg) (m_up σ (((7 : Int32) * v2) + v7).toNatClampNeg)) = (0 : Int32)) → (vp_in (((7 : Int32) * v1) + v7) 3360 ∧ (vp_in (((7 : Int32) * v2) + v7) 3360 ∧ (((¬ ((lg_cmp (m_low σ (((7 : Int32) * v1) + v7).toNatClampNeg) (m_low σ (((7 : Int32) * v2) + v7).toNatClampNeg)) = (0 : Int32))) → (wm_areLike_195 post (fun (ys : MS) (y0 : Int32) (y1 : Int32) (y2 : Int32) (y3 : Int32) (y4 : Int32) => wm_areLike_123 post n ys y0 y1 y2 y3 y4) σ v1 v2 v6 v7)) ∧ (((lg_cmp (m_low σ (((7 : Int32) * v1) + v7).toNatClampNeg) (m_low σ (((7 : Int32) * v2) + v7).toNatClampNeg)) = (0 : Int32)) → (wm_areLike_196 post (fun (ys : MS) (y0 : Int32) (y1 : Int32) (y2 : Int32) (y3 : Int32) (y4 : Int32) => wm_areLike_123 post n ys y0 y1 y2 y3 y4) σ v1 v2 v6 v7 (1 : Int32)))))))))))))
set_option maxRecDepth 20000 in
theorem km_areLike_123 {E : gEnv} {l : Launch} {D : va_G} {cl : List vw_C} {G : gAd} {post : MS → Int32 → Prop} (hE : gOK E cX13_areLike RX13 (some .boolean) 2) (hm : mOK E l D cl G (qI post) 8) : ∀ (n : Nat) (σ : MS) (v1 : Int32) (v2 : Int32) (v5 : Int32) (v6 : Int32) (v7 : Int32), wm_areLike_123 post n σ v1 v2 v5 v6 v7 → GW E (mW G σ) 123 [(0, .ref (G.1 0)), (1, .int v1), (2, .int v2), (5, .int v5), (6, .int v6), (7, .int v7)] [] := by
  intro n
  induction n with
  | zero => intro σ v1 v2 v5 v6 v7 h; exact h.elim
  | succ n ih =>
    intro σ v1 v2 v5 v6 v7 h
    rw [wm_areLike_123] at h
    have hN := hm.2.2.2.2.2.2.1
    refine r_iload hE 5 dX13_areLike_123 rfl ?_
    refine r_iload hE 4 dX13_areLike_125 rfl ?_
    refine r_icmp_ge hE 204 dX13_areLike_127 (by decide) h (fun h => ?_) (fun h => ?_)
    · refine r_iload hE 3 dX13_areLike_204 rfl ?_
      obtain ⟨hb, h⟩ := h
      exact m_zret hE hm dX13_areLike_206 hb h
    · refine r_iload hE 3 dX13_areLike_130 rfl ?_
      refine r_if_eq hE 204 dX13_areLike_132 (by decide) h (fun h => ?_) (fun h => ?_)
      · refine r_iload hE 3 dX13_areLike_204 rfl ?_
        obtain ⟨hb, h⟩ := h
        exact m_zret hE hm dX13_areLike_206 hb h
      · refine r_aload_n hE 0 dX13_areLike_135 rfl rfl ?_
        refine mg_up hE hm dX13_areLike_136 ?_
        refine r_bipush (v := (7 : Int32)) hE dX13_areLike_139 (by decide) ?_
        refine r_iload_n hE 1 dX13_areLike_141 rfl rfl ?_
        refine r_imul hE dX13_areLike_142 ?_
        refine r_iload hE 5 dX13_areLike_143 rfl ?_
        refine r_iadd hE dX13_areLike_145 ?_
        obtain ⟨hi, h⟩ := h
        refine ml_up hE hm dX13_areLike_146 hi ?_
        refine r_aload_n hE 0 dX13_areLike_147 rfl rfl ?_
        refine mg_up hE hm dX13_areLike_148 ?_
        refine r_bipush (v := (7 : Int32)) hE dX13_areLike_151 (by decide) ?_
        refine r_iload_n hE 2 dX13_areLike_153 rfl rfl ?_
        refine r_imul hE dX13_areLike_154 ?_
        refine r_iload hE 5 dX13_areLike_155 rfl ?_
        refine r_iadd hE dX13_areLike_157 ?_
        obtain ⟨hi, h⟩ := h
        refine ml_up hE hm dX13_areLike_158 hi ?_
        refine r_lcmp hE dX13_areLike_159 ?_
        refine r_if_ne hE 195 dX13_areLike_160 (by decide) h (fun h => ?_) (fun h => ?_)
        · refine r_pick [0, 1, 2, 4, 5] rfl ?_
          exact km_areLike_195 hE hm ih _ _ _ _ _ h
        · refine r_aload_n hE 0 dX13_areLike_163 rfl rfl ?_
          refine mg_low hE hm dX13_areLike_164 ?_
          refine r_bipush (v := (7 : Int32)) hE dX13_areLike_167 (by decide) ?_
          refine r_iload_n hE 1 dX13_areLike_169 rfl rfl ?_
          refine r_imul hE dX13_areLike_170 ?_
          refine r_iload hE 5 dX13_areLike_171 rfl ?_
          refine r_iadd hE dX13_areLike_173 ?_
          obtain ⟨hi, h⟩ := h
          refine ml_low hE hm dX13_areLike_174 hi ?_
          refine r_aload_n hE 0 dX13_areLike_175 rfl rfl ?_
          refine mg_low hE hm dX13_areLike_176 ?_
          refine r_bipush (v := (7 : Int32)) hE dX13_areLike_179 (by decide) ?_
          refine r_iload_n hE 2 dX13_areLike_181 rfl rfl ?_
          refine r_imul hE dX13_areLike_182 ?_
          refine r_iload hE 5 dX13_areLike_183 rfl ?_
          refine r_iadd hE dX13_areLike_185 ?_
          obtain ⟨hi, h⟩ := h
          refine ml_low hE hm dX13_areLike_186 hi ?_
          refine r_lcmp hE dX13_areLike_187 ?_
          refine r_if_ne hE 195 dX13_areLike_188 (by decide) h (fun h => ?_) (fun h => ?_)
          · refine r_pick [0, 1, 2, 4, 5] rfl ?_
            exact km_areLike_195 hE hm ih _ _ _ _ _ h
          · refine r_iconst (v := (1 : Int32)) hE dX13_areLike_191 (by decide) ?_
            refine r_goto hE 196 dX13_areLike_192 (by decide) ?_
            refine r_pick [0, 1, 2, 4, 5] rfl ?_
            exact km_areLike_196 hE hm ih _ _ _ _ _ _ h
def wm_areLike_118 (post : MS → Int32 → Prop) (σ : MS) (v1 : Int32) (v2 : Int32) (v5 : Int32) (t0 : Int32) : Prop := ∃ k : Nat, wm_areLike_123 post k σ v1 v2 v5 t0 (0 : Int32)
set_option maxRecDepth 20000 in
theorem km_areLike_118 {E : gEnv} {l : Launch} {D : va_G} {cl : List vw_C} {G : gAd} {post : MS → Int32 → Prop} (hE : gOK E cX13_areLike RX13 (some .boolean) 2) (hm : mOK E l D cl G (qI post) 8) (σ : MS) (v1 : Int32) (v2 : Int32) (v5 : Int32) (t0 : Int32) (h : wm_areLike_118 post σ v1 v2 v5 t0) : GW E (mW G σ) 118 [(0, .ref (G.1 0)), (1, .int v1), (2, .int v2), (5, .int v5)] [.int t0] := by
  unfold wm_areLike_118 at h
  have hN := hm.2.2.2.2.2.2.1
  refine r_istore hE [(6, .int t0), (0, .ref (G.1 0)), (1, .int v1), (2, .int v2), (5, .int v5)] dX13_areLike_118 hN (by decide) rfl ?_
  refine r_iconst (v := (0 : Int32)) hE dX13_areLike_120 (by decide) ?_
  refine r_istore hE [(7, .int (0 : Int32)), (6, .int t0), (0, .ref (G.1 0)), (1, .int v1), (2, .int v2), (5, .int v5)] dX13_areLike_121 hN (by decide) rfl ?_
  refine r_pick [2, 3, 4, 5, 1, 0] rfl ?_
  obtain ⟨k, h⟩ := h
  exact km_areLike_123 hE hm k _ _ _ _ _ _ h
def wm_areLike_96 (post : MS → Int32 → Prop) (σ : MS) (v1 : Int32) (v2 : Int32) (v3 : Int32) (t0 : Int32) : Prop := ((¬ (v3 = (0 : Int32))) → (wm_isPoint (fun (s2 : MS) (r3 : Int32) => ((r3 = (0 : Int32)) → (wm_areLike_118 post s2 v1 v2 t0 (3 : Int32))) ∧ ((¬ (r3 = (0 : Int32))) → (wm_areLike_118 post s2 v1 v2 t0 (2 : Int32)))) σ v3)) ∧ ((v3 = (0 : Int32)) → (wm_areLike_118 post σ v1 v2 t0 (1 : Int32)))
set_option maxRecDepth 20000 in
theorem km_areLike_96 {E : gEnv} {l : Launch} {D : va_G} {cl : List vw_C} {G : gAd} {post : MS → Int32 → Prop} (hE : gOK E cX13_areLike RX13 (some .boolean) 2) (hm : mOK E l D cl G (qI post) 8) (σ : MS) (v1 : Int32) (v2 : Int32) (v3 : Int32) (t0 : Int32) (h : wm_areLike_96 post σ v1 v2 v3 t0) : GW E (mW G σ) 96 [(0, .ref (G.1 0)), (1, .int v1), (2, .int v2), (3, .int v3)] [.int t0] := by
  unfold wm_areLike_96 at h
  have hN := hm.2.2.2.2.2.2.1
  refine r_istore hE [(5, .int t0), (0, .ref (G.1 0)), (1, .int v1), (2, .int v2), (3, .int v3)] dX13_areLike_96 hN (by decide) rfl ?_
  refine r_iload_n hE 4 dX13_areLike_98 rfl rfl ?_
  refine r_if_ne hE 106 dX13_areLike_99 (by decide) h (fun h => ?_) (fun h => ?_)
  · refine r_iload_n hE 4 dX13_areLike_106 rfl rfl ?_
    refine m_callSi hE hm [.int v3] [] mc_isPoint (km_isPoint hm.2.2.2.2.2.2.2.2 h) (by decide) rfl rfl (Nat.le_of_ble_eq_true rfl) dX13_areLike_107 (fun s2 r3 h => ?_)
    refine r_if_eq hE 117 dX13_areLike_110 (by decide) h (fun h => ?_) (fun h => ?_)
    · refine r_iconst (v := (3 : Int32)) hE dX13_areLike_117 (by decide) ?_
      refine r_pick [1, 2, 3, 0] rfl ?_
      exact km_areLike_118 hE hm _ _ _ _ _ h
    · refine r_iconst (v := (2 : Int32)) hE dX13_areLike_113 (by decide) ?_
      refine r_goto hE 118 dX13_areLike_114 (by decide) ?_
      refine r_pick [1, 2, 3, 0] rfl ?_
      exact km_areLike_118 hE hm _ _ _ _ _ h
  · refine r_iconst (v := (1 : Int32)) hE dX13_areLike_102 (by decide) ?_
    refine r_goto hE 118 dX13_areLike_103 (by decide) ?_
    refine r_pick [1, 2, 3, 0] rfl ?_
    exact km_areLike_118 hE hm _ _ _ _ _ h
def wm_areLike_91 (post : MS → Int32 → Prop) (σ : MS) (v1 : Int32) (v2 : Int32) (v3 : Int32) : Prop := wm_areLike_96 post σ v1 v2 v3 (1 : Int32)
set_option maxRecDepth 20000 in
theorem km_areLike_91 {E : gEnv} {l : Launch} {D : va_G} {cl : List vw_C} {G : gAd} {post : MS → Int32 → Prop} (hE : gOK E cX13_areLike RX13 (some .boolean) 2) (hm : mOK E l D cl G (qI post) 8) (σ : MS) (v1 : Int32) (v2 : Int32) (v3 : Int32) (h : wm_areLike_91 post σ v1 v2 v3) : GW E (mW G σ) 91 [(0, .ref (G.1 0)), (1, .int v1), (2, .int v2), (3, .int v3)] [] := by
  unfold wm_areLike_91 at h
  have hN := hm.2.2.2.2.2.2.1
  refine r_iconst (v := (1 : Int32)) hE dX13_areLike_91 (by decide) ?_
  refine r_goto hE 96 dX13_areLike_92 (by decide) ?_
  exact km_areLike_96 hE hm _ _ _ _ _ h
def wm_areLike_95 (post : MS → Int32 → Prop) (σ : MS) (v1 : Int32) (v2 : Int32) (v3 : Int32) : Prop := wm_areLike_96 post σ v1 v2 v3 (0 : Int32)
set_option maxRecDepth 20000 in
theorem km_areLike_95 {E : gEnv} {l : Launch} {D : va_G} {cl : List vw_C} {G : gAd} {post : MS → Int32 → Prop} (hE : gOK E cX13_areLike RX13 (some .boolean) 2) (hm : mOK E l D cl G (qI post) 8) (σ : MS) (v1 : Int32) (v2 : Int32) (v3 : Int32) (h : wm_areLike_95 post σ v1 v2 v3) : GW E (mW G σ) 95 [(0, .ref (G.1 0)), (1, .int v1), (2, .int v2), (3, .int v3)] [] := by
  unfold wm_areLike_95 at h
  have hN := hm.2.2.2.2.2.2.1
  refine r_iconst (v := (0 : Int32)) hE dX13_areLike_95 (by decide) ?_
  exact km_areLike_96 hE hm _ _ _ _ _ h
def wm_areLike_76 (post : MS → Int32 → Prop) (σ : MS) (v1 : Int32) (v2 : Int32) (v3 : Int32) (v4 : Int32) : Prop := wm_isLine (fun (s4 : MS) (r5 : Int32) => ((r5 = (0 : Int32)) → (wm_areLike_95 post s4 v1 v2 v3)) ∧ ((¬ (r5 = (0 : Int32))) → (wm_isLine (fun (s6 : MS) (r7 : Int32) => ((r7 = (0 : Int32)) → (wm_areLike_95 post s6 v1 v2 v3)) ∧ ((¬ (r7 = (0 : Int32))) → (wm_areLike_91 post s6 v1 v2 v3))) s4 v4))) σ v3
set_option maxRecDepth 20000 in
theorem km_areLike_76 {E : gEnv} {l : Launch} {D : va_G} {cl : List vw_C} {G : gAd} {post : MS → Int32 → Prop} (hE : gOK E cX13_areLike RX13 (some .boolean) 2) (hm : mOK E l D cl G (qI post) 8) (σ : MS) (v1 : Int32) (v2 : Int32) (v3 : Int32) (v4 : Int32) (h : wm_areLike_76 post σ v1 v2 v3 v4) : GW E (mW G σ) 76 [(0, .ref (G.1 0)), (1, .int v1), (2, .int v2), (3, .int v3), (4, .int v4)] [] := by
  unfold wm_areLike_76 at h
  have hN := hm.2.2.2.2.2.2.1
  refine r_iload_n hE 3 dX13_areLike_76 rfl rfl ?_
  refine m_callSi hE hm [.int v3] [] mc_isLine (km_isLine hm.2.2.2.2.2.2.2.2 h) (by decide) rfl rfl (Nat.le_of_ble_eq_true rfl) dX13_areLike_77 (fun s4 r5 h => ?_)
  refine r_if_eq hE 95 dX13_areLike_80 (by decide) h (fun h => ?_) (fun h => ?_)
  · refine r_pick [0, 1, 2, 3] rfl ?_
    exact km_areLike_95 hE hm _ _ _ _ h
  · refine r_iload hE 4 dX13_areLike_83 rfl ?_
    refine m_callSi hE hm [.int v4] [] mc_isLine (km_isLine hm.2.2.2.2.2.2.2.2 h) (by decide) rfl rfl (Nat.le_of_ble_eq_true rfl) dX13_areLike_85 (fun s6 r7 h => ?_)
    refine r_if_eq hE 95 dX13_areLike_88 (by decide) h (fun h => ?_) (fun h => ?_)
    · refine r_pick [0, 1, 2, 3] rfl ?_
      exact km_areLike_95 hE hm _ _ _ _ h
    · refine r_pick [0, 1, 2, 3] rfl ?_
      exact km_areLike_91 hE hm _ _ _ _ h
def wm_areLike (post : MS → Int32 → Prop) (σ : MS) (a1 : Int32) (a2 : Int32) : Prop := vp_in a1 480 ∧ (∀ x8 : Int32, x8 = m_sort σ a1.toNatClampNeg → vp_in a2 480 ∧ (∀ x9 : Int32, x9 = m_sort σ a2.toNatClampNeg → ((x8 = (6 : Int32)) → (wm_areLike_28 post σ a1 a2 x8 x9)) ∧ ((¬ (x8 = (6 : Int32))) → (((¬ (x9 = (6 : Int32))) → (((x8 = x9) → (wm_areLike_91 post σ a1 a2 x8)) ∧ ((¬ (x8 = x9)) → (wm_isPoint (fun (s10 : MS) (r11 : Int32) => ((r11 = (0 : Int32)) → (wm_areLike_76 post s10 a1 a2 x8 x9)) ∧ ((¬ (r11 = (0 : Int32))) → (wm_isPoint (fun (s12 : MS) (r13 : Int32) => ((¬ (r13 = (0 : Int32))) → (wm_areLike_91 post s12 a1 a2 x8)) ∧ ((r13 = (0 : Int32)) → (wm_areLike_76 post s12 a1 a2 x8 x9))) s10 x9))) σ x8)))) ∧ ((x9 = (6 : Int32)) → (wm_areLike_28 post σ a1 a2 x8 x9))))))
set_option maxRecDepth 20000 in
theorem km_areLike {l : Launch} {D : va_G} {cl : List vw_C} {G : gAd} {post : MS → Int32 → Prop} (hcl : mC cl) {σ : MS} {a1 : Int32} {a2 : Int32} (h : wm_areLike post σ a1 a2) : mMet l D cl G yX13_areLike cX13_areLike 8 (some .boolean) 2 [.ref (G.1 0), .int a1, .int a2] σ (qI post) := by
  unfold wm_areLike at h
  refine m_enter hcl (by decide +kernel) rfl [(0, .ref (G.1 0)), (1, .int a1), (2, .int a2)] rfl (Nat.le_of_ble_eq_true rfl) ?_
  intro E hE hm
  have hN := hm.2.2.2.2.2.2.1
  refine r_aload_n hE 0 dX13_areLike_0 rfl rfl ?_
  refine mg_sort hE hm dX13_areLike_1 ?_
  refine r_iload_n hE 1 dX13_areLike_4 rfl rfl ?_
  obtain ⟨hi, h⟩ := h
  refine ml_sort hE hm dX13_areLike_5 hi ?_
  refine r_topi h (fun x8 ex8 h => ?_)
  refine r_istore_n hE [(3, .int x8), (0, .ref (G.1 0)), (1, .int a1), (2, .int a2)] dX13_areLike_6 rfl hN (by decide) rfl ?_
  refine r_aload_n hE 1 dX13_areLike_7 rfl rfl ?_
  refine mg_sort hE hm dX13_areLike_8 ?_
  refine r_iload_n hE 3 dX13_areLike_11 rfl rfl ?_
  obtain ⟨hi, h⟩ := h
  refine ml_sort hE hm dX13_areLike_12 hi ?_
  refine r_topi h (fun x9 ex9 h => ?_)
  refine r_istore hE [(4, .int x9), (3, .int x8), (0, .ref (G.1 0)), (1, .int a1), (2, .int a2)] dX13_areLike_13 hN (by decide) rfl ?_
  refine r_iload_n hE 1 dX13_areLike_15 rfl rfl ?_
  refine r_bipush (v := (6 : Int32)) hE dX13_areLike_16 (by decide) ?_
  refine r_icmp_eq hE 28 dX13_areLike_18 (by decide) h (fun h => ?_) (fun h => ?_)
  · refine r_pick [2, 3, 4, 1, 0] rfl ?_
    exact km_areLike_28 hE hm _ _ _ _ _ h
  · refine r_iload hE 0 dX13_areLike_21 rfl ?_
    refine r_bipush (v := (6 : Int32)) hE dX13_areLike_23 (by decide) ?_
    refine r_icmp_ne hE 55 dX13_areLike_25 (by decide) h (fun h => ?_) (fun h => ?_)
    · refine r_iload_n hE 1 dX13_areLike_55 rfl rfl ?_
      refine r_iload hE 0 dX13_areLike_56 rfl ?_
      refine r_icmp_eq hE 91 dX13_areLike_58 (by decide) h (fun h => ?_) (fun h => ?_)
      · refine r_pick [2, 3, 4, 1] rfl ?_
        exact km_areLike_91 hE hm _ _ _ _ h
      · refine r_iload_n hE 1 dX13_areLike_61 rfl rfl ?_
        refine m_callSi hE hm [.int x8] [] mc_isPoint (km_isPoint hm.2.2.2.2.2.2.2.2 h) (by decide) rfl rfl (Nat.le_of_ble_eq_true rfl) dX13_areLike_62 (fun s10 r11 h => ?_)
        refine r_if_eq hE 76 dX13_areLike_65 (by decide) h (fun h => ?_) (fun h => ?_)
        · refine r_pick [2, 3, 4, 1, 0] rfl ?_
          exact km_areLike_76 hE hm _ _ _ _ _ h
        · refine r_iload hE 0 dX13_areLike_68 rfl ?_
          refine m_callSi hE hm [.int x9] [] mc_isPoint (km_isPoint hm.2.2.2.2.2.2.2.2 h) (by decide) rfl rfl (Nat.le_of_ble_eq_true rfl) dX13_areLike_70 (fun s12 r13 h => ?_)
          refine r_if_ne hE 91 dX13_areLike_73 (by decide) h (fun h => ?_) (fun h => ?_)
          · refine r_pick [2, 3, 4, 1] rfl ?_
            exact km_areLike_91 hE hm _ _ _ _ h
          · refine r_pick [2, 3, 4, 1, 0] rfl ?_
            exact km_areLike_76 hE hm _ _ _ _ _ h
    · refine r_pick [2, 3, 4, 1, 0] rfl ?_
      exact km_areLike_28 hE hm _ _ _ _ _ h
/-! isWithin -/
def wm_isWithin (post : MS → Int32 → Prop) (σ : MS) (a1 : Int32) (a2 : Int32) (a3 : Int32) : Prop := vp_in (((7 : Int32) * a1) + a2) 3360 ∧ (vp_in (((7 : Int32) * a1) + a2) 3360 ∧ (vp_in ((((7 : Int32) * a3) + (3 : Int32)) + a2) 3360 ∧ (vp_in ((((7 : Int32) * a3) + (3 : Int32)) + a2) 3360 ∧ (wm_compare (fun (s1 : MS) (r2 : Int32) => vp_in (((7 : Int32) * a1) + a2) 3360 ∧ (vp_in (((7 : Int32) * a1) + a2) 3360 ∧ (vp_in ((((7 : Int32) * a3) + (5 : Int32)) + a2) 3360 ∧ (vp_in ((((7 : Int32) * a3) + (5 : Int32)) + a2) 3360 ∧ (wm_compare (fun (s3 : MS) (r4 : Int32) => (((0 : Int32) < (r2 * r4)) → (post s3 (0 : Int32))) ∧ ((¬ ((0 : Int32) < (r2 * r4))) → (post s3 (1 : Int32)))) s1 (m_up s1 (((7 : Int32) * a1) + a2).toNatClampNeg) (m_low s1 (((7 : Int32) * a1) + a2).toNatClampNeg) (m_up s1 ((((7 : Int32) * a3) + (5 : Int32)) + a2).toNatClampNeg) (m_low s1 ((((7 : Int32) * a3) + (5 : Int32)) + a2).toNatClampNeg)))))) σ (m_up σ (((7 : Int32) * a1) + a2).toNatClampNeg) (m_low σ (((7 : Int32) * a1) + a2).toNatClampNeg) (m_up σ ((((7 : Int32) * a3) + (3 : Int32)) + a2).toNatClampNeg) (m_low σ ((((7 : Int32) * a3) + (3 : Int32)) + a2).toNatClampNeg)))))
set_option maxRecDepth 20000 in
theorem km_isWithin {l : Launch} {D : va_G} {cl : List vw_C} {G : gAd} {post : MS → Int32 → Prop} (hcl : mC cl) {σ : MS} {a1 : Int32} {a2 : Int32} {a3 : Int32} (h : wm_isWithin post σ a1 a2 a3) : mMet l D cl G yX13_isWithin cX13_isWithin 6 (some .boolean) 2 [.ref (G.1 0), .int a1, .int a2, .int a3] σ (qI post) := by
  unfold wm_isWithin at h
  refine m_enter hcl (by decide +kernel) rfl [(0, .ref (G.1 0)), (1, .int a1), (2, .int a2), (3, .int a3)] rfl (Nat.le_of_ble_eq_true rfl) ?_
  intro E hE hm
  have hN := hm.2.2.2.2.2.2.1
  refine r_aload_n hE 0 dX13_isWithin_0 rfl rfl ?_
  refine mg_up hE hm dX13_isWithin_1 ?_
  refine r_bipush (v := (7 : Int32)) hE dX13_isWithin_4 (by decide) ?_
  refine r_iload_n hE 1 dX13_isWithin_6 rfl rfl ?_
  refine r_imul hE dX13_isWithin_7 ?_
  refine r_iload_n hE 2 dX13_isWithin_8 rfl rfl ?_
  refine r_iadd hE dX13_isWithin_9 ?_
  obtain ⟨hi, h⟩ := h
  refine ml_up hE hm dX13_isWithin_10 hi ?_
  refine r_aload_n hE 0 dX13_isWithin_11 rfl rfl ?_
  refine mg_low hE hm dX13_isWithin_12 ?_
  refine r_bipush (v := (7 : Int32)) hE dX13_isWithin_15 (by decide) ?_
  refine r_iload_n hE 1 dX13_isWithin_17 rfl rfl ?_
  refine r_imul hE dX13_isWithin_18 ?_
  refine r_iload_n hE 2 dX13_isWithin_19 rfl rfl ?_
  refine r_iadd hE dX13_isWithin_20 ?_
  obtain ⟨hi, h⟩ := h
  refine ml_low hE hm dX13_isWithin_21 hi ?_
  refine r_aload_n hE 0 dX13_isWithin_22 rfl rfl ?_
  refine mg_up hE hm dX13_isWithin_23 ?_
  refine r_bipush (v := (7 : Int32)) hE dX13_isWithin_26 (by decide) ?_
  refine r_iload_n hE 3 dX13_isWithin_28 rfl rfl ?_
  refine r_imul hE dX13_isWithin_29 ?_
  refine r_iconst (v := (3 : Int32)) hE dX13_isWithin_30 (by decide) ?_
  refine r_iadd hE dX13_isWithin_31 ?_
  refine r_iload_n hE 2 dX13_isWithin_32 rfl rfl ?_
  refine r_iadd hE dX13_isWithin_33 ?_
  obtain ⟨hi, h⟩ := h
  refine ml_up hE hm dX13_isWithin_34 hi ?_
  refine r_aload_n hE 0 dX13_isWithin_35 rfl rfl ?_
  refine mg_low hE hm dX13_isWithin_36 ?_
  refine r_bipush (v := (7 : Int32)) hE dX13_isWithin_39 (by decide) ?_
  refine r_iload_n hE 3 dX13_isWithin_41 rfl rfl ?_
  refine r_imul hE dX13_isWithin_42 ?_
  refine r_iconst (v := (3 : Int32)) hE dX13_isWithin_43 (by decide) ?_
  refine r_iadd hE dX13_isWithin_44 ?_
  refine r_iload_n hE 2 dX13_isWithin_45 rfl rfl ?_
  refine r_iadd hE dX13_isWithin_46 ?_
  obtain ⟨hi, h⟩ := h
  refine ml_low hE hm dX13_isWithin_47 hi ?_
  refine m_callSi hE hm [.long (m_up σ (((7 : Int32) * a1) + a2).toNatClampNeg), .long (m_low σ (((7 : Int32) * a1) + a2).toNatClampNeg), .long (m_up σ ((((7 : Int32) * a3) + (3 : Int32)) + a2).toNatClampNeg), .long (m_low σ ((((7 : Int32) * a3) + (3 : Int32)) + a2).toNatClampNeg)] [] mc_compare (km_compare hm.2.2.2.2.2.2.2.2 h) (by decide) rfl rfl (Nat.le_of_ble_eq_true rfl) dX13_isWithin_48 (fun s1 r2 h => ?_)
  refine r_istore hE [(4, .int r2), (0, .ref (G.1 0)), (1, .int a1), (2, .int a2), (3, .int a3)] dX13_isWithin_51 hN (by decide) rfl ?_
  refine r_aload_n hE 1 dX13_isWithin_53 rfl rfl ?_
  refine mg_up hE hm dX13_isWithin_54 ?_
  refine r_bipush (v := (7 : Int32)) hE dX13_isWithin_57 (by decide) ?_
  refine r_iload_n hE 2 dX13_isWithin_59 rfl rfl ?_
  refine r_imul hE dX13_isWithin_60 ?_
  refine r_iload_n hE 3 dX13_isWithin_61 rfl rfl ?_
  refine r_iadd hE dX13_isWithin_62 ?_
  obtain ⟨hi, h⟩ := h
  refine ml_up hE hm dX13_isWithin_63 hi ?_
  refine r_aload_n hE 1 dX13_isWithin_64 rfl rfl ?_
  refine mg_low hE hm dX13_isWithin_65 ?_
  refine r_bipush (v := (7 : Int32)) hE dX13_isWithin_68 (by decide) ?_
  refine r_iload_n hE 2 dX13_isWithin_70 rfl rfl ?_
  refine r_imul hE dX13_isWithin_71 ?_
  refine r_iload_n hE 3 dX13_isWithin_72 rfl rfl ?_
  refine r_iadd hE dX13_isWithin_73 ?_
  obtain ⟨hi, h⟩ := h
  refine ml_low hE hm dX13_isWithin_74 hi ?_
  refine r_aload_n hE 1 dX13_isWithin_75 rfl rfl ?_
  refine mg_up hE hm dX13_isWithin_76 ?_
  refine r_bipush (v := (7 : Int32)) hE dX13_isWithin_79 (by decide) ?_
  refine r_iload_n hE 4 dX13_isWithin_81 rfl rfl ?_
  refine r_imul hE dX13_isWithin_82 ?_
  refine r_iconst (v := (5 : Int32)) hE dX13_isWithin_83 (by decide) ?_
  refine r_iadd hE dX13_isWithin_84 ?_
  refine r_iload_n hE 3 dX13_isWithin_85 rfl rfl ?_
  refine r_iadd hE dX13_isWithin_86 ?_
  obtain ⟨hi, h⟩ := h
  refine ml_up hE hm dX13_isWithin_87 hi ?_
  refine r_aload_n hE 1 dX13_isWithin_88 rfl rfl ?_
  refine mg_low hE hm dX13_isWithin_89 ?_
  refine r_bipush (v := (7 : Int32)) hE dX13_isWithin_92 (by decide) ?_
  refine r_iload_n hE 4 dX13_isWithin_94 rfl rfl ?_
  refine r_imul hE dX13_isWithin_95 ?_
  refine r_iconst (v := (5 : Int32)) hE dX13_isWithin_96 (by decide) ?_
  refine r_iadd hE dX13_isWithin_97 ?_
  refine r_iload_n hE 3 dX13_isWithin_98 rfl rfl ?_
  refine r_iadd hE dX13_isWithin_99 ?_
  obtain ⟨hi, h⟩ := h
  refine ml_low hE hm dX13_isWithin_100 hi ?_
  refine m_callSi hE hm [.long (m_up s1 (((7 : Int32) * a1) + a2).toNatClampNeg), .long (m_low s1 (((7 : Int32) * a1) + a2).toNatClampNeg), .long (m_up s1 ((((7 : Int32) * a3) + (5 : Int32)) + a2).toNatClampNeg), .long (m_low s1 ((((7 : Int32) * a3) + (5 : Int32)) + a2).toNatClampNeg)] [] mc_compare (km_compare hm.2.2.2.2.2.2.2.2 h) (by decide) rfl rfl (Nat.le_of_ble_eq_true rfl) dX13_isWithin_101 (fun s3 r4 h => ?_)
  refine r_istore hE [(5, .int r4), (4, .int r2), (0, .ref (G.1 0)), (1, .int a1), (2, .int a2), (3, .int a3)] dX13_isWithin_104 hN (by decide) rfl ?_
  refine r_iload hE 1 dX13_isWithin_106 rfl ?_
  refine r_iload hE 0 dX13_isWithin_108 rfl ?_
  refine r_imul hE dX13_isWithin_110 ?_
  refine r_if_gt hE 118 dX13_isWithin_111 (by decide) h (fun h => ?_) (fun h => ?_)
  · refine r_iconst (v := (0 : Int32)) hE dX13_isWithin_118 (by decide) ?_
    exact m_zret hE hm dX13_isWithin_119 (Or.inl rfl) h
  · refine r_iconst (v := (1 : Int32)) hE dX13_isWithin_114 (by decide) ?_
    refine r_goto hE 119 dX13_isWithin_115 (by decide) ?_
    exact m_zret hE hm dX13_isWithin_119 (Or.inr rfl) h
/-! isOn -/
def wm_isOn_205 (post : MS → Int32 → Prop) (σ : MS) (t1 : Int32) : Prop := wm_yes (fun (s1 : MS) (r2 : Int32) => post s1 r2) σ t1
set_option maxRecDepth 20000 in
theorem km_isOn_205 {E : gEnv} {l : Launch} {D : va_G} {cl : List vw_C} {G : gAd} {post : MS → Int32 → Prop} (hE : gOK E cX13_isOn RX13 (some .int) 5) (hm : mOK E l D cl G (qI post) 4) (σ : MS) (t1 : Int32) (h : wm_isOn_205 post σ t1) : GW E (mW G σ) 205 [] [.int t1, .ref (G.1 0)] := by
  unfold wm_isOn_205 at h
  have hN := hm.2.2.2.2.2.2.1
  refine m_callVi hE hm [.int t1] [] mc_yes (km_yes hm.2.2.2.2.2.2.2.2 h) (by decide) rfl rfl (Nat.le_of_ble_eq_true rfl) dX13_isOn_205 (fun s1 r2 h => ?_)
  exact m_iret hE hm dX13_isOn_208 h
def wm_isOn_204 (post : MS → Int32 → Prop) (σ : MS) : Prop := wm_isOn_205 post σ (0 : Int32)
set_option maxRecDepth 20000 in
theorem km_isOn_204 {E : gEnv} {l : Launch} {D : va_G} {cl : List vw_C} {G : gAd} {post : MS → Int32 → Prop} (hE : gOK E cX13_isOn RX13 (some .int) 5) (hm : mOK E l D cl G (qI post) 4) (σ : MS) (h : wm_isOn_204 post σ) : GW E (mW G σ) 204 [] [.ref (G.1 0)] := by
  unfold wm_isOn_204 at h
  have hN := hm.2.2.2.2.2.2.1
  refine r_iconst (v := (0 : Int32)) hE dX13_isOn_204 (by decide) ?_
  exact km_isOn_205 hE hm _ _ h
def wm_isOn_116 (post : MS → Int32 → Prop) (σ : MS) (t1 : Int32) : Prop := wm_yes (fun (s3 : MS) (r4 : Int32) => post s3 r4) σ t1
set_option maxRecDepth 20000 in
theorem km_isOn_116 {E : gEnv} {l : Launch} {D : va_G} {cl : List vw_C} {G : gAd} {post : MS → Int32 → Prop} (hE : gOK E cX13_isOn RX13 (some .int) 5) (hm : mOK E l D cl G (qI post) 4) (σ : MS) (t1 : Int32) (h : wm_isOn_116 post σ t1) : GW E (mW G σ) 116 [] [.int t1, .ref (G.1 0)] := by
  unfold wm_isOn_116 at h
  have hN := hm.2.2.2.2.2.2.1
  refine m_callVi hE hm [.int t1] [] mc_yes (km_yes hm.2.2.2.2.2.2.2.2 h) (by decide) rfl rfl (Nat.le_of_ble_eq_true rfl) dX13_isOn_116 (fun s3 r4 h => ?_)
  exact m_iret hE hm dX13_isOn_119 h
def wm_isOn_115 (post : MS → Int32 → Prop) (σ : MS) : Prop := wm_isOn_116 post σ (0 : Int32)
set_option maxRecDepth 20000 in
theorem km_isOn_115 {E : gEnv} {l : Launch} {D : va_G} {cl : List vw_C} {G : gAd} {post : MS → Int32 → Prop} (hE : gOK E cX13_isOn RX13 (some .int) 5) (hm : mOK E l D cl G (qI post) 4) (σ : MS) (h : wm_isOn_115 post σ) : GW E (mW G σ) 115 [] [.ref (G.1 0)] := by
  unfold wm_isOn_115 at h
  have hN := hm.2.2.2.2.2.2.1
  refine r_iconst (v := (0 : Int32)) hE dX13_isOn_115 (by decide) ?_
  exact km_isOn_116 hE hm _ _ h
def wm_isOn_111 (post : MS → Int32 → Prop) (σ : MS) : Prop := wm_isOn_116 post σ (1 : Int32)
set_option maxRecDepth 20000 in
theorem km_isOn_111 {E : gEnv} {l : Launch} {D : va_G} {cl : List vw_C} {G : gAd} {post : MS → Int32 → Prop} (hE : gOK E cX13_isOn RX13 (some .int) 5) (hm : mOK E l D cl G (qI post) 4) (σ : MS) (h : wm_isOn_111 post σ) : GW E (mW G σ) 111 [] [.ref (G.1 0)] := by
  unfold wm_isOn_111 at h
  have hN := hm.2.2.2.2.2.2.1
  refine r_iconst (v := (1 : Int32)) hE dX13_isOn_111 (by decide) ?_
  refine r_goto hE 116 dX13_isOn_112 (by decide) ?_
  exact km_isOn_116 hE hm _ _ h
def wm_isOn_75 (post : MS → Int32 → Prop) (σ : MS) (v1 : Int32) (v2 : Int32) (t0 : Int32) : Prop := ((t0 = (0 : Int32)) → (wm_isOn_115 post σ)) ∧ ((¬ (t0 = (0 : Int32))) → (vp_in v2 480 ∧ ((((m_sort σ v2.toNatClampNeg) = (3 : Int32)) → (wm_isOn_111 post σ)) ∧ ((¬ ((m_sort σ v2.toNatClampNeg) = (3 : Int32))) → (wm_isWithin (fun (s5 : MS) (r6 : Int32) => ((r6 = (0 : Int32)) → (wm_isOn_115 post s5)) ∧ ((¬ (r6 = (0 : Int32))) → (wm_isWithin (fun (s7 : MS) (r8 : Int32) => ((r8 = (0 : Int32)) → (wm_isOn_115 post s7)) ∧ ((¬ (r8 = (0 : Int32))) → (wm_isOn_111 post s7))) s5 v1 (1 : Int32) v2))) σ v1 (0 : Int32) v2)))))
set_option maxRecDepth 20000 in
theorem km_isOn_75 {E : gEnv} {l : Launch} {D : va_G} {cl : List vw_C} {G : gAd} {post : MS → Int32 → Prop} (hE : gOK E cX13_isOn RX13 (some .int) 5) (hm : mOK E l D cl G (qI post) 4) (σ : MS) (v1 : Int32) (v2 : Int32) (t0 : Int32) (h : wm_isOn_75 post σ v1 v2 t0) : GW E (mW G σ) 75 [(0, .ref (G.1 0)), (1, .int v1), (2, .int v2)] [.int t0] := by
  unfold wm_isOn_75 at h
  have hN := hm.2.2.2.2.2.2.1
  refine r_istore_n hE [(3, .int t0), (0, .ref (G.1 0)), (1, .int v1), (2, .int v2)] dX13_isOn_75 rfl hN (by decide) rfl ?_
  refine r_aload_n hE 1 dX13_isOn_76 rfl rfl ?_
  refine r_iload_n hE 0 dX13_isOn_77 rfl rfl ?_
  refine r_if_eq hE 115 dX13_isOn_78 (by decide) h (fun h => ?_) (fun h => ?_)
  · refine r_pick [] rfl ?_
    exact km_isOn_115 hE hm _ h
  · refine r_aload_n hE 1 dX13_isOn_81 rfl rfl ?_
    refine mg_sort hE hm dX13_isOn_82 ?_
    refine r_iload_n hE 3 dX13_isOn_85 rfl rfl ?_
    obtain ⟨hi, h⟩ := h
    refine ml_sort hE hm dX13_isOn_86 hi ?_
    refine r_iconst (v := (3 : Int32)) hE dX13_isOn_87 (by decide) ?_
    refine r_icmp_eq hE 111 dX13_isOn_88 (by decide) h (fun h => ?_) (fun h => ?_)
    · refine r_pick [] rfl ?_
      exact km_isOn_111 hE hm _ h
    · refine r_aload_n hE 1 dX13_isOn_91 rfl rfl ?_
      refine r_iload_n hE 2 dX13_isOn_92 rfl rfl ?_
      refine r_iconst (v := (0 : Int32)) hE dX13_isOn_93 (by decide) ?_
      refine r_iload_n hE 3 dX13_isOn_94 rfl rfl ?_
      refine m_callVi hE hm [.int v1, .int (0 : Int32), .int v2] [.ref (G.1 0)] mc_isWithin (km_isWithin hm.2.2.2.2.2.2.2.2 h) (by decide) rfl rfl (Nat.le_of_ble_eq_true rfl) dX13_isOn_95 (fun s5 r6 h => ?_)
      refine r_if_eq hE 115 dX13_isOn_98 (by decide) h (fun h => ?_) (fun h => ?_)
      · refine r_pick [] rfl ?_
        exact km_isOn_115 hE hm _ h
      · refine r_aload_n hE 1 dX13_isOn_101 rfl rfl ?_
        refine r_iload_n hE 2 dX13_isOn_102 rfl rfl ?_
        refine r_iconst (v := (1 : Int32)) hE dX13_isOn_103 (by decide) ?_
        refine r_iload_n hE 3 dX13_isOn_104 rfl rfl ?_
        refine m_callVi hE hm [.int v1, .int (1 : Int32), .int v2] [.ref (G.1 0)] mc_isWithin (km_isWithin hm.2.2.2.2.2.2.2.2 h) (by decide) rfl rfl (Nat.le_of_ble_eq_true rfl) dX13_isOn_105 (fun s7 r8 h => ?_)
        refine r_if_eq hE 115 dX13_isOn_108 (by decide) h (fun h => ?_) (fun h => ?_)
        · refine r_pick [] rfl ?_
          exact km_isOn_115 hE hm _ h
        · refine r_pick [] rfl ?_
          exact km_isOn_111 hE hm _ h
def wm_isOn_74 (post : MS → Int32 → Prop) (σ : MS) (v1 : Int32) (v2 : Int32) : Prop := wm_isOn_75 post σ v1 v2 (0 : Int32)
set_option maxRecDepth 20000 in
theorem km_isOn_74 {E : gEnv} {l : Launch} {D : va_G} {cl : List vw_C} {G : gAd} {post : MS → Int32 → Prop} (hE : gOK E cX13_isOn RX13 (some .int) 5) (hm : mOK E l D cl G (qI post) 4) (σ : MS) (v1 : Int32) (v2 : Int32) (h : wm_isOn_74 post σ v1 v2) : GW E (mW G σ) 74 [(0, .ref (G.1 0)), (1, .int v1), (2, .int v2)] [] := by
  unfold wm_isOn_74 at h
  have hN := hm.2.2.2.2.2.2.1
  refine r_iconst (v := (0 : Int32)) hE dX13_isOn_74 (by decide) ?_
  exact km_isOn_75 hE hm _ _ _ _ h
def wm_isOn (post : MS → Int32 → Prop) (σ : MS) (a1 : Int32) (a2 : Int32) : Prop := vp_in a2 480 ∧ (wm_isLine (fun (s9 : MS) (r10 : Int32) => ((r10 = (0 : Int32)) → (vp_in a2 480 ∧ ((((m_sort s9 a2.toNatClampNeg) = (5 : Int32)) → (wm_centre (fun (s11 : MS) (r12 : Int32) => wm_dist (fun (s13 : MS) => vp_in ((m_piled s13) - (1 : Int32)) 40 ∧ (vp_in (((7 : Int32) * a2) + (2 : Int32)) 3360 ∧ (((¬ ((lg_cmp (m_top s13 ((m_piled s13) - (1 : Int32)).toNatClampNeg) (m_up s13 (((7 : Int32) * a2) + (2 : Int32)).toNatClampNeg)) = (0 : Int32))) → (wm_isOn_204 post s13)) ∧ (((lg_cmp (m_top s13 ((m_piled s13) - (1 : Int32)).toNatClampNeg) (m_up s13 (((7 : Int32) * a2) + (2 : Int32)).toNatClampNeg)) = (0 : Int32)) → (vp_in ((m_piled s13) - (1 : Int32)) 40 ∧ (vp_in (((7 : Int32) * a2) + (2 : Int32)) 3360 ∧ (((¬ ((lg_cmp (m_bottom s13 ((m_piled s13) - (1 : Int32)).toNatClampNeg) (m_low s13 (((7 : Int32) * a2) + (2 : Int32)).toNatClampNeg)) = (0 : Int32))) → (wm_isOn_204 post s13)) ∧ (((lg_cmp (m_bottom s13 ((m_piled s13) - (1 : Int32)).toNatClampNeg) (m_low s13 (((7 : Int32) * a2) + (2 : Int32)).toNatClampNeg)) = (0 : Int32)) → (wm_isOn_205 post s13 (1 : Int32)))))))))) s11 a1 r12) s9 a2)) ∧ ((¬ ((m_sort s9 a2.toNatClampNeg) = (5 : Int32))) → (wm_fail (fun (s14 : MS) => post s14 a1) s9 (2 : Int32)))))) ∧ ((¬ (r10 = (0 : Int32))) → (wm_through (fun (s15 : MS) => vp_in ((m_piled s15) - (1 : Int32)) 40 ∧ (vp_in (((7 : Int32) * a2) + (2 : Int32)) 3360 ∧ (((¬ ((lg_cmp (m_top s15 ((m_piled s15) - (1 : Int32)).toNatClampNeg) (m_up s15 (((7 : Int32) * a2) + (2 : Int32)).toNatClampNeg)) = (0 : Int32))) → (wm_isOn_74 post s15 a1 a2)) ∧ (((lg_cmp (m_top s15 ((m_piled s15) - (1 : Int32)).toNatClampNeg) (m_up s15 (((7 : Int32) * a2) + (2 : Int32)).toNatClampNeg)) = (0 : Int32)) → (vp_in ((m_piled s15) - (1 : Int32)) 40 ∧ (vp_in (((7 : Int32) * a2) + (2 : Int32)) 3360 ∧ (((¬ ((lg_cmp (m_bottom s15 ((m_piled s15) - (1 : Int32)).toNatClampNeg) (m_low s15 (((7 : Int32) * a2) + (2 : Int32)).toNatClampNeg)) = (0 : Int32))) → (wm_isOn_74 post s15 a1 a2)) ∧ (((lg_cmp (m_bottom s15 ((m_piled s15) - (1 : Int32)).toNatClampNeg) (m_low s15 (((7 : Int32) * a2) + (2 : Int32)).toNatClampNeg)) = (0 : Int32)) → (wm_isOn_75 post s15 a1 a2 (1 : Int32)))))))))) s9 a2 a1))) σ (m_sort σ a2.toNatClampNeg))
set_option maxRecDepth 20000 in
theorem km_isOn {l : Launch} {D : va_G} {cl : List vw_C} {G : gAd} {post : MS → Int32 → Prop} (hcl : mC cl) {σ : MS} {a1 : Int32} {a2 : Int32} (h : wm_isOn post σ a1 a2) : mMet l D cl G yX13_isOn cX13_isOn 4 (some .int) 5 [.ref (G.1 0), .int a1, .int a2] σ (qI post) := by
  unfold wm_isOn at h
  refine m_enter hcl (by decide +kernel) rfl [(0, .ref (G.1 0)), (1, .int a1), (2, .int a2)] rfl (Nat.le_of_ble_eq_true rfl) ?_
  intro E hE hm
  have hN := hm.2.2.2.2.2.2.1
  refine r_aload_n hE 0 dX13_isOn_0 rfl rfl ?_
  refine mg_sort hE hm dX13_isOn_1 ?_
  refine r_iload_n hE 2 dX13_isOn_4 rfl rfl ?_
  obtain ⟨hi, h⟩ := h
  refine ml_sort hE hm dX13_isOn_5 hi ?_
  refine m_callSi hE hm [.int (m_sort σ a2.toNatClampNeg)] [] mc_isLine (km_isLine hm.2.2.2.2.2.2.2.2 h) (by decide) rfl rfl (Nat.le_of_ble_eq_true rfl) dX13_isOn_6 (fun s9 r10 h => ?_)
  refine r_if_eq hE 120 dX13_isOn_9 (by decide) h (fun h => ?_) (fun h => ?_)
  · refine r_aload_n hE 0 dX13_isOn_120 rfl rfl ?_
    refine mg_sort hE hm dX13_isOn_121 ?_
    refine r_iload_n hE 2 dX13_isOn_124 rfl rfl ?_
    obtain ⟨hi, h⟩ := h
    refine ml_sort hE hm dX13_isOn_125 hi ?_
    refine r_iconst (v := (5 : Int32)) hE dX13_isOn_126 (by decide) ?_
    refine r_icmp_eq hE 137 dX13_isOn_127 (by decide) h (fun h => ?_) (fun h => ?_)
    · refine r_aload_n hE 0 dX13_isOn_137 rfl rfl ?_
      refine r_iload_n hE 1 dX13_isOn_138 rfl rfl ?_
      refine r_aload_n hE 0 dX13_isOn_139 rfl rfl ?_
      refine r_iload_n hE 2 dX13_isOn_140 rfl rfl ?_
      refine m_callVi hE hm [.int a2] [.int a1, .ref (G.1 0)] mc_centre (km_centre hm.2.2.2.2.2.2.2.2 h) (by decide) rfl rfl (Nat.le_of_ble_eq_true rfl) dX13_isOn_141 (fun s11 r12 h => ?_)
      refine m_callVv hE hm [.int a1, .int r12] [] mc_dist (km_dist hm.2.2.2.2.2.2.2.2 h) (by decide) rfl rfl (Nat.le_of_ble_eq_true rfl) dX13_isOn_144 (fun s13 h => ?_)
      refine r_aload_n hE 0 dX13_isOn_147 rfl rfl ?_
      refine r_aload_n hE 0 dX13_isOn_148 rfl rfl ?_
      refine mg_top hE hm dX13_isOn_149 ?_
      refine r_aload_n hE 0 dX13_isOn_152 rfl rfl ?_
      refine mg_piled hE hm dX13_isOn_153 ?_
      refine r_iconst (v := (1 : Int32)) hE dX13_isOn_156 (by decide) ?_
      refine r_isub hE dX13_isOn_157 ?_
      obtain ⟨hi, h⟩ := h
      refine ml_top hE hm dX13_isOn_158 hi ?_
      refine r_aload_n hE 0 dX13_isOn_159 rfl rfl ?_
      refine mg_up hE hm dX13_isOn_160 ?_
      refine r_bipush (v := (7 : Int32)) hE dX13_isOn_163 (by decide) ?_
      refine r_iload_n hE 2 dX13_isOn_165 rfl rfl ?_
      refine r_imul hE dX13_isOn_166 ?_
      refine r_iconst (v := (2 : Int32)) hE dX13_isOn_167 (by decide) ?_
      refine r_iadd hE dX13_isOn_168 ?_
      obtain ⟨hi, h⟩ := h
      refine ml_up hE hm dX13_isOn_169 hi ?_
      refine r_lcmp hE dX13_isOn_170 ?_
      refine r_if_ne hE 204 dX13_isOn_171 (by decide) h (fun h => ?_) (fun h => ?_)
      · refine r_pick [] rfl ?_
        exact km_isOn_204 hE hm _ h
      · refine r_aload_n hE 0 dX13_isOn_174 rfl rfl ?_
        refine mg_bottom hE hm dX13_isOn_175 ?_
        refine r_aload_n hE 0 dX13_isOn_178 rfl rfl ?_
        refine mg_piled hE hm dX13_isOn_179 ?_
        refine r_iconst (v := (1 : Int32)) hE dX13_isOn_182 (by decide) ?_
        refine r_isub hE dX13_isOn_183 ?_
        obtain ⟨hi, h⟩ := h
        refine ml_bottom hE hm dX13_isOn_184 hi ?_
        refine r_aload_n hE 0 dX13_isOn_185 rfl rfl ?_
        refine mg_low hE hm dX13_isOn_186 ?_
        refine r_bipush (v := (7 : Int32)) hE dX13_isOn_189 (by decide) ?_
        refine r_iload_n hE 2 dX13_isOn_191 rfl rfl ?_
        refine r_imul hE dX13_isOn_192 ?_
        refine r_iconst (v := (2 : Int32)) hE dX13_isOn_193 (by decide) ?_
        refine r_iadd hE dX13_isOn_194 ?_
        obtain ⟨hi, h⟩ := h
        refine ml_low hE hm dX13_isOn_195 hi ?_
        refine r_lcmp hE dX13_isOn_196 ?_
        refine r_if_ne hE 204 dX13_isOn_197 (by decide) h (fun h => ?_) (fun h => ?_)
        · refine r_pick [] rfl ?_
          exact km_isOn_204 hE hm _ h
        · refine r_iconst (v := (1 : Int32)) hE dX13_isOn_200 (by decide) ?_
          refine r_goto hE 205 dX13_isOn_201 (by decide) ?_
          refine r_pick [] rfl ?_
          exact km_isOn_205 hE hm _ _ h
    · refine r_aload_n hE 0 dX13_isOn_130 rfl rfl ?_
      refine r_iconst (v := (2 : Int32)) hE dX13_isOn_131 (by decide) ?_
      refine m_callVv hE hm [.int (2 : Int32)] [] mc_fail (km_fail hm.2.2.2.2.2.2.2.2 h) (by decide) rfl rfl (Nat.le_of_ble_eq_true rfl) dX13_isOn_132 (fun s14 h => ?_)
      refine r_iload_n hE 1 dX13_isOn_135 rfl rfl ?_
      exact m_iret hE hm dX13_isOn_136 h
  · refine r_aload_n hE 0 dX13_isOn_12 rfl rfl ?_
    refine r_iload_n hE 2 dX13_isOn_13 rfl rfl ?_
    refine r_iload_n hE 1 dX13_isOn_14 rfl rfl ?_
    refine m_callVv hE hm [.int a2, .int a1] [] mc_through (km_through hm.2.2.2.2.2.2.2.2 h) (by decide) rfl rfl (Nat.le_of_ble_eq_true rfl) dX13_isOn_15 (fun s15 h => ?_)
    refine r_aload_n hE 0 dX13_isOn_18 rfl rfl ?_
    refine mg_top hE hm dX13_isOn_19 ?_
    refine r_aload_n hE 0 dX13_isOn_22 rfl rfl ?_
    refine mg_piled hE hm dX13_isOn_23 ?_
    refine r_iconst (v := (1 : Int32)) hE dX13_isOn_26 (by decide) ?_
    refine r_isub hE dX13_isOn_27 ?_
    obtain ⟨hi, h⟩ := h
    refine ml_top hE hm dX13_isOn_28 hi ?_
    refine r_aload_n hE 0 dX13_isOn_29 rfl rfl ?_
    refine mg_up hE hm dX13_isOn_30 ?_
    refine r_bipush (v := (7 : Int32)) hE dX13_isOn_33 (by decide) ?_
    refine r_iload_n hE 2 dX13_isOn_35 rfl rfl ?_
    refine r_imul hE dX13_isOn_36 ?_
    refine r_iconst (v := (2 : Int32)) hE dX13_isOn_37 (by decide) ?_
    refine r_iadd hE dX13_isOn_38 ?_
    obtain ⟨hi, h⟩ := h
    refine ml_up hE hm dX13_isOn_39 hi ?_
    refine r_lcmp hE dX13_isOn_40 ?_
    refine r_if_ne hE 74 dX13_isOn_41 (by decide) h (fun h => ?_) (fun h => ?_)
    · exact km_isOn_74 hE hm _ _ _ h
    · refine r_aload_n hE 0 dX13_isOn_44 rfl rfl ?_
      refine mg_bottom hE hm dX13_isOn_45 ?_
      refine r_aload_n hE 0 dX13_isOn_48 rfl rfl ?_
      refine mg_piled hE hm dX13_isOn_49 ?_
      refine r_iconst (v := (1 : Int32)) hE dX13_isOn_52 (by decide) ?_
      refine r_isub hE dX13_isOn_53 ?_
      obtain ⟨hi, h⟩ := h
      refine ml_bottom hE hm dX13_isOn_54 hi ?_
      refine r_aload_n hE 0 dX13_isOn_55 rfl rfl ?_
      refine mg_low hE hm dX13_isOn_56 ?_
      refine r_bipush (v := (7 : Int32)) hE dX13_isOn_59 (by decide) ?_
      refine r_iload_n hE 2 dX13_isOn_61 rfl rfl ?_
      refine r_imul hE dX13_isOn_62 ?_
      refine r_iconst (v := (2 : Int32)) hE dX13_isOn_63 (by decide) ?_
      refine r_iadd hE dX13_isOn_64 ?_
      obtain ⟨hi, h⟩ := h
      refine ml_low hE hm dX13_isOn_65 hi ?_
      refine r_lcmp hE dX13_isOn_66 ?_
      refine r_if_ne hE 74 dX13_isOn_67 (by decide) h (fun h => ?_) (fun h => ?_)
      · exact km_isOn_74 hE hm _ _ _ h
      · refine r_iconst (v := (1 : Int32)) hE dX13_isOn_70 (by decide) ?_
        refine r_goto hE 75 dX13_isOn_71 (by decide) ?_
        exact km_isOn_75 hE hm _ _ _ _ h
/-! toolMore -/
def wm_toolMore_322 (post : MS → Int32 → Prop) (σ : MS) (t1 : Int32) : Prop := wm_yes (fun (s1 : MS) (r2 : Int32) => post s1 r2) σ t1
set_option maxRecDepth 20000 in
theorem km_toolMore_322 {E : gEnv} {l : Launch} {D : va_G} {cl : List vw_C} {G : gAd} {post : MS → Int32 → Prop} (hE : gOK E cX13_toolMore RX13 (some .int) 6) (hm : mOK E l D cl G (qI post) 4) (σ : MS) (t1 : Int32) (h : wm_toolMore_322 post σ t1) : GW E (mW G σ) 322 [] [.int t1, .ref (G.1 0)] := by
  unfold wm_toolMore_322 at h
  have hN := hm.2.2.2.2.2.2.1
  refine m_callVi hE hm [.int t1] [] mc_yes (km_yes hm.2.2.2.2.2.2.2.2 h) (by decide) rfl rfl (Nat.le_of_ble_eq_true rfl) dX13_toolMore_322 (fun s1 r2 h => ?_)
  exact m_iret hE hm dX13_toolMore_325 h
def wm_toolMore_129 (post : MS → Int32 → Prop) (σ : MS) (v2 : Int32) : Prop := wm_fail (fun (s3 : MS) => post s3 v2) σ (3 : Int32)
set_option maxRecDepth 20000 in
theorem km_toolMore_129 {E : gEnv} {l : Launch} {D : va_G} {cl : List vw_C} {G : gAd} {post : MS → Int32 → Prop} (hE : gOK E cX13_toolMore RX13 (some .int) 6) (hm : mOK E l D cl G (qI post) 4) (σ : MS) (v2 : Int32) (h : wm_toolMore_129 post σ v2) : GW E (mW G σ) 129 [(0, .ref (G.1 0)), (2, .int v2)] [] := by
  unfold wm_toolMore_129 at h
  have hN := hm.2.2.2.2.2.2.1
  refine r_aload_n hE 0 dX13_toolMore_129 rfl rfl ?_
  refine r_iconst (v := (3 : Int32)) hE dX13_toolMore_130 (by decide) ?_
  refine m_callVv hE hm [.int (3 : Int32)] [] mc_fail (km_fail hm.2.2.2.2.2.2.2.2 h) (by decide) rfl rfl (Nat.le_of_ble_eq_true rfl) dX13_toolMore_131 (fun s3 h => ?_)
  refine r_iload_n hE 1 dX13_toolMore_134 rfl rfl ?_
  exact m_iret hE hm dX13_toolMore_135 h
def wm_toolMore_260 (post : MS → Int32 → Prop) (σ : MS) (t1 : Int32) : Prop := wm_yes (fun (s4 : MS) (r5 : Int32) => post s4 r5) σ t1
set_option maxRecDepth 20000 in
theorem km_toolMore_260 {E : gEnv} {l : Launch} {D : va_G} {cl : List vw_C} {G : gAd} {post : MS → Int32 → Prop} (hE : gOK E cX13_toolMore RX13 (some .int) 6) (hm : mOK E l D cl G (qI post) 4) (σ : MS) (t1 : Int32) (h : wm_toolMore_260 post σ t1) : GW E (mW G σ) 260 [] [.int t1, .ref (G.1 0)] := by
  unfold wm_toolMore_260 at h
  have hN := hm.2.2.2.2.2.2.1
  refine m_callVi hE hm [.int t1] [] mc_yes (km_yes hm.2.2.2.2.2.2.2.2 h) (by decide) rfl rfl (Nat.le_of_ble_eq_true rfl) dX13_toolMore_260 (fun s4 r5 h => ?_)
  exact m_iret hE hm dX13_toolMore_263 h
def wm_toolMore_259 (post : MS → Int32 → Prop) (σ : MS) : Prop := wm_toolMore_260 post σ (0 : Int32)
set_option maxRecDepth 20000 in
theorem km_toolMore_259 {E : gEnv} {l : Launch} {D : va_G} {cl : List vw_C} {G : gAd} {post : MS → Int32 → Prop} (hE : gOK E cX13_toolMore RX13 (some .int) 6) (hm : mOK E l D cl G (qI post) 4) (σ : MS) (h : wm_toolMore_259 post σ) : GW E (mW G σ) 259 [] [.ref (G.1 0)] := by
  unfold wm_toolMore_259 at h
  have hN := hm.2.2.2.2.2.2.1
  refine r_iconst (v := (0 : Int32)) hE dX13_toolMore_259 (by decide) ?_
  exact km_toolMore_260 hE hm _ _ h
def wm_toolMore (post : MS → Int32 → Prop) (σ : MS) (a1 : Int32) (a2 : Int32) (a3 : Int32) : Prop := (a1 = (13 : Int32) → (wm_centre (fun (s6 : MS) (r7 : Int32) => wm_dist (fun (s8 : MS) => wm_part (fun (s9 : MS) => wm_less (fun (s10 : MS) => wm_told (fun (s11 : MS) (r12 : Int32) => post s11 r12) s10) s9) s8 a3 (2 : Int32)) s6 a2 r7) σ a3)) ∧ (¬ a1 = (13 : Int32) → ((a1 = (14 : Int32) → (wm_polar (fun (s13 : MS) (r14 : Int32) => post s13 r14) σ a2 a3)) ∧ (¬ a1 = (14 : Int32) → ((a1 = (15 : Int32) → (wm_invert (fun (s15 : MS) (r16 : Int32) => post s15 r16) σ a2 a3)) ∧ (¬ a1 = (15 : Int32) → ((a1 = (16 : Int32) → (wm_dist (fun (s17 : MS) => wm_told (fun (s18 : MS) (r19 : Int32) => post s18 r19) s17) σ a2 a3)) ∧ (¬ a1 = (16 : Int32) → ((a1 = (17 : Int32) → (vp_in ((7 : Int32) * a3) 3360 ∧ (((¬ ((lg_cmp (m_low σ ((7 : Int32) * a3).toNatClampNeg) (1 : Int64)) = (0 : Int32))) → (wm_toolMore_129 post σ a2)) ∧ (((lg_cmp (m_low σ ((7 : Int32) * a3).toNatClampNeg) (1 : Int64)) = (0 : Int32)) → (vp_in ((7 : Int32) * a3) 3360 ∧ (wm_in (fun (s20 : MS) (r21 : Int32) => ((¬ (r21 = (0 : Int32))) → (vp_in ((7 : Int32) * a3) 3360 ∧ (wm_endOf (fun (s22 : MS) (r23 : Int32) => post s22 r23) s20 a2 ((m_up s20 ((7 : Int32) * a3).toNatClampNeg).toInt32)))) ∧ ((r21 = (0 : Int32)) → (wm_toolMore_129 post s20 a2))) σ (m_up σ ((7 : Int32) * a3).toNatClampNeg) (0 : Int64) (1 : Int64))))))) ∧ (¬ a1 = (17 : Int32) → ((a1 = (18 : Int32) → (wm_isOn (fun (s24 : MS) (r25 : Int32) => post s24 r25) σ a2 a3)) ∧ (¬ a1 = (18 : Int32) → ((a1 = (19 : Int32) → (wm_areLike (fun (s26 : MS) (r27 : Int32) => wm_yes (fun (s28 : MS) (r29 : Int32) => post s28 r29) s26 r27) σ a2 a3)) ∧ (¬ a1 = (19 : Int32) → ((a1 = (20 : Int32) → (wm_part (fun (s30 : MS) => wm_part (fun (s31 : MS) => wm_times (fun (s32 : MS) => wm_part (fun (s33 : MS) => wm_part (fun (s34 : MS) => wm_times (fun (s35 : MS) => vp_in ((m_piled s35) - (1 : Int32)) 40 ∧ (vp_in ((m_piled s35) - (2 : Int32)) 40 ∧ (((¬ ((lg_cmp (m_top s35 ((m_piled s35) - (1 : Int32)).toNatClampNeg) (m_top s35 ((m_piled s35) - (2 : Int32)).toNatClampNeg)) = (0 : Int32))) → (wm_toolMore_259 post s35)) ∧ (((lg_cmp (m_top s35 ((m_piled s35) - (1 : Int32)).toNatClampNeg) (m_top s35 ((m_piled s35) - (2 : Int32)).toNatClampNeg)) = (0 : Int32)) → (vp_in ((m_piled s35) - (1 : Int32)) 40 ∧ (vp_in ((m_piled s35) - (2 : Int32)) 40 ∧ (((¬ ((lg_cmp (m_bottom s35 ((m_piled s35) - (1 : Int32)).toNatClampNeg) (m_bottom s35 ((m_piled s35) - (2 : Int32)).toNatClampNeg)) = (0 : Int32))) → (wm_toolMore_259 post s35)) ∧ (((lg_cmp (m_bottom s35 ((m_piled s35) - (1 : Int32)).toNatClampNeg) (m_bottom s35 ((m_piled s35) - (2 : Int32)).toNatClampNeg)) = (0 : Int32)) → (wm_toolMore_260 post s35 (1 : Int32)))))))))) s34) s33 a2 (1 : Int32)) s32 a3 (0 : Int32)) s31) s30 a3 (1 : Int32)) σ a2 (0 : Int32))) ∧ (¬ a1 = (20 : Int32) → (wm_part (fun (s36 : MS) => wm_part (fun (s37 : MS) => wm_times (fun (s38 : MS) => wm_part (fun (s39 : MS) => wm_part (fun (s40 : MS) => wm_times (fun (s41 : MS) => wm_plus (fun (s42 : MS) => vp_in ((m_piled s42) - (1 : Int32)) 40 ∧ (((¬ ((lg_cmp (m_top s42 ((m_piled s42) - (1 : Int32)).toNatClampNeg) (0 : Int64)) = (0 : Int32))) → (wm_toolMore_322 post s42 (0 : Int32))) ∧ (((lg_cmp (m_top s42 ((m_piled s42) - (1 : Int32)).toNatClampNeg) (0 : Int64)) = (0 : Int32)) → (wm_toolMore_322 post s42 (1 : Int32))))) s41) s40) s39 a3 (1 : Int32)) s38 a2 (1 : Int32)) s37) s36 a3 (0 : Int32)) σ a2 (0 : Int32)))))))))))))))))
set_option maxRecDepth 20000 in
theorem km_toolMore {l : Launch} {D : va_G} {cl : List vw_C} {G : gAd} {post : MS → Int32 → Prop} (hcl : mC cl) {σ : MS} {a1 : Int32} {a2 : Int32} {a3 : Int32} (h : wm_toolMore post σ a1 a2 a3) : mMet l D cl G yX13_toolMore cX13_toolMore 4 (some .int) 6 [.ref (G.1 0), .int a1, .int a2, .int a3] σ (qI post) := by
  unfold wm_toolMore at h
  refine m_enter hcl (by decide +kernel) rfl [(0, .ref (G.1 0)), (1, .int a1), (2, .int a2), (3, .int a3)] rfl (Nat.le_of_ble_eq_true rfl) ?_
  intro E hE hm
  have hN := hm.2.2.2.2.2.2.1
  refine r_iload_n hE 1 dX13_toolMore_0 rfl rfl ?_
  refine r_case (13 : Int32) h (fun q0 h => ?_) (fun q0 h => ?_)
  · refine r_tableAt (off := 47) hE (13 : Int32) 48 dX13_toolMore_1 q0 (by decide) (by decide) (by decide) (by decide) ?_
    refine r_aload_n hE 0 dX13_toolMore_48 rfl rfl ?_
    refine r_iload_n hE 2 dX13_toolMore_49 rfl rfl ?_
    refine r_aload_n hE 0 dX13_toolMore_50 rfl rfl ?_
    refine r_iload_n hE 3 dX13_toolMore_51 rfl rfl ?_
    refine m_callVi hE hm [.int a3] [.int a2, .ref (G.1 0)] mc_centre (km_centre hm.2.2.2.2.2.2.2.2 h) (by decide) rfl rfl (Nat.le_of_ble_eq_true rfl) dX13_toolMore_52 (fun s6 r7 h => ?_)
    refine m_callVv hE hm [.int a2, .int r7] [] mc_dist (km_dist hm.2.2.2.2.2.2.2.2 h) (by decide) rfl rfl (Nat.le_of_ble_eq_true rfl) dX13_toolMore_55 (fun s8 h => ?_)
    refine r_aload_n hE 0 dX13_toolMore_58 rfl rfl ?_
    refine r_iload_n hE 3 dX13_toolMore_59 rfl rfl ?_
    refine r_iconst (v := (2 : Int32)) hE dX13_toolMore_60 (by decide) ?_
    refine m_callVv hE hm [.int a3, .int (2 : Int32)] [] mc_part (km_part hm.2.2.2.2.2.2.2.2 h) (by decide) rfl rfl (Nat.le_of_ble_eq_true rfl) dX13_toolMore_61 (fun s9 h => ?_)
    refine r_aload_n hE 0 dX13_toolMore_64 rfl rfl ?_
    refine m_callVv hE hm [] [] mc_less (km_less hm.2.2.2.2.2.2.2.2 h) (by decide) rfl rfl (Nat.le_of_ble_eq_true rfl) dX13_toolMore_65 (fun s10 h => ?_)
    refine r_aload_n hE 0 dX13_toolMore_68 rfl rfl ?_
    refine m_callVi hE hm [] [] mc_told (km_told hm.2.2.2.2.2.2.2.2 h) (by decide) rfl rfl (Nat.le_of_ble_eq_true rfl) dX13_toolMore_69 (fun s11 r12 h => ?_)
    exact m_iret hE hm dX13_toolMore_72 h
  · refine r_case (14 : Int32) h (fun q1 h => ?_) (fun q1 h => ?_)
    · refine r_tableAt (off := 72) hE (14 : Int32) 73 dX13_toolMore_1 q1 (by decide) (by decide) (by decide) (by decide) ?_
      refine r_aload_n hE 0 dX13_toolMore_73 rfl rfl ?_
      refine r_iload_n hE 2 dX13_toolMore_74 rfl rfl ?_
      refine r_iload_n hE 3 dX13_toolMore_75 rfl rfl ?_
      refine m_callVi hE hm [.int a2, .int a3] [] mc_polar (km_polar hm.2.2.2.2.2.2.2.2 h) (by decide) rfl rfl (Nat.le_of_ble_eq_true rfl) dX13_toolMore_76 (fun s13 r14 h => ?_)
      exact m_iret hE hm dX13_toolMore_79 h
    · refine r_case (15 : Int32) h (fun q2 h => ?_) (fun q2 h => ?_)
      · refine r_tableAt (off := 79) hE (15 : Int32) 80 dX13_toolMore_1 q2 (by decide) (by decide) (by decide) (by decide) ?_
        refine r_aload_n hE 0 dX13_toolMore_80 rfl rfl ?_
        refine r_iload_n hE 2 dX13_toolMore_81 rfl rfl ?_
        refine r_iload_n hE 3 dX13_toolMore_82 rfl rfl ?_
        refine m_callVi hE hm [.int a2, .int a3] [] mc_invert (km_invert hm.2.2.2.2.2.2.2.2 h) (by decide) rfl rfl (Nat.le_of_ble_eq_true rfl) dX13_toolMore_83 (fun s15 r16 h => ?_)
        exact m_iret hE hm dX13_toolMore_86 h
      · refine r_case (16 : Int32) h (fun q3 h => ?_) (fun q3 h => ?_)
        · refine r_tableAt (off := 86) hE (16 : Int32) 87 dX13_toolMore_1 q3 (by decide) (by decide) (by decide) (by decide) ?_
          refine r_aload_n hE 0 dX13_toolMore_87 rfl rfl ?_
          refine r_iload_n hE 2 dX13_toolMore_88 rfl rfl ?_
          refine r_iload_n hE 3 dX13_toolMore_89 rfl rfl ?_
          refine m_callVv hE hm [.int a2, .int a3] [] mc_dist (km_dist hm.2.2.2.2.2.2.2.2 h) (by decide) rfl rfl (Nat.le_of_ble_eq_true rfl) dX13_toolMore_90 (fun s17 h => ?_)
          refine r_aload_n hE 0 dX13_toolMore_93 rfl rfl ?_
          refine m_callVi hE hm [] [] mc_told (km_told hm.2.2.2.2.2.2.2.2 h) (by decide) rfl rfl (Nat.le_of_ble_eq_true rfl) dX13_toolMore_94 (fun s18 r19 h => ?_)
          exact m_iret hE hm dX13_toolMore_97 h
        · refine r_case (17 : Int32) h (fun q4 h => ?_) (fun q4 h => ?_)
          · refine r_tableAt (off := 97) hE (17 : Int32) 98 dX13_toolMore_1 q4 (by decide) (by decide) (by decide) (by decide) ?_
            refine r_aload_n hE 0 dX13_toolMore_98 rfl rfl ?_
            refine mg_low hE hm dX13_toolMore_99 ?_
            refine r_bipush (v := (7 : Int32)) hE dX13_toolMore_102 (by decide) ?_
            refine r_iload_n hE 3 dX13_toolMore_104 rfl rfl ?_
            refine r_imul hE dX13_toolMore_105 ?_
            obtain ⟨hi, h⟩ := h
            refine ml_low hE hm dX13_toolMore_106 hi ?_
            refine r_lconst (v := (1 : Int64)) hE dX13_toolMore_107 (by decide) ?_
            refine r_lcmp hE dX13_toolMore_108 ?_
            refine r_if_ne hE 129 dX13_toolMore_109 (by decide) h (fun h => ?_) (fun h => ?_)
            · refine r_pick [0, 2] rfl ?_
              exact km_toolMore_129 hE hm _ _ h
            · refine r_aload_n hE 0 dX13_toolMore_112 rfl rfl ?_
              refine mg_up hE hm dX13_toolMore_113 ?_
              refine r_bipush (v := (7 : Int32)) hE dX13_toolMore_116 (by decide) ?_
              refine r_iload_n hE 3 dX13_toolMore_118 rfl rfl ?_
              refine r_imul hE dX13_toolMore_119 ?_
              obtain ⟨hi, h⟩ := h
              refine ml_up hE hm dX13_toolMore_120 hi ?_
              refine r_lconst (v := (0 : Int64)) hE dX13_toolMore_121 (by decide) ?_
              refine r_lconst (v := (1 : Int64)) hE dX13_toolMore_122 (by decide) ?_
              refine m_callSi hE hm [.long (m_up σ ((7 : Int32) * a3).toNatClampNeg), .long (0 : Int64), .long (1 : Int64)] [] mc_in (km_in hm.2.2.2.2.2.2.2.2 h) (by decide) rfl rfl (Nat.le_of_ble_eq_true rfl) dX13_toolMore_123 (fun s20 r21 h => ?_)
              refine r_if_ne hE 136 dX13_toolMore_126 (by decide) h (fun h => ?_) (fun h => ?_)
              · refine r_aload_n hE 0 dX13_toolMore_136 rfl rfl ?_
                refine r_iload_n hE 2 dX13_toolMore_137 rfl rfl ?_
                refine r_aload_n hE 0 dX13_toolMore_138 rfl rfl ?_
                refine mg_up hE hm dX13_toolMore_139 ?_
                refine r_bipush (v := (7 : Int32)) hE dX13_toolMore_142 (by decide) ?_
                refine r_iload_n hE 3 dX13_toolMore_144 rfl rfl ?_
                refine r_imul hE dX13_toolMore_145 ?_
                obtain ⟨hi, h⟩ := h
                refine ml_up hE hm dX13_toolMore_146 hi ?_
                refine r_l2i hE dX13_toolMore_147 ?_
                refine m_callVi hE hm [.int a2, .int ((m_up s20 ((7 : Int32) * a3).toNatClampNeg).toInt32)] [] mc_endOf (km_endOf hm.2.2.2.2.2.2.2.2 h) (by decide) rfl rfl (Nat.le_of_ble_eq_true rfl) dX13_toolMore_148 (fun s22 r23 h => ?_)
                exact m_iret hE hm dX13_toolMore_151 h
              · refine r_pick [0, 2] rfl ?_
                exact km_toolMore_129 hE hm _ _ h
          · refine r_case (18 : Int32) h (fun q5 h => ?_) (fun q5 h => ?_)
            · refine r_tableAt (off := 151) hE (18 : Int32) 152 dX13_toolMore_1 q5 (by decide) (by decide) (by decide) (by decide) ?_
              refine r_aload_n hE 0 dX13_toolMore_152 rfl rfl ?_
              refine r_iload_n hE 2 dX13_toolMore_153 rfl rfl ?_
              refine r_iload_n hE 3 dX13_toolMore_154 rfl rfl ?_
              refine m_callVi hE hm [.int a2, .int a3] [] mc_isOn (km_isOn hm.2.2.2.2.2.2.2.2 h) (by decide) rfl rfl (Nat.le_of_ble_eq_true rfl) dX13_toolMore_155 (fun s24 r25 h => ?_)
              exact m_iret hE hm dX13_toolMore_158 h
            · refine r_case (19 : Int32) h (fun q6 h => ?_) (fun q6 h => ?_)
              · refine r_tableAt (off := 158) hE (19 : Int32) 159 dX13_toolMore_1 q6 (by decide) (by decide) (by decide) (by decide) ?_
                refine r_aload_n hE 0 dX13_toolMore_159 rfl rfl ?_
                refine r_aload_n hE 0 dX13_toolMore_160 rfl rfl ?_
                refine r_iload_n hE 2 dX13_toolMore_161 rfl rfl ?_
                refine r_iload_n hE 3 dX13_toolMore_162 rfl rfl ?_
                refine m_callVi hE hm [.int a2, .int a3] [.ref (G.1 0)] mc_areLike (km_areLike hm.2.2.2.2.2.2.2.2 h) (by decide) rfl rfl (Nat.le_of_ble_eq_true rfl) dX13_toolMore_163 (fun s26 r27 h => ?_)
                refine m_callVi hE hm [.int r27] [] mc_yes (km_yes hm.2.2.2.2.2.2.2.2 h) (by decide) rfl rfl (Nat.le_of_ble_eq_true rfl) dX13_toolMore_166 (fun s28 r29 h => ?_)
                exact m_iret hE hm dX13_toolMore_169 h
              · refine r_case (20 : Int32) h (fun q7 h => ?_) (fun q7 h => ?_)
                · refine r_tableAt (off := 169) hE (20 : Int32) 170 dX13_toolMore_1 q7 (by decide) (by decide) (by decide) (by decide) ?_
                  refine r_aload_n hE 0 dX13_toolMore_170 rfl rfl ?_
                  refine r_iload_n hE 2 dX13_toolMore_171 rfl rfl ?_
                  refine r_iconst (v := (0 : Int32)) hE dX13_toolMore_172 (by decide) ?_
                  refine m_callVv hE hm [.int a2, .int (0 : Int32)] [] mc_part (km_part hm.2.2.2.2.2.2.2.2 h) (by decide) rfl rfl (Nat.le_of_ble_eq_true rfl) dX13_toolMore_173 (fun s30 h => ?_)
                  refine r_aload_n hE 0 dX13_toolMore_176 rfl rfl ?_
                  refine r_iload_n hE 3 dX13_toolMore_177 rfl rfl ?_
                  refine r_iconst (v := (1 : Int32)) hE dX13_toolMore_178 (by decide) ?_
                  refine m_callVv hE hm [.int a3, .int (1 : Int32)] [] mc_part (km_part hm.2.2.2.2.2.2.2.2 h) (by decide) rfl rfl (Nat.le_of_ble_eq_true rfl) dX13_toolMore_179 (fun s31 h => ?_)
                  refine r_aload_n hE 0 dX13_toolMore_182 rfl rfl ?_
                  refine m_callVv hE hm [] [] mc_times (km_times hm.2.2.2.2.2.2.2.2 h) (by decide) rfl rfl (Nat.le_of_ble_eq_true rfl) dX13_toolMore_183 (fun s32 h => ?_)
                  refine r_aload_n hE 0 dX13_toolMore_186 rfl rfl ?_
                  refine r_iload_n hE 3 dX13_toolMore_187 rfl rfl ?_
                  refine r_iconst (v := (0 : Int32)) hE dX13_toolMore_188 (by decide) ?_
                  refine m_callVv hE hm [.int a3, .int (0 : Int32)] [] mc_part (km_part hm.2.2.2.2.2.2.2.2 h) (by decide) rfl rfl (Nat.le_of_ble_eq_true rfl) dX13_toolMore_189 (fun s33 h => ?_)
                  refine r_aload_n hE 0 dX13_toolMore_192 rfl rfl ?_
                  refine r_iload_n hE 2 dX13_toolMore_193 rfl rfl ?_
                  refine r_iconst (v := (1 : Int32)) hE dX13_toolMore_194 (by decide) ?_
                  refine m_callVv hE hm [.int a2, .int (1 : Int32)] [] mc_part (km_part hm.2.2.2.2.2.2.2.2 h) (by decide) rfl rfl (Nat.le_of_ble_eq_true rfl) dX13_toolMore_195 (fun s34 h => ?_)
                  refine r_aload_n hE 0 dX13_toolMore_198 rfl rfl ?_
                  refine m_callVv hE hm [] [] mc_times (km_times hm.2.2.2.2.2.2.2.2 h) (by decide) rfl rfl (Nat.le_of_ble_eq_true rfl) dX13_toolMore_199 (fun s35 h => ?_)
                  refine r_aload_n hE 0 dX13_toolMore_202 rfl rfl ?_
                  refine r_aload_n hE 0 dX13_toolMore_203 rfl rfl ?_
                  refine mg_top hE hm dX13_toolMore_204 ?_
                  refine r_aload_n hE 0 dX13_toolMore_207 rfl rfl ?_
                  refine mg_piled hE hm dX13_toolMore_208 ?_
                  refine r_iconst (v := (1 : Int32)) hE dX13_toolMore_211 (by decide) ?_
                  refine r_isub hE dX13_toolMore_212 ?_
                  obtain ⟨hi, h⟩ := h
                  refine ml_top hE hm dX13_toolMore_213 hi ?_
                  refine r_aload_n hE 0 dX13_toolMore_214 rfl rfl ?_
                  refine mg_top hE hm dX13_toolMore_215 ?_
                  refine r_aload_n hE 0 dX13_toolMore_218 rfl rfl ?_
                  refine mg_piled hE hm dX13_toolMore_219 ?_
                  refine r_iconst (v := (2 : Int32)) hE dX13_toolMore_222 (by decide) ?_
                  refine r_isub hE dX13_toolMore_223 ?_
                  obtain ⟨hi, h⟩ := h
                  refine ml_top hE hm dX13_toolMore_224 hi ?_
                  refine r_lcmp hE dX13_toolMore_225 ?_
                  refine r_if_ne hE 259 dX13_toolMore_226 (by decide) h (fun h => ?_) (fun h => ?_)
                  · refine r_pick [] rfl ?_
                    exact km_toolMore_259 hE hm _ h
                  · refine r_aload_n hE 0 dX13_toolMore_229 rfl rfl ?_
                    refine mg_bottom hE hm dX13_toolMore_230 ?_
                    refine r_aload_n hE 0 dX13_toolMore_233 rfl rfl ?_
                    refine mg_piled hE hm dX13_toolMore_234 ?_
                    refine r_iconst (v := (1 : Int32)) hE dX13_toolMore_237 (by decide) ?_
                    refine r_isub hE dX13_toolMore_238 ?_
                    obtain ⟨hi, h⟩ := h
                    refine ml_bottom hE hm dX13_toolMore_239 hi ?_
                    refine r_aload_n hE 0 dX13_toolMore_240 rfl rfl ?_
                    refine mg_bottom hE hm dX13_toolMore_241 ?_
                    refine r_aload_n hE 0 dX13_toolMore_244 rfl rfl ?_
                    refine mg_piled hE hm dX13_toolMore_245 ?_
                    refine r_iconst (v := (2 : Int32)) hE dX13_toolMore_248 (by decide) ?_
                    refine r_isub hE dX13_toolMore_249 ?_
                    obtain ⟨hi, h⟩ := h
                    refine ml_bottom hE hm dX13_toolMore_250 hi ?_
                    refine r_lcmp hE dX13_toolMore_251 ?_
                    refine r_if_ne hE 259 dX13_toolMore_252 (by decide) h (fun h => ?_) (fun h => ?_)
                    · refine r_pick [] rfl ?_
                      exact km_toolMore_259 hE hm _ h
                    · refine r_iconst (v := (1 : Int32)) hE dX13_toolMore_255 (by decide) ?_
                      refine r_goto hE 260 dX13_toolMore_256 (by decide) ?_
                      refine r_pick [] rfl ?_
                      exact km_toolMore_260 hE hm _ _ h
                · have n0 := lv_neT q0 (show (13 : Int32).toInt = 13 by decide)
                  have n1 := lv_neT q1 (show (14 : Int32).toInt = 14 by decide)
                  have n2 := lv_neT q2 (show (15 : Int32).toInt = 15 by decide)
                  have n3 := lv_neT q3 (show (16 : Int32).toInt = 16 by decide)
                  have n4 := lv_neT q4 (show (17 : Int32).toInt = 17 by decide)
                  have n5 := lv_neT q5 (show (18 : Int32).toInt = 18 by decide)
                  have n6 := lv_neT q6 (show (19 : Int32).toInt = 19 by decide)
                  have n7 := lv_neT q7 (show (20 : Int32).toInt = 20 by decide)
                  refine r_tableOut hE 264 dX13_toolMore_1 (by omega) (by decide) ?_
                  refine r_aload_n hE 0 dX13_toolMore_264 rfl rfl ?_
                  refine r_iload_n hE 2 dX13_toolMore_265 rfl rfl ?_
                  refine r_iconst (v := (0 : Int32)) hE dX13_toolMore_266 (by decide) ?_
                  refine m_callVv hE hm [.int a2, .int (0 : Int32)] [] mc_part (km_part hm.2.2.2.2.2.2.2.2 h) (by decide) rfl rfl (Nat.le_of_ble_eq_true rfl) dX13_toolMore_267 (fun s36 h => ?_)
                  refine r_aload_n hE 0 dX13_toolMore_270 rfl rfl ?_
                  refine r_iload_n hE 3 dX13_toolMore_271 rfl rfl ?_
                  refine r_iconst (v := (0 : Int32)) hE dX13_toolMore_272 (by decide) ?_
                  refine m_callVv hE hm [.int a3, .int (0 : Int32)] [] mc_part (km_part hm.2.2.2.2.2.2.2.2 h) (by decide) rfl rfl (Nat.le_of_ble_eq_true rfl) dX13_toolMore_273 (fun s37 h => ?_)
                  refine r_aload_n hE 0 dX13_toolMore_276 rfl rfl ?_
                  refine m_callVv hE hm [] [] mc_times (km_times hm.2.2.2.2.2.2.2.2 h) (by decide) rfl rfl (Nat.le_of_ble_eq_true rfl) dX13_toolMore_277 (fun s38 h => ?_)
                  refine r_aload_n hE 0 dX13_toolMore_280 rfl rfl ?_
                  refine r_iload_n hE 2 dX13_toolMore_281 rfl rfl ?_
                  refine r_iconst (v := (1 : Int32)) hE dX13_toolMore_282 (by decide) ?_
                  refine m_callVv hE hm [.int a2, .int (1 : Int32)] [] mc_part (km_part hm.2.2.2.2.2.2.2.2 h) (by decide) rfl rfl (Nat.le_of_ble_eq_true rfl) dX13_toolMore_283 (fun s39 h => ?_)
                  refine r_aload_n hE 0 dX13_toolMore_286 rfl rfl ?_
                  refine r_iload_n hE 3 dX13_toolMore_287 rfl rfl ?_
                  refine r_iconst (v := (1 : Int32)) hE dX13_toolMore_288 (by decide) ?_
                  refine m_callVv hE hm [.int a3, .int (1 : Int32)] [] mc_part (km_part hm.2.2.2.2.2.2.2.2 h) (by decide) rfl rfl (Nat.le_of_ble_eq_true rfl) dX13_toolMore_289 (fun s40 h => ?_)
                  refine r_aload_n hE 0 dX13_toolMore_292 rfl rfl ?_
                  refine m_callVv hE hm [] [] mc_times (km_times hm.2.2.2.2.2.2.2.2 h) (by decide) rfl rfl (Nat.le_of_ble_eq_true rfl) dX13_toolMore_293 (fun s41 h => ?_)
                  refine r_aload_n hE 0 dX13_toolMore_296 rfl rfl ?_
                  refine m_callVv hE hm [] [] mc_plus (km_plus hm.2.2.2.2.2.2.2.2 h) (by decide) rfl rfl (Nat.le_of_ble_eq_true rfl) dX13_toolMore_297 (fun s42 h => ?_)
                  refine r_aload_n hE 0 dX13_toolMore_300 rfl rfl ?_
                  refine r_aload_n hE 0 dX13_toolMore_301 rfl rfl ?_
                  refine mg_top hE hm dX13_toolMore_302 ?_
                  refine r_aload_n hE 0 dX13_toolMore_305 rfl rfl ?_
                  refine mg_piled hE hm dX13_toolMore_306 ?_
                  refine r_iconst (v := (1 : Int32)) hE dX13_toolMore_309 (by decide) ?_
                  refine r_isub hE dX13_toolMore_310 ?_
                  obtain ⟨hi, h⟩ := h
                  refine ml_top hE hm dX13_toolMore_311 hi ?_
                  refine r_lconst (v := (0 : Int64)) hE dX13_toolMore_312 (by decide) ?_
                  refine r_lcmp hE dX13_toolMore_313 ?_
                  refine r_if_ne hE 321 dX13_toolMore_314 (by decide) h (fun h => ?_) (fun h => ?_)
                  · refine r_iconst (v := (0 : Int32)) hE dX13_toolMore_321 (by decide) ?_
                    refine r_pick [] rfl ?_
                    exact km_toolMore_322 hE hm _ _ h
                  · refine r_iconst (v := (1 : Int32)) hE dX13_toolMore_317 (by decide) ?_
                    refine r_goto hE 322 dX13_toolMore_318 (by decide) ?_
                    refine r_pick [] rfl ?_
                    exact km_toolMore_322 hE hm _ _ h
/-! toolTwo -/
def wm_toolTwo_180 (post : MS → Int32 → Prop) (σ : MS) (v2 : Int32) (v3 : Int32) : Prop := wm_part (fun (s1 : MS) => wm_circle (fun (s2 : MS) (r3 : Int32) => post s2 r3) s1 v2) σ v3 (0 : Int32)
set_option maxRecDepth 20000 in
theorem km_toolTwo_180 {E : gEnv} {l : Launch} {D : va_G} {cl : List vw_C} {G : gAd} {post : MS → Int32 → Prop} (hE : gOK E cX13_toolTwo RX13 (some .int) 8) (hm : mOK E l D cl G (qI post) 4) (σ : MS) (v2 : Int32) (v3 : Int32) (h : wm_toolTwo_180 post σ v2 v3) : GW E (mW G σ) 180 [(0, .ref (G.1 0)), (2, .int v2), (3, .int v3)] [] := by
  unfold wm_toolTwo_180 at h
  have hN := hm.2.2.2.2.2.2.1
  refine r_aload_n hE 0 dX13_toolTwo_180 rfl rfl ?_
  refine r_iload_n hE 2 dX13_toolTwo_181 rfl rfl ?_
  refine r_iconst (v := (0 : Int32)) hE dX13_toolTwo_182 (by decide) ?_
  refine m_callVv hE hm [.int v3, .int (0 : Int32)] [] mc_part (km_part hm.2.2.2.2.2.2.2.2 h) (by decide) rfl rfl (Nat.le_of_ble_eq_true rfl) dX13_toolTwo_183 (fun s1 h => ?_)
  refine r_aload_n hE 0 dX13_toolTwo_186 rfl rfl ?_
  refine r_iload_n hE 1 dX13_toolTwo_187 rfl rfl ?_
  refine m_callVi hE hm [.int v2] [] mc_circle (km_circle hm.2.2.2.2.2.2.2.2 h) (by decide) rfl rfl (Nat.le_of_ble_eq_true rfl) dX13_toolTwo_188 (fun s2 r3 h => ?_)
  exact m_iret hE hm dX13_toolTwo_191 h
def wm_toolTwo (post : MS → Int32 → Prop) (σ : MS) (a1 : Int32) (a2 : Int32) (a3 : Int32) : Prop := (a1 = (0 : Int32) → (wm_newPoint (fun (s4 : MS) (r5 : Int32) => post s4 r5) σ (1 : Int32) a2 a3)) ∧ (¬ a1 = (0 : Int32) → ((a1 = (1 : Int32) → (wm_newFree (fun (s6 : MS) (r7 : Int32) => post s6 r7) σ a2 a3)) ∧ (¬ a1 = (1 : Int32) → ((a1 = (2 : Int32) → (wm_line (fun (s8 : MS) (r9 : Int32) => post s8 r9) σ a2 a3 (3 : Int32))) ∧ (¬ a1 = (2 : Int32) → ((a1 = (3 : Int32) → (wm_line (fun (s10 : MS) (r11 : Int32) => post s10 r11) σ a2 a3 (4 : Int32))) ∧ (¬ a1 = (3 : Int32) → ((a1 = (4 : Int32) → (wm_mid (fun (s12 : MS) (r13 : Int32) => post s12 r13) σ a2 a3)) ∧ (¬ a1 = (4 : Int32) → ((a1 = (5 : Int32) → (wm_foot (fun (s14 : MS) (r15 : Int32) => post s14 r15) σ a2 a3)) ∧ (¬ a1 = (5 : Int32) → ((a1 = (6 : Int32) → (wm_mirror (fun (s16 : MS) (r17 : Int32) => post s16 r17) σ a2 a3)) ∧ (¬ a1 = (6 : Int32) → ((a1 = (7 : Int32) → (wm_turn (fun (s18 : MS) (r19 : Int32) => post s18 r19) σ a2 a3)) ∧ (¬ a1 = (7 : Int32) → ((a1 = (8 : Int32) → (wm_par (fun (s20 : MS) (r21 : Int32) => post s20 r21) σ a2 a3)) ∧ (¬ a1 = (8 : Int32) → ((a1 = (9 : Int32) → (wm_perp (fun (s22 : MS) (r23 : Int32) => post s22 r23) σ a2 a3)) ∧ (¬ a1 = (9 : Int32) → ((a1 = (10 : Int32) → (wm_meet (fun (s24 : MS) (r25 : Int32) => post s24 r25) σ a2 a3)) ∧ (¬ a1 = (10 : Int32) → ((a1 = (11 : Int32) → (wm_dist (fun (s26 : MS) => wm_circle (fun (s27 : MS) (r28 : Int32) => post s27 r28) s26 a2) σ a2 a3)) ∧ (¬ a1 = (11 : Int32) → ((a1 = (12 : Int32) → (vp_in ((7 : Int32) * a3) 3360 ∧ ((((0 : Int32) ≤ (lg_cmp (m_up σ ((7 : Int32) * a3).toNatClampNeg) (0 : Int64))) → (wm_toolTwo_180 post σ a2 a3)) ∧ ((¬ ((0 : Int32) ≤ (lg_cmp (m_up σ ((7 : Int32) * a3).toNatClampNeg) (0 : Int64)))) → (wm_fail (fun (s29 : MS) => wm_toolTwo_180 post s29 a2 a3) σ (8 : Int32)))))) ∧ (¬ a1 = (12 : Int32) → (wm_toolMore (fun (s30 : MS) (r31 : Int32) => post s30 r31) σ a1 a2 a3))))))))))))))))))))))))))
set_option maxRecDepth 20000 in
theorem km_toolTwo {l : Launch} {D : va_G} {cl : List vw_C} {G : gAd} {post : MS → Int32 → Prop} (hcl : mC cl) {σ : MS} {a1 : Int32} {a2 : Int32} {a3 : Int32} (h : wm_toolTwo post σ a1 a2 a3) : mMet l D cl G yX13_toolTwo cX13_toolTwo 4 (some .int) 8 [.ref (G.1 0), .int a1, .int a2, .int a3] σ (qI post) := by
  unfold wm_toolTwo at h
  refine m_enter hcl (by decide +kernel) rfl [(0, .ref (G.1 0)), (1, .int a1), (2, .int a2), (3, .int a3)] rfl (Nat.le_of_ble_eq_true rfl) ?_
  intro E hE hm
  have hN := hm.2.2.2.2.2.2.1
  refine r_iload_n hE 1 dX13_toolTwo_0 rfl rfl ?_
  refine r_case (0 : Int32) h (fun q0 h => ?_) (fun q0 h => ?_)
  · refine r_tableAt (off := 67) hE (0 : Int32) 68 dX13_toolTwo_1 q0 (by decide) (by decide) (by decide) (by decide) ?_
    refine r_aload_n hE 0 dX13_toolTwo_68 rfl rfl ?_
    refine r_iconst (v := (1 : Int32)) hE dX13_toolTwo_69 (by decide) ?_
    refine r_iload_n hE 2 dX13_toolTwo_70 rfl rfl ?_
    refine r_iload_n hE 3 dX13_toolTwo_71 rfl rfl ?_
    refine m_callVi hE hm [.int (1 : Int32), .int a2, .int a3] [] mc_newPoint (km_newPoint hm.2.2.2.2.2.2.2.2 h) (by decide) rfl rfl (Nat.le_of_ble_eq_true rfl) dX13_toolTwo_72 (fun s4 r5 h => ?_)
    exact m_iret hE hm dX13_toolTwo_75 h
  · refine r_case (1 : Int32) h (fun q1 h => ?_) (fun q1 h => ?_)
    · refine r_tableAt (off := 75) hE (1 : Int32) 76 dX13_toolTwo_1 q1 (by decide) (by decide) (by decide) (by decide) ?_
      refine r_aload_n hE 0 dX13_toolTwo_76 rfl rfl ?_
      refine r_iload_n hE 2 dX13_toolTwo_77 rfl rfl ?_
      refine r_iload_n hE 3 dX13_toolTwo_78 rfl rfl ?_
      refine m_callVi hE hm [.int a2, .int a3] [] mc_newFree (km_newFree hm.2.2.2.2.2.2.2.2 h) (by decide) rfl rfl (Nat.le_of_ble_eq_true rfl) dX13_toolTwo_79 (fun s6 r7 h => ?_)
      exact m_iret hE hm dX13_toolTwo_82 h
    · refine r_case (2 : Int32) h (fun q2 h => ?_) (fun q2 h => ?_)
      · refine r_tableAt (off := 82) hE (2 : Int32) 83 dX13_toolTwo_1 q2 (by decide) (by decide) (by decide) (by decide) ?_
        refine r_aload_n hE 0 dX13_toolTwo_83 rfl rfl ?_
        refine r_iload_n hE 2 dX13_toolTwo_84 rfl rfl ?_
        refine r_iload_n hE 3 dX13_toolTwo_85 rfl rfl ?_
        refine r_iconst (v := (3 : Int32)) hE dX13_toolTwo_86 (by decide) ?_
        refine m_callVi hE hm [.int a2, .int a3, .int (3 : Int32)] [] mc_line (km_line hm.2.2.2.2.2.2.2.2 h) (by decide) rfl rfl (Nat.le_of_ble_eq_true rfl) dX13_toolTwo_87 (fun s8 r9 h => ?_)
        exact m_iret hE hm dX13_toolTwo_90 h
      · refine r_case (3 : Int32) h (fun q3 h => ?_) (fun q3 h => ?_)
        · refine r_tableAt (off := 90) hE (3 : Int32) 91 dX13_toolTwo_1 q3 (by decide) (by decide) (by decide) (by decide) ?_
          refine r_aload_n hE 0 dX13_toolTwo_91 rfl rfl ?_
          refine r_iload_n hE 2 dX13_toolTwo_92 rfl rfl ?_
          refine r_iload_n hE 3 dX13_toolTwo_93 rfl rfl ?_
          refine r_iconst (v := (4 : Int32)) hE dX13_toolTwo_94 (by decide) ?_
          refine m_callVi hE hm [.int a2, .int a3, .int (4 : Int32)] [] mc_line (km_line hm.2.2.2.2.2.2.2.2 h) (by decide) rfl rfl (Nat.le_of_ble_eq_true rfl) dX13_toolTwo_95 (fun s10 r11 h => ?_)
          exact m_iret hE hm dX13_toolTwo_98 h
        · refine r_case (4 : Int32) h (fun q4 h => ?_) (fun q4 h => ?_)
          · refine r_tableAt (off := 98) hE (4 : Int32) 99 dX13_toolTwo_1 q4 (by decide) (by decide) (by decide) (by decide) ?_
            refine r_aload_n hE 0 dX13_toolTwo_99 rfl rfl ?_
            refine r_iload_n hE 2 dX13_toolTwo_100 rfl rfl ?_
            refine r_iload_n hE 3 dX13_toolTwo_101 rfl rfl ?_
            refine m_callVi hE hm [.int a2, .int a3] [] mc_mid (km_mid hm.2.2.2.2.2.2.2.2 h) (by decide) rfl rfl (Nat.le_of_ble_eq_true rfl) dX13_toolTwo_102 (fun s12 r13 h => ?_)
            exact m_iret hE hm dX13_toolTwo_105 h
          · refine r_case (5 : Int32) h (fun q5 h => ?_) (fun q5 h => ?_)
            · refine r_tableAt (off := 105) hE (5 : Int32) 106 dX13_toolTwo_1 q5 (by decide) (by decide) (by decide) (by decide) ?_
              refine r_aload_n hE 0 dX13_toolTwo_106 rfl rfl ?_
              refine r_iload_n hE 2 dX13_toolTwo_107 rfl rfl ?_
              refine r_iload_n hE 3 dX13_toolTwo_108 rfl rfl ?_
              refine m_callVi hE hm [.int a2, .int a3] [] mc_foot (km_foot hm.2.2.2.2.2.2.2.2 h) (by decide) rfl rfl (Nat.le_of_ble_eq_true rfl) dX13_toolTwo_109 (fun s14 r15 h => ?_)
              exact m_iret hE hm dX13_toolTwo_112 h
            · refine r_case (6 : Int32) h (fun q6 h => ?_) (fun q6 h => ?_)
              · refine r_tableAt (off := 112) hE (6 : Int32) 113 dX13_toolTwo_1 q6 (by decide) (by decide) (by decide) (by decide) ?_
                refine r_aload_n hE 0 dX13_toolTwo_113 rfl rfl ?_
                refine r_iload_n hE 2 dX13_toolTwo_114 rfl rfl ?_
                refine r_iload_n hE 3 dX13_toolTwo_115 rfl rfl ?_
                refine m_callVi hE hm [.int a2, .int a3] [] mc_mirror (km_mirror hm.2.2.2.2.2.2.2.2 h) (by decide) rfl rfl (Nat.le_of_ble_eq_true rfl) dX13_toolTwo_116 (fun s16 r17 h => ?_)
                exact m_iret hE hm dX13_toolTwo_119 h
              · refine r_case (7 : Int32) h (fun q7 h => ?_) (fun q7 h => ?_)
                · refine r_tableAt (off := 119) hE (7 : Int32) 120 dX13_toolTwo_1 q7 (by decide) (by decide) (by decide) (by decide) ?_
                  refine r_aload_n hE 0 dX13_toolTwo_120 rfl rfl ?_
                  refine r_iload_n hE 2 dX13_toolTwo_121 rfl rfl ?_
                  refine r_iload_n hE 3 dX13_toolTwo_122 rfl rfl ?_
                  refine m_callVi hE hm [.int a2, .int a3] [] mc_turn (km_turn hm.2.2.2.2.2.2.2.2 h) (by decide) rfl rfl (Nat.le_of_ble_eq_true rfl) dX13_toolTwo_123 (fun s18 r19 h => ?_)
                  exact m_iret hE hm dX13_toolTwo_126 h
                · refine r_case (8 : Int32) h (fun q8 h => ?_) (fun q8 h => ?_)
                  · refine r_tableAt (off := 126) hE (8 : Int32) 127 dX13_toolTwo_1 q8 (by decide) (by decide) (by decide) (by decide) ?_
                    refine r_aload_n hE 0 dX13_toolTwo_127 rfl rfl ?_
                    refine r_iload_n hE 2 dX13_toolTwo_128 rfl rfl ?_
                    refine r_iload_n hE 3 dX13_toolTwo_129 rfl rfl ?_
                    refine m_callVi hE hm [.int a2, .int a3] [] mc_par (km_par hm.2.2.2.2.2.2.2.2 h) (by decide) rfl rfl (Nat.le_of_ble_eq_true rfl) dX13_toolTwo_130 (fun s20 r21 h => ?_)
                    exact m_iret hE hm dX13_toolTwo_133 h
                  · refine r_case (9 : Int32) h (fun q9 h => ?_) (fun q9 h => ?_)
                    · refine r_tableAt (off := 133) hE (9 : Int32) 134 dX13_toolTwo_1 q9 (by decide) (by decide) (by decide) (by decide) ?_
                      refine r_aload_n hE 0 dX13_toolTwo_134 rfl rfl ?_
                      refine r_iload_n hE 2 dX13_toolTwo_135 rfl rfl ?_
                      refine r_iload_n hE 3 dX13_toolTwo_136 rfl rfl ?_
                      refine m_callVi hE hm [.int a2, .int a3] [] mc_perp (km_perp hm.2.2.2.2.2.2.2.2 h) (by decide) rfl rfl (Nat.le_of_ble_eq_true rfl) dX13_toolTwo_137 (fun s22 r23 h => ?_)
                      exact m_iret hE hm dX13_toolTwo_140 h
                    · refine r_case (10 : Int32) h (fun q10 h => ?_) (fun q10 h => ?_)
                      · refine r_tableAt (off := 140) hE (10 : Int32) 141 dX13_toolTwo_1 q10 (by decide) (by decide) (by decide) (by decide) ?_
                        refine r_aload_n hE 0 dX13_toolTwo_141 rfl rfl ?_
                        refine r_iload_n hE 2 dX13_toolTwo_142 rfl rfl ?_
                        refine r_iload_n hE 3 dX13_toolTwo_143 rfl rfl ?_
                        refine m_callVi hE hm [.int a2, .int a3] [] mc_meet (km_meet hm.2.2.2.2.2.2.2.2 h) (by decide) rfl rfl (Nat.le_of_ble_eq_true rfl) dX13_toolTwo_144 (fun s24 r25 h => ?_)
                        exact m_iret hE hm dX13_toolTwo_147 h
                      · refine r_case (11 : Int32) h (fun q11 h => ?_) (fun q11 h => ?_)
                        · refine r_tableAt (off := 147) hE (11 : Int32) 148 dX13_toolTwo_1 q11 (by decide) (by decide) (by decide) (by decide) ?_
                          refine r_aload_n hE 0 dX13_toolTwo_148 rfl rfl ?_
                          refine r_iload_n hE 2 dX13_toolTwo_149 rfl rfl ?_
                          refine r_iload_n hE 3 dX13_toolTwo_150 rfl rfl ?_
                          refine m_callVv hE hm [.int a2, .int a3] [] mc_dist (km_dist hm.2.2.2.2.2.2.2.2 h) (by decide) rfl rfl (Nat.le_of_ble_eq_true rfl) dX13_toolTwo_151 (fun s26 h => ?_)
                          refine r_aload_n hE 0 dX13_toolTwo_154 rfl rfl ?_
                          refine r_iload_n hE 2 dX13_toolTwo_155 rfl rfl ?_
                          refine m_callVi hE hm [.int a2] [] mc_circle (km_circle hm.2.2.2.2.2.2.2.2 h) (by decide) rfl rfl (Nat.le_of_ble_eq_true rfl) dX13_toolTwo_156 (fun s27 r28 h => ?_)
                          exact m_iret hE hm dX13_toolTwo_159 h
                        · refine r_case (12 : Int32) h (fun q12 h => ?_) (fun q12 h => ?_)
                          · refine r_tableAt (off := 159) hE (12 : Int32) 160 dX13_toolTwo_1 q12 (by decide) (by decide) (by decide) (by decide) ?_
                            refine r_aload_n hE 0 dX13_toolTwo_160 rfl rfl ?_
                            refine mg_up hE hm dX13_toolTwo_161 ?_
                            refine r_bipush (v := (7 : Int32)) hE dX13_toolTwo_164 (by decide) ?_
                            refine r_iload_n hE 3 dX13_toolTwo_166 rfl rfl ?_
                            refine r_imul hE dX13_toolTwo_167 ?_
                            obtain ⟨hi, h⟩ := h
                            refine ml_up hE hm dX13_toolTwo_168 hi ?_
                            refine r_lconst (v := (0 : Int64)) hE dX13_toolTwo_169 (by decide) ?_
                            refine r_lcmp hE dX13_toolTwo_170 ?_
                            refine r_if_ge hE 180 dX13_toolTwo_171 (by decide) h (fun h => ?_) (fun h => ?_)
                            · refine r_pick [0, 2, 3] rfl ?_
                              exact km_toolTwo_180 hE hm _ _ _ h
                            · refine r_aload_n hE 0 dX13_toolTwo_174 rfl rfl ?_
                              refine r_bipush (v := (8 : Int32)) hE dX13_toolTwo_175 (by decide) ?_
                              refine m_callVv hE hm [.int (8 : Int32)] [] mc_fail (km_fail hm.2.2.2.2.2.2.2.2 h) (by decide) rfl rfl (Nat.le_of_ble_eq_true rfl) dX13_toolTwo_177 (fun s29 h => ?_)
                              refine r_pick [0, 2, 3] rfl ?_
                              exact km_toolTwo_180 hE hm _ _ _ h
                          · have n0 := lv_neT q0 (show (0 : Int32).toInt = 0 by decide)
                            have n1 := lv_neT q1 (show (1 : Int32).toInt = 1 by decide)
                            have n2 := lv_neT q2 (show (2 : Int32).toInt = 2 by decide)
                            have n3 := lv_neT q3 (show (3 : Int32).toInt = 3 by decide)
                            have n4 := lv_neT q4 (show (4 : Int32).toInt = 4 by decide)
                            have n5 := lv_neT q5 (show (5 : Int32).toInt = 5 by decide)
                            have n6 := lv_neT q6 (show (6 : Int32).toInt = 6 by decide)
                            have n7 := lv_neT q7 (show (7 : Int32).toInt = 7 by decide)
                            have n8 := lv_neT q8 (show (8 : Int32).toInt = 8 by decide)
                            have n9 := lv_neT q9 (show (9 : Int32).toInt = 9 by decide)
                            have n10 := lv_neT q10 (show (10 : Int32).toInt = 10 by decide)
                            have n11 := lv_neT q11 (show (11 : Int32).toInt = 11 by decide)
                            have n12 := lv_neT q12 (show (12 : Int32).toInt = 12 by decide)
                            refine r_tableOut hE 192 dX13_toolTwo_1 (by omega) (by decide) ?_
                            refine r_aload_n hE 0 dX13_toolTwo_192 rfl rfl ?_
                            refine r_iload_n hE 1 dX13_toolTwo_193 rfl rfl ?_
                            refine r_iload_n hE 2 dX13_toolTwo_194 rfl rfl ?_
                            refine r_iload_n hE 3 dX13_toolTwo_195 rfl rfl ?_
                            refine m_callVi hE hm [.int a1, .int a2, .int a3] [] mc_toolMore (km_toolMore hm.2.2.2.2.2.2.2.2 h) (by decide) rfl rfl (Nat.le_of_ble_eq_true rfl) dX13_toolTwo_196 (fun s30 r31 h => ?_)
                            exact m_iret hE hm dX13_toolTwo_199 h
/-! applyTool -/
def wm_applyTool_439 (post : MS → Prop) (σ : MS) (v10 : Int32) (t1 : Int32) (t2 : Int32) : Prop := vp_in t1 480 ∧ (∀ s1 : MS, s1 = m_lean_s σ t1.toNatClampNeg t2 → wm_comes (fun (s2 : MS) => post s2) s1 v10)
set_option maxRecDepth 20000 in
theorem km_applyTool_439 {E : gEnv} {l : Launch} {D : va_G} {cl : List vw_C} {G : gAd} {post : MS → Prop} (hE : gOK E cX13_applyTool RX13 none 9) (hm : mOK E l D cl G (qV post) 13) (σ : MS) (v10 : Int32) (t1 : Int32) (t2 : Int32) (h : wm_applyTool_439 post σ v10 t1 t2) : GW E (mW G σ) 439 [(0, .ref (G.1 0)), (10, .int v10)] [.int t2, .int t1, .ref (G.1 57)] := by
  unfold wm_applyTool_439 at h
  have hN := hm.2.2.2.2.2.2.1
  obtain ⟨hi, h⟩ := h
  refine ms_lean hE hm dX13_applyTool_439 hi h (fun s1 h => ?_)
  refine r_aload_n hE 0 dX13_applyTool_440 rfl rfl ?_
  refine r_iload hE 1 dX13_applyTool_441 rfl ?_
  refine m_callVv hE hm [.int v10] [] mc_comes (km_comes hm.2.2.2.2.2.2.2.2 h) (by decide) rfl rfl (Nat.le_of_ble_eq_true rfl) dX13_applyTool_443 (fun s2 h => ?_)
  exact m_vret hE hm dX13_applyTool_446 h
def wm_applyTool_415 (post : MS → Prop) (σ : MS) (v9 : Int32) (v10 : Int32) (t1 : Int32) : Prop := vp_in v10 480 ∧ (((¬ ((m_sort σ v10.toNatClampNeg) = (2 : Int32))) → (wm_applyTool_439 post σ v10 t1 v9)) ∧ (((m_sort σ v10.toNatClampNeg) = (2 : Int32)) → (wm_freeLeans (fun (s3 : MS) (r4 : Int32) => wm_applyTool_439 post s3 v10 t1 r4) σ v10 v9)))
set_option maxRecDepth 20000 in
theorem km_applyTool_415 {E : gEnv} {l : Launch} {D : va_G} {cl : List vw_C} {G : gAd} {post : MS → Prop} (hE : gOK E cX13_applyTool RX13 none 9) (hm : mOK E l D cl G (qV post) 13) (σ : MS) (v9 : Int32) (v10 : Int32) (t1 : Int32) (h : wm_applyTool_415 post σ v9 v10 t1) : GW E (mW G σ) 415 [(0, .ref (G.1 0)), (9, .int v9), (10, .int v10)] [.int t1, .ref (G.1 57)] := by
  unfold wm_applyTool_415 at h
  have hN := hm.2.2.2.2.2.2.1
  refine r_aload_n hE 0 dX13_applyTool_415 rfl rfl ?_
  refine mg_sort hE hm dX13_applyTool_416 ?_
  refine r_iload hE 2 dX13_applyTool_419 rfl ?_
  obtain ⟨hi, h⟩ := h
  refine ml_sort hE hm dX13_applyTool_421 hi ?_
  refine r_iconst (v := (2 : Int32)) hE dX13_applyTool_422 (by decide) ?_
  refine r_icmp_ne hE 437 dX13_applyTool_423 (by decide) h (fun h => ?_) (fun h => ?_)
  · refine r_iload hE 1 dX13_applyTool_437 rfl ?_
    refine r_pick [0, 2] rfl ?_
    exact km_applyTool_439 hE hm _ _ _ _ h
  · refine r_aload_n hE 0 dX13_applyTool_426 rfl rfl ?_
    refine r_iload hE 2 dX13_applyTool_427 rfl ?_
    refine r_iload hE 1 dX13_applyTool_429 rfl ?_
    refine m_callVi hE hm [.int v10, .int v9] [.int t1, .ref (G.1 57)] mc_freeLeans (km_freeLeans hm.2.2.2.2.2.2.2.2 h) (by decide) rfl rfl (Nat.le_of_ble_eq_true rfl) dX13_applyTool_431 (fun s3 r4 h => ?_)
    refine r_goto hE 439 dX13_applyTool_434 (by decide) ?_
    refine r_pick [0, 2] rfl ?_
    exact km_applyTool_439 hE hm _ _ _ _ h
def wm_applyTool_320 (post : MS → Prop) : Nat → MS → Int32 → Int32 → Int32 → Int32 → Int32 → Prop
  | 0, _, _, _, _, _, _ => False
  | n + 1, σ, v2, v9, v10, v11, v12 => (((7 : Int32) ≤ v12) → (∀ s5 : MS, s5 = m_things_s σ (v10 + (1 : Int32)) → ((v2 < (9 : Int32)) → (wm_applyTool_415 post s5 v9 v10 v10)) ∧ ((¬ (v2 < (9 : Int32))) → ((((13 : Int32) ≤ v2) → (wm_applyTool_415 post s5 v9 v10 v10)) ∧ ((¬ ((13 : Int32) ≤ v2)) → (wm_applyTool_439 post s5 v10 v10 (0 : Int32))))))) ∧ ((¬ ((7 : Int32) ≤ v12)) → (vp_in (((7 : Int32) * v11) + v12) 3360 ∧ (vp_in (((7 : Int32) * v10) + v12) 3360 ∧ (∀ s6 : MS, s6 = m_up_s σ (((7 : Int32) * v10) + v12).toNatClampNeg (m_up σ (((7 : Int32) * v11) + v12).toNatClampNeg) → vp_in (((7 : Int32) * v11) + v12) 3360 ∧ (vp_in (((7 : Int32) * v10) + v12) 3360 ∧ (∀ s7 : MS, s7 = m_low_s s6 (((7 : Int32) * v10) + v12).toNatClampNeg (m_low s6 (((7 : Int32) * v11) + v12).toNatClampNeg) → ∀ x8 : Int32, x8 = v12 + (1 : Int32) → wm_applyTool_320 post n s7 v2 v9 v10 v11 x8))))))
set_option maxRecDepth 20000 in
theorem km_applyTool_320 {E : gEnv} {l : Launch} {D : va_G} {cl : List vw_C} {G : gAd} {post : MS → Prop} (hE : gOK E cX13_applyTool RX13 none 9) (hm : mOK E l D cl G (qV post) 13) : ∀ (n : Nat) (σ : MS) (v2 : Int32) (v9 : Int32) (v10 : Int32) (v11 : Int32) (v12 : Int32), wm_applyTool_320 post n σ v2 v9 v10 v11 v12 → GW E (mW G σ) 320 [(0, .ref (G.1 0)), (2, .int v2), (9, .int v9), (10, .int v10), (11, .int v11), (12, .int v12)] [] := by
  intro n
  induction n with
  | zero => intro σ v2 v9 v10 v11 v12 h; exact h.elim
  | succ n ih =>
    intro σ v2 v9 v10 v11 v12 h
    rw [wm_applyTool_320] at h
    have hN := hm.2.2.2.2.2.2.1
    refine r_iload hE 5 dX13_applyTool_320 rfl ?_
    refine r_bipush (v := (7 : Int32)) hE dX13_applyTool_322 (by decide) ?_
    refine r_icmp_ge hE 385 dX13_applyTool_324 (by decide) h (fun h => ?_) (fun h => ?_)
    · refine r_aload_n hE 0 dX13_applyTool_385 rfl rfl ?_
      refine r_iload hE 3 dX13_applyTool_386 rfl ?_
      refine r_iconst (v := (1 : Int32)) hE dX13_applyTool_388 (by decide) ?_
      refine r_iadd hE dX13_applyTool_389 ?_
      refine mp_things hE hm dX13_applyTool_390 h (fun s5 h => ?_)
      refine r_aload_n hE 0 dX13_applyTool_393 rfl rfl ?_
      refine mg_lean hE hm dX13_applyTool_394 ?_
      refine r_iload hE 3 dX13_applyTool_397 rfl ?_
      refine r_iload_n hE 1 dX13_applyTool_399 rfl rfl ?_
      refine r_bipush (v := (9 : Int32)) hE dX13_applyTool_400 (by decide) ?_
      refine r_icmp_lt hE 415 dX13_applyTool_402 (by decide) h (fun h => ?_) (fun h => ?_)
      · refine r_pick [0, 2, 3] rfl ?_
        exact km_applyTool_415 hE hm _ _ _ _ h
      · refine r_iload_n hE 1 dX13_applyTool_405 rfl rfl ?_
        refine r_bipush (v := (13 : Int32)) hE dX13_applyTool_406 (by decide) ?_
        refine r_icmp_ge hE 415 dX13_applyTool_408 (by decide) h (fun h => ?_) (fun h => ?_)
        · refine r_pick [0, 2, 3] rfl ?_
          exact km_applyTool_415 hE hm _ _ _ _ h
        · refine r_iconst (v := (0 : Int32)) hE dX13_applyTool_411 (by decide) ?_
          refine r_goto hE 439 dX13_applyTool_412 (by decide) ?_
          refine r_pick [0, 3] rfl ?_
          exact km_applyTool_439 hE hm _ _ _ _ h
    · refine r_aload_n hE 0 dX13_applyTool_327 rfl rfl ?_
      refine mg_up hE hm dX13_applyTool_328 ?_
      refine r_bipush (v := (7 : Int32)) hE dX13_applyTool_331 (by decide) ?_
      refine r_iload hE 3 dX13_applyTool_333 rfl ?_
      refine r_imul hE dX13_applyTool_335 ?_
      refine r_iload hE 5 dX13_applyTool_336 rfl ?_
      refine r_iadd hE dX13_applyTool_338 ?_
      refine r_aload_n hE 0 dX13_applyTool_339 rfl rfl ?_
      refine mg_up hE hm dX13_applyTool_340 ?_
      refine r_bipush (v := (7 : Int32)) hE dX13_applyTool_343 (by decide) ?_
      refine r_iload hE 4 dX13_applyTool_345 rfl ?_
      refine r_imul hE dX13_applyTool_347 ?_
      refine r_iload hE 5 dX13_applyTool_348 rfl ?_
      refine r_iadd hE dX13_applyTool_350 ?_
      obtain ⟨hi, h⟩ := h
      refine ml_up hE hm dX13_applyTool_351 hi ?_
      obtain ⟨hi, h⟩ := h
      refine ms_up hE hm dX13_applyTool_352 hi h (fun s6 h => ?_)
      refine r_aload_n hE 0 dX13_applyTool_353 rfl rfl ?_
      refine mg_low hE hm dX13_applyTool_354 ?_
      refine r_bipush (v := (7 : Int32)) hE dX13_applyTool_357 (by decide) ?_
      refine r_iload hE 3 dX13_applyTool_359 rfl ?_
      refine r_imul hE dX13_applyTool_361 ?_
      refine r_iload hE 5 dX13_applyTool_362 rfl ?_
      refine r_iadd hE dX13_applyTool_364 ?_
      refine r_aload_n hE 0 dX13_applyTool_365 rfl rfl ?_
      refine mg_low hE hm dX13_applyTool_366 ?_
      refine r_bipush (v := (7 : Int32)) hE dX13_applyTool_369 (by decide) ?_
      refine r_iload hE 4 dX13_applyTool_371 rfl ?_
      refine r_imul hE dX13_applyTool_373 ?_
      refine r_iload hE 5 dX13_applyTool_374 rfl ?_
      refine r_iadd hE dX13_applyTool_376 ?_
      obtain ⟨hi, h⟩ := h
      refine ml_low hE hm dX13_applyTool_377 hi ?_
      obtain ⟨hi, h⟩ := h
      refine ms_low hE hm dX13_applyTool_378 hi h (fun s7 h => ?_)
      obtain ⟨x8, ex8⟩ : ∃ z : Int32, z = v12 + (1 : Int32) := ⟨_, rfl⟩
      have h := h x8 ex8
      refine r_iinc (v := x8) hE [(12, .int x8), (0, .ref (G.1 0)), (2, .int v2), (9, .int v9), (10, .int v10), (11, .int v11)] 5 dX13_applyTool_379 rfl (by rw [ex8]; rfl) hN (by decide) rfl ?_
      refine r_goto hE 320 dX13_applyTool_382 (by decide) ?_
      refine r_pick [1, 2, 3, 4, 5, 0] rfl ?_
      exact ih _ _ _ _ _ _ h
def wm_applyTool_264 (post : MS → Prop) (σ : MS) (v1 : Int32) (v2 : Int32) (v9 : Int32) (v10 : Int32) (t0 : Int32) : Prop := (((m_failure σ) ≤ (0 : Int32)) → (vp_in t0 480 ∧ (vp_in v10 480 ∧ (∀ s9 : MS, s9 = m_sort_s σ v10.toNatClampNeg (m_sort σ t0.toNatClampNeg) → vp_in t0 480 ∧ (vp_in v10 480 ∧ (∀ s10 : MS, s10 = m_rowOf_s s9 v10.toNatClampNeg (m_rowOf s9 t0.toNatClampNeg) → ∃ k : Nat, wm_applyTool_320 post k s10 v2 v9 v10 t0 (0 : Int32))))))) ∧ ((¬ ((m_failure σ) ≤ (0 : Int32))) → (∀ s11 : MS, s11 = m_things_s σ v10 → wm_fails (fun (s12 : MS) => post s12) s11 (m_failure s11) v1))
set_option maxRecDepth 20000 in
theorem km_applyTool_264 {E : gEnv} {l : Launch} {D : va_G} {cl : List vw_C} {G : gAd} {post : MS → Prop} (hE : gOK E cX13_applyTool RX13 none 9) (hm : mOK E l D cl G (qV post) 13) (σ : MS) (v1 : Int32) (v2 : Int32) (v9 : Int32) (v10 : Int32) (t0 : Int32) (h : wm_applyTool_264 post σ v1 v2 v9 v10 t0) : GW E (mW G σ) 264 [(0, .ref (G.1 0)), (1, .int v1), (2, .int v2), (9, .int v9), (10, .int v10)] [.int t0] := by
  unfold wm_applyTool_264 at h
  have hN := hm.2.2.2.2.2.2.1
  refine r_istore hE [(11, .int t0), (0, .ref (G.1 0)), (1, .int v1), (2, .int v2), (9, .int v9), (10, .int v10)] dX13_applyTool_264 hN (by decide) rfl ?_
  refine r_aload_n hE 1 dX13_applyTool_266 rfl rfl ?_
  refine mg_failure hE hm dX13_applyTool_267 ?_
  refine r_if_le hE 289 dX13_applyTool_270 (by decide) h (fun h => ?_) (fun h => ?_)
  · refine r_aload_n hE 1 dX13_applyTool_289 rfl rfl ?_
    refine mg_sort hE hm dX13_applyTool_290 ?_
    refine r_iload hE 5 dX13_applyTool_293 rfl ?_
    refine r_aload_n hE 1 dX13_applyTool_295 rfl rfl ?_
    refine mg_sort hE hm dX13_applyTool_296 ?_
    refine r_iload hE 0 dX13_applyTool_299 rfl ?_
    obtain ⟨hi, h⟩ := h
    refine ml_sort hE hm dX13_applyTool_301 hi ?_
    obtain ⟨hi, h⟩ := h
    refine ms_sort hE hm dX13_applyTool_302 hi h (fun s9 h => ?_)
    refine r_aload_n hE 1 dX13_applyTool_303 rfl rfl ?_
    refine mg_rowOf hE hm dX13_applyTool_304 ?_
    refine r_iload hE 5 dX13_applyTool_307 rfl ?_
    refine r_aload_n hE 1 dX13_applyTool_309 rfl rfl ?_
    refine mg_rowOf hE hm dX13_applyTool_310 ?_
    refine r_iload hE 0 dX13_applyTool_313 rfl ?_
    obtain ⟨hi, h⟩ := h
    refine ml_rowOf hE hm dX13_applyTool_315 hi ?_
    obtain ⟨hi, h⟩ := h
    refine ms_rowOf hE hm dX13_applyTool_316 hi h (fun s10 h => ?_)
    refine r_iconst (v := (0 : Int32)) hE dX13_applyTool_317 (by decide) ?_
    refine r_istore hE [(12, .int (0 : Int32)), (11, .int t0), (0, .ref (G.1 0)), (1, .int v1), (2, .int v2), (9, .int v9), (10, .int v10)] dX13_applyTool_318 hN (by decide) rfl ?_
    refine r_pick [2, 4, 5, 6, 1, 0] rfl ?_
    obtain ⟨k, h⟩ := h
    exact km_applyTool_320 hE hm k _ _ _ _ _ _ h
  · refine r_aload_n hE 1 dX13_applyTool_273 rfl rfl ?_
    refine r_iload hE 5 dX13_applyTool_274 rfl ?_
    refine mp_things hE hm dX13_applyTool_276 h (fun s11 h => ?_)
    refine r_aload_n hE 1 dX13_applyTool_279 rfl rfl ?_
    refine r_aload_n hE 1 dX13_applyTool_280 rfl rfl ?_
    refine mg_failure hE hm dX13_applyTool_281 ?_
    refine r_iload_n hE 2 dX13_applyTool_284 rfl rfl ?_
    refine m_callVv hE hm [.int (m_failure s11), .int v1] [] mc_fails (km_fails hm.2.2.2.2.2.2.2.2 h) (by decide) rfl rfl (Nat.le_of_ble_eq_true rfl) dX13_applyTool_285 (fun s12 h => ?_)
    exact m_vret hE hm dX13_applyTool_288 h
def wm_applyTool_199 (post : MS → Prop) (σ : MS) (v1 : Int32) (v2 : Int32) (v4 : Int32) (v5 : Int32) (v6 : Int32) (t0 : Int32) (t1 : Int32) : Prop := ∀ x13 : Int32, x13 = t0 ||| t1 → ∀ x14 : Int32, x14 = m_things σ → ∀ s15 : MS, s15 = m_piled_s σ (0 : Int32) → (((13 : Int32) ≤ v2) → ((((35 : Int32) ≤ v2) → (wm_toolThree (fun (s16 : MS) (r17 : Int32) => wm_applyTool_264 post s16 v1 v2 x13 x14 r17) s15 (v2 - (35 : Int32)) v6 v5 v4)) ∧ ((¬ ((35 : Int32) ≤ v2)) → (wm_toolTwo (fun (s18 : MS) (r19 : Int32) => wm_applyTool_264 post s18 v1 v2 x13 x14 r19) s15 (v2 - (13 : Int32)) v6 v5)))) ∧ ((¬ ((13 : Int32) ≤ v2)) → (wm_toolOne (fun (s20 : MS) (r21 : Int32) => wm_applyTool_264 post s20 v1 v2 x13 x14 r21) s15 v2 v6))
set_option maxRecDepth 20000 in
theorem km_applyTool_199 {E : gEnv} {l : Launch} {D : va_G} {cl : List vw_C} {G : gAd} {post : MS → Prop} (hE : gOK E cX13_applyTool RX13 none 9) (hm : mOK E l D cl G (qV post) 13) (σ : MS) (v1 : Int32) (v2 : Int32) (v4 : Int32) (v5 : Int32) (v6 : Int32) (t0 : Int32) (t1 : Int32) (h : wm_applyTool_199 post σ v1 v2 v4 v5 v6 t0 t1) : GW E (mW G σ) 199 [(0, .ref (G.1 0)), (1, .int v1), (2, .int v2), (4, .int v4), (5, .int v5), (6, .int v6)] [.int t1, .int t0] := by
  unfold wm_applyTool_199 at h
  have hN := hm.2.2.2.2.2.2.1
  refine r_ior hE dX13_applyTool_199 ?_
  refine r_topi h (fun x13 ex13 h => ?_)
  refine r_istore hE [(9, .int x13), (0, .ref (G.1 0)), (1, .int v1), (2, .int v2), (4, .int v4), (5, .int v5), (6, .int v6)] dX13_applyTool_200 hN (by decide) rfl ?_
  refine r_aload_n hE 1 dX13_applyTool_202 rfl rfl ?_
  refine mg_things hE hm dX13_applyTool_203 ?_
  refine r_topi h (fun x14 ex14 h => ?_)
  refine r_istore hE [(10, .int x14), (9, .int x13), (0, .ref (G.1 0)), (1, .int v1), (2, .int v2), (4, .int v4), (5, .int v5), (6, .int v6)] dX13_applyTool_206 hN (by decide) rfl ?_
  refine r_aload_n hE 2 dX13_applyTool_208 rfl rfl ?_
  refine r_iconst (v := (0 : Int32)) hE dX13_applyTool_209 (by decide) ?_
  refine mp_piled hE hm dX13_applyTool_210 h (fun s15 h => ?_)
  refine r_iload_n hE 4 dX13_applyTool_213 rfl rfl ?_
  refine r_bipush (v := (13 : Int32)) hE dX13_applyTool_214 (by decide) ?_
  refine r_icmp_ge hE 229 dX13_applyTool_216 (by decide) h (fun h => ?_) (fun h => ?_)
  · refine r_iload_n hE 4 dX13_applyTool_229 rfl rfl ?_
    refine r_bipush (v := (35 : Int32)) hE dX13_applyTool_230 (by decide) ?_
    refine r_icmp_ge hE 250 dX13_applyTool_232 (by decide) h (fun h => ?_) (fun h => ?_)
    · refine r_aload_n hE 2 dX13_applyTool_250 rfl rfl ?_
      refine r_iload_n hE 4 dX13_applyTool_251 rfl rfl ?_
      refine r_bipush (v := (35 : Int32)) hE dX13_applyTool_252 (by decide) ?_
      refine r_isub hE dX13_applyTool_254 ?_
      refine r_iload hE 7 dX13_applyTool_255 rfl ?_
      refine r_iload hE 6 dX13_applyTool_257 rfl ?_
      refine r_iload hE 5 dX13_applyTool_259 rfl ?_
      refine m_callVi hE hm [.int (v2 - (35 : Int32)), .int v6, .int v5, .int v4] [] mc_toolThree (km_toolThree hm.2.2.2.2.2.2.2.2 h) (by decide) rfl rfl (Nat.le_of_ble_eq_true rfl) dX13_applyTool_261 (fun s16 r17 h => ?_)
      refine r_pick [2, 3, 4, 1, 0] rfl ?_
      exact km_applyTool_264 hE hm _ _ _ _ _ _ h
    · refine r_aload_n hE 2 dX13_applyTool_235 rfl rfl ?_
      refine r_iload_n hE 4 dX13_applyTool_236 rfl rfl ?_
      refine r_bipush (v := (13 : Int32)) hE dX13_applyTool_237 (by decide) ?_
      refine r_isub hE dX13_applyTool_239 ?_
      refine r_iload hE 7 dX13_applyTool_240 rfl ?_
      refine r_iload hE 6 dX13_applyTool_242 rfl ?_
      refine m_callVi hE hm [.int (v2 - (13 : Int32)), .int v6, .int v5] [] mc_toolTwo (km_toolTwo hm.2.2.2.2.2.2.2.2 h) (by decide) rfl rfl (Nat.le_of_ble_eq_true rfl) dX13_applyTool_244 (fun s18 r19 h => ?_)
      refine r_goto hE 264 dX13_applyTool_247 (by decide) ?_
      refine r_pick [2, 3, 4, 1, 0] rfl ?_
      exact km_applyTool_264 hE hm _ _ _ _ _ _ h
  · refine r_aload_n hE 2 dX13_applyTool_219 rfl rfl ?_
    refine r_iload_n hE 4 dX13_applyTool_220 rfl rfl ?_
    refine r_iload hE 7 dX13_applyTool_221 rfl ?_
    refine m_callVi hE hm [.int v2, .int v6] [] mc_toolOne (km_toolOne hm.2.2.2.2.2.2.2.2 h) (by decide) rfl rfl (Nat.le_of_ble_eq_true rfl) dX13_applyTool_223 (fun s20 r21 h => ?_)
    refine r_goto hE 264 dX13_applyTool_226 (by decide) ?_
    refine r_pick [2, 3, 4, 1, 0] rfl ?_
    exact km_applyTool_264 hE hm _ _ _ _ _ _ h
def wm_applyTool_182 (post : MS → Prop) (σ : MS) (v1 : Int32) (v2 : Int32) (v4 : Int32) (v5 : Int32) (v6 : Int32) (t0 : Int32) (t1 : Int32) : Prop := (((0 : Int32) ≤ v4) → (vp_in v4 480 ∧ (wm_applyTool_199 post σ v1 v2 v4 v5 v6 (t0 ||| t1) (m_lean σ v4.toNatClampNeg)))) ∧ ((¬ ((0 : Int32) ≤ v4)) → (wm_applyTool_199 post σ v1 v2 v4 v5 v6 (t0 ||| t1) (0 : Int32)))
set_option maxRecDepth 20000 in
theorem km_applyTool_182 {E : gEnv} {l : Launch} {D : va_G} {cl : List vw_C} {G : gAd} {post : MS → Prop} (hE : gOK E cX13_applyTool RX13 none 9) (hm : mOK E l D cl G (qV post) 13) (σ : MS) (v1 : Int32) (v2 : Int32) (v4 : Int32) (v5 : Int32) (v6 : Int32) (t0 : Int32) (t1 : Int32) (h : wm_applyTool_182 post σ v1 v2 v4 v5 v6 t0 t1) : GW E (mW G σ) 182 [(0, .ref (G.1 0)), (1, .int v1), (2, .int v2), (4, .int v4), (5, .int v5), (6, .int v6)] [.int t1, .int t0] := by
  unfold wm_applyTool_182 at h
  have hN := hm.2.2.2.2.2.2.1
  refine r_ior hE dX13_applyTool_182 ?_
  refine r_iload hE 3 dX13_applyTool_183 rfl ?_
  refine r_if_ge hE 192 dX13_applyTool_185 (by decide) h (fun h => ?_) (fun h => ?_)
  · refine r_aload_n hE 0 dX13_applyTool_192 rfl rfl ?_
    refine mg_lean hE hm dX13_applyTool_193 ?_
    refine r_iload hE 3 dX13_applyTool_196 rfl ?_
    obtain ⟨hi, h⟩ := h
    refine ml_lean hE hm dX13_applyTool_198 hi ?_
    exact km_applyTool_199 hE hm _ _ _ _ _ _ _ _ h
  · refine r_iconst (v := (0 : Int32)) hE dX13_applyTool_188 (by decide) ?_
    refine r_goto hE 199 dX13_applyTool_189 (by decide) ?_
    exact km_applyTool_199 hE hm _ _ _ _ _ _ _ _ h
def wm_applyTool_166 (post : MS → Prop) (σ : MS) (v1 : Int32) (v2 : Int32) (v4 : Int32) (v5 : Int32) (v6 : Int32) (t0 : Int32) : Prop := (((0 : Int32) ≤ v5) → (vp_in v5 480 ∧ (wm_applyTool_182 post σ v1 v2 v4 v5 v6 t0 (m_lean σ v5.toNatClampNeg)))) ∧ ((¬ ((0 : Int32) ≤ v5)) → (wm_applyTool_182 post σ v1 v2 v4 v5 v6 t0 (0 : Int32)))
set_option maxRecDepth 20000 in
theorem km_applyTool_166 {E : gEnv} {l : Launch} {D : va_G} {cl : List vw_C} {G : gAd} {post : MS → Prop} (hE : gOK E cX13_applyTool RX13 none 9) (hm : mOK E l D cl G (qV post) 13) (σ : MS) (v1 : Int32) (v2 : Int32) (v4 : Int32) (v5 : Int32) (v6 : Int32) (t0 : Int32) (h : wm_applyTool_166 post σ v1 v2 v4 v5 v6 t0) : GW E (mW G σ) 166 [(0, .ref (G.1 0)), (1, .int v1), (2, .int v2), (4, .int v4), (5, .int v5), (6, .int v6)] [.int t0] := by
  unfold wm_applyTool_166 at h
  have hN := hm.2.2.2.2.2.2.1
  refine r_iload hE 4 dX13_applyTool_166 rfl ?_
  refine r_if_ge hE 175 dX13_applyTool_168 (by decide) h (fun h => ?_) (fun h => ?_)
  · refine r_aload_n hE 0 dX13_applyTool_175 rfl rfl ?_
    refine mg_lean hE hm dX13_applyTool_176 ?_
    refine r_iload hE 4 dX13_applyTool_179 rfl ?_
    obtain ⟨hi, h⟩ := h
    refine ml_lean hE hm dX13_applyTool_181 hi ?_
    exact km_applyTool_182 hE hm _ _ _ _ _ _ _ _ h
  · refine r_iconst (v := (0 : Int32)) hE dX13_applyTool_171 (by decide) ?_
    refine r_goto hE 182 dX13_applyTool_172 (by decide) ?_
    exact km_applyTool_182 hE hm _ _ _ _ _ _ _ _ h
def wm_applyTool_135 (post : MS → Prop) (σ : MS) (v1 : Int32) (v2 : Int32) (v4 : Int32) (v5 : Int32) (v6 : Int32) (t0 : Int32) : Prop := ((t0 ≤ (0 : Int32)) → ((((0 : Int32) ≤ v6) → (vp_in v6 480 ∧ (wm_applyTool_166 post σ v1 v2 v4 v5 v6 (m_lean σ v6.toNatClampNeg)))) ∧ ((¬ ((0 : Int32) ≤ v6)) → (wm_applyTool_166 post σ v1 v2 v4 v5 v6 (0 : Int32))))) ∧ ((¬ (t0 ≤ (0 : Int32))) → (wm_fails (fun (s22 : MS) => post s22) σ t0 v1))
set_option maxRecDepth 20000 in
theorem km_applyTool_135 {E : gEnv} {l : Launch} {D : va_G} {cl : List vw_C} {G : gAd} {post : MS → Prop} (hE : gOK E cX13_applyTool RX13 none 9) (hm : mOK E l D cl G (qV post) 13) (σ : MS) (v1 : Int32) (v2 : Int32) (v4 : Int32) (v5 : Int32) (v6 : Int32) (t0 : Int32) (h : wm_applyTool_135 post σ v1 v2 v4 v5 v6 t0) : GW E (mW G σ) 135 [(0, .ref (G.1 0)), (1, .int v1), (2, .int v2), (4, .int v4), (5, .int v5), (6, .int v6)] [.int t0] := by
  unfold wm_applyTool_135 at h
  have hN := hm.2.2.2.2.2.2.1
  refine r_istore hE [(8, .int t0), (0, .ref (G.1 0)), (1, .int v1), (2, .int v2), (4, .int v4), (5, .int v5), (6, .int v6)] dX13_applyTool_135 hN (by decide) rfl ?_
  refine r_iload hE 0 dX13_applyTool_137 rfl ?_
  refine r_if_le hE 150 dX13_applyTool_139 (by decide) h (fun h => ?_) (fun h => ?_)
  · refine r_iload hE 6 dX13_applyTool_150 rfl ?_
    refine r_if_ge hE 159 dX13_applyTool_152 (by decide) h (fun h => ?_) (fun h => ?_)
    · refine r_aload_n hE 1 dX13_applyTool_159 rfl rfl ?_
      refine mg_lean hE hm dX13_applyTool_160 ?_
      refine r_iload hE 6 dX13_applyTool_163 rfl ?_
      obtain ⟨hi, h⟩ := h
      refine ml_lean hE hm dX13_applyTool_165 hi ?_
      refine r_pick [1, 2, 3, 4, 5, 6] rfl ?_
      exact km_applyTool_166 hE hm _ _ _ _ _ _ _ h
    · refine r_iconst (v := (0 : Int32)) hE dX13_applyTool_155 (by decide) ?_
      refine r_goto hE 166 dX13_applyTool_156 (by decide) ?_
      refine r_pick [1, 2, 3, 4, 5, 6] rfl ?_
      exact km_applyTool_166 hE hm _ _ _ _ _ _ _ h
  · refine r_aload_n hE 1 dX13_applyTool_142 rfl rfl ?_
    refine r_iload hE 0 dX13_applyTool_143 rfl ?_
    refine r_iload_n hE 2 dX13_applyTool_145 rfl rfl ?_
    refine m_callVv hE hm [.int t0, .int v1] [] mc_fails (km_fails hm.2.2.2.2.2.2.2.2 h) (by decide) rfl rfl (Nat.le_of_ble_eq_true rfl) dX13_applyTool_146 (fun s22 h => ?_)
    exact m_vret hE hm dX13_applyTool_149 h
def wm_applyTool_133 (post : MS → Prop) (σ : MS) (v1 : Int32) (v2 : Int32) (v4 : Int32) (v5 : Int32) (v6 : Int32) (v8 : Int32) : Prop := wm_applyTool_135 post σ v1 v2 v4 v5 v6 v8
set_option maxRecDepth 20000 in
theorem km_applyTool_133 {E : gEnv} {l : Launch} {D : va_G} {cl : List vw_C} {G : gAd} {post : MS → Prop} (hE : gOK E cX13_applyTool RX13 none 9) (hm : mOK E l D cl G (qV post) 13) (σ : MS) (v1 : Int32) (v2 : Int32) (v4 : Int32) (v5 : Int32) (v6 : Int32) (v8 : Int32) (h : wm_applyTool_133 post σ v1 v2 v4 v5 v6 v8) : GW E (mW G σ) 133 [(0, .ref (G.1 0)), (1, .int v1), (2, .int v2), (4, .int v4), (5, .int v5), (6, .int v6), (8, .int v8)] [] := by
  unfold wm_applyTool_133 at h
  have hN := hm.2.2.2.2.2.2.1
  refine r_iload hE 6 dX13_applyTool_133 rfl ?_
  refine r_pick [0, 1, 2, 3, 4, 5] rfl ?_
  exact km_applyTool_135 hE hm _ _ _ _ _ _ _ h
def wm_applyTool_103 (post : MS → Prop) (σ : MS) (v1 : Int32) (v2 : Int32) (v3 : Int32) (v4 : Int32) (v5 : Int32) (v6 : Int32) (v7 : Int32) (t0 : Int32) : Prop := ((¬ (t0 = (0 : Int32))) → (wm_applyTool_133 post σ v1 v2 v4 v5 v6 t0)) ∧ ((t0 = (0 : Int32)) → (((v3 ≤ (2 : Int32)) → (wm_applyTool_133 post σ v1 v2 v4 v5 v6 t0)) ∧ ((¬ (v3 ≤ (2 : Int32))) → (vp_in (v7 + (2 : Int32)) 108 ∧ (wm_askedOf (fun (s23 : MS) (r24 : Int32) => wm_applyTool_135 post s23 v1 v2 v4 v5 v6 r24) σ v4 (m_wantedList σ (v7 + (2 : Int32)).toNatClampNeg))))))
set_option maxRecDepth 20000 in
theorem km_applyTool_103 {E : gEnv} {l : Launch} {D : va_G} {cl : List vw_C} {G : gAd} {post : MS → Prop} (hE : gOK E cX13_applyTool RX13 none 9) (hm : mOK E l D cl G (qV post) 13) (σ : MS) (v1 : Int32) (v2 : Int32) (v3 : Int32) (v4 : Int32) (v5 : Int32) (v6 : Int32) (v7 : Int32) (t0 : Int32) (h : wm_applyTool_103 post σ v1 v2 v3 v4 v5 v6 v7 t0) : GW E (mW G σ) 103 [(0, .ref (G.1 0)), (1, .int v1), (2, .int v2), (3, .int v3), (4, .int v4), (5, .int v5), (6, .int v6), (7, .int v7)] [.int t0] := by
  unfold wm_applyTool_103 at h
  have hN := hm.2.2.2.2.2.2.1
  refine r_istore hE [(8, .int t0), (0, .ref (G.1 0)), (1, .int v1), (2, .int v2), (3, .int v3), (4, .int v4), (5, .int v5), (6, .int v6), (7, .int v7)] dX13_applyTool_103 hN (by decide) rfl ?_
  refine r_iload hE 0 dX13_applyTool_105 rfl ?_
  refine r_if_ne hE 133 dX13_applyTool_107 (by decide) h (fun h => ?_) (fun h => ?_)
  · refine r_pick [1, 2, 3, 5, 6, 7, 0] rfl ?_
    exact km_applyTool_133 hE hm _ _ _ _ _ _ _ h
  · refine r_iload_n hE 4 dX13_applyTool_110 rfl rfl ?_
    refine r_iconst (v := (2 : Int32)) hE dX13_applyTool_111 (by decide) ?_
    refine r_icmp_le hE 133 dX13_applyTool_112 (by decide) h (fun h => ?_) (fun h => ?_)
    · refine r_pick [1, 2, 3, 5, 6, 7, 0] rfl ?_
      exact km_applyTool_133 hE hm _ _ _ _ _ _ _ h
    · refine r_aload_n hE 1 dX13_applyTool_115 rfl rfl ?_
      refine r_iload hE 5 dX13_applyTool_116 rfl ?_
      refine r_aload_n hE 1 dX13_applyTool_118 rfl rfl ?_
      refine mg_wantedList hE hm dX13_applyTool_119 ?_
      refine r_iload hE 8 dX13_applyTool_122 rfl ?_
      refine r_iconst (v := (2 : Int32)) hE dX13_applyTool_124 (by decide) ?_
      refine r_iadd hE dX13_applyTool_125 ?_
      obtain ⟨hi, h⟩ := h
      refine ml_wantedList hE hm dX13_applyTool_126 hi ?_
      refine m_callVi hE hm [.int v4, .int (m_wantedList σ (v7 + (2 : Int32)).toNatClampNeg)] [] mc_askedOf (km_askedOf hm.2.2.2.2.2.2.2.2 h) (by decide) rfl rfl (Nat.le_of_ble_eq_true rfl) dX13_applyTool_127 (fun s23 r24 h => ?_)
      refine r_goto hE 135 dX13_applyTool_130 (by decide) ?_
      refine r_pick [1, 2, 3, 5, 6, 7] rfl ?_
      exact km_applyTool_135 hE hm _ _ _ _ _ _ _ h
def wm_applyTool_101 (post : MS → Prop) (σ : MS) (v1 : Int32) (v2 : Int32) (v3 : Int32) (v4 : Int32) (v5 : Int32) (v6 : Int32) (v7 : Int32) (v8 : Int32) : Prop := wm_applyTool_103 post σ v1 v2 v3 v4 v5 v6 v7 v8
set_option maxRecDepth 20000 in
theorem km_applyTool_101 {E : gEnv} {l : Launch} {D : va_G} {cl : List vw_C} {G : gAd} {post : MS → Prop} (hE : gOK E cX13_applyTool RX13 none 9) (hm : mOK E l D cl G (qV post) 13) (σ : MS) (v1 : Int32) (v2 : Int32) (v3 : Int32) (v4 : Int32) (v5 : Int32) (v6 : Int32) (v7 : Int32) (v8 : Int32) (h : wm_applyTool_101 post σ v1 v2 v3 v4 v5 v6 v7 v8) : GW E (mW G σ) 101 [(0, .ref (G.1 0)), (1, .int v1), (2, .int v2), (3, .int v3), (4, .int v4), (5, .int v5), (6, .int v6), (7, .int v7), (8, .int v8)] [] := by
  unfold wm_applyTool_101 at h
  have hN := hm.2.2.2.2.2.2.1
  refine r_iload hE 8 dX13_applyTool_101 rfl ?_
  refine r_pick [0, 1, 2, 3, 4, 5, 6, 7] rfl ?_
  exact km_applyTool_103 hE hm _ _ _ _ _ _ _ _ _ h
def wm_applyTool_40 (post : MS → Prop) (σ : MS) (v1 : Int32) (v2 : Int32) (v3 : Int32) (v4 : Int32) (t0 : Int32) : Prop := wm_taken (fun (s25 : MS) (r26 : Int32) => wm_placeOf_wantedList (fun (s27 : MS) (r28 : Int32) => vp_in r28 108 ∧ (wm_askedOf (fun (s29 : MS) (r30 : Int32) => ((¬ (r30 = (0 : Int32))) → (wm_applyTool_101 post s29 v1 v2 v3 v4 t0 r26 r28 r30)) ∧ ((r30 = (0 : Int32)) → (((v3 ≤ (1 : Int32)) → (wm_applyTool_101 post s29 v1 v2 v3 v4 t0 r26 r28 r30)) ∧ ((¬ (v3 ≤ (1 : Int32))) → (vp_in (r28 + (1 : Int32)) 108 ∧ (wm_askedOf (fun (s31 : MS) (r32 : Int32) => wm_applyTool_103 post s31 v1 v2 v3 v4 t0 r26 r28 r32) s29 t0 (m_wantedList s29 (r28 + (1 : Int32)).toNatClampNeg))))))) s27 r26 (m_wantedList s27 r28.toNatClampNeg))) s25 v2) σ
set_option maxRecDepth 20000 in
theorem km_applyTool_40 {E : gEnv} {l : Launch} {D : va_G} {cl : List vw_C} {G : gAd} {post : MS → Prop} (hE : gOK E cX13_applyTool RX13 none 9) (hm : mOK E l D cl G (qV post) 13) (σ : MS) (v1 : Int32) (v2 : Int32) (v3 : Int32) (v4 : Int32) (t0 : Int32) (h : wm_applyTool_40 post σ v1 v2 v3 v4 t0) : GW E (mW G σ) 40 [(0, .ref (G.1 0)), (1, .int v1), (2, .int v2), (3, .int v3), (4, .int v4)] [.int t0] := by
  unfold wm_applyTool_40 at h
  have hN := hm.2.2.2.2.2.2.1
  refine r_istore hE [(5, .int t0), (0, .ref (G.1 0)), (1, .int v1), (2, .int v2), (3, .int v3), (4, .int v4)] dX13_applyTool_40 hN (by decide) rfl ?_
  refine r_aload_n hE 1 dX13_applyTool_42 rfl rfl ?_
  refine m_callVi hE hm [] [] mc_taken (km_taken hm.2.2.2.2.2.2.2.2 h) (by decide) rfl rfl (Nat.le_of_ble_eq_true rfl) dX13_applyTool_43 (fun s25 r26 h => ?_)
  refine r_istore hE [(6, .int r26), (5, .int t0), (0, .ref (G.1 0)), (1, .int v1), (2, .int v2), (3, .int v3), (4, .int v4)] dX13_applyTool_46 hN (by decide) rfl ?_
  refine r_aload_n hE 2 dX13_applyTool_48 rfl rfl ?_
  refine mg_wantedList hE hm dX13_applyTool_49 ?_
  refine r_iload_n hE 4 dX13_applyTool_52 rfl rfl ?_
  refine m_callSi hE hm [.ref (G.1 12), .int v2] [] mc_placeOf (km_placeOf_wantedList hm.2.2.2.2.2.2.2.2 h) (by decide) rfl rfl (Nat.le_of_ble_eq_true rfl) dX13_applyTool_53 (fun s27 r28 h => ?_)
  refine r_istore hE [(7, .int r28), (6, .int r26), (5, .int t0), (0, .ref (G.1 0)), (1, .int v1), (2, .int v2), (3, .int v3), (4, .int v4)] dX13_applyTool_56 hN (by decide) rfl ?_
  refine r_aload_n hE 3 dX13_applyTool_58 rfl rfl ?_
  refine r_iload hE 1 dX13_applyTool_59 rfl ?_
  refine r_aload_n hE 3 dX13_applyTool_61 rfl rfl ?_
  refine mg_wantedList hE hm dX13_applyTool_62 ?_
  refine r_iload hE 0 dX13_applyTool_65 rfl ?_
  obtain ⟨hi, h⟩ := h
  refine ml_wantedList hE hm dX13_applyTool_67 hi ?_
  refine m_callVi hE hm [.int r26, .int (m_wantedList s27 r28.toNatClampNeg)] [] mc_askedOf (km_askedOf hm.2.2.2.2.2.2.2.2 h) (by decide) rfl rfl (Nat.le_of_ble_eq_true rfl) dX13_applyTool_68 (fun s29 r30 h => ?_)
  refine r_istore hE [(8, .int r30), (7, .int r28), (6, .int r26), (5, .int t0), (0, .ref (G.1 0)), (1, .int v1), (2, .int v2), (3, .int v3), (4, .int v4)] dX13_applyTool_71 hN (by decide) rfl ?_
  refine r_iload hE 0 dX13_applyTool_73 rfl ?_
  refine r_if_ne hE 101 dX13_applyTool_75 (by decide) h (fun h => ?_) (fun h => ?_)
  · refine r_pick [4, 5, 6, 7, 8, 3, 2, 1, 0] rfl ?_
    exact km_applyTool_101 hE hm _ _ _ _ _ _ _ _ _ h
  · refine r_iload_n hE 7 dX13_applyTool_78 rfl rfl ?_
    refine r_iconst (v := (1 : Int32)) hE dX13_applyTool_79 (by decide) ?_
    refine r_icmp_le hE 101 dX13_applyTool_80 (by decide) h (fun h => ?_) (fun h => ?_)
    · refine r_pick [4, 5, 6, 7, 8, 3, 2, 1, 0] rfl ?_
      exact km_applyTool_101 hE hm _ _ _ _ _ _ _ _ _ h
    · refine r_aload_n hE 4 dX13_applyTool_83 rfl rfl ?_
      refine r_iload hE 3 dX13_applyTool_84 rfl ?_
      refine r_aload_n hE 4 dX13_applyTool_86 rfl rfl ?_
      refine mg_wantedList hE hm dX13_applyTool_87 ?_
      refine r_iload hE 1 dX13_applyTool_90 rfl ?_
      refine r_iconst (v := (1 : Int32)) hE dX13_applyTool_92 (by decide) ?_
      refine r_iadd hE dX13_applyTool_93 ?_
      obtain ⟨hi, h⟩ := h
      refine ml_wantedList hE hm dX13_applyTool_94 hi ?_
      refine m_callVi hE hm [.int t0, .int (m_wantedList s29 (r28 + (1 : Int32)).toNatClampNeg)] [] mc_askedOf (km_askedOf hm.2.2.2.2.2.2.2.2 h) (by decide) rfl rfl (Nat.le_of_ble_eq_true rfl) dX13_applyTool_95 (fun s31 r32 h => ?_)
      refine r_goto hE 103 dX13_applyTool_98 (by decide) ?_
      refine r_pick [4, 5, 6, 7, 8, 3, 2, 1] rfl ?_
      exact km_applyTool_103 hE hm _ _ _ _ _ _ _ _ _ h
def wm_applyTool_25 (post : MS → Prop) (σ : MS) (v1 : Int32) (v2 : Int32) (v3 : Int32) (t0 : Int32) : Prop := ((v3 ≤ (1 : Int32)) → (wm_applyTool_40 post σ v1 v2 v3 t0 (-1 : Int32))) ∧ ((¬ (v3 ≤ (1 : Int32))) → (wm_taken (fun (s33 : MS) (r34 : Int32) => wm_applyTool_40 post s33 v1 v2 v3 t0 r34) σ))
set_option maxRecDepth 20000 in
theorem km_applyTool_25 {E : gEnv} {l : Launch} {D : va_G} {cl : List vw_C} {G : gAd} {post : MS → Prop} (hE : gOK E cX13_applyTool RX13 none 9) (hm : mOK E l D cl G (qV post) 13) (σ : MS) (v1 : Int32) (v2 : Int32) (v3 : Int32) (t0 : Int32) (h : wm_applyTool_25 post σ v1 v2 v3 t0) : GW E (mW G σ) 25 [(0, .ref (G.1 0)), (1, .int v1), (2, .int v2), (3, .int v3)] [.int t0] := by
  unfold wm_applyTool_25 at h
  have hN := hm.2.2.2.2.2.2.1
  refine r_istore hE [(4, .int t0), (0, .ref (G.1 0)), (1, .int v1), (2, .int v2), (3, .int v3)] dX13_applyTool_25 hN (by decide) rfl ?_
  refine r_iload_n hE 4 dX13_applyTool_27 rfl rfl ?_
  refine r_iconst (v := (1 : Int32)) hE dX13_applyTool_28 (by decide) ?_
  refine r_icmp_le hE 39 dX13_applyTool_29 (by decide) h (fun h => ?_) (fun h => ?_)
  · refine r_iconst (v := (-1 : Int32)) hE dX13_applyTool_39 (by decide) ?_
    refine r_pick [1, 2, 3, 4, 0] rfl ?_
    exact km_applyTool_40 hE hm _ _ _ _ _ _ h
  · refine r_aload_n hE 1 dX13_applyTool_32 rfl rfl ?_
    refine m_callVi hE hm [] [] mc_taken (km_taken hm.2.2.2.2.2.2.2.2 h) (by decide) rfl rfl (Nat.le_of_ble_eq_true rfl) dX13_applyTool_33 (fun s33 r34 h => ?_)
    refine r_goto hE 40 dX13_applyTool_36 (by decide) ?_
    refine r_pick [1, 2, 3, 4, 0] rfl ?_
    exact km_applyTool_40 hE hm _ _ _ _ _ _ h
def wm_applyTool (post : MS → Prop) (σ : MS) (a1 : Int32) : Prop := vp_in a1 600 ∧ (∀ x35 : Int32, x35 = m_one σ a1.toNatClampNeg → wm_wantedBy (fun (s36 : MS) (r37 : Int32) => ((r37 ≤ (2 : Int32)) → (wm_applyTool_25 post s36 a1 x35 r37 (-1 : Int32))) ∧ ((¬ (r37 ≤ (2 : Int32))) → (wm_taken (fun (s38 : MS) (r39 : Int32) => wm_applyTool_25 post s38 a1 x35 r37 r39) s36))) σ x35)
set_option maxRecDepth 20000 in
theorem km_applyTool {l : Launch} {D : va_G} {cl : List vw_C} {G : gAd} {post : MS → Prop} (hcl : mC cl) {σ : MS} {a1 : Int32} (h : wm_applyTool post σ a1) : mMet l D cl G yX13_applyTool cX13_applyTool 13 none 9 [.ref (G.1 0), .int a1] σ (qV post) := by
  unfold wm_applyTool at h
  refine m_enter hcl (by decide +kernel) rfl [(0, .ref (G.1 0)), (1, .int a1)] rfl (Nat.le_of_ble_eq_true rfl) ?_
  intro E hE hm
  have hN := hm.2.2.2.2.2.2.1
  refine r_aload_n hE 0 dX13_applyTool_0 rfl rfl ?_
  refine mg_one hE hm dX13_applyTool_1 ?_
  refine r_iload_n hE 1 dX13_applyTool_4 rfl rfl ?_
  obtain ⟨hi, h⟩ := h
  refine ml_one hE hm dX13_applyTool_5 hi ?_
  refine r_topi h (fun x35 ex35 h => ?_)
  refine r_istore_n hE [(2, .int x35), (0, .ref (G.1 0)), (1, .int a1)] dX13_applyTool_6 rfl hN (by decide) rfl ?_
  refine r_iload_n hE 0 dX13_applyTool_7 rfl rfl ?_
  refine m_callSi hE hm [.int x35] [] mc_wantedBy (km_wantedBy hm.2.2.2.2.2.2.2.2 h) (by decide) rfl rfl (Nat.le_of_ble_eq_true rfl) dX13_applyTool_8 (fun s36 r37 h => ?_)
  refine r_istore_n hE [(3, .int r37), (2, .int x35), (0, .ref (G.1 0)), (1, .int a1)] dX13_applyTool_11 rfl hN (by decide) rfl ?_
  refine r_iload_n hE 0 dX13_applyTool_12 rfl rfl ?_
  refine r_iconst (v := (2 : Int32)) hE dX13_applyTool_13 (by decide) ?_
  refine r_icmp_le hE 24 dX13_applyTool_14 (by decide) h (fun h => ?_) (fun h => ?_)
  · refine r_iconst (v := (-1 : Int32)) hE dX13_applyTool_24 (by decide) ?_
    refine r_pick [2, 3, 1, 0] rfl ?_
    exact km_applyTool_25 hE hm _ _ _ _ _ h
  · refine r_aload_n hE 2 dX13_applyTool_17 rfl rfl ?_
    refine m_callVi hE hm [] [] mc_taken (km_taken hm.2.2.2.2.2.2.2.2 h) (by decide) rfl rfl (Nat.le_of_ble_eq_true rfl) dX13_applyTool_18 (fun s38 r39 h => ?_)
    refine r_goto hE 25 dX13_applyTool_21 (by decide) ?_
    refine r_pick [2, 3, 1, 0] rfl ?_
    exact km_applyTool_25 hE hm _ _ _ _ _ h
