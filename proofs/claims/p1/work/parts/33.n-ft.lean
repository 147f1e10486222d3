abbrev fzX12 : List Value := [.null, .int 0, .null, .null, .null, .int 0, .int 0, .null, .null, .null, .null, .null, .null, .null, .int 0, .null, .int 0]
theorem hzX1 : ∀ j, j < 18 → defaultValue (tyX1 j) = vp_V fzX1 j := by decide +kernel
theorem hzX2 : ∀ j, j < 8 → defaultValue (tyX2 j) = vp_V fzX2 j := by decide +kernel
theorem hzX3 : ∀ j, j < 3 → defaultValue (tyX3 j) = vp_V fzX3 j := by decide +kernel
theorem hzX4 : ∀ j, j < 6 → defaultValue (tyX4 j) = vp_V fzX4 j := by decide +kernel
theorem hzX5 : ∀ j, j < 9 → defaultValue (tyX5 j) = vp_V fzX5 j := by decide +kernel
theorem hzX6 : ∀ j, j < 1 → defaultValue (tyX6 j) = vp_V fzX6 j := by decide +kernel
theorem hzX7 : ∀ j, j < 13 → defaultValue (tyX7 j) = vp_V fzX7 j := by decide +kernel
theorem hzX8 : ∀ j, j < 5 → defaultValue (tyX8 j) = vp_V fzX8 j := by decide +kernel
theorem hzX9 : ∀ j, j < 9 → defaultValue (tyX9 j) = vp_V fzX9 j := by decide +kernel
theorem hzX11 : ∀ j, j < 10 → defaultValue (tyX11 j) = vp_V fzX11 j := by decide +kernel
abbrev rmX12 : Room := { frames := 2, cells := 67, slots := 44386, locals := 64 }
/-- the world of a new FigureTexts, in the order of its making -/
def cW0 (g : Nat → Nat) (T : Nat → ClassId) : va_W := [(g 200, .inr (10, [.ref (g 201), .int (0), .ref (g 500), .ref (g 300), .ref (g 400), .int (0), .int (-1), .ref (g 600), .ref (g 700), .ref (g 800), .ref (g 900), .ref (g 1000), .ref (g 1100), .ref (g 1200), .int (0), .ref (g 216), .int (0)])), (g 201, .inl (T 2, 3000, .inl (fun _ => 0))), (g 500, .inr (2, [.ref (g 501), .ref (g 502), .int (0)])), (g 501, .inl (T 2, 16000, .inl (fun _ => 0))), (g 502, .inl (T 3, 20, .inl (fun _ => 0))), (g 300, .inr (0, [.ref (g 301), .int (0), .ref (g 303), .ref (g 304), .ref (g 305), .ref (g 306), .ref (g 307), .ref (g 308), .ref (g 309), .int (0), .int (0), .int (-1), .ref (g 313), .ref (g 314), .ref (g 315), .ref (g 316), .ref (g 317), .int (0)])), (g 301, .inl (T 2, 3000, .inl (fun _ => 0))), (g 303, .inl (T 0, 250, .inl (fun _ => 0))), (g 304, .inl (T 0, 250, .inl (fun _ => 0))), (g 305, .inl (T 0, 250, .inl (fun _ => 0))), (g 306, .inl (T 0, 250, .inl (fun _ => 0))), (g 307, .inl (T 0, 250, .inl (fun _ => 0))), (g 308, .inl (T 0, 250, .inl (fun _ => 0))), (g 309, .inl (T 0, 250, .inl (fun _ => 0))), (g 313, .inl (T 0, 260, .inl (fun _ => 0))), (g 314, .inl (T 0, 13, .inl (fun _ => 0))), (g 315, .inl (T 0, 12, .inl (fun _ => 0))), (g 316, .inl (T 0, 12, .inl (fun _ => 0))), (g 317, .inl (T 0, 12, .inl (fun _ => 0))), (g 400, .inr (0, [.ref (g 401), .int (0), .ref (g 403), .ref (g 404), .ref (g 405), .ref (g 406), .ref (g 407), .ref (g 408), .ref (g 409), .int (0), .int (0), .int (-1), .ref (g 413), .ref (g 414), .ref (g 415), .ref (g 416), .ref (g 417), .int (0)])), (g 401, .inl (T 2, 3000, .inl (fun _ => 0))), (g 403, .inl (T 0, 250, .inl (fun _ => 0))), (g 404, .inl (T 0, 250, .inl (fun _ => 0))), (g 405, .inl (T 0, 250, .inl (fun _ => 0))), (g 406, .inl (T 0, 250, .inl (fun _ => 0))), (g 407, .inl (T 0, 250, .inl (fun _ => 0))), (g 408, .inl (T 0, 250, .inl (fun _ => 0))), (g 409, .inl (T 0, 250, .inl (fun _ => 0))), (g 413, .inl (T 0, 260, .inl (fun _ => 0))), (g 414, .inl (T 0, 13, .inl (fun _ => 0))), (g 415, .inl (T 0, 12, .inl (fun _ => 0))), (g 416, .inl (T 0, 12, .inl (fun _ => 0))), (g 417, .inl (T 0, 12, .inl (fun _ => 0))), (g 600, .inr (4, [.ref (g 400), .int (0), .int (0), .int (0), .int (-1), .int (12), .int (0), .int (0), .int (-1)])), (g 700, .inr (3, [.ref (g 500), .ref (g 300), .ref (g 703), .ref (g 704), .ref (g 705), .int (-1)])), (g 703, .inl (T 0, 250, .inl (fun _ => 0))), (g 704, .inl (T 0, 250, .inl (fun _ => 0))), (g 705, .inl (T 4, 250, .inl (fun _ => 0))), (g 800, .inr (5, [.int (0)])), (g 900, .inr (7, [.ref (g 901), .ref (g 902), .ref (g 903), .ref (g 904), .int (0)])), (g 901, .inl (T 0, 400, .inl (fun _ => 0))), (g 902, .inl (T 0, 400, .inl (fun _ => 0))), (g 903, .inl (T 1, 2800, .inr (.inl (fun _ => 0)))), (g 904, .inl (T 0, 8000, .inl (fun _ => 0))), (g 1000, .inr (1, [.ref (g 1001), .ref (g 1002), .ref (g 1003), .ref (g 1004), .ref (g 1005), .ref (g 1006), .ref (g 1007), .int (0)])), (g 1001, .inl (T 4, 12, .inl (fun _ => 0))), (g 1002, .inl (T 1, 12, .inr (.inl (fun _ => 0)))), (g 1003, .inl (T 1, 12, .inr (.inl (fun _ => 0)))), (g 1004, .inl (T 4, 12, .inl (fun _ => 0))), (g 1005, .inl (T 1, 12, .inr (.inl (fun _ => 0)))), (g 1006, .inl (T 1, 12, .inr (.inl (fun _ => 0)))), (g 1007, .inl (T 0, 12, .inl (fun _ => 0))), (g 1100, .inr (8, [.ref (g 1101), .ref (g 1102), .ref (g 1103), .ref (g 1104), .int (0), .int (0), .int (0), .int (0), .int (0)])), (g 1101, .inl (T 0, 40, .inl (fun _ => 0))), (g 1102, .inl (T 0, 40, .inl (fun _ => 0))), (g 1103, .inl (T 0, 12, .inl (fun _ => 0))), (g 1104, .inl (T 0, 12, .inl (fun _ => 0))), (g 1200, .inr (6, [.ref (g 1300), .ref (g 1100), .ref (g 300), .ref (g 1204), .ref (g 1205), .ref (g 1206), .ref (g 1207), .ref (g 1208), .int (-1), .ref (g 1210), .int (0), .ref (g 1212), .int (0)])), (g 1300, .inr (9, [.ref (g 800), .ref (g 900), .ref (g 1000), .ref (g 1304), .long 1, .long 1, .long 1, .long 1, .long 1, .long 1])), (g 1304, .inl (T 0, 3, .inl (fun _ => 0))), (g 1204, .inl (T 0, 401, .inl (fun _ => 0))), (g 1205, .inl (T 0, 401, .inl (fun _ => 0))), (g 1206, .inl (T 0, 401, .inl (fun _ => 0))), (g 1207, .inl (T 4, 401, .inl (fun _ => 0))), (g 1208, .inl (T 0, 401, .inl (fun _ => 0))), (g 1210, .inl (T 0, 401, .inl (fun _ => 0))), (g 1212, .inl (T 0, 180, .inl (fun _ => 0))), (g 216, .inl (T 0, 21, .inl (fun _ => 0)))]
def gl (as : List (Nat × Nat)) (d k : Nat) : Nat := (as.lookup k).getD d
theorem gl_cover {P : Nat → Prop} {d : Nat} (hd : P d) : ∀ {as : List (Nat × Nat)} (_ : ∀ p ∈ as, P p.2) {k : Nat}, P (gl as d k)
  | [], _, _ => hd
  | (a, v) :: as, h, k => by
    unfold gl
    rw [List.lookup_cons]
    cases hk : (k == a) with
    | true => exact h (a, v) List.mem_cons_self
    | false => exact gl_cover (as := as) hd (fun p hp => h p (List.mem_cons_of_mem _ hp))
/-- a new FigureTexts -/
def cS0 : CS := (fun k => if k = 206 then -1 else if k = 311 then -1 else if k = 411 then -1 else if k = 604 then -1 else if k = 605 then 12 else if k = 608 then -1 else if k = 705 then -1 else if k = 1208 then -1 else 0, fun k => if k = 1304 then 1 else if k = 1305 then 1 else if k = 1306 then 1 else if k = 1307 then 1 else if k = 1308 then 1 else if k = 1309 then 1 else 0, fun _ _ => 0, fun _ _ => 0, fun k => if k = 202 then 500 else if k = 203 then 300 else if k = 204 then 400 else if k = 207 then 600 else if k = 208 then 700 else if k = 209 then 800 else if k = 210 then 900 else if k = 211 then 1000 else if k = 212 then 1100 else if k = 213 then 1200 else if k = 600 then 400 else if k = 700 then 500 else if k = 701 then 300 else if k = 1200 then 1300 else if k = 1201 then 1100 else if k = 1202 then 300 else if k = 1300 then 800 else if k = 1301 then 900 else if k = 1302 then 1000 else 0)
set_option maxHeartbeats 8000000 in
set_option maxRecDepth 100000 in
theorem kX12_init (l : Launch) (D : va_G) (T : Nat → ClassId) (A : Nat → Prop) (X : va_W) (b : Nat) : nMet l D T A yX12_init cX12_init 1 rmX12 [.ref b] (X ++ (b, .inr (10, fzX12)) :: []) (fun ws' => ∃ g : Nat → Nat, g 200 = b ∧ (∀ k, ∃ (i : Nat) (e : va_E), (cW (g, T) cS0)[i]? = some (g k, e)) ∧ ws' = X ++ cW0 g T) := by
  refine n_enter (by decide +kernel) rfl [(0, .ref b)] rfl (Nat.le_of_ble_eq_true rfl) (fun E hE hl0 hD0 hA0 hN0 hnm hr hF => ?_)
  have hE : nOK E cX12_init RX12 T rmX12 := hE
  refine n_aload_n hE 0 (dX12_init_g0.1) rfl rfl ?_
  refine n_objInit hE (gTb_1 (List.mem_of_getElem? (i := 33) rfl) rfl) (gTb_1 (List.mem_of_getElem? (i := 34) rfl) rfl) (gTb_1 (List.mem_of_getElem? (i := 35) rfl) rfl) (by decide) (by decide) (dX12_init_g0.2.1) ?_
  refine n_aload_n hE 0 (dX12_init_g0.2.2.1) rfl rfl ?_
  refine n_sipush (v := 3000) hE (dX12_init_g0.2.2.2.1) (by decide) ?_
  refine n_newa (N := 3000) (n := 3000) (aty := .byte) (a0 := (3000, .inl (fun _ => 0))) hE .byte rfl 2 rfl (gTb_1 (List.mem_of_getElem? (i := 54) rfl) rfl) (fun _ => rfl) (by decide) (by decide) (by decide) (by decide) (by decide) (dX12_init_g0.2.2.2.2.1) (fun r8 => ?_)
  refine n_re ?_
  refine n_put (v := .ref r8) hE nc_X12 X _ 0 (by decide) (Or.inr ⟨rfl, hnm, rfl⟩) (gTb_2 (List.mem_of_getElem? (i := 144) rfl) rfl) (by first | rfl | decide) (by first | rfl | decide) (Nat.le_of_ble_eq_true rfl) (dX12_init_g0.2.2.2.2.2.1) ?_
  refine n_aload_n hE 0 (dX12_init_g0.2.2.2.2.2.2.1) rfl rfl ?_
  refine n_iconst (v := 0) hE (dX12_init_g0.2.2.2.2.2.2.2.1) (by decide) ?_
  refine n_put (v := .int (0)) hE nc_X12 X _ 1 (by decide) (Or.inl rfl) (gTb_2 (List.mem_of_getElem? (i := 145) rfl) rfl) (by first | rfl | decide) (by first | rfl | decide) (Nat.le_of_ble_eq_true rfl) (dX12_init_g0.2.2.2.2.2.2.2.2.1) ?_
  refine n_aload_n hE 0 (dX12_init_g0.2.2.2.2.2.2.2.2.2.1) rfl rfl ?_
  refine n_new (fs := fzX3) hE nc_X3 (gTb_1 (List.mem_of_getElem? (i := 36) rfl) rfl) (gTb_1 (List.mem_of_getElem? (i := 37) rfl) rfl) (gTb_1 (List.mem_of_getElem? (i := 2) rfl) rfl) hzX3 (by decide) (by decide) (dX12_init_g0.2.2.2.2.2.2.2.2.2.2.1) (fun o_ou => ?_)
  refine n_re ?_
  refine n_dup hE (dX12_init_g0.2.2.2.2.2.2.2.2.2.2.2.1) rfl ?_
  refine n_er ?_
  refine n_callI (b := o_ou) hE [] [.ref o_ou, .ref b] (kX3_init (el E) (eD E) T (eA E) _ _ o_ou) rfl ⟨gTb_1 (List.mem_of_getElem? (i := 40) rfl) rfl, gTb_1 (List.mem_of_getElem? (i := 2) rfl) rfl, gTb_1 (List.mem_of_getElem? (i := 39) rfl) rfl⟩ ⟨by decide +kernel, by decide +kernel⟩ (by decide +kernel) (Or.inr ⟨"FigureTexts", List.mem_of_getElem? (i := 0) rfl⟩) rfl rfl (by simp [Value.category]) ⟨by decide, by decide⟩ ⟨by decide, by decide⟩ (dX12_init_g0.2.2.2.2.2.2.2.2.2.2.2.2.1) (fun ws1 hw => ?_)
  obtain ⟨ou_q1, ou_q2, rfl⟩ := hw
  refine n_re ?_
  refine n_put (v := .ref o_ou) hE nc_X12 X _ 2 (by decide) (Or.inr ⟨rfl, hnm, rfl⟩) (gTb_2 (List.mem_of_getElem? (i := 146) rfl) rfl) (by first | rfl | decide) (by first | rfl | decide) (Nat.le_of_ble_eq_true rfl) (dX12_init_g0.2.2.2.2.2.2.2.2.2.2.2.2.2.1) ?_
  refine n_aload_n hE 0 (dX12_init_g0.2.2.2.2.2.2.2.2.2.2.2.2.2.2.1) rfl rfl ?_
  refine n_new (fs := fzX1) hE nc_X1 (gTb_1 (List.mem_of_getElem? (i := 56) rfl) rfl) (gTb_1 (List.mem_of_getElem? (i := 57) rfl) rfl) (gTb_1 (List.mem_of_getElem? (i := 3) rfl) rfl) hzX1 (by decide) (by decide) (dX12_init_g0.2.2.2.2.2.2.2.2.2.2.2.2.2.2.2) (fun o_fg => ?_)
  refine n_re ?_
  refine n_dup hE (dX12_init_g1.1) rfl ?_
  refine n_er ?_
  refine n_callI (b := o_fg) hE [] [.ref o_fg, .ref b] (kX1_init (el E) (eD E) T (eA E) _ _ o_fg) rfl ⟨gTb_1 (List.mem_of_getElem? (i := 60) rfl) rfl, gTb_1 (List.mem_of_getElem? (i := 3) rfl) rfl, gTb_1 (List.mem_of_getElem? (i := 59) rfl) rfl⟩ ⟨by decide +kernel, by decide +kernel⟩ (by decide +kernel) (Or.inr ⟨"FigureTexts", List.mem_of_getElem? (i := 1) rfl⟩) rfl rfl (by simp [Value.category]) ⟨by decide, by decide⟩ ⟨by decide, by decide⟩ (dX12_init_g1.2.1) (fun ws1 hw => ?_)
  obtain ⟨fg_q1, fg_q3, fg_q4, fg_q5, fg_q6, fg_q7, fg_q8, fg_q9, fg_q13, fg_q14, fg_q15, fg_q16, fg_q17, rfl⟩ := hw
  refine n_re ?_
  refine n_put (v := .ref o_fg) hE nc_X12 X _ 3 (by decide) (Or.inl rfl) (gTb_2 (List.mem_of_getElem? (i := 147) rfl) rfl) (by first | rfl | decide) (by first | rfl | decide) (Nat.le_of_ble_eq_true rfl) (dX12_init_g1.2.2.1) ?_
  refine n_aload_n hE 0 (dX12_init_g1.2.2.2.1) rfl rfl ?_
  refine n_new (fs := fzX1) hE nc_X1 (gTb_1 (List.mem_of_getElem? (i := 56) rfl) rfl) (gTb_1 (List.mem_of_getElem? (i := 57) rfl) rfl) (gTb_1 (List.mem_of_getElem? (i := 3) rfl) rfl) hzX1 (by decide) (by decide) (dX12_init_g1.2.2.2.2.1) (fun o_sp => ?_)
  refine n_re ?_
  refine n_dup hE (dX12_init_g1.2.2.2.2.2.1) rfl ?_
  refine n_er ?_
  refine n_callI (b := o_sp) hE [] [.ref o_sp, .ref b] (kX1_init (el E) (eD E) T (eA E) _ _ o_sp) rfl ⟨gTb_1 (List.mem_of_getElem? (i := 60) rfl) rfl, gTb_1 (List.mem_of_getElem? (i := 3) rfl) rfl, gTb_1 (List.mem_of_getElem? (i := 59) rfl) rfl⟩ ⟨by decide +kernel, by decide +kernel⟩ (by decide +kernel) (Or.inr ⟨"FigureTexts", List.mem_of_getElem? (i := 1) rfl⟩) rfl rfl (by simp [Value.category]) ⟨by decide, by decide⟩ ⟨by decide, by decide⟩ (dX12_init_g1.2.2.2.2.2.2.1) (fun ws1 hw => ?_)
  obtain ⟨sp_q1, sp_q3, sp_q4, sp_q5, sp_q6, sp_q7, sp_q8, sp_q9, sp_q13, sp_q14, sp_q15, sp_q16, sp_q17, rfl⟩ := hw
  refine n_re ?_
  refine n_put (v := .ref o_sp) hE nc_X12 X _ 4 (by decide) (Or.inl rfl) (gTb_2 (List.mem_of_getElem? (i := 148) rfl) rfl) (by first | rfl | decide) (by first | rfl | decide) (Nat.le_of_ble_eq_true rfl) (dX12_init_g1.2.2.2.2.2.2.2.1) ?_
  refine n_aload_n hE 0 (dX12_init_g1.2.2.2.2.2.2.2.2.1) rfl rfl ?_
  refine n_iconst (v := 0) hE (dX12_init_g1.2.2.2.2.2.2.2.2.2.1) (by decide) ?_
  refine n_put (v := .int (0)) hE nc_X12 X _ 5 (by decide) (Or.inl rfl) (gTb_2 (List.mem_of_getElem? (i := 149) rfl) rfl) (by first | rfl | decide) (by first | rfl | decide) (Nat.le_of_ble_eq_true rfl) (dX12_init_g1.2.2.2.2.2.2.2.2.2.2.1) ?_
  refine n_aload_n hE 0 (dX12_init_g1.2.2.2.2.2.2.2.2.2.2.2.1) rfl rfl ?_
  refine n_iconst (v := -1) hE (dX12_init_g1.2.2.2.2.2.2.2.2.2.2.2.2.1) (by decide) ?_
  refine n_put (v := .int (-1)) hE nc_X12 X _ 6 (by decide) (Or.inl rfl) (gTb_2 (List.mem_of_getElem? (i := 150) rfl) rfl) (by first | rfl | decide) (by first | rfl | decide) (Nat.le_of_ble_eq_true rfl) (dX12_init_g1.2.2.2.2.2.2.2.2.2.2.2.2.2.1) ?_
  refine n_aload_n hE 0 (dX12_init_g1.2.2.2.2.2.2.2.2.2.2.2.2.2.2.1) rfl rfl ?_
  refine n_new (fs := fzX5) hE nc_X5 (gTb_1 (List.mem_of_getElem? (i := 127) rfl) rfl) (gTb_1 (List.mem_of_getElem? (i := 128) rfl) rfl) (gTb_1 (List.mem_of_getElem? (i := 4) rfl) rfl) hzX5 (by decide) (by decide) (dX12_init_g1.2.2.2.2.2.2.2.2.2.2.2.2.2.2.2) (fun o_rd => ?_)
  refine n_re ?_
  refine n_dup hE (dX12_init_g2.1) rfl ?_
  refine n_aload_n hE 0 (dX12_init_g2.2.1) rfl rfl ?_
  refine n_get (v := .ref o_sp) hE nc_X12 X _ 4 (by decide) (gTb_2 (List.mem_of_getElem? (i := 148) rfl) rfl) rfl (dX12_init_g2.2.2.1) ?_
  refine n_er ?_
  refine n_callI (b := o_rd) hE [.ref o_sp] [.ref o_rd, .ref b] (kX5_init (el E) (eD E) T (eA E) _ _ o_rd o_sp) rfl ⟨gTb_1 (List.mem_of_getElem? (i := 131) rfl) rfl, gTb_1 (List.mem_of_getElem? (i := 4) rfl) rfl, gTb_1 (List.mem_of_getElem? (i := 130) rfl) rfl⟩ ⟨by decide +kernel, by decide +kernel⟩ (by decide +kernel) (Or.inl (gTb_1 (List.mem_of_getElem? (i := 129) rfl) rfl)) rfl rfl (by simp [Value.category]) ⟨by decide, by decide⟩ ⟨by decide, by decide⟩ (dX12_init_g2.2.2.2.1) (fun ws1 hw => ?_)
  subst hw
  refine n_re ?_
  refine n_put (v := .ref o_rd) hE nc_X12 X _ 7 (by decide) (Or.inr ⟨rfl, hnm, rfl⟩) (gTb_2 (List.mem_of_getElem? (i := 151) rfl) rfl) (by first | rfl | decide) (by first | rfl | decide) (Nat.le_of_ble_eq_true rfl) (dX12_init_g2.2.2.2.2.1) ?_
  refine n_aload_n hE 0 (dX12_init_g2.2.2.2.2.2.1) rfl rfl ?_
  refine n_new (fs := fzX4) hE nc_X4 (gTb_1 (List.mem_of_getElem? (i := 162) rfl) rfl) (gTb_1 (List.mem_of_getElem? (i := 163) rfl) rfl) (gTb_1 (List.mem_of_getElem? (i := 5) rfl) rfl) hzX4 (by decide) (by decide) (dX12_init_g2.2.2.2.2.2.2.1) (fun o_pr => ?_)
  refine n_re ?_
  refine n_dup hE (dX12_init_g2.2.2.2.2.2.2.2.1) rfl ?_
  refine n_aload_n hE 0 (dX12_init_g2.2.2.2.2.2.2.2.2.1) rfl rfl ?_
  refine n_get (v := .ref o_fg) hE nc_X12 X _ 3 (by decide) (gTb_2 (List.mem_of_getElem? (i := 147) rfl) rfl) rfl (dX12_init_g2.2.2.2.2.2.2.2.2.2.1) ?_
  refine n_aload_n hE 0 (dX12_init_g2.2.2.2.2.2.2.2.2.2.2.1) rfl rfl ?_
  refine n_get (v := .ref o_ou) hE nc_X12 X _ 2 (by decide) (gTb_2 (List.mem_of_getElem? (i := 146) rfl) rfl) rfl (dX12_init_g2.2.2.2.2.2.2.2.2.2.2.2.1) ?_
  refine n_er ?_
  refine n_callI (b := o_pr) hE [.ref o_fg, .ref o_ou] [.ref o_pr, .ref b] (kX4_init (el E) (eD E) T (eA E) _ _ o_pr o_fg o_ou) rfl ⟨gTb_1 (List.mem_of_getElem? (i := 166) rfl) rfl, gTb_1 (List.mem_of_getElem? (i := 5) rfl) rfl, gTb_1 (List.mem_of_getElem? (i := 165) rfl) rfl⟩ ⟨by decide +kernel, by decide +kernel⟩ (by decide +kernel) (Or.inl (gTb_1 (List.mem_of_getElem? (i := 164) rfl) rfl)) rfl rfl (by simp [Value.category]) ⟨by decide, by decide⟩ ⟨by decide, by decide⟩ (dX12_init_g2.2.2.2.2.2.2.2.2.2.2.2.2.1) (fun ws1 hw => ?_)
  obtain ⟨pr_q3, pr_q4, pr_q5, rfl⟩ := hw
  refine n_re ?_
  refine n_put (v := .ref o_pr) hE nc_X12 X _ 8 (by decide) (Or.inr ⟨rfl, hnm, rfl⟩) (gTb_2 (List.mem_of_getElem? (i := 152) rfl) rfl) (by first | rfl | decide) (by first | rfl | decide) (Nat.le_of_ble_eq_true rfl) (dX12_init_g2.2.2.2.2.2.2.2.2.2.2.2.2.2.1) ?_
  refine n_aload_n hE 0 (dX12_init_g2.2.2.2.2.2.2.2.2.2.2.2.2.2.2.1) rfl rfl ?_
  refine n_new (fs := fzX6) hE nc_X6 (gTb_1 (List.mem_of_getElem? (i := 188) rfl) rfl) (gTb_1 (List.mem_of_getElem? (i := 189) rfl) rfl) (gTb_1 (List.mem_of_getElem? (i := 6) rfl) rfl) hzX6 (by decide) (by decide) (dX12_init_g2.2.2.2.2.2.2.2.2.2.2.2.2.2.2.2) (fun o_rk => ?_)
  refine n_re ?_
  refine n_dup hE (dX12_init_g3.1) rfl ?_
  refine n_er ?_
  refine n_callI (b := o_rk) hE [] [.ref o_rk, .ref b] (kX6_init (el E) (eD E) T (eA E) _ _ o_rk) rfl ⟨gTb_1 (List.mem_of_getElem? (i := 192) rfl) rfl, gTb_1 (List.mem_of_getElem? (i := 6) rfl) rfl, gTb_1 (List.mem_of_getElem? (i := 191) rfl) rfl⟩ ⟨by decide +kernel, by decide +kernel⟩ (by decide +kernel) (Or.inr ⟨"FigureTexts", List.mem_of_getElem? (i := 2) rfl⟩) rfl rfl (by simp [Value.category]) ⟨by decide, by decide⟩ ⟨by decide, by decide⟩ (dX12_init_g3.2.1) (fun ws1 hw => ?_)
  subst hw
  refine n_re ?_
  refine n_put (v := .ref o_rk) hE nc_X12 X _ 9 (by decide) (Or.inr ⟨rfl, hnm, rfl⟩) (gTb_2 (List.mem_of_getElem? (i := 153) rfl) rfl) (by first | rfl | decide) (by first | rfl | decide) (Nat.le_of_ble_eq_true rfl) (dX12_init_g3.2.2.1) ?_
  refine n_aload_n hE 0 (dX12_init_g3.2.2.2.1) rfl rfl ?_
  refine n_new (fs := fzX8) hE nc_X8 (gTb_1 (List.mem_of_getElem? (i := 201) rfl) rfl) (gTb_1 (List.mem_of_getElem? (i := 202) rfl) rfl) (gTb_1 (List.mem_of_getElem? (i := 7) rfl) rfl) hzX8 (by decide) (by decide) (dX12_init_g3.2.2.2.2.1) (fun o_th => ?_)
  refine n_re ?_
  refine n_dup hE (dX12_init_g3.2.2.2.2.2.1) rfl ?_
  refine n_er ?_
  refine n_callI (b := o_th) hE [] [.ref o_th, .ref b] (kX8_init (el E) (eD E) T (eA E) _ _ o_th) rfl ⟨gTb_1 (List.mem_of_getElem? (i := 205) rfl) rfl, gTb_1 (List.mem_of_getElem? (i := 7) rfl) rfl, gTb_1 (List.mem_of_getElem? (i := 204) rfl) rfl⟩ ⟨by decide +kernel, by decide +kernel⟩ (by decide +kernel) (Or.inr ⟨"FigureTexts", List.mem_of_getElem? (i := 3) rfl⟩) rfl rfl (by simp [Value.category]) ⟨by decide, by decide⟩ ⟨by decide, by decide⟩ (dX12_init_g3.2.2.2.2.2.2.1) (fun ws1 hw => ?_)
  obtain ⟨th_q1, th_q2, th_q3, th_q4, rfl⟩ := hw
  refine n_re ?_
  refine n_put (v := .ref o_th) hE nc_X12 X _ 10 (by decide) (Or.inr ⟨rfl, hnm, rfl⟩) (gTb_2 (List.mem_of_getElem? (i := 154) rfl) rfl) (by first | rfl | decide) (by first | rfl | decide) (Nat.le_of_ble_eq_true rfl) (dX12_init_g3.2.2.2.2.2.2.2.1) ?_
  refine n_aload_n hE 0 (dX12_init_g3.2.2.2.2.2.2.2.2.1) rfl rfl ?_
  refine n_new (fs := fzX2) hE nc_X2 (gTb_1 (List.mem_of_getElem? (i := 224) rfl) rfl) (gTb_1 (List.mem_of_getElem? (i := 225) rfl) rfl) (gTb_1 (List.mem_of_getElem? (i := 8) rfl) rfl) hzX2 (by decide) (by decide) (dX12_init_g3.2.2.2.2.2.2.2.2.2.1) (fun o_fr => ?_)
  refine n_re ?_
  refine n_dup hE (dX12_init_g3.2.2.2.2.2.2.2.2.2.2.1) rfl ?_
  refine n_er ?_
  refine n_callI (b := o_fr) hE [] [.ref o_fr, .ref b] (kX2_init (el E) (eD E) T (eA E) _ _ o_fr) rfl ⟨gTb_1 (List.mem_of_getElem? (i := 228) rfl) rfl, gTb_1 (List.mem_of_getElem? (i := 8) rfl) rfl, gTb_1 (List.mem_of_getElem? (i := 227) rfl) rfl⟩ ⟨by decide +kernel, by decide +kernel⟩ (by decide +kernel) (Or.inr ⟨"FigureTexts", List.mem_of_getElem? (i := 4) rfl⟩) rfl rfl (by simp [Value.category]) ⟨by decide, by decide⟩ ⟨by decide, by decide⟩ (dX12_init_g3.2.2.2.2.2.2.2.2.2.2.2.1) (fun ws1 hw => ?_)
  obtain ⟨fr_q1, fr_q2, fr_q3, fr_q4, fr_q5, fr_q6, fr_q7, rfl⟩ := hw
  refine n_re ?_
  refine n_put (v := .ref o_fr) hE nc_X12 X _ 11 (by decide) (Or.inr ⟨rfl, hnm, rfl⟩) (gTb_2 (List.mem_of_getElem? (i := 155) rfl) rfl) (by first | rfl | decide) (by first | rfl | decide) (Nat.le_of_ble_eq_true rfl) (dX12_init_g3.2.2.2.2.2.2.2.2.2.2.2.2.1) ?_
  refine n_aload_n hE 0 (dX12_init_g3.2.2.2.2.2.2.2.2.2.2.2.2.2.1) rfl rfl ?_
  refine n_new (fs := fzX9) hE nc_X9 (gTb_2 (List.mem_of_getElem? (i := 18) rfl) rfl) (gTb_2 (List.mem_of_getElem? (i := 19) rfl) rfl) (gTb_1 (List.mem_of_getElem? (i := 9) rfl) rfl) hzX9 (by decide) (by decide) (dX12_init_g3.2.2.2.2.2.2.2.2.2.2.2.2.2.2.1) (fun o_to => ?_)
  refine n_re ?_
  refine n_dup hE (dX12_init_g3.2.2.2.2.2.2.2.2.2.2.2.2.2.2.2) rfl ?_
  refine n_er ?_
  refine n_callI (b := o_to) hE [] [.ref o_to, .ref b] (kX9_init (el E) (eD E) T (eA E) _ _ o_to) rfl ⟨gTb_2 (List.mem_of_getElem? (i := 22) rfl) rfl, gTb_1 (List.mem_of_getElem? (i := 9) rfl) rfl, gTb_2 (List.mem_of_getElem? (i := 21) rfl) rfl⟩ ⟨by decide +kernel, by decide +kernel⟩ (by decide +kernel) (Or.inr ⟨"FigureTexts", List.mem_of_getElem? (i := 5) rfl⟩) rfl rfl (by simp [Value.category]) ⟨by decide, by decide⟩ ⟨by decide, by decide⟩ (dX12_init_g4.1) (fun ws1 hw => ?_)
  obtain ⟨to_q1, to_q2, to_q3, to_q4, rfl⟩ := hw
  refine n_re ?_
  refine n_put (v := .ref o_to) hE nc_X12 X _ 12 (by decide) (Or.inr ⟨rfl, hnm, rfl⟩) (gTb_2 (List.mem_of_getElem? (i := 156) rfl) rfl) (by first | rfl | decide) (by first | rfl | decide) (Nat.le_of_ble_eq_true rfl) (dX12_init_g4.2.1) ?_
  refine n_aload_n hE 0 (dX12_init_g4.2.2.1) rfl rfl ?_
  refine n_new (fs := fzX7) hE nc_X7 (gTb_2 (List.mem_of_getElem? (i := 58) rfl) rfl) (gTb_2 (List.mem_of_getElem? (i := 59) rfl) rfl) (gTb_1 (List.mem_of_getElem? (i := 10) rfl) rfl) hzX7 (by decide) (by decide) (dX12_init_g4.2.2.2.1) (fun o_ru => ?_)
  refine n_re ?_
  refine n_dup hE (dX12_init_g4.2.2.2.2.1) rfl ?_
  refine n_aload_n hE 0 (dX12_init_g4.2.2.2.2.2.1) rfl rfl ?_
  refine n_get (v := .ref o_fg) hE nc_X12 X _ 3 (by decide) (gTb_2 (List.mem_of_getElem? (i := 147) rfl) rfl) rfl (dX12_init_g4.2.2.2.2.2.2.1) ?_
  refine n_new (fs := fzX11) hE nc_X11 (gTb_2 (List.mem_of_getElem? (i := 60) rfl) rfl) (gTb_2 (List.mem_of_getElem? (i := 61) rfl) rfl) (gTb_1 (List.mem_of_getElem? (i := 11) rfl) rfl) hzX11 (by decide) (by decide) (dX12_init_g4.2.2.2.2.2.2.2.1) (fun o_wo => ?_)
  refine n_re ?_
  refine n_dup hE (dX12_init_g4.2.2.2.2.2.2.2.2.1) rfl ?_
  refine n_aload_n hE 0 (dX12_init_g4.2.2.2.2.2.2.2.2.2.1) rfl rfl ?_
  refine n_get (v := .ref o_rk) hE nc_X12 X _ 9 (by decide) (gTb_2 (List.mem_of_getElem? (i := 153) rfl) rfl) rfl (dX12_init_g4.2.2.2.2.2.2.2.2.2.2.1) ?_
  refine n_aload_n hE 0 (dX12_init_g4.2.2.2.2.2.2.2.2.2.2.2.1) rfl rfl ?_
  refine n_get (v := .ref o_th) hE nc_X12 X _ 10 (by decide) (gTb_2 (List.mem_of_getElem? (i := 154) rfl) rfl) rfl (dX12_init_g4.2.2.2.2.2.2.2.2.2.2.2.2.1) ?_
  refine n_aload_n hE 0 (dX12_init_g4.2.2.2.2.2.2.2.2.2.2.2.2.2.1) rfl rfl ?_
  refine n_get (v := .ref o_fr) hE nc_X12 X _ 11 (by decide) (gTb_2 (List.mem_of_getElem? (i := 155) rfl) rfl) rfl (dX12_init_g4.2.2.2.2.2.2.2.2.2.2.2.2.2.2.1) ?_
  refine n_er ?_
  refine n_callI (b := o_wo) hE [.ref o_rk, .ref o_th, .ref o_fr] [.ref o_wo, .ref o_fg, .ref o_ru, .ref o_ru, .ref b] (kX11_init (el E) (eD E) T (eA E) _ _ o_wo o_rk o_th o_fr) rfl ⟨gTb_2 (List.mem_of_getElem? (i := 64) rfl) rfl, gTb_1 (List.mem_of_getElem? (i := 11) rfl) rfl, gTb_2 (List.mem_of_getElem? (i := 63) rfl) rfl⟩ ⟨by decide +kernel, by decide +kernel⟩ (by decide +kernel) (Or.inl (gTb_2 (List.mem_of_getElem? (i := 62) rfl) rfl)) rfl rfl (by simp [Value.category]) ⟨by decide, by decide⟩ ⟨by decide, by decide⟩ (dX12_init_g4.2.2.2.2.2.2.2.2.2.2.2.2.2.2.2) (fun ws1 hw => ?_)
  obtain ⟨wo_q4, rfl⟩ := hw
  refine n_re ?_
  refine n_aload_n hE 0 (dX12_init_g5.1) rfl rfl ?_
  refine n_get (v := .ref o_to) hE nc_X12 X _ 12 (by decide) (gTb_2 (List.mem_of_getElem? (i := 156) rfl) rfl) rfl (dX12_init_g5.2.1) ?_
  refine n_mid ?_
  refine n_callI (b := o_ru) hE [.ref o_fg, .ref o_wo, .ref o_to] [.ref o_ru, .ref b] (kX7_init (el E) (eD E) T (eA E) _ _ o_ru o_fg o_wo o_to) rfl ⟨gTb_2 (List.mem_of_getElem? (i := 102) rfl) rfl, gTb_1 (List.mem_of_getElem? (i := 10) rfl) rfl, gTb_2 (List.mem_of_getElem? (i := 101) rfl) rfl⟩ ⟨by decide +kernel, by decide +kernel⟩ (by decide +kernel) (Or.inl (gTb_2 (List.mem_of_getElem? (i := 100) rfl) rfl)) rfl rfl (by simp [Value.category]) ⟨by decide, by decide⟩ ⟨by decide, by decide⟩ (dX12_init_g5.2.2.1) (fun ws1 hw => ?_)
  obtain ⟨ru_q4, ru_q5, ru_q6, ru_q7, ru_q8, ru_q10, ru_q12, rfl⟩ := hw
  refine n_re ?_
  refine n_put (v := .ref o_ru) hE nc_X12 X _ 13 (by decide) (Or.inr ⟨rfl, hnm, rfl⟩) (gTb_2 (List.mem_of_getElem? (i := 157) rfl) rfl) (by first | rfl | decide) (by first | rfl | decide) (Nat.le_of_ble_eq_true rfl) (dX12_init_g5.2.2.2.1) ?_
  refine n_aload_n hE 0 (dX12_init_g5.2.2.2.2.1) rfl rfl ?_
  refine n_iconst (v := 0) hE (dX12_init_g5.2.2.2.2.2.1) (by decide) ?_
  refine n_put (v := .int (0)) hE nc_X12 X _ 14 (by decide) (Or.inl rfl) (gTb_2 (List.mem_of_getElem? (i := 158) rfl) rfl) (by first | rfl | decide) (by first | rfl | decide) (Nat.le_of_ble_eq_true rfl) (dX12_init_g5.2.2.2.2.2.2.1) ?_
  refine n_aload_n hE 0 (dX12_init_g5.2.2.2.2.2.2.2.1) rfl rfl ?_
  refine n_bipush (v := 21) hE (dX12_init_g5.2.2.2.2.2.2.2.2.1) (by decide) ?_
  refine n_newa (N := 21) (n := 21) (aty := .int) (a0 := (21, .inl (fun _ => 0))) hE .int rfl 0 rfl (gTb_1 (List.mem_of_getElem? (i := 126) rfl) rfl) (fun _ => rfl) (by decide) (by decide) (by decide) (by decide) (by decide) (dX12_init_g5.2.2.2.2.2.2.2.2.2.1) (fun r185 => ?_)
  refine n_re ?_
  refine n_put (v := .ref r185) hE nc_X12 X _ 15 (by decide) (Or.inr ⟨rfl, hnm, rfl⟩) (gTb_2 (List.mem_of_getElem? (i := 159) rfl) rfl) (by first | rfl | decide) (by first | rfl | decide) (Nat.le_of_ble_eq_true rfl) (dX12_init_g5.2.2.2.2.2.2.2.2.2.2.1) ?_
  refine n_aload_n hE 0 (dX12_init_g5.2.2.2.2.2.2.2.2.2.2.2.1) rfl rfl ?_
  refine n_iconst (v := 0) hE (dX12_init_g5.2.2.2.2.2.2.2.2.2.2.2.2.1) (by decide) ?_
  refine n_put (v := .int (0)) hE nc_X12 X _ 16 (by decide) (Or.inl rfl) (gTb_2 (List.mem_of_getElem? (i := 160) rfl) rfl) (by first | rfl | decide) (by first | rfl | decide) (Nat.le_of_ble_eq_true rfl) (dX12_init_g5.2.2.2.2.2.2.2.2.2.2.2.2.2.1) ?_
  refine n_vret hE hF hr (by decide) (by decide) (dX12_init_g5.2.2.2.2.2.2.2.2.2.2.2.2.2.2) ⟨fun k => if k < 300 then gl [(200, b), (201, r8), (216, r185)] b k else if k < 400 then gl [(300, o_fg), (301, fg_q1), (303, fg_q3), (304, fg_q4), (305, fg_q5), (306, fg_q6), (307, fg_q7), (308, fg_q8), (309, fg_q9), (313, fg_q13), (314, fg_q14), (315, fg_q15), (316, fg_q16), (317, fg_q17)] b k else if k < 500 then gl [(400, o_sp), (401, sp_q1), (403, sp_q3), (404, sp_q4), (405, sp_q5), (406, sp_q6), (407, sp_q7), (408, sp_q8), (409, sp_q9), (413, sp_q13), (414, sp_q14), (415, sp_q15), (416, sp_q16), (417, sp_q17)] b k else if k < 600 then gl [(500, o_ou), (501, ou_q1), (502, ou_q2)] b k else if k < 700 then gl [(600, o_rd)] b k else if k < 800 then gl [(700, o_pr), (703, pr_q3), (704, pr_q4), (705, pr_q5)] b k else if k < 900 then gl [(800, o_rk)] b k else if k < 1000 then gl [(900, o_th), (901, th_q1), (902, th_q2), (903, th_q3), (904, th_q4)] b k else if k < 1100 then gl [(1000, o_fr), (1001, fr_q1), (1002, fr_q2), (1003, fr_q3), (1004, fr_q4), (1005, fr_q5), (1006, fr_q6), (1007, fr_q7)] b k else if k < 1200 then gl [(1100, o_to), (1101, to_q1), (1102, to_q2), (1103, to_q3), (1104, to_q4)] b k else if k < 1300 then gl [(1200, o_ru), (1204, ru_q4), (1205, ru_q5), (1206, ru_q6), (1207, ru_q7), (1208, ru_q8), (1210, ru_q10), (1212, ru_q12)] b k else if k < 1400 then gl [(1300, o_wo), (1304, wo_q4)] b k else b, rfl, fun k => ?_, ?_⟩
  · dsimp only
    split
    · exact (gl_cover (P := fun a => ∃ (i : Nat) (e : va_E), (cW (_, T) cS0)[i]? = some (a, e)) ⟨0, _, rfl⟩ (List.forall_mem_cons.mpr ⟨⟨0, _, rfl⟩, (List.forall_mem_cons.mpr ⟨⟨1, _, rfl⟩, (List.forall_mem_cons.mpr ⟨⟨2, _, rfl⟩, fun _ h => absurd h List.not_mem_nil⟩)⟩)⟩))
    rename_i h
    split
    · exact (gl_cover (P := fun a => ∃ (i : Nat) (e : va_E), (cW (_, T) cS0)[i]? = some (a, e)) ⟨0, _, rfl⟩ (List.forall_mem_cons.mpr ⟨⟨3, _, rfl⟩, (List.forall_mem_cons.mpr ⟨⟨4, _, rfl⟩, (List.forall_mem_cons.mpr ⟨⟨5, _, rfl⟩, (List.forall_mem_cons.mpr ⟨⟨6, _, rfl⟩, (List.forall_mem_cons.mpr ⟨⟨7, _, rfl⟩, (List.forall_mem_cons.mpr ⟨⟨8, _, rfl⟩, (List.forall_mem_cons.mpr ⟨⟨9, _, rfl⟩, (List.forall_mem_cons.mpr ⟨⟨10, _, rfl⟩, (List.forall_mem_cons.mpr ⟨⟨11, _, rfl⟩, (List.forall_mem_cons.mpr ⟨⟨12, _, rfl⟩, (List.forall_mem_cons.mpr ⟨⟨13, _, rfl⟩, (List.forall_mem_cons.mpr ⟨⟨14, _, rfl⟩, (List.forall_mem_cons.mpr ⟨⟨15, _, rfl⟩, (List.forall_mem_cons.mpr ⟨⟨16, _, rfl⟩, fun _ h => absurd h List.not_mem_nil⟩)⟩)⟩)⟩)⟩)⟩)⟩)⟩)⟩)⟩)⟩)⟩)⟩)⟩))
    rename_i h
    split
    · exact (gl_cover (P := fun a => ∃ (i : Nat) (e : va_E), (cW (_, T) cS0)[i]? = some (a, e)) ⟨0, _, rfl⟩ (List.forall_mem_cons.mpr ⟨⟨17, _, rfl⟩, (List.forall_mem_cons.mpr ⟨⟨18, _, rfl⟩, (List.forall_mem_cons.mpr ⟨⟨19, _, rfl⟩, (List.forall_mem_cons.mpr ⟨⟨20, _, rfl⟩, (List.forall_mem_cons.mpr ⟨⟨21, _, rfl⟩, (List.forall_mem_cons.mpr ⟨⟨22, _, rfl⟩, (List.forall_mem_cons.mpr ⟨⟨23, _, rfl⟩, (List.forall_mem_cons.mpr ⟨⟨24, _, rfl⟩, (List.forall_mem_cons.mpr ⟨⟨25, _, rfl⟩, (List.forall_mem_cons.mpr ⟨⟨26, _, rfl⟩, (List.forall_mem_cons.mpr ⟨⟨27, _, rfl⟩, (List.forall_mem_cons.mpr ⟨⟨28, _, rfl⟩, (List.forall_mem_cons.mpr ⟨⟨29, _, rfl⟩, (List.forall_mem_cons.mpr ⟨⟨30, _, rfl⟩, fun _ h => absurd h List.not_mem_nil⟩)⟩)⟩)⟩)⟩)⟩)⟩)⟩)⟩)⟩)⟩)⟩)⟩)⟩))
    rename_i h
    split
    · exact (gl_cover (P := fun a => ∃ (i : Nat) (e : va_E), (cW (_, T) cS0)[i]? = some (a, e)) ⟨0, _, rfl⟩ (List.forall_mem_cons.mpr ⟨⟨31, _, rfl⟩, (List.forall_mem_cons.mpr ⟨⟨32, _, rfl⟩, (List.forall_mem_cons.mpr ⟨⟨33, _, rfl⟩, fun _ h => absurd h List.not_mem_nil⟩)⟩)⟩))
    rename_i h
    split
    · exact (gl_cover (P := fun a => ∃ (i : Nat) (e : va_E), (cW (_, T) cS0)[i]? = some (a, e)) ⟨0, _, rfl⟩ (List.forall_mem_cons.mpr ⟨⟨34, _, rfl⟩, fun _ h => absurd h List.not_mem_nil⟩))
    rename_i h
    split
    · exact (gl_cover (P := fun a => ∃ (i : Nat) (e : va_E), (cW (_, T) cS0)[i]? = some (a, e)) ⟨0, _, rfl⟩ (List.forall_mem_cons.mpr ⟨⟨35, _, rfl⟩, (List.forall_mem_cons.mpr ⟨⟨36, _, rfl⟩, (List.forall_mem_cons.mpr ⟨⟨37, _, rfl⟩, (List.forall_mem_cons.mpr ⟨⟨38, _, rfl⟩, fun _ h => absurd h List.not_mem_nil⟩)⟩)⟩)⟩))
    rename_i h
    split
    · exact (gl_cover (P := fun a => ∃ (i : Nat) (e : va_E), (cW (_, T) cS0)[i]? = some (a, e)) ⟨0, _, rfl⟩ (List.forall_mem_cons.mpr ⟨⟨39, _, rfl⟩, fun _ h => absurd h List.not_mem_nil⟩))
    rename_i h
    split
    · exact (gl_cover (P := fun a => ∃ (i : Nat) (e : va_E), (cW (_, T) cS0)[i]? = some (a, e)) ⟨0, _, rfl⟩ (List.forall_mem_cons.mpr ⟨⟨40, _, rfl⟩, (List.forall_mem_cons.mpr ⟨⟨41, _, rfl⟩, (List.forall_mem_cons.mpr ⟨⟨42, _, rfl⟩, (List.forall_mem_cons.mpr ⟨⟨43, _, rfl⟩, (List.forall_mem_cons.mpr ⟨⟨44, _, rfl⟩, fun _ h => absurd h List.not_mem_nil⟩)⟩)⟩)⟩)⟩))
    rename_i h
    split
    · exact (gl_cover (P := fun a => ∃ (i : Nat) (e : va_E), (cW (_, T) cS0)[i]? = some (a, e)) ⟨0, _, rfl⟩ (List.forall_mem_cons.mpr ⟨⟨45, _, rfl⟩, (List.forall_mem_cons.mpr ⟨⟨46, _, rfl⟩, (List.forall_mem_cons.mpr ⟨⟨47, _, rfl⟩, (List.forall_mem_cons.mpr ⟨⟨48, _, rfl⟩, (List.forall_mem_cons.mpr ⟨⟨49, _, rfl⟩, (List.forall_mem_cons.mpr ⟨⟨50, _, rfl⟩, (List.forall_mem_cons.mpr ⟨⟨51, _, rfl⟩, (List.forall_mem_cons.mpr ⟨⟨52, _, rfl⟩, fun _ h => absurd h List.not_mem_nil⟩)⟩)⟩)⟩)⟩)⟩)⟩)⟩))
    rename_i h
    split
    · exact (gl_cover (P := fun a => ∃ (i : Nat) (e : va_E), (cW (_, T) cS0)[i]? = some (a, e)) ⟨0, _, rfl⟩ (List.forall_mem_cons.mpr ⟨⟨53, _, rfl⟩, (List.forall_mem_cons.mpr ⟨⟨54, _, rfl⟩, (List.forall_mem_cons.mpr ⟨⟨55, _, rfl⟩, (List.forall_mem_cons.mpr ⟨⟨56, _, rfl⟩, (List.forall_mem_cons.mpr ⟨⟨57, _, rfl⟩, fun _ h => absurd h List.not_mem_nil⟩)⟩)⟩)⟩)⟩))
    rename_i h
    split
    · exact (gl_cover (P := fun a => ∃ (i : Nat) (e : va_E), (cW (_, T) cS0)[i]? = some (a, e)) ⟨0, _, rfl⟩ (List.forall_mem_cons.mpr ⟨⟨58, _, rfl⟩, (List.forall_mem_cons.mpr ⟨⟨59, _, rfl⟩, (List.forall_mem_cons.mpr ⟨⟨60, _, rfl⟩, (List.forall_mem_cons.mpr ⟨⟨61, _, rfl⟩, (List.forall_mem_cons.mpr ⟨⟨62, _, rfl⟩, (List.forall_mem_cons.mpr ⟨⟨63, _, rfl⟩, (List.forall_mem_cons.mpr ⟨⟨64, _, rfl⟩, (List.forall_mem_cons.mpr ⟨⟨65, _, rfl⟩, fun _ h => absurd h List.not_mem_nil⟩)⟩)⟩)⟩)⟩)⟩)⟩)⟩))
    rename_i h
    split
    · exact (gl_cover (P := fun a => ∃ (i : Nat) (e : va_E), (cW (_, T) cS0)[i]? = some (a, e)) ⟨0, _, rfl⟩ (List.forall_mem_cons.mpr ⟨⟨66, _, rfl⟩, (List.forall_mem_cons.mpr ⟨⟨67, _, rfl⟩, fun _ h => absurd h List.not_mem_nil⟩)⟩))
    rename_i h
    exact ⟨0, _, rfl⟩
  · rfl
/-- where the cells of cW lie in the order of making -/
def cPerm : List Nat := [0, 1, 67, 5, 6, 7, 8, 9, 10, 11, 12, 13, 14, 15, 16, 17, 18, 19, 20, 21, 22, 23, 24, 25, 26, 27, 28, 29, 30, 31, 32, 2, 3, 4, 33, 34, 35, 36, 37, 38, 39, 40, 41, 42, 43, 44, 45, 46, 47, 48, 49, 50, 51, 52, 53, 54, 55, 56, 57, 60, 61, 62, 63, 64, 65, 66, 58, 59]
set_option maxRecDepth 100000 in
theorem cPerm_ok (g : Nat → Nat) (T : Nat → ClassId) : cPerm.map (fun i => (cW0 g T)[i]?) = (cW (g, T) cS0).map some := rfl
theorem cPerm_nd : va_nd cPerm = true := by decide +kernel
set_option maxRecDepth 100000 in
theorem cW_in (G : gAd) (σ : CS) : ∀ x ∈ cW G σ, cFree G x.1 := List.forall_mem_cons.mpr ⟨⟨200, by decide, by decide, rfl⟩, List.forall_mem_cons.mpr ⟨⟨201, by decide, by decide, rfl⟩, List.forall_mem_cons.mpr ⟨⟨216, by decide, by decide, rfl⟩, List.forall_mem_cons.mpr ⟨⟨300, by decide, by decide, rfl⟩, List.forall_mem_cons.mpr ⟨⟨301, by decide, by decide, rfl⟩, List.forall_mem_cons.mpr ⟨⟨303, by decide, by decide, rfl⟩, List.forall_mem_cons.mpr ⟨⟨304, by decide, by decide, rfl⟩, List.forall_mem_cons.mpr ⟨⟨305, by decide, by decide, rfl⟩, List.forall_mem_cons.mpr ⟨⟨306, by decide, by decide, rfl⟩, List.forall_mem_cons.mpr ⟨⟨307, by decide, by decide, rfl⟩, List.forall_mem_cons.mpr ⟨⟨308, by decide, by decide, rfl⟩, List.forall_mem_cons.mpr ⟨⟨309, by decide, by decide, rfl⟩, List.forall_mem_cons.mpr ⟨⟨313, by decide, by decide, rfl⟩, List.forall_mem_cons.mpr ⟨⟨314, by decide, by decide, rfl⟩, List.forall_mem_cons.mpr ⟨⟨315, by decide, by decide, rfl⟩, List.forall_mem_cons.mpr ⟨⟨316, by decide, by decide, rfl⟩, List.forall_mem_cons.mpr ⟨⟨317, by decide, by decide, rfl⟩, List.forall_mem_cons.mpr ⟨⟨400, by decide, by decide, rfl⟩, List.forall_mem_cons.mpr ⟨⟨401, by decide, by decide, rfl⟩, List.forall_mem_cons.mpr ⟨⟨403, by decide, by decide, rfl⟩, List.forall_mem_cons.mpr ⟨⟨404, by decide, by decide, rfl⟩, List.forall_mem_cons.mpr ⟨⟨405, by decide, by decide, rfl⟩, List.forall_mem_cons.mpr ⟨⟨406, by decide, by decide, rfl⟩, List.forall_mem_cons.mpr ⟨⟨407, by decide, by decide, rfl⟩, List.forall_mem_cons.mpr ⟨⟨408, by decide, by decide, rfl⟩, List.forall_mem_cons.mpr ⟨⟨409, by decide, by decide, rfl⟩, List.forall_mem_cons.mpr ⟨⟨413, by decide, by decide, rfl⟩, List.forall_mem_cons.mpr ⟨⟨414, by decide, by decide, rfl⟩, List.forall_mem_cons.mpr ⟨⟨415, by decide, by decide, rfl⟩, List.forall_mem_cons.mpr ⟨⟨416, by decide, by decide, rfl⟩, List.forall_mem_cons.mpr ⟨⟨417, by decide, by decide, rfl⟩, List.forall_mem_cons.mpr ⟨⟨500, by decide, by decide, rfl⟩, List.forall_mem_cons.mpr ⟨⟨501, by decide, by decide, rfl⟩, List.forall_mem_cons.mpr ⟨⟨502, by decide, by decide, rfl⟩, List.forall_mem_cons.mpr ⟨⟨600, by decide, by decide, rfl⟩, List.forall_mem_cons.mpr ⟨⟨700, by decide, by decide, rfl⟩, List.forall_mem_cons.mpr ⟨⟨703, by decide, by decide, rfl⟩, List.forall_mem_cons.mpr ⟨⟨704, by decide, by decide, rfl⟩, List.forall_mem_cons.mpr ⟨⟨705, by decide, by decide, rfl⟩, List.forall_mem_cons.mpr ⟨⟨800, by decide, by decide, rfl⟩, List.forall_mem_cons.mpr ⟨⟨900, by decide, by decide, rfl⟩, List.forall_mem_cons.mpr ⟨⟨901, by decide, by decide, rfl⟩, List.forall_mem_cons.mpr ⟨⟨902, by decide, by decide, rfl⟩, List.forall_mem_cons.mpr ⟨⟨903, by decide, by decide, rfl⟩, List.forall_mem_cons.mpr ⟨⟨904, by decide, by decide, rfl⟩, List.forall_mem_cons.mpr ⟨⟨1000, by decide, by decide, rfl⟩, List.forall_mem_cons.mpr ⟨⟨1001, by decide, by decide, rfl⟩, List.forall_mem_cons.mpr ⟨⟨1002, by decide, by decide, rfl⟩, List.forall_mem_cons.mpr ⟨⟨1003, by decide, by decide, rfl⟩, List.forall_mem_cons.mpr ⟨⟨1004, by decide, by decide, rfl⟩, List.forall_mem_cons.mpr ⟨⟨1005, by decide, by decide, rfl⟩, List.forall_mem_cons.mpr ⟨⟨1006, by decide, by decide, rfl⟩, List.forall_mem_cons.mpr ⟨⟨1007, by decide, by decide, rfl⟩, List.forall_mem_cons.mpr ⟨⟨1100, by decide, by decide, rfl⟩, List.forall_mem_cons.mpr ⟨⟨1101, by decide, by decide, rfl⟩, List.forall_mem_cons.mpr ⟨⟨1102, by decide, by decide, rfl⟩, List.forall_mem_cons.mpr ⟨⟨1103, by decide, by decide, rfl⟩, List.forall_mem_cons.mpr ⟨⟨1104, by decide, by decide, rfl⟩, List.forall_mem_cons.mpr ⟨⟨1200, by decide, by decide, rfl⟩, List.forall_mem_cons.mpr ⟨⟨1204, by decide, by decide, rfl⟩, List.forall_mem_cons.mpr ⟨⟨1205, by decide, by decide, rfl⟩, List.forall_mem_cons.mpr ⟨⟨1206, by decide, by decide, rfl⟩, List.forall_mem_cons.mpr ⟨⟨1207, by decide, by decide, rfl⟩, List.forall_mem_cons.mpr ⟨⟨1208, by decide, by decide, rfl⟩, List.forall_mem_cons.mpr ⟨⟨1210, by decide, by decide, rfl⟩, List.forall_mem_cons.mpr ⟨⟨1212, by decide, by decide, rfl⟩, List.forall_mem_cons.mpr ⟨⟨1300, by decide, by decide, rfl⟩, List.forall_mem_cons.mpr ⟨⟨1304, by decide, by decide, rfl⟩, fun _ h => absurd h List.not_mem_nil⟩⟩⟩⟩⟩⟩⟩⟩⟩⟩⟩⟩⟩⟩⟩⟩⟩⟩⟩⟩⟩⟩⟩⟩⟩⟩⟩⟩⟩⟩⟩⟩⟩⟩⟩⟩⟩⟩⟩⟩⟩⟩⟩⟩⟩⟩⟩⟩⟩⟩⟩⟩⟩⟩⟩⟩⟩⟩⟩⟩⟩⟩⟩⟩⟩⟩⟩⟩
