/-! THE LAW'S BODY -/
/-- what holds in the law: its machine, the script of n ints xs at b -/
def lOK (E : gEnv) (T : Nat → ClassId) (b n : Nat) (xs : Nat → Int32) : Prop :=
  nOK E cL_law RL T room_1 ∧ eA E = (fun q => (es E).heap.size ≤ q) ∧ eg E = #[Value.ref b] ∧ eP E = lw_Z (eb E) #[Value.ref b] (es E) ∧ (et E).sig.returnType = ret ∧ va_X b n xs (es E) (es E).heap ∧ b < (es E).heap.size ∧ eN E = 8
section LAWROWS
variable {E : gEnv} {T : Nat → ClassId} {b n : Nat} {xs : Nat → Int32} {ws : va_W} {cn sn pc : Nat} {L : List (Nat × Value)} {st : List Value}
theorem l_slen (h : lOK E T b n xs) (hd : decode cL_law pc = .ok (.arraylength, 1)) (k : NW E ws cn sn (pc + 1) L (.int (Int32.ofNat n) :: st)) : NW E ws cn sn pc L (.ref b :: st) := fun H locs ls hP hD hS hl =>
  va_slen h.1.1 h.1.2.1 h.2.2.2.2.2.1 h.2.2.2.2.2.2.1 (by rw [h.2.1]; exact Nat.not_le.mpr h.2.2.2.2.2.2.1) hS hd (k H locs ls hP hD hS hl)
theorem l_sld (h : lOK E T b n xs) {i : Int32} (hi : vp_in i n) (hd : decode cL_law pc = .ok (.iaload, 1)) (k : NW E ws cn sn (pc + 1) L (.int (xs i.toNatClampNeg) :: st)) : NW E ws cn sn pc L (.int i :: .ref b :: st) := fun H locs ls hP hD hS hl =>
  va_sld h.1.1 h.1.2.1 h.2.2.2.2.2.1 h.2.2.2.2.2.2.1 (by rw [h.2.1]; exact Nat.not_le.mpr h.2.2.2.2.2.2.1) hS hi hd (k H locs ls hP hD hS hl)
theorem l_iadd (h : lOK E T b n xs) {x y : Int32} (hd : decode cL_law pc = .ok (.iadd, 1)) (k : NW E ws cn sn (pc + 1) L (.int (x + y) :: st)) : NW E ws cn sn pc L (.int y :: .int x :: st) := fun H locs ls hP hD hS hl => lv_iadd h.1.1 h.1.2.1 hd (k H locs ls hP hD hS hl)
theorem l_isub (h : lOK E T b n xs) {x y : Int32} (hd : decode cL_law pc = .ok (.isub, 1)) (k : NW E ws cn sn (pc + 1) L (.int (x - y) :: st)) : NW E ws cn sn pc L (.int y :: .int x :: st) := fun H locs ls hP hD hS hl => lv_isub h.1.1 h.1.2.1 hd (k H locs ls hP hD hS hl)
theorem l_iand (h : lOK E T b n xs) {x y : Int32} (hd : decode cL_law pc = .ok (.iand, 1)) (k : NW E ws cn sn (pc + 1) L (.int (x &&& y) :: st)) : NW E ws cn sn pc L (.int y :: .int x :: st) := fun H locs ls hP hD hS hl => lv_iand h.1.1 h.1.2.1 hd (k H locs ls hP hD hS hl)
theorem l_goto (h : lOK E T b n xs) {off : Int} (tgt : Nat) (hd : decode cL_law pc = .ok (.goto off, 3)) (ht : (pc : Int) + off = (tgt : Int)) (k : NW E ws cn sn tgt L st) : NW E ws cn sn pc L st := fun H locs ls hP hD hS hl => lv_goto h.1.1 h.1.2.1 hd ht (k H locs ls hP hD hS hl)
theorem l_icmp_gt (h : lOK E T b n xs) {x y : Int32} {off : Int} (tgt : Nat) (hd : decode cL_law pc = .ok (.if_icmp .gt off, 3)) (ht : (pc : Int) + off = (tgt : Int)) (kt : y < x → NW E ws cn sn tgt L st) (kf : ¬ y < x → NW E ws cn sn (pc + 3) L st) : NW E ws cn sn pc L (.int y :: .int x :: st) := fun H locs ls hP hD hS hl => lv_icmp_gt h.1.1 h.1.2.1 hd ht (fun c => kt c H locs ls hP hD hS hl) (fun c => kf c H locs ls hP hD hS hl)
theorem l_icmp_eq (h : lOK E T b n xs) {x : Int32} {off : Int} (tgt : Nat) (hd : decode cL_law pc = .ok (.if_icmp .eq off, 3)) (ht : (pc : Int) + off = (tgt : Int)) (kt : NW E ws cn sn tgt L st) : NW E ws cn sn pc L (.int x :: .int x :: st) := fun H locs ls hP hD hS hl => lv_icmp_eq h.1.1 h.1.2.1 hd ht (fun _ => kt H locs ls hP hD hS hl) (fun c => absurd rfl c)
theorem l_if_ne1 (h : lOK E T b n xs) {off : Int} (tgt : Nat) (hd : decode cL_law pc = .ok (.ifCond .ne off, 3)) (ht : (pc : Int) + off = (tgt : Int)) (kt : NW E ws cn sn tgt L st) : NW E ws cn sn pc L (.int 1 :: st) := fun H locs ls hP hD hS hl => lv_if_ne h.1.1 h.1.2.1 hd ht (fun _ => kt H locs ls hP hD hS hl) (fun c => absurd c (by decide))
theorem l_iinc (h : lOK E T b n xs) (L' : List (Nat × Value)) (j : Nat) {i : Nat} {k0 : Int} {x v : Int32} (hd : decode cL_law pc = .ok (.iinc i k0, 3)) (hj : L[j]? = some (i, .int x)) (hv : x + Int32.ofInt k0 = v) (hn : i < 8) (hl1 : (i, Value.int v) :: L.filter (fun q => !(q.1 == i) && !(q.1 + 1 == i && q.2.category == 2)) = L') (k : NW E ws cn sn (pc + 3) L' st) : NW E ws cn sn pc L st := fun H locs ls hP hD hS hl => lv_iinc h.1.1 h.1.2.1 hd hl hj hv (by rw [h.2.2.2.2.2.2.2]; exact hn) hl1 (fun ls hl => k H locs ls hP hD hS hl)
theorem l_pick (ks : List Nat) {L' : List (Nat × Value)} (hk : lv_pick L ks = L') (k : NW E ws cn sn pc L' st) : NW E ws cn sn pc L st := fun H locs ls hP hD hS hl => k H locs ls hP hD hS (lv_sub hl ks hk)
theorem l_tabIn (h : lOK E T b n xs) {dflt lo hi : Int} {offs : Array Int} {len : Nat} {x : Int32} (c : Int32) {off : Int} (tgt : Nat) (hd : decode cL_law pc = .ok (.tableswitch dflt lo hi offs, len)) (hx : x = c) (h1 : ¬ c.toInt < lo) (h2 : ¬ hi < c.toInt) (ho : offs[(c.toInt - lo).toNat]? = some off) (ht : (pc : Int) + off = (tgt : Int)) (k : NW E ws cn sn tgt L st) : NW E ws cn sn pc L (.int x :: st) := by
  subst hx
  exact fun H locs ls hP hD hS hl => lv_tableIn h.1.1 h.1.2.1 hd h1 h2 ho ht (k H locs ls hP hD hS hl)
theorem l_tabOut (h : lOK E T b n xs) {dflt lo hi : Int} {offs : Array Int} {len : Nat} {x : Int32} (tgt : Nat) (hd : decode cL_law pc = .ok (.tableswitch dflt lo hi offs, len)) (hx : x.toInt < lo ∨ hi < x.toInt) (ht : (pc : Int) + dflt = (tgt : Int)) (k : NW E ws cn sn tgt L st) : NW E ws cn sn pc L (.int x :: st) := fun H locs ls hP hD hS hl => lv_tableOut h.1.1 h.1.2.1 hd hx ht (k H locs ls hP hD hS hl)
theorem l_ret1 (h : lOK E T b n xs) (hc : cn ≤ 600002) (hs : sn ≤ 7302232) (hd : decode cL_law pc = .ok (.ireturn, 1)) : NW E ws cn sn pc L [.int 1] := fun H locs ls hP hD hS hl => by
  obtain ⟨⟨h1, h2, h3, h4, h5, h6, h7, h8, h9, h10⟩, hA, hg, hQ, hr, hX, hb, hN⟩ := h
  rw [hQ, hg, h7]
  refine va_forget (fun q hq => by have := hS.2.2 q hq; rw [hA] at this; exact this) (W.widen (k := 600002) (n := 7302232) hc hs (lw_ret h1 h2 hr h6 hd))
theorem mCut {G : gAd} {σ : MS} (hc : ∀ k : Nat, ∃ (i : Nat) (e : va_E), (mW G σ)[i]? = some (G.1 k, e)) : nCut (mFree G) (mW G σ) := ⟨fun q hq => by obtain ⟨k, h1, rfl⟩ := hq; exact hc k, fun i x hx => mW_in G σ x (List.mem_of_getElem? hx)⟩
/-- a call of a helper -/
theorem l_callH (h : lOK E T b n xs) {G : gAd} (hz : zAll G (eA E) (es E)) {y : MethodName} {code : ByteArray} {maxL n' idx : Nat} {hh : List (Nat × Nat × Nat × Nat)} (As : List Value) {Rs : va_W} (hM : hMet (el E) (eD E) T (eA E) G y code maxL hh rmH As ws Rs)
    (hc : (Cond.codeWith y code maxL (some .int) hh ∈ gTb ∧ Cond.initialized y.cls ∈ gTb ∧ Cond.methodLink RL idx y ∈ gTb ∧ Cond.static y ∈ gTb) ∧ (y.cls ≠ "java/lang/invoke/MethodHandle" ∧ y.cls ≠ "java/lang/invoke/VarHandle") ∧ (parseMethodDescriptor y.desc).map (fun d => d.parameters.length) = some n' ∧ maxL ≤ 25) (hn : As.length = n') (hst : st = As.reverse) (hcs : cn + 1 ≤ 600002 ∧ sn + 6 ≤ 7302232) (hd : decode cL_law pc = .ok (.invokestatic idx, 3))
    (k : NW E Rs (cn + 1) (sn + 6) (pc + 3) L [.int 1]) : NW E ws cn sn pc L st := fun H locs ls hP hD hS hl => by
  obtain ⟨⟨hx, hb, hml, hown, hts, hlk, hR, hK, hA, hN⟩, -⟩ := id h
  obtain ⟨⟨hcode, hini, hlink, hstat⟩, hy, hsig, hmx⟩ := hc
  have hpay : ∀ w ∈ Cond.codeWith y code maxL (some .int) hh :: gTb, ∀ (a' : Array Value) (U : State), (es E).WarmedH U.vm → w.before a' U = true := by
    intro w hw a' U hW
    have hm : w ∈ gTb := by
      rcases List.mem_cons.mp hw with rfl | q
      · exact hcode
      · exact q
    exact word_at hW (gTb_good w hm) (hts w hm)
  have hlen : ∀ sig, parseMethodDescriptor y.desc = some sig → n' = sig.parameters.length := fun sig q => by rw [q] at hsig; exact (Option.some.inj hsig).symm
  have hrun := vx_runSW (hh := hh) (bytes := code) (maxL := maxL) (ret := some .int) (n := n') (Ts := gTb) (nL := eN E) (As := As) (rest := []) (g := F0 (em E) pc ls st) (cells := cn) (slots := sn) (locs := locs) (H := H) (below := eb E) (meth := et E) (R := eR E) (e := ee E) (l := el E) ⟨hx, hb, hml, hown, hts⟩ hM
    ⟨⟨rfl, rfl, by rw [hR]; decide, by rw [hR]; show 8 + (maxL + 11) + 512 ≤ 84000; omega, hpay, List.mem_cons_self⟩, hts _ hcode, hts _ hini, hy, hlen, hts _ hlink, hts _ hstat⟩
    ⟨hPre_blind, fun U hU hW => ⟨rfl, ⟨by rw [hU]; exact hP, va_K.moved hW.alike hK, hD, fun q hq => hA q (Nat.le_trans hS.1 (by rw [← hU]; exact hq)), fun w hw => cNest_warm hW hw (hN w hw)⟩, zAll_on hW (hS.F hU) hz⟩⟩ rfl hn hl.1 (by rw [List.append_nil]; exact hst) (by show 2 * (F0 (em E) pc ls st).monitorRoom + _ ≤ 8; simp [JFrame.monitorRoom, F0]) hd (by rw [hR]; exact hcs)
  refine va_calli hrun hS (fun _ _ q => q) (fun _ q => q) (fun r ws' t H1 locs1 ht hvm hw hB hz1 hk hS1 => ?_)
  obtain ⟨rfl, rfl⟩ := hw
  exact k H1 locs1 ls (by rw [← ht]; exact hB.1) hB.2 hS1 hl
end LAWROWS
set_option maxHeartbeats 4000000 in
theorem l_end {E : gEnv} {T : Nat → ClassId} {b : Nat} {xs : Nat → Int32} {ws : va_W} {cn sn x1 x2 x3 : Nat} (h : lOK E T b 6 xs) (hc : cn ≤ 600002) (hs : sn ≤ 7302232) : NW E ws cn sn 1061 [(0, .ref b), (1, .ref x1), (2, .ref x2), (3, .ref x3), (4, .int 0)] [] := by
  have hE := h.1
  refine l_iinc (v := 6) h [(4, .int 6), (0, .ref b), (1, .ref x1), (2, .ref x2), (3, .ref x3)] 4 (dL_law_g40.2.2.2.2.2.2.2.1) rfl (by decide) (by decide) rfl ?_
  refine l_goto h 23 (dL_law_g40.2.2.2.2.2.2.2.2.1) (by decide) ?_
  refine n_iload hE 0 (dL_law_g0.2.2.2.2.2.2.2.2.2.2.2.2.2.1) rfl ?_
  refine n_aload_n hE 1 (dL_law_g0.2.2.2.2.2.2.2.2.2.2.2.2.2.2.1) rfl rfl ?_
  refine l_slen h (dL_law_g0.2.2.2.2.2.2.2.2.2.2.2.2.2.2.2) ?_
  refine n_bipush (v := 6) hE (dL_law_g1.1) (by decide) ?_
  refine l_isub h (dL_law_g1.2.1) ?_
  refine l_icmp_gt h 1067 (dL_law_g1.2.2.1) (by decide) (fun _ => ?_) (fun q => absurd (by decide) q)
  refine n_iconst (v := 1) hE (dL_law_g40.2.2.2.2.2.2.2.2.2.1) (by decide) ?_
  exact l_ret1 h hc hs (dL_law_g40.2.2.2.2.2.2.2.2.2.2)
theorem gL_c_feed : gCalV RL 39 yX12_feed cX12_feed 6 (some .int) 5 := ⟨⟨gTb_2 (List.mem_of_getElem? (i := 196) rfl) rfl, gTb_2 (List.mem_of_getElem? (i := 199) rfl) rfl, gTb_1 (List.mem_of_getElem? (i := 1) rfl) rfl, ⟨by decide +kernel, by decide +kernel⟩, by decide +kernel, by decide⟩, gTb_2 (List.mem_of_getElem? (i := 197) rfl) rfl, gTb_2 (List.mem_of_getElem? (i := 198) rfl) rfl⟩
theorem gL_m_feed : gCalV RL 43 yX13_feed cX13_feed 6 (some .int) 5 := ⟨⟨gTb_9 (List.mem_of_getElem? (i := 15) rfl) rfl, gTb_9 (List.mem_of_getElem? (i := 18) rfl) rfl, gTb_1 (List.mem_of_getElem? (i := 12) rfl) rfl, ⟨by decide +kernel, by decide +kernel⟩, by decide +kernel, by decide⟩, gTb_9 (List.mem_of_getElem? (i := 16) rfl) rfl, gTb_9 (List.mem_of_getElem? (i := 17) rfl) rfl⟩
set_option maxHeartbeats 4000000 in
theorem l_case0 {E : gEnv} {Gc Gm : gAd} {b qo : Nat} {xs : Nat → Int32} {cn sn : Nat} (hl0 : (el E).stackTraces = false) (hT : Gm.2 = Gc.2) (h : lOK E Gc.2 b 6 xs) (hz : zAll Gc (eA E) (es E)) (hA : ∀ q, cFree Gc q → eA E q) (hcc : ∀ k, 200 ≤ k → k < 1400 → ∃ (i : Nat) (e : va_E), (cW Gc cS0)[i]? = some (Gc.1 k, e)) (hcm : ∀ (σ : MS) (k : Nat), ∃ (i : Nat) (e : va_E), (mW Gm σ)[i]? = some (Gm.1 k, e)) (hc : cn + 1 ≤ 600002) (hs : sn + 6 ≤ 7302232) : NW E (cW Gc cS0 ++ (mW Gm mS0 ++ [(qo, .inl (Gc.2 1, 1, .inr (.inl (fun _ => 0))))])) cn sn 144 [(0, .ref b), (1, .ref (Gc.1 200)), (2, .ref (Gm.1 0)), (3, .ref qo), (4, .int 0)] [] := by
  have hE := h.1
  have hcs : cn ≤ room_1.cells ∧ sn ≤ room_1.slots := ⟨by show cn ≤ 600002; omega, by show sn ≤ 7302232; omega⟩
  obtain ⟨r0, hwc, hwm⟩ := st_feed (xs ((0 : Int32) + 1).toNatClampNeg) (xs ((0 : Int32) + 2).toNatClampNeg) (xs ((0 : Int32) + 3).toNatClampNeg) (xs ((0 : Int32) + 4).toNatClampNeg) (xs ((0 : Int32) + 5).toNatClampNeg)
  refine n_aload_n hE 1 (dL_law_g1.2.2.2.2.2.2.2.2.2.1) rfl rfl ?_
  refine n_aload_n hE 0 (dL_law_g1.2.2.2.2.2.2.2.2.2.2.1) rfl rfl ?_
  refine n_iload hE 4 (dL_law_g1.2.2.2.2.2.2.2.2.2.2.2.1) rfl ?_
  refine n_iconst (v := 1) hE (dL_law_g1.2.2.2.2.2.2.2.2.2.2.2.2.1) (by decide) ?_
  refine l_iadd h (dL_law_g1.2.2.2.2.2.2.2.2.2.2.2.2.2.1) ?_
  refine l_sld h (vp_in_dec (by decide)) (dL_law_g1.2.2.2.2.2.2.2.2.2.2.2.2.2.2.1) ?_
  refine n_aload_n hE 0 (dL_law_g1.2.2.2.2.2.2.2.2.2.2.2.2.2.2.2) rfl rfl ?_
  refine n_iload hE 4 (dL_law_g2.1) rfl ?_
  refine n_iconst (v := 2) hE (dL_law_g2.2.1) (by decide) ?_
  refine l_iadd h (dL_law_g2.2.2.1) ?_
  refine l_sld h (vp_in_dec (by decide)) (dL_law_g2.2.2.2.1) ?_
  refine n_aload_n hE 0 (dL_law_g2.2.2.2.2.1) rfl rfl ?_
  refine n_iload hE 4 (dL_law_g2.2.2.2.2.2.1) rfl ?_
  refine n_iconst (v := 3) hE (dL_law_g2.2.2.2.2.2.2.1) (by decide) ?_
  refine l_iadd h (dL_law_g2.2.2.2.2.2.2.2.1) ?_
  refine l_sld h (vp_in_dec (by decide)) (dL_law_g2.2.2.2.2.2.2.2.2.1) ?_
  refine n_aload_n hE 0 (dL_law_g2.2.2.2.2.2.2.2.2.2.1) rfl rfl ?_
  refine n_iload hE 4 (dL_law_g2.2.2.2.2.2.2.2.2.2.2.1) rfl ?_
  refine n_iconst (v := 4) hE (dL_law_g2.2.2.2.2.2.2.2.2.2.2.2.1) (by decide) ?_
  refine l_iadd h (dL_law_g2.2.2.2.2.2.2.2.2.2.2.2.2.1) ?_
  refine l_sld h (vp_in_dec (by decide)) (dL_law_g2.2.2.2.2.2.2.2.2.2.2.2.2.2.1) ?_
  refine n_aload_n hE 0 (dL_law_g2.2.2.2.2.2.2.2.2.2.2.2.2.2.2.1) rfl rfl ?_
  refine n_iload hE 4 (dL_law_g2.2.2.2.2.2.2.2.2.2.2.2.2.2.2.2) rfl ?_
  refine n_iconst (v := 5) hE (dL_law_g3.1) (by decide) ?_
  refine l_iadd h (dL_law_g3.2.1) ?_
  refine l_sld h (vp_in_dec (by decide)) (dL_law_g3.2.2.1) ?_
  refine l_callV hE [.int (xs ((0 : Int32) + 1).toNatClampNeg), .int (xs ((0 : Int32) + 2).toNatClampNeg), .int (xs ((0 : Int32) + 3).toNatClampNeg), .int (xs ((0 : Int32) + 4).toNatClampNeg), .int (xs ((0 : Int32) + 5).toNatClampNeg)] [] (cCut hcc) (cZ_ok Gc) (zAll_at hz hA) gL_c_feed (kc_ft_feed (D := eD E) hwc) ⟨0, 10, cF_ft Gc cS0, _, rfl, rfl, rfl⟩ (by decide) (by decide) hcs rfl rfl (by simp [Value.category]) (dL_law_g3.2.2.2.1) (fun ws1 rv hq => ?_)
  obtain ⟨σ1, rfl, r1, rfl, rfl⟩ := hq
  refine n_drop ?_
  show NW E (mW Gm mS0 ++ [(qo, .inl (Gc.2 1, 1, .inr (.inl (fun _ => 0))))]) cn sn 178 _ (.int r1 :: [])
  refine n_aload_n hE 2 (dL_law_g3.2.2.2.2.1) rfl rfl ?_
  refine n_aload_n hE 0 (dL_law_g3.2.2.2.2.2.1) rfl rfl ?_
  refine n_iload hE 4 (dL_law_g3.2.2.2.2.2.2.1) rfl ?_
  refine n_iconst (v := 1) hE (dL_law_g3.2.2.2.2.2.2.2.1) (by decide) ?_
  refine l_iadd h (dL_law_g3.2.2.2.2.2.2.2.2.1) ?_
  refine l_sld h (vp_in_dec (by decide)) (dL_law_g3.2.2.2.2.2.2.2.2.2.1) ?_
  refine n_aload_n hE 0 (dL_law_g3.2.2.2.2.2.2.2.2.2.2.1) rfl rfl ?_
  refine n_iload hE 4 (dL_law_g3.2.2.2.2.2.2.2.2.2.2.2.1) rfl ?_
  refine n_iconst (v := 2) hE (dL_law_g3.2.2.2.2.2.2.2.2.2.2.2.2.1) (by decide) ?_
  refine l_iadd h (dL_law_g3.2.2.2.2.2.2.2.2.2.2.2.2.2.1) ?_
  refine l_sld h (vp_in_dec (by decide)) (dL_law_g3.2.2.2.2.2.2.2.2.2.2.2.2.2.2.1) ?_
  refine n_aload_n hE 0 (dL_law_g3.2.2.2.2.2.2.2.2.2.2.2.2.2.2.2) rfl rfl ?_
  refine n_iload hE 4 (dL_law_g4.1) rfl ?_
  refine n_iconst (v := 3) hE (dL_law_g4.2.1) (by decide) ?_
  refine l_iadd h (dL_law_g4.2.2.1) ?_
  refine l_sld h (vp_in_dec (by decide)) (dL_law_g4.2.2.2.1) ?_
  refine n_aload_n hE 0 (dL_law_g4.2.2.2.2.1) rfl rfl ?_
  refine n_iload hE 4 (dL_law_g4.2.2.2.2.2.1) rfl ?_
  refine n_iconst (v := 4) hE (dL_law_g4.2.2.2.2.2.2.1) (by decide) ?_
  refine l_iadd h (dL_law_g4.2.2.2.2.2.2.2.1) ?_
  refine l_sld h (vp_in_dec (by decide)) (dL_law_g4.2.2.2.2.2.2.2.2.1) ?_
  refine n_aload_n hE 0 (dL_law_g4.2.2.2.2.2.2.2.2.2.1) rfl rfl ?_
  refine n_iload hE 4 (dL_law_g4.2.2.2.2.2.2.2.2.2.2.1) rfl ?_
  refine n_iconst (v := 5) hE (dL_law_g4.2.2.2.2.2.2.2.2.2.2.2.1) (by decide) ?_
  refine l_iadd h (dL_law_g4.2.2.2.2.2.2.2.2.2.2.2.2.1) ?_
  refine l_sld h (vp_in_dec (by decide)) (dL_law_g4.2.2.2.2.2.2.2.2.2.2.2.2.2.1) ?_
  refine l_callV (A1 := mFree Gm) (Z1 := gNo) hE [.int (xs ((0 : Int32) + 1).toNatClampNeg), .int (xs ((0 : Int32) + 2).toNatClampNeg), .int (xs ((0 : Int32) + 3).toNatClampNeg), .int (xs ((0 : Int32) + 4).toNatClampNeg), .int (xs ((0 : Int32) + 5).toNatClampNeg)] [.int r1] (mCut (hcm _)) (gNo_ok _) (fun _ _ _ => trivial) gL_m_feed (by rw [← hT]; exact km_feed (D := eD E) (cl := gCl) rfl hwm) ⟨0, 11, mF Gm mS0, _, rfl, rfl, rfl⟩ (by decide) (by decide) hcs rfl rfl (by simp [Value.category]) (dL_law_g4.2.2.2.2.2.2.2.2.2.2.2.2.2.2.1) (fun ws2 rv hq => ?_)
  obtain ⟨σ2, rfl, r2, rfl, rfl⟩ := hq
  refine l_icmp_eq h 1061 (dL_law_g4.2.2.2.2.2.2.2.2.2.2.2.2.2.2.2) (by decide) ?_
  exact l_end h (by omega) (by omega)
theorem gL_c_cut : gCalV RL 44 yX12_cut cX12_cut 3 (some .int) 1 := ⟨⟨gTb_2 (List.mem_of_getElem? (i := 208) rfl) rfl, gTb_2 (List.mem_of_getElem? (i := 211) rfl) rfl, gTb_1 (List.mem_of_getElem? (i := 1) rfl) rfl, ⟨by decide +kernel, by decide +kernel⟩, by decide +kernel, by decide⟩, gTb_2 (List.mem_of_getElem? (i := 209) rfl) rfl, gTb_2 (List.mem_of_getElem? (i := 210) rfl) rfl⟩
theorem gL_m_cut : gCalV RL 47 yX13_cut cX13_cut 3 (some .int) 1 := ⟨⟨gTb_9 (List.mem_of_getElem? (i := 24) rfl) rfl, gTb_9 (List.mem_of_getElem? (i := 27) rfl) rfl, gTb_1 (List.mem_of_getElem? (i := 12) rfl) rfl, ⟨by decide +kernel, by decide +kernel⟩, by decide +kernel, by decide⟩, gTb_9 (List.mem_of_getElem? (i := 25) rfl) rfl, gTb_9 (List.mem_of_getElem? (i := 26) rfl) rfl⟩
set_option maxHeartbeats 4000000 in
theorem l_case1 {E : gEnv} {Gc Gm : gAd} {b qo : Nat} {xs : Nat → Int32} {cn sn : Nat} (hl0 : (el E).stackTraces = false) (hT : Gm.2 = Gc.2) (h : lOK E Gc.2 b 6 xs) (hz : zAll Gc (eA E) (es E)) (hA : ∀ q, cFree Gc q → eA E q) (hcc : ∀ k, 200 ≤ k → k < 1400 → ∃ (i : Nat) (e : va_E), (cW Gc cS0)[i]? = some (Gc.1 k, e)) (hcm : ∀ (σ : MS) (k : Nat), ∃ (i : Nat) (e : va_E), (mW Gm σ)[i]? = some (Gm.1 k, e)) (hc : cn + 1 ≤ 600002) (hs : sn + 6 ≤ 7302232) : NW E (cW Gc cS0 ++ (mW Gm mS0 ++ [(qo, .inl (Gc.2 1, 1, .inr (.inl (fun _ => 0))))])) cn sn 217 [(0, .ref b), (1, .ref (Gc.1 200)), (2, .ref (Gm.1 0)), (3, .ref qo), (4, .int 0)] [] := by
  have hE := h.1
  have hcs : cn ≤ room_1.cells ∧ sn ≤ room_1.slots := ⟨by show cn ≤ 600002; omega, by show sn ≤ 7302232; omega⟩
  obtain ⟨r0, hwc, hwm⟩ := st_cut (xs ((0 : Int32) + 1).toNatClampNeg)
  refine n_aload_n hE 1 (dL_law_g5.2.2.1) rfl rfl ?_
  refine n_aload_n hE 0 (dL_law_g5.2.2.2.1) rfl rfl ?_
  refine n_iload hE 4 (dL_law_g5.2.2.2.2.1) rfl ?_
  refine n_iconst (v := 1) hE (dL_law_g5.2.2.2.2.2.1) (by decide) ?_
  refine l_iadd h (dL_law_g5.2.2.2.2.2.2.1) ?_
  refine l_sld h (vp_in_dec (by decide)) (dL_law_g5.2.2.2.2.2.2.2.1) ?_
  refine l_callV hE [.int (xs ((0 : Int32) + 1).toNatClampNeg)] [] (cCut hcc) (cZ_ok Gc) (zAll_at hz hA) gL_c_cut (kc_ft_cut (D := eD E) hwc) ⟨0, 10, cF_ft Gc cS0, _, rfl, rfl, rfl⟩ (by decide) (by decide) hcs rfl rfl (by simp [Value.category]) (dL_law_g5.2.2.2.2.2.2.2.2.1) (fun ws1 rv hq => ?_)
  obtain ⟨σ1, rfl, r1, rfl, rfl⟩ := hq
  refine n_drop ?_
  show NW E (mW Gm mS0 ++ [(qo, .inl (Gc.2 1, 1, .inr (.inl (fun _ => 0))))]) cn sn 227 _ (.int r1 :: [])
  refine n_aload_n hE 2 (dL_law_g5.2.2.2.2.2.2.2.2.2.1) rfl rfl ?_
  refine n_aload_n hE 0 (dL_law_g5.2.2.2.2.2.2.2.2.2.2.1) rfl rfl ?_
  refine n_iload hE 4 (dL_law_g5.2.2.2.2.2.2.2.2.2.2.2.1) rfl ?_
  refine n_iconst (v := 1) hE (dL_law_g5.2.2.2.2.2.2.2.2.2.2.2.2.1) (by decide) ?_
  refine l_iadd h (dL_law_g5.2.2.2.2.2.2.2.2.2.2.2.2.2.1) ?_
  refine l_sld h (vp_in_dec (by decide)) (dL_law_g5.2.2.2.2.2.2.2.2.2.2.2.2.2.2.1) ?_
  refine l_callV (A1 := mFree Gm) (Z1 := gNo) hE [.int (xs ((0 : Int32) + 1).toNatClampNeg)] [.int r1] (mCut (hcm _)) (gNo_ok _) (fun _ _ _ => trivial) gL_m_cut (by rw [← hT]; exact km_cut (D := eD E) (cl := gCl) rfl hwm) ⟨0, 11, mF Gm mS0, _, rfl, rfl, rfl⟩ (by decide) (by decide) hcs rfl rfl (by simp [Value.category]) (dL_law_g5.2.2.2.2.2.2.2.2.2.2.2.2.2.2.2) (fun ws2 rv hq => ?_)
  obtain ⟨σ2, rfl, r2, rfl, rfl⟩ := hq
  refine l_icmp_eq h 1061 (dL_law_g6.1) (by decide) ?_
  exact l_end h (by omega) (by omega)
theorem gL_c_read : gCalV RL 48 yX12_read cX12_read 3 (some .int) 0 := ⟨⟨gTb_2 (List.mem_of_getElem? (i := 213) rfl) rfl, gTb_2 (List.mem_of_getElem? (i := 216) rfl) rfl, gTb_1 (List.mem_of_getElem? (i := 1) rfl) rfl, ⟨by decide +kernel, by decide +kernel⟩, by decide +kernel, by decide⟩, gTb_2 (List.mem_of_getElem? (i := 214) rfl) rfl, gTb_2 (List.mem_of_getElem? (i := 215) rfl) rfl⟩
theorem gL_m_read : gCalV RL 52 yX13_read cX13_read 2 (some .int) 0 := ⟨⟨gTb_9 (List.mem_of_getElem? (i := 32) rfl) rfl, gTb_9 (List.mem_of_getElem? (i := 35) rfl) rfl, gTb_1 (List.mem_of_getElem? (i := 12) rfl) rfl, ⟨by decide +kernel, by decide +kernel⟩, by decide +kernel, by decide⟩, gTb_9 (List.mem_of_getElem? (i := 33) rfl) rfl, gTb_9 (List.mem_of_getElem? (i := 34) rfl) rfl⟩
set_option maxHeartbeats 4000000 in
theorem l_case2 {E : gEnv} {Gc Gm : gAd} {b qo : Nat} {xs : Nat → Int32} {cn sn : Nat} (hl0 : (el E).stackTraces = false) (hT : Gm.2 = Gc.2) (h : lOK E Gc.2 b 6 xs) (hz : zAll Gc (eA E) (es E)) (hA : ∀ q, cFree Gc q → eA E q) (hcc : ∀ k, 200 ≤ k → k < 1400 → ∃ (i : Nat) (e : va_E), (cW Gc cS0)[i]? = some (Gc.1 k, e)) (hcm : ∀ (σ : MS) (k : Nat), ∃ (i : Nat) (e : va_E), (mW Gm σ)[i]? = some (Gm.1 k, e)) (hc : cn + 1 ≤ 600002) (hs : sn + 6 ≤ 7302232) : NW E (cW Gc cS0 ++ (mW Gm mS0 ++ [(qo, .inl (Gc.2 1, 1, .inr (.inl (fun _ => 0))))])) cn sn 242 [(0, .ref b), (1, .ref (Gc.1 200)), (2, .ref (Gm.1 0)), (3, .ref qo), (4, .int 0)] [] := by
  have hE := h.1
  have hcs : cn ≤ room_1.cells ∧ sn ≤ room_1.slots := ⟨by show cn ≤ 600002; omega, by show sn ≤ 7302232; omega⟩
  obtain ⟨r0, hwc, hwm⟩ := st_read
  refine n_aload_n hE 1 (dL_law_g6.2.2.2.1) rfl rfl ?_
  refine l_callV hE [] [] (cCut hcc) (cZ_ok Gc) (zAll_at hz hA) gL_c_read (kc_ft_read (D := eD E) hwc) ⟨0, 10, cF_ft Gc cS0, _, rfl, rfl, rfl⟩ (by decide) (by decide) hcs rfl rfl (by simp [Value.category]) (dL_law_g6.2.2.2.2.1) (fun ws1 rv hq => ?_)
  obtain ⟨σ1, rfl, r1, rfl, rfl⟩ := hq
  refine n_drop ?_
  show NW E (mW Gm mS0 ++ [(qo, .inl (Gc.2 1, 1, .inr (.inl (fun _ => 0))))]) cn sn 246 _ (.int r1 :: [])
  refine n_aload_n hE 2 (dL_law_g6.2.2.2.2.2.1) rfl rfl ?_
  refine l_callV (A1 := mFree Gm) (Z1 := gNo) hE [] [.int r1] (mCut (hcm _)) (gNo_ok _) (fun _ _ _ => trivial) gL_m_read (by rw [← hT]; exact km_read (D := eD E) (cl := gCl) rfl hwm) ⟨0, 11, mF Gm mS0, _, rfl, rfl, rfl⟩ (by decide) (by decide) hcs rfl rfl (by simp [Value.category]) (dL_law_g6.2.2.2.2.2.2.1) (fun ws2 rv hq => ?_)
  obtain ⟨σ2, rfl, r2, rfl, rfl⟩ := hq
  refine l_icmp_eq h 1061 (dL_law_g6.2.2.2.2.2.2.2.1) (by decide) ?_
  exact l_end h (by omega) (by omega)
theorem gL_c_place : gCalV RL 53 yX12_place cX12_place 1 (some .int) 0 := ⟨⟨gTb_4 (List.mem_of_getElem? (i := 64) rfl) rfl, gTb_4 (List.mem_of_getElem? (i := 67) rfl) rfl, gTb_1 (List.mem_of_getElem? (i := 1) rfl) rfl, ⟨by decide +kernel, by decide +kernel⟩, by decide +kernel, by decide⟩, gTb_4 (List.mem_of_getElem? (i := 65) rfl) rfl, gTb_4 (List.mem_of_getElem? (i := 66) rfl) rfl⟩
theorem gL_m_place : gCalV RL 56 yX13_place cX13_place 1 (some .int) 0 := ⟨⟨gTb_9 (List.mem_of_getElem? (i := 207) rfl) rfl, gTb_9 (List.mem_of_getElem? (i := 210) rfl) rfl, gTb_1 (List.mem_of_getElem? (i := 12) rfl) rfl, ⟨by decide +kernel, by decide +kernel⟩, by decide +kernel, by decide⟩, gTb_9 (List.mem_of_getElem? (i := 208) rfl) rfl, gTb_9 (List.mem_of_getElem? (i := 209) rfl) rfl⟩
set_option maxHeartbeats 4000000 in
theorem l_case3 {E : gEnv} {Gc Gm : gAd} {b qo : Nat} {xs : Nat → Int32} {cn sn : Nat} (hl0 : (el E).stackTraces = false) (hT : Gm.2 = Gc.2) (h : lOK E Gc.2 b 6 xs) (hz : zAll Gc (eA E) (es E)) (hA : ∀ q, cFree Gc q → eA E q) (hcc : ∀ k, 200 ≤ k → k < 1400 → ∃ (i : Nat) (e : va_E), (cW Gc cS0)[i]? = some (Gc.1 k, e)) (hcm : ∀ (σ : MS) (k : Nat), ∃ (i : Nat) (e : va_E), (mW Gm σ)[i]? = some (Gm.1 k, e)) (hc : cn + 1 ≤ 600002) (hs : sn + 6 ≤ 7302232) : NW E (cW Gc cS0 ++ (mW Gm mS0 ++ [(qo, .inl (Gc.2 1, 1, .inr (.inl (fun _ => 0))))])) cn sn 255 [(0, .ref b), (1, .ref (Gc.1 200)), (2, .ref (Gm.1 0)), (3, .ref qo), (4, .int 0)] [] := by
  have hE := h.1
  have hcs : cn ≤ room_1.cells ∧ sn ≤ room_1.slots := ⟨by show cn ≤ 600002; omega, by show sn ≤ 7302232; omega⟩
  obtain ⟨r0, hwc, hwm⟩ := st_place
  refine n_aload_n hE 1 (dL_law_g6.2.2.2.2.2.2.2.2.2.2.1) rfl rfl ?_
  refine l_callV hE [] [] (cCut hcc) (cZ_ok Gc) (zAll_at hz hA) gL_c_place (kc_ft_place (D := eD E) hwc) ⟨0, 10, cF_ft Gc cS0, _, rfl, rfl, rfl⟩ (by decide) (by decide) hcs rfl rfl (by simp [Value.category]) (dL_law_g6.2.2.2.2.2.2.2.2.2.2.2.1) (fun ws1 rv hq => ?_)
  obtain ⟨σ1, rfl, r1, rfl, rfl⟩ := hq
  refine n_drop ?_
  show NW E (mW Gm mS0 ++ [(qo, .inl (Gc.2 1, 1, .inr (.inl (fun _ => 0))))]) cn sn 259 _ (.int r1 :: [])
  refine n_aload_n hE 2 (dL_law_g6.2.2.2.2.2.2.2.2.2.2.2.2.1) rfl rfl ?_
  refine l_callV (A1 := mFree Gm) (Z1 := gNo) hE [] [.int r1] (mCut (hcm _)) (gNo_ok _) (fun _ _ _ => trivial) gL_m_place (by rw [← hT]; exact km_place (D := eD E) (cl := gCl) rfl hwm) ⟨0, 11, mF Gm mS0, _, rfl, rfl, rfl⟩ (by decide) (by decide) hcs rfl rfl (by simp [Value.category]) (dL_law_g6.2.2.2.2.2.2.2.2.2.2.2.2.2.1) (fun ws2 rv hq => ?_)
  obtain ⟨σ2, rfl, r2, rfl, rfl⟩ := hq
  refine l_icmp_eq h 1061 (dL_law_g6.2.2.2.2.2.2.2.2.2.2.2.2.2.2.1) (by decide) ?_
  exact l_end h (by omega) (by omega)
theorem gL_c_about : gCalV RL 57 yX12_about cX12_about 2 (some .int) 1 := ⟨⟨gTb_4 (List.mem_of_getElem? (i := 68) rfl) rfl, gTb_4 (List.mem_of_getElem? (i := 71) rfl) rfl, gTb_1 (List.mem_of_getElem? (i := 1) rfl) rfl, ⟨by decide +kernel, by decide +kernel⟩, by decide +kernel, by decide⟩, gTb_4 (List.mem_of_getElem? (i := 69) rfl) rfl, gTb_4 (List.mem_of_getElem? (i := 70) rfl) rfl⟩
theorem gL_m_about : gCalV RL 60 yX13_about cX13_about 2 (some .int) 1 := ⟨⟨gTb_9 (List.mem_of_getElem? (i := 211) rfl) rfl, gTb_9 (List.mem_of_getElem? (i := 214) rfl) rfl, gTb_1 (List.mem_of_getElem? (i := 12) rfl) rfl, ⟨by decide +kernel, by decide +kernel⟩, by decide +kernel, by decide⟩, gTb_9 (List.mem_of_getElem? (i := 212) rfl) rfl, gTb_9 (List.mem_of_getElem? (i := 213) rfl) rfl⟩
set_option maxHeartbeats 4000000 in
theorem l_case4 {E : gEnv} {Gc Gm : gAd} {b qo : Nat} {xs : Nat → Int32} {cn sn : Nat} (hl0 : (el E).stackTraces = false) (hT : Gm.2 = Gc.2) (h : lOK E Gc.2 b 6 xs) (hz : zAll Gc (eA E) (es E)) (hA : ∀ q, cFree Gc q → eA E q) (hcc : ∀ k, 200 ≤ k → k < 1400 → ∃ (i : Nat) (e : va_E), (cW Gc cS0)[i]? = some (Gc.1 k, e)) (hcm : ∀ (σ : MS) (k : Nat), ∃ (i : Nat) (e : va_E), (mW Gm σ)[i]? = some (Gm.1 k, e)) (hc : cn + 1 ≤ 600002) (hs : sn + 6 ≤ 7302232) : NW E (cW Gc cS0 ++ (mW Gm mS0 ++ [(qo, .inl (Gc.2 1, 1, .inr (.inl (fun _ => 0))))])) cn sn 268 [(0, .ref b), (1, .ref (Gc.1 200)), (2, .ref (Gm.1 0)), (3, .ref qo), (4, .int 0)] [] := by
  have hE := h.1
  have hcs : cn ≤ room_1.cells ∧ sn ≤ room_1.slots := ⟨by show cn ≤ 600002; omega, by show sn ≤ 7302232; omega⟩
  obtain ⟨r0, hwc, hwm⟩ := st_about (xs ((0 : Int32) + 1).toNatClampNeg)
  refine n_aload_n hE 1 (dL_law_g7.2.1) rfl rfl ?_
  refine n_aload_n hE 0 (dL_law_g7.2.2.1) rfl rfl ?_
  refine n_iload hE 4 (dL_law_g7.2.2.2.1) rfl ?_
  refine n_iconst (v := 1) hE (dL_law_g7.2.2.2.2.1) (by decide) ?_
  refine l_iadd h (dL_law_g7.2.2.2.2.2.1) ?_
  refine l_sld h (vp_in_dec (by decide)) (dL_law_g7.2.2.2.2.2.2.1) ?_
  refine l_callV hE [.int (xs ((0 : Int32) + 1).toNatClampNeg)] [] (cCut hcc) (cZ_ok Gc) (zAll_at hz hA) gL_c_about (kc_ft_about (D := eD E) hwc) ⟨0, 10, cF_ft Gc cS0, _, rfl, rfl, rfl⟩ (by decide) (by decide) hcs rfl rfl (by simp [Value.category]) (dL_law_g7.2.2.2.2.2.2.2.1) (fun ws1 rv hq => ?_)
  obtain ⟨σ1, rfl, r1, rfl, rfl⟩ := hq
  refine n_drop ?_
  show NW E (mW Gm mS0 ++ [(qo, .inl (Gc.2 1, 1, .inr (.inl (fun _ => 0))))]) cn sn 278 _ (.int r1 :: [])
  refine n_aload_n hE 2 (dL_law_g7.2.2.2.2.2.2.2.2.1) rfl rfl ?_
  refine n_aload_n hE 0 (dL_law_g7.2.2.2.2.2.2.2.2.2.1) rfl rfl ?_
  refine n_iload hE 4 (dL_law_g7.2.2.2.2.2.2.2.2.2.2.1) rfl ?_
  refine n_iconst (v := 1) hE (dL_law_g7.2.2.2.2.2.2.2.2.2.2.2.1) (by decide) ?_
  refine l_iadd h (dL_law_g7.2.2.2.2.2.2.2.2.2.2.2.2.1) ?_
  refine l_sld h (vp_in_dec (by decide)) (dL_law_g7.2.2.2.2.2.2.2.2.2.2.2.2.2.1) ?_
  refine l_callV (A1 := mFree Gm) (Z1 := gNo) hE [.int (xs ((0 : Int32) + 1).toNatClampNeg)] [.int r1] (mCut (hcm _)) (gNo_ok _) (fun _ _ _ => trivial) gL_m_about (by rw [← hT]; exact km_about (D := eD E) (cl := gCl) rfl hwm) ⟨0, 11, mF Gm mS0, _, rfl, rfl, rfl⟩ (by decide) (by decide) hcs rfl rfl (by simp [Value.category]) (dL_law_g7.2.2.2.2.2.2.2.2.2.2.2.2.2.2.1) (fun ws2 rv hq => ?_)
  obtain ⟨σ2, rfl, r2, rfl, rfl⟩ := hq
  refine l_icmp_eq h 1061 (dL_law_g7.2.2.2.2.2.2.2.2.2.2.2.2.2.2.2) (by decide) ?_
  exact l_end h (by omega) (by omega)
theorem gL_c_move : gCalV RL 61 yX12_move cX12_move 9 (some .int) 4 := ⟨⟨gTb_4 (List.mem_of_getElem? (i := 73) rfl) rfl, gTb_4 (List.mem_of_getElem? (i := 76) rfl) rfl, gTb_1 (List.mem_of_getElem? (i := 1) rfl) rfl, ⟨by decide +kernel, by decide +kernel⟩, by decide +kernel, by decide⟩, gTb_4 (List.mem_of_getElem? (i := 74) rfl) rfl, gTb_4 (List.mem_of_getElem? (i := 75) rfl) rfl⟩
theorem gL_m_move : gCalV RL 65 yX13_move cX13_move 6 (some .int) 4 := ⟨⟨gTb_9 (List.mem_of_getElem? (i := 216) rfl) rfl, gTb_9 (List.mem_of_getElem? (i := 219) rfl) rfl, gTb_1 (List.mem_of_getElem? (i := 12) rfl) rfl, ⟨by decide +kernel, by decide +kernel⟩, by decide +kernel, by decide⟩, gTb_9 (List.mem_of_getElem? (i := 217) rfl) rfl, gTb_9 (List.mem_of_getElem? (i := 218) rfl) rfl⟩
set_option maxHeartbeats 4000000 in
theorem l_case5 {E : gEnv} {Gc Gm : gAd} {b qo : Nat} {xs : Nat → Int32} {cn sn : Nat} (hl0 : (el E).stackTraces = false) (hT : Gm.2 = Gc.2) (h : lOK E Gc.2 b 6 xs) (hz : zAll Gc (eA E) (es E)) (hA : ∀ q, cFree Gc q → eA E q) (hcc : ∀ k, 200 ≤ k → k < 1400 → ∃ (i : Nat) (e : va_E), (cW Gc cS0)[i]? = some (Gc.1 k, e)) (hcm : ∀ (σ : MS) (k : Nat), ∃ (i : Nat) (e : va_E), (mW Gm σ)[i]? = some (Gm.1 k, e)) (hc : cn + 1 ≤ 600002) (hs : sn + 6 ≤ 7302232) : NW E (cW Gc cS0 ++ (mW Gm mS0 ++ [(qo, .inl (Gc.2 1, 1, .inr (.inl (fun _ => 0))))])) cn sn 293 [(0, .ref b), (1, .ref (Gc.1 200)), (2, .ref (Gm.1 0)), (3, .ref qo), (4, .int 0)] [] := by
  have hE := h.1
  have hcs : cn ≤ room_1.cells ∧ sn ≤ room_1.slots := ⟨by show cn ≤ 600002; omega, by show sn ≤ 7302232; omega⟩
  obtain ⟨r0, hwc, hwm⟩ := st_move (xs ((0 : Int32) + 1).toNatClampNeg) (xs ((0 : Int32) + 2).toNatClampNeg) (xs ((0 : Int32) + 3).toNatClampNeg) (xs ((0 : Int32) + 4).toNatClampNeg)
  refine n_aload_n hE 1 (dL_law_g8.2.2.1) rfl rfl ?_
  refine n_aload_n hE 0 (dL_law_g8.2.2.2.1) rfl rfl ?_
  refine n_iload hE 4 (dL_law_g8.2.2.2.2.1) rfl ?_
  refine n_iconst (v := 1) hE (dL_law_g8.2.2.2.2.2.1) (by decide) ?_
  refine l_iadd h (dL_law_g8.2.2.2.2.2.2.1) ?_
  refine l_sld h (vp_in_dec (by decide)) (dL_law_g8.2.2.2.2.2.2.2.1) ?_
  refine n_aload_n hE 0 (dL_law_g8.2.2.2.2.2.2.2.2.1) rfl rfl ?_
  refine n_iload hE 4 (dL_law_g8.2.2.2.2.2.2.2.2.2.1) rfl ?_
  refine n_iconst (v := 2) hE (dL_law_g8.2.2.2.2.2.2.2.2.2.2.1) (by decide) ?_
  refine l_iadd h (dL_law_g8.2.2.2.2.2.2.2.2.2.2.2.1) ?_
  refine l_sld h (vp_in_dec (by decide)) (dL_law_g8.2.2.2.2.2.2.2.2.2.2.2.2.1) ?_
  refine n_aload_n hE 0 (dL_law_g8.2.2.2.2.2.2.2.2.2.2.2.2.2.1) rfl rfl ?_
  refine n_iload hE 4 (dL_law_g8.2.2.2.2.2.2.2.2.2.2.2.2.2.2.1) rfl ?_
  refine n_iconst (v := 3) hE (dL_law_g8.2.2.2.2.2.2.2.2.2.2.2.2.2.2.2) (by decide) ?_
  refine l_iadd h (dL_law_g9.1) ?_
  refine l_sld h (vp_in_dec (by decide)) (dL_law_g9.2.1) ?_
  refine n_aload_n hE 0 (dL_law_g9.2.2.1) rfl rfl ?_
  refine n_iload hE 4 (dL_law_g9.2.2.2.1) rfl ?_
  refine n_iconst (v := 4) hE (dL_law_g9.2.2.2.2.1) (by decide) ?_
  refine l_iadd h (dL_law_g9.2.2.2.2.2.1) ?_
  refine l_sld h (vp_in_dec (by decide)) (dL_law_g9.2.2.2.2.2.2.1) ?_
  refine l_callV hE [.int (xs ((0 : Int32) + 1).toNatClampNeg), .int (xs ((0 : Int32) + 2).toNatClampNeg), .int (xs ((0 : Int32) + 3).toNatClampNeg), .int (xs ((0 : Int32) + 4).toNatClampNeg)] [] (cCut hcc) (cZ_ok Gc) (zAll_at hz hA) gL_c_move (kc_ft_move (D := eD E) hwc) ⟨0, 10, cF_ft Gc cS0, _, rfl, rfl, rfl⟩ (by decide) (by decide) hcs rfl rfl (by simp [Value.category]) (dL_law_g9.2.2.2.2.2.2.2.1) (fun ws1 rv hq => ?_)
  obtain ⟨σ1, rfl, r1, rfl, rfl⟩ := hq
  refine n_drop ?_
  show NW E (mW Gm mS0 ++ [(qo, .inl (Gc.2 1, 1, .inr (.inl (fun _ => 0))))]) cn sn 321 _ (.int r1 :: [])
  refine n_aload_n hE 2 (dL_law_g9.2.2.2.2.2.2.2.2.1) rfl rfl ?_
  refine n_aload_n hE 0 (dL_law_g9.2.2.2.2.2.2.2.2.2.1) rfl rfl ?_
  refine n_iload hE 4 (dL_law_g9.2.2.2.2.2.2.2.2.2.2.1) rfl ?_
  refine n_iconst (v := 1) hE (dL_law_g9.2.2.2.2.2.2.2.2.2.2.2.1) (by decide) ?_
  refine l_iadd h (dL_law_g9.2.2.2.2.2.2.2.2.2.2.2.2.1) ?_
  refine l_sld h (vp_in_dec (by decide)) (dL_law_g9.2.2.2.2.2.2.2.2.2.2.2.2.2.1) ?_
  refine n_aload_n hE 0 (dL_law_g9.2.2.2.2.2.2.2.2.2.2.2.2.2.2.1) rfl rfl ?_
  refine n_iload hE 4 (dL_law_g9.2.2.2.2.2.2.2.2.2.2.2.2.2.2.2) rfl ?_
  refine n_iconst (v := 2) hE (dL_law_g10.1) (by decide) ?_
  refine l_iadd h (dL_law_g10.2.1) ?_
  refine l_sld h (vp_in_dec (by decide)) (dL_law_g10.2.2.1) ?_
  refine n_aload_n hE 0 (dL_law_g10.2.2.2.1) rfl rfl ?_
  refine n_iload hE 4 (dL_law_g10.2.2.2.2.1) rfl ?_
  refine n_iconst (v := 3) hE (dL_law_g10.2.2.2.2.2.1) (by decide) ?_
  refine l_iadd h (dL_law_g10.2.2.2.2.2.2.1) ?_
  refine l_sld h (vp_in_dec (by decide)) (dL_law_g10.2.2.2.2.2.2.2.1) ?_
  refine n_aload_n hE 0 (dL_law_g10.2.2.2.2.2.2.2.2.1) rfl rfl ?_
  refine n_iload hE 4 (dL_law_g10.2.2.2.2.2.2.2.2.2.1) rfl ?_
  refine n_iconst (v := 4) hE (dL_law_g10.2.2.2.2.2.2.2.2.2.2.1) (by decide) ?_
  refine l_iadd h (dL_law_g10.2.2.2.2.2.2.2.2.2.2.2.1) ?_
  refine l_sld h (vp_in_dec (by decide)) (dL_law_g10.2.2.2.2.2.2.2.2.2.2.2.2.1) ?_
  refine l_callV (A1 := mFree Gm) (Z1 := gNo) hE [.int (xs ((0 : Int32) + 1).toNatClampNeg), .int (xs ((0 : Int32) + 2).toNatClampNeg), .int (xs ((0 : Int32) + 3).toNatClampNeg), .int (xs ((0 : Int32) + 4).toNatClampNeg)] [.int r1] (mCut (hcm _)) (gNo_ok _) (fun _ _ _ => trivial) gL_m_move (by rw [← hT]; exact km_move (D := eD E) (cl := gCl) rfl hwm) ⟨0, 11, mF Gm mS0, _, rfl, rfl, rfl⟩ (by decide) (by decide) hcs rfl rfl (by simp [Value.category]) (dL_law_g10.2.2.2.2.2.2.2.2.2.2.2.2.2.1) (fun ws2 rv hq => ?_)
  obtain ⟨σ2, rfl, r2, rfl, rfl⟩ := hq
  refine l_icmp_eq h 1061 (dL_law_g10.2.2.2.2.2.2.2.2.2.2.2.2.2.2.1) (by decide) ?_
  exact l_end h (by omega) (by omega)
theorem gL_c_loose : gCalV RL 66 yX12_loose cX12_loose 3 (some .int) 1 := ⟨⟨gTb_4 (List.mem_of_getElem? (i := 92) rfl) rfl, gTb_4 (List.mem_of_getElem? (i := 95) rfl) rfl, gTb_1 (List.mem_of_getElem? (i := 1) rfl) rfl, ⟨by decide +kernel, by decide +kernel⟩, by decide +kernel, by decide⟩, gTb_4 (List.mem_of_getElem? (i := 93) rfl) rfl, gTb_4 (List.mem_of_getElem? (i := 94) rfl) rfl⟩
theorem gL_m_loose : gCalV RL 69 yX13_loose cX13_loose 3 (some .int) 1 := ⟨⟨gTb_10 (List.mem_of_getElem? (i := 10) rfl) rfl, gTb_10 (List.mem_of_getElem? (i := 13) rfl) rfl, gTb_1 (List.mem_of_getElem? (i := 12) rfl) rfl, ⟨by decide +kernel, by decide +kernel⟩, by decide +kernel, by decide⟩, gTb_10 (List.mem_of_getElem? (i := 11) rfl) rfl, gTb_10 (List.mem_of_getElem? (i := 12) rfl) rfl⟩
set_option maxHeartbeats 4000000 in
theorem l_case6 {E : gEnv} {Gc Gm : gAd} {b qo : Nat} {xs : Nat → Int32} {cn sn : Nat} (hl0 : (el E).stackTraces = false) (hT : Gm.2 = Gc.2) (h : lOK E Gc.2 b 6 xs) (hz : zAll Gc (eA E) (es E)) (hA : ∀ q, cFree Gc q → eA E q) (hcc : ∀ k, 200 ≤ k → k < 1400 → ∃ (i : Nat) (e : va_E), (cW Gc cS0)[i]? = some (Gc.1 k, e)) (hcm : ∀ (σ : MS) (k : Nat), ∃ (i : Nat) (e : va_E), (mW Gm σ)[i]? = some (Gm.1 k, e)) (hc : cn + 1 ≤ 600002) (hs : sn + 6 ≤ 7302232) : NW E (cW Gc cS0 ++ (mW Gm mS0 ++ [(qo, .inl (Gc.2 1, 1, .inr (.inl (fun _ => 0))))])) cn sn 354 [(0, .ref b), (1, .ref (Gc.1 200)), (2, .ref (Gm.1 0)), (3, .ref qo), (4, .int 0)] [] := by
  have hE := h.1
  have hcs : cn ≤ room_1.cells ∧ sn ≤ room_1.slots := ⟨by show cn ≤ 600002; omega, by show sn ≤ 7302232; omega⟩
  obtain ⟨r0, hwc, hwm⟩ := st_loose (xs ((0 : Int32) + 1).toNatClampNeg)
  refine n_aload_n hE 1 (dL_law_g11.2.1) rfl rfl ?_
  refine n_aload_n hE 0 (dL_law_g11.2.2.1) rfl rfl ?_
  refine n_iload hE 4 (dL_law_g11.2.2.2.1) rfl ?_
  refine n_iconst (v := 1) hE (dL_law_g11.2.2.2.2.1) (by decide) ?_
  refine l_iadd h (dL_law_g11.2.2.2.2.2.1) ?_
  refine l_sld h (vp_in_dec (by decide)) (dL_law_g11.2.2.2.2.2.2.1) ?_
  refine l_callV hE [.int (xs ((0 : Int32) + 1).toNatClampNeg)] [] (cCut hcc) (cZ_ok Gc) (zAll_at hz hA) gL_c_loose (kc_ft_loose (D := eD E) hwc) ⟨0, 10, cF_ft Gc cS0, _, rfl, rfl, rfl⟩ (by decide) (by decide) hcs rfl rfl (by simp [Value.category]) (dL_law_g11.2.2.2.2.2.2.2.1) (fun ws1 rv hq => ?_)
  obtain ⟨σ1, rfl, r1, rfl, rfl⟩ := hq
  refine n_drop ?_
  show NW E (mW Gm mS0 ++ [(qo, .inl (Gc.2 1, 1, .inr (.inl (fun _ => 0))))]) cn sn 364 _ (.int r1 :: [])
  refine n_aload_n hE 2 (dL_law_g11.2.2.2.2.2.2.2.2.1) rfl rfl ?_
  refine n_aload_n hE 0 (dL_law_g11.2.2.2.2.2.2.2.2.2.1) rfl rfl ?_
  refine n_iload hE 4 (dL_law_g11.2.2.2.2.2.2.2.2.2.2.1) rfl ?_
  refine n_iconst (v := 1) hE (dL_law_g11.2.2.2.2.2.2.2.2.2.2.2.1) (by decide) ?_
  refine l_iadd h (dL_law_g11.2.2.2.2.2.2.2.2.2.2.2.2.1) ?_
  refine l_sld h (vp_in_dec (by decide)) (dL_law_g11.2.2.2.2.2.2.2.2.2.2.2.2.2.1) ?_
  refine l_callV (A1 := mFree Gm) (Z1 := gNo) hE [.int (xs ((0 : Int32) + 1).toNatClampNeg)] [.int r1] (mCut (hcm _)) (gNo_ok _) (fun _ _ _ => trivial) gL_m_loose (by rw [← hT]; exact km_loose (D := eD E) (cl := gCl) rfl hwm) ⟨0, 11, mF Gm mS0, _, rfl, rfl, rfl⟩ (by decide) (by decide) hcs rfl rfl (by simp [Value.category]) (dL_law_g11.2.2.2.2.2.2.2.2.2.2.2.2.2.2.1) (fun ws2 rv hq => ?_)
  obtain ⟨σ2, rfl, r2, rfl, rfl⟩ := hq
  refine l_icmp_eq h 1061 (dL_law_g11.2.2.2.2.2.2.2.2.2.2.2.2.2.2.2) (by decide) ?_
  exact l_end h (by omega) (by omega)
theorem gL_c_run : gCalV RL 70 yX12_run cX12_run 1 (some .int) 0 := ⟨⟨gTb_4 (List.mem_of_getElem? (i := 104) rfl) rfl, gTb_4 (List.mem_of_getElem? (i := 107) rfl) rfl, gTb_1 (List.mem_of_getElem? (i := 1) rfl) rfl, ⟨by decide +kernel, by decide +kernel⟩, by decide +kernel, by decide⟩, gTb_4 (List.mem_of_getElem? (i := 105) rfl) rfl, gTb_4 (List.mem_of_getElem? (i := 106) rfl) rfl⟩
theorem gL_m_run : gCalV RL 73 yX13_run cX13_run 1 (some .int) 0 := ⟨⟨gTb_10 (List.mem_of_getElem? (i := 14) rfl) rfl, gTb_10 (List.mem_of_getElem? (i := 17) rfl) rfl, gTb_1 (List.mem_of_getElem? (i := 12) rfl) rfl, ⟨by decide +kernel, by decide +kernel⟩, by decide +kernel, by decide⟩, gTb_10 (List.mem_of_getElem? (i := 15) rfl) rfl, gTb_10 (List.mem_of_getElem? (i := 16) rfl) rfl⟩
set_option maxHeartbeats 4000000 in
theorem l_case7 {E : gEnv} {Gc Gm : gAd} {b qo : Nat} {xs : Nat → Int32} {cn sn : Nat} (hl0 : (el E).stackTraces = false) (hT : Gm.2 = Gc.2) (h : lOK E Gc.2 b 6 xs) (hz : zAll Gc (eA E) (es E)) (hA : ∀ q, cFree Gc q → eA E q) (hcc : ∀ k, 200 ≤ k → k < 1400 → ∃ (i : Nat) (e : va_E), (cW Gc cS0)[i]? = some (Gc.1 k, e)) (hcm : ∀ (σ : MS) (k : Nat), ∃ (i : Nat) (e : va_E), (mW Gm σ)[i]? = some (Gm.1 k, e)) (hc : cn + 1 ≤ 600002) (hs : sn + 6 ≤ 7302232) : NW E (cW Gc cS0 ++ (mW Gm mS0 ++ [(qo, .inl (Gc.2 1, 1, .inr (.inl (fun _ => 0))))])) cn sn 379 [(0, .ref b), (1, .ref (Gc.1 200)), (2, .ref (Gm.1 0)), (3, .ref qo), (4, .int 0)] [] := by
  have hE := h.1
  have hcs : cn ≤ room_1.cells ∧ sn ≤ room_1.slots := ⟨by show cn ≤ 600002; omega, by show sn ≤ 7302232; omega⟩
  obtain ⟨r0, hwc, hwm⟩ := st_run
  refine n_aload_n hE 1 (dL_law_g12.2.2.1) rfl rfl ?_
  refine l_callV hE [] [] (cCut hcc) (cZ_ok Gc) (zAll_at hz hA) gL_c_run (kc_ft_run (D := eD E) hwc) ⟨0, 10, cF_ft Gc cS0, _, rfl, rfl, rfl⟩ (by decide) (by decide) hcs rfl rfl (by simp [Value.category]) (dL_law_g12.2.2.2.1) (fun ws1 rv hq => ?_)
  obtain ⟨σ1, rfl, r1, rfl, rfl⟩ := hq
  refine n_drop ?_
  show NW E (mW Gm mS0 ++ [(qo, .inl (Gc.2 1, 1, .inr (.inl (fun _ => 0))))]) cn sn 383 _ (.int r1 :: [])
  refine n_aload_n hE 2 (dL_law_g12.2.2.2.2.1) rfl rfl ?_
  refine l_callV (A1 := mFree Gm) (Z1 := gNo) hE [] [.int r1] (mCut (hcm _)) (gNo_ok _) (fun _ _ _ => trivial) gL_m_run (by rw [← hT]; exact km_run (D := eD E) (cl := gCl) rfl hwm) ⟨0, 11, mF Gm mS0, _, rfl, rfl, rfl⟩ (by decide) (by decide) hcs rfl rfl (by simp [Value.category]) (dL_law_g12.2.2.2.2.2.1) (fun ws2 rv hq => ?_)
  obtain ⟨σ2, rfl, r2, rfl, rfl⟩ := hq
  refine l_icmp_eq h 1061 (dL_law_g12.2.2.2.2.2.2.1) (by decide) ?_
  exact l_end h (by omega) (by omega)
theorem gL_c_count : gCalV RL 74 yX12_count cX12_count 2 (some .int) 1 := ⟨⟨gTb_6 (List.mem_of_getElem? (i := 82) rfl) rfl, gTb_6 (List.mem_of_getElem? (i := 85) rfl) rfl, gTb_1 (List.mem_of_getElem? (i := 1) rfl) rfl, ⟨by decide +kernel, by decide +kernel⟩, by decide +kernel, by decide⟩, gTb_6 (List.mem_of_getElem? (i := 83) rfl) rfl, gTb_6 (List.mem_of_getElem? (i := 84) rfl) rfl⟩
theorem gL_m_count : gCalV RL 77 yX13_count cX13_count 2 (some .int) 1 := ⟨⟨gTb_11 (List.mem_of_getElem? (i := 74) rfl) rfl, gTb_11 (List.mem_of_getElem? (i := 77) rfl) rfl, gTb_1 (List.mem_of_getElem? (i := 12) rfl) rfl, ⟨by decide +kernel, by decide +kernel⟩, by decide +kernel, by decide⟩, gTb_11 (List.mem_of_getElem? (i := 75) rfl) rfl, gTb_11 (List.mem_of_getElem? (i := 76) rfl) rfl⟩
set_option maxHeartbeats 4000000 in
theorem l_case8 {E : gEnv} {Gc Gm : gAd} {b qo : Nat} {xs : Nat → Int32} {cn sn : Nat} (hl0 : (el E).stackTraces = false) (hT : Gm.2 = Gc.2) (h : lOK E Gc.2 b 6 xs) (hz : zAll Gc (eA E) (es E)) (hA : ∀ q, cFree Gc q → eA E q) (hcc : ∀ k, 200 ≤ k → k < 1400 → ∃ (i : Nat) (e : va_E), (cW Gc cS0)[i]? = some (Gc.1 k, e)) (hcm : ∀ (σ : MS) (k : Nat), ∃ (i : Nat) (e : va_E), (mW Gm σ)[i]? = some (Gm.1 k, e)) (hc : cn + 1 ≤ 600002) (hs : sn + 6 ≤ 7302232) : NW E (cW Gc cS0 ++ (mW Gm mS0 ++ [(qo, .inl (Gc.2 1, 1, .inr (.inl (fun _ => 0))))])) cn sn 392 [(0, .ref b), (1, .ref (Gc.1 200)), (2, .ref (Gm.1 0)), (3, .ref qo), (4, .int 0)] [] := by
  have hE := h.1
  have hcs : cn ≤ room_1.cells ∧ sn ≤ room_1.slots := ⟨by show cn ≤ 600002; omega, by show sn ≤ 7302232; omega⟩
  obtain ⟨r0, hwc, hwm⟩ := st_count (xs ((0 : Int32) + 1).toNatClampNeg)
  refine n_aload_n hE 1 (dL_law_g12.2.2.2.2.2.2.2.2.2.1) rfl rfl ?_
  refine n_aload_n hE 0 (dL_law_g12.2.2.2.2.2.2.2.2.2.2.1) rfl rfl ?_
  refine n_iload hE 4 (dL_law_g12.2.2.2.2.2.2.2.2.2.2.2.1) rfl ?_
  refine n_iconst (v := 1) hE (dL_law_g12.2.2.2.2.2.2.2.2.2.2.2.2.1) (by decide) ?_
  refine l_iadd h (dL_law_g12.2.2.2.2.2.2.2.2.2.2.2.2.2.1) ?_
  refine l_sld h (vp_in_dec (by decide)) (dL_law_g12.2.2.2.2.2.2.2.2.2.2.2.2.2.2.1) ?_
  refine l_callV hE [.int (xs ((0 : Int32) + 1).toNatClampNeg)] [] (cCut hcc) (cZ_ok Gc) (zAll_at hz hA) gL_c_count (kc_ft_count (D := eD E) hwc) ⟨0, 10, cF_ft Gc cS0, _, rfl, rfl, rfl⟩ (by decide) (by decide) hcs rfl rfl (by simp [Value.category]) (dL_law_g12.2.2.2.2.2.2.2.2.2.2.2.2.2.2.2) (fun ws1 rv hq => ?_)
  obtain ⟨σ1, rfl, r1, rfl, rfl⟩ := hq
  refine n_drop ?_
  show NW E (mW Gm mS0 ++ [(qo, .inl (Gc.2 1, 1, .inr (.inl (fun _ => 0))))]) cn sn 402 _ (.int r1 :: [])
  refine n_aload_n hE 2 (dL_law_g13.1) rfl rfl ?_
  refine n_aload_n hE 0 (dL_law_g13.2.1) rfl rfl ?_
  refine n_iload hE 4 (dL_law_g13.2.2.1) rfl ?_
  refine n_iconst (v := 1) hE (dL_law_g13.2.2.2.1) (by decide) ?_
  refine l_iadd h (dL_law_g13.2.2.2.2.1) ?_
  refine l_sld h (vp_in_dec (by decide)) (dL_law_g13.2.2.2.2.2.1) ?_
  refine l_callV (A1 := mFree Gm) (Z1 := gNo) hE [.int (xs ((0 : Int32) + 1).toNatClampNeg)] [.int r1] (mCut (hcm _)) (gNo_ok _) (fun _ _ _ => trivial) gL_m_count (by rw [← hT]; exact km_count (D := eD E) (cl := gCl) rfl hwm) ⟨0, 11, mF Gm mS0, _, rfl, rfl, rfl⟩ (by decide) (by decide) hcs rfl rfl (by simp [Value.category]) (dL_law_g13.2.2.2.2.2.2.1) (fun ws2 rv hq => ?_)
  obtain ⟨σ2, rfl, r2, rfl, rfl⟩ := hq
  refine l_icmp_eq h 1061 (dL_law_g13.2.2.2.2.2.2.2.1) (by decide) ?_
  exact l_end h (by omega) (by omega)
theorem gL_m_kind : gCalV RL 83 yX13_kind cX13_kind 2 (some .int) 1 := ⟨⟨gTb_11 (List.mem_of_getElem? (i := 78) rfl) rfl, gTb_11 (List.mem_of_getElem? (i := 81) rfl) rfl, gTb_1 (List.mem_of_getElem? (i := 12) rfl) rfl, ⟨by decide +kernel, by decide +kernel⟩, by decide +kernel, by decide⟩, gTb_11 (List.mem_of_getElem? (i := 79) rfl) rfl, gTb_11 (List.mem_of_getElem? (i := 80) rfl) rfl⟩
theorem gL_m_thrown : gCalV RL 84 yX13_thrown cX13_thrown 1 (some .int) 0 := ⟨⟨gTb_9 (List.mem_of_getElem? (i := 11) rfl) rfl, gTb_9 (List.mem_of_getElem? (i := 14) rfl) rfl, gTb_1 (List.mem_of_getElem? (i := 12) rfl) rfl, ⟨by decide +kernel, by decide +kernel⟩, by decide +kernel, by decide⟩, gTb_9 (List.mem_of_getElem? (i := 12) rfl) rfl, gTb_9 (List.mem_of_getElem? (i := 13) rfl) rfl⟩
set_option maxHeartbeats 4000000 in
theorem l_case9 {E : gEnv} {Gc Gm : gAd} {b qo : Nat} {xs : Nat → Int32} {cn sn : Nat} (hl0 : (el E).stackTraces = false) (hT : Gm.2 = Gc.2) (h : lOK E Gc.2 b 6 xs) (hz : zAll Gc (eA E) (es E)) (hA : ∀ q, cFree Gc q → eA E q) (hcc : ∀ k, 200 ≤ k → k < 1400 → ∃ (i : Nat) (e : va_E), (cW Gc cS0)[i]? = some (Gc.1 k, e)) (hcm : ∀ (σ : MS) (k : Nat), ∃ (i : Nat) (e : va_E), (mW Gm σ)[i]? = some (Gm.1 k, e)) (hc : cn + 1 ≤ 600002) (hs : sn + 6 ≤ 7302232) : NW E (cW Gc cS0 ++ (mW Gm mS0 ++ [(qo, .inl (Gc.2 1, 1, .inr (.inl (fun _ => 0))))])) cn sn 417 [(0, .ref b), (1, .ref (Gc.1 200)), (2, .ref (Gm.1 0)), (3, .ref qo), (4, .int 0)] [] := by
  have hE := h.1
  have hcs : cn ≤ room_1.cells ∧ sn ≤ room_1.slots := ⟨by show cn ≤ 600002; omega, by show sn ≤ 7302232; omega⟩
  have hcs2 : cn + 1 ≤ room_1.cells ∧ sn + 6 ≤ room_1.slots := ⟨hc, hs⟩
  refine n_aload_n hE 1 (dL_law_g13.2.2.2.2.2.2.2.2.2.2.1) rfl rfl ?_
  refine n_aload_n hE 0 (dL_law_g13.2.2.2.2.2.2.2.2.2.2.2.1) rfl rfl ?_
  refine n_iload hE 4 (dL_law_g13.2.2.2.2.2.2.2.2.2.2.2.2.1) rfl ?_
  refine n_iconst (v := 1) hE (dL_law_g13.2.2.2.2.2.2.2.2.2.2.2.2.2.1) (by decide) ?_
  refine l_iadd h (dL_law_g13.2.2.2.2.2.2.2.2.2.2.2.2.2.2.1) ?_
  refine l_sld h (vp_in_dec (by decide)) (dL_law_g13.2.2.2.2.2.2.2.2.2.2.2.2.2.2.2) ?_
  refine n_aload_n hE 3 (dL_law_g14.1) rfl rfl ?_
  refine l_callH (n' := 3) (maxL := 4) (hh := [(0, 9, 12, 13)]) (y := yL_kind) (code := cL_kind) h hz [.ref (Gc.1 200), .int (xs ((0 : Int32) + 1).toNatClampNeg), .ref qo] (kL_kind (el E) hl0 (eD E) (eA E) Gc cS0 _ qo (xs ((0 : Int32) + 1).toNatClampNeg) hcc hA (tc_kind (xs ((0 : Int32) + 1).toNatClampNeg))) ⟨⟨gTb_7 (List.mem_of_getElem? (i := 25) rfl) rfl, gTb_1 (List.mem_of_getElem? (i := 0) rfl) rfl, gTb_7 (List.mem_of_getElem? (i := 23) rfl) rfl, gTb_7 (List.mem_of_getElem? (i := 24) rfl) rfl⟩, ⟨by decide +kernel, by decide +kernel⟩, by decide +kernel, by decide⟩ rfl rfl ⟨hc, hs⟩ (dL_law_g14.2.1) ?_
  refine n_istore hE [(5, .int 1), (0, .ref b), (1, .ref (Gc.1 200)), (2, .ref (Gm.1 0)), (3, .ref qo), (4, .int 0)] (dL_law_g14.2.2.1) h.2.2.2.2.2.2.2 (by decide) rfl ?_
  refine n_aload_n hE 3 (dL_law_g14.2.2.2.1) rfl rfl ?_
  refine n_aload_n hE 1 (dL_law_g14.2.2.2.2.1) rfl rfl ?_
  refine n_iload hE 5 (dL_law_g14.2.2.2.2.2.1) rfl ?_
  refine n_iconst (v := 1) hE (dL_law_g14.2.2.2.2.2.2.1) (by decide) ?_
  refine l_iadd h (dL_law_g14.2.2.2.2.2.2.2.1) ?_
  refine l_sld h (vp_in_dec (by decide)) (dL_law_g14.2.2.2.2.2.2.2.2.1) ?_
  refine l_callV (A1 := mFree Gm) (Z1 := gNo) hE [.int (xs ((0 : Int32) + 1).toNatClampNeg)] [] (mCut (hcm _)) (gNo_ok _) (fun _ _ _ => trivial) gL_m_kind (by rw [← hT]; exact km_kind (D := eD E) (cl := gCl) rfl (tm_kind (xs ((0 : Int32) + 1).toNatClampNeg))) ⟨0, 11, mF Gm mS0, _, rfl, rfl, rfl⟩ (by decide) (by decide) hcs2 rfl rfl (by simp [Value.category]) (dL_law_g14.2.2.2.2.2.2.2.2.2.1) (fun ws2 rv hq => ?_)
  obtain ⟨σ1, rfl, r1, rfl, hq1⟩ := hq
  refine n_istore hE [(6, .int r1), (5, .int 1), (0, .ref b), (1, .ref (Gc.1 200)), (2, .ref (Gm.1 0)), (3, .ref qo), (4, .int 0)] (dL_law_g14.2.2.2.2.2.2.2.2.2.2.1) h.2.2.2.2.2.2.2 (by decide) rfl ?_
  refine n_aload_n hE 4 (dL_law_g14.2.2.2.2.2.2.2.2.2.2.2.1) rfl rfl ?_
  refine l_callV (A1 := mFree Gm) (Z1 := gNo) hE [] [] (mCut (hcm _)) (gNo_ok _) (fun _ _ _ => trivial) gL_m_thrown (by rw [← hT]; exact km_thrown (D := eD E) (cl := gCl) rfl (show wm_thrown (fun _ v => v = 1) σ1 from hq1)) ⟨0, 11, mF Gm σ1, _, rfl, rfl, rfl⟩ (by decide) (by decide) hcs2 rfl rfl (by simp [Value.category]) (dL_law_g14.2.2.2.2.2.2.2.2.2.2.2.2.1) (fun ws2 rv hq => ?_)
  obtain ⟨σ2, rfl, r2, rfl, rfl⟩ := hq
  refine n_iload hE 1 (dL_law_g14.2.2.2.2.2.2.2.2.2.2.2.2.2.1) rfl ?_
  refine l_icmp_eq h 453 (dL_law_g14.2.2.2.2.2.2.2.2.2.2.2.2.2.2.1) (by decide) ?_
  refine n_iload hE 1 (dL_law_g15.2.1) rfl ?_
  refine l_if_ne1 h 470 (dL_law_g15.2.2.1) (by decide) ?_
  refine l_goto h 1061 (dL_law_g15.2.2.2.2.2.2.2.2.2.2.2.2.1) (by decide) ?_
  refine l_pick [2, 3, 4, 5, 6] (L' := [(0, .ref b), (1, .ref (Gc.1 200)), (2, .ref (Gm.1 0)), (3, .ref qo), (4, .int 0)]) rfl ?_
  exact l_end h hc hs
theorem gL_m_number_ : gCalV RL 90 yX13_number_ cX13_number_ 6 (some .long) 3 := ⟨⟨gTb_11 (List.mem_of_getElem? (i := 86) rfl) rfl, gTb_11 (List.mem_of_getElem? (i := 89) rfl) rfl, gTb_1 (List.mem_of_getElem? (i := 12) rfl) rfl, ⟨by decide +kernel, by decide +kernel⟩, by decide +kernel, by decide⟩, gTb_11 (List.mem_of_getElem? (i := 87) rfl) rfl, gTb_11 (List.mem_of_getElem? (i := 88) rfl) rfl⟩
set_option maxHeartbeats 4000000 in
theorem l_case10 {E : gEnv} {Gc Gm : gAd} {b qo : Nat} {xs : Nat → Int32} {cn sn : Nat} (hl0 : (el E).stackTraces = false) (hT : Gm.2 = Gc.2) (h : lOK E Gc.2 b 6 xs) (hz : zAll Gc (eA E) (es E)) (hA : ∀ q, cFree Gc q → eA E q) (hcc : ∀ k, 200 ≤ k → k < 1400 → ∃ (i : Nat) (e : va_E), (cW Gc cS0)[i]? = some (Gc.1 k, e)) (hcm : ∀ (σ : MS) (k : Nat), ∃ (i : Nat) (e : va_E), (mW Gm σ)[i]? = some (Gm.1 k, e)) (hc : cn + 1 ≤ 600002) (hs : sn + 6 ≤ 7302232) : NW E (cW Gc cS0 ++ (mW Gm mS0 ++ [(qo, .inl (Gc.2 1, 1, .inr (.inl (fun _ => 0))))])) cn sn 473 [(0, .ref b), (1, .ref (Gc.1 200)), (2, .ref (Gm.1 0)), (3, .ref qo), (4, .int 0)] [] := by
  have hE := h.1
  have hcs : cn ≤ room_1.cells ∧ sn ≤ room_1.slots := ⟨by show cn ≤ 600002; omega, by show sn ≤ 7302232; omega⟩
  have hcs2 : cn + 1 ≤ room_1.cells ∧ sn + 6 ≤ room_1.slots := ⟨hc, hs⟩
  refine n_aload_n hE 1 (dL_law_g15.2.2.2.2.2.2.2.2.2.2.2.2.2.1) rfl rfl ?_
  refine n_aload_n hE 0 (dL_law_g15.2.2.2.2.2.2.2.2.2.2.2.2.2.2.1) rfl rfl ?_
  refine n_iload hE 4 (dL_law_g15.2.2.2.2.2.2.2.2.2.2.2.2.2.2.2) rfl ?_
  refine n_iconst (v := 1) hE (dL_law_g16.1) (by decide) ?_
  refine l_iadd h (dL_law_g16.2.1) ?_
  refine l_sld h (vp_in_dec (by decide)) (dL_law_g16.2.2.1) ?_
  refine n_aload_n hE 0 (dL_law_g16.2.2.2.1) rfl rfl ?_
  refine n_iload hE 4 (dL_law_g16.2.2.2.2.1) rfl ?_
  refine n_iconst (v := 2) hE (dL_law_g16.2.2.2.2.2.1) (by decide) ?_
  refine l_iadd h (dL_law_g16.2.2.2.2.2.2.1) ?_
  refine l_sld h (vp_in_dec (by decide)) (dL_law_g16.2.2.2.2.2.2.2.1) ?_
  refine n_aload_n hE 0 (dL_law_g16.2.2.2.2.2.2.2.2.1) rfl rfl ?_
  refine n_iload hE 4 (dL_law_g16.2.2.2.2.2.2.2.2.2.1) rfl ?_
  refine n_iconst (v := 3) hE (dL_law_g16.2.2.2.2.2.2.2.2.2.2.1) (by decide) ?_
  refine l_iadd h (dL_law_g16.2.2.2.2.2.2.2.2.2.2.2.1) ?_
  refine l_sld h (vp_in_dec (by decide)) (dL_law_g16.2.2.2.2.2.2.2.2.2.2.2.2.1) ?_
  refine n_aload_n hE 3 (dL_law_g16.2.2.2.2.2.2.2.2.2.2.2.2.2.1) rfl rfl ?_
  refine l_callH (n' := 5) (maxL := 6) (hh := [(0, 11, 14, 13)]) (y := yL_number) (code := cL_number) h hz [.ref (Gc.1 200), .int (xs ((0 : Int32) + 1).toNatClampNeg), .int (xs ((0 : Int32) + 2).toNatClampNeg), .int (xs ((0 : Int32) + 3).toNatClampNeg), .ref qo] (kL_number (el E) hl0 (eD E) (eA E) Gc cS0 _ qo (xs ((0 : Int32) + 1).toNatClampNeg) (xs ((0 : Int32) + 2).toNatClampNeg) (xs ((0 : Int32) + 3).toNatClampNeg) hcc hA (tc_number (xs ((0 : Int32) + 1).toNatClampNeg) (xs ((0 : Int32) + 2).toNatClampNeg) (xs ((0 : Int32) + 3).toNatClampNeg))) ⟨⟨gTb_7 (List.mem_of_getElem? (i := 103) rfl) rfl, gTb_1 (List.mem_of_getElem? (i := 0) rfl) rfl, gTb_7 (List.mem_of_getElem? (i := 101) rfl) rfl, gTb_7 (List.mem_of_getElem? (i := 102) rfl) rfl⟩, ⟨by decide +kernel, by decide +kernel⟩, by decide +kernel, by decide⟩ rfl rfl ⟨hc, hs⟩ (dL_law_g16.2.2.2.2.2.2.2.2.2.2.2.2.2.2.1) ?_
  refine n_istore hE [(5, .int 1), (0, .ref b), (1, .ref (Gc.1 200)), (2, .ref (Gm.1 0)), (3, .ref qo), (4, .int 0)] (dL_law_g16.2.2.2.2.2.2.2.2.2.2.2.2.2.2.2) h.2.2.2.2.2.2.2 (by decide) rfl ?_
  refine n_aload_n hE 3 (dL_law_g17.1) rfl rfl ?_
  refine n_aload_n hE 1 (dL_law_g17.2.1) rfl rfl ?_
  refine n_iload hE 5 (dL_law_g17.2.2.1) rfl ?_
  refine n_iconst (v := 1) hE (dL_law_g17.2.2.2.1) (by decide) ?_
  refine l_iadd h (dL_law_g17.2.2.2.2.1) ?_
  refine l_sld h (vp_in_dec (by decide)) (dL_law_g17.2.2.2.2.2.1) ?_
  refine n_aload_n hE 1 (dL_law_g17.2.2.2.2.2.2.1) rfl rfl ?_
  refine n_iload hE 5 (dL_law_g17.2.2.2.2.2.2.2.1) rfl ?_
  refine n_iconst (v := 2) hE (dL_law_g17.2.2.2.2.2.2.2.2.1) (by decide) ?_
  refine l_iadd h (dL_law_g17.2.2.2.2.2.2.2.2.2.1) ?_
  refine l_sld h (vp_in_dec (by decide)) (dL_law_g17.2.2.2.2.2.2.2.2.2.2.1) ?_
  refine n_aload_n hE 1 (dL_law_g17.2.2.2.2.2.2.2.2.2.2.2.1) rfl rfl ?_
  refine n_iload hE 5 (dL_law_g17.2.2.2.2.2.2.2.2.2.2.2.2.1) rfl ?_
  refine n_iconst (v := 3) hE (dL_law_g17.2.2.2.2.2.2.2.2.2.2.2.2.2.1) (by decide) ?_
  refine l_iadd h (dL_law_g17.2.2.2.2.2.2.2.2.2.2.2.2.2.2.1) ?_
  refine l_sld h (vp_in_dec (by decide)) (dL_law_g17.2.2.2.2.2.2.2.2.2.2.2.2.2.2.2) ?_
  refine l_callV (A1 := mFree Gm) (Z1 := gNo) hE [.int (xs ((0 : Int32) + 1).toNatClampNeg), .int (xs ((0 : Int32) + 2).toNatClampNeg), .int (xs ((0 : Int32) + 3).toNatClampNeg)] [] (mCut (hcm _)) (gNo_ok _) (fun _ _ _ => trivial) gL_m_number_ (by rw [← hT]; exact km_number_ (D := eD E) (cl := gCl) rfl (tm_number (xs ((0 : Int32) + 1).toNatClampNeg) (xs ((0 : Int32) + 2).toNatClampNeg) (xs ((0 : Int32) + 3).toNatClampNeg))) ⟨0, 11, mF Gm mS0, _, rfl, rfl, rfl⟩ (by decide) (by decide) hcs2 rfl rfl (by simp [Value.category]) (dL_law_g18.1) (fun ws2 rv hq => ?_)
  obtain ⟨σ1, rfl, r1, rfl, hq1⟩ := hq
  refine n_lstore hE [(6, .long r1), (5, .int 1), (0, .ref b), (1, .ref (Gc.1 200)), (2, .ref (Gm.1 0)), (3, .ref qo), (4, .int 0)] (dL_law_g18.2.1) h.2.2.2.2.2.2.2 (by decide) rfl ?_
  refine n_aload_n hE 4 (dL_law_g18.2.2.1) rfl rfl ?_
  refine l_callV (A1 := mFree Gm) (Z1 := gNo) hE [] [] (mCut (hcm _)) (gNo_ok _) (fun _ _ _ => trivial) gL_m_thrown (by rw [← hT]; exact km_thrown (D := eD E) (cl := gCl) rfl (show wm_thrown (fun _ v => v = 1) σ1 from hq1)) ⟨0, 11, mF Gm σ1, _, rfl, rfl, rfl⟩ (by decide) (by decide) hcs2 rfl rfl (by simp [Value.category]) (dL_law_g18.2.2.2.1) (fun ws2 rv hq => ?_)
  obtain ⟨σ2, rfl, r2, rfl, rfl⟩ := hq
  refine n_iload hE 1 (dL_law_g18.2.2.2.2.1) rfl ?_
  refine l_icmp_eq h 533 (dL_law_g18.2.2.2.2.2.1) (by decide) ?_
  refine n_iload hE 1 (dL_law_g18.2.2.2.2.2.2.2.2.1) rfl ?_
  refine l_if_ne1 h 549 (dL_law_g18.2.2.2.2.2.2.2.2.2.1) (by decide) ?_
  refine l_goto h 1061 (dL_law_g19.2.2.1) (by decide) ?_
  refine l_pick [2, 3, 4, 5, 6] (L' := [(0, .ref b), (1, .ref (Gc.1 200)), (2, .ref (Gm.1 0)), (3, .ref qo), (4, .int 0)]) rfl ?_
  exact l_end h hc hs
theorem gL_m_leans : gCalV RL 93 yX13_leans cX13_leans 2 (some .int) 1 := ⟨⟨gTb_11 (List.mem_of_getElem? (i := 90) rfl) rfl, gTb_11 (List.mem_of_getElem? (i := 93) rfl) rfl, gTb_1 (List.mem_of_getElem? (i := 12) rfl) rfl, ⟨by decide +kernel, by decide +kernel⟩, by decide +kernel, by decide⟩, gTb_11 (List.mem_of_getElem? (i := 91) rfl) rfl, gTb_11 (List.mem_of_getElem? (i := 92) rfl) rfl⟩
set_option maxHeartbeats 4000000 in
theorem l_case11 {E : gEnv} {Gc Gm : gAd} {b qo : Nat} {xs : Nat → Int32} {cn sn : Nat} (hl0 : (el E).stackTraces = false) (hT : Gm.2 = Gc.2) (h : lOK E Gc.2 b 6 xs) (hz : zAll Gc (eA E) (es E)) (hA : ∀ q, cFree Gc q → eA E q) (hcc : ∀ k, 200 ≤ k → k < 1400 → ∃ (i : Nat) (e : va_E), (cW Gc cS0)[i]? = some (Gc.1 k, e)) (hcm : ∀ (σ : MS) (k : Nat), ∃ (i : Nat) (e : va_E), (mW Gm σ)[i]? = some (Gm.1 k, e)) (hc : cn + 1 ≤ 600002) (hs : sn + 6 ≤ 7302232) : NW E (cW Gc cS0 ++ (mW Gm mS0 ++ [(qo, .inl (Gc.2 1, 1, .inr (.inl (fun _ => 0))))])) cn sn 552 [(0, .ref b), (1, .ref (Gc.1 200)), (2, .ref (Gm.1 0)), (3, .ref qo), (4, .int 0)] [] := by
  have hE := h.1
  have hcs : cn ≤ room_1.cells ∧ sn ≤ room_1.slots := ⟨by show cn ≤ 600002; omega, by show sn ≤ 7302232; omega⟩
  have hcs2 : cn + 1 ≤ room_1.cells ∧ sn + 6 ≤ room_1.slots := ⟨hc, hs⟩
  refine n_aload_n hE 1 (dL_law_g19.2.2.2.1) rfl rfl ?_
  refine n_aload_n hE 0 (dL_law_g19.2.2.2.2.1) rfl rfl ?_
  refine n_iload hE 4 (dL_law_g19.2.2.2.2.2.1) rfl ?_
  refine n_iconst (v := 1) hE (dL_law_g19.2.2.2.2.2.2.1) (by decide) ?_
  refine l_iadd h (dL_law_g19.2.2.2.2.2.2.2.1) ?_
  refine l_sld h (vp_in_dec (by decide)) (dL_law_g19.2.2.2.2.2.2.2.2.1) ?_
  refine n_aload_n hE 3 (dL_law_g19.2.2.2.2.2.2.2.2.2.1) rfl rfl ?_
  refine l_callH (n' := 3) (maxL := 4) (hh := [(0, 9, 12, 13)]) (y := yL_leans) (code := cL_leans) h hz [.ref (Gc.1 200), .int (xs ((0 : Int32) + 1).toNatClampNeg), .ref qo] (kL_leans (el E) hl0 (eD E) (eA E) Gc cS0 _ qo (xs ((0 : Int32) + 1).toNatClampNeg) hcc hA (tc_leans (xs ((0 : Int32) + 1).toNatClampNeg))) ⟨⟨gTb_7 (List.mem_of_getElem? (i := 114) rfl) rfl, gTb_1 (List.mem_of_getElem? (i := 0) rfl) rfl, gTb_7 (List.mem_of_getElem? (i := 112) rfl) rfl, gTb_7 (List.mem_of_getElem? (i := 113) rfl) rfl⟩, ⟨by decide +kernel, by decide +kernel⟩, by decide +kernel, by decide⟩ rfl rfl ⟨hc, hs⟩ (dL_law_g19.2.2.2.2.2.2.2.2.2.2.1) ?_
  refine n_istore hE [(5, .int 1), (0, .ref b), (1, .ref (Gc.1 200)), (2, .ref (Gm.1 0)), (3, .ref qo), (4, .int 0)] (dL_law_g19.2.2.2.2.2.2.2.2.2.2.2.1) h.2.2.2.2.2.2.2 (by decide) rfl ?_
  refine n_aload_n hE 3 (dL_law_g19.2.2.2.2.2.2.2.2.2.2.2.2.1) rfl rfl ?_
  refine n_aload_n hE 1 (dL_law_g19.2.2.2.2.2.2.2.2.2.2.2.2.2.1) rfl rfl ?_
  refine n_iload hE 5 (dL_law_g19.2.2.2.2.2.2.2.2.2.2.2.2.2.2.1) rfl ?_
  refine n_iconst (v := 1) hE (dL_law_g19.2.2.2.2.2.2.2.2.2.2.2.2.2.2.2) (by decide) ?_
  refine l_iadd h (dL_law_g20.1) ?_
  refine l_sld h (vp_in_dec (by decide)) (dL_law_g20.2.1) ?_
  refine l_callV (A1 := mFree Gm) (Z1 := gNo) hE [.int (xs ((0 : Int32) + 1).toNatClampNeg)] [] (mCut (hcm _)) (gNo_ok _) (fun _ _ _ => trivial) gL_m_leans (by rw [← hT]; exact km_leans (D := eD E) (cl := gCl) rfl (tm_leans (xs ((0 : Int32) + 1).toNatClampNeg))) ⟨0, 11, mF Gm mS0, _, rfl, rfl, rfl⟩ (by decide) (by decide) hcs2 rfl rfl (by simp [Value.category]) (dL_law_g20.2.2.1) (fun ws2 rv hq => ?_)
  obtain ⟨σ1, rfl, r1, rfl, hq1⟩ := hq
  refine n_istore hE [(6, .int r1), (5, .int 1), (0, .ref b), (1, .ref (Gc.1 200)), (2, .ref (Gm.1 0)), (3, .ref qo), (4, .int 0)] (dL_law_g20.2.2.2.1) h.2.2.2.2.2.2.2 (by decide) rfl ?_
  refine n_aload_n hE 4 (dL_law_g20.2.2.2.2.1) rfl rfl ?_
  refine l_callV (A1 := mFree Gm) (Z1 := gNo) hE [] [] (mCut (hcm _)) (gNo_ok _) (fun _ _ _ => trivial) gL_m_thrown (by rw [← hT]; exact km_thrown (D := eD E) (cl := gCl) rfl (show wm_thrown (fun _ v => v = 1) σ1 from hq1)) ⟨0, 11, mF Gm σ1, _, rfl, rfl, rfl⟩ (by decide) (by decide) hcs2 rfl rfl (by simp [Value.category]) (dL_law_g20.2.2.2.2.2.1) (fun ws2 rv hq => ?_)
  obtain ⟨σ2, rfl, r2, rfl, rfl⟩ := hq
  refine n_iload hE 1 (dL_law_g20.2.2.2.2.2.2.1) rfl ?_
  refine l_icmp_eq h 588 (dL_law_g20.2.2.2.2.2.2.2.1) (by decide) ?_
  refine n_iload hE 1 (dL_law_g20.2.2.2.2.2.2.2.2.2.2.1) rfl ?_
  refine l_if_ne1 h 605 (dL_law_g20.2.2.2.2.2.2.2.2.2.2.2.1) (by decide) ?_
  refine l_goto h 1061 (dL_law_g21.2.2.2.2.2.1) (by decide) ?_
  refine l_pick [2, 3, 4, 5, 6] (L' := [(0, .ref b), (1, .ref (Gc.1 200)), (2, .ref (Gm.1 0)), (3, .ref qo), (4, .int 0)]) rfl ?_
  exact l_end h hc hs
theorem gL_m_stated : gCalV RL 96 yX13_stated cX13_stated 2 (some .int) 1 := ⟨⟨gTb_11 (List.mem_of_getElem? (i := 94) rfl) rfl, gTb_11 (List.mem_of_getElem? (i := 97) rfl) rfl, gTb_1 (List.mem_of_getElem? (i := 12) rfl) rfl, ⟨by decide +kernel, by decide +kernel⟩, by decide +kernel, by decide⟩, gTb_11 (List.mem_of_getElem? (i := 95) rfl) rfl, gTb_11 (List.mem_of_getElem? (i := 96) rfl) rfl⟩
set_option maxHeartbeats 4000000 in
theorem l_case12 {E : gEnv} {Gc Gm : gAd} {b qo : Nat} {xs : Nat → Int32} {cn sn : Nat} (hl0 : (el E).stackTraces = false) (hT : Gm.2 = Gc.2) (h : lOK E Gc.2 b 6 xs) (hz : zAll Gc (eA E) (es E)) (hA : ∀ q, cFree Gc q → eA E q) (hcc : ∀ k, 200 ≤ k → k < 1400 → ∃ (i : Nat) (e : va_E), (cW Gc cS0)[i]? = some (Gc.1 k, e)) (hcm : ∀ (σ : MS) (k : Nat), ∃ (i : Nat) (e : va_E), (mW Gm σ)[i]? = some (Gm.1 k, e)) (hc : cn + 1 ≤ 600002) (hs : sn + 6 ≤ 7302232) : NW E (cW Gc cS0 ++ (mW Gm mS0 ++ [(qo, .inl (Gc.2 1, 1, .inr (.inl (fun _ => 0))))])) cn sn 608 [(0, .ref b), (1, .ref (Gc.1 200)), (2, .ref (Gm.1 0)), (3, .ref qo), (4, .int 0)] [] := by
  have hE := h.1
  have hcs : cn ≤ room_1.cells ∧ sn ≤ room_1.slots := ⟨by show cn ≤ 600002; omega, by show sn ≤ 7302232; omega⟩
  have hcs2 : cn + 1 ≤ room_1.cells ∧ sn + 6 ≤ room_1.slots := ⟨hc, hs⟩
  refine n_aload_n hE 1 (dL_law_g21.2.2.2.2.2.2.1) rfl rfl ?_
  refine n_aload_n hE 0 (dL_law_g21.2.2.2.2.2.2.2.1) rfl rfl ?_
  refine n_iload hE 4 (dL_law_g21.2.2.2.2.2.2.2.2.1) rfl ?_
  refine n_iconst (v := 1) hE (dL_law_g21.2.2.2.2.2.2.2.2.2.1) (by decide) ?_
  refine l_iadd h (dL_law_g21.2.2.2.2.2.2.2.2.2.2.1) ?_
  refine l_sld h (vp_in_dec (by decide)) (dL_law_g21.2.2.2.2.2.2.2.2.2.2.2.1) ?_
  refine n_aload_n hE 3 (dL_law_g21.2.2.2.2.2.2.2.2.2.2.2.2.1) rfl rfl ?_
  refine l_callH (n' := 3) (maxL := 4) (hh := [(0, 9, 12, 13)]) (y := yL_stated) (code := cL_stated) h hz [.ref (Gc.1 200), .int (xs ((0 : Int32) + 1).toNatClampNeg), .ref qo] (kL_stated (el E) hl0 (eD E) (eA E) Gc cS0 _ qo (xs ((0 : Int32) + 1).toNatClampNeg) hcc hA (tc_stated (xs ((0 : Int32) + 1).toNatClampNeg))) ⟨⟨gTb_7 (List.mem_of_getElem? (i := 122) rfl) rfl, gTb_1 (List.mem_of_getElem? (i := 0) rfl) rfl, gTb_7 (List.mem_of_getElem? (i := 120) rfl) rfl, gTb_7 (List.mem_of_getElem? (i := 121) rfl) rfl⟩, ⟨by decide +kernel, by decide +kernel⟩, by decide +kernel, by decide⟩ rfl rfl ⟨hc, hs⟩ (dL_law_g21.2.2.2.2.2.2.2.2.2.2.2.2.2.1) ?_
  refine n_istore hE [(5, .int 1), (0, .ref b), (1, .ref (Gc.1 200)), (2, .ref (Gm.1 0)), (3, .ref qo), (4, .int 0)] (dL_law_g21.2.2.2.2.2.2.2.2.2.2.2.2.2.2.1) h.2.2.2.2.2.2.2 (by decide) rfl ?_
  refine n_aload_n hE 3 (dL_law_g21.2.2.2.2.2.2.2.2.2.2.2.2.2.2.2) rfl rfl ?_
  refine n_aload_n hE 1 (dL_law_g22.1) rfl rfl ?_
  refine n_iload hE 5 (dL_law_g22.2.1) rfl ?_
  refine n_iconst (v := 1) hE (dL_law_g22.2.2.1) (by decide) ?_
  refine l_iadd h (dL_law_g22.2.2.2.1) ?_
  refine l_sld h (vp_in_dec (by decide)) (dL_law_g22.2.2.2.2.1) ?_
  refine l_callV (A1 := mFree Gm) (Z1 := gNo) hE [.int (xs ((0 : Int32) + 1).toNatClampNeg)] [] (mCut (hcm _)) (gNo_ok _) (fun _ _ _ => trivial) gL_m_stated (by rw [← hT]; exact km_stated (D := eD E) (cl := gCl) rfl (tm_stated (xs ((0 : Int32) + 1).toNatClampNeg))) ⟨0, 11, mF Gm mS0, _, rfl, rfl, rfl⟩ (by decide) (by decide) hcs2 rfl rfl (by simp [Value.category]) (dL_law_g22.2.2.2.2.2.1) (fun ws2 rv hq => ?_)
  obtain ⟨σ1, rfl, r1, rfl, hq1⟩ := hq
  refine n_istore hE [(6, .int r1), (5, .int 1), (0, .ref b), (1, .ref (Gc.1 200)), (2, .ref (Gm.1 0)), (3, .ref qo), (4, .int 0)] (dL_law_g22.2.2.2.2.2.2.1) h.2.2.2.2.2.2.2 (by decide) rfl ?_
  refine n_aload_n hE 4 (dL_law_g22.2.2.2.2.2.2.2.1) rfl rfl ?_
  refine l_callV (A1 := mFree Gm) (Z1 := gNo) hE [] [] (mCut (hcm _)) (gNo_ok _) (fun _ _ _ => trivial) gL_m_thrown (by rw [← hT]; exact km_thrown (D := eD E) (cl := gCl) rfl (show wm_thrown (fun _ v => v = 1) σ1 from hq1)) ⟨0, 11, mF Gm σ1, _, rfl, rfl, rfl⟩ (by decide) (by decide) hcs2 rfl rfl (by simp [Value.category]) (dL_law_g22.2.2.2.2.2.2.2.2.1) (fun ws2 rv hq => ?_)
  obtain ⟨σ2, rfl, r2, rfl, rfl⟩ := hq
  refine n_iload hE 1 (dL_law_g22.2.2.2.2.2.2.2.2.2.1) rfl ?_
  refine l_icmp_eq h 644 (dL_law_g22.2.2.2.2.2.2.2.2.2.2.1) (by decide) ?_
  refine n_iload hE 1 (dL_law_g22.2.2.2.2.2.2.2.2.2.2.2.2.2.1) rfl ?_
  refine l_if_ne1 h 661 (dL_law_g22.2.2.2.2.2.2.2.2.2.2.2.2.2.2.1) (by decide) ?_
  refine l_goto h 1061 (dL_law_g23.2.2.2.2.2.2.2.2.1) (by decide) ?_
  refine l_pick [2, 3, 4, 5, 6] (L' := [(0, .ref b), (1, .ref (Gc.1 200)), (2, .ref (Gm.1 0)), (3, .ref qo), (4, .int 0)]) rfl ?_
  exact l_end h hc hs
theorem gL_c_fall : gCalV RL 97 yX12_fall cX12_fall 3 (some .int) 2 := ⟨⟨gTb_6 (List.mem_of_getElem? (i := 86) rfl) rfl, gTb_6 (List.mem_of_getElem? (i := 89) rfl) rfl, gTb_1 (List.mem_of_getElem? (i := 1) rfl) rfl, ⟨by decide +kernel, by decide +kernel⟩, by decide +kernel, by decide⟩, gTb_6 (List.mem_of_getElem? (i := 87) rfl) rfl, gTb_6 (List.mem_of_getElem? (i := 88) rfl) rfl⟩
theorem gL_m_fall : gCalV RL 101 yX13_fall cX13_fall 3 (some .int) 2 := ⟨⟨gTb_11 (List.mem_of_getElem? (i := 98) rfl) rfl, gTb_11 (List.mem_of_getElem? (i := 101) rfl) rfl, gTb_1 (List.mem_of_getElem? (i := 12) rfl) rfl, ⟨by decide +kernel, by decide +kernel⟩, by decide +kernel, by decide⟩, gTb_11 (List.mem_of_getElem? (i := 99) rfl) rfl, gTb_11 (List.mem_of_getElem? (i := 100) rfl) rfl⟩
set_option maxHeartbeats 4000000 in
theorem l_case13 {E : gEnv} {Gc Gm : gAd} {b qo : Nat} {xs : Nat → Int32} {cn sn : Nat} (hl0 : (el E).stackTraces = false) (hT : Gm.2 = Gc.2) (h : lOK E Gc.2 b 6 xs) (hz : zAll Gc (eA E) (es E)) (hA : ∀ q, cFree Gc q → eA E q) (hcc : ∀ k, 200 ≤ k → k < 1400 → ∃ (i : Nat) (e : va_E), (cW Gc cS0)[i]? = some (Gc.1 k, e)) (hcm : ∀ (σ : MS) (k : Nat), ∃ (i : Nat) (e : va_E), (mW Gm σ)[i]? = some (Gm.1 k, e)) (hc : cn + 1 ≤ 600002) (hs : sn + 6 ≤ 7302232) : NW E (cW Gc cS0 ++ (mW Gm mS0 ++ [(qo, .inl (Gc.2 1, 1, .inr (.inl (fun _ => 0))))])) cn sn 664 [(0, .ref b), (1, .ref (Gc.1 200)), (2, .ref (Gm.1 0)), (3, .ref qo), (4, .int 0)] [] := by
  have hE := h.1
  have hcs : cn ≤ room_1.cells ∧ sn ≤ room_1.slots := ⟨by show cn ≤ 600002; omega, by show sn ≤ 7302232; omega⟩
  obtain ⟨r0, hwc, hwm⟩ := st_fall (xs ((0 : Int32) + 1).toNatClampNeg) (xs ((0 : Int32) + 2).toNatClampNeg)
  refine n_aload_n hE 1 (dL_law_g23.2.2.2.2.2.2.2.2.2.1) rfl rfl ?_
  refine n_aload_n hE 0 (dL_law_g23.2.2.2.2.2.2.2.2.2.2.1) rfl rfl ?_
  refine n_iload hE 4 (dL_law_g23.2.2.2.2.2.2.2.2.2.2.2.1) rfl ?_
  refine n_iconst (v := 1) hE (dL_law_g23.2.2.2.2.2.2.2.2.2.2.2.2.1) (by decide) ?_
  refine l_iadd h (dL_law_g23.2.2.2.2.2.2.2.2.2.2.2.2.2.1) ?_
  refine l_sld h (vp_in_dec (by decide)) (dL_law_g23.2.2.2.2.2.2.2.2.2.2.2.2.2.2.1) ?_
  refine n_aload_n hE 0 (dL_law_g23.2.2.2.2.2.2.2.2.2.2.2.2.2.2.2) rfl rfl ?_
  refine n_iload hE 4 (dL_law_g24.1) rfl ?_
  refine n_iconst (v := 2) hE (dL_law_g24.2.1) (by decide) ?_
  refine l_iadd h (dL_law_g24.2.2.1) ?_
  refine l_sld h (vp_in_dec (by decide)) (dL_law_g24.2.2.2.1) ?_
  refine l_callV hE [.int (xs ((0 : Int32) + 1).toNatClampNeg), .int (xs ((0 : Int32) + 2).toNatClampNeg)] [] (cCut hcc) (cZ_ok Gc) (zAll_at hz hA) gL_c_fall (kc_ft_fall (D := eD E) hwc) ⟨0, 10, cF_ft Gc cS0, _, rfl, rfl, rfl⟩ (by decide) (by decide) hcs rfl rfl (by simp [Value.category]) (dL_law_g24.2.2.2.2.1) (fun ws1 rv hq => ?_)
  obtain ⟨σ1, rfl, r1, rfl, rfl⟩ := hq
  refine n_drop ?_
  show NW E (mW Gm mS0 ++ [(qo, .inl (Gc.2 1, 1, .inr (.inl (fun _ => 0))))]) cn sn 680 _ (.int r1 :: [])
  refine n_aload_n hE 2 (dL_law_g24.2.2.2.2.2.1) rfl rfl ?_
  refine n_aload_n hE 0 (dL_law_g24.2.2.2.2.2.2.1) rfl rfl ?_
  refine n_iload hE 4 (dL_law_g24.2.2.2.2.2.2.2.1) rfl ?_
  refine n_iconst (v := 1) hE (dL_law_g24.2.2.2.2.2.2.2.2.1) (by decide) ?_
  refine l_iadd h (dL_law_g24.2.2.2.2.2.2.2.2.2.1) ?_
  refine l_sld h (vp_in_dec (by decide)) (dL_law_g24.2.2.2.2.2.2.2.2.2.2.1) ?_
  refine n_aload_n hE 0 (dL_law_g24.2.2.2.2.2.2.2.2.2.2.2.1) rfl rfl ?_
  refine n_iload hE 4 (dL_law_g24.2.2.2.2.2.2.2.2.2.2.2.2.1) rfl ?_
  refine n_iconst (v := 2) hE (dL_law_g24.2.2.2.2.2.2.2.2.2.2.2.2.2.1) (by decide) ?_
  refine l_iadd h (dL_law_g24.2.2.2.2.2.2.2.2.2.2.2.2.2.2.1) ?_
  refine l_sld h (vp_in_dec (by decide)) (dL_law_g24.2.2.2.2.2.2.2.2.2.2.2.2.2.2.2) ?_
  refine l_callV (A1 := mFree Gm) (Z1 := gNo) hE [.int (xs ((0 : Int32) + 1).toNatClampNeg), .int (xs ((0 : Int32) + 2).toNatClampNeg)] [.int r1] (mCut (hcm _)) (gNo_ok _) (fun _ _ _ => trivial) gL_m_fall (by rw [← hT]; exact km_fall (D := eD E) (cl := gCl) rfl hwm) ⟨0, 11, mF Gm mS0, _, rfl, rfl, rfl⟩ (by decide) (by decide) hcs rfl rfl (by simp [Value.category]) (dL_law_g25.1) (fun ws2 rv hq => ?_)
  obtain ⟨σ2, rfl, r2, rfl, rfl⟩ := hq
  refine l_icmp_eq h 1061 (dL_law_g25.2.1) (by decide) ?_
  exact l_end h (by omega) (by omega)
theorem gL_m_same : gCalV RL 105 yX13_same cX13_same 3 (some .boolean) 2 := ⟨⟨gTb_11 (List.mem_of_getElem? (i := 102) rfl) rfl, gTb_11 (List.mem_of_getElem? (i := 105) rfl) rfl, gTb_1 (List.mem_of_getElem? (i := 12) rfl) rfl, ⟨by decide +kernel, by decide +kernel⟩, by decide +kernel, by decide⟩, gTb_11 (List.mem_of_getElem? (i := 103) rfl) rfl, gTb_11 (List.mem_of_getElem? (i := 104) rfl) rfl⟩
set_option maxHeartbeats 4000000 in
theorem l_case14 {E : gEnv} {Gc Gm : gAd} {b qo : Nat} {xs : Nat → Int32} {cn sn : Nat} (hl0 : (el E).stackTraces = false) (hT : Gm.2 = Gc.2) (h : lOK E Gc.2 b 6 xs) (hz : zAll Gc (eA E) (es E)) (hA : ∀ q, cFree Gc q → eA E q) (hcc : ∀ k, 200 ≤ k → k < 1400 → ∃ (i : Nat) (e : va_E), (cW Gc cS0)[i]? = some (Gc.1 k, e)) (hcm : ∀ (σ : MS) (k : Nat), ∃ (i : Nat) (e : va_E), (mW Gm σ)[i]? = some (Gm.1 k, e)) (hc : cn + 1 ≤ 600002) (hs : sn + 6 ≤ 7302232) : NW E (cW Gc cS0 ++ (mW Gm mS0 ++ [(qo, .inl (Gc.2 1, 1, .inr (.inl (fun _ => 0))))])) cn sn 701 [(0, .ref b), (1, .ref (Gc.1 200)), (2, .ref (Gm.1 0)), (3, .ref qo), (4, .int 0)] [] := by
  have hE := h.1
  have hcs : cn ≤ room_1.cells ∧ sn ≤ room_1.slots := ⟨by show cn ≤ 600002; omega, by show sn ≤ 7302232; omega⟩
  have hcs2 : cn + 1 ≤ room_1.cells ∧ sn + 6 ≤ room_1.slots := ⟨hc, hs⟩
  refine n_aload_n hE 1 (dL_law_g25.2.2.2.2.1) rfl rfl ?_
  refine n_aload_n hE 0 (dL_law_g25.2.2.2.2.2.1) rfl rfl ?_
  refine n_iload hE 4 (dL_law_g25.2.2.2.2.2.2.1) rfl ?_
  refine n_iconst (v := 1) hE (dL_law_g25.2.2.2.2.2.2.2.1) (by decide) ?_
  refine l_iadd h (dL_law_g25.2.2.2.2.2.2.2.2.1) ?_
  refine l_sld h (vp_in_dec (by decide)) (dL_law_g25.2.2.2.2.2.2.2.2.2.1) ?_
  refine n_aload_n hE 0 (dL_law_g25.2.2.2.2.2.2.2.2.2.2.1) rfl rfl ?_
  refine n_iload hE 4 (dL_law_g25.2.2.2.2.2.2.2.2.2.2.2.1) rfl ?_
  refine n_iconst (v := 2) hE (dL_law_g25.2.2.2.2.2.2.2.2.2.2.2.2.1) (by decide) ?_
  refine l_iadd h (dL_law_g25.2.2.2.2.2.2.2.2.2.2.2.2.2.1) ?_
  refine l_sld h (vp_in_dec (by decide)) (dL_law_g25.2.2.2.2.2.2.2.2.2.2.2.2.2.2.1) ?_
  refine n_aload_n hE 3 (dL_law_g25.2.2.2.2.2.2.2.2.2.2.2.2.2.2.2) rfl rfl ?_
  refine l_callH (n' := 4) (maxL := 5) (hh := [(0, 17, 20, 13)]) (y := yL_same) (code := cL_same) h hz [.ref (Gc.1 200), .int (xs ((0 : Int32) + 1).toNatClampNeg), .int (xs ((0 : Int32) + 2).toNatClampNeg), .ref qo] (kL_same (el E) hl0 (eD E) (eA E) Gc cS0 _ qo (xs ((0 : Int32) + 1).toNatClampNeg) (xs ((0 : Int32) + 2).toNatClampNeg) hcc hA (tc_same (xs ((0 : Int32) + 1).toNatClampNeg) (xs ((0 : Int32) + 2).toNatClampNeg))) ⟨⟨gTb_7 (List.mem_of_getElem? (i := 130) rfl) rfl, gTb_1 (List.mem_of_getElem? (i := 0) rfl) rfl, gTb_7 (List.mem_of_getElem? (i := 128) rfl) rfl, gTb_7 (List.mem_of_getElem? (i := 129) rfl) rfl⟩, ⟨by decide +kernel, by decide +kernel⟩, by decide +kernel, by decide⟩ rfl rfl ⟨hc, hs⟩ (dL_law_g26.1) ?_
  refine n_istore hE [(5, .int 1), (0, .ref b), (1, .ref (Gc.1 200)), (2, .ref (Gm.1 0)), (3, .ref qo), (4, .int 0)] (dL_law_g26.2.1) h.2.2.2.2.2.2.2 (by decide) rfl ?_
  refine n_aload_n hE 3 (dL_law_g26.2.2.1) rfl rfl ?_
  refine n_aload_n hE 1 (dL_law_g26.2.2.2.1) rfl rfl ?_
  refine n_iload hE 5 (dL_law_g26.2.2.2.2.1) rfl ?_
  refine n_iconst (v := 1) hE (dL_law_g26.2.2.2.2.2.1) (by decide) ?_
  refine l_iadd h (dL_law_g26.2.2.2.2.2.2.1) ?_
  refine l_sld h (vp_in_dec (by decide)) (dL_law_g26.2.2.2.2.2.2.2.1) ?_
  refine n_aload_n hE 1 (dL_law_g26.2.2.2.2.2.2.2.2.1) rfl rfl ?_
  refine n_iload hE 5 (dL_law_g26.2.2.2.2.2.2.2.2.2.1) rfl ?_
  refine n_iconst (v := 2) hE (dL_law_g26.2.2.2.2.2.2.2.2.2.2.1) (by decide) ?_
  refine l_iadd h (dL_law_g26.2.2.2.2.2.2.2.2.2.2.2.1) ?_
  refine l_sld h (vp_in_dec (by decide)) (dL_law_g26.2.2.2.2.2.2.2.2.2.2.2.2.1) ?_
  refine l_callV (A1 := mFree Gm) (Z1 := gNo) hE [.int (xs ((0 : Int32) + 1).toNatClampNeg), .int (xs ((0 : Int32) + 2).toNatClampNeg)] [] (mCut (hcm _)) (gNo_ok _) (fun _ _ _ => trivial) gL_m_same (by rw [← hT]; exact km_same (D := eD E) (cl := gCl) rfl (tm_same (xs ((0 : Int32) + 1).toNatClampNeg) (xs ((0 : Int32) + 2).toNatClampNeg))) ⟨0, 11, mF Gm mS0, _, rfl, rfl, rfl⟩ (by decide) (by decide) hcs2 rfl rfl (by simp [Value.category]) (dL_law_g26.2.2.2.2.2.2.2.2.2.2.2.2.2.1) (fun ws2 rv hq => ?_)
  obtain ⟨σ1, rfl, r1, rfl, hq1⟩ := hq
  refine n_istore hE [(6, .int r1), (5, .int 1), (0, .ref b), (1, .ref (Gc.1 200)), (2, .ref (Gm.1 0)), (3, .ref qo), (4, .int 0)] (dL_law_g26.2.2.2.2.2.2.2.2.2.2.2.2.2.2.1) h.2.2.2.2.2.2.2 (by decide) rfl ?_
  refine n_aload_n hE 4 (dL_law_g26.2.2.2.2.2.2.2.2.2.2.2.2.2.2.2) rfl rfl ?_
  refine l_callV (A1 := mFree Gm) (Z1 := gNo) hE [] [] (mCut (hcm _)) (gNo_ok _) (fun _ _ _ => trivial) gL_m_thrown (by rw [← hT]; exact km_thrown (D := eD E) (cl := gCl) rfl (show wm_thrown (fun _ v => v = 1) σ1 from hq1)) ⟨0, 11, mF Gm σ1, _, rfl, rfl, rfl⟩ (by decide) (by decide) hcs2 rfl rfl (by simp [Value.category]) (dL_law_g27.1) (fun ws2 rv hq => ?_)
  obtain ⟨σ2, rfl, r2, rfl, rfl⟩ := hq
  refine n_iload hE 1 (dL_law_g27.2.1) rfl ?_
  refine l_icmp_eq h 749 (dL_law_g27.2.2.1) (by decide) ?_
  refine n_iload hE 1 (dL_law_g27.2.2.2.2.2.1) rfl ?_
  refine l_if_ne1 h 773 (dL_law_g27.2.2.2.2.2.2.1) (by decide) ?_
  refine l_goto h 1061 (dL_law_g28.2.2.2.1) (by decide) ?_
  refine l_pick [2, 3, 4, 5, 6] (L' := [(0, .ref b), (1, .ref (Gc.1 200)), (2, .ref (Gm.1 0)), (3, .ref qo), (4, .int 0)]) rfl ?_
  exact l_end h hc hs
theorem gL_c_print : gCalV RL 106 yX12_print cX12_print 1 (some .int) 0 := ⟨⟨gTb_6 (List.mem_of_getElem? (i := 94) rfl) rfl, gTb_6 (List.mem_of_getElem? (i := 97) rfl) rfl, gTb_1 (List.mem_of_getElem? (i := 1) rfl) rfl, ⟨by decide +kernel, by decide +kernel⟩, by decide +kernel, by decide⟩, gTb_6 (List.mem_of_getElem? (i := 95) rfl) rfl, gTb_6 (List.mem_of_getElem? (i := 96) rfl) rfl⟩
theorem gL_m_print : gCalV RL 109 yX13_print cX13_print 3 (some .int) 0 := ⟨⟨gTb_11 (List.mem_of_getElem? (i := 106) rfl) rfl, gTb_11 (List.mem_of_getElem? (i := 109) rfl) rfl, gTb_1 (List.mem_of_getElem? (i := 12) rfl) rfl, ⟨by decide +kernel, by decide +kernel⟩, by decide +kernel, by decide⟩, gTb_11 (List.mem_of_getElem? (i := 107) rfl) rfl, gTb_11 (List.mem_of_getElem? (i := 108) rfl) rfl⟩
set_option maxHeartbeats 4000000 in
theorem l_case15 {E : gEnv} {Gc Gm : gAd} {b qo : Nat} {xs : Nat → Int32} {cn sn : Nat} (hl0 : (el E).stackTraces = false) (hT : Gm.2 = Gc.2) (h : lOK E Gc.2 b 6 xs) (hz : zAll Gc (eA E) (es E)) (hA : ∀ q, cFree Gc q → eA E q) (hcc : ∀ k, 200 ≤ k → k < 1400 → ∃ (i : Nat) (e : va_E), (cW Gc cS0)[i]? = some (Gc.1 k, e)) (hcm : ∀ (σ : MS) (k : Nat), ∃ (i : Nat) (e : va_E), (mW Gm σ)[i]? = some (Gm.1 k, e)) (hc : cn + 1 ≤ 600002) (hs : sn + 6 ≤ 7302232) : NW E (cW Gc cS0 ++ (mW Gm mS0 ++ [(qo, .inl (Gc.2 1, 1, .inr (.inl (fun _ => 0))))])) cn sn 776 [(0, .ref b), (1, .ref (Gc.1 200)), (2, .ref (Gm.1 0)), (3, .ref qo), (4, .int 0)] [] := by
  have hE := h.1
  have hcs : cn ≤ room_1.cells ∧ sn ≤ room_1.slots := ⟨by show cn ≤ 600002; omega, by show sn ≤ 7302232; omega⟩
  obtain ⟨r0, hwc, hwm⟩ := st_print
  refine n_aload_n hE 1 (dL_law_g28.2.2.2.2.1) rfl rfl ?_
  refine l_callV hE [] [] (cCut hcc) (cZ_ok Gc) (zAll_at hz hA) gL_c_print (kc_ft_print (D := eD E) hwc) ⟨0, 10, cF_ft Gc cS0, _, rfl, rfl, rfl⟩ (by decide) (by decide) hcs rfl rfl (by simp [Value.category]) (dL_law_g28.2.2.2.2.2.1) (fun ws1 rv hq => ?_)
  obtain ⟨σ1, rfl, r1, rfl, rfl⟩ := hq
  refine n_drop ?_
  show NW E (mW Gm mS0 ++ [(qo, .inl (Gc.2 1, 1, .inr (.inl (fun _ => 0))))]) cn sn 780 _ (.int r1 :: [])
  refine n_aload_n hE 2 (dL_law_g28.2.2.2.2.2.2.1) rfl rfl ?_
  refine l_callV (A1 := mFree Gm) (Z1 := gNo) hE [] [.int r1] (mCut (hcm _)) (gNo_ok _) (fun _ _ _ => trivial) gL_m_print (by rw [← hT]; exact km_print (D := eD E) (cl := gCl) rfl hwm) ⟨0, 11, mF Gm mS0, _, rfl, rfl, rfl⟩ (by decide) (by decide) hcs rfl rfl (by simp [Value.category]) (dL_law_g28.2.2.2.2.2.2.2.1) (fun ws2 rv hq => ?_)
  obtain ⟨σ2, rfl, r2, rfl, rfl⟩ := hq
  refine l_icmp_eq h 1061 (dL_law_g28.2.2.2.2.2.2.2.2.1) (by decide) ?_
  exact l_end h (by omega) (by omega)
theorem gL_m_write : gCalV RL 112 yX13_write cX13_write 6 (some .int) 1 := ⟨⟨gTb_11 (List.mem_of_getElem? (i := 166) rfl) rfl, gTb_11 (List.mem_of_getElem? (i := 169) rfl) rfl, gTb_1 (List.mem_of_getElem? (i := 12) rfl) rfl, ⟨by decide +kernel, by decide +kernel⟩, by decide +kernel, by decide⟩, gTb_11 (List.mem_of_getElem? (i := 167) rfl) rfl, gTb_11 (List.mem_of_getElem? (i := 168) rfl) rfl⟩
set_option maxHeartbeats 4000000 in
theorem l_case16 {E : gEnv} {Gc Gm : gAd} {b qo : Nat} {xs : Nat → Int32} {cn sn : Nat} (hl0 : (el E).stackTraces = false) (hT : Gm.2 = Gc.2) (h : lOK E Gc.2 b 6 xs) (hz : zAll Gc (eA E) (es E)) (hA : ∀ q, cFree Gc q → eA E q) (hcc : ∀ k, 200 ≤ k → k < 1400 → ∃ (i : Nat) (e : va_E), (cW Gc cS0)[i]? = some (Gc.1 k, e)) (hcm : ∀ (σ : MS) (k : Nat), ∃ (i : Nat) (e : va_E), (mW Gm σ)[i]? = some (Gm.1 k, e)) (hc : cn + 1 ≤ 600002) (hs : sn + 6 ≤ 7302232) : NW E (cW Gc cS0 ++ (mW Gm mS0 ++ [(qo, .inl (Gc.2 1, 1, .inr (.inl (fun _ => 0))))])) cn sn 789 [(0, .ref b), (1, .ref (Gc.1 200)), (2, .ref (Gm.1 0)), (3, .ref qo), (4, .int 0)] [] := by
  have hE := h.1
  have hcs : cn ≤ room_1.cells ∧ sn ≤ room_1.slots := ⟨by show cn ≤ 600002; omega, by show sn ≤ 7302232; omega⟩
  have hcs2 : cn + 1 ≤ room_1.cells ∧ sn + 6 ≤ room_1.slots := ⟨hc, hs⟩
  refine n_aload_n hE 1 (dL_law_g28.2.2.2.2.2.2.2.2.2.2.2.1) rfl rfl ?_
  refine n_aload_n hE 0 (dL_law_g28.2.2.2.2.2.2.2.2.2.2.2.2.1) rfl rfl ?_
  refine n_iload hE 4 (dL_law_g28.2.2.2.2.2.2.2.2.2.2.2.2.2.1) rfl ?_
  refine n_iconst (v := 1) hE (dL_law_g28.2.2.2.2.2.2.2.2.2.2.2.2.2.2.1) (by decide) ?_
  refine l_iadd h (dL_law_g28.2.2.2.2.2.2.2.2.2.2.2.2.2.2.2) ?_
  refine l_sld h (vp_in_dec (by decide)) (dL_law_g29.1) ?_
  refine n_aload_n hE 3 (dL_law_g29.2.1) rfl rfl ?_
  refine l_callH (n' := 3) (maxL := 4) (hh := [(0, 9, 12, 13)]) (y := yL_write) (code := cL_write) h hz [.ref (Gc.1 200), .int (xs ((0 : Int32) + 1).toNatClampNeg), .ref qo] (kL_write (el E) hl0 (eD E) (eA E) Gc cS0 _ qo (xs ((0 : Int32) + 1).toNatClampNeg) hcc hA (tc_write (xs ((0 : Int32) + 1).toNatClampNeg))) ⟨⟨gTb_7 (List.mem_of_getElem? (i := 138) rfl) rfl, gTb_1 (List.mem_of_getElem? (i := 0) rfl) rfl, gTb_7 (List.mem_of_getElem? (i := 136) rfl) rfl, gTb_7 (List.mem_of_getElem? (i := 137) rfl) rfl⟩, ⟨by decide +kernel, by decide +kernel⟩, by decide +kernel, by decide⟩ rfl rfl ⟨hc, hs⟩ (dL_law_g29.2.2.1) ?_
  refine n_istore hE [(5, .int 1), (0, .ref b), (1, .ref (Gc.1 200)), (2, .ref (Gm.1 0)), (3, .ref qo), (4, .int 0)] (dL_law_g29.2.2.2.1) h.2.2.2.2.2.2.2 (by decide) rfl ?_
  refine n_aload_n hE 3 (dL_law_g29.2.2.2.2.1) rfl rfl ?_
  refine n_aload_n hE 1 (dL_law_g29.2.2.2.2.2.1) rfl rfl ?_
  refine n_iload hE 5 (dL_law_g29.2.2.2.2.2.2.1) rfl ?_
  refine n_iconst (v := 1) hE (dL_law_g29.2.2.2.2.2.2.2.1) (by decide) ?_
  refine l_iadd h (dL_law_g29.2.2.2.2.2.2.2.2.1) ?_
  refine l_sld h (vp_in_dec (by decide)) (dL_law_g29.2.2.2.2.2.2.2.2.2.1) ?_
  refine l_callV (A1 := mFree Gm) (Z1 := gNo) hE [.int (xs ((0 : Int32) + 1).toNatClampNeg)] [] (mCut (hcm _)) (gNo_ok _) (fun _ _ _ => trivial) gL_m_write (by rw [← hT]; exact km_write (D := eD E) (cl := gCl) rfl (tm_write (xs ((0 : Int32) + 1).toNatClampNeg))) ⟨0, 11, mF Gm mS0, _, rfl, rfl, rfl⟩ (by decide) (by decide) hcs2 rfl rfl (by simp [Value.category]) (dL_law_g29.2.2.2.2.2.2.2.2.2.2.1) (fun ws2 rv hq => ?_)
  obtain ⟨σ1, rfl, r1, rfl, hq1⟩ := hq
  refine n_istore hE [(6, .int r1), (5, .int 1), (0, .ref b), (1, .ref (Gc.1 200)), (2, .ref (Gm.1 0)), (3, .ref qo), (4, .int 0)] (dL_law_g29.2.2.2.2.2.2.2.2.2.2.2.1) h.2.2.2.2.2.2.2 (by decide) rfl ?_
  refine n_aload_n hE 4 (dL_law_g29.2.2.2.2.2.2.2.2.2.2.2.2.1) rfl rfl ?_
  refine l_callV (A1 := mFree Gm) (Z1 := gNo) hE [] [] (mCut (hcm _)) (gNo_ok _) (fun _ _ _ => trivial) gL_m_thrown (by rw [← hT]; exact km_thrown (D := eD E) (cl := gCl) rfl (show wm_thrown (fun _ v => v = 1) σ1 from hq1)) ⟨0, 11, mF Gm σ1, _, rfl, rfl, rfl⟩ (by decide) (by decide) hcs2 rfl rfl (by simp [Value.category]) (dL_law_g29.2.2.2.2.2.2.2.2.2.2.2.2.2.1) (fun ws2 rv hq => ?_)
  obtain ⟨σ2, rfl, r2, rfl, rfl⟩ := hq
  refine n_iload hE 1 (dL_law_g29.2.2.2.2.2.2.2.2.2.2.2.2.2.2.1) rfl ?_
  refine l_icmp_eq h 825 (dL_law_g29.2.2.2.2.2.2.2.2.2.2.2.2.2.2.2) (by decide) ?_
  refine n_iload hE 1 (dL_law_g30.2.2.1) rfl ?_
  refine l_if_ne1 h 842 (dL_law_g30.2.2.2.1) (by decide) ?_
  refine l_goto h 1061 (dL_law_g30.2.2.2.2.2.2.2.2.2.2.2.2.2.1) (by decide) ?_
  refine l_pick [2, 3, 4, 5, 6] (L' := [(0, .ref b), (1, .ref (Gc.1 200)), (2, .ref (Gm.1 0)), (3, .ref qo), (4, .int 0)]) rfl ?_
  exact l_end h hc hs
theorem gL_m_out : gCalV RL 115 yX13_out cX13_out 2 (some .int) 1 := ⟨⟨gTb_11 (List.mem_of_getElem? (i := 174) rfl) rfl, gTb_11 (List.mem_of_getElem? (i := 177) rfl) rfl, gTb_1 (List.mem_of_getElem? (i := 12) rfl) rfl, ⟨by decide +kernel, by decide +kernel⟩, by decide +kernel, by decide⟩, gTb_11 (List.mem_of_getElem? (i := 175) rfl) rfl, gTb_11 (List.mem_of_getElem? (i := 176) rfl) rfl⟩
set_option maxHeartbeats 4000000 in
theorem l_case17 {E : gEnv} {Gc Gm : gAd} {b qo : Nat} {xs : Nat → Int32} {cn sn : Nat} (hl0 : (el E).stackTraces = false) (hT : Gm.2 = Gc.2) (h : lOK E Gc.2 b 6 xs) (hz : zAll Gc (eA E) (es E)) (hA : ∀ q, cFree Gc q → eA E q) (hcc : ∀ k, 200 ≤ k → k < 1400 → ∃ (i : Nat) (e : va_E), (cW Gc cS0)[i]? = some (Gc.1 k, e)) (hcm : ∀ (σ : MS) (k : Nat), ∃ (i : Nat) (e : va_E), (mW Gm σ)[i]? = some (Gm.1 k, e)) (hc : cn + 1 ≤ 600002) (hs : sn + 6 ≤ 7302232) : NW E (cW Gc cS0 ++ (mW Gm mS0 ++ [(qo, .inl (Gc.2 1, 1, .inr (.inl (fun _ => 0))))])) cn sn 845 [(0, .ref b), (1, .ref (Gc.1 200)), (2, .ref (Gm.1 0)), (3, .ref qo), (4, .int 0)] [] := by
  have hE := h.1
  have hcs : cn ≤ room_1.cells ∧ sn ≤ room_1.slots := ⟨by show cn ≤ 600002; omega, by show sn ≤ 7302232; omega⟩
  have hcs2 : cn + 1 ≤ room_1.cells ∧ sn + 6 ≤ room_1.slots := ⟨hc, hs⟩
  refine n_aload_n hE 1 (dL_law_g30.2.2.2.2.2.2.2.2.2.2.2.2.2.2.1) rfl rfl ?_
  refine n_aload_n hE 0 (dL_law_g30.2.2.2.2.2.2.2.2.2.2.2.2.2.2.2) rfl rfl ?_
  refine n_iload hE 4 (dL_law_g31.1) rfl ?_
  refine n_iconst (v := 1) hE (dL_law_g31.2.1) (by decide) ?_
  refine l_iadd h (dL_law_g31.2.2.1) ?_
  refine l_sld h (vp_in_dec (by decide)) (dL_law_g31.2.2.2.1) ?_
  refine n_aload_n hE 3 (dL_law_g31.2.2.2.2.1) rfl rfl ?_
  refine l_callH (n' := 3) (maxL := 4) (hh := [(0, 9, 12, 13)]) (y := yL_out) (code := cL_out) h hz [.ref (Gc.1 200), .int (xs ((0 : Int32) + 1).toNatClampNeg), .ref qo] (kL_out (el E) hl0 (eD E) (eA E) Gc cS0 _ qo (xs ((0 : Int32) + 1).toNatClampNeg) hcc hA (tc_out (xs ((0 : Int32) + 1).toNatClampNeg))) ⟨⟨gTb_7 (List.mem_of_getElem? (i := 160) rfl) rfl, gTb_1 (List.mem_of_getElem? (i := 0) rfl) rfl, gTb_7 (List.mem_of_getElem? (i := 158) rfl) rfl, gTb_7 (List.mem_of_getElem? (i := 159) rfl) rfl⟩, ⟨by decide +kernel, by decide +kernel⟩, by decide +kernel, by decide⟩ rfl rfl ⟨hc, hs⟩ (dL_law_g31.2.2.2.2.2.1) ?_
  refine n_istore hE [(5, .int 1), (0, .ref b), (1, .ref (Gc.1 200)), (2, .ref (Gm.1 0)), (3, .ref qo), (4, .int 0)] (dL_law_g31.2.2.2.2.2.2.1) h.2.2.2.2.2.2.2 (by decide) rfl ?_
  refine n_aload_n hE 3 (dL_law_g31.2.2.2.2.2.2.2.1) rfl rfl ?_
  refine n_aload_n hE 1 (dL_law_g31.2.2.2.2.2.2.2.2.1) rfl rfl ?_
  refine n_iload hE 5 (dL_law_g31.2.2.2.2.2.2.2.2.2.1) rfl ?_
  refine n_iconst (v := 1) hE (dL_law_g31.2.2.2.2.2.2.2.2.2.2.1) (by decide) ?_
  refine l_iadd h (dL_law_g31.2.2.2.2.2.2.2.2.2.2.2.1) ?_
  refine l_sld h (vp_in_dec (by decide)) (dL_law_g31.2.2.2.2.2.2.2.2.2.2.2.2.1) ?_
  refine l_callV (A1 := mFree Gm) (Z1 := gNo) hE [.int (xs ((0 : Int32) + 1).toNatClampNeg)] [] (mCut (hcm _)) (gNo_ok _) (fun _ _ _ => trivial) gL_m_out (by rw [← hT]; exact km_out (D := eD E) (cl := gCl) rfl (tm_out (xs ((0 : Int32) + 1).toNatClampNeg))) ⟨0, 11, mF Gm mS0, _, rfl, rfl, rfl⟩ (by decide) (by decide) hcs2 rfl rfl (by simp [Value.category]) (dL_law_g31.2.2.2.2.2.2.2.2.2.2.2.2.2.1) (fun ws2 rv hq => ?_)
  obtain ⟨σ1, rfl, r1, rfl, hq1⟩ := hq
  refine n_istore hE [(6, .int r1), (5, .int 1), (0, .ref b), (1, .ref (Gc.1 200)), (2, .ref (Gm.1 0)), (3, .ref qo), (4, .int 0)] (dL_law_g31.2.2.2.2.2.2.2.2.2.2.2.2.2.2.1) h.2.2.2.2.2.2.2 (by decide) rfl ?_
  refine n_aload_n hE 4 (dL_law_g31.2.2.2.2.2.2.2.2.2.2.2.2.2.2.2) rfl rfl ?_
  refine l_callV (A1 := mFree Gm) (Z1 := gNo) hE [] [] (mCut (hcm _)) (gNo_ok _) (fun _ _ _ => trivial) gL_m_thrown (by rw [← hT]; exact km_thrown (D := eD E) (cl := gCl) rfl (show wm_thrown (fun _ v => v = 1) σ1 from hq1)) ⟨0, 11, mF Gm σ1, _, rfl, rfl, rfl⟩ (by decide) (by decide) hcs2 rfl rfl (by simp [Value.category]) (dL_law_g32.1) (fun ws2 rv hq => ?_)
  obtain ⟨σ2, rfl, r2, rfl, rfl⟩ := hq
  refine n_iload hE 1 (dL_law_g32.2.1) rfl ?_
  refine l_icmp_eq h 881 (dL_law_g32.2.2.1) (by decide) ?_
  refine n_iload hE 1 (dL_law_g32.2.2.2.2.2.1) rfl ?_
  refine l_if_ne1 h 898 (dL_law_g32.2.2.2.2.2.2.1) (by decide) ?_
  refine l_goto h 1061 (dL_law_g33.1) (by decide) ?_
  refine l_pick [2, 3, 4, 5, 6] (L' := [(0, .ref b), (1, .ref (Gc.1 200)), (2, .ref (Gm.1 0)), (3, .ref qo), (4, .int 0)]) rfl ?_
  exact l_end h hc hs
theorem gL_c_back : gCalV RL 116 yX12_back cX12_back 1 (some .int) 0 := ⟨⟨gTb_6 (List.mem_of_getElem? (i := 210) rfl) rfl, gTb_6 (List.mem_of_getElem? (i := 213) rfl) rfl, gTb_1 (List.mem_of_getElem? (i := 1) rfl) rfl, ⟨by decide +kernel, by decide +kernel⟩, by decide +kernel, by decide⟩, gTb_6 (List.mem_of_getElem? (i := 211) rfl) rfl, gTb_6 (List.mem_of_getElem? (i := 212) rfl) rfl⟩
theorem gL_m_back : gCalV RL 119 yX13_back cX13_back 2 (some .int) 0 := ⟨⟨gTb_11 (List.mem_of_getElem? (i := 178) rfl) rfl, gTb_11 (List.mem_of_getElem? (i := 181) rfl) rfl, gTb_1 (List.mem_of_getElem? (i := 12) rfl) rfl, ⟨by decide +kernel, by decide +kernel⟩, by decide +kernel, by decide⟩, gTb_11 (List.mem_of_getElem? (i := 179) rfl) rfl, gTb_11 (List.mem_of_getElem? (i := 180) rfl) rfl⟩
set_option maxHeartbeats 4000000 in
theorem l_case18 {E : gEnv} {Gc Gm : gAd} {b qo : Nat} {xs : Nat → Int32} {cn sn : Nat} (hl0 : (el E).stackTraces = false) (hT : Gm.2 = Gc.2) (h : lOK E Gc.2 b 6 xs) (hz : zAll Gc (eA E) (es E)) (hA : ∀ q, cFree Gc q → eA E q) (hcc : ∀ k, 200 ≤ k → k < 1400 → ∃ (i : Nat) (e : va_E), (cW Gc cS0)[i]? = some (Gc.1 k, e)) (hcm : ∀ (σ : MS) (k : Nat), ∃ (i : Nat) (e : va_E), (mW Gm σ)[i]? = some (Gm.1 k, e)) (hc : cn + 1 ≤ 600002) (hs : sn + 6 ≤ 7302232) : NW E (cW Gc cS0 ++ (mW Gm mS0 ++ [(qo, .inl (Gc.2 1, 1, .inr (.inl (fun _ => 0))))])) cn sn 901 [(0, .ref b), (1, .ref (Gc.1 200)), (2, .ref (Gm.1 0)), (3, .ref qo), (4, .int 0)] [] := by
  have hE := h.1
  have hcs : cn ≤ room_1.cells ∧ sn ≤ room_1.slots := ⟨by show cn ≤ 600002; omega, by show sn ≤ 7302232; omega⟩
  obtain ⟨r0, hwc, hwm⟩ := st_back
  refine n_aload_n hE 1 (dL_law_g33.2.1) rfl rfl ?_
  refine l_callV hE [] [] (cCut hcc) (cZ_ok Gc) (zAll_at hz hA) gL_c_back (kc_ft_back (D := eD E) hwc) ⟨0, 10, cF_ft Gc cS0, _, rfl, rfl, rfl⟩ (by decide) (by decide) hcs rfl rfl (by simp [Value.category]) (dL_law_g33.2.2.1) (fun ws1 rv hq => ?_)
  obtain ⟨σ1, rfl, r1, rfl, rfl⟩ := hq
  refine n_drop ?_
  show NW E (mW Gm mS0 ++ [(qo, .inl (Gc.2 1, 1, .inr (.inl (fun _ => 0))))]) cn sn 905 _ (.int r1 :: [])
  refine n_aload_n hE 2 (dL_law_g33.2.2.2.1) rfl rfl ?_
  refine l_callV (A1 := mFree Gm) (Z1 := gNo) hE [] [.int r1] (mCut (hcm _)) (gNo_ok _) (fun _ _ _ => trivial) gL_m_back (by rw [← hT]; exact km_back (D := eD E) (cl := gCl) rfl hwm) ⟨0, 11, mF Gm mS0, _, rfl, rfl, rfl⟩ (by decide) (by decide) hcs rfl rfl (by simp [Value.category]) (dL_law_g33.2.2.2.2.1) (fun ws2 rv hq => ?_)
  obtain ⟨σ2, rfl, r2, rfl, rfl⟩ := hq
  refine l_icmp_eq h 1061 (dL_law_g33.2.2.2.2.2.1) (by decide) ?_
  exact l_end h (by omega) (by omega)
theorem gL_c_sweep : gCalV RL 120 yX12_sweep cX12_sweep 12 (some .int) 5 := ⟨⟨gTb_6 (List.mem_of_getElem? (i := 215) rfl) rfl, gTb_6 (List.mem_of_getElem? (i := 218) rfl) rfl, gTb_1 (List.mem_of_getElem? (i := 1) rfl) rfl, ⟨by decide +kernel, by decide +kernel⟩, by decide +kernel, by decide⟩, gTb_6 (List.mem_of_getElem? (i := 216) rfl) rfl, gTb_6 (List.mem_of_getElem? (i := 217) rfl) rfl⟩
theorem gL_m_sweep : gCalV RL 123 yX13_sweep cX13_sweep 8 (some .int) 5 := ⟨⟨gTb_11 (List.mem_of_getElem? (i := 182) rfl) rfl, gTb_11 (List.mem_of_getElem? (i := 185) rfl) rfl, gTb_1 (List.mem_of_getElem? (i := 12) rfl) rfl, ⟨by decide +kernel, by decide +kernel⟩, by decide +kernel, by decide⟩, gTb_11 (List.mem_of_getElem? (i := 183) rfl) rfl, gTb_11 (List.mem_of_getElem? (i := 184) rfl) rfl⟩
set_option maxHeartbeats 4000000 in
theorem l_case19 {E : gEnv} {Gc Gm : gAd} {b qo : Nat} {xs : Nat → Int32} {cn sn : Nat} (hl0 : (el E).stackTraces = false) (hT : Gm.2 = Gc.2) (h : lOK E Gc.2 b 6 xs) (hz : zAll Gc (eA E) (es E)) (hA : ∀ q, cFree Gc q → eA E q) (hcc : ∀ k, 200 ≤ k → k < 1400 → ∃ (i : Nat) (e : va_E), (cW Gc cS0)[i]? = some (Gc.1 k, e)) (hcm : ∀ (σ : MS) (k : Nat), ∃ (i : Nat) (e : va_E), (mW Gm σ)[i]? = some (Gm.1 k, e)) (hc : cn + 1 ≤ 600002) (hs : sn + 6 ≤ 7302232) : NW E (cW Gc cS0 ++ (mW Gm mS0 ++ [(qo, .inl (Gc.2 1, 1, .inr (.inl (fun _ => 0))))])) cn sn 914 [(0, .ref b), (1, .ref (Gc.1 200)), (2, .ref (Gm.1 0)), (3, .ref qo), (4, .int 0)] [] := by
  have hE := h.1
  have hcs : cn ≤ room_1.cells ∧ sn ≤ room_1.slots := ⟨by show cn ≤ 600002; omega, by show sn ≤ 7302232; omega⟩
  obtain ⟨r0, hwc, hwm⟩ := st_sweep (xs ((0 : Int32) + 1).toNatClampNeg) (xs ((0 : Int32) + 2).toNatClampNeg) (xs ((0 : Int32) + 3).toNatClampNeg) (xs ((0 : Int32) + 4).toNatClampNeg) (xs ((0 : Int32) + 5).toNatClampNeg)
  refine n_aload_n hE 1 (dL_law_g33.2.2.2.2.2.2.2.2.1) rfl rfl ?_
  refine n_aload_n hE 0 (dL_law_g33.2.2.2.2.2.2.2.2.2.1) rfl rfl ?_
  refine n_iload hE 4 (dL_law_g33.2.2.2.2.2.2.2.2.2.2.1) rfl ?_
  refine n_iconst (v := 1) hE (dL_law_g33.2.2.2.2.2.2.2.2.2.2.2.1) (by decide) ?_
  refine l_iadd h (dL_law_g33.2.2.2.2.2.2.2.2.2.2.2.2.1) ?_
  refine l_sld h (vp_in_dec (by decide)) (dL_law_g33.2.2.2.2.2.2.2.2.2.2.2.2.2.1) ?_
  refine n_aload_n hE 0 (dL_law_g33.2.2.2.2.2.2.2.2.2.2.2.2.2.2.1) rfl rfl ?_
  refine n_iload hE 4 (dL_law_g33.2.2.2.2.2.2.2.2.2.2.2.2.2.2.2) rfl ?_
  refine n_iconst (v := 2) hE (dL_law_g34.1) (by decide) ?_
  refine l_iadd h (dL_law_g34.2.1) ?_
  refine l_sld h (vp_in_dec (by decide)) (dL_law_g34.2.2.1) ?_
  refine n_aload_n hE 0 (dL_law_g34.2.2.2.1) rfl rfl ?_
  refine n_iload hE 4 (dL_law_g34.2.2.2.2.1) rfl ?_
  refine n_iconst (v := 3) hE (dL_law_g34.2.2.2.2.2.1) (by decide) ?_
  refine l_iadd h (dL_law_g34.2.2.2.2.2.2.1) ?_
  refine l_sld h (vp_in_dec (by decide)) (dL_law_g34.2.2.2.2.2.2.2.1) ?_
  refine n_aload_n hE 0 (dL_law_g34.2.2.2.2.2.2.2.2.1) rfl rfl ?_
  refine n_iload hE 4 (dL_law_g34.2.2.2.2.2.2.2.2.2.1) rfl ?_
  refine n_iconst (v := 4) hE (dL_law_g34.2.2.2.2.2.2.2.2.2.2.1) (by decide) ?_
  refine l_iadd h (dL_law_g34.2.2.2.2.2.2.2.2.2.2.2.1) ?_
  refine l_sld h (vp_in_dec (by decide)) (dL_law_g34.2.2.2.2.2.2.2.2.2.2.2.2.1) ?_
  refine n_aload_n hE 0 (dL_law_g34.2.2.2.2.2.2.2.2.2.2.2.2.2.1) rfl rfl ?_
  refine n_iload hE 4 (dL_law_g34.2.2.2.2.2.2.2.2.2.2.2.2.2.2.1) rfl ?_
  refine n_iconst (v := 5) hE (dL_law_g34.2.2.2.2.2.2.2.2.2.2.2.2.2.2.2) (by decide) ?_
  refine l_iadd h (dL_law_g35.1) ?_
  refine l_sld h (vp_in_dec (by decide)) (dL_law_g35.2.1) ?_
  refine l_callV hE [.int (xs ((0 : Int32) + 1).toNatClampNeg), .int (xs ((0 : Int32) + 2).toNatClampNeg), .int (xs ((0 : Int32) + 3).toNatClampNeg), .int (xs ((0 : Int32) + 4).toNatClampNeg), .int (xs ((0 : Int32) + 5).toNatClampNeg)] [] (cCut hcc) (cZ_ok Gc) (zAll_at hz hA) gL_c_sweep (kc_ft_sweep (D := eD E) hwc) ⟨0, 10, cF_ft Gc cS0, _, rfl, rfl, rfl⟩ (by decide) (by decide) hcs rfl rfl (by simp [Value.category]) (dL_law_g35.2.2.1) (fun ws1 rv hq => ?_)
  obtain ⟨σ1, rfl, r1, rfl, rfl⟩ := hq
  refine n_drop ?_
  show NW E (mW Gm mS0 ++ [(qo, .inl (Gc.2 1, 1, .inr (.inl (fun _ => 0))))]) cn sn 948 _ (.int r1 :: [])
  refine n_aload_n hE 2 (dL_law_g35.2.2.2.1) rfl rfl ?_
  refine n_aload_n hE 0 (dL_law_g35.2.2.2.2.1) rfl rfl ?_
  refine n_iload hE 4 (dL_law_g35.2.2.2.2.2.1) rfl ?_
  refine n_iconst (v := 1) hE (dL_law_g35.2.2.2.2.2.2.1) (by decide) ?_
  refine l_iadd h (dL_law_g35.2.2.2.2.2.2.2.1) ?_
  refine l_sld h (vp_in_dec (by decide)) (dL_law_g35.2.2.2.2.2.2.2.2.1) ?_
  refine n_aload_n hE 0 (dL_law_g35.2.2.2.2.2.2.2.2.2.1) rfl rfl ?_
  refine n_iload hE 4 (dL_law_g35.2.2.2.2.2.2.2.2.2.2.1) rfl ?_
  refine n_iconst (v := 2) hE (dL_law_g35.2.2.2.2.2.2.2.2.2.2.2.1) (by decide) ?_
  refine l_iadd h (dL_law_g35.2.2.2.2.2.2.2.2.2.2.2.2.1) ?_
  refine l_sld h (vp_in_dec (by decide)) (dL_law_g35.2.2.2.2.2.2.2.2.2.2.2.2.2.1) ?_
  refine n_aload_n hE 0 (dL_law_g35.2.2.2.2.2.2.2.2.2.2.2.2.2.2.1) rfl rfl ?_
  refine n_iload hE 4 (dL_law_g35.2.2.2.2.2.2.2.2.2.2.2.2.2.2.2) rfl ?_
  refine n_iconst (v := 3) hE (dL_law_g36.1) (by decide) ?_
  refine l_iadd h (dL_law_g36.2.1) ?_
  refine l_sld h (vp_in_dec (by decide)) (dL_law_g36.2.2.1) ?_
  refine n_aload_n hE 0 (dL_law_g36.2.2.2.1) rfl rfl ?_
  refine n_iload hE 4 (dL_law_g36.2.2.2.2.1) rfl ?_
  refine n_iconst (v := 4) hE (dL_law_g36.2.2.2.2.2.1) (by decide) ?_
  refine l_iadd h (dL_law_g36.2.2.2.2.2.2.1) ?_
  refine l_sld h (vp_in_dec (by decide)) (dL_law_g36.2.2.2.2.2.2.2.1) ?_
  refine n_aload_n hE 0 (dL_law_g36.2.2.2.2.2.2.2.2.1) rfl rfl ?_
  refine n_iload hE 4 (dL_law_g36.2.2.2.2.2.2.2.2.2.1) rfl ?_
  refine n_iconst (v := 5) hE (dL_law_g36.2.2.2.2.2.2.2.2.2.2.1) (by decide) ?_
  refine l_iadd h (dL_law_g36.2.2.2.2.2.2.2.2.2.2.2.1) ?_
  refine l_sld h (vp_in_dec (by decide)) (dL_law_g36.2.2.2.2.2.2.2.2.2.2.2.2.1) ?_
  refine l_callV (A1 := mFree Gm) (Z1 := gNo) hE [.int (xs ((0 : Int32) + 1).toNatClampNeg), .int (xs ((0 : Int32) + 2).toNatClampNeg), .int (xs ((0 : Int32) + 3).toNatClampNeg), .int (xs ((0 : Int32) + 4).toNatClampNeg), .int (xs ((0 : Int32) + 5).toNatClampNeg)] [.int r1] (mCut (hcm _)) (gNo_ok _) (fun _ _ _ => trivial) gL_m_sweep (by rw [← hT]; exact km_sweep (D := eD E) (cl := gCl) rfl hwm) ⟨0, 11, mF Gm mS0, _, rfl, rfl, rfl⟩ (by decide) (by decide) hcs rfl rfl (by simp [Value.category]) (dL_law_g36.2.2.2.2.2.2.2.2.2.2.2.2.2.1) (fun ws2 rv hq => ?_)
  obtain ⟨σ2, rfl, r2, rfl, rfl⟩ := hq
  refine l_icmp_eq h 1061 (dL_law_g36.2.2.2.2.2.2.2.2.2.2.2.2.2.2.1) (by decide) ?_
  exact l_end h (by omega) (by omega)
theorem gL_c_swept : gCalV RL 124 yX12_swept cX12_swept 2 (some .int) 1 := ⟨⟨gTb_7 (List.mem_of_getElem? (i := 8) rfl) rfl, gTb_7 (List.mem_of_getElem? (i := 11) rfl) rfl, gTb_1 (List.mem_of_getElem? (i := 1) rfl) rfl, ⟨by decide +kernel, by decide +kernel⟩, by decide +kernel, by decide⟩, gTb_7 (List.mem_of_getElem? (i := 9) rfl) rfl, gTb_7 (List.mem_of_getElem? (i := 10) rfl) rfl⟩
theorem gL_m_swept : gCalV RL 127 yX13_swept cX13_swept 2 (some .int) 1 := ⟨⟨gTb_11 (List.mem_of_getElem? (i := 199) rfl) rfl, gTb_11 (List.mem_of_getElem? (i := 202) rfl) rfl, gTb_1 (List.mem_of_getElem? (i := 12) rfl) rfl, ⟨by decide +kernel, by decide +kernel⟩, by decide +kernel, by decide⟩, gTb_11 (List.mem_of_getElem? (i := 200) rfl) rfl, gTb_11 (List.mem_of_getElem? (i := 201) rfl) rfl⟩
set_option maxHeartbeats 4000000 in
theorem l_case20 {E : gEnv} {Gc Gm : gAd} {b qo : Nat} {xs : Nat → Int32} {cn sn : Nat} (hl0 : (el E).stackTraces = false) (hT : Gm.2 = Gc.2) (h : lOK E Gc.2 b 6 xs) (hz : zAll Gc (eA E) (es E)) (hA : ∀ q, cFree Gc q → eA E q) (hcc : ∀ k, 200 ≤ k → k < 1400 → ∃ (i : Nat) (e : va_E), (cW Gc cS0)[i]? = some (Gc.1 k, e)) (hcm : ∀ (σ : MS) (k : Nat), ∃ (i : Nat) (e : va_E), (mW Gm σ)[i]? = some (Gm.1 k, e)) (hc : cn + 1 ≤ 600002) (hs : sn + 6 ≤ 7302232) : NW E (cW Gc cS0 ++ (mW Gm mS0 ++ [(qo, .inl (Gc.2 1, 1, .inr (.inl (fun _ => 0))))])) cn sn 987 [(0, .ref b), (1, .ref (Gc.1 200)), (2, .ref (Gm.1 0)), (3, .ref qo), (4, .int 0)] [] := by
  have hE := h.1
  have hcs : cn ≤ room_1.cells ∧ sn ≤ room_1.slots := ⟨by show cn ≤ 600002; omega, by show sn ≤ 7302232; omega⟩
  obtain ⟨r0, hwc, hwm⟩ := st_swept (xs ((0 : Int32) + 1).toNatClampNeg)
  refine n_aload_n hE 1 (dL_law_g37.2.1) rfl rfl ?_
  refine n_aload_n hE 0 (dL_law_g37.2.2.1) rfl rfl ?_
  refine n_iload hE 4 (dL_law_g37.2.2.2.1) rfl ?_
  refine n_iconst (v := 1) hE (dL_law_g37.2.2.2.2.1) (by decide) ?_
  refine l_iadd h (dL_law_g37.2.2.2.2.2.1) ?_
  refine l_sld h (vp_in_dec (by decide)) (dL_law_g37.2.2.2.2.2.2.1) ?_
  refine l_callV hE [.int (xs ((0 : Int32) + 1).toNatClampNeg)] [] (cCut hcc) (cZ_ok Gc) (zAll_at hz hA) gL_c_swept (kc_ft_swept (D := eD E) hwc) ⟨0, 10, cF_ft Gc cS0, _, rfl, rfl, rfl⟩ (by decide) (by decide) hcs rfl rfl (by simp [Value.category]) (dL_law_g37.2.2.2.2.2.2.2.1) (fun ws1 rv hq => ?_)
  obtain ⟨σ1, rfl, r1, rfl, rfl⟩ := hq
  refine n_drop ?_
  show NW E (mW Gm mS0 ++ [(qo, .inl (Gc.2 1, 1, .inr (.inl (fun _ => 0))))]) cn sn 997 _ (.int r1 :: [])
  refine n_aload_n hE 2 (dL_law_g37.2.2.2.2.2.2.2.2.1) rfl rfl ?_
  refine n_aload_n hE 0 (dL_law_g37.2.2.2.2.2.2.2.2.2.1) rfl rfl ?_
  refine n_iload hE 4 (dL_law_g37.2.2.2.2.2.2.2.2.2.2.1) rfl ?_
  refine n_iconst (v := 1) hE (dL_law_g37.2.2.2.2.2.2.2.2.2.2.2.1) (by decide) ?_
  refine l_iadd h (dL_law_g37.2.2.2.2.2.2.2.2.2.2.2.2.1) ?_
  refine l_sld h (vp_in_dec (by decide)) (dL_law_g37.2.2.2.2.2.2.2.2.2.2.2.2.2.1) ?_
  refine l_callV (A1 := mFree Gm) (Z1 := gNo) hE [.int (xs ((0 : Int32) + 1).toNatClampNeg)] [.int r1] (mCut (hcm _)) (gNo_ok _) (fun _ _ _ => trivial) gL_m_swept (by rw [← hT]; exact km_swept (D := eD E) (cl := gCl) rfl hwm) ⟨0, 11, mF Gm mS0, _, rfl, rfl, rfl⟩ (by decide) (by decide) hcs rfl rfl (by simp [Value.category]) (dL_law_g37.2.2.2.2.2.2.2.2.2.2.2.2.2.2.1) (fun ws2 rv hq => ?_)
  obtain ⟨σ2, rfl, r2, rfl, rfl⟩ := hq
  refine l_icmp_eq h 1061 (dL_law_g37.2.2.2.2.2.2.2.2.2.2.2.2.2.2.2) (by decide) ?_
  exact l_end h (by omega) (by omega)
theorem gL_c_tried : gCalV RL 128 yX12_tried cX12_tried 9 (some .int) 3 := ⟨⟨gTb_7 (List.mem_of_getElem? (i := 12) rfl) rfl, gTb_7 (List.mem_of_getElem? (i := 15) rfl) rfl, gTb_1 (List.mem_of_getElem? (i := 1) rfl) rfl, ⟨by decide +kernel, by decide +kernel⟩, by decide +kernel, by decide⟩, gTb_7 (List.mem_of_getElem? (i := 13) rfl) rfl, gTb_7 (List.mem_of_getElem? (i := 14) rfl) rfl⟩
theorem gL_m_tried : gCalV RL 132 yX13_tried cX13_tried 11 (some .int) 3 := ⟨⟨gTb_11 (List.mem_of_getElem? (i := 203) rfl) rfl, gTb_11 (List.mem_of_getElem? (i := 206) rfl) rfl, gTb_1 (List.mem_of_getElem? (i := 12) rfl) rfl, ⟨by decide +kernel, by decide +kernel⟩, by decide +kernel, by decide⟩, gTb_11 (List.mem_of_getElem? (i := 204) rfl) rfl, gTb_11 (List.mem_of_getElem? (i := 205) rfl) rfl⟩
set_option maxHeartbeats 4000000 in
theorem l_case21 {E : gEnv} {Gc Gm : gAd} {b qo : Nat} {xs : Nat → Int32} {cn sn : Nat} (hl0 : (el E).stackTraces = false) (hT : Gm.2 = Gc.2) (h : lOK E Gc.2 b 6 xs) (hz : zAll Gc (eA E) (es E)) (hA : ∀ q, cFree Gc q → eA E q) (hcc : ∀ k, 200 ≤ k → k < 1400 → ∃ (i : Nat) (e : va_E), (cW Gc cS0)[i]? = some (Gc.1 k, e)) (hcm : ∀ (σ : MS) (k : Nat), ∃ (i : Nat) (e : va_E), (mW Gm σ)[i]? = some (Gm.1 k, e)) (hc : cn + 1 ≤ 600002) (hs : sn + 6 ≤ 7302232) : NW E (cW Gc cS0 ++ (mW Gm mS0 ++ [(qo, .inl (Gc.2 1, 1, .inr (.inl (fun _ => 0))))])) cn sn 1012 [(0, .ref b), (1, .ref (Gc.1 200)), (2, .ref (Gm.1 0)), (3, .ref qo), (4, .int 0)] [] := by
  have hE := h.1
  have hcs : cn ≤ room_1.cells ∧ sn ≤ room_1.slots := ⟨by show cn ≤ 600002; omega, by show sn ≤ 7302232; omega⟩
  obtain ⟨r0, hwc, hwm⟩ := st_tried (xs ((0 : Int32) + 1).toNatClampNeg) (xs ((0 : Int32) + 2).toNatClampNeg) (xs ((0 : Int32) + 3).toNatClampNeg)
  refine n_aload_n hE 1 (dL_law_g38.2.2.1) rfl rfl ?_
  refine n_aload_n hE 0 (dL_law_g38.2.2.2.1) rfl rfl ?_
  refine n_iload hE 4 (dL_law_g38.2.2.2.2.1) rfl ?_
  refine n_iconst (v := 1) hE (dL_law_g38.2.2.2.2.2.1) (by decide) ?_
  refine l_iadd h (dL_law_g38.2.2.2.2.2.2.1) ?_
  refine l_sld h (vp_in_dec (by decide)) (dL_law_g38.2.2.2.2.2.2.2.1) ?_
  refine n_aload_n hE 0 (dL_law_g38.2.2.2.2.2.2.2.2.1) rfl rfl ?_
  refine n_iload hE 4 (dL_law_g38.2.2.2.2.2.2.2.2.2.1) rfl ?_
  refine n_iconst (v := 2) hE (dL_law_g38.2.2.2.2.2.2.2.2.2.2.1) (by decide) ?_
  refine l_iadd h (dL_law_g38.2.2.2.2.2.2.2.2.2.2.2.1) ?_
  refine l_sld h (vp_in_dec (by decide)) (dL_law_g38.2.2.2.2.2.2.2.2.2.2.2.2.1) ?_
  refine n_aload_n hE 0 (dL_law_g38.2.2.2.2.2.2.2.2.2.2.2.2.2.1) rfl rfl ?_
  refine n_iload hE 4 (dL_law_g38.2.2.2.2.2.2.2.2.2.2.2.2.2.2.1) rfl ?_
  refine n_iconst (v := 3) hE (dL_law_g38.2.2.2.2.2.2.2.2.2.2.2.2.2.2.2) (by decide) ?_
  refine l_iadd h (dL_law_g39.1) ?_
  refine l_sld h (vp_in_dec (by decide)) (dL_law_g39.2.1) ?_
  refine l_callV hE [.int (xs ((0 : Int32) + 1).toNatClampNeg), .int (xs ((0 : Int32) + 2).toNatClampNeg), .int (xs ((0 : Int32) + 3).toNatClampNeg)] [] (cCut hcc) (cZ_ok Gc) (zAll_at hz hA) gL_c_tried (kc_ft_tried (D := eD E) hwc) ⟨0, 10, cF_ft Gc cS0, _, rfl, rfl, rfl⟩ (by decide) (by decide) hcs rfl rfl (by simp [Value.category]) (dL_law_g39.2.2.1) (fun ws1 rv hq => ?_)
  obtain ⟨σ1, rfl, r1, rfl, rfl⟩ := hq
  refine n_drop ?_
  show NW E (mW Gm mS0 ++ [(qo, .inl (Gc.2 1, 1, .inr (.inl (fun _ => 0))))]) cn sn 1034 _ (.int r1 :: [])
  refine n_aload_n hE 2 (dL_law_g39.2.2.2.1) rfl rfl ?_
  refine n_aload_n hE 0 (dL_law_g39.2.2.2.2.1) rfl rfl ?_
  refine n_iload hE 4 (dL_law_g39.2.2.2.2.2.1) rfl ?_
  refine n_iconst (v := 1) hE (dL_law_g39.2.2.2.2.2.2.1) (by decide) ?_
  refine l_iadd h (dL_law_g39.2.2.2.2.2.2.2.1) ?_
  refine l_sld h (vp_in_dec (by decide)) (dL_law_g39.2.2.2.2.2.2.2.2.1) ?_
  refine n_aload_n hE 0 (dL_law_g39.2.2.2.2.2.2.2.2.2.1) rfl rfl ?_
  refine n_iload hE 4 (dL_law_g39.2.2.2.2.2.2.2.2.2.2.1) rfl ?_
  refine n_iconst (v := 2) hE (dL_law_g39.2.2.2.2.2.2.2.2.2.2.2.1) (by decide) ?_
  refine l_iadd h (dL_law_g39.2.2.2.2.2.2.2.2.2.2.2.2.1) ?_
  refine l_sld h (vp_in_dec (by decide)) (dL_law_g39.2.2.2.2.2.2.2.2.2.2.2.2.2.1) ?_
  refine n_aload_n hE 0 (dL_law_g39.2.2.2.2.2.2.2.2.2.2.2.2.2.2.1) rfl rfl ?_
  refine n_iload hE 4 (dL_law_g39.2.2.2.2.2.2.2.2.2.2.2.2.2.2.2) rfl ?_
  refine n_iconst (v := 3) hE (dL_law_g40.1) (by decide) ?_
  refine l_iadd h (dL_law_g40.2.1) ?_
  refine l_sld h (vp_in_dec (by decide)) (dL_law_g40.2.2.1) ?_
  refine l_callV (A1 := mFree Gm) (Z1 := gNo) hE [.int (xs ((0 : Int32) + 1).toNatClampNeg), .int (xs ((0 : Int32) + 2).toNatClampNeg), .int (xs ((0 : Int32) + 3).toNatClampNeg)] [.int r1] (mCut (hcm _)) (gNo_ok _) (fun _ _ _ => trivial) gL_m_tried (by rw [← hT]; exact km_tried (D := eD E) (cl := gCl) rfl hwm) ⟨0, 11, mF Gm mS0, _, rfl, rfl, rfl⟩ (by decide) (by decide) hcs rfl rfl (by simp [Value.category]) (dL_law_g40.2.2.2.1) (fun ws2 rv hq => ?_)
  obtain ⟨σ2, rfl, r2, rfl, rfl⟩ := hq
  refine l_icmp_eq h 1061 (dL_law_g40.2.2.2.2.1) (by decide) ?_
  exact l_end h (by omega) (by omega)
set_option maxHeartbeats 4000000 in
theorem l_turn {E : gEnv} {Gc Gm : gAd} {b qo : Nat} {xs : Nat → Int32} {cn sn : Nat} (hl0 : (el E).stackTraces = false) (hT : Gm.2 = Gc.2) (h : lOK E Gc.2 b 6 xs) (hz : zAll Gc (eA E) (es E)) (hA : ∀ q, cFree Gc q → eA E q) (hcc : ∀ k, 200 ≤ k → k < 1400 → ∃ (i : Nat) (e : va_E), (cW Gc cS0)[i]? = some (Gc.1 k, e)) (hcm : ∀ (σ : MS) (k : Nat), ∃ (i : Nat) (e : va_E), (mW Gm σ)[i]? = some (Gm.1 k, e)) (hc : cn + 1 ≤ 600002) (hs : sn + 6 ≤ 7302232) : NW E (cW Gc cS0 ++ (mW Gm mS0 ++ [(qo, .inl (Gc.2 1, 1, .inr (.inl (fun _ => 0))))])) cn sn 23 [(0, .ref b), (1, .ref (Gc.1 200)), (2, .ref (Gm.1 0)), (3, .ref qo), (4, .int 0)] [] := by
  have hE := h.1
  refine n_iload hE 4 (dL_law_g0.2.2.2.2.2.2.2.2.2.2.2.2.2.1) rfl ?_
  refine n_aload_n hE 0 (dL_law_g0.2.2.2.2.2.2.2.2.2.2.2.2.2.2.1) rfl rfl ?_
  refine l_slen h (dL_law_g0.2.2.2.2.2.2.2.2.2.2.2.2.2.2.2) ?_
  refine n_bipush (v := 6) hE (dL_law_g1.1) (by decide) ?_
  refine l_isub h (dL_law_g1.2.1) ?_
  refine l_icmp_gt h 1067 (dL_law_g1.2.2.1) (by decide) (fun q => absurd q (by decide)) (fun _ => ?_)
  refine n_aload_n hE 0 (dL_law_g1.2.2.2.1) rfl rfl ?_
  refine n_iload hE 4 (dL_law_g1.2.2.2.2.1) rfl ?_
  refine l_sld h (vp_in_dec (by decide)) (dL_law_g1.2.2.2.2.2.1) ?_
  refine n_bipush (v := 31) hE (dL_law_g1.2.2.2.2.2.2.1) (by decide) ?_
  refine l_iand h (dL_law_g1.2.2.2.2.2.2.2.1) ?_
  generalize xs ((0 : Int32).toNatClampNeg) &&& 31 = w
  by_cases q0 : w = 0
  · exact l_tabIn (off := 104) h 0 144 (dL_law_g1.2.2.2.2.2.2.2.2.1) q0 (by decide) (by decide) (by decide) (by decide) (l_case0 hl0 hT h hz hA hcc hcm hc hs)
  by_cases q1 : w = 1
  · exact l_tabIn (off := 177) h 1 217 (dL_law_g1.2.2.2.2.2.2.2.2.1) q1 (by decide) (by decide) (by decide) (by decide) (l_case1 hl0 hT h hz hA hcc hcm hc hs)
  by_cases q2 : w = 2
  · exact l_tabIn (off := 202) h 2 242 (dL_law_g1.2.2.2.2.2.2.2.2.1) q2 (by decide) (by decide) (by decide) (by decide) (l_case2 hl0 hT h hz hA hcc hcm hc hs)
  by_cases q3 : w = 3
  · exact l_tabIn (off := 215) h 3 255 (dL_law_g1.2.2.2.2.2.2.2.2.1) q3 (by decide) (by decide) (by decide) (by decide) (l_case3 hl0 hT h hz hA hcc hcm hc hs)
  by_cases q4 : w = 4
  · exact l_tabIn (off := 228) h 4 268 (dL_law_g1.2.2.2.2.2.2.2.2.1) q4 (by decide) (by decide) (by decide) (by decide) (l_case4 hl0 hT h hz hA hcc hcm hc hs)
  by_cases q5 : w = 5
  · exact l_tabIn (off := 253) h 5 293 (dL_law_g1.2.2.2.2.2.2.2.2.1) q5 (by decide) (by decide) (by decide) (by decide) (l_case5 hl0 hT h hz hA hcc hcm hc hs)
  by_cases q6 : w = 6
  · exact l_tabIn (off := 314) h 6 354 (dL_law_g1.2.2.2.2.2.2.2.2.1) q6 (by decide) (by decide) (by decide) (by decide) (l_case6 hl0 hT h hz hA hcc hcm hc hs)
  by_cases q7 : w = 7
  · exact l_tabIn (off := 339) h 7 379 (dL_law_g1.2.2.2.2.2.2.2.2.1) q7 (by decide) (by decide) (by decide) (by decide) (l_case7 hl0 hT h hz hA hcc hcm hc hs)
  by_cases q8 : w = 8
  · exact l_tabIn (off := 352) h 8 392 (dL_law_g1.2.2.2.2.2.2.2.2.1) q8 (by decide) (by decide) (by decide) (by decide) (l_case8 hl0 hT h hz hA hcc hcm hc hs)
  by_cases q9 : w = 9
  · exact l_tabIn (off := 377) h 9 417 (dL_law_g1.2.2.2.2.2.2.2.2.1) q9 (by decide) (by decide) (by decide) (by decide) (l_case9 hl0 hT h hz hA hcc hcm hc hs)
  by_cases q10 : w = 10
  · exact l_tabIn (off := 433) h 10 473 (dL_law_g1.2.2.2.2.2.2.2.2.1) q10 (by decide) (by decide) (by decide) (by decide) (l_case10 hl0 hT h hz hA hcc hcm hc hs)
  by_cases q11 : w = 11
  · exact l_tabIn (off := 512) h 11 552 (dL_law_g1.2.2.2.2.2.2.2.2.1) q11 (by decide) (by decide) (by decide) (by decide) (l_case11 hl0 hT h hz hA hcc hcm hc hs)
  by_cases q12 : w = 12
  · exact l_tabIn (off := 568) h 12 608 (dL_law_g1.2.2.2.2.2.2.2.2.1) q12 (by decide) (by decide) (by decide) (by decide) (l_case12 hl0 hT h hz hA hcc hcm hc hs)
  by_cases q13 : w = 13
  · exact l_tabIn (off := 624) h 13 664 (dL_law_g1.2.2.2.2.2.2.2.2.1) q13 (by decide) (by decide) (by decide) (by decide) (l_case13 hl0 hT h hz hA hcc hcm hc hs)
  by_cases q14 : w = 14
  · exact l_tabIn (off := 661) h 14 701 (dL_law_g1.2.2.2.2.2.2.2.2.1) q14 (by decide) (by decide) (by decide) (by decide) (l_case14 hl0 hT h hz hA hcc hcm hc hs)
  by_cases q15 : w = 15
  · exact l_tabIn (off := 736) h 15 776 (dL_law_g1.2.2.2.2.2.2.2.2.1) q15 (by decide) (by decide) (by decide) (by decide) (l_case15 hl0 hT h hz hA hcc hcm hc hs)
  by_cases q16 : w = 16
  · exact l_tabIn (off := 749) h 16 789 (dL_law_g1.2.2.2.2.2.2.2.2.1) q16 (by decide) (by decide) (by decide) (by decide) (l_case16 hl0 hT h hz hA hcc hcm hc hs)
  by_cases q17 : w = 17
  · exact l_tabIn (off := 805) h 17 845 (dL_law_g1.2.2.2.2.2.2.2.2.1) q17 (by decide) (by decide) (by decide) (by decide) (l_case17 hl0 hT h hz hA hcc hcm hc hs)
  by_cases q18 : w = 18
  · exact l_tabIn (off := 861) h 18 901 (dL_law_g1.2.2.2.2.2.2.2.2.1) q18 (by decide) (by decide) (by decide) (by decide) (l_case18 hl0 hT h hz hA hcc hcm hc hs)
  by_cases q19 : w = 19
  · exact l_tabIn (off := 874) h 19 914 (dL_law_g1.2.2.2.2.2.2.2.2.1) q19 (by decide) (by decide) (by decide) (by decide) (l_case19 hl0 hT h hz hA hcc hcm hc hs)
  by_cases q20 : w = 20
  · exact l_tabIn (off := 947) h 20 987 (dL_law_g1.2.2.2.2.2.2.2.2.1) q20 (by decide) (by decide) (by decide) (by decide) (l_case20 hl0 hT h hz hA hcc hcm hc hs)
  by_cases q21 : w = 21
  · exact l_tabIn (off := 972) h 21 1012 (dL_law_g1.2.2.2.2.2.2.2.2.1) q21 (by decide) (by decide) (by decide) (by decide) (l_case21 hl0 hT h hz hA hcc hcm hc hs)
  refine l_tabOut h 1061 (dL_law_g1.2.2.2.2.2.2.2.2.1) ?_ (by decide) (l_end h (by omega) (by omega))
  have p0 := i_ne q0
  have p1 := i_ne q1
  have p2 := i_ne q2
  have p3 := i_ne q3
  have p4 := i_ne q4
  have p5 := i_ne q5
  have p6 := i_ne q6
  have p7 := i_ne q7
  have p8 := i_ne q8
  have p9 := i_ne q9
  have p10 := i_ne q10
  have p11 := i_ne q11
  have p12 := i_ne q12
  have p13 := i_ne q13
  have p14 := i_ne q14
  have p15 := i_ne q15
  have p16 := i_ne q16
  have p17 := i_ne q17
  have p18 := i_ne q18
  have p19 := i_ne q19
  have p20 := i_ne q20
  have p21 := i_ne q21
  have v0 : (0 : Int32).toInt = 0 := rfl
  have v1 : (1 : Int32).toInt = 1 := rfl
  have v2 : (2 : Int32).toInt = 2 := rfl
  have v3 : (3 : Int32).toInt = 3 := rfl
  have v4 : (4 : Int32).toInt = 4 := rfl
  have v5 : (5 : Int32).toInt = 5 := rfl
  have v6 : (6 : Int32).toInt = 6 := rfl
  have v7 : (7 : Int32).toInt = 7 := rfl
  have v8 : (8 : Int32).toInt = 8 := rfl
  have v9 : (9 : Int32).toInt = 9 := rfl
  have v10 : (10 : Int32).toInt = 10 := rfl
  have v11 : (11 : Int32).toInt = 11 := rfl
  have v12 : (12 : Int32).toInt = 12 := rfl
  have v13 : (13 : Int32).toInt = 13 := rfl
  have v14 : (14 : Int32).toInt = 14 := rfl
  have v15 : (15 : Int32).toInt = 15 := rfl
  have v16 : (16 : Int32).toInt = 16 := rfl
  have v17 : (17 : Int32).toInt = 17 := rfl
  have v18 : (18 : Int32).toInt = 18 := rfl
  have v19 : (19 : Int32).toInt = 19 := rfl
  have v20 : (20 : Int32).toInt = 20 := rfl
  have v21 : (21 : Int32).toInt = 21 := rfl
  omega
