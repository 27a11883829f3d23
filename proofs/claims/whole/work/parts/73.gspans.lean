/-! the model: the calls on spans -/
theorem tPi_0 {s : Nat → Option Nat} {L k : Nat} : tPi s L (2 * k + 0) = spA s k L := by
  unfold tPi
  rw [if_pos (by omega), show (2 * k + 0) / 2 = k by omega]
theorem tPi_1 {s : Nat → Option Nat} {L k : Nat} : tPi s L (2 * k + 1) = spZ s k L := by
  unfold tPi
  rw [if_neg (by omega), show (2 * k + 1) / 2 = k by omega]
theorem n02 : ¬ (nI 0 : Int32) = nI 2 := by decide +kernel
theorem n12 : ¬ (nI 1 : Int32) = nI 2 := by decide +kernel
theorem c0n : (nI 0 : Int32).toNatClampNeg = 0 := by decide +kernel
theorem c1n : (nI 1 : Int32).toNatClampNeg = 1 := by decide +kernel
set_option maxRecDepth 20000 in
set_option maxHeartbeats 4000000 in
theorem g_span (l : Launch) (G : Gl) (σ : Mm) (V : Mm) (xw xk xq : Int32) (hV : vw σ 67 = V) (hv : wf V) : AMi l G 6 mX10_span [.ref 66, .int xw, .int xk, .int xq] σ (fun r σ' => r = aSpan V xw xk xq ∧ MQu σ σ') := by
  refine rw_inI 10 (by decide +kernel) rfl rfl ?_
  intro E hE hX
  subst hE
  refine rw_go hX [(0, .iload_n 1)] (by decide +kernel) (Ps := []) (pc' := 1) (lv' := [(0, .ref 66), (1, .int xw), (2, .int xk), (3, .int xq)]) (st' := [.int xw]) (σ' := σ) rfl True.intro ?_
  refine rw_callSi hX (as := [.int xw]) (rest := []) (m_isWork _ _ _ (xw)) (by decide +kernel) msX10_isWork (Or.inl lk10_157) rfl (by decide) (Nat.le_of_ble_eq_true rfl) rfl ?_
  intro r1 σ1 hr
  rw [hr.1, show r1 = bz (decide (0 ≤ xw ∧ xw ≤ 4)) from hr.2]
  clear hr σ1 r1
  refine rw_if hX (tgt := 19) (cnd := .eq) (off := 15) (by decide +kernel) (by decide) (fun h4 => ?_) (fun h4 => ?_)
  · replace h4 := of_decide_eq_false (zb_eqT h4)
    refine rw_go hX [(19, .bipush (-2))] (by decide +kernel) (Ps := []) (pc' := 21) (lv' := [(0, .ref 66), (1, .int xw), (2, .int xk), (3, .int xq)]) (st' := [.int (-(nI 2))]) (σ' := σ) rfl True.intro ?_
    exact rw_iret hX (by decide +kernel) (⟨by simp only [aSpan, eq_false h4, if_true, if_false, Bool.false_eq_true, and_self, and_true, true_and, and_false, false_and, oel_n, oel_s, decide_true, decide_false], MQu_rfl _⟩)
  · replace h4 := of_decide_eq_true (zb_eqF h4)
    obtain ⟨w, hw, rfl⟩ := rng (m := 4) (by omega) h4
    have hw : w < 5 := hw
    have hcw : (nI w).toNatClampNeg = w := nI_clamp (by omega)
    refine rw_go hX [(7, .iload_n 3), (8, .i2l), (9, .lconst 0), (10, .ldc2_w 205)] (by decide +kernel) (Ps := []) (pc' := 13) (lv' := [(0, .ref 66), (1, .int (nI w)), (2, .int xk), (3, .int xq)]) (st' := [.long 2, .long (Int64.ofNat 0), .long (xq.toInt64)]) (σ' := σ) rfl True.intro ?_
    refine rw_callSi hX (as := [.long (xq.toInt64), .long (Int64.ofNat 0), .long 2]) (rest := []) (m_inI _ _ _ (xq) (0) (nI 2) _ _ _ rfl (by first | rfl | decide +kernel) (by first | rfl | decide +kernel)) (by decide +kernel) msX10_in (Or.inl lk10_105) rfl (by decide) (Nat.le_of_ble_eq_true rfl) rfl ?_
    intro r1 σ1 hr
    rw [hr.1, show r1 = bz (decide (0 ≤ xq ∧ xq < nI 3)) from hr.2.trans (by rw [decide_eq_decide.mpr (in_O (m := 2) (by omega))])]
    clear hr σ1 r1
    refine rw_if hX (tgt := 22) (cnd := .ne) (off := 6) (by decide +kernel) (by decide) (fun h16 => ?_) (fun h16 => ?_)
    · replace h16 := of_decide_eq_true (zb_neT h16)
      obtain ⟨c, hc, rfl⟩ := rngO (m := 3) (by omega) h16
      have hcc : (nI c).toNatClampNeg = c := nI_clamp (by omega)
      refine rw_go hX [(22, .aload_n 0), (23, .iload_n 1)] (by decide +kernel) (Ps := []) (pc' := 24) (lv' := [(0, .ref 66), (1, .int (nI w)), (2, .int xk), (3, .int (nI c))]) (st' := [.int (nI w), .ref 66]) (σ' := σ) rfl True.intro ?_
      refine rw_callVi hX (as := [.int (nI w)]) (rest := []) (m_there _ _ _ V w hV hv hw) (by decide +kernel) mvX10_isThere lk10_132 (ci := 9) rfl rfl rfl (by decide) (Nat.le_of_ble_eq_true rfl) rfl ?_
      intro r1 σ1 hr
      rw [hr.1, show r1 = bz (decide (0 < vS V w)) from hr.2]
      clear hr σ1 r1
      refine rw_if hX (tgt := 33) (cnd := .ne) (off := 6) (by decide +kernel) (by decide) (fun h27 => ?_) (fun h27 => ?_)
      · replace h27 := of_decide_eq_true (zb_neT h27)
        have hvsw : ¬ vS V w = 0 := by omega
        refine rw_go hX [(33, .aload_n 0)] (by decide +kernel) (Ps := []) (pc' := 34) (lv' := [(0, .ref 66), (1, .int (nI w)), (2, .int xk), (3, .int (nI c))]) (st' := [.ref 66]) (σ' := σ) rfl True.intro ?_
        refine rw_callVv hX (as := []) (rest := []) (m_anew _ _ _ V hV hv) (by decide +kernel) mvX10_anew lk10_220 (ci := 9) rfl rfl rfl (by decide) (Nat.le_of_ble_eq_true rfl) rfl ?_
        intro τ1 ht1
        obtain ⟨hAN, hFN⟩ := ht1
        have hq1 := MQu_A hFN
        have hV1 : vw τ1 67 = V := (vw_of (fun j hj => hFN _ (by omega))).trans hV
        have h71 : τ1 71 = V 4 := vw_at hV1 4 (by omega)
        have hLs := wf_L hv
        refine rw_go hX [(37, .aload_n 0), (38, .iload_n 1), (39, .aload_n 0), (40, .getfield 22), (43, .iconst 4), (44, .iaload)] (by decide +kernel) (Ps := [vp_in (nI 4) 6]) (pc' := 45) (lv' := [(0, .ref 66), (1, .int (nI w)), (2, .int xk), (3, .int (nI c))]) (st' := [.int (τ1 71 (nI 4).toNatClampNeg), .int (nI w), .ref 66]) (σ' := τ1) rfl (vp_in_nI (by omega) (by omega)) ?_
        rw [show (τ1 71 (nI 4).toNatClampNeg) = nI (vR V 4) from (by rw [nI_clamp (by omega), h71, hLs.1])]
        refine rw_callVv hX (as := [.int (nI w), .int (nI (vR V 4))]) (rest := []) (m_sources _ _ _ V w (vR V 4) hV1 hv hw hAN (by omega) (by omega)) (by decide +kernel) mvX10_sources lk10_267 (ci := 9) rfl rfl rfl (by decide) (Nat.le_of_ble_eq_true rfl) rfl ?_
        intro τ2 ht2
        obtain ⟨hSr, hAN2, hMq⟩ := ht2
        have hq2 := hq1.trans hMq
        have hR := hAN2.1 w hw
        have hL5 := lC_50 hv hw
        have hs5 := sT_5 hv hw (vR V 4)
        refine rw_go hX [(48, .iload_n 2), (49, .iconst (-1))] (by decide +kernel) (Ps := []) (pc' := 50) (lv' := [(0, .ref 66), (1, .int (nI w)), (2, .int xk), (3, .int (nI c))]) (st' := [.int (-(nI 1)), .int xk]) (σ' := τ2) rfl True.intro ?_
        refine rw_icmp hX (tgt := 59) (cnd := .ne) (off := 9) (by decide +kernel) (by decide) (fun h50 => ?_) (fun h50 => ?_)
        · replace h50 : (xk ≠ (-(nI 1))) := h50
          have hsn := spN_50 (s := (sT V w (vR V 4))) hL5
          refine rw_go hX [(59, .iload_n 2), (60, .i2l), (61, .lconst 0), (62, .aload_n 0), (63, .iload_n 1)] (by decide +kernel) (Ps := []) (pc' := 64) (lv' := [(0, .ref 66), (1, .int (nI w)), (2, .int xk), (3, .int (nI c))]) (st' := [.int (nI w), .ref 66, .long (Int64.ofNat 0), .long (xk.toInt64)]) (σ' := τ2) rfl True.intro ?_
          refine rw_callVi hX (as := [.int (nI w)]) (rest := [.long (Int64.ofNat 0), .long (xk.toInt64)]) (m_spans _ _ _ (sT V w (vR V 4)) (lC V w) w hw hR.1.1 hL5 hSr hs5) (by decide +kernel) mvX10_spans lk10_270 (ci := 9) rfl rfl rfl (by decide) (Nat.le_of_ble_eq_true rfl) rfl ?_
          intro r1 σ1 hr
          rw [hr.1, show r1 = nI (spN (sT V w (vR V 4)) (lC V w)) from hr.2]
          clear hr σ1 r1
          refine rw_go hX [(67, .iconst 1), (68, .isub), (69, .i2l)] (by decide +kernel) (Ps := []) (pc' := 70) (lv' := [(0, .ref 66), (1, .int (nI w)), (2, .int xk), (3, .int (nI c))]) (st' := [.long ((nI (spN (sT V w (vR V 4)) (lC V w)) - nI 1).toInt64), .long (Int64.ofNat 0), .long (xk.toInt64)]) (σ' := τ2) rfl True.intro ?_
          refine rw_callSi hX (as := [.long (xk.toInt64), .long (Int64.ofNat 0), .long ((nI (spN (sT V w (vR V 4)) (lC V w)) - nI 1).toInt64)]) (rest := []) (m_inI _ _ _ (xk) (0) (nI (spN (sT V w (vR V 4)) (lC V w)) - nI 1) _ _ _ rfl (by first | rfl | decide +kernel) (by first | rfl | decide +kernel)) (by decide +kernel) msX10_in (Or.inl lk10_105) rfl (by decide) (Nat.le_of_ble_eq_true rfl) rfl ?_
          intro r1 σ1 hr
          rw [hr.1, show r1 = bz (decide (0 ≤ xk ∧ xk < nI (spN (sT V w (vR V 4)) (lC V w)))) from hr.2.trans (by rw [decide_eq_decide.mpr (in_C (by omega))])]
          clear hr σ1 r1
          refine rw_if hX (tgt := 79) (cnd := .ne) (off := 6) (by decide +kernel) (by decide) (fun h73 => ?_) (fun h73 => ?_)
          · replace h73 := of_decide_eq_true (zb_neT h73)
            obtain ⟨k, hk, rfl⟩ := rngO (m := spN (sT V w (vR V 4)) (lC V w)) (by omega) h73
            have hck : (nI k).toNatClampNeg = k := nI_clamp (by omega)
            have hzk : ¬ nI k < 0 := nI_pos (by omega)
            have hlk : nI k < nI (spN (sT V w (vR V 4)) (lC V w)) := h73.2
            have hA1 := (spA_in hk).1
            have hZ1 := spZ_in hk
            refine rw_go hX [(79, .aload_n 0), (80, .iload_n 2)] (by decide +kernel) (Ps := []) (pc' := 81) (lv' := [(0, .ref 66), (1, .int (nI w)), (2, .int (nI k)), (3, .int (nI c))]) (st' := [.int (nI k), .ref 66]) (σ' := τ2) rfl True.intro ?_
            refine rw_callVi hX (as := [.int (nI k)]) (rest := []) (m_spanAt _ _ _ (sT V w (vR V 4)) (lC V w) k hSr hs5 hL5 hk) (by decide +kernel) mvX10_spanAt lk10_273 (ci := 9) rfl rfl rfl (by decide) (Nat.le_of_ble_eq_true rfl) rfl ?_
            intro r1 σ1 hr
            rw [hr.1, show r1 = nI (spA (sT V w (vR V 4)) k (lC V w)) from hr.2]
            clear hr σ1 r1
            refine rw_go hX [(84, .istore 4), (86, .iload_n 3)] (by decide +kernel) (Ps := []) (pc' := 87) (lv' := [(0, .ref 66), (1, .int (nI w)), (2, .int (nI k)), (3, .int (nI c)), (4, .int (nI (spA (sT V w (vR V 4)) k (lC V w))))]) (st' := [.int (nI c)]) (σ' := τ2) rfl True.intro ?_
            refine rw_if hX (tgt := 105) (cnd := .ne) (off := 18) (by decide +kernel) (by decide) (fun h87 => ?_) (fun h87 => ?_)
            · replace h87 := zn_neT h87
              refine rw_go hX [(105, .iload_n 3), (106, .iconst 1)] (by decide +kernel) (Ps := []) (pc' := 107) (lv' := [(0, .ref 66), (1, .int (nI w)), (2, .int (nI k)), (3, .int (nI c)), (4, .int (nI (spA (sT V w (vR V 4)) k (lC V w))))]) (st' := [.int (nI 1), .int (nI c)]) (σ' := τ2) rfl True.intro ?_
              refine rw_icmp hX (tgt := 130) (cnd := .ne) (off := 23) (by decide +kernel) (by decide) (fun h107 => ?_) (fun h107 => ?_)
              · replace h107 := c2_neT h107
                have hq9 : (nI c : Int32) = nI 2 := by rw [show c = 2 by omega]
                refine rw_go hX [(130, .aload_n 0), (131, .getfield 74), (134, .iload 4), (136, .iaload)] (by decide +kernel) (Ps := [vp_in (nI (spA (sT V w (vR V 4)) k (lC V w))) 50]) (pc' := 137) (lv' := [(0, .ref 66), (1, .int (nI w)), (2, .int (nI k)), (3, .int (nI c)), (4, .int (nI (spA (sT V w (vR V 4)) k (lC V w))))]) (st' := [.int (τ2 88 (nI (spA (sT V w (vR V 4)) k (lC V w))).toNatClampNeg)]) (σ' := τ2) rfl (vp_in_nI (by omega) (by omega)) ?_
                rw [show (τ2 88 (nI (spA (sT V w (vR V 4)) k (lC V w))).toNatClampNeg) = en ((sT V w (vR V 4)) (spA (sT V w (vR V 4)) k (lC V w))) from (by rw [nI_clamp (by omega), hSr _ (by omega)])]
                exact rw_iret hX (by decide +kernel) (⟨by
  simp only [aSpan, aSpanI, eq_true h4, eq_true h16, eq_false hvsw, eq_false h50, hck, hcw, eq_false hzk, eq_true hlk, if_true, if_false, Bool.false_eq_true, and_self, and_true, true_and, and_false, false_and, oel_n, oel_s, decide_true, decide_false]
  first
  | (have hc : c = 0 := h87
     simp only [hc, eq_false n02, eq_false n12, c0n, c1n, tPi_0, if_true, if_false, Bool.false_eq_true, and_self, and_true, true_and, and_false, false_and, oel_n, oel_s, decide_true, decide_false]; done)
  | (have hc : c = 1 := h107
     simp only [hc, eq_false n02, eq_false n12, c0n, c1n, tPi_1, if_true, if_false, Bool.false_eq_true, and_self, and_true, true_and, and_false, false_and, oel_n, oel_s, decide_true, decide_false]; done)
  | (simp only [eq_true hq9, if_true, if_false, Bool.false_eq_true, and_self, and_true, true_and, and_false, false_and, oel_n, oel_s, decide_true, decide_false]; done), hq2⟩)
              · replace h107 := c2_neF h107
                have hq0 : (nI c : Int32) = nI 1 := by rw [h107]
                refine rw_go hX [(110, .aload_n 0), (111, .getfield 37), (114, .bipush 50), (116, .iload_n 1), (117, .imul)] (by decide +kernel) (Ps := []) (pc' := 118) (lv' := [(0, .ref 66), (1, .int (nI w)), (2, .int (nI k)), (3, .int (nI c)), (4, .int (nI (spA (sT V w (vR V 4)) k (lC V w))))]) (st' := [.int (nI 50 * nI w), .ref 76]) (σ' := τ2) rfl True.intro ?_
                rw [show (nI 50 * nI w) = nI (50 * w) from pk_mul _ _]
                refine rw_go hX [(118, .aload_n 0), (119, .iload_n 1), (120, .iload 4)] (by decide +kernel) (Ps := []) (pc' := 122) (lv' := [(0, .ref 66), (1, .int (nI w)), (2, .int (nI k)), (3, .int (nI c)), (4, .int (nI (spA (sT V w (vR V 4)) k (lC V w))))]) (st' := [.int (nI (spA (sT V w (vR V 4)) k (lC V w))), .int (nI w), .ref 66, .int (nI (50 * w)), .ref 76]) (σ' := τ2) rfl True.intro ?_
                refine rw_callVi hX (as := [.int (nI w), .int (nI (spA (sT V w (vR V 4)) k (lC V w)))]) (rest := [.int (nI (50 * w)), .ref 76]) (m_spanEnd _ _ _ (sT V w (vR V 4)) (lC V w) w k hw hR.1.1 hL5 hSr hs5 hk) (by decide +kernel) mvX10_spanEnd lk10_276 (ci := 9) rfl rfl rfl (by decide) (Nat.le_of_ble_eq_true rfl) rfl ?_
                intro r1 σ1 hr
                rw [hr.1, show r1 = nI (spZ (sT V w (vR V 4)) k (lC V w)) from hr.2]
                clear hr σ1 r1
                refine rw_go hX [(125, .iadd)] (by decide +kernel) (Ps := []) (pc' := 126) (lv' := [(0, .ref 66), (1, .int (nI w)), (2, .int (nI k)), (3, .int (nI c)), (4, .int (nI (spA (sT V w (vR V 4)) k (lC V w))))]) (st' := [.int (nI (50 * w) + nI (spZ (sT V w (vR V 4)) k (lC V w))), .ref 76]) (σ' := τ2) rfl True.intro ?_
                rw [show (nI (50 * w) + nI (spZ (sT V w (vR V 4)) k (lC V w))) = nI (50 * w + spZ (sT V w (vR V 4)) k (lC V w)) from nI_add _ _]
                refine rw_go hX [(126, .iaload)] (by decide +kernel) (Ps := [vp_in (nI (50 * w + spZ (sT V w (vR V 4)) k (lC V w))) 250]) (pc' := 127) (lv' := [(0, .ref 66), (1, .int (nI w)), (2, .int (nI k)), (3, .int (nI c)), (4, .int (nI (spA (sT V w (vR V 4)) k (lC V w))))]) (st' := [.int (τ2 76 (nI (50 * w + spZ (sT V w (vR V 4)) k (lC V w))).toNatClampNeg)]) (σ' := τ2) rfl (vp_in_nI (by omega) (by omega)) ?_
                rw [show (τ2 76 (nI (50 * w + spZ (sT V w (vR V 4)) k (lC V w))).toNatClampNeg) = nI (PL V w (spZ (sT V w (vR V 4)) k (lC V w))) from (by rw [nI_clamp (by omega), (hR.1.2 _ hZ1).2])]
                refine rw_go hX [(127, .goto 10)] (by decide +kernel) (Ps := []) (pc' := 137) (lv' := [(0, .ref 66), (1, .int (nI w)), (2, .int (nI k)), (3, .int (nI c)), (4, .int (nI (spA (sT V w (vR V 4)) k (lC V w))))]) (st' := [.int (nI (PL V w (spZ (sT V w (vR V 4)) k (lC V w))))]) (σ' := τ2) rfl True.intro ?_
                exact rw_iret hX (by decide +kernel) (⟨by
  simp only [aSpan, aSpanI, eq_true h4, eq_true h16, eq_false hvsw, eq_false h50, hck, hcw, eq_false hzk, eq_true hlk, if_true, if_false, Bool.false_eq_true, and_self, and_true, true_and, and_false, false_and, oel_n, oel_s, decide_true, decide_false]
  first
  | (have hc : c = 0 := h87
     simp only [hc, eq_false n02, eq_false n12, c0n, c1n, tPi_0, if_true, if_false, Bool.false_eq_true, and_self, and_true, true_and, and_false, false_and, oel_n, oel_s, decide_true, decide_false]; done)
  | (have hc : c = 1 := h107
     simp only [hc, eq_false n02, eq_false n12, c0n, c1n, tPi_1, if_true, if_false, Bool.false_eq_true, and_self, and_true, true_and, and_false, false_and, oel_n, oel_s, decide_true, decide_false]; done)
  | (simp only [eq_true hq9, if_true, if_false, Bool.false_eq_true, and_self, and_true, true_and, and_false, false_and, oel_n, oel_s, decide_true, decide_false]; done), hq2⟩)
            · replace h87 := zn_neF h87
              have hq0 : (nI c : Int32) = nI 0 := by rw [h87]
              refine rw_go hX [(90, .aload_n 0), (91, .getfield 37), (94, .bipush 50), (96, .iload_n 1), (97, .imul)] (by decide +kernel) (Ps := []) (pc' := 98) (lv' := [(0, .ref 66), (1, .int (nI w)), (2, .int (nI k)), (3, .int (nI c)), (4, .int (nI (spA (sT V w (vR V 4)) k (lC V w))))]) (st' := [.int (nI 50 * nI w), .ref 76]) (σ' := τ2) rfl True.intro ?_
              rw [show (nI 50 * nI w) = nI (50 * w) from pk_mul _ _]
              refine rw_go hX [(98, .iload 4), (100, .iadd)] (by decide +kernel) (Ps := []) (pc' := 101) (lv' := [(0, .ref 66), (1, .int (nI w)), (2, .int (nI k)), (3, .int (nI c)), (4, .int (nI (spA (sT V w (vR V 4)) k (lC V w))))]) (st' := [.int (nI (50 * w) + nI (spA (sT V w (vR V 4)) k (lC V w))), .ref 76]) (σ' := τ2) rfl True.intro ?_
              rw [show (nI (50 * w) + nI (spA (sT V w (vR V 4)) k (lC V w))) = nI (50 * w + spA (sT V w (vR V 4)) k (lC V w)) from nI_add _ _]
              refine rw_go hX [(101, .iaload)] (by decide +kernel) (Ps := [vp_in (nI (50 * w + spA (sT V w (vR V 4)) k (lC V w))) 250]) (pc' := 102) (lv' := [(0, .ref 66), (1, .int (nI w)), (2, .int (nI k)), (3, .int (nI c)), (4, .int (nI (spA (sT V w (vR V 4)) k (lC V w))))]) (st' := [.int (τ2 76 (nI (50 * w + spA (sT V w (vR V 4)) k (lC V w))).toNatClampNeg)]) (σ' := τ2) rfl (vp_in_nI (by omega) (by omega)) ?_
              rw [show (τ2 76 (nI (50 * w + spA (sT V w (vR V 4)) k (lC V w))).toNatClampNeg) = nI (PL V w (spA (sT V w (vR V 4)) k (lC V w))) from (by rw [nI_clamp (by omega), (hR.1.2 _ hA1).2])]
              refine rw_go hX [(102, .goto 35)] (by decide +kernel) (Ps := []) (pc' := 137) (lv' := [(0, .ref 66), (1, .int (nI w)), (2, .int (nI k)), (3, .int (nI c)), (4, .int (nI (spA (sT V w (vR V 4)) k (lC V w))))]) (st' := [.int (nI (PL V w (spA (sT V w (vR V 4)) k (lC V w))))]) (σ' := τ2) rfl True.intro ?_
              exact rw_iret hX (by decide +kernel) (⟨by
  simp only [aSpan, aSpanI, eq_true h4, eq_true h16, eq_false hvsw, eq_false h50, hck, hcw, eq_false hzk, eq_true hlk, if_true, if_false, Bool.false_eq_true, and_self, and_true, true_and, and_false, false_and, oel_n, oel_s, decide_true, decide_false]
  first
  | (have hc : c = 0 := h87
     simp only [hc, eq_false n02, eq_false n12, c0n, c1n, tPi_0, if_true, if_false, Bool.false_eq_true, and_self, and_true, true_and, and_false, false_and, oel_n, oel_s, decide_true, decide_false]; done)
  | (have hc : c = 1 := h107
     simp only [hc, eq_false n02, eq_false n12, c0n, c1n, tPi_1, if_true, if_false, Bool.false_eq_true, and_self, and_true, true_and, and_false, false_and, oel_n, oel_s, decide_true, decide_false]; done)
  | (simp only [eq_true hq9, if_true, if_false, Bool.false_eq_true, and_self, and_true, true_and, and_false, false_and, oel_n, oel_s, decide_true, decide_false]; done), hq2⟩)
          · replace h73 := of_decide_eq_false (zb_neF h73)
            skip
            refine rw_go hX [(76, .bipush (-12))] (by decide +kernel) (Ps := []) (pc' := 78) (lv' := [(0, .ref 66), (1, .int (nI w)), (2, .int xk), (3, .int (nI c))]) (st' := [.int (-(nI 12))]) (σ' := τ2) rfl True.intro ?_
            exact rw_iret hX (by decide +kernel) (⟨by simp only [aSpan, aSpanI, eq_true h4, hcw, eq_true h16, hcc, eq_true h27, eq_false hvsw, eq_false h50, eq_false h73, ite2 h73, if_true, if_false, Bool.false_eq_true, and_self, and_true, true_and, and_false, false_and, oel_n, oel_s, decide_true, decide_false], hq2⟩)
        · replace h50 : xk = (-(nI 1)) := Classical.not_not.mp h50
          refine rw_go hX [(53, .aload_n 0), (54, .iload_n 1)] (by decide +kernel) (Ps := []) (pc' := 55) (lv' := [(0, .ref 66), (1, .int (nI w)), (2, .int xk), (3, .int (nI c))]) (st' := [.int (nI w), .ref 66]) (σ' := τ2) rfl True.intro ?_
          refine rw_callVi hX (as := [.int (nI w)]) (rest := []) (m_spans _ _ _ (sT V w (vR V 4)) (lC V w) w hw hR.1.1 hL5 hSr hs5) (by decide +kernel) mvX10_spans lk10_270 (ci := 9) rfl rfl rfl (by decide) (Nat.le_of_ble_eq_true rfl) rfl ?_
          intro r1 σ1 hr
          rw [hr.1, show r1 = nI (spN (sT V w (vR V 4)) (lC V w)) from hr.2]
          clear hr σ1 r1
          exact rw_iret hX (by decide +kernel) (⟨by simp only [aSpan, aSpanI, eq_true h4, hcw, eq_true h16, hcc, eq_true h27, eq_false hvsw, eq_true h50, if_true, if_false, Bool.false_eq_true, and_self, and_true, true_and, and_false, false_and, oel_n, oel_s, decide_true, decide_false], hq2⟩)
      · replace h27 := of_decide_eq_false (zb_neF h27)
        have hvsw : vS V w = 0 := by omega
        refine rw_go hX [(30, .bipush (-11))] (by decide +kernel) (Ps := []) (pc' := 32) (lv' := [(0, .ref 66), (1, .int (nI w)), (2, .int xk), (3, .int (nI c))]) (st' := [.int (-(nI 11))]) (σ' := σ) rfl True.intro ?_
        exact rw_iret hX (by decide +kernel) (⟨by simp only [aSpan, eq_true h4, hcw, eq_true h16, hcc, eq_false h27, eq_true hvsw, if_true, if_false, Bool.false_eq_true, and_self, and_true, true_and, and_false, false_and, oel_n, oel_s, decide_true, decide_false], MQu_rfl _⟩)
    · replace h16 := of_decide_eq_false (zb_neF h16)
      refine rw_go hX [(19, .bipush (-2))] (by decide +kernel) (Ps := []) (pc' := 21) (lv' := [(0, .ref 66), (1, .int (nI w)), (2, .int xk), (3, .int xq)]) (st' := [.int (-(nI 2))]) (σ' := σ) rfl True.intro ?_
      exact rw_iret hX (by decide +kernel) (⟨by simp only [aSpan, eq_true h4, hcw, eq_false h16, if_true, if_false, Bool.false_eq_true, and_self, and_true, true_and, and_false, false_and, oel_n, oel_s, decide_true, decide_false], MQu_rfl _⟩)
set_option maxRecDepth 20000 in
set_option maxHeartbeats 4000000 in
theorem g_source (l : Launch) (G : Gl) (σ : Mm) (V : Mm) (xw xi : Int32) (hV : vw σ 67 = V) (hv : wf V) : AMi l G 6 mX10_source [.ref 66, .int xw, .int xi] σ (fun r σ' => r = aSource V xw xi ∧ MQu σ σ') := by
  refine rw_inI 10 (by decide +kernel) rfl rfl ?_
  intro E hE hX
  subst hE
  refine rw_go hX [(0, .iload_n 1)] (by decide +kernel) (Ps := []) (pc' := 1) (lv' := [(0, .ref 66), (1, .int xw), (2, .int xi)]) (st' := [.int xw]) (σ' := σ) rfl True.intro ?_
  refine rw_callSi hX (as := [.int xw]) (rest := []) (m_isWork _ _ _ (xw)) (by decide +kernel) msX10_isWork (Or.inl lk10_157) rfl (by decide) (Nat.le_of_ble_eq_true rfl) rfl ?_
  intro r1 σ1 hr
  rw [hr.1, show r1 = bz (decide (0 ≤ xw ∧ xw ≤ 4)) from hr.2]
  clear hr σ1 r1
  refine rw_if hX (tgt := 10) (cnd := .ne) (off := 6) (by decide +kernel) (by decide) (fun h4 => ?_) (fun h4 => ?_)
  · replace h4 := of_decide_eq_true (zb_neT h4)
    obtain ⟨w, hw, rfl⟩ := rng (m := 4) (by omega) h4
    have hw : w < 5 := hw
    have hcw : (nI w).toNatClampNeg = w := nI_clamp (by omega)
    refine rw_go hX [(10, .aload_n 0), (11, .iload_n 1)] (by decide +kernel) (Ps := []) (pc' := 12) (lv' := [(0, .ref 66), (1, .int (nI w)), (2, .int xi)]) (st' := [.int (nI w), .ref 66]) (σ' := σ) rfl True.intro ?_
    refine rw_callVi hX (as := [.int (nI w)]) (rest := []) (m_there _ _ _ V w hV hv hw) (by decide +kernel) mvX10_isThere lk10_132 (ci := 9) rfl rfl rfl (by decide) (Nat.le_of_ble_eq_true rfl) rfl ?_
    intro r1 σ1 hr
    rw [hr.1, show r1 = bz (decide (0 < vS V w)) from hr.2]
    clear hr σ1 r1
    refine rw_if hX (tgt := 21) (cnd := .ne) (off := 6) (by decide +kernel) (by decide) (fun h15 => ?_) (fun h15 => ?_)
    · replace h15 := of_decide_eq_true (zb_neT h15)
      have hvsw : ¬ vS V w = 0 := by omega
      refine rw_go hX [(21, .aload_n 0)] (by decide +kernel) (Ps := []) (pc' := 22) (lv' := [(0, .ref 66), (1, .int (nI w)), (2, .int xi)]) (st' := [.ref 66]) (σ' := σ) rfl True.intro ?_
      refine rw_callVv hX (as := []) (rest := []) (m_anew _ _ _ V hV hv) (by decide +kernel) mvX10_anew lk10_220 (ci := 9) rfl rfl rfl (by decide) (Nat.le_of_ble_eq_true rfl) rfl ?_
      intro τ1 ht1
      obtain ⟨hAN, hFN⟩ := ht1
      have hq1 := MQu_A hFN
      have hV1 : vw τ1 67 = V := (vw_of (fun j hj => hFN _ (by omega))).trans hV
      have h71 : τ1 71 = V 4 := vw_at hV1 4 (by omega)
      have hLs := wf_L hv
      refine rw_go hX [(25, .aload_n 0), (26, .iload_n 1), (27, .aload_n 0), (28, .getfield 22), (31, .iconst 4), (32, .iaload)] (by decide +kernel) (Ps := [vp_in (nI 4) 6]) (pc' := 33) (lv' := [(0, .ref 66), (1, .int (nI w)), (2, .int xi)]) (st' := [.int (τ1 71 (nI 4).toNatClampNeg), .int (nI w), .ref 66]) (σ' := τ1) rfl (vp_in_nI (by omega) (by omega)) ?_
      rw [show (τ1 71 (nI 4).toNatClampNeg) = nI (vR V 4) from (by rw [nI_clamp (by omega), h71, hLs.1])]
      refine rw_callVv hX (as := [.int (nI w), .int (nI (vR V 4))]) (rest := []) (m_sources _ _ _ V w (vR V 4) hV1 hv hw hAN (by omega) (by omega)) (by decide +kernel) mvX10_sources lk10_267 (ci := 9) rfl rfl rfl (by decide) (Nat.le_of_ble_eq_true rfl) rfl ?_
      intro τ2 ht2
      obtain ⟨hSr, hAN2, hMq⟩ := ht2
      have hq2 := hq1.trans hMq
      have hR := hAN2.1 w hw
      have hL5 := lC_50 hv hw
      have hs5 := sT_5 hv hw (vR V 4)
      refine rw_go hX [(36, .iload_n 2), (37, .i2l), (38, .lconst 0), (39, .aload_n 0), (40, .getfield 40), (43, .iload_n 1), (44, .iaload)] (by decide +kernel) (Ps := [vp_in (nI w) 5]) (pc' := 45) (lv' := [(0, .ref 66), (1, .int (nI w)), (2, .int xi)]) (st' := [.int (τ2 77 (nI w).toNatClampNeg), .long (Int64.ofNat 0), .long (xi.toInt64)]) (σ' := τ2) rfl (vp_in_nI (by omega) (by omega)) ?_
      rw [show (τ2 77 (nI w).toNatClampNeg) = nI (lC V w) from (by rw [nI_clamp (by omega), hR.1.1])]
      refine rw_go hX [(45, .iconst 1), (46, .isub), (47, .i2l)] (by decide +kernel) (Ps := []) (pc' := 48) (lv' := [(0, .ref 66), (1, .int (nI w)), (2, .int xi)]) (st' := [.long ((nI (lC V w) - nI 1).toInt64), .long (Int64.ofNat 0), .long (xi.toInt64)]) (σ' := τ2) rfl True.intro ?_
      refine rw_callSi hX (as := [.long (xi.toInt64), .long (Int64.ofNat 0), .long ((nI (lC V w) - nI 1).toInt64)]) (rest := []) (m_inI _ _ _ (xi) (0) (nI (lC V w) - nI 1) _ _ _ rfl (by first | rfl | decide +kernel) (by first | rfl | decide +kernel)) (by decide +kernel) msX10_in (Or.inl lk10_105) rfl (by decide) (Nat.le_of_ble_eq_true rfl) rfl ?_
      intro r1 σ1 hr
      rw [hr.1, show r1 = bz (decide (0 ≤ xi ∧ xi < nI (lC V w))) from hr.2.trans (by rw [decide_eq_decide.mpr (in_C (by omega))])]
      clear hr σ1 r1
      refine rw_if hX (tgt := 63) (cnd := .eq) (off := 12) (by decide +kernel) (by decide) (fun h51 => ?_) (fun h51 => ?_)
      · replace h51 := of_decide_eq_false (zb_eqT h51)
        skip
        refine rw_go hX [(63, .bipush (-12))] (by decide +kernel) (Ps := []) (pc' := 65) (lv' := [(0, .ref 66), (1, .int (nI w)), (2, .int xi)]) (st' := [.int (-(nI 12))]) (σ' := τ2) rfl True.intro ?_
        exact rw_iret hX (by decide +kernel) (⟨by simp only [aSource, eq_true h4, hcw, eq_true h15, eq_false hvsw, eq_false h51, ite2 h51, if_true, if_false, Bool.false_eq_true, and_self, and_true, true_and, and_false, false_and, oel_n, oel_s, decide_true, decide_false], hq2⟩)
      · replace h51 := of_decide_eq_true (zb_eqF h51)
        obtain ⟨i, hi, rfl⟩ := rngO (m := lC V w) (by omega) h51
        have hci : (nI i).toNatClampNeg = i := nI_clamp (by omega)
        have hzi : ¬ nI i < 0 := nI_pos (by omega)
        have hli : nI i < nI (lC V w) := h51.2
        refine rw_go hX [(54, .aload_n 0), (55, .getfield 74), (58, .iload_n 2), (59, .iaload)] (by decide +kernel) (Ps := [vp_in (nI i) 50]) (pc' := 60) (lv' := [(0, .ref 66), (1, .int (nI w)), (2, .int (nI i))]) (st' := [.int (τ2 88 (nI i).toNatClampNeg)]) (σ' := τ2) rfl (vp_in_nI (by omega) (by omega)) ?_
        rw [show (τ2 88 (nI i).toNatClampNeg) = en ((sT V w (vR V 4)) i) from (by rw [nI_clamp (by omega), hSr _ (by omega)])]
        refine rw_go hX [(60, .goto 5)] (by decide +kernel) (Ps := []) (pc' := 65) (lv' := [(0, .ref 66), (1, .int (nI w)), (2, .int (nI i))]) (st' := [.int (en ((sT V w (vR V 4)) i))]) (σ' := τ2) rfl True.intro ?_
        exact rw_iret hX (by decide +kernel) (⟨by simp only [aSource, eq_true h4, hcw, eq_true h15, eq_false hvsw, eq_true h51, hci, eq_false hzi, eq_true hli, if_true, if_false, Bool.false_eq_true, and_self, and_true, true_and, and_false, false_and, oel_n, oel_s, decide_true, decide_false], hq2⟩)
    · replace h15 := of_decide_eq_false (zb_neF h15)
      have hvsw : vS V w = 0 := by omega
      refine rw_go hX [(18, .bipush (-11))] (by decide +kernel) (Ps := []) (pc' := 20) (lv' := [(0, .ref 66), (1, .int (nI w)), (2, .int xi)]) (st' := [.int (-(nI 11))]) (σ' := σ) rfl True.intro ?_
      exact rw_iret hX (by decide +kernel) (⟨by simp only [aSource, eq_true h4, hcw, eq_false h15, eq_true hvsw, if_true, if_false, Bool.false_eq_true, and_self, and_true, true_and, and_false, false_and, oel_n, oel_s, decide_true, decide_false], MQu_rfl _⟩)
  · replace h4 := of_decide_eq_false (zb_neF h4)
    refine rw_go hX [(7, .bipush (-2))] (by decide +kernel) (Ps := []) (pc' := 9) (lv' := [(0, .ref 66), (1, .int xw), (2, .int xi)]) (st' := [.int (-(nI 2))]) (σ' := σ) rfl True.intro ?_
    exact rw_iret hX (by decide +kernel) (⟨by simp only [aSource, eq_false h4, if_true, if_false, Bool.false_eq_true, and_self, and_true, true_and, and_false, false_and, oel_n, oel_s, decide_true, decide_false], MQu_rfl _⟩)
theorem shN_0 (c L : Nat) : shN c L 0 = c := if_pos rfl
set_option maxRecDepth 20000 in
set_option maxHeartbeats 4000000 in
theorem g_share (l : Launch) (G : Gl) (σ : Mm) (V : Mm) (xw xq : Int32) (hV : vw σ 67 = V) (hv : wf V) : AMi l G 6 mX10_share [.ref 66, .int xw, .int xq] σ (fun r σ' => r = aShare V xw xq ∧ MQu σ σ') := by
  refine rw_inI 10 (by decide +kernel) rfl rfl ?_
  intro E hE hX
  subst hE
  refine rw_go hX [(0, .iload_n 1)] (by decide +kernel) (Ps := []) (pc' := 1) (lv' := [(0, .ref 66), (1, .int xw), (2, .int xq)]) (st' := [.int xw]) (σ' := σ) rfl True.intro ?_
  refine rw_callSi hX (as := [.int xw]) (rest := []) (m_isWork _ _ _ (xw)) (by decide +kernel) msX10_isWork (Or.inl lk10_157) rfl (by decide) (Nat.le_of_ble_eq_true rfl) rfl ?_
  intro r1 σ1 hr
  rw [hr.1, show r1 = bz (decide (0 ≤ xw ∧ xw ≤ 4)) from hr.2]
  clear hr σ1 r1
  refine rw_if hX (tgt := 19) (cnd := .eq) (off := 15) (by decide +kernel) (by decide) (fun h4 => ?_) (fun h4 => ?_)
  · replace h4 := of_decide_eq_false (zb_eqT h4)
    refine rw_go hX [(19, .bipush (-2))] (by decide +kernel) (Ps := []) (pc' := 21) (lv' := [(0, .ref 66), (1, .int xw), (2, .int xq)]) (st' := [.int (-(nI 2))]) (σ' := σ) rfl True.intro ?_
    exact rw_iret hX (by decide +kernel) (⟨by simp only [aShare, eq_false h4, if_true, if_false, Bool.false_eq_true, and_self, and_true, true_and, and_false, false_and, oel_n, oel_s, decide_true, decide_false], MQu_rfl _⟩)
  · replace h4 := of_decide_eq_true (zb_eqF h4)
    obtain ⟨w, hw, rfl⟩ := rng (m := 4) (by omega) h4
    have hw : w < 5 := hw
    have hcw : (nI w).toNatClampNeg = w := nI_clamp (by omega)
    refine rw_go hX [(7, .iload_n 2), (8, .i2l), (9, .lconst 0), (10, .ldc2_w 205)] (by decide +kernel) (Ps := []) (pc' := 13) (lv' := [(0, .ref 66), (1, .int (nI w)), (2, .int xq)]) (st' := [.long 2, .long (Int64.ofNat 0), .long (xq.toInt64)]) (σ' := σ) rfl True.intro ?_
    refine rw_callSi hX (as := [.long (xq.toInt64), .long (Int64.ofNat 0), .long 2]) (rest := []) (m_inI _ _ _ (xq) (0) (nI 2) _ _ _ rfl (by first | rfl | decide +kernel) (by first | rfl | decide +kernel)) (by decide +kernel) msX10_in (Or.inl lk10_105) rfl (by decide) (Nat.le_of_ble_eq_true rfl) rfl ?_
    intro r1 σ1 hr
    rw [hr.1, show r1 = bz (decide (0 ≤ xq ∧ xq < nI 3)) from hr.2.trans (by rw [decide_eq_decide.mpr (in_O (m := 2) (by omega))])]
    clear hr σ1 r1
    refine rw_if hX (tgt := 22) (cnd := .ne) (off := 6) (by decide +kernel) (by decide) (fun h16 => ?_) (fun h16 => ?_)
    · replace h16 := of_decide_eq_true (zb_neT h16)
      obtain ⟨c, hc, rfl⟩ := rngO (m := 3) (by omega) h16
      have hcc : (nI c).toNatClampNeg = c := nI_clamp (by omega)
      refine rw_go hX [(22, .aload_n 0), (23, .iload_n 1)] (by decide +kernel) (Ps := []) (pc' := 24) (lv' := [(0, .ref 66), (1, .int (nI w)), (2, .int (nI c))]) (st' := [.int (nI w), .ref 66]) (σ' := σ) rfl True.intro ?_
      refine rw_callVi hX (as := [.int (nI w)]) (rest := []) (m_there _ _ _ V w hV hv hw) (by decide +kernel) mvX10_isThere lk10_132 (ci := 9) rfl rfl rfl (by decide) (Nat.le_of_ble_eq_true rfl) rfl ?_
      intro r1 σ1 hr
      rw [hr.1, show r1 = bz (decide (0 < vS V w)) from hr.2]
      clear hr σ1 r1
      refine rw_if hX (tgt := 33) (cnd := .ne) (off := 6) (by decide +kernel) (by decide) (fun h27 => ?_) (fun h27 => ?_)
      · replace h27 := of_decide_eq_true (zb_neT h27)
        have hvsw : ¬ vS V w = 0 := by omega
        refine rw_go hX [(33, .aload_n 0)] (by decide +kernel) (Ps := []) (pc' := 34) (lv' := [(0, .ref 66), (1, .int (nI w)), (2, .int (nI c))]) (st' := [.ref 66]) (σ' := σ) rfl True.intro ?_
        refine rw_callVv hX (as := []) (rest := []) (m_anew _ _ _ V hV hv) (by decide +kernel) mvX10_anew lk10_220 (ci := 9) rfl rfl rfl (by decide) (Nat.le_of_ble_eq_true rfl) rfl ?_
        intro τ1 ht1
        obtain ⟨hAN, hFN⟩ := ht1
        have hq1 := MQu_A hFN
        have hV1 : vw τ1 67 = V := (vw_of (fun j hj => hFN _ (by omega))).trans hV
        have h71 : τ1 71 = V 4 := vw_at hV1 4 (by omega)
        have hLs := wf_L hv
        refine rw_go hX [(37, .aload_n 0), (38, .iload_n 1), (39, .aload_n 0), (40, .getfield 22), (43, .iconst 4), (44, .iaload)] (by decide +kernel) (Ps := [vp_in (nI 4) 6]) (pc' := 45) (lv' := [(0, .ref 66), (1, .int (nI w)), (2, .int (nI c))]) (st' := [.int (τ1 71 (nI 4).toNatClampNeg), .int (nI w), .ref 66]) (σ' := τ1) rfl (vp_in_nI (by omega) (by omega)) ?_
        rw [show (τ1 71 (nI 4).toNatClampNeg) = nI (vR V 4) from (by rw [nI_clamp (by omega), h71, hLs.1])]
        refine rw_callVv hX (as := [.int (nI w), .int (nI (vR V 4))]) (rest := []) (m_sources _ _ _ V w (vR V 4) hV1 hv hw hAN (by omega) (by omega)) (by decide +kernel) mvX10_sources lk10_267 (ci := 9) rfl rfl rfl (by decide) (Nat.le_of_ble_eq_true rfl) rfl ?_
        intro τ2 ht2
        obtain ⟨hSr, hAN2, hMq⟩ := ht2
        have hq2 := hq1.trans hMq
        have hR := hAN2.1 w hw
        have hL5 := lC_50 hv hw
        have hs5 := sT_5 hv hw (vR V 4)
        refine rw_go hX [(48, .iload_n 2)] (by decide +kernel) (Ps := []) (pc' := 49) (lv' := [(0, .ref 66), (1, .int (nI w)), (2, .int (nI c))]) (st' := [.int (nI c)]) (σ' := τ2) rfl True.intro ?_
        refine rw_if hX (tgt := 60) (cnd := .ne) (off := 11) (by decide +kernel) (by decide) (fun h49 => ?_) (fun h49 => ?_)
        · replace h49 := zn_neT h49
          refine rw_go hX [(60, .iload_n 2), (61, .iconst 1)] (by decide +kernel) (Ps := []) (pc' := 62) (lv' := [(0, .ref 66), (1, .int (nI w)), (2, .int (nI c))]) (st' := [.int (nI 1), .int (nI c)]) (σ' := τ2) rfl True.intro ?_
          refine rw_icmp hX (tgt := 73) (cnd := .ne) (off := 11) (by decide +kernel) (by decide) (fun h62 => ?_) (fun h62 => ?_)
          · replace h62 := c2_neT h62
            have hq9 : (nI c : Int32) = nI 2 := by rw [show c = 2 by omega]
            refine rw_go hX [(73, .aload_n 0), (74, .iload_n 1)] (by decide +kernel) (Ps := []) (pc' := 75) (lv' := [(0, .ref 66), (1, .int (nI w)), (2, .int (nI c))]) (st' := [.int (nI w), .ref 66]) (σ' := τ2) rfl True.intro ?_
            refine rw_callVi hX (as := [.int (nI w)]) (rest := []) (m_mostSource _ _ _ (sT V w (vR V 4)) (lC V w) w hw hR.1.1 hL5 hSr hs5) (by decide +kernel) mvX10_mostSource lk10_282 (ci := 9) rfl rfl rfl (by decide) (Nat.le_of_ble_eq_true rfl) rfl ?_
            intro r1 σ1 hr
            rw [hr.1, show r1 = en (msS (fun v => tyN (sT V w (vR V 4)) v (lC V w)) 5).1 from hr.2]
            clear hr σ1 r1
            exact rw_iret hX (by decide +kernel) (⟨by
  simp only [aShare, eq_true h4, eq_true h16, eq_false hvsw, hcw, if_true, if_false, Bool.false_eq_true, and_self, and_true, true_and, and_false, false_and, oel_n, oel_s, decide_true, decide_false]
  first
  | (have hc : c = 0 := h49
     simp only [hc, shN_0, eq_false n02, eq_false n12, c0n, c1n, if_true, if_false, Bool.false_eq_true, and_self, and_true, true_and, and_false, false_and, oel_n, oel_s, decide_true, decide_false]; done)
  | (have hc : c = 1 := h62
     simp only [hc, eq_false n02, eq_false n12, c0n, c1n, if_true, if_false, Bool.false_eq_true, and_self, and_true, true_and, and_false, false_and, oel_n, oel_s, decide_true, decide_false]; done)
  | (simp only [eq_true hq9, if_true, if_false, Bool.false_eq_true, and_self, and_true, true_and, and_false, false_and, oel_n, oel_s, decide_true, decide_false]; done), hq2⟩)
          · replace h62 := c2_neF h62
            refine rw_go hX [(65, .aload_n 0), (66, .iload_n 1)] (by decide +kernel) (Ps := []) (pc' := 67) (lv' := [(0, .ref 66), (1, .int (nI w)), (2, .int (nI c))]) (st' := [.int (nI w), .ref 66]) (σ' := τ2) rfl True.intro ?_
            refine rw_callVi hX (as := [.int (nI w)]) (rest := []) (m_inHundred _ _ _ (sT V w (vR V 4)) (lC V w) w hw hR.1.1 hL5 hSr hs5) (by decide +kernel) mvX10_inHundred lk10_279 (ci := 9) rfl rfl rfl (by decide) (Nat.le_of_ble_eq_true rfl) rfl ?_
            intro r1 σ1 hr
            rw [hr.1, show r1 = nI (shN (cvV V w) (lC V w) 1) from hr.2]
            clear hr σ1 r1
            refine rw_go hX [(70, .goto 8)] (by decide +kernel) (Ps := []) (pc' := 78) (lv' := [(0, .ref 66), (1, .int (nI w)), (2, .int (nI c))]) (st' := [.int (nI (shN (cvV V w) (lC V w) 1))]) (σ' := τ2) rfl True.intro ?_
            exact rw_iret hX (by decide +kernel) (⟨by
  simp only [aShare, eq_true h4, eq_true h16, eq_false hvsw, hcw, if_true, if_false, Bool.false_eq_true, and_self, and_true, true_and, and_false, false_and, oel_n, oel_s, decide_true, decide_false]
  first
  | (have hc : c = 0 := h49
     simp only [hc, shN_0, eq_false n02, eq_false n12, c0n, c1n, if_true, if_false, Bool.false_eq_true, and_self, and_true, true_and, and_false, false_and, oel_n, oel_s, decide_true, decide_false]; done)
  | (have hc : c = 1 := h62
     simp only [hc, eq_false n02, eq_false n12, c0n, c1n, if_true, if_false, Bool.false_eq_true, and_self, and_true, true_and, and_false, false_and, oel_n, oel_s, decide_true, decide_false]; done)
  | (simp only [eq_true hq9, if_true, if_false, Bool.false_eq_true, and_self, and_true, true_and, and_false, false_and, oel_n, oel_s, decide_true, decide_false]; done), hq2⟩)
        · replace h49 := zn_neF h49
          refine rw_go hX [(52, .aload_n 0), (53, .iload_n 1)] (by decide +kernel) (Ps := []) (pc' := 54) (lv' := [(0, .ref 66), (1, .int (nI w)), (2, .int (nI c))]) (st' := [.int (nI w), .ref 66]) (σ' := τ2) rfl True.intro ?_
          refine rw_callVi hX (as := [.int (nI w)]) (rest := []) (m_covered _ _ _ (sT V w (vR V 4)) (lC V w) w hw hR.1.1 hL5 hSr hs5) (by decide +kernel) mvX10_covered lk10_261 (ci := 9) rfl rfl rfl (by decide) (Nat.le_of_ble_eq_true rfl) rfl ?_
          intro r1 σ1 hr
          rw [hr.1, show r1 = nI (cvV V w) from hr.2]
          clear hr σ1 r1
          refine rw_go hX [(57, .goto 21)] (by decide +kernel) (Ps := []) (pc' := 78) (lv' := [(0, .ref 66), (1, .int (nI w)), (2, .int (nI c))]) (st' := [.int (nI (cvV V w))]) (σ' := τ2) rfl True.intro ?_
          exact rw_iret hX (by decide +kernel) (⟨by
  simp only [aShare, eq_true h4, eq_true h16, eq_false hvsw, hcw, if_true, if_false, Bool.false_eq_true, and_self, and_true, true_and, and_false, false_and, oel_n, oel_s, decide_true, decide_false]
  first
  | (have hc : c = 0 := h49
     simp only [hc, shN_0, eq_false n02, eq_false n12, c0n, c1n, if_true, if_false, Bool.false_eq_true, and_self, and_true, true_and, and_false, false_and, oel_n, oel_s, decide_true, decide_false]; done)
  | (have hc : c = 1 := h62
     simp only [hc, eq_false n02, eq_false n12, c0n, c1n, if_true, if_false, Bool.false_eq_true, and_self, and_true, true_and, and_false, false_and, oel_n, oel_s, decide_true, decide_false]; done)
  | (simp only [eq_true hq9, if_true, if_false, Bool.false_eq_true, and_self, and_true, true_and, and_false, false_and, oel_n, oel_s, decide_true, decide_false]; done), hq2⟩)
      · replace h27 := of_decide_eq_false (zb_neF h27)
        have hvsw : vS V w = 0 := by omega
        refine rw_go hX [(30, .bipush (-11))] (by decide +kernel) (Ps := []) (pc' := 32) (lv' := [(0, .ref 66), (1, .int (nI w)), (2, .int (nI c))]) (st' := [.int (-(nI 11))]) (σ' := σ) rfl True.intro ?_
        exact rw_iret hX (by decide +kernel) (⟨by simp only [aShare, eq_true h4, hcw, eq_true h16, hcc, eq_false h27, eq_true hvsw, if_true, if_false, Bool.false_eq_true, and_self, and_true, true_and, and_false, false_and, oel_n, oel_s, decide_true, decide_false], MQu_rfl _⟩)
    · replace h16 := of_decide_eq_false (zb_neF h16)
      refine rw_go hX [(19, .bipush (-2))] (by decide +kernel) (Ps := []) (pc' := 21) (lv' := [(0, .ref 66), (1, .int (nI w)), (2, .int xq)]) (st' := [.int (-(nI 2))]) (σ' := σ) rfl True.intro ?_
      exact rw_iret hX (by decide +kernel) (⟨by simp only [aShare, eq_true h4, hcw, eq_false h16, if_true, if_false, Bool.false_eq_true, and_self, and_true, true_and, and_false, false_and, oel_n, oel_s, decide_true, decide_false], MQu_rfl _⟩)
theorem r52_at {f : Nat → Int32} {S : Nat → Bool} {i : Nat} (h : i < 50) : r52 f S i = bz (S i) := if_pos h
theorem r52_e {f : Nat → Int32} {S S' : Nat → Bool} (h : ∀ j, j < 50 → S j = S' j) : r52 f S = r52 f S' := by
  funext j
  unfold r52
  by_cases q : j < 50
  · rw [if_pos q, if_pos q, h j q]
  · rw [if_neg q, if_neg q]
set_option maxRecDepth 20000 in
set_option maxHeartbeats 4000000 in
theorem m_isHeld (l : Launch) (G : Gl) (σ : Mm) (V : Mm) (w u : Nat) (hV : vw σ 67 = V) (hv : wf V) (hw : w < 5) (hu : u < 5) (hAN : AN V σ) : AMi l G 3 mX10_isHeld [.ref 66, .int (nI w), .int (nI u)] σ (fun r σ' => AN V σ' ∧ MQu σ σ' ∧ r = bz (hld V w u)) := by
  refine rw_inI 10 (by decide +kernel) rfl rfl ?_
  intro E hE hX
  subst hE
  have hLs := wf_L hv
  have hTt := wf_T hv
  have h71 : σ 71 = V 4 := vw_at hV 4 (by omega)
  have hL5 := lC_50 hv hw
  have hmu : vR V 5 * lC V w ≤ 100 * 50 := Nat.mul_le_mul hTt.2 hL5
  refine rw_go hX [(0, .aload_n 0), (1, .iload_n 1), (2, .iload_n 2), (3, .aload_n 0), (4, .getfield 22), (7, .iconst 4), (8, .iaload)] (by decide +kernel) (Ps := [vp_in (nI 4) 6]) (pc' := 9) (lv' := [(0, .ref 66), (1, .int (nI w)), (2, .int (nI u))]) (st' := [.int (σ 71 (nI 4).toNatClampNeg), .int (nI u), .int (nI w), .ref 66]) (σ' := σ) rfl (vp_in_nI (by omega) (by omega)) ?_
  rw [show (σ 71 (nI 4).toNatClampNeg) = nI (vR V 4) from (by rw [nI_clamp (by omega), h71, hLs.1])]
  refine rw_callVv hX (as := [.int (nI w), .int (nI u), .int (nI (vR V 4))]) (rest := []) (m_matches _ _ _ V w u (vR V 4) hv hw hu h71 hAN (by omega)) (by decide +kernel) mvX10_matches lk10_240 (ci := 9) rfl rfl rfl (by decide) (Nat.le_of_ble_eq_true rfl) rfl ?_
  intro τ2 ht2
  obtain ⟨hM, hFM⟩ := ht2
  have hMb := ML_b (ls := vR V 4) hv hw hu
  have h833 := hMb.1
  have hAN2 := AN_k hAN (NI_of hFM.1 (by decide))
  have hq2 := MQu_M hFM
  refine rw_go hX [(12, .iconst 0), (13, .istore_n 3)] (by decide +kernel) (Ps := []) (pc' := 14) (lv' := [(0, .ref 66), (1, .int (nI w)), (2, .int (nI u)), (3, .int (nI 0))]) (st' := []) (σ' := τ2) rfl True.intro ?_
  have L14 : ∀ (μ14 : Nat) (i : Nat), μ14 = 50 - i → (i ≤ 50) → RW E G 3 6 (QI E G (fun r σ' => AN V σ' ∧ MQu σ σ' ∧ r = bz (hld V w u))) 14 [(0, .ref 66), (1, .int (nI w)), (2, .int (nI u)), (3, .int (nI i))] [] (sr τ2 90 (fl (τ2 90) 0 i (nI 0))) := by
    intro μ14
    induction μ14 using Nat.strongRecOn with
    | ind μ14 ih14 =>
      intro i hμ14 hi
      refine rw_go hX [(14, .iload_n 3), (15, .bipush 50)] (by decide +kernel) (Ps := []) (pc' := 17) (lv' := [(0, .ref 66), (1, .int (nI w)), (2, .int (nI u)), (3, .int (nI i))]) (st' := [.int (nI 50), .int (nI i)]) (σ' := sr τ2 90 (fl (τ2 90) 0 i (nI 0))) rfl True.intro ?_
      refine rw_icmp hX (tgt := 33) (cnd := .ge) (off := 16) (by decide +kernel) (by decide) (fun h17 => ?_) (fun h17 => ?_)
      · replace h17 := c2_geT h17
        have ei : i = 50 := by omega
        refine rw_go hX [(33, .iconst 0), (34, .istore_n 3), (35, .iconst 0), (36, .istore 4)] (by decide +kernel) (Ps := []) (pc' := 38) (lv' := [(0, .ref 66), (1, .int (nI w)), (2, .int (nI u)), (3, .int (nI 0)), (4, .int (nI 0))]) (st' := []) (σ' := sr τ2 90 (fl (τ2 90) 0 i (nI 0))) rfl True.intro ?_
        have L38 : ∀ (μ38 : Nat) (k : Nat) (f9 : Nat → Int32), μ38 = (ML V w u (vR V 4)).length - k → (k ≤ (ML V w u (vR V 4)).length) → RW E G 3 6 (QI E G (fun r σ' => AN V σ' ∧ MQu σ σ' ∧ r = bz (hld V w u))) 38 [(0, .ref 66), (1, .int (nI w)), (2, .int (nI u)), (3, .int (nI (cB (cv2 (mB (ML V w u (vR V 4))) (mG (ML V w u (vR V 4))) k) 50))), (4, .int (nI k))] [] (sr τ2 90 (r52 f9 (cv2 (mB (ML V w u (vR V 4))) (mG (ML V w u (vR V 4))) k))) := by
          intro μ38
          induction μ38 using Nat.strongRecOn with
          | ind μ38 ih38 =>
            intro k f9 hμ38 hk
            have hMk : MTm (ML V w u (vR V 4)) (sr τ2 90 (r52 f9 (cv2 (mB (ML V w u (vR V 4))) (mG (ML V w u (vR V 4))) k))) := MTm_k hM fun q hq => sr_n _ _ (fun z => by rw [z] at hq; revert hq; decide)
            have hANk : AN V (sr τ2 90 (r52 f9 (cv2 (mB (ML V w u (vR V 4))) (mG (ML V w u (vR V 4))) k))) := AN_k hAN2 fun q hq => sr_n _ _ (fun z => by rw [z] at hq; revert hq; decide)
            have hRk := hANk.1 w hw
            have hqk : MQu σ (sr τ2 90 (r52 f9 (cv2 (mB (ML V w u (vR V 4))) (mG (ML V w u (vR V 4))) k))) := hq2.trans (MQu_k (ks := [90]) (fun q hq => sr_n _ _ (fun z => hq (by rw [z]; decide))) (by decide))
            have h71k : (sr τ2 90 (r52 f9 (cv2 (mB (ML V w u (vR V 4))) (mG (ML V w u (vR V 4))) k))) 71 = V 4 := (hqk.1 71 (by omega) (by omega) (by omega)).trans h71
            refine rw_go hX [(38, .iload 4), (40, .aload_n 0), (41, .getfield 232)] (by decide +kernel) (Ps := []) (pc' := 44) (lv' := [(0, .ref 66), (1, .int (nI w)), (2, .int (nI u)), (3, .int (nI (cB (cv2 (mB (ML V w u (vR V 4))) (mG (ML V w u (vR V 4))) k) 50))), (4, .int (nI k))]) (st' := [.int ((sr τ2 90 (r52 f9 (cv2 (mB (ML V w u (vR V 4))) (mG (ML V w u (vR V 4))) k))) 66 20), .int (nI k)]) (σ' := sr τ2 90 (r52 f9 (cv2 (mB (ML V w u (vR V 4))) (mG (ML V w u (vR V 4))) k))) rfl True.intro ?_
            rw [show ((sr τ2 90 (r52 f9 (cv2 (mB (ML V w u (vR V 4))) (mG (ML V w u (vR V 4))) k))) 66 20) = nI ((ML V w u (vR V 4)).length) from (by rw [hMk.1])]
            refine rw_icmp hX (tgt := 114) (cnd := .ge) (off := 70) (by decide +kernel) (by decide) (fun h44 => ?_) (fun h44 => ?_)
            · replace h44 := c2_geT h44
              have ek : k = (ML V w u (vR V 4)).length := by omega
              have ecl : cB (cv2 (mB (ML V w u (vR V 4))) (mG (ML V w u (vR V 4))) k) 50 = cL V w u := by rw [ek]; rfl
              have hcl5 := cL_50 V w u
              rw [ecl]
              refine rw_go hX [(114, .iload_n 3)] (by decide +kernel) (Ps := []) (pc' := 115) (lv' := [(0, .ref 66), (1, .int (nI w)), (2, .int (nI u)), (3, .int (nI (cL V w u))), (4, .int (nI k))]) (st' := [.int (nI (cL V w u))]) (σ' := sr τ2 90 (r52 f9 (cv2 (mB (ML V w u (vR V 4))) (mG (ML V w u (vR V 4))) k))) rfl True.intro ?_
              refine rw_if hX (tgt := 142) (cnd := .le) (off := 27) (by decide +kernel) (by decide) (fun h115 => ?_) (fun h115 => ?_)
              · replace h115 := zn_leT h115
                have e : hld V w u = false := decide_eq_false (by omega)
                refine rw_go hX [(142, .iconst 0)] (by decide +kernel) (Ps := []) (pc' := 143) (lv' := [(0, .ref 66), (1, .int (nI w)), (2, .int (nI u)), (3, .int (nI (cL V w u))), (4, .int (nI k))]) (st' := [.int (nI 0)]) (σ' := sr τ2 90 (r52 f9 (cv2 (mB (ML V w u (vR V 4))) (mG (ML V w u (vR V 4))) k))) rfl True.intro ?_
                exact rw_zret hX (by decide +kernel) (Or.inl rfl) (⟨hANk, hqk, by rw [e]; rfl⟩)
              · replace h115 := zn_leF h115
                refine rw_go hX [(118, .bipush 100), (120, .iload_n 3), (121, .imul)] (by decide +kernel) (Ps := []) (pc' := 122) (lv' := [(0, .ref 66), (1, .int (nI w)), (2, .int (nI u)), (3, .int (nI (cL V w u))), (4, .int (nI k))]) (st' := [.int (nI 100 * nI (cL V w u))]) (σ' := sr τ2 90 (r52 f9 (cv2 (mB (ML V w u (vR V 4))) (mG (ML V w u (vR V 4))) k))) rfl True.intro ?_
                rw [show (nI 100 * nI (cL V w u)) = nI (100 * cL V w u) from pk_mul _ _]
                refine rw_go hX [(122, .aload_n 0), (123, .getfield 22), (126, .iconst 5), (127, .iaload)] (by decide +kernel) (Ps := [vp_in (nI 5) 6]) (pc' := 128) (lv' := [(0, .ref 66), (1, .int (nI w)), (2, .int (nI u)), (3, .int (nI (cL V w u))), (4, .int (nI k))]) (st' := [.int ((sr τ2 90 (r52 f9 (cv2 (mB (ML V w u (vR V 4))) (mG (ML V w u (vR V 4))) k))) 71 (nI 5).toNatClampNeg), .int (nI (100 * cL V w u))]) (σ' := sr τ2 90 (r52 f9 (cv2 (mB (ML V w u (vR V 4))) (mG (ML V w u (vR V 4))) k))) rfl (vp_in_nI (by omega) (by omega)) ?_
                rw [show ((sr τ2 90 (r52 f9 (cv2 (mB (ML V w u (vR V 4))) (mG (ML V w u (vR V 4))) k))) 71 (nI 5).toNatClampNeg) = nI (vR V 5) from (by rw [nI_clamp (by omega), h71k, hTt.1])]
                refine rw_go hX [(128, .aload_n 0), (129, .getfield 40), (132, .iload_n 1), (133, .iaload)] (by decide +kernel) (Ps := [vp_in (nI w) 5]) (pc' := 134) (lv' := [(0, .ref 66), (1, .int (nI w)), (2, .int (nI u)), (3, .int (nI (cL V w u))), (4, .int (nI k))]) (st' := [.int ((sr τ2 90 (r52 f9 (cv2 (mB (ML V w u (vR V 4))) (mG (ML V w u (vR V 4))) k))) 77 (nI w).toNatClampNeg), .int (nI (vR V 5)), .int (nI (100 * cL V w u))]) (σ' := sr τ2 90 (r52 f9 (cv2 (mB (ML V w u (vR V 4))) (mG (ML V w u (vR V 4))) k))) rfl (vp_in_nI (by omega) (by omega)) ?_
                rw [show ((sr τ2 90 (r52 f9 (cv2 (mB (ML V w u (vR V 4))) (mG (ML V w u (vR V 4))) k))) 77 (nI w).toNatClampNeg) = nI (lC V w) from (by rw [nI_clamp (by omega), hRk.1.1])]
                refine rw_go hX [(134, .imul)] (by decide +kernel) (Ps := []) (pc' := 135) (lv' := [(0, .ref 66), (1, .int (nI w)), (2, .int (nI u)), (3, .int (nI (cL V w u))), (4, .int (nI k))]) (st' := [.int (nI (vR V 5) * nI (lC V w)), .int (nI (100 * cL V w u))]) (σ' := sr τ2 90 (r52 f9 (cv2 (mB (ML V w u (vR V 4))) (mG (ML V w u (vR V 4))) k))) rfl True.intro ?_
                rw [show (nI (vR V 5) * nI (lC V w)) = nI (vR V 5 * lC V w) from pk_mul _ _]
                refine rw_icmp hX (tgt := 142) (cnd := .lt) (off := 7) (by decide +kernel) (by decide) (fun h135 => ?_) (fun h135 => ?_)
                · replace h135 := c2_ltT h135
                  have e : hld V w u = false := decide_eq_false (by omega)
                  refine rw_go hX [(142, .iconst 0)] (by decide +kernel) (Ps := []) (pc' := 143) (lv' := [(0, .ref 66), (1, .int (nI w)), (2, .int (nI u)), (3, .int (nI (cL V w u))), (4, .int (nI k))]) (st' := [.int (nI 0)]) (σ' := sr τ2 90 (r52 f9 (cv2 (mB (ML V w u (vR V 4))) (mG (ML V w u (vR V 4))) k))) rfl True.intro ?_
                  exact rw_zret hX (by decide +kernel) (Or.inl rfl) (⟨hANk, hqk, by rw [e]; rfl⟩)
                · replace h135 := c2_ltF h135
                  have e : hld V w u = true := decide_eq_true (by omega)
                  refine rw_go hX [(138, .iconst 1), (139, .goto 4)] (by decide +kernel) (Ps := []) (pc' := 143) (lv' := [(0, .ref 66), (1, .int (nI w)), (2, .int (nI u)), (3, .int (nI (cL V w u))), (4, .int (nI k))]) (st' := [.int (nI 1)]) (σ' := sr τ2 90 (r52 f9 (cv2 (mB (ML V w u (vR V 4))) (mG (ML V w u (vR V 4))) k))) rfl True.intro ?_
                  exact rw_zret hX (by decide +kernel) (Or.inr rfl) (⟨hANk, hqk, by rw [e]; rfl⟩)
            · replace h44 := c2_geF h44
              have hmk := ML_at hv hw hu h44
              refine rw_go hX [(47, .aload_n 0), (48, .getfield 59), (51, .iload 4), (53, .iaload)] (by decide +kernel) (Ps := [vp_in (nI k) 1000]) (pc' := 54) (lv' := [(0, .ref 66), (1, .int (nI w)), (2, .int (nI u)), (3, .int (nI (cB (cv2 (mB (ML V w u (vR V 4))) (mG (ML V w u (vR V 4))) k) 50))), (4, .int (nI k))]) (st' := [.int ((sr τ2 90 (r52 f9 (cv2 (mB (ML V w u (vR V 4))) (mG (ML V w u (vR V 4))) k))) 83 (nI k).toNatClampNeg)]) (σ' := sr τ2 90 (r52 f9 (cv2 (mB (ML V w u (vR V 4))) (mG (ML V w u (vR V 4))) k))) rfl (vp_in_nI (by omega) (by omega)) ?_
              rw [show ((sr τ2 90 (r52 f9 (cv2 (mB (ML V w u (vR V 4))) (mG (ML V w u (vR V 4))) k))) 83 (nI k).toNatClampNeg) = nI (mB (ML V w u (vR V 4)) k) from (by rw [nI_clamp (by omega), (hMk.2 k h44).1])]
              refine rw_go hX [(54, .istore 5)] (by decide +kernel) (Ps := []) (pc' := 56) (lv' := [(0, .ref 66), (1, .int (nI w)), (2, .int (nI u)), (3, .int (nI (cB (cv2 (mB (ML V w u (vR V 4))) (mG (ML V w u (vR V 4))) k) 50))), (4, .int (nI k)), (5, .int (nI (mB (ML V w u (vR V 4)) k)))]) (st' := []) (σ' := sr τ2 90 (r52 f9 (cv2 (mB (ML V w u (vR V 4))) (mG (ML V w u (vR V 4))) k))) rfl True.intro ?_
              have L56 : ∀ (μ56 : Nat) (i : Nat), μ56 = 50 - i → (mB (ML V w u (vR V 4)) k ≤ i) → (i ≤ mB (ML V w u (vR V 4)) k + mG (ML V w u (vR V 4)) k) → RW E G 3 6 (QI E G (fun r σ' => AN V σ' ∧ MQu σ σ' ∧ r = bz (hld V w u))) 56 [(0, .ref 66), (1, .int (nI w)), (2, .int (nI u)), (3, .int (nI (cB (iS (cv2 (mB (ML V w u (vR V 4))) (mG (ML V w u (vR V 4))) k) (mB (ML V w u (vR V 4)) k) i) 50))), (4, .int (nI k)), (5, .int (nI i))] [] (sr τ2 90 (r52 f9 (iS (cv2 (mB (ML V w u (vR V 4))) (mG (ML V w u (vR V 4))) k) (mB (ML V w u (vR V 4)) k) i))) := by
                intro μ56
                induction μ56 using Nat.strongRecOn with
                | ind μ56 ih56 =>
                  intro i hμ56 hi1 hi2
                  have hMi : MTm (ML V w u (vR V 4)) (sr τ2 90 (r52 f9 (iS (cv2 (mB (ML V w u (vR V 4))) (mG (ML V w u (vR V 4))) k) (mB (ML V w u (vR V 4)) k) i))) := MTm_k hM fun q hq => sr_n _ _ (fun z => by rw [z] at hq; revert hq; decide)
                  have hMk := hMi
                  refine rw_go hX [(56, .iload 5), (58, .aload_n 0), (59, .getfield 59), (62, .iload 4), (64, .iaload)] (by decide +kernel) (Ps := [vp_in (nI k) 1000]) (pc' := 65) (lv' := [(0, .ref 66), (1, .int (nI w)), (2, .int (nI u)), (3, .int (nI (cB (iS (cv2 (mB (ML V w u (vR V 4))) (mG (ML V w u (vR V 4))) k) (mB (ML V w u (vR V 4)) k) i) 50))), (4, .int (nI k)), (5, .int (nI i))]) (st' := [.int ((sr τ2 90 (r52 f9 (iS (cv2 (mB (ML V w u (vR V 4))) (mG (ML V w u (vR V 4))) k) (mB (ML V w u (vR V 4)) k) i))) 83 (nI k).toNatClampNeg), .int (nI i)]) (σ' := sr τ2 90 (r52 f9 (iS (cv2 (mB (ML V w u (vR V 4))) (mG (ML V w u (vR V 4))) k) (mB (ML V w u (vR V 4)) k) i))) rfl (vp_in_nI (by omega) (by omega)) ?_
                  rw [show ((sr τ2 90 (r52 f9 (iS (cv2 (mB (ML V w u (vR V 4))) (mG (ML V w u (vR V 4))) k) (mB (ML V w u (vR V 4)) k) i))) 83 (nI k).toNatClampNeg) = nI (mB (ML V w u (vR V 4)) k) from (by rw [nI_clamp (by omega), (hMk.2 k h44).1])]
                  refine rw_go hX [(65, .aload_n 0), (66, .getfield 65), (69, .iload 4), (71, .iaload)] (by decide +kernel) (Ps := [vp_in (nI k) 1000]) (pc' := 72) (lv' := [(0, .ref 66), (1, .int (nI w)), (2, .int (nI u)), (3, .int (nI (cB (iS (cv2 (mB (ML V w u (vR V 4))) (mG (ML V w u (vR V 4))) k) (mB (ML V w u (vR V 4)) k) i) 50))), (4, .int (nI k)), (5, .int (nI i))]) (st' := [.int ((sr τ2 90 (r52 f9 (iS (cv2 (mB (ML V w u (vR V 4))) (mG (ML V w u (vR V 4))) k) (mB (ML V w u (vR V 4)) k) i))) 85 (nI k).toNatClampNeg), .int (nI (mB (ML V w u (vR V 4)) k)), .int (nI i)]) (σ' := sr τ2 90 (r52 f9 (iS (cv2 (mB (ML V w u (vR V 4))) (mG (ML V w u (vR V 4))) k) (mB (ML V w u (vR V 4)) k) i))) rfl (vp_in_nI (by omega) (by omega)) ?_
                  rw [show ((sr τ2 90 (r52 f9 (iS (cv2 (mB (ML V w u (vR V 4))) (mG (ML V w u (vR V 4))) k) (mB (ML V w u (vR V 4)) k) i))) 85 (nI k).toNatClampNeg) = nI (mG (ML V w u (vR V 4)) k) from (by rw [nI_clamp (by omega), (hMk.2 k h44).2.2])]
                  refine rw_go hX [(72, .iadd)] (by decide +kernel) (Ps := []) (pc' := 73) (lv' := [(0, .ref 66), (1, .int (nI w)), (2, .int (nI u)), (3, .int (nI (cB (iS (cv2 (mB (ML V w u (vR V 4))) (mG (ML V w u (vR V 4))) k) (mB (ML V w u (vR V 4)) k) i) 50))), (4, .int (nI k)), (5, .int (nI i))]) (st' := [.int (nI (mB (ML V w u (vR V 4)) k) + nI (mG (ML V w u (vR V 4)) k)), .int (nI i)]) (σ' := sr τ2 90 (r52 f9 (iS (cv2 (mB (ML V w u (vR V 4))) (mG (ML V w u (vR V 4))) k) (mB (ML V w u (vR V 4)) k) i))) rfl True.intro ?_
                  rw [show (nI (mB (ML V w u (vR V 4)) k) + nI (mG (ML V w u (vR V 4)) k)) = nI (mB (ML V w u (vR V 4)) k + mG (ML V w u (vR V 4)) k) from nI_add _ _]
                  refine rw_icmp hX (tgt := 108) (cnd := .ge) (off := 35) (by decide +kernel) (by decide) (fun h73 => ?_) (fun h73 => ?_)
                  · replace h73 := c2_geT h73
                    refine rw_go hX [(108, .iinc 4 1)] (by decide +kernel) (Ps := []) (pc' := 111) (lv' := [(0, .ref 66), (1, .int (nI w)), (2, .int (nI u)), (3, .int (nI (cB (iS (cv2 (mB (ML V w u (vR V 4))) (mG (ML V w u (vR V 4))) k) (mB (ML V w u (vR V 4)) k) i) 50))), (4, .int (nI k + nI 1)), (5, .int (nI i))]) (st' := []) (σ' := sr τ2 90 (r52 f9 (iS (cv2 (mB (ML V w u (vR V 4))) (mG (ML V w u (vR V 4))) k) (mB (ML V w u (vR V 4)) k) i))) rfl True.intro ?_
                    rw [show (nI k + nI 1) = nI (k + 1) from nI_add _ _]
                    refine rw_go hX [(111, .goto (-73))] (by decide +kernel) (Ps := []) (pc' := 38) (lv' := [(0, .ref 66), (1, .int (nI w)), (2, .int (nI u)), (3, .int (nI (cB (iS (cv2 (mB (ML V w u (vR V 4))) (mG (ML V w u (vR V 4))) k) (mB (ML V w u (vR V 4)) k) i) 50))), (4, .int (nI (k + 1))), (5, .int (nI i))]) (st' := []) (σ' := sr τ2 90 (r52 f9 (iS (cv2 (mB (ML V w u (vR V 4))) (mG (ML V w u (vR V 4))) k) (mB (ML V w u (vR V 4)) k) i))) rfl True.intro ?_
                    refine rw_lsub (ks := [0, 1, 2, 3, 4]) (lv' := [(0, .ref 66), (1, .int (nI w)), (2, .int (nI u)), (3, .int (nI (cB (iS (cv2 (mB (ML V w u (vR V 4))) (mG (ML V w u (vR V 4))) k) (mB (ML V w u (vR V 4)) k) i) 50))), (4, .int (nI (k + 1)))]) rfl ?_
                    have hcl : ∀ j, j < 50 → (iS (cv2 (mB (ML V w u (vR V 4))) (mG (ML V w u (vR V 4))) k) (mB (ML V w u (vR V 4)) k) i) j = cv2 (mB (ML V w u (vR V 4))) (mG (ML V w u (vR V 4))) (k + 1) j := fun j hj => by
                      rw [← cv2_end hj, show min 50 (mB (ML V w u (vR V 4)) k + mG (ML V w u (vR V 4)) k) = i by omega]
                    have q := ih38 ((ML V w u (vR V 4)).length - (k + 1)) (by omega) (k + 1) f9 rfl (by omega)
                    rw [← cB_congr hcl, ← r52_e hcl] at q
                    exact q
                  · replace h73 := c2_geF h73
                    have hib : i < 50 := by omega
                    refine rw_go hX [(76, .iload_n 3), (77, .aload_n 0), (78, .getfield 80), (81, .iload 5), (83, .baload)] (by decide +kernel) (Ps := [vp_in (nI i) 50]) (pc' := 84) (lv' := [(0, .ref 66), (1, .int (nI w)), (2, .int (nI u)), (3, .int (nI (cB (iS (cv2 (mB (ML V w u (vR V 4))) (mG (ML V w u (vR V 4))) k) (mB (ML V w u (vR V 4)) k) i) 50))), (4, .int (nI k)), (5, .int (nI i))]) (st' := [.int ((sr τ2 90 (r52 f9 (iS (cv2 (mB (ML V w u (vR V 4))) (mG (ML V w u (vR V 4))) k) (mB (ML V w u (vR V 4)) k) i))) 90 (nI i).toNatClampNeg), .int (nI (cB (iS (cv2 (mB (ML V w u (vR V 4))) (mG (ML V w u (vR V 4))) k) (mB (ML V w u (vR V 4)) k) i) 50))]) (σ' := sr τ2 90 (r52 f9 (iS (cv2 (mB (ML V w u (vR V 4))) (mG (ML V w u (vR V 4))) k) (mB (ML V w u (vR V 4)) k) i))) rfl (vp_in_nI (by omega) (by omega)) ?_
                    rw [show ((sr τ2 90 (r52 f9 (iS (cv2 (mB (ML V w u (vR V 4))) (mG (ML V w u (vR V 4))) k) (mB (ML V w u (vR V 4)) k) i))) 90 (nI i).toNatClampNeg) = bz ((iS (cv2 (mB (ML V w u (vR V 4))) (mG (ML V w u (vR V 4))) k) (mB (ML V w u (vR V 4)) k) i) i) from (by rw [nI_clamp (by omega), sr_s, r52_at (by omega)])]
                    refine rw_if hX (tgt := 91) (cnd := .eq) (off := 7) (by decide +kernel) (by decide) (fun h84 => ?_) (fun h84 => ?_)
                    · replace h84 := zb_eqT h84
                      refine rw_go hX [(91, .iconst 1), (92, .iadd)] (by decide +kernel) (Ps := []) (pc' := 93) (lv' := [(0, .ref 66), (1, .int (nI w)), (2, .int (nI u)), (3, .int (nI (cB (iS (cv2 (mB (ML V w u (vR V 4))) (mG (ML V w u (vR V 4))) k) (mB (ML V w u (vR V 4)) k) i) 50))), (4, .int (nI k)), (5, .int (nI i))]) (st' := [.int (nI (cB (iS (cv2 (mB (ML V w u (vR V 4))) (mG (ML V w u (vR V 4))) k) (mB (ML V w u (vR V 4)) k) i) 50) + nI 1)]) (σ' := sr τ2 90 (r52 f9 (iS (cv2 (mB (ML V w u (vR V 4))) (mG (ML V w u (vR V 4))) k) (mB (ML V w u (vR V 4)) k) i))) rfl True.intro ?_
                      rw [show (nI (cB (iS (cv2 (mB (ML V w u (vR V 4))) (mG (ML V w u (vR V 4))) k) (mB (ML V w u (vR V 4)) k) i) 50) + nI 1) = nI (cB (iS (cv2 (mB (ML V w u (vR V 4))) (mG (ML V w u (vR V 4))) k) (mB (ML V w u (vR V 4)) k) i) 50 + 1) from nI_add _ _]
                      refine rw_go hX [(93, .istore_n 3), (94, .aload_n 0), (95, .getfield 80), (98, .iload 5), (100, .iconst 1), (101, .bastore)] (by decide +kernel) (Ps := [vp_in (nI i) 50, (nI 1) = 0 ∨ (nI 1) = 1]) (pc' := 102) (lv' := [(0, .ref 66), (1, .int (nI w)), (2, .int (nI u)), (3, .int (nI (cB (iS (cv2 (mB (ML V w u (vR V 4))) (mG (ML V w u (vR V 4))) k) (mB (ML V w u (vR V 4)) k) i) 50 + 1))), (4, .int (nI k)), (5, .int (nI i))]) (st' := []) (σ' := sw (sr τ2 90 (r52 f9 (iS (cv2 (mB (ML V w u (vR V 4))) (mG (ML V w u (vR V 4))) k) (mB (ML V w u (vR V 4)) k) i))) 90 (nI i).toNatClampNeg (nI 1)) rfl (⟨vp_in_nI (by omega) (by omega), Or.inr rfl⟩) ?_
                      rw [show (sw (sr τ2 90 (r52 f9 (iS (cv2 (mB (ML V w u (vR V 4))) (mG (ML V w u (vR V 4))) k) (mB (ML V w u (vR V 4)) k) i))) 90 (nI i).toNatClampNeg (nI 1)) = sw (sr τ2 90 (r52 f9 (iS (cv2 (mB (ML V w u (vR V 4))) (mG (ML V w u (vR V 4))) k) (mB (ML V w u (vR V 4)) k) i))) 90 i (nI 1) from (by rw [nI_clamp (by omega)])]
                      refine rw_go hX [(102, .iinc 5 1)] (by decide +kernel) (Ps := []) (pc' := 105) (lv' := [(0, .ref 66), (1, .int (nI w)), (2, .int (nI u)), (3, .int (nI (cB (iS (cv2 (mB (ML V w u (vR V 4))) (mG (ML V w u (vR V 4))) k) (mB (ML V w u (vR V 4)) k) i) 50 + 1))), (4, .int (nI k)), (5, .int (nI i + nI 1))]) (st' := []) (σ' := sw (sr τ2 90 (r52 f9 (iS (cv2 (mB (ML V w u (vR V 4))) (mG (ML V w u (vR V 4))) k) (mB (ML V w u (vR V 4)) k) i))) 90 i (nI 1)) rfl True.intro ?_
                      rw [show (nI i + nI 1) = nI (i + 1) from nI_add _ _]
                      refine rw_go hX [(105, .goto (-49))] (by decide +kernel) (Ps := []) (pc' := 56) (lv' := [(0, .ref 66), (1, .int (nI w)), (2, .int (nI u)), (3, .int (nI (cB (iS (cv2 (mB (ML V w u (vR V 4))) (mG (ML V w u (vR V 4))) k) (mB (ML V w u (vR V 4)) k) i) 50 + 1))), (4, .int (nI k)), (5, .int (nI (i + 1)))]) (st' := []) (σ' := sw (sr τ2 90 (r52 f9 (iS (cv2 (mB (ML V w u (vR V 4))) (mG (ML V w u (vR V 4))) k) (mB (ML V w u (vR V 4)) k) i))) 90 i (nI 1)) rfl True.intro ?_
                      refine rw_lsub (ks := [0, 1, 2, 3, 4, 5]) (lv' := [(0, .ref 66), (1, .int (nI w)), (2, .int (nI u)), (3, .int (nI (cB (iS (cv2 (mB (ML V w u (vR V 4))) (mG (ML V w u (vR V 4))) k) (mB (ML V w u (vR V 4)) k) i) 50 + 1))), (4, .int (nI k)), (5, .int (nI (i + 1)))]) rfl ?_
                      rw [sw_sr, r52_1 _ _ (by omega), ← iS_1 _ hi1]
                      have q := ih56 (50 - (i + 1)) (by omega) (i + 1) rfl (by omega) (by omega)
                      rw [show cB (iS (cv2 (mB (ML V w u (vR V 4))) (mG (ML V w u (vR V 4))) k) (mB (ML V w u (vR V 4)) k) (i + 1)) 50 = cB (iS (cv2 (mB (ML V w u (vR V 4))) (mG (ML V w u (vR V 4))) k) (mB (ML V w u (vR V 4)) k) i) 50 + (if (iS (cv2 (mB (ML V w u (vR V 4))) (mG (ML V w u (vR V 4))) k) (mB (ML V w u (vR V 4)) k) i) i = true then 0 else 1) from by rw [iS_1 _ hi1]; exact cB_uN (by omega), h84] at q
                      exact q
                    · replace h84 := zb_eqF h84
                      refine rw_go hX [(87, .iconst 0), (88, .goto 4), (92, .iadd)] (by decide +kernel) (Ps := []) (pc' := 93) (lv' := [(0, .ref 66), (1, .int (nI w)), (2, .int (nI u)), (3, .int (nI (cB (iS (cv2 (mB (ML V w u (vR V 4))) (mG (ML V w u (vR V 4))) k) (mB (ML V w u (vR V 4)) k) i) 50))), (4, .int (nI k)), (5, .int (nI i))]) (st' := [.int (nI (cB (iS (cv2 (mB (ML V w u (vR V 4))) (mG (ML V w u (vR V 4))) k) (mB (ML V w u (vR V 4)) k) i) 50) + nI 0)]) (σ' := sr τ2 90 (r52 f9 (iS (cv2 (mB (ML V w u (vR V 4))) (mG (ML V w u (vR V 4))) k) (mB (ML V w u (vR V 4)) k) i))) rfl True.intro ?_
                      rw [show (nI (cB (iS (cv2 (mB (ML V w u (vR V 4))) (mG (ML V w u (vR V 4))) k) (mB (ML V w u (vR V 4)) k) i) 50) + nI 0) = nI (cB (iS (cv2 (mB (ML V w u (vR V 4))) (mG (ML V w u (vR V 4))) k) (mB (ML V w u (vR V 4)) k) i) 50 + 0) from nI_add _ _]
                      refine rw_go hX [(93, .istore_n 3), (94, .aload_n 0), (95, .getfield 80), (98, .iload 5), (100, .iconst 1), (101, .bastore)] (by decide +kernel) (Ps := [vp_in (nI i) 50, (nI 1) = 0 ∨ (nI 1) = 1]) (pc' := 102) (lv' := [(0, .ref 66), (1, .int (nI w)), (2, .int (nI u)), (3, .int (nI (cB (iS (cv2 (mB (ML V w u (vR V 4))) (mG (ML V w u (vR V 4))) k) (mB (ML V w u (vR V 4)) k) i) 50 + 0))), (4, .int (nI k)), (5, .int (nI i))]) (st' := []) (σ' := sw (sr τ2 90 (r52 f9 (iS (cv2 (mB (ML V w u (vR V 4))) (mG (ML V w u (vR V 4))) k) (mB (ML V w u (vR V 4)) k) i))) 90 (nI i).toNatClampNeg (nI 1)) rfl (⟨vp_in_nI (by omega) (by omega), Or.inr rfl⟩) ?_
                      rw [show (sw (sr τ2 90 (r52 f9 (iS (cv2 (mB (ML V w u (vR V 4))) (mG (ML V w u (vR V 4))) k) (mB (ML V w u (vR V 4)) k) i))) 90 (nI i).toNatClampNeg (nI 1)) = sw (sr τ2 90 (r52 f9 (iS (cv2 (mB (ML V w u (vR V 4))) (mG (ML V w u (vR V 4))) k) (mB (ML V w u (vR V 4)) k) i))) 90 i (nI 1) from (by rw [nI_clamp (by omega)])]
                      refine rw_go hX [(102, .iinc 5 1)] (by decide +kernel) (Ps := []) (pc' := 105) (lv' := [(0, .ref 66), (1, .int (nI w)), (2, .int (nI u)), (3, .int (nI (cB (iS (cv2 (mB (ML V w u (vR V 4))) (mG (ML V w u (vR V 4))) k) (mB (ML V w u (vR V 4)) k) i) 50 + 0))), (4, .int (nI k)), (5, .int (nI i + nI 1))]) (st' := []) (σ' := sw (sr τ2 90 (r52 f9 (iS (cv2 (mB (ML V w u (vR V 4))) (mG (ML V w u (vR V 4))) k) (mB (ML V w u (vR V 4)) k) i))) 90 i (nI 1)) rfl True.intro ?_
                      rw [show (nI i + nI 1) = nI (i + 1) from nI_add _ _]
                      refine rw_go hX [(105, .goto (-49))] (by decide +kernel) (Ps := []) (pc' := 56) (lv' := [(0, .ref 66), (1, .int (nI w)), (2, .int (nI u)), (3, .int (nI (cB (iS (cv2 (mB (ML V w u (vR V 4))) (mG (ML V w u (vR V 4))) k) (mB (ML V w u (vR V 4)) k) i) 50 + 0))), (4, .int (nI k)), (5, .int (nI (i + 1)))]) (st' := []) (σ' := sw (sr τ2 90 (r52 f9 (iS (cv2 (mB (ML V w u (vR V 4))) (mG (ML V w u (vR V 4))) k) (mB (ML V w u (vR V 4)) k) i))) 90 i (nI 1)) rfl True.intro ?_
                      refine rw_lsub (ks := [0, 1, 2, 3, 4, 5]) (lv' := [(0, .ref 66), (1, .int (nI w)), (2, .int (nI u)), (3, .int (nI (cB (iS (cv2 (mB (ML V w u (vR V 4))) (mG (ML V w u (vR V 4))) k) (mB (ML V w u (vR V 4)) k) i) 50 + 0))), (4, .int (nI k)), (5, .int (nI (i + 1)))]) rfl ?_
                      rw [sw_sr, r52_1 _ _ (by omega), ← iS_1 _ hi1]
                      have q := ih56 (50 - (i + 1)) (by omega) (i + 1) rfl (by omega) (by omega)
                      rw [show cB (iS (cv2 (mB (ML V w u (vR V 4))) (mG (ML V w u (vR V 4))) k) (mB (ML V w u (vR V 4)) k) (i + 1)) 50 = cB (iS (cv2 (mB (ML V w u (vR V 4))) (mG (ML V w u (vR V 4))) k) (mB (ML V w u (vR V 4)) k) i) 50 + (if (iS (cv2 (mB (ML V w u (vR V 4))) (mG (ML V w u (vR V 4))) k) (mB (ML V w u (vR V 4)) k) i) i = true then 0 else 1) from by rw [iS_1 _ hi1]; exact cB_uN (by omega), h84] at q
                      exact q
              refine rw_lsub (ks := [0, 1, 2, 3, 4, 5]) (lv' := [(0, .ref 66), (1, .int (nI w)), (2, .int (nI u)), (3, .int (nI (cB (cv2 (mB (ML V w u (vR V 4))) (mG (ML V w u (vR V 4))) k) 50))), (4, .int (nI k)), (5, .int (nI (mB (ML V w u (vR V 4)) k)))]) rfl ?_
              have q := L56 (50 - mB (ML V w u (vR V 4)) k) (mB (ML V w u (vR V 4)) k) rfl (Nat.le_refl _) (by omega)
              rw [iS_0] at q
              exact q
        refine rw_lsub (ks := [0, 1, 2, 3, 4]) (lv' := [(0, .ref 66), (1, .int (nI w)), (2, .int (nI u)), (3, .int (nI 0)), (4, .int (nI 0))]) rfl ?_
        have q := L38 (ML V w u (vR V 4)).length 0 (τ2 90) rfl (by omega)
        rw [ei, r52_0]
        rw [show cB (cv2 (mB (ML V w u (vR V 4))) (mG (ML V w u (vR V 4))) 0) 50 = 0 from cB_none fun _ _ => rfl] at q
        exact q
      · replace h17 := c2_geF h17
        refine rw_go hX [(20, .aload_n 0), (21, .getfield 80), (24, .iload_n 3), (25, .iconst 0), (26, .bastore)] (by decide +kernel) (Ps := [vp_in (nI i) 50, (nI 0) = 0 ∨ (nI 0) = 1]) (pc' := 27) (lv' := [(0, .ref 66), (1, .int (nI w)), (2, .int (nI u)), (3, .int (nI i))]) (st' := []) (σ' := sw (sr τ2 90 (fl (τ2 90) 0 i (nI 0))) 90 (nI i).toNatClampNeg (nI 0)) rfl (⟨vp_in_nI (by omega) (by omega), Or.inl rfl⟩) ?_
        rw [show (sw (sr τ2 90 (fl (τ2 90) 0 i (nI 0))) 90 (nI i).toNatClampNeg (nI 0)) = sw (sr τ2 90 (fl (τ2 90) 0 i (nI 0))) 90 i (nI 0) from (by rw [nI_clamp (by omega)])]
        refine rw_go hX [(27, .iinc 3 1)] (by decide +kernel) (Ps := []) (pc' := 30) (lv' := [(0, .ref 66), (1, .int (nI w)), (2, .int (nI u)), (3, .int (nI i + nI 1))]) (st' := []) (σ' := sw (sr τ2 90 (fl (τ2 90) 0 i (nI 0))) 90 i (nI 0)) rfl True.intro ?_
        rw [show (nI i + nI 1) = nI (i + 1) from nI_add _ _]
        refine rw_go hX [(30, .goto (-16))] (by decide +kernel) (Ps := []) (pc' := 14) (lv' := [(0, .ref 66), (1, .int (nI w)), (2, .int (nI u)), (3, .int (nI (i + 1)))]) (st' := []) (σ' := sw (sr τ2 90 (fl (τ2 90) 0 i (nI 0))) 90 i (nI 0)) rfl True.intro ?_
        refine rw_lsub (ks := [0, 1, 2, 3]) (lv' := [(0, .ref 66), (1, .int (nI w)), (2, .int (nI u)), (3, .int (nI (i + 1)))]) rfl ?_
        rw [sw_sr, fl_1 _ _ (Nat.zero_le _)]
        exact ih14 (50 - (i + 1)) (by omega) (i + 1) rfl (by omega)
  refine rw_lsub (ks := [0, 1, 2, 3]) (lv' := [(0, .ref 66), (1, .int (nI w)), (2, .int (nI u)), (3, .int (nI 0))]) rfl ?_
  have q := L14 50 0 rfl (by omega)
  rw [fl_0, sr_id] at q
  exact q
