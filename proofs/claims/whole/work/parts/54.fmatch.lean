/-! the calls on prints and matches -/
set_option maxRecDepth 20000 in
set_option maxHeartbeats 4000000 in
theorem f_print (l : Launch) (G : Gl) (σ : Mm) (V : Mm) (xw xk xq : Int32) (hV : vw σ 2 = V) (hv : wf V) : AMi l G 5 mX9_print [.ref 0, .int xw, .int xk, .int xq] σ (fun r σ' => r = aPrint V xw xk xq ∧ XQ σ σ') := by
  refine rw_inI 9 (by decide +kernel) rfl rfl ?_
  intro E hE hX
  subst hE
  refine rw_go hX [(0, .iload_n 1)] (by decide +kernel) (Ps := []) (pc' := 1) (lv' := [(0, .ref 0), (1, .int xw), (2, .int xk), (3, .int xq)]) (st' := [.int xw]) (σ' := σ) rfl True.intro ?_
  refine rw_callSi hX (as := [.int xw]) (rest := []) (c_X9_isWork _ _ _ (xw)) (by decide +kernel) msX9_isWork (Or.inl lk9_56) rfl (by decide) (Nat.le_of_ble_eq_true rfl) rfl ?_
  intro r1 σ1 hr
  rw [hr.1, show r1 = bz (decide (0 ≤ xw ∧ xw ≤ 4)) from hr.2]
  clear hr σ1 r1
  refine rw_if hX (tgt := 15) (cnd := .eq) (off := 11) (by decide +kernel) (by decide) (fun h4 => ?_) (fun h4 => ?_)
  · replace h4 := of_decide_eq_false (zb_eqT h4)
    refine rw_go hX [(15, .bipush (-2))] (by decide +kernel) (Ps := []) (pc' := 17) (lv' := [(0, .ref 0), (1, .int xw), (2, .int xk), (3, .int xq)]) (st' := [.int (-(nI 2))]) (σ' := σ) rfl True.intro ?_
    exact rw_iret hX (by decide +kernel) (⟨by simp only [aPrint, eq_false h4, if_true, if_false, Bool.false_eq_true, and_self, and_true, true_and, and_false, false_and, oel_n, oel_s, decide_true, decide_false], XQ_rfl _⟩)
  · replace h4 := of_decide_eq_true (zb_eqF h4)
    obtain ⟨w, hw, rfl⟩ := rng (m := 4) (by omega) h4
    have hw : w < 5 := hw
    have hcw : (nI w).toNatClampNeg = w := nI_clamp (by omega)
    refine rw_go hX [(7, .iload_n 3), (8, .iconst 3)] (by decide +kernel) (Ps := []) (pc' := 9) (lv' := [(0, .ref 0), (1, .int (nI w)), (2, .int xk), (3, .int xq)]) (st' := [.int (nI 3), .int xq]) (σ' := σ) rfl True.intro ?_
    refine rw_callSi hX (as := [.int xq, .int (nI 3)]) (rest := []) (c_X9_isOneOf _ _ _ (xq) (nI 3)) (by decide +kernel) msX9_isOneOf (Or.inl lk9_97) rfl (by decide) (Nat.le_of_ble_eq_true rfl) rfl ?_
    intro r1 σ1 hr
    rw [hr.1, show r1 = bz (decide (0 ≤ xq ∧ xq < nI 3)) from hr.2]
    clear hr σ1 r1
    refine rw_if hX (tgt := 18) (cnd := .ne) (off := 6) (by decide +kernel) (by decide) (fun h12 => ?_) (fun h12 => ?_)
    · replace h12 := of_decide_eq_true (zb_neT h12)
      refine rw_go hX [(18, .aload_n 0), (19, .iload_n 1)] (by decide +kernel) (Ps := []) (pc' := 20) (lv' := [(0, .ref 0), (1, .int (nI w)), (2, .int xk), (3, .int xq)]) (st' := [.int (nI w), .ref 0]) (σ' := σ) rfl True.intro ?_
      refine rw_callVi hX (as := [.int (nI w)]) (rest := []) (c_missing _ _ _ V w hV hv hw) (by decide +kernel) mvX9_isMissing lk9_78 (ci := 8) rfl rfl rfl (by decide) (Nat.le_of_ble_eq_true rfl) rfl ?_
      intro r1 σ1 hr
      rw [hr.1, show r1 = bz (decide (vS V w = 0)) from hr.2]
      clear hr σ1 r1
      refine rw_if hX (tgt := 29) (cnd := .eq) (off := 6) (by decide +kernel) (by decide) (fun h23 => ?_) (fun h23 => ?_)
      · replace h23 := of_decide_eq_false (zb_eqT h23)
        refine rw_go hX [(29, .aload_n 0), (30, .getfield 25), (33, .aload_n 0), (34, .getfield 12)] (by decide +kernel) (Ps := []) (pc' := 37) (lv' := [(0, .ref 0), (1, .int (nI w)), (2, .int xk), (3, .int xq)]) (st' := [.ref 1, .ref 22]) (σ' := σ) rfl True.intro ?_
        refine rw_callVv hX (as := [.ref 1]) (rest := []) (c_look_1 _ _ _ V hV hv) (by decide +kernel) mvX8_look lk9_152 (ci := 7) rfl rfl rfl (by decide) (Nat.le_of_ble_eq_true rfl) rfl ?_
        intro τ1 ht1
        obtain ⟨F, hS, h0⟩ := LK_SN ht1
        have hq1 := XQ_S (LK_SQ ht1)
        have hF5 := hS.2.1
        have hg5 := gC_50 hv hw
        refine rw_go hX [(40, .iload_n 2), (41, .iconst (-1))] (by decide +kernel) (Ps := []) (pc' := 42) (lv' := [(0, .ref 0), (1, .int (nI w)), (2, .int xk), (3, .int xq)]) (st' := [.int (-(nI 1)), .int xk]) (σ' := τ1) rfl True.intro ?_
        refine rw_icmp hX (tgt := 57) (cnd := .ne) (off := 15) (by decide +kernel) (by decide) (fun h42 => ?_) (fun h42 => ?_)
        · replace h42 : (xk ≠ (-(nI 1))) := h42
          refine rw_go hX [(57, .aload_n 0), (58, .getfield 25), (61, .getfield 105), (64, .iload_n 1), (65, .iload_n 2)] (by decide +kernel) (Ps := []) (pc' := 66) (lv' := [(0, .ref 0), (1, .int (nI w)), (2, .int xk), (3, .int xq)]) (st' := [.int xk, .int (nI w), .ref 23]) (σ' := τ1) rfl True.intro ?_
          refine rw_callVi hX (as := [.int (nI w), .int xk]) (rest := []) (c_printAt _ _ _ w (gC V w) xk hw (hS.1 w hw).2.1 (by omega)) (by decide +kernel) mvX3_printAt lk9_159 (ci := 2) rfl rfl rfl (by decide) (Nat.le_of_ble_eq_true rfl) rfl ?_
          intro r1 σ1 hr
          rw [hr.1]
          have hr2 := hr.2
          clear hr σ1
          refine rw_go hX [(69, .istore 4), (71, .iload 4), (73, .iconst (-1))] (by decide +kernel) (Ps := []) (pc' := 74) (lv' := [(0, .ref 0), (1, .int (nI w)), (2, .int xk), (3, .int xq), (4, .int r1)]) (st' := [.int (-(nI 1)), .int r1]) (σ' := τ1) rfl True.intro ?_
          refine rw_icmp hX (tgt := 80) (cnd := .ne) (off := 6) (by decide +kernel) (by decide) (fun h74 => ?_) (fun h74 => ?_)
          · obtain ⟨g, hg, hpr, hkk, rfl⟩ : ∃ g, g < gC V w ∧ τ1 30 (50 * w + g) ≠ 0 ∧ nI (pC (τ1 30) w g) = xk ∧ r1 = nI g := by
              rcases hr2 with q | q
              · exact q
              · exact absurd q.2 h74
            have hpr2 := ((hS.1 w hw).2.2 g hg).2.mp hpr
            have hpa : pAtF V w xk (gC V w) = some g := pAtF_some hpr2 (by rw [← pC_e (hS.1 w hw) (by omega)]; exact hkk) (by omega) hg (by omega)
            obtain ⟨f, hf, hf2, hf3, hf4⟩ := hS.2.2.2.2.1 _ (okc_i hv hw hg)
            refine rw_go hX [(80, .aload_n 0), (81, .getfield 25), (84, .getfield 105), (87, .iload_n 1), (88, .iload 4)] (by decide +kernel) (Ps := []) (pc' := 90) (lv' := [(0, .ref 0), (1, .int (nI w)), (2, .int xk), (3, .int xq), (4, .int (nI g))]) (st' := [.int (nI g), .int (nI w), .ref 23]) (σ' := τ1) rfl True.intro ?_
            refine rw_callVi hX (as := [.int (nI w), .int (nI g)]) (rest := []) (c_formAt _ _ _ w g hw (by omega)) (by decide +kernel) mvX3_formAt lk9_162 (ci := 2) rfl rfl rfl (by decide) (Nat.le_of_ble_eq_true rfl) rfl ?_
            intro r1 σ1 hr
            rw [hr.1, show r1 = nI f from hr.2.trans hf2]
            clear hr σ1 r1
            refine rw_go hX [(93, .istore 5), (95, .iload_n 3)] (by decide +kernel) (Ps := []) (pc' := 96) (lv' := [(0, .ref 0), (1, .int (nI w)), (2, .int xk), (3, .int xq), (4, .int (nI g)), (5, .int (nI f))]) (st' := [.int xq]) (σ' := τ1) rfl True.intro ?_
            refine rw_if hX (tgt := 102) (cnd := .ne) (off := 6) (by decide +kernel) (by decide) (fun h96 => ?_) (fun h96 => ?_)
            · replace h96 : (xq ≠ 0) := h96
              refine rw_go hX [(102, .iload_n 3), (103, .iconst 1)] (by decide +kernel) (Ps := []) (pc' := 104) (lv' := [(0, .ref 0), (1, .int (nI w)), (2, .int xk), (3, .int xq), (4, .int (nI g)), (5, .int (nI f))]) (st' := [.int (nI 1), .int xq]) (σ' := τ1) rfl True.intro ?_
              refine rw_icmp hX (tgt := 122) (cnd := .ne) (off := 18) (by decide +kernel) (by decide) (fun h104 => ?_) (fun h104 => ?_)
              · replace h104 : (xq ≠ nI 1) := h104
                refine rw_go hX [(122, .aload_n 0), (123, .getfield 25), (126, .getfield 165), (129, .iload 5)] (by decide +kernel) (Ps := []) (pc' := 131) (lv' := [(0, .ref 0), (1, .int (nI w)), (2, .int xk), (3, .int xq), (4, .int (nI g)), (5, .int (nI f))]) (st' := [.int (nI f), .ref 31]) (σ' := τ1) rfl True.intro ?_
                refine rw_callVi hX (as := [.int (nI f)]) (rest := []) (c_isCommon _ _ _ f F hS.2.2.1 hF5 hf) (by decide +kernel) mvX0_isCommon lk9_174 (ci := 0) rfl rfl rfl (by decide) (Nat.le_of_ble_eq_true rfl) rfl ?_
                intro r1 σ1 hr
                rw [hr.1, show r1 = bz (CM V (50 * w + g)) from hr.2.trans (by rw [hf4])]
                clear hr σ1 r1
                refine rw_callSi hX (as := [.int (bz (CM V (50 * w + g)))]) (rest := []) (c_X9_asNumber _ _ _ (CM V (50 * w + g))) (by decide +kernel) msX9_asNumber (Or.inl lk9_177) rfl (by decide) (Nat.le_of_ble_eq_true rfl) rfl ?_
                intro r1 σ1 hr
                rw [hr.1, show r1 = bz (CM V (50 * w + g)) from hr.2]
                clear hr σ1 r1
                exact rw_iret hX (by decide +kernel) (⟨by simp only [aPrint, eq_true h4, hcw, eq_true h12, eq_false h23, eq_false h42, hpa, eq_false h96, eq_false h104, if_true, if_false, Bool.false_eq_true, and_self, and_true, true_and, and_false, false_and, oel_n, oel_s, decide_true, decide_false], hq1⟩)
              · replace h104 : xq = nI 1 := Classical.not_not.mp h104
                refine rw_go hX [(107, .aload_n 0), (108, .getfield 25), (111, .getfield 165), (114, .iload 5)] (by decide +kernel) (Ps := []) (pc' := 116) (lv' := [(0, .ref 0), (1, .int (nI w)), (2, .int xk), (3, .int xq), (4, .int (nI g)), (5, .int (nI f))]) (st' := [.int (nI f), .ref 31]) (σ' := τ1) rfl True.intro ?_
                refine rw_callVi hX (as := [.int (nI f)]) (rest := []) (c_worksWith _ _ _ f F hS.2.2.1 hF5 hf) (by decide +kernel) mvX0_worksWith lk9_169 (ci := 0) rfl rfl rfl (by decide) (Nat.le_of_ble_eq_true rfl) rfl ?_
                intro r1 σ1 hr
                rw [hr.1, show r1 = nI (WN V (50 * w + g)) from hr.2.trans hf3]
                clear hr σ1 r1
                refine rw_go hX [(119, .goto 18)] (by decide +kernel) (Ps := []) (pc' := 137) (lv' := [(0, .ref 0), (1, .int (nI w)), (2, .int xk), (3, .int xq), (4, .int (nI g)), (5, .int (nI f))]) (st' := [.int (nI (WN V (50 * w + g)))]) (σ' := τ1) rfl True.intro ?_
                exact rw_iret hX (by decide +kernel) (⟨by simp only [aPrint, eq_true h4, hcw, eq_true h12, eq_false h23, eq_false h42, hpa, eq_false h96, eq_true h104, if_true, if_false, Bool.false_eq_true, and_self, and_true, true_and, and_false, false_and, oel_n, oel_s, decide_true, decide_false], hq1⟩)
            · replace h96 : xq = 0 := Classical.not_not.mp h96
              refine rw_go hX [(99, .iload 4)] (by decide +kernel) (Ps := []) (pc' := 101) (lv' := [(0, .ref 0), (1, .int (nI w)), (2, .int xk), (3, .int xq), (4, .int (nI g)), (5, .int (nI f))]) (st' := [.int (nI g)]) (σ' := τ1) rfl True.intro ?_
              exact rw_iret hX (by decide +kernel) (⟨by simp only [aPrint, eq_true h4, hcw, eq_true h12, eq_false h23, eq_false h42, hpa, eq_true h96, if_true, if_false, Bool.false_eq_true, and_self, and_true, true_and, and_false, false_and, oel_n, oel_s, decide_true, decide_false], hq1⟩)
          · have hpa : pAtF V w xk (gC V w) = none := by
              rcases hr2 with ⟨g, q1, q2, q3, q4⟩ | ⟨q1, q2⟩
              · exact absurd (q4.symm.trans (Classical.not_not.mp h74)) (m1_ne (by omega))
              · exact pAtF_none fun g hg hp => by
                  have q5 := q1 g hg (((hS.1 w hw).2.2 g hg).2.mpr hp)
                  rw [pC_e (hS.1 w hw) (by omega)] at q5
                  exact q5
            refine rw_go hX [(77, .bipush (-12))] (by decide +kernel) (Ps := []) (pc' := 79) (lv' := [(0, .ref 0), (1, .int (nI w)), (2, .int xk), (3, .int xq), (4, .int r1)]) (st' := [.int (-(nI 12))]) (σ' := τ1) rfl True.intro ?_
            exact rw_iret hX (by decide +kernel) (⟨by simp only [aPrint, eq_true h4, hcw, eq_true h12, eq_false h23, eq_false h42, hpa, if_true, if_false, Bool.false_eq_true, and_self, and_true, true_and, and_false, false_and, oel_n, oel_s, decide_true, decide_false], hq1⟩)
        · replace h42 : xk = (-(nI 1)) := Classical.not_not.mp h42
          refine rw_go hX [(45, .aload_n 0), (46, .getfield 25), (49, .getfield 105), (52, .iload_n 1)] (by decide +kernel) (Ps := []) (pc' := 53) (lv' := [(0, .ref 0), (1, .int (nI w)), (2, .int xk), (3, .int xq)]) (st' := [.int (nI w), .ref 23]) (σ' := τ1) rfl True.intro ?_
          refine rw_callVi hX (as := [.int (nI w)]) (rest := []) (c_printCount _ _ _ w (gC V w) hw (hS.1 w hw).2.1 (by omega)) (by decide +kernel) mvX3_printCount lk9_156 (ci := 2) rfl rfl rfl (by decide) (Nat.le_of_ble_eq_true rfl) rfl ?_
          intro r1 σ1 hr
          rw [hr.1, show r1 = nI (pNs V w (gC V w)) from hr.2.trans (by rw [pC_e (hS.1 w hw) (Nat.le_refl _)])]
          clear hr σ1 r1
          exact rw_iret hX (by decide +kernel) (⟨by simp only [aPrint, eq_true h4, hcw, eq_true h12, eq_false h23, eq_true h42, if_true, if_false, Bool.false_eq_true, and_self, and_true, true_and, and_false, false_and, oel_n, oel_s, decide_true, decide_false], hq1⟩)
      · replace h23 := of_decide_eq_true (zb_eqF h23)
        refine rw_go hX [(26, .bipush (-11))] (by decide +kernel) (Ps := []) (pc' := 28) (lv' := [(0, .ref 0), (1, .int (nI w)), (2, .int xk), (3, .int xq)]) (st' := [.int (-(nI 11))]) (σ' := σ) rfl True.intro ?_
        exact rw_iret hX (by decide +kernel) (⟨by simp only [aPrint, eq_true h4, hcw, eq_true h12, eq_true h23, if_true, if_false, Bool.false_eq_true, and_self, and_true, true_and, and_false, false_and, oel_n, oel_s, decide_true, decide_false], XQ_rfl _⟩)
    · replace h12 := of_decide_eq_false (zb_neF h12)
      refine rw_go hX [(15, .bipush (-2))] (by decide +kernel) (Ps := []) (pc' := 17) (lv' := [(0, .ref 0), (1, .int (nI w)), (2, .int xk), (3, .int xq)]) (st' := [.int (-(nI 2))]) (σ' := σ) rfl True.intro ?_
      exact rw_iret hX (by decide +kernel) (⟨by simp only [aPrint, eq_true h4, hcw, eq_false h12, if_true, if_false, Bool.false_eq_true, and_self, and_true, true_and, and_false, false_and, oel_n, oel_s, decide_true, decide_false], XQ_rfl _⟩)
set_option maxRecDepth 20000 in
set_option maxHeartbeats 4000000 in
theorem f_common (l : Launch) (G : Gl) (σ : Mm) (V : Mm) (xw xq : Int32) (hV : vw σ 2 = V) (hv : wf V) : AMi l G 5 mX9_common [.ref 0, .int xw, .int xq] σ (fun r σ' => r = aCommon V xw xq ∧ XQ σ σ') := by
  refine rw_inI 9 (by decide +kernel) rfl rfl ?_
  intro E hE hX
  subst hE
  refine rw_go hX [(0, .iload_n 1)] (by decide +kernel) (Ps := []) (pc' := 1) (lv' := [(0, .ref 0), (1, .int xw), (2, .int xq)]) (st' := [.int xw]) (σ' := σ) rfl True.intro ?_
  refine rw_callSi hX (as := [.int xw]) (rest := []) (c_X9_isWork _ _ _ (xw)) (by decide +kernel) msX9_isWork (Or.inl lk9_56) rfl (by decide) (Nat.le_of_ble_eq_true rfl) rfl ?_
  intro r1 σ1 hr
  rw [hr.1, show r1 = bz (decide (0 ≤ xw ∧ xw ≤ 4)) from hr.2]
  clear hr σ1 r1
  refine rw_if hX (tgt := 15) (cnd := .eq) (off := 11) (by decide +kernel) (by decide) (fun h4 => ?_) (fun h4 => ?_)
  · replace h4 := of_decide_eq_false (zb_eqT h4)
    refine rw_go hX [(15, .bipush (-2))] (by decide +kernel) (Ps := []) (pc' := 17) (lv' := [(0, .ref 0), (1, .int xw), (2, .int xq)]) (st' := [.int (-(nI 2))]) (σ' := σ) rfl True.intro ?_
    exact rw_iret hX (by decide +kernel) (⟨by simp only [aCommon, eq_false h4, if_true, if_false, Bool.false_eq_true, and_self, and_true, true_and, and_false, false_and, oel_n, oel_s, decide_true, decide_false], XQ_rfl _⟩)
  · replace h4 := of_decide_eq_true (zb_eqF h4)
    obtain ⟨w, hw, rfl⟩ := rng (m := 4) (by omega) h4
    have hw : w < 5 := hw
    have hcw : (nI w).toNatClampNeg = w := nI_clamp (by omega)
    refine rw_go hX [(7, .iload_n 2), (8, .iconst 2)] (by decide +kernel) (Ps := []) (pc' := 9) (lv' := [(0, .ref 0), (1, .int (nI w)), (2, .int xq)]) (st' := [.int (nI 2), .int xq]) (σ' := σ) rfl True.intro ?_
    refine rw_callSi hX (as := [.int xq, .int (nI 2)]) (rest := []) (c_X9_isOneOf _ _ _ (xq) (nI 2)) (by decide +kernel) msX9_isOneOf (Or.inl lk9_97) rfl (by decide) (Nat.le_of_ble_eq_true rfl) rfl ?_
    intro r1 σ1 hr
    rw [hr.1, show r1 = bz (decide (0 ≤ xq ∧ xq < nI 2)) from hr.2]
    clear hr σ1 r1
    refine rw_if hX (tgt := 18) (cnd := .ne) (off := 6) (by decide +kernel) (by decide) (fun h12 => ?_) (fun h12 => ?_)
    · replace h12 := of_decide_eq_true (zb_neT h12)
      refine rw_go hX [(18, .aload_n 0), (19, .iload_n 1)] (by decide +kernel) (Ps := []) (pc' := 20) (lv' := [(0, .ref 0), (1, .int (nI w)), (2, .int xq)]) (st' := [.int (nI w), .ref 0]) (σ' := σ) rfl True.intro ?_
      refine rw_callVi hX (as := [.int (nI w)]) (rest := []) (c_missing _ _ _ V w hV hv hw) (by decide +kernel) mvX9_isMissing lk9_78 (ci := 8) rfl rfl rfl (by decide) (Nat.le_of_ble_eq_true rfl) rfl ?_
      intro r1 σ1 hr
      rw [hr.1, show r1 = bz (decide (vS V w = 0)) from hr.2]
      clear hr σ1 r1
      refine rw_if hX (tgt := 29) (cnd := .eq) (off := 6) (by decide +kernel) (by decide) (fun h23 => ?_) (fun h23 => ?_)
      · replace h23 := of_decide_eq_false (zb_eqT h23)
        refine rw_go hX [(29, .aload_n 0), (30, .getfield 25), (33, .aload_n 0), (34, .getfield 12)] (by decide +kernel) (Ps := []) (pc' := 37) (lv' := [(0, .ref 0), (1, .int (nI w)), (2, .int xq)]) (st' := [.ref 1, .ref 22]) (σ' := σ) rfl True.intro ?_
        refine rw_callVv hX (as := [.ref 1]) (rest := []) (c_look_1 _ _ _ V hV hv) (by decide +kernel) mvX8_look lk9_152 (ci := 7) rfl rfl rfl (by decide) (Nat.le_of_ble_eq_true rfl) rfl ?_
        intro τ1 ht1
        obtain ⟨F, hS, h0⟩ := LK_SN ht1
        have hq1 := XQ_S (LK_SQ ht1)
        have hF5 := hS.2.1
        refine rw_go hX [(40, .aload_n 0), (41, .getfield 25), (44, .iload_n 1), (45, .iload_n 2), (46, .iconst 1)] (by decide +kernel) (Ps := []) (pc' := 47) (lv' := [(0, .ref 0), (1, .int (nI w)), (2, .int xq)]) (st' := [.int (nI 1), .int xq, .int (nI w), .ref 22]) (σ' := τ1) rfl True.intro ?_
        refine rw_icmp hX (tgt := 54) (cnd := .ne) (off := 7) (by decide +kernel) (by decide) (fun h47 => ?_) (fun h47 => ?_)
        · replace h47 : (xq ≠ nI 1) := h47
          refine rw_go hX [(54, .iconst 0)] (by decide +kernel) (Ps := []) (pc' := 55) (lv' := [(0, .ref 0), (1, .int (nI w)), (2, .int xq)]) (st' := [.int (nI 0), .int (nI w), .ref 22]) (σ' := τ1) rfl True.intro ?_
          refine rw_callVi hX (as := [.int (nI w), .int (nI 0)]) (rest := []) (c_commonGrams _ _ _ V F w false hv hw hS) (by decide +kernel) mvX8_commonGrams lk9_181 (ci := 7) rfl rfl rfl (by decide) (Nat.le_of_ble_eq_true rfl) rfl ?_
          intro r1 σ1 hr
          rw [hr.1, hr.2]
          clear hr σ1 r1
          exact rw_iret hX (by decide +kernel) (⟨by simp only [aCommon, eq_true h4, hcw, eq_true h12, eq_false h23, eq_false h47, if_true, if_false, Bool.false_eq_true, and_self, and_true, true_and, and_false, false_and, oel_n, oel_s, decide_true, decide_false], hq1⟩)
        · replace h47 : xq = nI 1 := Classical.not_not.mp h47
          refine rw_go hX [(50, .iconst 1), (51, .goto 4)] (by decide +kernel) (Ps := []) (pc' := 55) (lv' := [(0, .ref 0), (1, .int (nI w)), (2, .int xq)]) (st' := [.int (nI 1), .int (nI w), .ref 22]) (σ' := τ1) rfl True.intro ?_
          refine rw_callVi hX (as := [.int (nI w), .int (nI 1)]) (rest := []) (c_commonGrams _ _ _ V F w true hv hw hS) (by decide +kernel) mvX8_commonGrams lk9_181 (ci := 7) rfl rfl rfl (by decide) (Nat.le_of_ble_eq_true rfl) rfl ?_
          intro r1 σ1 hr
          rw [hr.1, hr.2]
          clear hr σ1 r1
          exact rw_iret hX (by decide +kernel) (⟨by simp only [aCommon, eq_true h4, hcw, eq_true h12, eq_false h23, eq_true h47, if_true, if_false, Bool.false_eq_true, and_self, and_true, true_and, and_false, false_and, oel_n, oel_s, decide_true, decide_false], hq1⟩)
      · replace h23 := of_decide_eq_true (zb_eqF h23)
        refine rw_go hX [(26, .bipush (-11))] (by decide +kernel) (Ps := []) (pc' := 28) (lv' := [(0, .ref 0), (1, .int (nI w)), (2, .int xq)]) (st' := [.int (-(nI 11))]) (σ' := σ) rfl True.intro ?_
        exact rw_iret hX (by decide +kernel) (⟨by simp only [aCommon, eq_true h4, hcw, eq_true h12, eq_true h23, if_true, if_false, Bool.false_eq_true, and_self, and_true, true_and, and_false, false_and, oel_n, oel_s, decide_true, decide_false], XQ_rfl _⟩)
    · replace h12 := of_decide_eq_false (zb_neF h12)
      refine rw_go hX [(15, .bipush (-2))] (by decide +kernel) (Ps := []) (pc' := 17) (lv' := [(0, .ref 0), (1, .int (nI w)), (2, .int xq)]) (st' := [.int (-(nI 2))]) (σ' := σ) rfl True.intro ?_
      exact rw_iret hX (by decide +kernel) (⟨by simp only [aCommon, eq_true h4, hcw, eq_false h12, if_true, if_false, Bool.false_eq_true, and_self, and_true, true_and, and_false, false_and, oel_n, oel_s, decide_true, decide_false], XQ_rfl _⟩)
set_option maxRecDepth 20000 in
set_option maxHeartbeats 4000000 in
theorem f_match (l : Launch) (G : Gl) (σ : Mm) (V : Mm) (xw xo xk xq : Int32) (hV : vw σ 2 = V) (hv : wf V) : AMi l G 6 mX9_match [.ref 0, .int xw, .int xo, .int xk, .int xq] σ (fun r σ' => r = aMatch V xw xo xk xq ∧ XQ σ σ') := by
  refine rw_inI 9 (by decide +kernel) rfl rfl ?_
  intro E hE hX
  subst hE
  refine rw_go hX [(0, .iload_n 1), (1, .iload_n 2)] (by decide +kernel) (Ps := []) (pc' := 2) (lv' := [(0, .ref 0), (1, .int xw), (2, .int xo), (3, .int xk), (4, .int xq)]) (st' := [.int xo, .int xw]) (σ' := σ) rfl True.intro ?_
  refine rw_callSi hX (as := [.int xw, .int xo]) (rest := []) (c_X9_areTwoWorks _ _ _ xw xo) (by decide +kernel) msX9_areTwoWorks (Or.inl lk9_185) rfl (by decide) (Nat.le_of_ble_eq_true rfl) rfl ?_
  intro r1 σ1 hr
  rw [hr.1, show r1 = bz (decide (tw xw xo)) from hr.2]
  clear hr σ1 r1
  refine rw_if hX (tgt := 17) (cnd := .eq) (off := 12) (by decide +kernel) (by decide) (fun h5 => ?_) (fun h5 => ?_)
  · replace h5 := of_decide_eq_false (zb_eqT h5)
    refine rw_go hX [(17, .bipush (-2))] (by decide +kernel) (Ps := []) (pc' := 19) (lv' := [(0, .ref 0), (1, .int xw), (2, .int xo), (3, .int xk), (4, .int xq)]) (st' := [.int (-(nI 2))]) (σ' := σ) rfl True.intro ?_
    exact rw_iret hX (by decide +kernel) (⟨by simp only [aMatch, eq_false h5, if_true, if_false, Bool.false_eq_true, and_self, and_true, true_and, and_false, false_and, oel_n, oel_s, decide_true, decide_false], XQ_rfl _⟩)
  · replace h5 := of_decide_eq_true (zb_eqF h5)
    obtain ⟨w, u, ⟨hw, hu⟩, ⟨rfl, rfl⟩, hwu⟩ := tw_n h5
    have hcw : (nI w).toNatClampNeg = w := nI_clamp (by omega)
    have hcu : (nI u).toNatClampNeg = u := nI_clamp (by omega)
    refine rw_go hX [(8, .iload 4), (10, .iconst 4)] (by decide +kernel) (Ps := []) (pc' := 11) (lv' := [(0, .ref 0), (1, .int (nI w)), (2, .int (nI u)), (3, .int xk), (4, .int xq)]) (st' := [.int (nI 4), .int xq]) (σ' := σ) rfl True.intro ?_
    refine rw_callSi hX (as := [.int xq, .int (nI 4)]) (rest := []) (c_X9_isOneOf _ _ _ (xq) (nI 4)) (by decide +kernel) msX9_isOneOf (Or.inl lk9_97) rfl (by decide) (Nat.le_of_ble_eq_true rfl) rfl ?_
    intro r1 σ1 hr
    rw [hr.1, show r1 = bz (decide (0 ≤ xq ∧ xq < nI 4)) from hr.2]
    clear hr σ1 r1
    refine rw_if hX (tgt := 20) (cnd := .ne) (off := 6) (by decide +kernel) (by decide) (fun h14 => ?_) (fun h14 => ?_)
    · replace h14 := of_decide_eq_true (zb_neT h14)
      refine rw_go hX [(20, .aload_n 0), (21, .iload_n 1)] (by decide +kernel) (Ps := []) (pc' := 22) (lv' := [(0, .ref 0), (1, .int (nI w)), (2, .int (nI u)), (3, .int xk), (4, .int xq)]) (st' := [.int (nI w), .ref 0]) (σ' := σ) rfl True.intro ?_
      refine rw_callVi hX (as := [.int (nI w)]) (rest := []) (c_missing _ _ _ V w hV hv hw) (by decide +kernel) mvX9_isMissing lk9_78 (ci := 8) rfl rfl rfl (by decide) (Nat.le_of_ble_eq_true rfl) rfl ?_
      intro r1 σ1 hr
      rw [hr.1, show r1 = bz (decide (vS V w = 0)) from hr.2]
      clear hr σ1 r1
      refine rw_if hX (tgt := 36) (cnd := .ne) (off := 11) (by decide +kernel) (by decide) (fun h25 => ?_) (fun h25 => ?_)
      · replace h25 := of_decide_eq_true (zb_neT h25)
        refine rw_go hX [(36, .bipush (-11))] (by decide +kernel) (Ps := []) (pc' := 38) (lv' := [(0, .ref 0), (1, .int (nI w)), (2, .int (nI u)), (3, .int xk), (4, .int xq)]) (st' := [.int (-(nI 11))]) (σ' := σ) rfl True.intro ?_
        exact rw_iret hX (by decide +kernel) (⟨by simp only [aMatch, eq_true h5, hcw, hcu, eq_true h14, eq_true h25, if_true, if_false, Bool.false_eq_true, and_self, and_true, true_and, and_false, false_and, oel_n, oel_s, decide_true, decide_false], XQ_rfl _⟩)
      · replace h25 := of_decide_eq_false (zb_neF h25)
        refine rw_go hX [(28, .aload_n 0), (29, .iload_n 2)] (by decide +kernel) (Ps := []) (pc' := 30) (lv' := [(0, .ref 0), (1, .int (nI w)), (2, .int (nI u)), (3, .int xk), (4, .int xq)]) (st' := [.int (nI u), .ref 0]) (σ' := σ) rfl True.intro ?_
        refine rw_callVi hX (as := [.int (nI u)]) (rest := []) (c_missing _ _ _ V u hV hv hu) (by decide +kernel) mvX9_isMissing lk9_78 (ci := 8) rfl rfl rfl (by decide) (Nat.le_of_ble_eq_true rfl) rfl ?_
        intro r1 σ1 hr
        rw [hr.1, show r1 = bz (decide (vS V u = 0)) from hr.2]
        clear hr σ1 r1
        refine rw_if hX (tgt := 39) (cnd := .eq) (off := 6) (by decide +kernel) (by decide) (fun h33 => ?_) (fun h33 => ?_)
        · replace h33 := of_decide_eq_false (zb_eqT h33)
          refine rw_go hX [(39, .aload_n 0), (40, .getfield 25), (43, .getfield 188), (46, .astore 5), (48, .aload_n 0), (49, .getfield 25), (52, .aload_n 0), (53, .getfield 12), (56, .iload_n 1), (57, .iload_n 2)] (by decide +kernel) (Ps := []) (pc' := 58) (lv' := [(0, .ref 0), (1, .int (nI w)), (2, .int (nI u)), (3, .int xk), (4, .int xq), (5, .ref 39)]) (st' := [.int (nI u), .int (nI w), .ref 1, .ref 22]) (σ' := σ) rfl True.intro ?_
          refine rw_callVv hX (as := [.ref 1, .int (nI w), .int (nI u)]) (rest := []) (c_compare _ _ _ V w u hV hv hw hu) (by decide +kernel) mvX8_compare lk9_192 (ci := 7) rfl rfl rfl (by decide) (Nat.le_of_ble_eq_true rfl) rfl ?_
          intro τ1 ht1
          obtain ⟨⟨F, hS⟩, hM, hq⟩ := ht1
          have hq1 := XQ_S hq
          have hMl : (ML V w u (vR V 4)).length ≤ 833 := mLa_833 hv (vR V 4) hw hu (lC V w) (Nat.le_refl _)
          refine rw_go hX [(61, .iload_n 3), (62, .iconst (-1))] (by decide +kernel) (Ps := []) (pc' := 63) (lv' := [(0, .ref 0), (1, .int (nI w)), (2, .int (nI u)), (3, .int xk), (4, .int xq), (5, .ref 39)]) (st' := [.int (-(nI 1)), .int xk]) (σ' := τ1) rfl True.intro ?_
          refine rw_icmp hX (tgt := 72) (cnd := .ne) (off := 9) (by decide +kernel) (by decide) (fun h63 => ?_) (fun h63 => ?_)
          · replace h63 : (xk ≠ (-(nI 1))) := h63
            refine rw_go hX [(72, .iload_n 3)] (by decide +kernel) (Ps := []) (pc' := 73) (lv' := [(0, .ref 0), (1, .int (nI w)), (2, .int (nI u)), (3, .int xk), (4, .int xq), (5, .ref 39)]) (st' := [.int xk]) (σ' := τ1) rfl True.intro ?_
            refine rw_if hX (tgt := 85) (cnd := .lt) (off := 12) (by decide +kernel) (by decide) (fun h73 => ?_) (fun h73 => ?_)
            · replace h73 : (xk < 0) := h73
              refine rw_go hX [(85, .bipush (-12))] (by decide +kernel) (Ps := []) (pc' := 87) (lv' := [(0, .ref 0), (1, .int (nI w)), (2, .int (nI u)), (3, .int xk), (4, .int xq), (5, .ref 39)]) (st' := [.int (-(nI 12))]) (σ' := τ1) rfl True.intro ?_
              exact rw_iret hX (by decide +kernel) (⟨by simp only [aMatch, aMt, eq_true h5, hcw, hcu, eq_true h14, eq_false h25, eq_false h33, eq_false h63, eq_true h73, if_true, if_false, Bool.false_eq_true, and_self, and_true, true_and, and_false, false_and, oel_n, oel_s, decide_true, decide_false], by first | exact hq2 | exact hq1⟩)
            · replace h73 : ¬ (xk < 0) := h73
              refine rw_go hX [(76, .iload_n 3), (77, .aload 5), (79, .getfield 196)] (by decide +kernel) (Ps := []) (pc' := 82) (lv' := [(0, .ref 0), (1, .int (nI w)), (2, .int (nI u)), (3, .int xk), (4, .int xq), (5, .ref 39)]) (st' := [.int (τ1 39 0), .int xk]) (σ' := τ1) rfl True.intro ?_
              rw [show (τ1 39 0) = nI ((ML V w u (vR V 4)).length) from (by rw [hM.1])]
              refine rw_icmp hX (tgt := 88) (cnd := .lt) (off := 6) (by decide +kernel) (by decide) (fun h82 => ?_) (fun h82 => ?_)
              · replace h82 : (xk < nI ((ML V w u (vR V 4)).length)) := h82
                obtain ⟨i, hi, rfl⟩ := rngO (m := (ML V w u (vR V 4)).length) (by omega) ⟨Int32.not_lt.mp h73, h82⟩
                have hci : (nI i).toNatClampNeg = i := nI_clamp (by omega)
                refine rw_go hX [(88, .iload 4), (90, .iconst 3)] (by decide +kernel) (Ps := []) (pc' := 91) (lv' := [(0, .ref 0), (1, .int (nI w)), (2, .int (nI u)), (3, .int (nI i)), (4, .int xq), (5, .ref 39)]) (st' := [.int (nI 3), .int xq]) (σ' := τ1) rfl True.intro ?_
                refine rw_icmp hX (tgt := 99) (cnd := .ne) (off := 8) (by decide +kernel) (by decide) (fun h91 => ?_) (fun h91 => ?_)
                · replace h91 : (xq ≠ nI 3) := h91
                  refine rw_go hX [(99, .aload 5), (101, .iload_n 3), (102, .iload 4)] (by decide +kernel) (Ps := []) (pc' := 104) (lv' := [(0, .ref 0), (1, .int (nI w)), (2, .int (nI u)), (3, .int (nI i)), (4, .int xq), (5, .ref 39)]) (st' := [.int xq, .int (nI i), .ref 39]) (σ' := τ1) rfl True.intro ?_
                  refine rw_callVi hX (as := [.int (nI i), .int xq]) (rest := []) (c_tellMV _ _ _ (ML V w u (vR V 4)) i xq h14 (by omega) (hM.2 i hi).1 (hM.2 i hi).2.1 (hM.2 i hi).2.2.1 (fun z => absurd z h91)) (by decide +kernel) mvX2_tellMatch lk9_204 (ci := 1) rfl rfl rfl (by decide) (Nat.le_of_ble_eq_true rfl) rfl ?_
                  intro r1 σ1 hr
                  rw [hr.1, hr.2]
                  clear hr σ1 r1
                  exact rw_iret hX (by decide +kernel) (⟨by simp only [aMatch, aMt, eq_true h5, hcw, hcu, eq_true h14, eq_false h25, eq_false h33, eq_false h63, eq_false h73, eq_true h82, hci, eq_false h91, if_true, if_false, Bool.false_eq_true, and_self, and_true, true_and, and_false, false_and, oel_n, oel_s, decide_true, decide_false], by first | exact hq2 | exact hq1⟩)
                · replace h91 : xq = nI 3 := Classical.not_not.mp h91
                  refine rw_go hX [(94, .aload 5)] (by decide +kernel) (Ps := []) (pc' := 96) (lv' := [(0, .ref 0), (1, .int (nI w)), (2, .int (nI u)), (3, .int (nI i)), (4, .int xq), (5, .ref 39)]) (st' := [.ref 39]) (σ' := τ1) rfl True.intro ?_
                  refine rw_callVv hX (as := []) (rest := []) (c_linkChain _ _ _ (ML V w u (vR V 4)).length (mB (ML V w u (vR V 4))) (mO (ML V w u (vR V 4))) (mG (ML V w u (vR V 4))) hM.1 (by omega) (fun x hx => ⟨(hM.2 x hx).1, (ML_at hv hw hu hx).2.2.2.1⟩) (fun x hx => ⟨(hM.2 x hx).2.1, (ML_at hv hw hu hx).2.2.2.2.1⟩) (fun x hx => ⟨(hM.2 x hx).2.2.1, (ML_at hv hw hu hx).2.2.2.2.2⟩)) (by decide +kernel) mvX2_linkChain lk9_201 (ci := 1) rfl rfl rfl (by decide) (Nat.le_of_ble_eq_true rfl) rfl ?_
                  intro τ2 ht2
                  obtain ⟨hk2, hc2⟩ := lkM_r hM
                  rw [← ht2] at hk2 hc2
                  have hq2 : XQ σ τ2 := hq1.trans (fun k hk => hk2 k (by simp only [List.mem_cons, List.not_mem_nil, or_false]; omega))
                  refine rw_go hX [(99, .aload 5), (101, .iload_n 3), (102, .iload 4)] (by decide +kernel) (Ps := []) (pc' := 104) (lv' := [(0, .ref 0), (1, .int (nI w)), (2, .int (nI u)), (3, .int (nI i)), (4, .int xq), (5, .ref 39)]) (st' := [.int xq, .int (nI i), .ref 39]) (σ' := τ2) rfl True.intro ?_
                  refine rw_callVi hX (as := [.int (nI i), .int xq]) (rest := []) (c_tellMV _ _ _ (ML V w u (vR V 4)) i xq h14 (by omega) (by rw [hk2 46 (by decide)]; exact (hM.2 i hi).1) (by rw [hk2 47 (by decide)]; exact (hM.2 i hi).2.1) (by rw [hk2 48 (by decide)]; exact (hM.2 i hi).2.2.1) (fun _ => hc2 i hi)) (by decide +kernel) mvX2_tellMatch lk9_204 (ci := 1) rfl rfl rfl (by decide) (Nat.le_of_ble_eq_true rfl) rfl ?_
                  intro r1 σ1 hr
                  rw [hr.1, hr.2]
                  clear hr σ1 r1
                  exact rw_iret hX (by decide +kernel) (⟨by simp only [aMatch, aMt, eq_true h5, hcw, hcu, eq_true h14, eq_false h25, eq_false h33, eq_false h63, eq_false h73, eq_true h82, hci, eq_true h91, if_true, if_false, Bool.false_eq_true, and_self, and_true, true_and, and_false, false_and, oel_n, oel_s, decide_true, decide_false], by first | exact hq2 | exact hq1⟩)
              · replace h82 : ¬ (xk < nI ((ML V w u (vR V 4)).length)) := h82
                refine rw_go hX [(85, .bipush (-12))] (by decide +kernel) (Ps := []) (pc' := 87) (lv' := [(0, .ref 0), (1, .int (nI w)), (2, .int (nI u)), (3, .int xk), (4, .int xq), (5, .ref 39)]) (st' := [.int (-(nI 12))]) (σ' := τ1) rfl True.intro ?_
                exact rw_iret hX (by decide +kernel) (⟨by simp only [aMatch, aMt, eq_true h5, hcw, hcu, eq_true h14, eq_false h25, eq_false h33, eq_false h63, eq_false h73, eq_false h82, if_true, if_false, Bool.false_eq_true, and_self, and_true, true_and, and_false, false_and, oel_n, oel_s, decide_true, decide_false], by first | exact hq2 | exact hq1⟩)
          · replace h63 : xk = (-(nI 1)) := Classical.not_not.mp h63
            refine rw_go hX [(66, .aload 5), (68, .getfield 196)] (by decide +kernel) (Ps := []) (pc' := 71) (lv' := [(0, .ref 0), (1, .int (nI w)), (2, .int (nI u)), (3, .int xk), (4, .int xq), (5, .ref 39)]) (st' := [.int (τ1 39 0)]) (σ' := τ1) rfl True.intro ?_
            rw [show (τ1 39 0) = nI ((ML V w u (vR V 4)).length) from (by rw [hM.1])]
            exact rw_iret hX (by decide +kernel) (⟨by simp only [aMatch, aMt, eq_true h5, hcw, hcu, eq_true h14, eq_false h25, eq_false h33, eq_true h63, if_true, if_false, Bool.false_eq_true, and_self, and_true, true_and, and_false, false_and, oel_n, oel_s, decide_true, decide_false], by first | exact hq2 | exact hq1⟩)
        · replace h33 := of_decide_eq_true (zb_eqF h33)
          refine rw_go hX [(36, .bipush (-11))] (by decide +kernel) (Ps := []) (pc' := 38) (lv' := [(0, .ref 0), (1, .int (nI w)), (2, .int (nI u)), (3, .int xk), (4, .int xq)]) (st' := [.int (-(nI 11))]) (σ' := σ) rfl True.intro ?_
          exact rw_iret hX (by decide +kernel) (⟨by simp only [aMatch, eq_true h5, hcw, hcu, eq_true h14, eq_false h25, eq_true h33, if_true, if_false, Bool.false_eq_true, and_self, and_true, true_and, and_false, false_and, oel_n, oel_s, decide_true, decide_false], XQ_rfl _⟩)
    · replace h14 := of_decide_eq_false (zb_neF h14)
      refine rw_go hX [(17, .bipush (-2))] (by decide +kernel) (Ps := []) (pc' := 19) (lv' := [(0, .ref 0), (1, .int (nI w)), (2, .int (nI u)), (3, .int xk), (4, .int xq)]) (st' := [.int (-(nI 2))]) (σ' := σ) rfl True.intro ?_
      exact rw_iret hX (by decide +kernel) (⟨by simp only [aMatch, eq_true h5, hcw, hcu, eq_false h14, if_true, if_false, Bool.false_eq_true, and_self, and_true, true_and, and_false, false_and, oel_n, oel_s, decide_true, decide_false], XQ_rfl _⟩)
theorem sB_congr {b b' : Nat → Bool} {f : Nat → Nat} : ∀ {n : Nat}, (∀ x, x < n → b x = b' x) → sB b f n = sB b' f n
  | 0, _ => rfl
  | n + 1, h => by
    have ih := sB_congr (b := b) (b' := b') (f := f) (n := n) fun x hx => h x (by omega)
    show sB b f n + (if b n = true then f n else 0) = sB b' f n + (if b' n = true then f n else 0)
    rw [ih, h n (by omega)]
set_option maxRecDepth 20000 in
set_option maxHeartbeats 4000000 in
theorem f_chain (l : Launch) (G : Gl) (σ : Mm) (V : Mm) (xw xo xq : Int32) (hV : vw σ 2 = V) (hv : wf V) : AMi l G 6 mX9_chain [.ref 0, .int xw, .int xo, .int xq] σ (fun r σ' => r = aChain V xw xo xq ∧ XQ σ σ') := by
  refine rw_inI 9 (by decide +kernel) rfl rfl ?_
  intro E hE hX
  subst hE
  refine rw_go hX [(0, .iload_n 1), (1, .iload_n 2)] (by decide +kernel) (Ps := []) (pc' := 2) (lv' := [(0, .ref 0), (1, .int xw), (2, .int xo), (3, .int xq)]) (st' := [.int xo, .int xw]) (σ' := σ) rfl True.intro ?_
  refine rw_callSi hX (as := [.int xw, .int xo]) (rest := []) (c_X9_areTwoWorks _ _ _ xw xo) (by decide +kernel) msX9_areTwoWorks (Or.inl lk9_185) rfl (by decide) (Nat.le_of_ble_eq_true rfl) rfl ?_
  intro r1 σ1 hr
  rw [hr.1, show r1 = bz (decide (tw xw xo)) from hr.2]
  clear hr σ1 r1
  refine rw_if hX (tgt := 16) (cnd := .eq) (off := 11) (by decide +kernel) (by decide) (fun h5 => ?_) (fun h5 => ?_)
  · replace h5 := of_decide_eq_false (zb_eqT h5)
    refine rw_go hX [(16, .bipush (-2))] (by decide +kernel) (Ps := []) (pc' := 18) (lv' := [(0, .ref 0), (1, .int xw), (2, .int xo), (3, .int xq)]) (st' := [.int (-(nI 2))]) (σ' := σ) rfl True.intro ?_
    exact rw_iret hX (by decide +kernel) (⟨by simp only [aChain, eq_false h5, if_true, if_false, Bool.false_eq_true, and_self, and_true, true_and, and_false, false_and, oel_n, oel_s, decide_true, decide_false], XQ_rfl _⟩)
  · replace h5 := of_decide_eq_true (zb_eqF h5)
    obtain ⟨w, u, ⟨hw, hu⟩, ⟨rfl, rfl⟩, hwu⟩ := tw_n h5
    have hcw : (nI w).toNatClampNeg = w := nI_clamp (by omega)
    have hcu : (nI u).toNatClampNeg = u := nI_clamp (by omega)
    refine rw_go hX [(8, .iload_n 3), (9, .iconst 3)] (by decide +kernel) (Ps := []) (pc' := 10) (lv' := [(0, .ref 0), (1, .int (nI w)), (2, .int (nI u)), (3, .int xq)]) (st' := [.int (nI 3), .int xq]) (σ' := σ) rfl True.intro ?_
    refine rw_callSi hX (as := [.int xq, .int (nI 3)]) (rest := []) (c_X9_isOneOf _ _ _ (xq) (nI 3)) (by decide +kernel) msX9_isOneOf (Or.inl lk9_97) rfl (by decide) (Nat.le_of_ble_eq_true rfl) rfl ?_
    intro r1 σ1 hr
    rw [hr.1, show r1 = bz (decide (0 ≤ xq ∧ xq < nI 3)) from hr.2]
    clear hr σ1 r1
    refine rw_if hX (tgt := 19) (cnd := .ne) (off := 6) (by decide +kernel) (by decide) (fun h13 => ?_) (fun h13 => ?_)
    · replace h13 := of_decide_eq_true (zb_neT h13)
      refine rw_go hX [(19, .aload_n 0), (20, .iload_n 1)] (by decide +kernel) (Ps := []) (pc' := 21) (lv' := [(0, .ref 0), (1, .int (nI w)), (2, .int (nI u)), (3, .int xq)]) (st' := [.int (nI w), .ref 0]) (σ' := σ) rfl True.intro ?_
      refine rw_callVi hX (as := [.int (nI w)]) (rest := []) (c_missing _ _ _ V w hV hv hw) (by decide +kernel) mvX9_isMissing lk9_78 (ci := 8) rfl rfl rfl (by decide) (Nat.le_of_ble_eq_true rfl) rfl ?_
      intro r1 σ1 hr
      rw [hr.1, show r1 = bz (decide (vS V w = 0)) from hr.2]
      clear hr σ1 r1
      refine rw_if hX (tgt := 35) (cnd := .ne) (off := 11) (by decide +kernel) (by decide) (fun h24 => ?_) (fun h24 => ?_)
      · replace h24 := of_decide_eq_true (zb_neT h24)
        refine rw_go hX [(35, .bipush (-11))] (by decide +kernel) (Ps := []) (pc' := 37) (lv' := [(0, .ref 0), (1, .int (nI w)), (2, .int (nI u)), (3, .int xq)]) (st' := [.int (-(nI 11))]) (σ' := σ) rfl True.intro ?_
        exact rw_iret hX (by decide +kernel) (⟨by simp only [aChain, eq_true h5, hcw, hcu, eq_true h13, eq_true h24, if_true, if_false, Bool.false_eq_true, and_self, and_true, true_and, and_false, false_and, oel_n, oel_s, decide_true, decide_false], XQ_rfl _⟩)
      · replace h24 := of_decide_eq_false (zb_neF h24)
        refine rw_go hX [(27, .aload_n 0), (28, .iload_n 2)] (by decide +kernel) (Ps := []) (pc' := 29) (lv' := [(0, .ref 0), (1, .int (nI w)), (2, .int (nI u)), (3, .int xq)]) (st' := [.int (nI u), .ref 0]) (σ' := σ) rfl True.intro ?_
        refine rw_callVi hX (as := [.int (nI u)]) (rest := []) (c_missing _ _ _ V u hV hv hu) (by decide +kernel) mvX9_isMissing lk9_78 (ci := 8) rfl rfl rfl (by decide) (Nat.le_of_ble_eq_true rfl) rfl ?_
        intro r1 σ1 hr
        rw [hr.1, show r1 = bz (decide (vS V u = 0)) from hr.2]
        clear hr σ1 r1
        refine rw_if hX (tgt := 38) (cnd := .eq) (off := 6) (by decide +kernel) (by decide) (fun h32 => ?_) (fun h32 => ?_)
        · replace h32 := of_decide_eq_false (zb_eqT h32)
          refine rw_go hX [(38, .aload_n 0), (39, .getfield 25), (42, .getfield 188), (45, .astore 4), (47, .aload_n 0), (48, .getfield 25), (51, .aload_n 0), (52, .getfield 12), (55, .iload_n 1), (56, .iload_n 2)] (by decide +kernel) (Ps := []) (pc' := 57) (lv' := [(0, .ref 0), (1, .int (nI w)), (2, .int (nI u)), (3, .int xq), (4, .ref 39)]) (st' := [.int (nI u), .int (nI w), .ref 1, .ref 22]) (σ' := σ) rfl True.intro ?_
          refine rw_callVv hX (as := [.ref 1, .int (nI w), .int (nI u)]) (rest := []) (c_compare _ _ _ V w u hV hv hw hu) (by decide +kernel) mvX8_compare lk9_192 (ci := 7) rfl rfl rfl (by decide) (Nat.le_of_ble_eq_true rfl) rfl ?_
          intro τ1 ht1
          obtain ⟨⟨F, hS⟩, hM, hq⟩ := ht1
          have hq1 := XQ_S hq
          have hMl : (ML V w u (vR V 4)).length ≤ 833 := mLa_833 hv (vR V 4) hw hu (lC V w) (Nat.le_refl _)
          refine rw_go hX [(60, .aload 4)] (by decide +kernel) (Ps := []) (pc' := 62) (lv' := [(0, .ref 0), (1, .int (nI w)), (2, .int (nI u)), (3, .int xq), (4, .ref 39)]) (st' := [.ref 39]) (σ' := τ1) rfl True.intro ?_
          refine rw_callVv hX (as := []) (rest := []) (c_linkChain _ _ _ (ML V w u (vR V 4)).length (mB (ML V w u (vR V 4))) (mO (ML V w u (vR V 4))) (mG (ML V w u (vR V 4))) hM.1 (by omega) (fun x hx => ⟨(hM.2 x hx).1, (ML_at hv hw hu hx).2.2.2.1⟩) (fun x hx => ⟨(hM.2 x hx).2.1, (ML_at hv hw hu hx).2.2.2.2.1⟩) (fun x hx => ⟨(hM.2 x hx).2.2.1, (ML_at hv hw hu hx).2.2.2.2.2⟩)) (by decide +kernel) mvX2_linkChain lk9_201 (ci := 1) rfl rfl rfl (by decide) (Nat.le_of_ble_eq_true rfl) rfl ?_
          intro τ2 ht2
          obtain ⟨hk2, hc2⟩ := lkM_r hM
          rw [← ht2] at hk2 hc2
          have hq2 : XQ σ τ2 := hq1.trans (fun k hk => hk2 k (by simp only [List.mem_cons, List.not_mem_nil, or_false]; omega))
          refine rw_go hX [(65, .iload_n 3), (66, .iconst 1)] (by decide +kernel) (Ps := []) (pc' := 67) (lv' := [(0, .ref 0), (1, .int (nI w)), (2, .int (nI u)), (3, .int xq), (4, .ref 39)]) (st' := [.int (nI 1), .int xq]) (σ' := τ2) rfl True.intro ?_
          refine rw_icmp hX (tgt := 78) (cnd := .ne) (off := 11) (by decide +kernel) (by decide) (fun h67 => ?_) (fun h67 => ?_)
          · replace h67 : (xq ≠ nI 1) := h67
            refine rw_go hX [(78, .aload 4), (80, .iload_n 3)] (by decide +kernel) (Ps := []) (pc' := 81) (lv' := [(0, .ref 0), (1, .int (nI w)), (2, .int (nI u)), (3, .int xq), (4, .ref 39)]) (st' := [.int xq, .ref 39]) (σ' := τ2) rfl True.intro ?_
            refine rw_if hX (tgt := 88) (cnd := .ne) (off := 7) (by decide +kernel) (by decide) (fun h81 => ?_) (fun h81 => ?_)
            · replace h81 : (xq ≠ 0) := h81
              refine rw_go hX [(88, .iconst 0)] (by decide +kernel) (Ps := []) (pc' := 89) (lv' := [(0, .ref 0), (1, .int (nI w)), (2, .int (nI u)), (3, .int xq), (4, .ref 39)]) (st' := [.int (nI 0), .ref 39]) (σ' := τ2) rfl True.intro ?_
              refine rw_callVi hX (as := [.int (nI 0)]) (rest := []) (c_lettersOf _ _ _ (ML V w u (vR V 4)).length (mG (ML V w u (vR V 4))) false (by rw [hk2 39 (by decide)]; exact hM.1) (by omega) (fun x hx => ⟨by rw [hk2 48 (by decide)]; exact (hM.2 x hx).2.2.1, (ML_at hv hw hu hx).2.2.2.2.2⟩)) (by decide +kernel) mvX2_lettersOf lk9_211 (ci := 1) rfl rfl rfl (by decide) (Nat.le_of_ble_eq_true rfl) rfl ?_
              intro r1 σ1 hr
              rw [hr.1, show r1 = nI (sB (fun x => decide (chn (ML V w u (vR V 4)) x = false)) (mG (ML V w u (vR V 4))) (ML V w u (vR V 4)).length) from hr.2.trans (by rw [sB_congr (fun x hx => by rw [hc2 x hx])])]
              clear hr σ1 r1
              exact rw_iret hX (by decide +kernel) (⟨by simp only [aChain, aCh, eq_true h5, hcw, hcu, eq_true h13, eq_false h24, eq_false h32, eq_false h67, eq_false h81, if_true, if_false, Bool.false_eq_true, and_self, and_true, true_and, and_false, false_and, oel_n, oel_s, decide_true, decide_false], hq2⟩)
            · replace h81 : xq = 0 := Classical.not_not.mp h81
              refine rw_go hX [(84, .iconst 1), (85, .goto 4)] (by decide +kernel) (Ps := []) (pc' := 89) (lv' := [(0, .ref 0), (1, .int (nI w)), (2, .int (nI u)), (3, .int xq), (4, .ref 39)]) (st' := [.int (nI 1), .ref 39]) (σ' := τ2) rfl True.intro ?_
              refine rw_callVi hX (as := [.int (nI 1)]) (rest := []) (c_lettersOf _ _ _ (ML V w u (vR V 4)).length (mG (ML V w u (vR V 4))) true (by rw [hk2 39 (by decide)]; exact hM.1) (by omega) (fun x hx => ⟨by rw [hk2 48 (by decide)]; exact (hM.2 x hx).2.2.1, (ML_at hv hw hu hx).2.2.2.2.2⟩)) (by decide +kernel) mvX2_lettersOf lk9_211 (ci := 1) rfl rfl rfl (by decide) (Nat.le_of_ble_eq_true rfl) rfl ?_
              intro r1 σ1 hr
              rw [hr.1, show r1 = nI (sB (fun x => decide (chn (ML V w u (vR V 4)) x = true)) (mG (ML V w u (vR V 4))) (ML V w u (vR V 4)).length) from hr.2.trans (by rw [sB_congr (fun x hx => by rw [hc2 x hx])])]
              clear hr σ1 r1
              exact rw_iret hX (by decide +kernel) (⟨by simp only [aChain, aCh, eq_true h5, hcw, hcu, eq_true h13, eq_false h24, eq_false h32, eq_false h67, eq_true h81, if_true, if_false, Bool.false_eq_true, and_self, and_true, true_and, and_false, false_and, oel_n, oel_s, decide_true, decide_false], hq2⟩)
          · replace h67 : xq = nI 1 := Classical.not_not.mp h67
            refine rw_go hX [(70, .aload 4)] (by decide +kernel) (Ps := []) (pc' := 72) (lv' := [(0, .ref 0), (1, .int (nI w)), (2, .int (nI u)), (3, .int xq), (4, .ref 39)]) (st' := [.ref 39]) (σ' := τ2) rfl True.intro ?_
            refine rw_callVi hX (as := []) (rest := []) (c_chainedMatches _ _ _ (ML V w u (vR V 4)).length (by rw [hk2 39 (by decide)]; exact hM.1) (by omega)) (by decide +kernel) mvX2_chainedMatches lk9_207 (ci := 1) rfl rfl rfl (by decide) (Nat.le_of_ble_eq_true rfl) rfl ?_
            intro r1 σ1 hr
            rw [hr.1, show r1 = nI (cB (chn (ML V w u (vR V 4))) (ML V w u (vR V 4)).length) from hr.2.trans (by rw [cB_congr hc2])]
            clear hr σ1 r1
            refine rw_go hX [(75, .goto 17)] (by decide +kernel) (Ps := []) (pc' := 92) (lv' := [(0, .ref 0), (1, .int (nI w)), (2, .int (nI u)), (3, .int xq), (4, .ref 39)]) (st' := [.int (nI (cB (chn (ML V w u (vR V 4))) (ML V w u (vR V 4)).length))]) (σ' := τ2) rfl True.intro ?_
            exact rw_iret hX (by decide +kernel) (⟨by simp only [aChain, aCh, eq_true h5, hcw, hcu, eq_true h13, eq_false h24, eq_false h32, eq_true h67, if_true, if_false, Bool.false_eq_true, and_self, and_true, true_and, and_false, false_and, oel_n, oel_s, decide_true, decide_false], hq2⟩)
        · replace h32 := of_decide_eq_true (zb_eqF h32)
          refine rw_go hX [(35, .bipush (-11))] (by decide +kernel) (Ps := []) (pc' := 37) (lv' := [(0, .ref 0), (1, .int (nI w)), (2, .int (nI u)), (3, .int xq)]) (st' := [.int (-(nI 11))]) (σ' := σ) rfl True.intro ?_
          exact rw_iret hX (by decide +kernel) (⟨by simp only [aChain, eq_true h5, hcw, hcu, eq_true h13, eq_false h24, eq_true h32, if_true, if_false, Bool.false_eq_true, and_self, and_true, true_and, and_false, false_and, oel_n, oel_s, decide_true, decide_false], XQ_rfl _⟩)
    · replace h13 := of_decide_eq_false (zb_neF h13)
      refine rw_go hX [(16, .bipush (-2))] (by decide +kernel) (Ps := []) (pc' := 18) (lv' := [(0, .ref 0), (1, .int (nI w)), (2, .int (nI u)), (3, .int xq)]) (st' := [.int (-(nI 2))]) (σ' := σ) rfl True.intro ?_
      exact rw_iret hX (by decide +kernel) (⟨by simp only [aChain, eq_true h5, hcw, hcu, eq_false h13, if_true, if_false, Bool.false_eq_true, and_self, and_true, true_and, and_false, false_and, oel_n, oel_s, decide_true, decide_false], XQ_rfl _⟩)
set_option maxRecDepth 20000 in
set_option maxHeartbeats 4000000 in
theorem f_like (l : Launch) (G : Gl) (σ : Mm) (V : Mm) (xw xo xp : Int32) (hV : vw σ 2 = V) (hv : wf V) : AMi l G 5 mX9_like [.ref 0, .int xw, .int xo, .int xp] σ (fun r σ' => r = aLike V xw xo xp ∧ XQ σ σ') := by
  refine rw_inI 9 (by decide +kernel) rfl rfl ?_
  intro E hE hX
  subst hE
  refine rw_go hX [(0, .iload_n 1), (1, .iload_n 2)] (by decide +kernel) (Ps := []) (pc' := 2) (lv' := [(0, .ref 0), (1, .int xw), (2, .int xo), (3, .int xp)]) (st' := [.int xo, .int xw]) (σ' := σ) rfl True.intro ?_
  refine rw_callSi hX (as := [.int xw, .int xo]) (rest := []) (c_X9_areTwoWorks _ _ _ xw xo) (by decide +kernel) msX9_areTwoWorks (Or.inl lk9_185) rfl (by decide) (Nat.le_of_ble_eq_true rfl) rfl ?_
  intro r1 σ1 hr
  rw [hr.1, show r1 = bz (decide (tw xw xo)) from hr.2]
  clear hr σ1 r1
  refine rw_if hX (tgt := 16) (cnd := .eq) (off := 11) (by decide +kernel) (by decide) (fun h5 => ?_) (fun h5 => ?_)
  · replace h5 := of_decide_eq_false (zb_eqT h5)
    refine rw_go hX [(16, .bipush (-2))] (by decide +kernel) (Ps := []) (pc' := 18) (lv' := [(0, .ref 0), (1, .int xw), (2, .int xo), (3, .int xp)]) (st' := [.int (-(nI 2))]) (σ' := σ) rfl True.intro ?_
    exact rw_iret hX (by decide +kernel) (⟨by simp only [aLike, eq_false h5, if_true, if_false, Bool.false_eq_true, and_self, and_true, true_and, and_false, false_and, oel_n, oel_s, decide_true, decide_false], XQ_rfl _⟩)
  · replace h5 := of_decide_eq_true (zb_eqF h5)
    obtain ⟨w, u, ⟨hw, hu⟩, ⟨rfl, rfl⟩, hwu⟩ := tw_n h5
    have hcw : (nI w).toNatClampNeg = w := nI_clamp (by omega)
    have hcu : (nI u).toNatClampNeg = u := nI_clamp (by omega)
    refine rw_go hX [(8, .iload_n 3), (9, .iconst 2)] (by decide +kernel) (Ps := []) (pc' := 10) (lv' := [(0, .ref 0), (1, .int (nI w)), (2, .int (nI u)), (3, .int xp)]) (st' := [.int (nI 2), .int xp]) (σ' := σ) rfl True.intro ?_
    refine rw_callSi hX (as := [.int xp, .int (nI 2)]) (rest := []) (c_X9_isOneOf _ _ _ (xp) (nI 2)) (by decide +kernel) msX9_isOneOf (Or.inl lk9_97) rfl (by decide) (Nat.le_of_ble_eq_true rfl) rfl ?_
    intro r1 σ1 hr
    rw [hr.1, show r1 = bz (decide (0 ≤ xp ∧ xp < nI 2)) from hr.2]
    clear hr σ1 r1
    refine rw_if hX (tgt := 19) (cnd := .ne) (off := 6) (by decide +kernel) (by decide) (fun h13 => ?_) (fun h13 => ?_)
    · replace h13 := of_decide_eq_true (zb_neT h13)
      obtain ⟨p, hp, rfl⟩ := rngO (m := 2) (by omega) h13
      have hcp : (nI p).toNatClampNeg = p := nI_clamp (by omega)
      refine rw_go hX [(19, .aload_n 0), (20, .iload_n 1)] (by decide +kernel) (Ps := []) (pc' := 21) (lv' := [(0, .ref 0), (1, .int (nI w)), (2, .int (nI u)), (3, .int (nI p))]) (st' := [.int (nI w), .ref 0]) (σ' := σ) rfl True.intro ?_
      refine rw_callVi hX (as := [.int (nI w)]) (rest := []) (c_missing _ _ _ V w hV hv hw) (by decide +kernel) mvX9_isMissing lk9_78 (ci := 8) rfl rfl rfl (by decide) (Nat.le_of_ble_eq_true rfl) rfl ?_
      intro r1 σ1 hr
      rw [hr.1, show r1 = bz (decide (vS V w = 0)) from hr.2]
      clear hr σ1 r1
      refine rw_if hX (tgt := 35) (cnd := .ne) (off := 11) (by decide +kernel) (by decide) (fun h24 => ?_) (fun h24 => ?_)
      · replace h24 := of_decide_eq_true (zb_neT h24)
        refine rw_go hX [(35, .bipush (-11))] (by decide +kernel) (Ps := []) (pc' := 37) (lv' := [(0, .ref 0), (1, .int (nI w)), (2, .int (nI u)), (3, .int (nI p))]) (st' := [.int (-(nI 11))]) (σ' := σ) rfl True.intro ?_
        exact rw_iret hX (by decide +kernel) (⟨by simp only [aLike, eq_true h5, hcw, hcu, eq_true h13, hcp, eq_true h24, if_true, if_false, Bool.false_eq_true, and_self, and_true, true_and, and_false, false_and, oel_n, oel_s, decide_true, decide_false], XQ_rfl _⟩)
      · replace h24 := of_decide_eq_false (zb_neF h24)
        refine rw_go hX [(27, .aload_n 0), (28, .iload_n 2)] (by decide +kernel) (Ps := []) (pc' := 29) (lv' := [(0, .ref 0), (1, .int (nI w)), (2, .int (nI u)), (3, .int (nI p))]) (st' := [.int (nI u), .ref 0]) (σ' := σ) rfl True.intro ?_
        refine rw_callVi hX (as := [.int (nI u)]) (rest := []) (c_missing _ _ _ V u hV hv hu) (by decide +kernel) mvX9_isMissing lk9_78 (ci := 8) rfl rfl rfl (by decide) (Nat.le_of_ble_eq_true rfl) rfl ?_
        intro r1 σ1 hr
        rw [hr.1, show r1 = bz (decide (vS V u = 0)) from hr.2]
        clear hr σ1 r1
        refine rw_if hX (tgt := 38) (cnd := .eq) (off := 6) (by decide +kernel) (by decide) (fun h32 => ?_) (fun h32 => ?_)
        · replace h32 := of_decide_eq_false (zb_eqT h32)
          refine rw_go hX [(38, .aload_n 0), (39, .getfield 25), (42, .aload_n 0), (43, .getfield 12)] (by decide +kernel) (Ps := []) (pc' := 46) (lv' := [(0, .ref 0), (1, .int (nI w)), (2, .int (nI u)), (3, .int (nI p))]) (st' := [.ref 1, .ref 22]) (σ' := σ) rfl True.intro ?_
          refine rw_callVv hX (as := [.ref 1]) (rest := []) (c_look_1 _ _ _ V hV hv) (by decide +kernel) mvX8_look lk9_152 (ci := 7) rfl rfl rfl (by decide) (Nat.le_of_ble_eq_true rfl) rfl ?_
          intro τ1 ht1
          obtain ⟨F, hS, h0⟩ := LK_SN ht1
          have hq1 := XQ_S (LK_SQ ht1)
          have hF5 := hS.2.1
          refine rw_go hX [(49, .aload_n 0), (50, .getfield 25), (53, .iload_n 1), (54, .iload_n 2)] (by decide +kernel) (Ps := []) (pc' := 55) (lv' := [(0, .ref 0), (1, .int (nI w)), (2, .int (nI u)), (3, .int (nI p))]) (st' := [.int (nI u), .int (nI w), .ref 22]) (σ' := τ1) rfl True.intro ?_
          refine rw_callVv hX (as := [.int (nI w), .int (nI u)]) (rest := []) (c_flagPrints _ _ _ V F w u hv hw hu hS h0) (by decide +kernel) mvX8_flagPrints lk9_214 (ci := 7) rfl rfl rfl (by decide) (Nat.le_of_ble_eq_true rfl) rfl ?_
          intro τ2 ht2
          obtain ⟨hl1, hl2⟩ := like_cnt hv hw hu hS ht2.1 ht2.2
          have hq2 : XQ σ τ2 := hq1.trans (fun k hk => ht2.2 k (by omega))
          have hb5 := LBo_50 hv hw hu
          refine rw_go hX [(58, .aload_n 0), (59, .getfield 25), (62, .getfield 165)] (by decide +kernel) (Ps := []) (pc' := 65) (lv' := [(0, .ref 0), (1, .int (nI w)), (2, .int (nI u)), (3, .int (nI p))]) (st' := [.ref 31]) (σ' := τ2) rfl True.intro ?_
          refine rw_callVi hX (as := []) (rest := []) (c_flaggedByBoth _ _ _ F (by rw [ht2.2 31 (by decide)]; exact hS.2.2.1) hF5) (by decide +kernel) mvX0_flaggedByBoth lk9_217 (ci := 0) rfl rfl rfl (by decide) (Nat.le_of_ble_eq_true rfl) rfl ?_
          intro r1 σ1 hr
          rw [hr.1, show r1 = nI (LBo V w u) from hr.2.trans (by rw [hl1])]
          clear hr σ1 r1
          refine rw_go hX [(68, .aload_n 0), (69, .getfield 25), (72, .getfield 165)] (by decide +kernel) (Ps := []) (pc' := 75) (lv' := [(0, .ref 0), (1, .int (nI w)), (2, .int (nI u)), (3, .int (nI p))]) (st' := [.ref 31, .int (nI (LBo V w u))]) (σ' := τ2) rfl True.intro ?_
          refine rw_callVi hX (as := []) (rest := [.int (nI (LBo V w u))]) (c_flaggedByAny _ _ _ F (by rw [ht2.2 31 (by decide)]; exact hS.2.2.1) hF5) (by decide +kernel) mvX0_flaggedByAny lk9_220 (ci := 0) rfl rfl rfl (by decide) (Nat.le_of_ble_eq_true rfl) rfl ?_
          intro r1 σ1 hr
          rw [hr.1, show r1 = nI (LAn V w u) from hr.2.trans (by rw [hl2])]
          clear hr σ1 r1
          refine rw_go hX [(78, .iload_n 3)] (by decide +kernel) (Ps := []) (pc' := 79) (lv' := [(0, .ref 0), (1, .int (nI w)), (2, .int (nI u)), (3, .int (nI p))]) (st' := [.int (nI p), .int (nI (LAn V w u)), .int (nI (LBo V w u))]) (σ' := τ2) rfl True.intro ?_
          refine rw_callSi hX (as := [.int (nI (LBo V w u)), .int (nI (LAn V w u)), .int (nI p)]) (rest := []) (c_lowest _ _ _ (LBo V w u) (LAn V w u) p (by omega) (by omega) hp) (by decide +kernel) msX9_inLowestTerms (Or.inl lk9_223) rfl (by decide) (Nat.le_of_ble_eq_true rfl) rfl ?_
          intro r1 σ1 hr
          rw [hr.1, show r1 = nI (lowT (LBo V w u) (LAn V w u) p) from hr.2]
          clear hr σ1 r1
          exact rw_iret hX (by decide +kernel) (⟨by simp only [aLike, eq_true h5, hcw, hcu, eq_true h13, hcp, eq_false h24, eq_false h32, if_true, if_false, Bool.false_eq_true, and_self, and_true, true_and, and_false, false_and, oel_n, oel_s, decide_true, decide_false], hq2⟩)
        · replace h32 := of_decide_eq_true (zb_eqF h32)
          refine rw_go hX [(35, .bipush (-11))] (by decide +kernel) (Ps := []) (pc' := 37) (lv' := [(0, .ref 0), (1, .int (nI w)), (2, .int (nI u)), (3, .int (nI p))]) (st' := [.int (-(nI 11))]) (σ' := σ) rfl True.intro ?_
          exact rw_iret hX (by decide +kernel) (⟨by simp only [aLike, eq_true h5, hcw, hcu, eq_true h13, hcp, eq_false h24, eq_true h32, if_true, if_false, Bool.false_eq_true, and_self, and_true, true_and, and_false, false_and, oel_n, oel_s, decide_true, decide_false], XQ_rfl _⟩)
    · replace h13 := of_decide_eq_false (zb_neF h13)
      refine rw_go hX [(16, .bipush (-2))] (by decide +kernel) (Ps := []) (pc' := 18) (lv' := [(0, .ref 0), (1, .int (nI w)), (2, .int (nI u)), (3, .int xp)]) (st' := [.int (-(nI 2))]) (σ' := σ) rfl True.intro ?_
      exact rw_iret hX (by decide +kernel) (⟨by simp only [aLike, eq_true h5, hcw, hcu, eq_false h13, if_true, if_false, Bool.false_eq_true, and_self, and_true, true_and, and_false, false_and, oel_n, oel_s, decide_true, decide_false], XQ_rfl _⟩)
