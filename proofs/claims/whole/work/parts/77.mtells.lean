/-! the model: tells, film -/
set_option maxRecDepth 20000 in
set_option maxHeartbeats 800000 in
theorem g_tells (l : Launch) (G : Gl) (σ : Mm) (V : Mm) (n : Nat → Nat) (xs xw xq : Int32) (hV : vw σ 67 = V) (hv : wf V) (hsh : ∀ s, s < 4 → σ 98 s = nI (n s) ∧ n s ≤ 40) (hso : ∀ s, s < 4 → σ 97 s = -(nI 1) ∨ σ 97 s = nI 0 ∨ σ 97 s = nI 1) : AMi l G 6 mX10_tells [.ref 66, .int xs, .int xw, .int xq] σ (fun r σ' => pTells V n (σ 97) (EqM V σ) xs xw xq r ∧ MQu σ σ') := by
  refine rw_inI 10 (by decide +kernel) rfl rfl ?_
  intro E hE hX
  subst hE
  have hLs := wf_L hv
  refine rw_go hX [(0, .iload_n 1)] (by decide +kernel) (Ps := []) (pc' := 1) (lv' := [(0, .ref 66), (1, .int xs), (2, .int xw), (3, .int xq)]) (st' := [.int xs]) (σ' := σ) rfl True.intro ?_
  refine rw_callSi hX (as := [.int xs]) (rest := []) (m_isSheet _ _ _ (xs)) (by decide +kernel) msX10_isSheet (Or.inl lk10_298) rfl (by decide) (Nat.le_of_ble_eq_true rfl) rfl ?_
  intro r1 σ1 hr
  rw [hr.1, show r1 = bz (decide (0 ≤ xs ∧ xs ≤ 3)) from hr.2]
  clear hr σ1 r1
  refine rw_if hX (tgt := 26) (cnd := .eq) (off := 22) (by decide +kernel) (by decide) (fun h4 => ?_) (fun h4 => ?_)
  · replace h4 := of_decide_eq_false (zb_eqT h4)
    refine rw_go hX [(26, .bipush (-2))] (by decide +kernel) (Ps := []) (pc' := 28) (lv' := [(0, .ref 66), (1, .int xs), (2, .int xw), (3, .int xq)]) (st' := [.int (-(nI 2))]) (σ' := σ) rfl True.intro ?_
    exact rw_iret hX (by decide +kernel) (⟨by simp only [pTells, eq_false h4, if_true, if_false, Bool.false_eq_true, and_self, and_true, true_and, and_false, false_and, oel_n, oel_s, decide_true, decide_false], MQu_rfl _⟩)
  · replace h4 := of_decide_eq_true (zb_eqF h4)
    obtain ⟨s, hs, rfl⟩ := rng (m := 3) (by omega) h4
    have hs : s < 4 := hs
    have hcs : (nI s).toNatClampNeg = s := nI_clamp (by omega)
    have hns := hsh s hs
    have hos := hso s hs
    refine rw_go hX [(7, .iload_n 2)] (by decide +kernel) (Ps := []) (pc' := 8) (lv' := [(0, .ref 66), (1, .int (nI s)), (2, .int xw), (3, .int xq)]) (st' := [.int xw]) (σ' := σ) rfl True.intro ?_
    refine rw_callSi hX (as := [.int xw]) (rest := []) (m_isWork _ _ _ (xw)) (by decide +kernel) msX10_isWork (Or.inl lk10_157) rfl (by decide) (Nat.le_of_ble_eq_true rfl) rfl ?_
    intro r1 σ1 hr
    rw [hr.1, show r1 = bz (decide (0 ≤ xw ∧ xw ≤ 4)) from hr.2]
    clear hr σ1 r1
    refine rw_if hX (tgt := 26) (cnd := .eq) (off := 15) (by decide +kernel) (by decide) (fun h11 => ?_) (fun h11 => ?_)
    · replace h11 := of_decide_eq_false (zb_eqT h11)
      refine rw_go hX [(26, .bipush (-2))] (by decide +kernel) (Ps := []) (pc' := 28) (lv' := [(0, .ref 66), (1, .int (nI s)), (2, .int xw), (3, .int xq)]) (st' := [.int (-(nI 2))]) (σ' := σ) rfl True.intro ?_
      exact rw_iret hX (by decide +kernel) (⟨by simp only [pTells, eq_true h4, hcs, eq_false h11, if_true, if_false, Bool.false_eq_true, and_self, and_true, true_and, and_false, false_and, oel_n, oel_s, decide_true, decide_false], MQu_rfl _⟩)
    · replace h11 := of_decide_eq_true (zb_eqF h11)
      obtain ⟨w, hw, rfl⟩ := rng (m := 4) (by omega) h11
      have hw : w < 5 := hw
      have hcw : (nI w).toNatClampNeg = w := nI_clamp (by omega)
      refine rw_go hX [(14, .iload_n 3), (15, .i2l), (16, .lconst 0), (17, .ldc2_w 205)] (by decide +kernel) (Ps := []) (pc' := 20) (lv' := [(0, .ref 66), (1, .int (nI s)), (2, .int (nI w)), (3, .int xq)]) (st' := [.long 2, .long (Int64.ofNat 0), .long (xq.toInt64)]) (σ' := σ) rfl True.intro ?_
      refine rw_callSi hX (as := [.long (xq.toInt64), .long (Int64.ofNat 0), .long 2]) (rest := []) (m_inI _ _ _ (xq) (0) (nI 2) _ _ _ rfl (by first | rfl | decide +kernel) (by first | rfl | decide +kernel)) (by decide +kernel) msX10_in (Or.inl lk10_105) rfl (by decide) (Nat.le_of_ble_eq_true rfl) rfl ?_
      intro r1 σ1 hr
      rw [hr.1, show r1 = bz (decide (0 ≤ xq ∧ xq < nI 3)) from hr.2.trans (by rw [decide_eq_decide.mpr (in_O (m := 2) (by omega))])]
      clear hr σ1 r1
      refine rw_if hX (tgt := 29) (cnd := .ne) (off := 6) (by decide +kernel) (by decide) (fun h23 => ?_) (fun h23 => ?_)
      · replace h23 := of_decide_eq_true (zb_neT h23)
        obtain ⟨c, hc, rfl⟩ := rngO (m := 3) (by omega) h23
        have hcc : (nI c).toNatClampNeg = c := nI_clamp (by omega)
        refine rw_go hX [(29, .aload_n 0), (30, .iload_n 2)] (by decide +kernel) (Ps := []) (pc' := 31) (lv' := [(0, .ref 66), (1, .int (nI s)), (2, .int (nI w)), (3, .int (nI c))]) (st' := [.int (nI w), .ref 66]) (σ' := σ) rfl True.intro ?_
        refine rw_callVi hX (as := [.int (nI w)]) (rest := []) (m_there _ _ _ V w hV hv hw) (by decide +kernel) mvX10_isThere lk10_132 (ci := 9) rfl rfl rfl (by decide) (Nat.le_of_ble_eq_true rfl) rfl ?_
        intro r1 σ1 hr
        rw [hr.1, show r1 = bz (decide (0 < vS V w)) from hr.2]
        clear hr σ1 r1
        refine rw_if hX (tgt := 46) (cnd := .eq) (off := 12) (by decide +kernel) (by decide) (fun h34 => ?_) (fun h34 => ?_)
        · replace h34 := of_decide_eq_false (zb_eqT h34)
          have hvsw : vS V w = 0 := by omega
          refine rw_go hX [(46, .bipush (-11))] (by decide +kernel) (Ps := []) (pc' := 48) (lv' := [(0, .ref 66), (1, .int (nI s)), (2, .int (nI w)), (3, .int (nI c))]) (st' := [.int (-(nI 11))]) (σ' := σ) rfl True.intro ?_
          exact rw_iret hX (by decide +kernel) (⟨by simp only [pTells, eq_true h4, hcs, eq_true h11, hcw, eq_true h23, hcc, eq_false h34, eq_true hvsw, if_true, if_false, Bool.false_eq_true, and_self, and_true, true_and, and_false, false_and, oel_n, oel_s, decide_true, decide_false], MQu_rfl _⟩)
        · replace h34 := of_decide_eq_true (zb_eqF h34)
          have hvsw : ¬ vS V w = 0 := by omega
          refine rw_go hX [(37, .aload_n 0), (38, .getfield 91), (41, .iload_n 1), (42, .iaload)] (by decide +kernel) (Ps := [vp_in (nI s) 4]) (pc' := 43) (lv' := [(0, .ref 66), (1, .int (nI s)), (2, .int (nI w)), (3, .int (nI c))]) (st' := [.int (σ 97 (nI s).toNatClampNeg)]) (σ' := σ) rfl (vp_in_nI (by omega) (by omega)) ?_
          rw [show (σ 97 (nI s).toNatClampNeg) = σ 97 s from (by rw [nI_clamp (by omega)])]
          refine rw_if hX (tgt := 49) (cnd := .ge) (off := 6) (by decide +kernel) (by decide) (fun h43 => ?_) (fun h43 => ?_)
          · replace h43 : (σ 97 s ≥ 0) := h43
            have hso1 : ¬ σ 97 s = -(nI 1) := fun z => absurd ((so_m hos).mpr z) (Int32.not_lt.mpr h43)
            refine rw_go hX [(49, .aload_n 0), (50, .getfield 94), (53, .iload_n 1), (54, .iaload)] (by decide +kernel) (Ps := [vp_in (nI s) 4]) (pc' := 55) (lv' := [(0, .ref 66), (1, .int (nI s)), (2, .int (nI w)), (3, .int (nI c))]) (st' := [.int (σ 98 (nI s).toNatClampNeg)]) (σ' := σ) rfl (vp_in_nI (by omega) (by omega)) ?_
            rw [show (σ 98 (nI s).toNatClampNeg) = nI (n s) from (by rw [nI_clamp (by omega), hns.1])]
            refine rw_go hX [(55, .bipush 20)] (by decide +kernel) (Ps := []) (pc' := 57) (lv' := [(0, .ref 66), (1, .int (nI s)), (2, .int (nI w)), (3, .int (nI c))]) (st' := [.int (nI 20), .int (nI (n s))]) (σ' := σ) rfl True.intro ?_
            refine rw_icmp hX (tgt := 63) (cnd := .le) (off := 6) (by decide +kernel) (by decide) (fun h57 => ?_) (fun h57 => ?_)
            · replace h57 := c2_leT h57
              have hn20 : n s ≤ 20 := h57
              refine rw_go hX [(63, .aload_n 0)] (by decide +kernel) (Ps := []) (pc' := 64) (lv' := [(0, .ref 66), (1, .int (nI s)), (2, .int (nI w)), (3, .int (nI c))]) (st' := [.ref 66]) (σ' := σ) rfl True.intro ?_
              refine rw_callVv hX (as := []) (rest := []) (m_anew _ _ _ V hV hv) (by decide +kernel) mvX10_anew lk10_220 (ci := 9) rfl rfl rfl (by decide) (Nat.le_of_ble_eq_true rfl) rfl ?_
              intro τ1 ht1
              obtain ⟨hAN, hFN⟩ := ht1
              have hq1 := MQu_A hFN
              have hV1 : vw τ1 67 = V := (vw_of (fun j hj => hFN _ (by omega))).trans hV
              have h71 : τ1 71 = V 4 := vw_at hV1 4 (by omega)
              have hE1 : EqM V τ1 s w = EqM V σ s w := by
                funext S9 j9
                unfold EqM
                rw [hq1.1 (93 + s) (by omega) (by omega) (by omega)]
              have h981 : τ1 98 s = nI (n s) := by rw [hq1.1 98 (by omega) (by omega) (by omega)]; exact hns.1
              refine rw_go hX [(67, .iload_n 3)] (by decide +kernel) (Ps := []) (pc' := 68) (lv' := [(0, .ref 66), (1, .int (nI s)), (2, .int (nI w)), (3, .int (nI c))]) (st' := [.int (nI c)]) (σ' := τ1) rfl True.intro ?_
              refine rw_if hX (tgt := 84) (cnd := .ne) (off := 16) (by decide +kernel) (by decide) (fun h68 => ?_) (fun h68 => ?_)
              · replace h68 := zn_neT h68
                have hc0 : ¬ nI c = 0 := fun z => by have := (nI_eq (by omega) (by omega)).mp (z.trans nI_0.symm); omega
                have hL5 := lC_50 hv hw
                refine rw_go hX [(84, .iconst (-1)), (85, .istore 4), (87, .iconst 1), (88, .istore 5)] (by decide +kernel) (Ps := []) (pc' := 90) (lv' := [(0, .ref 66), (1, .int (nI s)), (2, .int (nI w)), (3, .int (nI c)), (4, .int (-(nI 1))), (5, .int (nI 1))]) (st' := []) (σ' := τ1) rfl True.intro ?_
                have L90 : ∀ (μ90 : Nat) (k : Nat) (x : Int32) (τ : Mm), μ90 = 51 - k → (1 ≤ k) → (k ≤ 51) → (TI (fun ls => 2 * spN (sT V w ls) (lC V w) = n s ∧ ∀ j, j < n s → EqM V σ s w (sT V w ls) j) c k x) → (AN V τ) → (MQu σ τ) → RW E G 6 7 (QI E G (fun r σ' => pTells V n (σ 97) (EqM V σ) (nI s) (nI w) (nI c) r ∧ MQu σ σ')) 90 [(0, .ref 66), (1, .int (nI s)), (2, .int (nI w)), (3, .int (nI c)), (4, .int x), (5, .int (nI k))] [] τ := by
                  intro μ90
                  induction μ90 using Nat.strongRecOn with
                  | ind μ90 ih90 =>
                    intro k x τ hμ90 hk1 hk51 hTI hANt hqt
                    have hVt : vw τ 67 = V := (vw_of (fun j hj => hqt.1 _ (by omega) (by omega) (by omega))).trans hV
                    have hEτ : EqM V τ s w = EqM V σ s w := by
                      funext S9 j9
                      unfold EqM
                      rw [hqt.1 (93 + s) (by omega) (by omega) (by omega)]
                    have h98t : τ 98 s = nI (n s) := by rw [hqt.1 98 (by omega) (by omega) (by omega)]; exact hns.1
                    refine rw_go hX [(90, .iload 5), (92, .bipush 50)] (by decide +kernel) (Ps := []) (pc' := 94) (lv' := [(0, .ref 66), (1, .int (nI s)), (2, .int (nI w)), (3, .int (nI c)), (4, .int x), (5, .int (nI k))]) (st' := [.int (nI 50), .int (nI k)]) (σ' := τ) rfl True.intro ?_
                    refine rw_icmp hX (tgt := 145) (cnd := .gt) (off := 51) (by decide +kernel) (by decide) (fun h94 => ?_) (fun h94 => ?_)
                    · replace h94 := c2_gtT h94
                      have hend : k = 51 ∨ ¬ x < 0 := Or.inl (by omega)
                      refine rw_go hX [(145, .iload 4)] (by decide +kernel) (Ps := []) (pc' := 147) (lv' := [(0, .ref 66), (1, .int (nI s)), (2, .int (nI w)), (3, .int (nI c)), (4, .int x), (5, .int (nI k))]) (st' := [.int x]) (σ' := τ) rfl True.intro ?_
                      exact rw_iret hX (by decide +kernel) (⟨by
  simp only [pTells, pTl, eq_true h4, hcs, eq_true h11, hcw, eq_true h23, hcc, eq_true h34, eq_false hvsw, eq_true h43, eq_false hso1, eq_true h57, eq_true hn20, eq_true h68, eq_false hc0, eq_true h94, if_true, if_false, Bool.false_eq_true, and_self, and_true, true_and, and_false, false_and, oel_n, oel_s, decide_true, decide_false]
  by_cases e1 : c = 1
  · rw [if_pos (show nI c = nI 1 by rw [e1])]
    rw [e1] at hTI
    exact TI_1 hTI hend
  · rw [if_neg (fun z => e1 ((nI_eq (by omega) (by omega)).mp z))]
    exact TI_2 e1 hTI hend, hqt⟩)
                    · replace h94 := c2_gtF h94
                      refine rw_go hX [(97, .iload 4)] (by decide +kernel) (Ps := []) (pc' := 99) (lv' := [(0, .ref 66), (1, .int (nI s)), (2, .int (nI w)), (3, .int (nI c)), (4, .int x), (5, .int (nI k))]) (st' := [.int x]) (σ' := τ) rfl True.intro ?_
                      refine rw_if hX (tgt := 145) (cnd := .ge) (off := 46) (by decide +kernel) (by decide) (fun h99 => ?_) (fun h99 => ?_)
                      · replace h99 : (x ≥ 0) := h99
                        have hend : k = 51 ∨ ¬ x < 0 := Or.inr (Int32.not_lt.mpr h99)
                        refine rw_go hX [(145, .iload 4)] (by decide +kernel) (Ps := []) (pc' := 147) (lv' := [(0, .ref 66), (1, .int (nI s)), (2, .int (nI w)), (3, .int (nI c)), (4, .int x), (5, .int (nI k))]) (st' := [.int x]) (σ' := τ) rfl True.intro ?_
                        exact rw_iret hX (by decide +kernel) (⟨by
  simp only [pTells, pTl, eq_true h4, hcs, eq_true h11, hcw, eq_true h23, hcc, eq_true h34, eq_false hvsw, eq_true h43, eq_false hso1, eq_true h57, eq_true hn20, eq_true h68, eq_false hc0, eq_true h94, eq_true h99, if_true, if_false, Bool.false_eq_true, and_self, and_true, true_and, and_false, false_and, oel_n, oel_s, decide_true, decide_false]
  by_cases e1 : c = 1
  · rw [if_pos (show nI c = nI 1 by rw [e1])]
    rw [e1] at hTI
    exact TI_1 hTI hend
  · rw [if_neg (fun z => e1 ((nI_eq (by omega) (by omega)).mp z))]
    exact TI_2 e1 hTI hend, hqt⟩)
                      · replace h99 : ¬ (x ≥ 0) := h99
                        have hx0 : x < 0 := Int32.not_le.mp h99
                        refine rw_go hX [(102, .iload_n 3), (103, .iconst 1)] (by decide +kernel) (Ps := []) (pc' := 104) (lv' := [(0, .ref 66), (1, .int (nI s)), (2, .int (nI w)), (3, .int (nI c)), (4, .int x), (5, .int (nI k))]) (st' := [.int (nI 1), .int (nI c)]) (σ' := τ) rfl True.intro ?_
                        refine rw_icmp hX (tgt := 112) (cnd := .ne) (off := 8) (by decide +kernel) (by decide) (fun h104 => ?_) (fun h104 => ?_)
                        · replace h104 := c2_neT h104
                          have els : lsq c k = 51 - k := if_neg h104
                          refine rw_go hX [(112, .bipush 51), (114, .iload 5), (116, .isub)] (by decide +kernel) (Ps := []) (pc' := 117) (lv' := [(0, .ref 66), (1, .int (nI s)), (2, .int (nI w)), (3, .int (nI c)), (4, .int x), (5, .int (nI k))]) (st' := [.int (nI 51 - nI k)]) (σ' := τ) rfl True.intro ?_
                          try rw [show (nI 51 - nI k) = nI (51 - k) from pk_sub (by omega)]
                          refine rw_go hX [(117, .istore 6), (119, .aload_n 0), (120, .iload_n 1), (121, .iload_n 2), (122, .iload 6)] (by decide +kernel) (Ps := []) (pc' := 124) (lv' := [(0, .ref 66), (1, .int (nI s)), (2, .int (nI w)), (3, .int (nI c)), (4, .int x), (5, .int (nI k)), (6, .int (nI (51 - k)))]) (st' := [.int (nI (51 - k)), .int (nI w), .int (nI s), .ref 66]) (σ' := τ) rfl True.intro ?_
                          refine rw_callVi hX (as := [.int (nI s), .int (nI w), .int (nI (51 - k))]) (rest := []) (m_otherwise _ _ _ V s w (51 - k) (n s) hs hVt hv hw hANt (by omega) (by omega) h98t hns.2) (by decide +kernel) mvX10_otherwise lk10_301 (ci := 9) rfl rfl rfl (by decide) (Nat.le_of_ble_eq_true rfl) rfl ?_
                          intro r2 τu hr
                          obtain ⟨hFO, hANu, hq9⟩ := hr
                          rw [hEτ] at hFO
                          have hqu := hqt.trans hq9
                          have hsn := spN_50 (s := sT V w (51 - k)) hL5
                          have hFn := FO_neg hFO (by omega) (by have := hns.2; omega)
                          refine rw_if hX (tgt := 135) (cnd := .ge) (off := 8) (by decide +kernel) (by decide) (fun h127 => ?_) (fun h127 => ?_)
                          · replace h127 : (r2 ≥ 0) := h127
                            have hWn : ¬ (fun ls => 2 * spN (sT V w ls) (lC V w) = n s ∧ ∀ j, j < n s → EqM V σ s w (sT V w ls) j) (lsq c k) := by
                              rw [els]
                              exact fun z => absurd (hFn.mpr z) (Int32.not_lt.mpr h127)
                            refine rw_go hX [(135, .iload 4), (137, .istore 4), (139, .iinc 5 1)] (by decide +kernel) (Ps := []) (pc' := 142) (lv' := [(0, .ref 66), (1, .int (nI s)), (2, .int (nI w)), (3, .int (nI c)), (4, .int x), (5, .int (nI k + nI 1)), (6, .int (nI (51 - k)))]) (st' := []) (σ' := τu) rfl True.intro ?_
                            rw [show (nI k + nI 1) = nI (k + 1) from nI_add _ _]
                            refine rw_go hX [(142, .goto (-52))] (by decide +kernel) (Ps := []) (pc' := 90) (lv' := [(0, .ref 66), (1, .int (nI s)), (2, .int (nI w)), (3, .int (nI c)), (4, .int x), (5, .int (nI (k + 1))), (6, .int (nI (51 - k)))]) (st' := []) (σ' := τu) rfl True.intro ?_
                            refine rw_lsub (ks := [0, 1, 2, 3, 4, 5]) (lv' := [(0, .ref 66), (1, .int (nI s)), (2, .int (nI w)), (3, .int (nI c)), (4, .int x), (5, .int (nI (k + 1)))]) rfl ?_
                            exact ih90 (51 - (k + 1)) (by omega) (k + 1) x _ rfl (by omega) (by omega) (TI_n hTI hx0 hWn) hANu hqu
                          · replace h127 : ¬ (r2 ≥ 0) := h127
                            have hW : (fun ls => 2 * spN (sT V w ls) (lC V w) = n s ∧ ∀ j, j < n s → EqM V σ s w (sT V w ls) j) (lsq c k) := by
                              rw [els]
                              exact hFn.mp (Int32.not_le.mp h127)
                            refine rw_go hX [(130, .iload 6), (132, .goto 5), (137, .istore 4), (139, .iinc 5 1)] (by decide +kernel) (Ps := []) (pc' := 142) (lv' := [(0, .ref 66), (1, .int (nI s)), (2, .int (nI w)), (3, .int (nI c)), (4, .int (nI (51 - k))), (5, .int (nI k + nI 1)), (6, .int (nI (51 - k)))]) (st' := []) (σ' := τu) rfl True.intro ?_
                            rw [show (nI k + nI 1) = nI (k + 1) from nI_add _ _]
                            refine rw_go hX [(142, .goto (-52))] (by decide +kernel) (Ps := []) (pc' := 90) (lv' := [(0, .ref 66), (1, .int (nI s)), (2, .int (nI w)), (3, .int (nI c)), (4, .int (nI (51 - k))), (5, .int (nI (k + 1))), (6, .int (nI (51 - k)))]) (st' := []) (σ' := τu) rfl True.intro ?_
                            refine rw_lsub (ks := [0, 1, 2, 3, 4, 5]) (lv' := [(0, .ref 66), (1, .int (nI s)), (2, .int (nI w)), (3, .int (nI c)), (4, .int (nI (51 - k))), (5, .int (nI (k + 1)))]) rfl ?_
                            have qT := TI_y hTI hx0 hk1 (by omega) hW
                            rw [els] at qT
                            exact ih90 (51 - (k + 1)) (by omega) (k + 1) _ _ rfl (by omega) (by omega) qT hANu hqu
                        · replace h104 := c2_neF h104
                          have els : lsq c k = k := if_pos h104
                          refine rw_go hX [(107, .iload 5), (109, .goto 8)] (by decide +kernel) (Ps := []) (pc' := 117) (lv' := [(0, .ref 66), (1, .int (nI s)), (2, .int (nI w)), (3, .int (nI c)), (4, .int x), (5, .int (nI k))]) (st' := [.int (nI k)]) (σ' := τ) rfl True.intro ?_
                          try rw [show (nI 51 - nI k) = nI (51 - k) from pk_sub (by omega)]
                          refine rw_go hX [(117, .istore 6), (119, .aload_n 0), (120, .iload_n 1), (121, .iload_n 2), (122, .iload 6)] (by decide +kernel) (Ps := []) (pc' := 124) (lv' := [(0, .ref 66), (1, .int (nI s)), (2, .int (nI w)), (3, .int (nI c)), (4, .int x), (5, .int (nI k)), (6, .int (nI k))]) (st' := [.int (nI k), .int (nI w), .int (nI s), .ref 66]) (σ' := τ) rfl True.intro ?_
                          refine rw_callVi hX (as := [.int (nI s), .int (nI w), .int (nI k)]) (rest := []) (m_otherwise _ _ _ V s w k (n s) hs hVt hv hw hANt (by omega) (by omega) h98t hns.2) (by decide +kernel) mvX10_otherwise lk10_301 (ci := 9) rfl rfl rfl (by decide) (Nat.le_of_ble_eq_true rfl) rfl ?_
                          intro r2 τu hr
                          obtain ⟨hFO, hANu, hq9⟩ := hr
                          rw [hEτ] at hFO
                          have hqu := hqt.trans hq9
                          have hsn := spN_50 (s := sT V w k) hL5
                          have hFn := FO_neg hFO (by omega) (by have := hns.2; omega)
                          refine rw_if hX (tgt := 135) (cnd := .ge) (off := 8) (by decide +kernel) (by decide) (fun h127 => ?_) (fun h127 => ?_)
                          · replace h127 : (r2 ≥ 0) := h127
                            have hWn : ¬ (fun ls => 2 * spN (sT V w ls) (lC V w) = n s ∧ ∀ j, j < n s → EqM V σ s w (sT V w ls) j) (lsq c k) := by
                              rw [els]
                              exact fun z => absurd (hFn.mpr z) (Int32.not_lt.mpr h127)
                            refine rw_go hX [(135, .iload 4), (137, .istore 4), (139, .iinc 5 1)] (by decide +kernel) (Ps := []) (pc' := 142) (lv' := [(0, .ref 66), (1, .int (nI s)), (2, .int (nI w)), (3, .int (nI c)), (4, .int x), (5, .int (nI k + nI 1)), (6, .int (nI k))]) (st' := []) (σ' := τu) rfl True.intro ?_
                            rw [show (nI k + nI 1) = nI (k + 1) from nI_add _ _]
                            refine rw_go hX [(142, .goto (-52))] (by decide +kernel) (Ps := []) (pc' := 90) (lv' := [(0, .ref 66), (1, .int (nI s)), (2, .int (nI w)), (3, .int (nI c)), (4, .int x), (5, .int (nI (k + 1))), (6, .int (nI k))]) (st' := []) (σ' := τu) rfl True.intro ?_
                            refine rw_lsub (ks := [0, 1, 2, 3, 4, 5]) (lv' := [(0, .ref 66), (1, .int (nI s)), (2, .int (nI w)), (3, .int (nI c)), (4, .int x), (5, .int (nI (k + 1)))]) rfl ?_
                            exact ih90 (51 - (k + 1)) (by omega) (k + 1) x _ rfl (by omega) (by omega) (TI_n hTI hx0 hWn) hANu hqu
                          · replace h127 : ¬ (r2 ≥ 0) := h127
                            have hW : (fun ls => 2 * spN (sT V w ls) (lC V w) = n s ∧ ∀ j, j < n s → EqM V σ s w (sT V w ls) j) (lsq c k) := by
                              rw [els]
                              exact hFn.mp (Int32.not_le.mp h127)
                            refine rw_go hX [(130, .iload 6), (132, .goto 5), (137, .istore 4), (139, .iinc 5 1)] (by decide +kernel) (Ps := []) (pc' := 142) (lv' := [(0, .ref 66), (1, .int (nI s)), (2, .int (nI w)), (3, .int (nI c)), (4, .int (nI k)), (5, .int (nI k + nI 1)), (6, .int (nI k))]) (st' := []) (σ' := τu) rfl True.intro ?_
                            rw [show (nI k + nI 1) = nI (k + 1) from nI_add _ _]
                            refine rw_go hX [(142, .goto (-52))] (by decide +kernel) (Ps := []) (pc' := 90) (lv' := [(0, .ref 66), (1, .int (nI s)), (2, .int (nI w)), (3, .int (nI c)), (4, .int (nI k)), (5, .int (nI (k + 1))), (6, .int (nI k))]) (st' := []) (σ' := τu) rfl True.intro ?_
                            refine rw_lsub (ks := [0, 1, 2, 3, 4, 5]) (lv' := [(0, .ref 66), (1, .int (nI s)), (2, .int (nI w)), (3, .int (nI c)), (4, .int (nI k)), (5, .int (nI (k + 1)))]) rfl ?_
                            have qT := TI_y hTI hx0 hk1 (by omega) hW
                            rw [els] at qT
                            exact ih90 (51 - (k + 1)) (by omega) (k + 1) _ _ rfl (by omega) (by omega) qT hANu hqu
                refine rw_lsub (ks := [0, 1, 2, 3, 4, 5]) (lv' := [(0, .ref 66), (1, .int (nI s)), (2, .int (nI w)), (3, .int (nI c)), (4, .int (-(nI 1))), (5, .int (nI 1))]) rfl ?_
                exact L90 50 1 _ τ1 rfl (by omega) (by omega) (TI_0 _ c) hAN hq1
              · replace h68 := zn_neF h68
                have hc0 : nI c = 0 := by rw [h68]; exact nI_0
                have hEτ1 := hE1
                refine rw_go hX [(71, .aload_n 0), (72, .iload_n 1), (73, .iload_n 2), (74, .aload_n 0), (75, .getfield 22), (78, .iconst 4), (79, .iaload)] (by decide +kernel) (Ps := [vp_in (nI 4) 6]) (pc' := 80) (lv' := [(0, .ref 66), (1, .int (nI s)), (2, .int (nI w)), (3, .int (nI c))]) (st' := [.int (τ1 71 (nI 4).toNatClampNeg), .int (nI w), .int (nI s), .ref 66]) (σ' := τ1) rfl (vp_in_nI (by omega) (by omega)) ?_
                rw [show (τ1 71 (nI 4).toNatClampNeg) = nI (vR V 4) from (by rw [nI_clamp (by omega), h71, hLs.1])]
                refine rw_callVi hX (as := [.int (nI s), .int (nI w), .int (nI (vR V 4))]) (rest := []) (m_otherwise _ _ _ V s w (vR V 4) (n s) hs hV1 hv hw hAN (by omega) (by omega) h981 hns.2) (by decide +kernel) mvX10_otherwise lk10_301 (ci := 9) rfl rfl rfl (by decide) (Nat.le_of_ble_eq_true rfl) rfl ?_
                intro r1 τ9 hr
                obtain ⟨hFO, hAN9, hq9⟩ := hr
                rw [hE1] at hFO
                have hqf := hq1.trans hq9
                exact rw_iret hX (by decide +kernel) (⟨by simp only [pTells, pTl, eq_true h4, hcs, eq_true h11, hcw, eq_true h23, hcc, eq_true h34, eq_false hvsw, eq_true h43, eq_false hso1, eq_true h57, eq_true hn20, eq_true h68, eq_true hc0, if_true, if_false, Bool.false_eq_true, and_self, and_true, true_and, and_false, false_and, oel_n, oel_s, decide_true, decide_false]; exact hFO, hqf⟩)
            · replace h57 := c2_leF h57
              have hn20 : ¬ n s ≤ 20 := by omega
              refine rw_go hX [(60, .bipush (-2))] (by decide +kernel) (Ps := []) (pc' := 62) (lv' := [(0, .ref 66), (1, .int (nI s)), (2, .int (nI w)), (3, .int (nI c))]) (st' := [.int (-(nI 2))]) (σ' := σ) rfl True.intro ?_
              exact rw_iret hX (by decide +kernel) (⟨by simp only [pTells, eq_true h4, hcs, eq_true h11, hcw, eq_true h23, hcc, eq_true h34, eq_false hvsw, eq_true h43, eq_false hso1, eq_true h57, eq_false hn20, if_true, if_false, Bool.false_eq_true, and_self, and_true, true_and, and_false, false_and, oel_n, oel_s, decide_true, decide_false], MQu_rfl _⟩)
          · replace h43 : ¬ (σ 97 s ≥ 0) := h43
            have hso1 : σ 97 s = -(nI 1) := (so_m hos).mp (Int32.not_le.mp h43)
            refine rw_go hX [(46, .bipush (-11))] (by decide +kernel) (Ps := []) (pc' := 48) (lv' := [(0, .ref 66), (1, .int (nI s)), (2, .int (nI w)), (3, .int (nI c))]) (st' := [.int (-(nI 11))]) (σ' := σ) rfl True.intro ?_
            exact rw_iret hX (by decide +kernel) (⟨by simp only [pTells, eq_true h4, hcs, eq_true h11, hcw, eq_true h23, hcc, eq_true h34, eq_false hvsw, eq_false h43, eq_true hso1, if_true, if_false, Bool.false_eq_true, and_self, and_true, true_and, and_false, false_and, oel_n, oel_s, decide_true, decide_false], MQu_rfl _⟩)
      · replace h23 := of_decide_eq_false (zb_neF h23)
        refine rw_go hX [(26, .bipush (-2))] (by decide +kernel) (Ps := []) (pc' := 28) (lv' := [(0, .ref 66), (1, .int (nI s)), (2, .int (nI w)), (3, .int xq)]) (st' := [.int (-(nI 2))]) (σ' := σ) rfl True.intro ?_
        exact rw_iret hX (by decide +kernel) (⟨by simp only [pTells, eq_true h4, hcs, eq_true h11, hcw, eq_false h23, if_true, if_false, Bool.false_eq_true, and_self, and_true, true_and, and_false, false_and, oel_n, oel_s, decide_true, decide_false], MQu_rfl _⟩)
def flM (V σ σ' : Mm) (s w : Nat) : Prop := (∀ k, k < 75 ∨ 91 < k → k ≠ 66 → k ≠ 99 → k ≠ 93 + s → k ≠ 97 → k ≠ 98 → σ' k = σ k) ∧ (σ' 66 6 = σ 66 6 ∧ σ' 66 8 = σ 66 8) ∧ σ' 98 = upd (σ 98) s (nI (flN V w)) ∧ σ' 97 = upd (σ 97) s (nI 0) ∧ ∀ j, σ' (93 + s) j = if j < flN V w then flT V w j else σ (93 + s) j
def sFilmM (V σ σ' : Mm) (s x : Int32) : Prop := if 0 ≤ s ∧ s ≤ 3 then (if 0 ≤ x ∧ x ≤ 4 then (if vS V x.toNatClampNeg = 0 then σ' = σ else flM V σ σ' s.toNatClampNeg x.toNatClampNeg) else σ' = σ) else σ' = σ
noncomputable def flRM (V : Mm) (w : Nat) (f : Nat → Int32) (i : Nat) : Nat → Int32 := fun j => if j < i then flT V w j else f j
theorem flRM_0 (V : Mm) (w : Nat) (f : Nat → Int32) : flRM V w f 0 = f := by
  funext j
  exact if_neg (by omega)
theorem flRM_1 (V : Mm) (w : Nat) (f : Nat → Int32) (i : Nat) : upd (flRM V w f i) i (flT V w i) = flRM V w f (i + 1) := by
  funext j
  unfold flRM
  by_cases q : j = i
  · subst q
    rw [upd_s, if_pos (by omega)]
  · rw [upd_n _ _ q]
    by_cases g : j < i
    · rw [if_pos g, if_pos (by omega)]
    · rw [if_neg g, if_neg (by omega)]
theorem film_r (k : Nat) (hk : k < 4) : (0 : Int32) ≤ nI k ∧ nI k ≤ 3 := ⟨nI_pos' (by omega), nI_le (b := 3) (by omega) (by omega)⟩
set_option maxRecDepth 20000 in
set_option maxHeartbeats 800000 in
theorem g_film_0 (l : Launch) (G : Gl) (σ : Mm) (V : Mm) (xw : Int32) (hV : vw σ 67 = V) (hv : wf V) : AMi l G 6 mX10_film [.ref 66, .int (nI 0), .int xw] σ (fun r σ' => r = aFilm V (nI 0) xw ∧ sFilmM V σ σ' (nI 0) xw) := by
  refine rw_inI 10 (by decide +kernel) rfl rfl ?_
  intro E hE hX
  subst hE
  have hLs := wf_L hv
  have hk4 := film_r 0 (by omega)
  have hcs : (nI 0).toNatClampNeg = 0 := nI_clamp (by omega)
  refine rw_go hX [(0, .iload_n 1)] (by decide +kernel) (Ps := []) (pc' := 1) (lv' := [(0, .ref 66), (1, .int (nI 0)), (2, .int xw)]) (st' := [.int (nI 0)]) (σ' := σ) rfl True.intro ?_
  refine rw_callSi hX (as := [.int (nI 0)]) (rest := []) (m_isSheet _ _ _ (nI 0)) (by decide +kernel) msX10_isSheet (Or.inl lk10_298) rfl (by decide) (Nat.le_of_ble_eq_true rfl) rfl ?_
  intro r1 σ1 hr
  rw [hr.1, show r1 = nI 1 from hr.2.trans (by decide +kernel)]
  clear hr σ1 r1
  refine rw_if hX (tgt := 14) (cnd := .eq) (off := 10) (by decide +kernel) (by decide) (fun h4 => ?_) (fun h4 => ?_)
  · exact absurd h4 (by simp only [cz, cc2]; decide +kernel)
  · skip
    refine rw_go hX [(7, .iload_n 2)] (by decide +kernel) (Ps := []) (pc' := 8) (lv' := [(0, .ref 66), (1, .int (nI 0)), (2, .int xw)]) (st' := [.int xw]) (σ' := σ) rfl True.intro ?_
    refine rw_callSi hX (as := [.int xw]) (rest := []) (m_isWork _ _ _ (xw)) (by decide +kernel) msX10_isWork (Or.inl lk10_157) rfl (by decide) (Nat.le_of_ble_eq_true rfl) rfl ?_
    intro r1 σ1 hr
    rw [hr.1, show r1 = bz (decide (0 ≤ xw ∧ xw ≤ 4)) from hr.2]
    clear hr σ1 r1
    refine rw_if hX (tgt := 17) (cnd := .ne) (off := 6) (by decide +kernel) (by decide) (fun h11 => ?_) (fun h11 => ?_)
    · replace h11 := of_decide_eq_true (zb_neT h11)
      obtain ⟨w, hw, rfl⟩ := rng (m := 4) (by omega) h11
      have hw : w < 5 := hw
      have hcw : (nI w).toNatClampNeg = w := nI_clamp (by omega)
      refine rw_go hX [(17, .aload_n 0), (18, .iload_n 2)] (by decide +kernel) (Ps := []) (pc' := 19) (lv' := [(0, .ref 66), (1, .int (nI 0)), (2, .int (nI w))]) (st' := [.int (nI w), .ref 66]) (σ' := σ) rfl True.intro ?_
      refine rw_callVi hX (as := [.int (nI w)]) (rest := []) (m_there _ _ _ V w hV hv hw) (by decide +kernel) mvX10_isThere lk10_132 (ci := 9) rfl rfl rfl (by decide) (Nat.le_of_ble_eq_true rfl) rfl ?_
      intro r1 σ1 hr
      rw [hr.1, show r1 = bz (decide (0 < vS V w)) from hr.2]
      clear hr σ1 r1
      refine rw_if hX (tgt := 28) (cnd := .ne) (off := 6) (by decide +kernel) (by decide) (fun h22 => ?_) (fun h22 => ?_)
      · replace h22 := of_decide_eq_true (zb_neT h22)
        have hvsw : ¬ vS V w = 0 := by omega
        refine rw_go hX [(28, .aload_n 0)] (by decide +kernel) (Ps := []) (pc' := 29) (lv' := [(0, .ref 66), (1, .int (nI 0)), (2, .int (nI w))]) (st' := [.ref 66]) (σ' := σ) rfl True.intro ?_
        refine rw_callVv hX (as := []) (rest := []) (m_anew _ _ _ V hV hv) (by decide +kernel) mvX10_anew lk10_220 (ci := 9) rfl rfl rfl (by decide) (Nat.le_of_ble_eq_true rfl) rfl ?_
        intro τ1 ht1
        obtain ⟨hAN, hFN⟩ := ht1
        have hq1 := MQu_A hFN
        have hV1 : vw τ1 67 = V := (vw_of (fun j hj => hFN _ (by omega))).trans hV
        have h71 : τ1 71 = V 4 := vw_at hV1 4 (by omega)
        refine rw_go hX [(32, .bipush 20), (34, .aload_n 0), (35, .iload_n 2), (36, .aload_n 0), (37, .getfield 22), (40, .iconst 4), (41, .iaload)] (by decide +kernel) (Ps := [vp_in (nI 4) 6]) (pc' := 42) (lv' := [(0, .ref 66), (1, .int (nI 0)), (2, .int (nI w))]) (st' := [.int (τ1 71 (nI 4).toNatClampNeg), .int (nI w), .ref 66, .int (nI 20)]) (σ' := τ1) rfl (vp_in_nI (by omega) (by omega)) ?_
        rw [show (τ1 71 (nI 4).toNatClampNeg) = nI (vR V 4) from (by rw [nI_clamp (by omega), h71, hLs.1])]
        refine rw_callVi hX (as := [.int (nI w), .int (nI (vR V 4))]) (rest := [.int (nI 20)]) (m_shows _ _ _ V w (vR V 4) hV1 hv hw hAN (by omega) (by omega)) (by decide +kernel) mvX10_shows lk10_295 (ci := 9) rfl rfl rfl (by decide) (Nat.le_of_ble_eq_true rfl) rfl ?_
        intro r1 τ2 hr
        obtain ⟨hr1, hSh, hAN2, hMq⟩ := hr
        rw [hr1]
        clear hr1 r1
        have hq2 := hq1.trans hMq
        have hL5 := lC_50 hv hw
        have hsn := spN_50 (s := sT V w (vR V 4)) hL5
        have hN20 : flN V w ≤ 20 := Nat.min_le_left _ _
        have hN2 : flN V w ≤ 2 * spN (sT V w (vR V 4)) (lC V w) := Nat.min_le_right _ _
        have hShT : ∀ j, j < 2 * spN (sT V w (vR V 4)) (lC V w) → τ2 99 j = flT V w j := hSh
        refine rw_min hX (by decide +kernel) lk10_195 (Nat.le_of_ble_eq_true rfl) ?_
        rw [show (if nI (2 * spN (sT V w (vR V 4)) (lC V w)) < nI 20 then nI (2 * spN (sT V w (vR V 4)) (lC V w)) else nI 20) = nI (flN V w) from by rw [mn_min (by omega) (by omega)]; rfl]
        refine rw_go hX [(48, .istore_n 3), (49, .aload_n 0), (50, .getfield 91), (53, .iload_n 1), (54, .iconst 0), (55, .iastore)] (by decide +kernel) (Ps := [vp_in (nI 0) 4]) (pc' := 56) (lv' := [(0, .ref 66), (1, .int (nI 0)), (2, .int (nI w)), (3, .int (nI (flN V w)))]) (st' := []) (σ' := sw τ2 97 (nI 0).toNatClampNeg (nI 0)) rfl (vp_in_nI (by omega) (by omega)) ?_
        rw [show (sw τ2 97 (nI 0).toNatClampNeg (nI 0)) = sw τ2 97 0 (nI 0) from (by rw [nI_clamp (by omega)])]
        refine rw_go hX [(56, .aload_n 0), (57, .getfield 94), (60, .iload_n 1), (61, .iload_n 3), (62, .iastore)] (by decide +kernel) (Ps := [vp_in (nI 0) 4]) (pc' := 63) (lv' := [(0, .ref 66), (1, .int (nI 0)), (2, .int (nI w)), (3, .int (nI (flN V w)))]) (st' := []) (σ' := sw (sw τ2 97 0 (nI 0)) 98 (nI 0).toNatClampNeg (nI (flN V w))) rfl (vp_in_nI (by omega) (by omega)) ?_
        rw [show (sw (sw τ2 97 0 (nI 0)) 98 (nI 0).toNatClampNeg (nI (flN V w))) = sw (sw τ2 97 0 (nI 0)) 98 0 (nI (flN V w)) from (by rw [nI_clamp (by omega)])]
        refine rw_go hX [(63, .iconst 0), (64, .istore 4)] (by decide +kernel) (Ps := []) (pc' := 66) (lv' := [(0, .ref 66), (1, .int (nI 0)), (2, .int (nI w)), (3, .int (nI (flN V w))), (4, .int (nI 0))]) (st' := []) (σ' := sw (sw τ2 97 0 (nI 0)) 98 0 (nI (flN V w))) rfl True.intro ?_
        have L66 : ∀ (μ66 : Nat) (i : Nat), μ66 = flN V w - i → (i ≤ flN V w) → RW E G 6 5 (QI E G (fun r σ' => r = aFilm V (nI 0) (nI w) ∧ sFilmM V σ σ' (nI 0) (nI w))) 66 [(0, .ref 66), (1, .int (nI 0)), (2, .int (nI w)), (3, .int (nI (flN V w))), (4, .int (nI i))] [] (sr (sw (sw τ2 97 0 (nI 0)) 98 0 (nI (flN V w))) 93 (flRM V w (τ2 93) i)) := by
          intro μ66
          induction μ66 using Nat.strongRecOn with
          | ind μ66 ih66 =>
            intro i hμ66 hi
            refine rw_go hX [(66, .iload 4), (68, .iload_n 3)] (by decide +kernel) (Ps := []) (pc' := 69) (lv' := [(0, .ref 66), (1, .int (nI 0)), (2, .int (nI w)), (3, .int (nI (flN V w))), (4, .int (nI i))]) (st' := [.int (nI (flN V w)), .int (nI i)]) (σ' := sr (sw (sw τ2 97 0 (nI 0)) 98 0 (nI (flN V w))) 93 (flRM V w (τ2 93) i)) rfl True.intro ?_
            refine rw_icmp hX (tgt := 94) (cnd := .ge) (off := 25) (by decide +kernel) (by decide) (fun h69 => ?_) (fun h69 => ?_)
            · replace h69 := c2_geT h69
              have e : i = flN V w := by omega
              refine rw_go hX [(94, .iload_n 3)] (by decide +kernel) (Ps := []) (pc' := 95) (lv' := [(0, .ref 66), (1, .int (nI 0)), (2, .int (nI w)), (3, .int (nI (flN V w))), (4, .int (nI i))]) (st' := [.int (nI (flN V w))]) (σ' := sr (sw (sw τ2 97 0 (nI 0)) 98 0 (nI (flN V w))) 93 (flRM V w (τ2 93) i)) rfl True.intro ?_
              exact rw_iret hX (by decide +kernel) (⟨by simp only [aFilm, eq_true hk4, eq_true h4, eq_true h11, hcw, eq_true h22, eq_false hvsw, eq_true h69, if_true, if_false, Bool.false_eq_true, and_self, and_true, true_and, and_false, false_and, oel_n, oel_s, decide_true, decide_false], by
  simp only [sFilmM, eq_true hk4, hcs, eq_true h4, eq_true h11, hcw, eq_true h22, eq_false hvsw, eq_true h69, if_true, if_false, Bool.false_eq_true, and_self, and_true, true_and, and_false, false_and, oel_n, oel_s, decide_true, decide_false]
  rw [e]
  refine ⟨fun q g1 g2 g3 g4 g5 g6 => ?_, ⟨?_, ?_⟩, ?_, ?_, fun j => ?_⟩
  · rw [sr_n _ _ g4, sw_ne _ _ _ g6, sw_ne _ _ _ g5]; exact hq2.1 q g1 g2 g3
  · rw [sr_n _ _ (by decide), sw_ne _ _ _ (by decide), sw_ne _ _ _ (by decide)]; exact hq2.2.1
  · rw [sr_n _ _ (by decide), sw_ne _ _ _ (by decide), sw_ne _ _ _ (by decide)]; exact hq2.2.2
  · rw [sr_n _ _ (by decide), sw_row, sw_ne _ _ _ (by decide), hq2.1 98 (by omega) (by omega) (by omega)]
  · rw [sr_n _ _ (by decide), sw_ne _ _ _ (by decide), sw_row, hq2.1 97 (by omega) (by omega) (by omega)]
  · show (sr (sw (sw τ2 97 0 (nI 0)) 98 0 (nI (flN V w))) 93 (flRM V w (τ2 93) (flN V w))) 93 j = if j < flN V w then flT V w j else σ 93 j
    rw [sr_s, hq2.1 93 (by omega) (by omega) (by omega)]
    rfl⟩)
            · replace h69 := c2_geF h69
              refine rw_go hX [(72, .aload_n 0), (73, .getfield 88), (76, .iload_n 1), (77, .aaload), (78, .iload 4), (80, .aload_n 0), (81, .getfield 97), (84, .iload 4), (86, .iaload)] (by decide +kernel) (Ps := [vp_in (nI 0) 4, vp_in (nI i) 100]) (pc' := 87) (lv' := [(0, .ref 66), (1, .int (nI 0)), (2, .int (nI w)), (3, .int (nI (flN V w))), (4, .int (nI i))]) (st' := [.int ((sr (sw (sw τ2 97 0 (nI 0)) 98 0 (nI (flN V w))) 93 (flRM V w (τ2 93) i)) 99 (nI i).toNatClampNeg), .int (nI i), .ref 93]) (σ' := sr (sw (sw τ2 97 0 (nI 0)) 98 0 (nI (flN V w))) 93 (flRM V w (τ2 93) i)) rfl (⟨vp_in_nI (by omega) (by omega), vp_in_nI (by omega) (by omega)⟩) ?_
              rw [show ((sr (sw (sw τ2 97 0 (nI 0)) 98 0 (nI (flN V w))) 93 (flRM V w (τ2 93) i)) 99 (nI i).toNatClampNeg) = flT V w i from (by rw [nI_clamp (by omega), sr_n _ _ (by decide), sw_ne _ _ _ (by decide), sw_ne _ _ _ (by decide), hShT i (by omega)])]
              refine rw_go hX [(87, .iastore)] (by decide +kernel) (Ps := [vp_in (nI i) 40]) (pc' := 88) (lv' := [(0, .ref 66), (1, .int (nI 0)), (2, .int (nI w)), (3, .int (nI (flN V w))), (4, .int (nI i))]) (st' := []) (σ' := sw (sr (sw (sw τ2 97 0 (nI 0)) 98 0 (nI (flN V w))) 93 (flRM V w (τ2 93) i)) 93 (nI i).toNatClampNeg (flT V w i)) rfl (vp_in_nI (by omega) (by omega)) ?_
              rw [show (sw (sr (sw (sw τ2 97 0 (nI 0)) 98 0 (nI (flN V w))) 93 (flRM V w (τ2 93) i)) 93 (nI i).toNatClampNeg (flT V w i)) = sw (sr (sw (sw τ2 97 0 (nI 0)) 98 0 (nI (flN V w))) 93 (flRM V w (τ2 93) i)) 93 i (flT V w i) from (by rw [nI_clamp (by omega)])]
              refine rw_go hX [(88, .iinc 4 1)] (by decide +kernel) (Ps := []) (pc' := 91) (lv' := [(0, .ref 66), (1, .int (nI 0)), (2, .int (nI w)), (3, .int (nI (flN V w))), (4, .int (nI i + nI 1))]) (st' := []) (σ' := sw (sr (sw (sw τ2 97 0 (nI 0)) 98 0 (nI (flN V w))) 93 (flRM V w (τ2 93) i)) 93 i (flT V w i)) rfl True.intro ?_
              rw [show (nI i + nI 1) = nI (i + 1) from nI_add _ _]
              refine rw_go hX [(91, .goto (-25))] (by decide +kernel) (Ps := []) (pc' := 66) (lv' := [(0, .ref 66), (1, .int (nI 0)), (2, .int (nI w)), (3, .int (nI (flN V w))), (4, .int (nI (i + 1)))]) (st' := []) (σ' := sw (sr (sw (sw τ2 97 0 (nI 0)) 98 0 (nI (flN V w))) 93 (flRM V w (τ2 93) i)) 93 i (flT V w i)) rfl True.intro ?_
              refine rw_lsub (ks := [0, 1, 2, 3, 4]) (lv' := [(0, .ref 66), (1, .int (nI 0)), (2, .int (nI w)), (3, .int (nI (flN V w))), (4, .int (nI (i + 1)))]) rfl ?_
              have q := ih66 (flN V w - (i + 1)) (by omega) (i + 1) rfl (by omega)
              rw [← flRM_1] at q
              rw [sw_sr]
              exact q
        refine rw_lsub (ks := [0, 1, 2, 3, 4]) (lv' := [(0, .ref 66), (1, .int (nI 0)), (2, .int (nI w)), (3, .int (nI (flN V w))), (4, .int (nI 0))]) rfl ?_
        have q := L66 (flN V w) 0 rfl (by omega)
        rw [flRM_0, show sr (sw (sw τ2 97 0 (nI 0)) 98 0 (nI (flN V w))) 93 (τ2 93) = (sw (sw τ2 97 0 (nI 0)) 98 0 (nI (flN V w))) from by
          funext q
          by_cases z : q = 93
          · subst z; rw [sr_s, sw_ne _ _ _ (by decide), sw_ne _ _ _ (by decide)]
          · rw [sr_n _ _ z]] at q
        exact q
      · replace h22 := of_decide_eq_false (zb_neF h22)
        have hvsw : vS V w = 0 := by omega
        refine rw_go hX [(25, .bipush (-11))] (by decide +kernel) (Ps := []) (pc' := 27) (lv' := [(0, .ref 66), (1, .int (nI 0)), (2, .int (nI w))]) (st' := [.int (-(nI 11))]) (σ' := σ) rfl True.intro ?_
        exact rw_iret hX (by decide +kernel) (⟨by simp only [aFilm, eq_true hk4, eq_true h4, eq_true h11, hcw, eq_false h22, eq_true hvsw, if_true, if_false, Bool.false_eq_true, and_self, and_true, true_and, and_false, false_and, oel_n, oel_s, decide_true, decide_false], by simp only [sFilmM, eq_true hk4, eq_true h4, eq_true h11, hcw, eq_false h22, eq_true hvsw, if_true, if_false, Bool.false_eq_true, and_self, and_true, true_and, and_false, false_and, oel_n, oel_s, decide_true, decide_false]⟩)
    · replace h11 := of_decide_eq_false (zb_neF h11)
      refine rw_go hX [(14, .bipush (-2))] (by decide +kernel) (Ps := []) (pc' := 16) (lv' := [(0, .ref 66), (1, .int (nI 0)), (2, .int xw)]) (st' := [.int (-(nI 2))]) (σ' := σ) rfl True.intro ?_
      exact rw_iret hX (by decide +kernel) (⟨by simp only [aFilm, eq_true hk4, eq_true h4, eq_false h11, if_true, if_false, Bool.false_eq_true, and_self, and_true, true_and, and_false, false_and, oel_n, oel_s, decide_true, decide_false], by simp only [sFilmM, eq_true hk4, eq_true h4, eq_false h11, if_true, if_false, Bool.false_eq_true, and_self, and_true, true_and, and_false, false_and, oel_n, oel_s, decide_true, decide_false]⟩)
set_option maxRecDepth 20000 in
set_option maxHeartbeats 800000 in
theorem g_film_1 (l : Launch) (G : Gl) (σ : Mm) (V : Mm) (xw : Int32) (hV : vw σ 67 = V) (hv : wf V) : AMi l G 6 mX10_film [.ref 66, .int (nI 1), .int xw] σ (fun r σ' => r = aFilm V (nI 1) xw ∧ sFilmM V σ σ' (nI 1) xw) := by
  refine rw_inI 10 (by decide +kernel) rfl rfl ?_
  intro E hE hX
  subst hE
  have hLs := wf_L hv
  have hk4 := film_r 1 (by omega)
  have hcs : (nI 1).toNatClampNeg = 1 := nI_clamp (by omega)
  refine rw_go hX [(0, .iload_n 1)] (by decide +kernel) (Ps := []) (pc' := 1) (lv' := [(0, .ref 66), (1, .int (nI 1)), (2, .int xw)]) (st' := [.int (nI 1)]) (σ' := σ) rfl True.intro ?_
  refine rw_callSi hX (as := [.int (nI 1)]) (rest := []) (m_isSheet _ _ _ (nI 1)) (by decide +kernel) msX10_isSheet (Or.inl lk10_298) rfl (by decide) (Nat.le_of_ble_eq_true rfl) rfl ?_
  intro r1 σ1 hr
  rw [hr.1, show r1 = nI 1 from hr.2.trans (by decide +kernel)]
  clear hr σ1 r1
  refine rw_if hX (tgt := 14) (cnd := .eq) (off := 10) (by decide +kernel) (by decide) (fun h4 => ?_) (fun h4 => ?_)
  · exact absurd h4 (by simp only [cz, cc2]; decide +kernel)
  · skip
    refine rw_go hX [(7, .iload_n 2)] (by decide +kernel) (Ps := []) (pc' := 8) (lv' := [(0, .ref 66), (1, .int (nI 1)), (2, .int xw)]) (st' := [.int xw]) (σ' := σ) rfl True.intro ?_
    refine rw_callSi hX (as := [.int xw]) (rest := []) (m_isWork _ _ _ (xw)) (by decide +kernel) msX10_isWork (Or.inl lk10_157) rfl (by decide) (Nat.le_of_ble_eq_true rfl) rfl ?_
    intro r1 σ1 hr
    rw [hr.1, show r1 = bz (decide (0 ≤ xw ∧ xw ≤ 4)) from hr.2]
    clear hr σ1 r1
    refine rw_if hX (tgt := 17) (cnd := .ne) (off := 6) (by decide +kernel) (by decide) (fun h11 => ?_) (fun h11 => ?_)
    · replace h11 := of_decide_eq_true (zb_neT h11)
      obtain ⟨w, hw, rfl⟩ := rng (m := 4) (by omega) h11
      have hw : w < 5 := hw
      have hcw : (nI w).toNatClampNeg = w := nI_clamp (by omega)
      refine rw_go hX [(17, .aload_n 0), (18, .iload_n 2)] (by decide +kernel) (Ps := []) (pc' := 19) (lv' := [(0, .ref 66), (1, .int (nI 1)), (2, .int (nI w))]) (st' := [.int (nI w), .ref 66]) (σ' := σ) rfl True.intro ?_
      refine rw_callVi hX (as := [.int (nI w)]) (rest := []) (m_there _ _ _ V w hV hv hw) (by decide +kernel) mvX10_isThere lk10_132 (ci := 9) rfl rfl rfl (by decide) (Nat.le_of_ble_eq_true rfl) rfl ?_
      intro r1 σ1 hr
      rw [hr.1, show r1 = bz (decide (0 < vS V w)) from hr.2]
      clear hr σ1 r1
      refine rw_if hX (tgt := 28) (cnd := .ne) (off := 6) (by decide +kernel) (by decide) (fun h22 => ?_) (fun h22 => ?_)
      · replace h22 := of_decide_eq_true (zb_neT h22)
        have hvsw : ¬ vS V w = 0 := by omega
        refine rw_go hX [(28, .aload_n 0)] (by decide +kernel) (Ps := []) (pc' := 29) (lv' := [(0, .ref 66), (1, .int (nI 1)), (2, .int (nI w))]) (st' := [.ref 66]) (σ' := σ) rfl True.intro ?_
        refine rw_callVv hX (as := []) (rest := []) (m_anew _ _ _ V hV hv) (by decide +kernel) mvX10_anew lk10_220 (ci := 9) rfl rfl rfl (by decide) (Nat.le_of_ble_eq_true rfl) rfl ?_
        intro τ1 ht1
        obtain ⟨hAN, hFN⟩ := ht1
        have hq1 := MQu_A hFN
        have hV1 : vw τ1 67 = V := (vw_of (fun j hj => hFN _ (by omega))).trans hV
        have h71 : τ1 71 = V 4 := vw_at hV1 4 (by omega)
        refine rw_go hX [(32, .bipush 20), (34, .aload_n 0), (35, .iload_n 2), (36, .aload_n 0), (37, .getfield 22), (40, .iconst 4), (41, .iaload)] (by decide +kernel) (Ps := [vp_in (nI 4) 6]) (pc' := 42) (lv' := [(0, .ref 66), (1, .int (nI 1)), (2, .int (nI w))]) (st' := [.int (τ1 71 (nI 4).toNatClampNeg), .int (nI w), .ref 66, .int (nI 20)]) (σ' := τ1) rfl (vp_in_nI (by omega) (by omega)) ?_
        rw [show (τ1 71 (nI 4).toNatClampNeg) = nI (vR V 4) from (by rw [nI_clamp (by omega), h71, hLs.1])]
        refine rw_callVi hX (as := [.int (nI w), .int (nI (vR V 4))]) (rest := [.int (nI 20)]) (m_shows _ _ _ V w (vR V 4) hV1 hv hw hAN (by omega) (by omega)) (by decide +kernel) mvX10_shows lk10_295 (ci := 9) rfl rfl rfl (by decide) (Nat.le_of_ble_eq_true rfl) rfl ?_
        intro r1 τ2 hr
        obtain ⟨hr1, hSh, hAN2, hMq⟩ := hr
        rw [hr1]
        clear hr1 r1
        have hq2 := hq1.trans hMq
        have hL5 := lC_50 hv hw
        have hsn := spN_50 (s := sT V w (vR V 4)) hL5
        have hN20 : flN V w ≤ 20 := Nat.min_le_left _ _
        have hN2 : flN V w ≤ 2 * spN (sT V w (vR V 4)) (lC V w) := Nat.min_le_right _ _
        have hShT : ∀ j, j < 2 * spN (sT V w (vR V 4)) (lC V w) → τ2 99 j = flT V w j := hSh
        refine rw_min hX (by decide +kernel) lk10_195 (Nat.le_of_ble_eq_true rfl) ?_
        rw [show (if nI (2 * spN (sT V w (vR V 4)) (lC V w)) < nI 20 then nI (2 * spN (sT V w (vR V 4)) (lC V w)) else nI 20) = nI (flN V w) from by rw [mn_min (by omega) (by omega)]; rfl]
        refine rw_go hX [(48, .istore_n 3), (49, .aload_n 0), (50, .getfield 91), (53, .iload_n 1), (54, .iconst 0), (55, .iastore)] (by decide +kernel) (Ps := [vp_in (nI 1) 4]) (pc' := 56) (lv' := [(0, .ref 66), (1, .int (nI 1)), (2, .int (nI w)), (3, .int (nI (flN V w)))]) (st' := []) (σ' := sw τ2 97 (nI 1).toNatClampNeg (nI 0)) rfl (vp_in_nI (by omega) (by omega)) ?_
        rw [show (sw τ2 97 (nI 1).toNatClampNeg (nI 0)) = sw τ2 97 1 (nI 0) from (by rw [nI_clamp (by omega)])]
        refine rw_go hX [(56, .aload_n 0), (57, .getfield 94), (60, .iload_n 1), (61, .iload_n 3), (62, .iastore)] (by decide +kernel) (Ps := [vp_in (nI 1) 4]) (pc' := 63) (lv' := [(0, .ref 66), (1, .int (nI 1)), (2, .int (nI w)), (3, .int (nI (flN V w)))]) (st' := []) (σ' := sw (sw τ2 97 1 (nI 0)) 98 (nI 1).toNatClampNeg (nI (flN V w))) rfl (vp_in_nI (by omega) (by omega)) ?_
        rw [show (sw (sw τ2 97 1 (nI 0)) 98 (nI 1).toNatClampNeg (nI (flN V w))) = sw (sw τ2 97 1 (nI 0)) 98 1 (nI (flN V w)) from (by rw [nI_clamp (by omega)])]
        refine rw_go hX [(63, .iconst 0), (64, .istore 4)] (by decide +kernel) (Ps := []) (pc' := 66) (lv' := [(0, .ref 66), (1, .int (nI 1)), (2, .int (nI w)), (3, .int (nI (flN V w))), (4, .int (nI 0))]) (st' := []) (σ' := sw (sw τ2 97 1 (nI 0)) 98 1 (nI (flN V w))) rfl True.intro ?_
        have L66 : ∀ (μ66 : Nat) (i : Nat), μ66 = flN V w - i → (i ≤ flN V w) → RW E G 6 5 (QI E G (fun r σ' => r = aFilm V (nI 1) (nI w) ∧ sFilmM V σ σ' (nI 1) (nI w))) 66 [(0, .ref 66), (1, .int (nI 1)), (2, .int (nI w)), (3, .int (nI (flN V w))), (4, .int (nI i))] [] (sr (sw (sw τ2 97 1 (nI 0)) 98 1 (nI (flN V w))) 94 (flRM V w (τ2 94) i)) := by
          intro μ66
          induction μ66 using Nat.strongRecOn with
          | ind μ66 ih66 =>
            intro i hμ66 hi
            refine rw_go hX [(66, .iload 4), (68, .iload_n 3)] (by decide +kernel) (Ps := []) (pc' := 69) (lv' := [(0, .ref 66), (1, .int (nI 1)), (2, .int (nI w)), (3, .int (nI (flN V w))), (4, .int (nI i))]) (st' := [.int (nI (flN V w)), .int (nI i)]) (σ' := sr (sw (sw τ2 97 1 (nI 0)) 98 1 (nI (flN V w))) 94 (flRM V w (τ2 94) i)) rfl True.intro ?_
            refine rw_icmp hX (tgt := 94) (cnd := .ge) (off := 25) (by decide +kernel) (by decide) (fun h69 => ?_) (fun h69 => ?_)
            · replace h69 := c2_geT h69
              have e : i = flN V w := by omega
              refine rw_go hX [(94, .iload_n 3)] (by decide +kernel) (Ps := []) (pc' := 95) (lv' := [(0, .ref 66), (1, .int (nI 1)), (2, .int (nI w)), (3, .int (nI (flN V w))), (4, .int (nI i))]) (st' := [.int (nI (flN V w))]) (σ' := sr (sw (sw τ2 97 1 (nI 0)) 98 1 (nI (flN V w))) 94 (flRM V w (τ2 94) i)) rfl True.intro ?_
              exact rw_iret hX (by decide +kernel) (⟨by simp only [aFilm, eq_true hk4, eq_true h4, eq_true h11, hcw, eq_true h22, eq_false hvsw, eq_true h69, if_true, if_false, Bool.false_eq_true, and_self, and_true, true_and, and_false, false_and, oel_n, oel_s, decide_true, decide_false], by
  simp only [sFilmM, eq_true hk4, hcs, eq_true h4, eq_true h11, hcw, eq_true h22, eq_false hvsw, eq_true h69, if_true, if_false, Bool.false_eq_true, and_self, and_true, true_and, and_false, false_and, oel_n, oel_s, decide_true, decide_false]
  rw [e]
  refine ⟨fun q g1 g2 g3 g4 g5 g6 => ?_, ⟨?_, ?_⟩, ?_, ?_, fun j => ?_⟩
  · rw [sr_n _ _ g4, sw_ne _ _ _ g6, sw_ne _ _ _ g5]; exact hq2.1 q g1 g2 g3
  · rw [sr_n _ _ (by decide), sw_ne _ _ _ (by decide), sw_ne _ _ _ (by decide)]; exact hq2.2.1
  · rw [sr_n _ _ (by decide), sw_ne _ _ _ (by decide), sw_ne _ _ _ (by decide)]; exact hq2.2.2
  · rw [sr_n _ _ (by decide), sw_row, sw_ne _ _ _ (by decide), hq2.1 98 (by omega) (by omega) (by omega)]
  · rw [sr_n _ _ (by decide), sw_ne _ _ _ (by decide), sw_row, hq2.1 97 (by omega) (by omega) (by omega)]
  · show (sr (sw (sw τ2 97 1 (nI 0)) 98 1 (nI (flN V w))) 94 (flRM V w (τ2 94) (flN V w))) 94 j = if j < flN V w then flT V w j else σ 94 j
    rw [sr_s, hq2.1 94 (by omega) (by omega) (by omega)]
    rfl⟩)
            · replace h69 := c2_geF h69
              refine rw_go hX [(72, .aload_n 0), (73, .getfield 88), (76, .iload_n 1), (77, .aaload), (78, .iload 4), (80, .aload_n 0), (81, .getfield 97), (84, .iload 4), (86, .iaload)] (by decide +kernel) (Ps := [vp_in (nI 1) 4, vp_in (nI i) 100]) (pc' := 87) (lv' := [(0, .ref 66), (1, .int (nI 1)), (2, .int (nI w)), (3, .int (nI (flN V w))), (4, .int (nI i))]) (st' := [.int ((sr (sw (sw τ2 97 1 (nI 0)) 98 1 (nI (flN V w))) 94 (flRM V w (τ2 94) i)) 99 (nI i).toNatClampNeg), .int (nI i), .ref 94]) (σ' := sr (sw (sw τ2 97 1 (nI 0)) 98 1 (nI (flN V w))) 94 (flRM V w (τ2 94) i)) rfl (⟨vp_in_nI (by omega) (by omega), vp_in_nI (by omega) (by omega)⟩) ?_
              rw [show ((sr (sw (sw τ2 97 1 (nI 0)) 98 1 (nI (flN V w))) 94 (flRM V w (τ2 94) i)) 99 (nI i).toNatClampNeg) = flT V w i from (by rw [nI_clamp (by omega), sr_n _ _ (by decide), sw_ne _ _ _ (by decide), sw_ne _ _ _ (by decide), hShT i (by omega)])]
              refine rw_go hX [(87, .iastore)] (by decide +kernel) (Ps := [vp_in (nI i) 40]) (pc' := 88) (lv' := [(0, .ref 66), (1, .int (nI 1)), (2, .int (nI w)), (3, .int (nI (flN V w))), (4, .int (nI i))]) (st' := []) (σ' := sw (sr (sw (sw τ2 97 1 (nI 0)) 98 1 (nI (flN V w))) 94 (flRM V w (τ2 94) i)) 94 (nI i).toNatClampNeg (flT V w i)) rfl (vp_in_nI (by omega) (by omega)) ?_
              rw [show (sw (sr (sw (sw τ2 97 1 (nI 0)) 98 1 (nI (flN V w))) 94 (flRM V w (τ2 94) i)) 94 (nI i).toNatClampNeg (flT V w i)) = sw (sr (sw (sw τ2 97 1 (nI 0)) 98 1 (nI (flN V w))) 94 (flRM V w (τ2 94) i)) 94 i (flT V w i) from (by rw [nI_clamp (by omega)])]
              refine rw_go hX [(88, .iinc 4 1)] (by decide +kernel) (Ps := []) (pc' := 91) (lv' := [(0, .ref 66), (1, .int (nI 1)), (2, .int (nI w)), (3, .int (nI (flN V w))), (4, .int (nI i + nI 1))]) (st' := []) (σ' := sw (sr (sw (sw τ2 97 1 (nI 0)) 98 1 (nI (flN V w))) 94 (flRM V w (τ2 94) i)) 94 i (flT V w i)) rfl True.intro ?_
              rw [show (nI i + nI 1) = nI (i + 1) from nI_add _ _]
              refine rw_go hX [(91, .goto (-25))] (by decide +kernel) (Ps := []) (pc' := 66) (lv' := [(0, .ref 66), (1, .int (nI 1)), (2, .int (nI w)), (3, .int (nI (flN V w))), (4, .int (nI (i + 1)))]) (st' := []) (σ' := sw (sr (sw (sw τ2 97 1 (nI 0)) 98 1 (nI (flN V w))) 94 (flRM V w (τ2 94) i)) 94 i (flT V w i)) rfl True.intro ?_
              refine rw_lsub (ks := [0, 1, 2, 3, 4]) (lv' := [(0, .ref 66), (1, .int (nI 1)), (2, .int (nI w)), (3, .int (nI (flN V w))), (4, .int (nI (i + 1)))]) rfl ?_
              have q := ih66 (flN V w - (i + 1)) (by omega) (i + 1) rfl (by omega)
              rw [← flRM_1] at q
              rw [sw_sr]
              exact q
        refine rw_lsub (ks := [0, 1, 2, 3, 4]) (lv' := [(0, .ref 66), (1, .int (nI 1)), (2, .int (nI w)), (3, .int (nI (flN V w))), (4, .int (nI 0))]) rfl ?_
        have q := L66 (flN V w) 0 rfl (by omega)
        rw [flRM_0, show sr (sw (sw τ2 97 1 (nI 0)) 98 1 (nI (flN V w))) 94 (τ2 94) = (sw (sw τ2 97 1 (nI 0)) 98 1 (nI (flN V w))) from by
          funext q
          by_cases z : q = 94
          · subst z; rw [sr_s, sw_ne _ _ _ (by decide), sw_ne _ _ _ (by decide)]
          · rw [sr_n _ _ z]] at q
        exact q
      · replace h22 := of_decide_eq_false (zb_neF h22)
        have hvsw : vS V w = 0 := by omega
        refine rw_go hX [(25, .bipush (-11))] (by decide +kernel) (Ps := []) (pc' := 27) (lv' := [(0, .ref 66), (1, .int (nI 1)), (2, .int (nI w))]) (st' := [.int (-(nI 11))]) (σ' := σ) rfl True.intro ?_
        exact rw_iret hX (by decide +kernel) (⟨by simp only [aFilm, eq_true hk4, eq_true h4, eq_true h11, hcw, eq_false h22, eq_true hvsw, if_true, if_false, Bool.false_eq_true, and_self, and_true, true_and, and_false, false_and, oel_n, oel_s, decide_true, decide_false], by simp only [sFilmM, eq_true hk4, eq_true h4, eq_true h11, hcw, eq_false h22, eq_true hvsw, if_true, if_false, Bool.false_eq_true, and_self, and_true, true_and, and_false, false_and, oel_n, oel_s, decide_true, decide_false]⟩)
    · replace h11 := of_decide_eq_false (zb_neF h11)
      refine rw_go hX [(14, .bipush (-2))] (by decide +kernel) (Ps := []) (pc' := 16) (lv' := [(0, .ref 66), (1, .int (nI 1)), (2, .int xw)]) (st' := [.int (-(nI 2))]) (σ' := σ) rfl True.intro ?_
      exact rw_iret hX (by decide +kernel) (⟨by simp only [aFilm, eq_true hk4, eq_true h4, eq_false h11, if_true, if_false, Bool.false_eq_true, and_self, and_true, true_and, and_false, false_and, oel_n, oel_s, decide_true, decide_false], by simp only [sFilmM, eq_true hk4, eq_true h4, eq_false h11, if_true, if_false, Bool.false_eq_true, and_self, and_true, true_and, and_false, false_and, oel_n, oel_s, decide_true, decide_false]⟩)
set_option maxRecDepth 20000 in
set_option maxHeartbeats 800000 in
theorem g_film_2 (l : Launch) (G : Gl) (σ : Mm) (V : Mm) (xw : Int32) (hV : vw σ 67 = V) (hv : wf V) : AMi l G 6 mX10_film [.ref 66, .int (nI 2), .int xw] σ (fun r σ' => r = aFilm V (nI 2) xw ∧ sFilmM V σ σ' (nI 2) xw) := by
  refine rw_inI 10 (by decide +kernel) rfl rfl ?_
  intro E hE hX
  subst hE
  have hLs := wf_L hv
  have hk4 := film_r 2 (by omega)
  have hcs : (nI 2).toNatClampNeg = 2 := nI_clamp (by omega)
  refine rw_go hX [(0, .iload_n 1)] (by decide +kernel) (Ps := []) (pc' := 1) (lv' := [(0, .ref 66), (1, .int (nI 2)), (2, .int xw)]) (st' := [.int (nI 2)]) (σ' := σ) rfl True.intro ?_
  refine rw_callSi hX (as := [.int (nI 2)]) (rest := []) (m_isSheet _ _ _ (nI 2)) (by decide +kernel) msX10_isSheet (Or.inl lk10_298) rfl (by decide) (Nat.le_of_ble_eq_true rfl) rfl ?_
  intro r1 σ1 hr
  rw [hr.1, show r1 = nI 1 from hr.2.trans (by decide +kernel)]
  clear hr σ1 r1
  refine rw_if hX (tgt := 14) (cnd := .eq) (off := 10) (by decide +kernel) (by decide) (fun h4 => ?_) (fun h4 => ?_)
  · exact absurd h4 (by simp only [cz, cc2]; decide +kernel)
  · skip
    refine rw_go hX [(7, .iload_n 2)] (by decide +kernel) (Ps := []) (pc' := 8) (lv' := [(0, .ref 66), (1, .int (nI 2)), (2, .int xw)]) (st' := [.int xw]) (σ' := σ) rfl True.intro ?_
    refine rw_callSi hX (as := [.int xw]) (rest := []) (m_isWork _ _ _ (xw)) (by decide +kernel) msX10_isWork (Or.inl lk10_157) rfl (by decide) (Nat.le_of_ble_eq_true rfl) rfl ?_
    intro r1 σ1 hr
    rw [hr.1, show r1 = bz (decide (0 ≤ xw ∧ xw ≤ 4)) from hr.2]
    clear hr σ1 r1
    refine rw_if hX (tgt := 17) (cnd := .ne) (off := 6) (by decide +kernel) (by decide) (fun h11 => ?_) (fun h11 => ?_)
    · replace h11 := of_decide_eq_true (zb_neT h11)
      obtain ⟨w, hw, rfl⟩ := rng (m := 4) (by omega) h11
      have hw : w < 5 := hw
      have hcw : (nI w).toNatClampNeg = w := nI_clamp (by omega)
      refine rw_go hX [(17, .aload_n 0), (18, .iload_n 2)] (by decide +kernel) (Ps := []) (pc' := 19) (lv' := [(0, .ref 66), (1, .int (nI 2)), (2, .int (nI w))]) (st' := [.int (nI w), .ref 66]) (σ' := σ) rfl True.intro ?_
      refine rw_callVi hX (as := [.int (nI w)]) (rest := []) (m_there _ _ _ V w hV hv hw) (by decide +kernel) mvX10_isThere lk10_132 (ci := 9) rfl rfl rfl (by decide) (Nat.le_of_ble_eq_true rfl) rfl ?_
      intro r1 σ1 hr
      rw [hr.1, show r1 = bz (decide (0 < vS V w)) from hr.2]
      clear hr σ1 r1
      refine rw_if hX (tgt := 28) (cnd := .ne) (off := 6) (by decide +kernel) (by decide) (fun h22 => ?_) (fun h22 => ?_)
      · replace h22 := of_decide_eq_true (zb_neT h22)
        have hvsw : ¬ vS V w = 0 := by omega
        refine rw_go hX [(28, .aload_n 0)] (by decide +kernel) (Ps := []) (pc' := 29) (lv' := [(0, .ref 66), (1, .int (nI 2)), (2, .int (nI w))]) (st' := [.ref 66]) (σ' := σ) rfl True.intro ?_
        refine rw_callVv hX (as := []) (rest := []) (m_anew _ _ _ V hV hv) (by decide +kernel) mvX10_anew lk10_220 (ci := 9) rfl rfl rfl (by decide) (Nat.le_of_ble_eq_true rfl) rfl ?_
        intro τ1 ht1
        obtain ⟨hAN, hFN⟩ := ht1
        have hq1 := MQu_A hFN
        have hV1 : vw τ1 67 = V := (vw_of (fun j hj => hFN _ (by omega))).trans hV
        have h71 : τ1 71 = V 4 := vw_at hV1 4 (by omega)
        refine rw_go hX [(32, .bipush 20), (34, .aload_n 0), (35, .iload_n 2), (36, .aload_n 0), (37, .getfield 22), (40, .iconst 4), (41, .iaload)] (by decide +kernel) (Ps := [vp_in (nI 4) 6]) (pc' := 42) (lv' := [(0, .ref 66), (1, .int (nI 2)), (2, .int (nI w))]) (st' := [.int (τ1 71 (nI 4).toNatClampNeg), .int (nI w), .ref 66, .int (nI 20)]) (σ' := τ1) rfl (vp_in_nI (by omega) (by omega)) ?_
        rw [show (τ1 71 (nI 4).toNatClampNeg) = nI (vR V 4) from (by rw [nI_clamp (by omega), h71, hLs.1])]
        refine rw_callVi hX (as := [.int (nI w), .int (nI (vR V 4))]) (rest := [.int (nI 20)]) (m_shows _ _ _ V w (vR V 4) hV1 hv hw hAN (by omega) (by omega)) (by decide +kernel) mvX10_shows lk10_295 (ci := 9) rfl rfl rfl (by decide) (Nat.le_of_ble_eq_true rfl) rfl ?_
        intro r1 τ2 hr
        obtain ⟨hr1, hSh, hAN2, hMq⟩ := hr
        rw [hr1]
        clear hr1 r1
        have hq2 := hq1.trans hMq
        have hL5 := lC_50 hv hw
        have hsn := spN_50 (s := sT V w (vR V 4)) hL5
        have hN20 : flN V w ≤ 20 := Nat.min_le_left _ _
        have hN2 : flN V w ≤ 2 * spN (sT V w (vR V 4)) (lC V w) := Nat.min_le_right _ _
        have hShT : ∀ j, j < 2 * spN (sT V w (vR V 4)) (lC V w) → τ2 99 j = flT V w j := hSh
        refine rw_min hX (by decide +kernel) lk10_195 (Nat.le_of_ble_eq_true rfl) ?_
        rw [show (if nI (2 * spN (sT V w (vR V 4)) (lC V w)) < nI 20 then nI (2 * spN (sT V w (vR V 4)) (lC V w)) else nI 20) = nI (flN V w) from by rw [mn_min (by omega) (by omega)]; rfl]
        refine rw_go hX [(48, .istore_n 3), (49, .aload_n 0), (50, .getfield 91), (53, .iload_n 1), (54, .iconst 0), (55, .iastore)] (by decide +kernel) (Ps := [vp_in (nI 2) 4]) (pc' := 56) (lv' := [(0, .ref 66), (1, .int (nI 2)), (2, .int (nI w)), (3, .int (nI (flN V w)))]) (st' := []) (σ' := sw τ2 97 (nI 2).toNatClampNeg (nI 0)) rfl (vp_in_nI (by omega) (by omega)) ?_
        rw [show (sw τ2 97 (nI 2).toNatClampNeg (nI 0)) = sw τ2 97 2 (nI 0) from (by rw [nI_clamp (by omega)])]
        refine rw_go hX [(56, .aload_n 0), (57, .getfield 94), (60, .iload_n 1), (61, .iload_n 3), (62, .iastore)] (by decide +kernel) (Ps := [vp_in (nI 2) 4]) (pc' := 63) (lv' := [(0, .ref 66), (1, .int (nI 2)), (2, .int (nI w)), (3, .int (nI (flN V w)))]) (st' := []) (σ' := sw (sw τ2 97 2 (nI 0)) 98 (nI 2).toNatClampNeg (nI (flN V w))) rfl (vp_in_nI (by omega) (by omega)) ?_
        rw [show (sw (sw τ2 97 2 (nI 0)) 98 (nI 2).toNatClampNeg (nI (flN V w))) = sw (sw τ2 97 2 (nI 0)) 98 2 (nI (flN V w)) from (by rw [nI_clamp (by omega)])]
        refine rw_go hX [(63, .iconst 0), (64, .istore 4)] (by decide +kernel) (Ps := []) (pc' := 66) (lv' := [(0, .ref 66), (1, .int (nI 2)), (2, .int (nI w)), (3, .int (nI (flN V w))), (4, .int (nI 0))]) (st' := []) (σ' := sw (sw τ2 97 2 (nI 0)) 98 2 (nI (flN V w))) rfl True.intro ?_
        have L66 : ∀ (μ66 : Nat) (i : Nat), μ66 = flN V w - i → (i ≤ flN V w) → RW E G 6 5 (QI E G (fun r σ' => r = aFilm V (nI 2) (nI w) ∧ sFilmM V σ σ' (nI 2) (nI w))) 66 [(0, .ref 66), (1, .int (nI 2)), (2, .int (nI w)), (3, .int (nI (flN V w))), (4, .int (nI i))] [] (sr (sw (sw τ2 97 2 (nI 0)) 98 2 (nI (flN V w))) 95 (flRM V w (τ2 95) i)) := by
          intro μ66
          induction μ66 using Nat.strongRecOn with
          | ind μ66 ih66 =>
            intro i hμ66 hi
            refine rw_go hX [(66, .iload 4), (68, .iload_n 3)] (by decide +kernel) (Ps := []) (pc' := 69) (lv' := [(0, .ref 66), (1, .int (nI 2)), (2, .int (nI w)), (3, .int (nI (flN V w))), (4, .int (nI i))]) (st' := [.int (nI (flN V w)), .int (nI i)]) (σ' := sr (sw (sw τ2 97 2 (nI 0)) 98 2 (nI (flN V w))) 95 (flRM V w (τ2 95) i)) rfl True.intro ?_
            refine rw_icmp hX (tgt := 94) (cnd := .ge) (off := 25) (by decide +kernel) (by decide) (fun h69 => ?_) (fun h69 => ?_)
            · replace h69 := c2_geT h69
              have e : i = flN V w := by omega
              refine rw_go hX [(94, .iload_n 3)] (by decide +kernel) (Ps := []) (pc' := 95) (lv' := [(0, .ref 66), (1, .int (nI 2)), (2, .int (nI w)), (3, .int (nI (flN V w))), (4, .int (nI i))]) (st' := [.int (nI (flN V w))]) (σ' := sr (sw (sw τ2 97 2 (nI 0)) 98 2 (nI (flN V w))) 95 (flRM V w (τ2 95) i)) rfl True.intro ?_
              exact rw_iret hX (by decide +kernel) (⟨by simp only [aFilm, eq_true hk4, eq_true h4, eq_true h11, hcw, eq_true h22, eq_false hvsw, eq_true h69, if_true, if_false, Bool.false_eq_true, and_self, and_true, true_and, and_false, false_and, oel_n, oel_s, decide_true, decide_false], by
  simp only [sFilmM, eq_true hk4, hcs, eq_true h4, eq_true h11, hcw, eq_true h22, eq_false hvsw, eq_true h69, if_true, if_false, Bool.false_eq_true, and_self, and_true, true_and, and_false, false_and, oel_n, oel_s, decide_true, decide_false]
  rw [e]
  refine ⟨fun q g1 g2 g3 g4 g5 g6 => ?_, ⟨?_, ?_⟩, ?_, ?_, fun j => ?_⟩
  · rw [sr_n _ _ g4, sw_ne _ _ _ g6, sw_ne _ _ _ g5]; exact hq2.1 q g1 g2 g3
  · rw [sr_n _ _ (by decide), sw_ne _ _ _ (by decide), sw_ne _ _ _ (by decide)]; exact hq2.2.1
  · rw [sr_n _ _ (by decide), sw_ne _ _ _ (by decide), sw_ne _ _ _ (by decide)]; exact hq2.2.2
  · rw [sr_n _ _ (by decide), sw_row, sw_ne _ _ _ (by decide), hq2.1 98 (by omega) (by omega) (by omega)]
  · rw [sr_n _ _ (by decide), sw_ne _ _ _ (by decide), sw_row, hq2.1 97 (by omega) (by omega) (by omega)]
  · show (sr (sw (sw τ2 97 2 (nI 0)) 98 2 (nI (flN V w))) 95 (flRM V w (τ2 95) (flN V w))) 95 j = if j < flN V w then flT V w j else σ 95 j
    rw [sr_s, hq2.1 95 (by omega) (by omega) (by omega)]
    rfl⟩)
            · replace h69 := c2_geF h69
              refine rw_go hX [(72, .aload_n 0), (73, .getfield 88), (76, .iload_n 1), (77, .aaload), (78, .iload 4), (80, .aload_n 0), (81, .getfield 97), (84, .iload 4), (86, .iaload)] (by decide +kernel) (Ps := [vp_in (nI 2) 4, vp_in (nI i) 100]) (pc' := 87) (lv' := [(0, .ref 66), (1, .int (nI 2)), (2, .int (nI w)), (3, .int (nI (flN V w))), (4, .int (nI i))]) (st' := [.int ((sr (sw (sw τ2 97 2 (nI 0)) 98 2 (nI (flN V w))) 95 (flRM V w (τ2 95) i)) 99 (nI i).toNatClampNeg), .int (nI i), .ref 95]) (σ' := sr (sw (sw τ2 97 2 (nI 0)) 98 2 (nI (flN V w))) 95 (flRM V w (τ2 95) i)) rfl (⟨vp_in_nI (by omega) (by omega), vp_in_nI (by omega) (by omega)⟩) ?_
              rw [show ((sr (sw (sw τ2 97 2 (nI 0)) 98 2 (nI (flN V w))) 95 (flRM V w (τ2 95) i)) 99 (nI i).toNatClampNeg) = flT V w i from (by rw [nI_clamp (by omega), sr_n _ _ (by decide), sw_ne _ _ _ (by decide), sw_ne _ _ _ (by decide), hShT i (by omega)])]
              refine rw_go hX [(87, .iastore)] (by decide +kernel) (Ps := [vp_in (nI i) 40]) (pc' := 88) (lv' := [(0, .ref 66), (1, .int (nI 2)), (2, .int (nI w)), (3, .int (nI (flN V w))), (4, .int (nI i))]) (st' := []) (σ' := sw (sr (sw (sw τ2 97 2 (nI 0)) 98 2 (nI (flN V w))) 95 (flRM V w (τ2 95) i)) 95 (nI i).toNatClampNeg (flT V w i)) rfl (vp_in_nI (by omega) (by omega)) ?_
              rw [show (sw (sr (sw (sw τ2 97 2 (nI 0)) 98 2 (nI (flN V w))) 95 (flRM V w (τ2 95) i)) 95 (nI i).toNatClampNeg (flT V w i)) = sw (sr (sw (sw τ2 97 2 (nI 0)) 98 2 (nI (flN V w))) 95 (flRM V w (τ2 95) i)) 95 i (flT V w i) from (by rw [nI_clamp (by omega)])]
              refine rw_go hX [(88, .iinc 4 1)] (by decide +kernel) (Ps := []) (pc' := 91) (lv' := [(0, .ref 66), (1, .int (nI 2)), (2, .int (nI w)), (3, .int (nI (flN V w))), (4, .int (nI i + nI 1))]) (st' := []) (σ' := sw (sr (sw (sw τ2 97 2 (nI 0)) 98 2 (nI (flN V w))) 95 (flRM V w (τ2 95) i)) 95 i (flT V w i)) rfl True.intro ?_
              rw [show (nI i + nI 1) = nI (i + 1) from nI_add _ _]
              refine rw_go hX [(91, .goto (-25))] (by decide +kernel) (Ps := []) (pc' := 66) (lv' := [(0, .ref 66), (1, .int (nI 2)), (2, .int (nI w)), (3, .int (nI (flN V w))), (4, .int (nI (i + 1)))]) (st' := []) (σ' := sw (sr (sw (sw τ2 97 2 (nI 0)) 98 2 (nI (flN V w))) 95 (flRM V w (τ2 95) i)) 95 i (flT V w i)) rfl True.intro ?_
              refine rw_lsub (ks := [0, 1, 2, 3, 4]) (lv' := [(0, .ref 66), (1, .int (nI 2)), (2, .int (nI w)), (3, .int (nI (flN V w))), (4, .int (nI (i + 1)))]) rfl ?_
              have q := ih66 (flN V w - (i + 1)) (by omega) (i + 1) rfl (by omega)
              rw [← flRM_1] at q
              rw [sw_sr]
              exact q
        refine rw_lsub (ks := [0, 1, 2, 3, 4]) (lv' := [(0, .ref 66), (1, .int (nI 2)), (2, .int (nI w)), (3, .int (nI (flN V w))), (4, .int (nI 0))]) rfl ?_
        have q := L66 (flN V w) 0 rfl (by omega)
        rw [flRM_0, show sr (sw (sw τ2 97 2 (nI 0)) 98 2 (nI (flN V w))) 95 (τ2 95) = (sw (sw τ2 97 2 (nI 0)) 98 2 (nI (flN V w))) from by
          funext q
          by_cases z : q = 95
          · subst z; rw [sr_s, sw_ne _ _ _ (by decide), sw_ne _ _ _ (by decide)]
          · rw [sr_n _ _ z]] at q
        exact q
      · replace h22 := of_decide_eq_false (zb_neF h22)
        have hvsw : vS V w = 0 := by omega
        refine rw_go hX [(25, .bipush (-11))] (by decide +kernel) (Ps := []) (pc' := 27) (lv' := [(0, .ref 66), (1, .int (nI 2)), (2, .int (nI w))]) (st' := [.int (-(nI 11))]) (σ' := σ) rfl True.intro ?_
        exact rw_iret hX (by decide +kernel) (⟨by simp only [aFilm, eq_true hk4, eq_true h4, eq_true h11, hcw, eq_false h22, eq_true hvsw, if_true, if_false, Bool.false_eq_true, and_self, and_true, true_and, and_false, false_and, oel_n, oel_s, decide_true, decide_false], by simp only [sFilmM, eq_true hk4, eq_true h4, eq_true h11, hcw, eq_false h22, eq_true hvsw, if_true, if_false, Bool.false_eq_true, and_self, and_true, true_and, and_false, false_and, oel_n, oel_s, decide_true, decide_false]⟩)
    · replace h11 := of_decide_eq_false (zb_neF h11)
      refine rw_go hX [(14, .bipush (-2))] (by decide +kernel) (Ps := []) (pc' := 16) (lv' := [(0, .ref 66), (1, .int (nI 2)), (2, .int xw)]) (st' := [.int (-(nI 2))]) (σ' := σ) rfl True.intro ?_
      exact rw_iret hX (by decide +kernel) (⟨by simp only [aFilm, eq_true hk4, eq_true h4, eq_false h11, if_true, if_false, Bool.false_eq_true, and_self, and_true, true_and, and_false, false_and, oel_n, oel_s, decide_true, decide_false], by simp only [sFilmM, eq_true hk4, eq_true h4, eq_false h11, if_true, if_false, Bool.false_eq_true, and_self, and_true, true_and, and_false, false_and, oel_n, oel_s, decide_true, decide_false]⟩)
set_option maxRecDepth 20000 in
set_option maxHeartbeats 800000 in
theorem g_film_3 (l : Launch) (G : Gl) (σ : Mm) (V : Mm) (xw : Int32) (hV : vw σ 67 = V) (hv : wf V) : AMi l G 6 mX10_film [.ref 66, .int (nI 3), .int xw] σ (fun r σ' => r = aFilm V (nI 3) xw ∧ sFilmM V σ σ' (nI 3) xw) := by
  refine rw_inI 10 (by decide +kernel) rfl rfl ?_
  intro E hE hX
  subst hE
  have hLs := wf_L hv
  have hk4 := film_r 3 (by omega)
  have hcs : (nI 3).toNatClampNeg = 3 := nI_clamp (by omega)
  refine rw_go hX [(0, .iload_n 1)] (by decide +kernel) (Ps := []) (pc' := 1) (lv' := [(0, .ref 66), (1, .int (nI 3)), (2, .int xw)]) (st' := [.int (nI 3)]) (σ' := σ) rfl True.intro ?_
  refine rw_callSi hX (as := [.int (nI 3)]) (rest := []) (m_isSheet _ _ _ (nI 3)) (by decide +kernel) msX10_isSheet (Or.inl lk10_298) rfl (by decide) (Nat.le_of_ble_eq_true rfl) rfl ?_
  intro r1 σ1 hr
  rw [hr.1, show r1 = nI 1 from hr.2.trans (by decide +kernel)]
  clear hr σ1 r1
  refine rw_if hX (tgt := 14) (cnd := .eq) (off := 10) (by decide +kernel) (by decide) (fun h4 => ?_) (fun h4 => ?_)
  · exact absurd h4 (by simp only [cz, cc2]; decide +kernel)
  · skip
    refine rw_go hX [(7, .iload_n 2)] (by decide +kernel) (Ps := []) (pc' := 8) (lv' := [(0, .ref 66), (1, .int (nI 3)), (2, .int xw)]) (st' := [.int xw]) (σ' := σ) rfl True.intro ?_
    refine rw_callSi hX (as := [.int xw]) (rest := []) (m_isWork _ _ _ (xw)) (by decide +kernel) msX10_isWork (Or.inl lk10_157) rfl (by decide) (Nat.le_of_ble_eq_true rfl) rfl ?_
    intro r1 σ1 hr
    rw [hr.1, show r1 = bz (decide (0 ≤ xw ∧ xw ≤ 4)) from hr.2]
    clear hr σ1 r1
    refine rw_if hX (tgt := 17) (cnd := .ne) (off := 6) (by decide +kernel) (by decide) (fun h11 => ?_) (fun h11 => ?_)
    · replace h11 := of_decide_eq_true (zb_neT h11)
      obtain ⟨w, hw, rfl⟩ := rng (m := 4) (by omega) h11
      have hw : w < 5 := hw
      have hcw : (nI w).toNatClampNeg = w := nI_clamp (by omega)
      refine rw_go hX [(17, .aload_n 0), (18, .iload_n 2)] (by decide +kernel) (Ps := []) (pc' := 19) (lv' := [(0, .ref 66), (1, .int (nI 3)), (2, .int (nI w))]) (st' := [.int (nI w), .ref 66]) (σ' := σ) rfl True.intro ?_
      refine rw_callVi hX (as := [.int (nI w)]) (rest := []) (m_there _ _ _ V w hV hv hw) (by decide +kernel) mvX10_isThere lk10_132 (ci := 9) rfl rfl rfl (by decide) (Nat.le_of_ble_eq_true rfl) rfl ?_
      intro r1 σ1 hr
      rw [hr.1, show r1 = bz (decide (0 < vS V w)) from hr.2]
      clear hr σ1 r1
      refine rw_if hX (tgt := 28) (cnd := .ne) (off := 6) (by decide +kernel) (by decide) (fun h22 => ?_) (fun h22 => ?_)
      · replace h22 := of_decide_eq_true (zb_neT h22)
        have hvsw : ¬ vS V w = 0 := by omega
        refine rw_go hX [(28, .aload_n 0)] (by decide +kernel) (Ps := []) (pc' := 29) (lv' := [(0, .ref 66), (1, .int (nI 3)), (2, .int (nI w))]) (st' := [.ref 66]) (σ' := σ) rfl True.intro ?_
        refine rw_callVv hX (as := []) (rest := []) (m_anew _ _ _ V hV hv) (by decide +kernel) mvX10_anew lk10_220 (ci := 9) rfl rfl rfl (by decide) (Nat.le_of_ble_eq_true rfl) rfl ?_
        intro τ1 ht1
        obtain ⟨hAN, hFN⟩ := ht1
        have hq1 := MQu_A hFN
        have hV1 : vw τ1 67 = V := (vw_of (fun j hj => hFN _ (by omega))).trans hV
        have h71 : τ1 71 = V 4 := vw_at hV1 4 (by omega)
        refine rw_go hX [(32, .bipush 20), (34, .aload_n 0), (35, .iload_n 2), (36, .aload_n 0), (37, .getfield 22), (40, .iconst 4), (41, .iaload)] (by decide +kernel) (Ps := [vp_in (nI 4) 6]) (pc' := 42) (lv' := [(0, .ref 66), (1, .int (nI 3)), (2, .int (nI w))]) (st' := [.int (τ1 71 (nI 4).toNatClampNeg), .int (nI w), .ref 66, .int (nI 20)]) (σ' := τ1) rfl (vp_in_nI (by omega) (by omega)) ?_
        rw [show (τ1 71 (nI 4).toNatClampNeg) = nI (vR V 4) from (by rw [nI_clamp (by omega), h71, hLs.1])]
        refine rw_callVi hX (as := [.int (nI w), .int (nI (vR V 4))]) (rest := [.int (nI 20)]) (m_shows _ _ _ V w (vR V 4) hV1 hv hw hAN (by omega) (by omega)) (by decide +kernel) mvX10_shows lk10_295 (ci := 9) rfl rfl rfl (by decide) (Nat.le_of_ble_eq_true rfl) rfl ?_
        intro r1 τ2 hr
        obtain ⟨hr1, hSh, hAN2, hMq⟩ := hr
        rw [hr1]
        clear hr1 r1
        have hq2 := hq1.trans hMq
        have hL5 := lC_50 hv hw
        have hsn := spN_50 (s := sT V w (vR V 4)) hL5
        have hN20 : flN V w ≤ 20 := Nat.min_le_left _ _
        have hN2 : flN V w ≤ 2 * spN (sT V w (vR V 4)) (lC V w) := Nat.min_le_right _ _
        have hShT : ∀ j, j < 2 * spN (sT V w (vR V 4)) (lC V w) → τ2 99 j = flT V w j := hSh
        refine rw_min hX (by decide +kernel) lk10_195 (Nat.le_of_ble_eq_true rfl) ?_
        rw [show (if nI (2 * spN (sT V w (vR V 4)) (lC V w)) < nI 20 then nI (2 * spN (sT V w (vR V 4)) (lC V w)) else nI 20) = nI (flN V w) from by rw [mn_min (by omega) (by omega)]; rfl]
        refine rw_go hX [(48, .istore_n 3), (49, .aload_n 0), (50, .getfield 91), (53, .iload_n 1), (54, .iconst 0), (55, .iastore)] (by decide +kernel) (Ps := [vp_in (nI 3) 4]) (pc' := 56) (lv' := [(0, .ref 66), (1, .int (nI 3)), (2, .int (nI w)), (3, .int (nI (flN V w)))]) (st' := []) (σ' := sw τ2 97 (nI 3).toNatClampNeg (nI 0)) rfl (vp_in_nI (by omega) (by omega)) ?_
        rw [show (sw τ2 97 (nI 3).toNatClampNeg (nI 0)) = sw τ2 97 3 (nI 0) from (by rw [nI_clamp (by omega)])]
        refine rw_go hX [(56, .aload_n 0), (57, .getfield 94), (60, .iload_n 1), (61, .iload_n 3), (62, .iastore)] (by decide +kernel) (Ps := [vp_in (nI 3) 4]) (pc' := 63) (lv' := [(0, .ref 66), (1, .int (nI 3)), (2, .int (nI w)), (3, .int (nI (flN V w)))]) (st' := []) (σ' := sw (sw τ2 97 3 (nI 0)) 98 (nI 3).toNatClampNeg (nI (flN V w))) rfl (vp_in_nI (by omega) (by omega)) ?_
        rw [show (sw (sw τ2 97 3 (nI 0)) 98 (nI 3).toNatClampNeg (nI (flN V w))) = sw (sw τ2 97 3 (nI 0)) 98 3 (nI (flN V w)) from (by rw [nI_clamp (by omega)])]
        refine rw_go hX [(63, .iconst 0), (64, .istore 4)] (by decide +kernel) (Ps := []) (pc' := 66) (lv' := [(0, .ref 66), (1, .int (nI 3)), (2, .int (nI w)), (3, .int (nI (flN V w))), (4, .int (nI 0))]) (st' := []) (σ' := sw (sw τ2 97 3 (nI 0)) 98 3 (nI (flN V w))) rfl True.intro ?_
        have L66 : ∀ (μ66 : Nat) (i : Nat), μ66 = flN V w - i → (i ≤ flN V w) → RW E G 6 5 (QI E G (fun r σ' => r = aFilm V (nI 3) (nI w) ∧ sFilmM V σ σ' (nI 3) (nI w))) 66 [(0, .ref 66), (1, .int (nI 3)), (2, .int (nI w)), (3, .int (nI (flN V w))), (4, .int (nI i))] [] (sr (sw (sw τ2 97 3 (nI 0)) 98 3 (nI (flN V w))) 96 (flRM V w (τ2 96) i)) := by
          intro μ66
          induction μ66 using Nat.strongRecOn with
          | ind μ66 ih66 =>
            intro i hμ66 hi
            refine rw_go hX [(66, .iload 4), (68, .iload_n 3)] (by decide +kernel) (Ps := []) (pc' := 69) (lv' := [(0, .ref 66), (1, .int (nI 3)), (2, .int (nI w)), (3, .int (nI (flN V w))), (4, .int (nI i))]) (st' := [.int (nI (flN V w)), .int (nI i)]) (σ' := sr (sw (sw τ2 97 3 (nI 0)) 98 3 (nI (flN V w))) 96 (flRM V w (τ2 96) i)) rfl True.intro ?_
            refine rw_icmp hX (tgt := 94) (cnd := .ge) (off := 25) (by decide +kernel) (by decide) (fun h69 => ?_) (fun h69 => ?_)
            · replace h69 := c2_geT h69
              have e : i = flN V w := by omega
              refine rw_go hX [(94, .iload_n 3)] (by decide +kernel) (Ps := []) (pc' := 95) (lv' := [(0, .ref 66), (1, .int (nI 3)), (2, .int (nI w)), (3, .int (nI (flN V w))), (4, .int (nI i))]) (st' := [.int (nI (flN V w))]) (σ' := sr (sw (sw τ2 97 3 (nI 0)) 98 3 (nI (flN V w))) 96 (flRM V w (τ2 96) i)) rfl True.intro ?_
              exact rw_iret hX (by decide +kernel) (⟨by simp only [aFilm, eq_true hk4, eq_true h4, eq_true h11, hcw, eq_true h22, eq_false hvsw, eq_true h69, if_true, if_false, Bool.false_eq_true, and_self, and_true, true_and, and_false, false_and, oel_n, oel_s, decide_true, decide_false], by
  simp only [sFilmM, eq_true hk4, hcs, eq_true h4, eq_true h11, hcw, eq_true h22, eq_false hvsw, eq_true h69, if_true, if_false, Bool.false_eq_true, and_self, and_true, true_and, and_false, false_and, oel_n, oel_s, decide_true, decide_false]
  rw [e]
  refine ⟨fun q g1 g2 g3 g4 g5 g6 => ?_, ⟨?_, ?_⟩, ?_, ?_, fun j => ?_⟩
  · rw [sr_n _ _ g4, sw_ne _ _ _ g6, sw_ne _ _ _ g5]; exact hq2.1 q g1 g2 g3
  · rw [sr_n _ _ (by decide), sw_ne _ _ _ (by decide), sw_ne _ _ _ (by decide)]; exact hq2.2.1
  · rw [sr_n _ _ (by decide), sw_ne _ _ _ (by decide), sw_ne _ _ _ (by decide)]; exact hq2.2.2
  · rw [sr_n _ _ (by decide), sw_row, sw_ne _ _ _ (by decide), hq2.1 98 (by omega) (by omega) (by omega)]
  · rw [sr_n _ _ (by decide), sw_ne _ _ _ (by decide), sw_row, hq2.1 97 (by omega) (by omega) (by omega)]
  · show (sr (sw (sw τ2 97 3 (nI 0)) 98 3 (nI (flN V w))) 96 (flRM V w (τ2 96) (flN V w))) 96 j = if j < flN V w then flT V w j else σ 96 j
    rw [sr_s, hq2.1 96 (by omega) (by omega) (by omega)]
    rfl⟩)
            · replace h69 := c2_geF h69
              refine rw_go hX [(72, .aload_n 0), (73, .getfield 88), (76, .iload_n 1), (77, .aaload), (78, .iload 4), (80, .aload_n 0), (81, .getfield 97), (84, .iload 4), (86, .iaload)] (by decide +kernel) (Ps := [vp_in (nI 3) 4, vp_in (nI i) 100]) (pc' := 87) (lv' := [(0, .ref 66), (1, .int (nI 3)), (2, .int (nI w)), (3, .int (nI (flN V w))), (4, .int (nI i))]) (st' := [.int ((sr (sw (sw τ2 97 3 (nI 0)) 98 3 (nI (flN V w))) 96 (flRM V w (τ2 96) i)) 99 (nI i).toNatClampNeg), .int (nI i), .ref 96]) (σ' := sr (sw (sw τ2 97 3 (nI 0)) 98 3 (nI (flN V w))) 96 (flRM V w (τ2 96) i)) rfl (⟨vp_in_nI (by omega) (by omega), vp_in_nI (by omega) (by omega)⟩) ?_
              rw [show ((sr (sw (sw τ2 97 3 (nI 0)) 98 3 (nI (flN V w))) 96 (flRM V w (τ2 96) i)) 99 (nI i).toNatClampNeg) = flT V w i from (by rw [nI_clamp (by omega), sr_n _ _ (by decide), sw_ne _ _ _ (by decide), sw_ne _ _ _ (by decide), hShT i (by omega)])]
              refine rw_go hX [(87, .iastore)] (by decide +kernel) (Ps := [vp_in (nI i) 40]) (pc' := 88) (lv' := [(0, .ref 66), (1, .int (nI 3)), (2, .int (nI w)), (3, .int (nI (flN V w))), (4, .int (nI i))]) (st' := []) (σ' := sw (sr (sw (sw τ2 97 3 (nI 0)) 98 3 (nI (flN V w))) 96 (flRM V w (τ2 96) i)) 96 (nI i).toNatClampNeg (flT V w i)) rfl (vp_in_nI (by omega) (by omega)) ?_
              rw [show (sw (sr (sw (sw τ2 97 3 (nI 0)) 98 3 (nI (flN V w))) 96 (flRM V w (τ2 96) i)) 96 (nI i).toNatClampNeg (flT V w i)) = sw (sr (sw (sw τ2 97 3 (nI 0)) 98 3 (nI (flN V w))) 96 (flRM V w (τ2 96) i)) 96 i (flT V w i) from (by rw [nI_clamp (by omega)])]
              refine rw_go hX [(88, .iinc 4 1)] (by decide +kernel) (Ps := []) (pc' := 91) (lv' := [(0, .ref 66), (1, .int (nI 3)), (2, .int (nI w)), (3, .int (nI (flN V w))), (4, .int (nI i + nI 1))]) (st' := []) (σ' := sw (sr (sw (sw τ2 97 3 (nI 0)) 98 3 (nI (flN V w))) 96 (flRM V w (τ2 96) i)) 96 i (flT V w i)) rfl True.intro ?_
              rw [show (nI i + nI 1) = nI (i + 1) from nI_add _ _]
              refine rw_go hX [(91, .goto (-25))] (by decide +kernel) (Ps := []) (pc' := 66) (lv' := [(0, .ref 66), (1, .int (nI 3)), (2, .int (nI w)), (3, .int (nI (flN V w))), (4, .int (nI (i + 1)))]) (st' := []) (σ' := sw (sr (sw (sw τ2 97 3 (nI 0)) 98 3 (nI (flN V w))) 96 (flRM V w (τ2 96) i)) 96 i (flT V w i)) rfl True.intro ?_
              refine rw_lsub (ks := [0, 1, 2, 3, 4]) (lv' := [(0, .ref 66), (1, .int (nI 3)), (2, .int (nI w)), (3, .int (nI (flN V w))), (4, .int (nI (i + 1)))]) rfl ?_
              have q := ih66 (flN V w - (i + 1)) (by omega) (i + 1) rfl (by omega)
              rw [← flRM_1] at q
              rw [sw_sr]
              exact q
        refine rw_lsub (ks := [0, 1, 2, 3, 4]) (lv' := [(0, .ref 66), (1, .int (nI 3)), (2, .int (nI w)), (3, .int (nI (flN V w))), (4, .int (nI 0))]) rfl ?_
        have q := L66 (flN V w) 0 rfl (by omega)
        rw [flRM_0, show sr (sw (sw τ2 97 3 (nI 0)) 98 3 (nI (flN V w))) 96 (τ2 96) = (sw (sw τ2 97 3 (nI 0)) 98 3 (nI (flN V w))) from by
          funext q
          by_cases z : q = 96
          · subst z; rw [sr_s, sw_ne _ _ _ (by decide), sw_ne _ _ _ (by decide)]
          · rw [sr_n _ _ z]] at q
        exact q
      · replace h22 := of_decide_eq_false (zb_neF h22)
        have hvsw : vS V w = 0 := by omega
        refine rw_go hX [(25, .bipush (-11))] (by decide +kernel) (Ps := []) (pc' := 27) (lv' := [(0, .ref 66), (1, .int (nI 3)), (2, .int (nI w))]) (st' := [.int (-(nI 11))]) (σ' := σ) rfl True.intro ?_
        exact rw_iret hX (by decide +kernel) (⟨by simp only [aFilm, eq_true hk4, eq_true h4, eq_true h11, hcw, eq_false h22, eq_true hvsw, if_true, if_false, Bool.false_eq_true, and_self, and_true, true_and, and_false, false_and, oel_n, oel_s, decide_true, decide_false], by simp only [sFilmM, eq_true hk4, eq_true h4, eq_true h11, hcw, eq_false h22, eq_true hvsw, if_true, if_false, Bool.false_eq_true, and_self, and_true, true_and, and_false, false_and, oel_n, oel_s, decide_true, decide_false]⟩)
    · replace h11 := of_decide_eq_false (zb_neF h11)
      refine rw_go hX [(14, .bipush (-2))] (by decide +kernel) (Ps := []) (pc' := 16) (lv' := [(0, .ref 66), (1, .int (nI 3)), (2, .int xw)]) (st' := [.int (-(nI 2))]) (σ' := σ) rfl True.intro ?_
      exact rw_iret hX (by decide +kernel) (⟨by simp only [aFilm, eq_true hk4, eq_true h4, eq_false h11, if_true, if_false, Bool.false_eq_true, and_self, and_true, true_and, and_false, false_and, oel_n, oel_s, decide_true, decide_false], by simp only [sFilmM, eq_true hk4, eq_true h4, eq_false h11, if_true, if_false, Bool.false_eq_true, and_self, and_true, true_and, and_false, false_and, oel_n, oel_s, decide_true, decide_false]⟩)
set_option maxRecDepth 20000 in
set_option maxHeartbeats 800000 in
theorem g_filmO (l : Launch) (G : Gl) (σ : Mm) (V : Mm) (xs xw : Int32) (hx : ¬ (0 ≤ xs ∧ xs ≤ 3)) : AMi l G 6 mX10_film [.ref 66, .int xs, .int xw] σ (fun r σ' => r = aFilm V xs xw ∧ sFilmM V σ σ' xs xw) := by
  refine rw_inI 10 (by decide +kernel) rfl rfl ?_
  intro E hE hX
  subst hE
  refine rw_go hX [(0, .iload_n 1)] (by decide +kernel) (Ps := []) (pc' := 1) (lv' := [(0, .ref 66), (1, .int xs), (2, .int xw)]) (st' := [.int xs]) (σ' := σ) rfl True.intro ?_
  refine rw_callSi hX (as := [.int xs]) (rest := []) (m_isSheet _ _ _ xs) (by decide +kernel) msX10_isSheet (Or.inl lk10_298) rfl (by decide) (Nat.le_of_ble_eq_true rfl) rfl ?_
  intro r1 σ1 hr
  rw [hr.1, show r1 = nI 0 from hr.2.trans (by rw [decide_eq_false hx]; rfl)]
  clear hr σ1 r1
  refine rw_if hX (tgt := 14) (cnd := .eq) (off := 10) (by decide +kernel) (by decide) (fun h4 => ?_) (fun h4 => ?_)
  · skip
    refine rw_go hX [(14, .bipush (-2))] (by decide +kernel) (Ps := []) (pc' := 16) (lv' := [(0, .ref 66), (1, .int xs), (2, .int xw)]) (st' := [.int (-(nI 2))]) (σ' := σ) rfl True.intro ?_
    exact rw_iret hX (by decide +kernel) (⟨by simp only [aFilm, eq_false hx, if_true, if_false, Bool.false_eq_true, and_self, and_true, true_and, and_false, false_and, oel_n, oel_s, decide_true, decide_false], by simp only [sFilmM, eq_false hx, if_true, if_false, Bool.false_eq_true, and_self, and_true, true_and, and_false, false_and, oel_n, oel_s, decide_true, decide_false]⟩)
  · exact absurd (by simp only [cz, cc2]; decide +kernel) h4
theorem sh4q {x : Int32} (h : 0 ≤ x ∧ x ≤ 3) : x = nI 0 ∨ x = nI 1 ∨ x = nI 2 ∨ x = nI 3 := by
  obtain ⟨k, hk, rfl⟩ := rng (m := 3) (by omega) h
  rcases (show k = 0 ∨ k = 1 ∨ k = 2 ∨ k = 3 by omega) with rfl | rfl | rfl | rfl
  · exact Or.inl rfl
  · exact Or.inr (Or.inl rfl)
  · exact Or.inr (Or.inr (Or.inl rfl))
  · exact Or.inr (Or.inr (Or.inr rfl))
theorem g_film (l : Launch) (G : Gl) (σ V : Mm) (xs xw : Int32) (hV : vw σ 67 = V) (hv : wf V) : AMi l G 6 mX10_film [.ref 66, .int xs, .int xw] σ (fun r σ' => r = aFilm V xs xw ∧ sFilmM V σ σ' xs xw) := by
  by_cases h : 0 ≤ xs ∧ xs ≤ 3
  · rcases sh4q h with rfl | rfl | rfl | rfl
    · exact g_film_0 l G σ V xw hV hv
    · exact g_film_1 l G σ V xw hV hv
    · exact g_film_2 l G σ V xw hV hv
    · exact g_film_3 l G σ V xw hV hv
  · exact g_filmO l G σ V xs xw h
