/-! the calls on works, behind feed -/
set_option maxRecDepth 20000 in
set_option maxHeartbeats 4000000 in
theorem f_work (l : Launch) (G : Gl) (σ : Mm) (t : Nat) (xw xk xd : Int32) (ht : σ 0 6 = nI t) (ht5 : t ≤ 50) : AMi l G 3 mX9_work [.ref 0, .int xw, .int xk, .int xd] σ (fun r σ' => r = aWork (σ 65) t xw xk xd ∧ σ' = sWork σ t xw xk xd) := by
  refine rw_inI 9 (by decide +kernel) rfl rfl ?_
  intro E hE hX
  subst hE
  refine rw_go hX [(0, .iload_n 1)] (by decide +kernel) (Ps := []) (pc' := 1) (lv' := [(0, .ref 0), (1, .int xw), (2, .int xk), (3, .int xd)]) (st' := [.int xw]) (σ' := σ) rfl True.intro ?_
  refine rw_callSi hX (as := [.int xw]) (rest := []) (c_X9_isWork _ _ _ (xw)) (by decide +kernel) msX9_isWork (Or.inl lk9_56) rfl (by decide) (Nat.le_of_ble_eq_true rfl) rfl ?_
  intro r1 σ1 hr
  rw [hr.1, show r1 = bz (decide (0 ≤ xw ∧ xw ≤ 4)) from hr.2]
  clear hr σ1 r1
  refine rw_if hX (tgt := 21) (cnd := .eq) (off := 17) (by decide +kernel) (by decide) (fun h4 => ?_) (fun h4 => ?_)
  · replace h4 := of_decide_eq_false (zb_eqT h4)
    refine rw_go hX [(21, .bipush (-2))] (by decide +kernel) (Ps := []) (pc' := 23) (lv' := [(0, .ref 0), (1, .int xw), (2, .int xk), (3, .int xd)]) (st' := [.int (-(nI 2))]) (σ' := σ) rfl True.intro ?_
    exact rw_iret hX (by decide +kernel) (⟨by simp only [aWork, eq_false h4, if_true, if_false, Bool.false_eq_true, and_self, and_true, true_and, and_false, false_and] <;> rfl, by simp only [sWork, eq_false h4, if_true, if_false, Bool.false_eq_true, and_self, and_true, true_and, and_false, false_and] <;> rfl⟩)
  · replace h4 := of_decide_eq_true (zb_eqF h4)
    refine rw_go hX [(7, .iload_n 2)] (by decide +kernel) (Ps := []) (pc' := 8) (lv' := [(0, .ref 0), (1, .int xw), (2, .int xk), (3, .int xd)]) (st' := [.int xk]) (σ' := σ) rfl True.intro ?_
    refine rw_callSi hX (as := [.int xk]) (rest := []) (c_X9_isKind _ _ _ (xk)) (by decide +kernel) msX9_isKind (Or.inl lk9_59) rfl (by decide) (Nat.le_of_ble_eq_true rfl) rfl ?_
    intro r1 σ1 hr
    rw [hr.1, show r1 = bz (decide (0 ≤ xk ∧ xk ≤ 5)) from hr.2]
    clear hr σ1 r1
    refine rw_if hX (tgt := 21) (cnd := .eq) (off := 10) (by decide +kernel) (by decide) (fun h11 => ?_) (fun h11 => ?_)
    · replace h11 := of_decide_eq_false (zb_eqT h11)
      refine rw_go hX [(21, .bipush (-2))] (by decide +kernel) (Ps := []) (pc' := 23) (lv' := [(0, .ref 0), (1, .int xw), (2, .int xk), (3, .int xd)]) (st' := [.int (-(nI 2))]) (σ' := σ) rfl True.intro ?_
      exact rw_iret hX (by decide +kernel) (⟨by simp only [aWork, eq_true h4, eq_false h11, if_true, if_false, Bool.false_eq_true, and_self, and_true, true_and, and_false, false_and] <;> rfl, by simp only [sWork, eq_true h4, eq_false h11, if_true, if_false, Bool.false_eq_true, and_self, and_true, true_and, and_false, false_and] <;> rfl⟩)
    · replace h11 := of_decide_eq_true (zb_eqF h11)
      refine rw_go hX [(14, .iload_n 3)] (by decide +kernel) (Ps := []) (pc' := 15) (lv' := [(0, .ref 0), (1, .int xw), (2, .int xk), (3, .int xd)]) (st' := [.int xd]) (σ' := σ) rfl True.intro ?_
      refine rw_callSi hX (as := [.int xd]) (rest := []) (c_X9_isDay _ _ _ (xd)) (by decide +kernel) msX9_isDay (Or.inl lk9_62) rfl (by decide) (Nat.le_of_ble_eq_true rfl) rfl ?_
      intro r1 σ1 hr
      rw [hr.1, show r1 = bz (decide (0 ≤ xd ∧ xd ≤ 99)) from hr.2]
      clear hr σ1 r1
      refine rw_if hX (tgt := 24) (cnd := .ne) (off := 6) (by decide +kernel) (by decide) (fun h18 => ?_) (fun h18 => ?_)
      · replace h18 := of_decide_eq_true (zb_neT h18)
        refine rw_go hX [(24, .aload_n 0), (25, .getfield 40)] (by decide +kernel) (Ps := []) (pc' := 28) (lv' := [(0, .ref 0), (1, .int xw), (2, .int xk), (3, .int xd)]) (st' := [.int (σ 0 6)]) (σ' := σ) rfl True.intro ?_
        rw [show (σ 0 6) = nI t from (by rw [ht])]
        refine rw_go hX [(28, .istore 4), (30, .aload_n 0), (31, .iconst 0), (32, .putfield 40), (35, .aload_n 0), (36, .iload 4)] (by decide +kernel) (Ps := []) (pc' := 38) (lv' := [(0, .ref 0), (1, .int xw), (2, .int xk), (3, .int xd), (4, .int (nI t))]) (st' := [.int (nI t), .ref 0]) (σ' := sw σ 0 6 (nI 0)) rfl True.intro ?_
        refine rw_callVi hX (as := [.int (nI t)]) (rest := []) (c_rawText _ _ _ t ht5) (by decide +kernel) mvX9_isRawText lk9_65 (ci := 8) rfl rfl rfl (by decide) (Nat.le_of_ble_eq_true rfl) rfl ?_
        intro r1 σ1 hr
        rw [hr.1]
        have hr2 := hr.2
        rw [sw_ne _ _ _ (show 65 ≠ 0 by decide)] at hr2
        clear hr σ1
        refine rw_if hX (tgt := 47) (cnd := .ne) (off := 6) (by decide +kernel) (by decide) (fun h41 => ?_) (fun h41 => ?_)
        · have hraw : pz (rawA (σ 65) t) = true := by
            rcases hr2 with q | q
            · exact pz_t q.1
            · rw [q.2] at h41; exact absurd rfl h41
          obtain ⟨w, hw, rfl⟩ := rng (m := 4) (by omega) h4
          have hw : w < 5 := hw
          have hcw : (nI w).toNatClampNeg = w := nI_clamp (by omega)
          refine rw_go hX [(47, .aload_n 0), (48, .getfield 12), (51, .iload_n 1), (52, .aload_n 0), (53, .getfield 36), (56, .iload 4)] (by decide +kernel) (Ps := []) (pc' := 58) (lv' := [(0, .ref 0), (1, .int (nI w)), (2, .int xk), (3, .int xd), (4, .int (nI t))]) (st' := [.int (nI t), .ref 65, .int (nI w), .ref 1]) (σ' := sw σ 0 6 (nI 0)) rfl True.intro ?_
          refine rw_callVv hX (as := [.int (nI w), .ref 65, .int (nI t)]) (rest := []) (c_become _ _ _ w t hw ht5) (by decide +kernel) mvX5_become lk9_68 (ci := 4) rfl rfl rfl (by decide) (Nat.le_of_ble_eq_true rfl) rfl ?_
          intro σ1 hr
          rw [hr]
          clear hr σ1
          refine rw_go hX [(61, .aload_n 0), (62, .getfield 12), (65, .getfield 72), (68, .iload_n 1), (69, .iload_n 2), (70, .iastore)] (by decide +kernel) (Ps := [vp_in (nI w) 5]) (pc' := 71) (lv' := [(0, .ref 0), (1, .int (nI w)), (2, .int xk), (3, .int xd), (4, .int (nI t))]) (st' := []) (σ' := sw (sw (sr (sw σ 0 6 (nI 0)) 2 (va_cpy ((sw σ 0 6 (nI 0)) 65) ((sw σ 0 6 (nI 0)) 2) 0 (50 * w) t)) 3 w (nI t)) 4 (nI w).toNatClampNeg xk) rfl (vp_in_nI (by omega) (by omega)) ?_
          rw [show (sw (sw (sr (sw σ 0 6 (nI 0)) 2 (va_cpy ((sw σ 0 6 (nI 0)) 65) ((sw σ 0 6 (nI 0)) 2) 0 (50 * w) t)) 3 w (nI t)) 4 (nI w).toNatClampNeg xk) = sw (sw (sr (sw σ 0 6 (nI 0)) 2 (va_cpy ((sw σ 0 6 (nI 0)) 65) ((sw σ 0 6 (nI 0)) 2) 0 (50 * w) t)) 3 w (nI t)) 4 w xk from (by rw [nI_clamp (by omega)])]
          refine rw_go hX [(71, .aload_n 0), (72, .getfield 12), (75, .getfield 75), (78, .iload_n 1), (79, .iload_n 3), (80, .iastore)] (by decide +kernel) (Ps := [vp_in (nI w) 5]) (pc' := 81) (lv' := [(0, .ref 0), (1, .int (nI w)), (2, .int xk), (3, .int xd), (4, .int (nI t))]) (st' := []) (σ' := sw (sw (sw (sr (sw σ 0 6 (nI 0)) 2 (va_cpy ((sw σ 0 6 (nI 0)) 65) ((sw σ 0 6 (nI 0)) 2) 0 (50 * w) t)) 3 w (nI t)) 4 w xk) 5 (nI w).toNatClampNeg xd) rfl (vp_in_nI (by omega) (by omega)) ?_
          rw [show (sw (sw (sw (sr (sw σ 0 6 (nI 0)) 2 (va_cpy ((sw σ 0 6 (nI 0)) 65) ((sw σ 0 6 (nI 0)) 2) 0 (50 * w) t)) 3 w (nI t)) 4 w xk) 5 (nI w).toNatClampNeg xd) = sw (sw (sw (sr (sw σ 0 6 (nI 0)) 2 (va_cpy ((sw σ 0 6 (nI 0)) 65) ((sw σ 0 6 (nI 0)) 2) 0 (50 * w) t)) 3 w (nI t)) 4 w xk) 5 w xd from (by rw [nI_clamp (by omega)])]
          refine rw_go hX [(81, .iload 4)] (by decide +kernel) (Ps := []) (pc' := 83) (lv' := [(0, .ref 0), (1, .int (nI w)), (2, .int xk), (3, .int xd), (4, .int (nI t))]) (st' := [.int (nI t)]) (σ' := sw (sw (sw (sr (sw σ 0 6 (nI 0)) 2 (va_cpy ((sw σ 0 6 (nI 0)) 65) ((sw σ 0 6 (nI 0)) 2) 0 (50 * w) t)) 3 w (nI t)) 4 w xk) 5 w xd) rfl True.intro ?_
          exact rw_iret hX (by decide +kernel) (⟨by simp only [aWork, eq_true h4, eq_true h11, eq_true h18, hcw, hraw, if_true, if_false, Bool.false_eq_true, and_self, and_true, true_and, and_false, false_and] <;> rfl, by simp only [sWork, eq_true h4, eq_true h11, eq_true h18, hcw, hraw, if_true, if_false, Bool.false_eq_true, and_self, and_true, true_and, and_false, false_and] <;> rfl⟩)
        · have hraw : pz (rawA (σ 65) t) = false := by
            rcases hr2 with q | q
            · rw [q.2] at h41; exact absurd (by show (nI 1 : Int32) ≠ 0; decide +kernel) h41
            · exact pz_f q.1
          refine rw_go hX [(44, .bipush (-3))] (by decide +kernel) (Ps := []) (pc' := 46) (lv' := [(0, .ref 0), (1, .int xw), (2, .int xk), (3, .int xd), (4, .int (nI t))]) (st' := [.int (-(nI 3))]) (σ' := sw σ 0 6 (nI 0)) rfl True.intro ?_
          exact rw_iret hX (by decide +kernel) (⟨by simp only [aWork, eq_true h4, eq_true h11, eq_true h18, hraw, if_true, if_false, Bool.false_eq_true, and_self, and_true, true_and, and_false, false_and] <;> rfl, by simp only [sWork, eq_true h4, eq_true h11, eq_true h18, hraw, if_true, if_false, Bool.false_eq_true, and_self, and_true, true_and, and_false, false_and] <;> rfl⟩)
      · replace h18 := of_decide_eq_false (zb_neF h18)
        refine rw_go hX [(21, .bipush (-2))] (by decide +kernel) (Ps := []) (pc' := 23) (lv' := [(0, .ref 0), (1, .int xw), (2, .int xk), (3, .int xd)]) (st' := [.int (-(nI 2))]) (σ' := σ) rfl True.intro ?_
        exact rw_iret hX (by decide +kernel) (⟨by simp only [aWork, eq_true h4, eq_true h11, eq_false h18, if_true, if_false, Bool.false_eq_true, and_self, and_true, true_and, and_false, false_and] <;> rfl, by simp only [sWork, eq_true h4, eq_true h11, eq_false h18, if_true, if_false, Bool.false_eq_true, and_self, and_true, true_and, and_false, false_and] <;> rfl⟩)
set_option maxRecDepth 20000 in
set_option maxHeartbeats 4000000 in
theorem f_splice (l : Launch) (G : Gl) (σ : Mm) (V : Mm) (xw xa xo xf xn : Int32) (hV : vw σ 2 = V) (hv : wf V) : AMi l G 3 mX9_splice [.ref 0, .int xw, .int xa, .int xo, .int xf, .int xn] σ (fun r σ' => r = aSpl V xw xa xo xf xn ∧ σ' = sSpl V σ xw xa xo xf xn) := by
  refine rw_inI 9 (by decide +kernel) rfl rfl ?_
  intro E hE hX
  subst hE
  refine rw_go hX [(0, .iload_n 1)] (by decide +kernel) (Ps := []) (pc' := 1) (lv' := [(0, .ref 0), (1, .int xw), (2, .int xa), (3, .int xo), (4, .int xf), (5, .int xn)]) (st' := [.int xw]) (σ' := σ) rfl True.intro ?_
  refine rw_callSi hX (as := [.int xw]) (rest := []) (c_X9_isWork _ _ _ (xw)) (by decide +kernel) msX9_isWork (Or.inl lk9_56) rfl (by decide) (Nat.le_of_ble_eq_true rfl) rfl ?_
  intro r1 σ1 hr
  rw [hr.1, show r1 = bz (decide (0 ≤ xw ∧ xw ≤ 4)) from hr.2]
  clear hr σ1 r1
  refine rw_if hX (tgt := 14) (cnd := .eq) (off := 10) (by decide +kernel) (by decide) (fun h4 => ?_) (fun h4 => ?_)
  · replace h4 := of_decide_eq_false (zb_eqT h4)
    refine rw_go hX [(14, .bipush (-2))] (by decide +kernel) (Ps := []) (pc' := 16) (lv' := [(0, .ref 0), (1, .int xw), (2, .int xa), (3, .int xo), (4, .int xf), (5, .int xn)]) (st' := [.int (-(nI 2))]) (σ' := σ) rfl True.intro ?_
    exact rw_iret hX (by decide +kernel) (⟨by simp only [aSpl, eq_false h4, if_true, if_false, Bool.false_eq_true, and_self, and_true, true_and, and_false, false_and] <;> rfl, by simp only [sSpl, eq_false h4, if_true, if_false, Bool.false_eq_true, and_self, and_true, true_and, and_false, false_and] <;> rfl⟩)
  · replace h4 := of_decide_eq_true (zb_eqF h4)
    obtain ⟨w, hw, rfl⟩ := rng (m := 4) (by omega) h4
    have hw : w < 5 := hw
    have hcw : (nI w).toNatClampNeg = w := nI_clamp (by omega)
    refine rw_go hX [(7, .iload_n 3)] (by decide +kernel) (Ps := []) (pc' := 8) (lv' := [(0, .ref 0), (1, .int (nI w)), (2, .int xa), (3, .int xo), (4, .int xf), (5, .int xn)]) (st' := [.int xo]) (σ' := σ) rfl True.intro ?_
    refine rw_callSi hX (as := [.int xo]) (rest := []) (c_X9_isWork _ _ _ (xo)) (by decide +kernel) msX9_isWork (Or.inl lk9_56) rfl (by decide) (Nat.le_of_ble_eq_true rfl) rfl ?_
    intro r1 σ1 hr
    rw [hr.1, show r1 = bz (decide (0 ≤ xo ∧ xo ≤ 4)) from hr.2]
    clear hr σ1 r1
    refine rw_if hX (tgt := 17) (cnd := .ne) (off := 6) (by decide +kernel) (by decide) (fun h11 => ?_) (fun h11 => ?_)
    · replace h11 := of_decide_eq_true (zb_neT h11)
      obtain ⟨u, hu, rfl⟩ := rng (m := 4) (by omega) h11
      have hu : u < 5 := hu
      have hcu : (nI u).toNatClampNeg = u := nI_clamp (by omega)
      refine rw_go hX [(17, .aload_n 0), (18, .iload_n 1)] (by decide +kernel) (Ps := []) (pc' := 19) (lv' := [(0, .ref 0), (1, .int (nI w)), (2, .int xa), (3, .int (nI u)), (4, .int xf), (5, .int xn)]) (st' := [.int (nI w), .ref 0]) (σ' := σ) rfl True.intro ?_
      refine rw_callVi hX (as := [.int (nI w)]) (rest := []) (c_missing _ _ _ V w hV hv hw) (by decide +kernel) mvX9_isMissing lk9_78 (ci := 8) rfl rfl rfl (by decide) (Nat.le_of_ble_eq_true rfl) rfl ?_
      intro r1 σ1 hr
      rw [hr.1, show r1 = bz (decide (vS V w = 0)) from hr.2]
      clear hr σ1 r1
      refine rw_if hX (tgt := 33) (cnd := .ne) (off := 11) (by decide +kernel) (by decide) (fun h22 => ?_) (fun h22 => ?_)
      · replace h22 := of_decide_eq_true (zb_neT h22)
        refine rw_go hX [(33, .bipush (-11))] (by decide +kernel) (Ps := []) (pc' := 35) (lv' := [(0, .ref 0), (1, .int (nI w)), (2, .int xa), (3, .int (nI u)), (4, .int xf), (5, .int xn)]) (st' := [.int (-(nI 11))]) (σ' := σ) rfl True.intro ?_
        exact rw_iret hX (by decide +kernel) (⟨by simp only [aSpl, eq_true h4, hcw, eq_true h11, hcu, eq_true h22, if_true, if_false, Bool.false_eq_true, and_self, and_true, true_and, and_false, false_and] <;> rfl, by simp only [sSpl, eq_true h4, hcw, eq_true h11, hcu, eq_true h22, if_true, if_false, Bool.false_eq_true, and_self, and_true, true_and, and_false, false_and] <;> rfl⟩)
      · replace h22 := of_decide_eq_false (zb_neF h22)
        refine rw_go hX [(25, .aload_n 0), (26, .iload_n 3)] (by decide +kernel) (Ps := []) (pc' := 27) (lv' := [(0, .ref 0), (1, .int (nI w)), (2, .int xa), (3, .int (nI u)), (4, .int xf), (5, .int xn)]) (st' := [.int (nI u), .ref 0]) (σ' := σ) rfl True.intro ?_
        refine rw_callVi hX (as := [.int (nI u)]) (rest := []) (c_missing _ _ _ V u hV hv hu) (by decide +kernel) mvX9_isMissing lk9_78 (ci := 8) rfl rfl rfl (by decide) (Nat.le_of_ble_eq_true rfl) rfl ?_
        intro r1 σ1 hr
        rw [hr.1, show r1 = bz (decide (vS V u = 0)) from hr.2]
        clear hr σ1 r1
        refine rw_if hX (tgt := 36) (cnd := .eq) (off := 6) (by decide +kernel) (by decide) (fun h30 => ?_) (fun h30 => ?_)
        · replace h30 := of_decide_eq_false (zb_eqT h30)
          refine rw_go hX [(36, .aload_n 0), (37, .getfield 12), (40, .iload_n 1)] (by decide +kernel) (Ps := []) (pc' := 41) (lv' := [(0, .ref 0), (1, .int (nI w)), (2, .int xa), (3, .int (nI u)), (4, .int xf), (5, .int xn)]) (st' := [.int (nI w), .ref 1]) (σ' := σ) rfl True.intro ?_
          refine rw_callVi hX (as := [.int (nI w)]) (rest := []) (c_size _ _ _ 1 (Or.inl rfl) V hV hv w hw) (by decide +kernel) mvX5_sizeOf lk9_81 (ci := 4) rfl rfl rfl (by decide) (Nat.le_of_ble_eq_true rfl) rfl ?_
          intro r1 σ1 hr
          rw [hr.1, show r1 = nI (vS V w) from hr.2]
          clear hr σ1 r1
          refine rw_go hX [(44, .istore 6), (46, .iload_n 2)] (by decide +kernel) (Ps := []) (pc' := 47) (lv' := [(0, .ref 0), (1, .int (nI w)), (2, .int xa), (3, .int (nI u)), (4, .int xf), (5, .int xn), (6, .int (nI (vS V w)))]) (st' := [.int xa]) (σ' := σ) rfl True.intro ?_
          refine rw_if hX (tgt := 83) (cnd := .lt) (off := 36) (by decide +kernel) (by decide) (fun h47 => ?_) (fun h47 => ?_)
          · replace h47 : (xa < 0) := h47
            have hsp : pz (spOK xa xf xn (vS V w) (vS V u)) = false := pz_f fun ⟨a, f, k, e1, e2, e3, g1, g2, g3⟩ => by
              rw [e1] at h47; exact absurd h47 (nI_pos (by have := wf_s50 hv hw; omega))
            refine rw_go hX [(83, .bipush (-12))] (by decide +kernel) (Ps := []) (pc' := 85) (lv' := [(0, .ref 0), (1, .int (nI w)), (2, .int xa), (3, .int (nI u)), (4, .int xf), (5, .int xn), (6, .int (nI (vS V w)))]) (st' := [.int (-(nI 12))]) (σ' := σ) rfl True.intro ?_
            exact rw_iret hX (by decide +kernel) (⟨by simp only [aSpl, eq_true h4, hcw, eq_true h11, hcu, eq_false h22, eq_false h30, eq_true h47, hsp, if_true, if_false, Bool.false_eq_true, and_self, and_true, true_and, and_false, false_and] <;> rfl, by simp only [sSpl, eq_true h4, hcw, eq_true h11, hcu, eq_false h22, eq_false h30, eq_true h47, hsp, if_true, if_false, Bool.false_eq_true, and_self, and_true, true_and, and_false, false_and] <;> rfl⟩)
          · replace h47 : ¬ (xa < 0) := h47
            refine rw_go hX [(50, .iload_n 2), (51, .iload 6)] (by decide +kernel) (Ps := []) (pc' := 53) (lv' := [(0, .ref 0), (1, .int (nI w)), (2, .int xa), (3, .int (nI u)), (4, .int xf), (5, .int xn), (6, .int (nI (vS V w)))]) (st' := [.int (nI (vS V w)), .int xa]) (σ' := σ) rfl True.intro ?_
            refine rw_icmp hX (tgt := 83) (cnd := .gt) (off := 30) (by decide +kernel) (by decide) (fun h53 => ?_) (fun h53 => ?_)
            · replace h53 : (xa > nI (vS V w)) := h53
              have hsp : pz (spOK xa xf xn (vS V w) (vS V u)) = false := pz_f fun ⟨a, f, k, e1, e2, e3, g1, g2, g3⟩ => by
                rw [e1] at h53; exact absurd (nI_le g1 (by have := wf_s50 hv hw; omega)) (Int32.not_le.mpr h53)
              refine rw_go hX [(83, .bipush (-12))] (by decide +kernel) (Ps := []) (pc' := 85) (lv' := [(0, .ref 0), (1, .int (nI w)), (2, .int xa), (3, .int (nI u)), (4, .int xf), (5, .int xn), (6, .int (nI (vS V w)))]) (st' := [.int (-(nI 12))]) (σ' := σ) rfl True.intro ?_
              exact rw_iret hX (by decide +kernel) (⟨by simp only [aSpl, eq_true h4, hcw, eq_true h11, hcu, eq_false h22, eq_false h30, eq_false h47, eq_true h53, hsp, if_true, if_false, Bool.false_eq_true, and_self, and_true, true_and, and_false, false_and] <;> rfl, by simp only [sSpl, eq_true h4, hcw, eq_true h11, hcu, eq_false h22, eq_false h30, eq_false h47, eq_true h53, hsp, if_true, if_false, Bool.false_eq_true, and_self, and_true, true_and, and_false, false_and] <;> rfl⟩)
            · replace h53 : ¬ (xa > nI (vS V w)) := h53
              refine rw_go hX [(56, .iload 4)] (by decide +kernel) (Ps := []) (pc' := 58) (lv' := [(0, .ref 0), (1, .int (nI w)), (2, .int xa), (3, .int (nI u)), (4, .int xf), (5, .int xn), (6, .int (nI (vS V w)))]) (st' := [.int xf]) (σ' := σ) rfl True.intro ?_
              refine rw_if hX (tgt := 83) (cnd := .lt) (off := 25) (by decide +kernel) (by decide) (fun h58 => ?_) (fun h58 => ?_)
              · replace h58 : (xf < 0) := h58
                have hsp : pz (spOK xa xf xn (vS V w) (vS V u)) = false := pz_f fun ⟨a, f, k, e1, e2, e3, g1, g2, g3⟩ => by
                  rw [e2] at h58; exact absurd h58 (nI_pos (by have := wf_s50 hv hu; omega))
                refine rw_go hX [(83, .bipush (-12))] (by decide +kernel) (Ps := []) (pc' := 85) (lv' := [(0, .ref 0), (1, .int (nI w)), (2, .int xa), (3, .int (nI u)), (4, .int xf), (5, .int xn), (6, .int (nI (vS V w)))]) (st' := [.int (-(nI 12))]) (σ' := σ) rfl True.intro ?_
                exact rw_iret hX (by decide +kernel) (⟨by simp only [aSpl, eq_true h4, hcw, eq_true h11, hcu, eq_false h22, eq_false h30, eq_false h47, eq_false h53, eq_true h58, hsp, if_true, if_false, Bool.false_eq_true, and_self, and_true, true_and, and_false, false_and] <;> rfl, by simp only [sSpl, eq_true h4, hcw, eq_true h11, hcu, eq_false h22, eq_false h30, eq_false h47, eq_false h53, eq_true h58, hsp, if_true, if_false, Bool.false_eq_true, and_self, and_true, true_and, and_false, false_and] <;> rfl⟩)
              · replace h58 : ¬ (xf < 0) := h58
                refine rw_go hX [(61, .iload 5), (63, .iconst 1)] (by decide +kernel) (Ps := []) (pc' := 64) (lv' := [(0, .ref 0), (1, .int (nI w)), (2, .int xa), (3, .int (nI u)), (4, .int xf), (5, .int xn), (6, .int (nI (vS V w)))]) (st' := [.int (nI 1), .int xn]) (σ' := σ) rfl True.intro ?_
                refine rw_icmp hX (tgt := 83) (cnd := .lt) (off := 19) (by decide +kernel) (by decide) (fun h64 => ?_) (fun h64 => ?_)
                · replace h64 : (xn < nI 1) := h64
                  have hsp : pz (spOK xa xf xn (vS V w) (vS V u)) = false := pz_f fun ⟨a, f, k, e1, e2, e3, g1, g2, g3⟩ => by
                    rw [e3] at h64; exact absurd (nI_le g2 (by have := wf_s50 hv hu; omega)) (Int32.not_le.mpr h64)
                  refine rw_go hX [(83, .bipush (-12))] (by decide +kernel) (Ps := []) (pc' := 85) (lv' := [(0, .ref 0), (1, .int (nI w)), (2, .int xa), (3, .int (nI u)), (4, .int xf), (5, .int xn), (6, .int (nI (vS V w)))]) (st' := [.int (-(nI 12))]) (σ' := σ) rfl True.intro ?_
                  exact rw_iret hX (by decide +kernel) (⟨by simp only [aSpl, eq_true h4, hcw, eq_true h11, hcu, eq_false h22, eq_false h30, eq_false h47, eq_false h53, eq_false h58, eq_true h64, hsp, if_true, if_false, Bool.false_eq_true, and_self, and_true, true_and, and_false, false_and] <;> rfl, by simp only [sSpl, eq_true h4, hcw, eq_true h11, hcu, eq_false h22, eq_false h30, eq_false h47, eq_false h53, eq_false h58, eq_true h64, hsp, if_true, if_false, Bool.false_eq_true, and_self, and_true, true_and, and_false, false_and] <;> rfl⟩)
                · replace h64 : ¬ (xn < nI 1) := h64
                  refine rw_go hX [(67, .iload 5), (69, .aload_n 0), (70, .getfield 12), (73, .iload_n 3)] (by decide +kernel) (Ps := []) (pc' := 74) (lv' := [(0, .ref 0), (1, .int (nI w)), (2, .int xa), (3, .int (nI u)), (4, .int xf), (5, .int xn), (6, .int (nI (vS V w)))]) (st' := [.int (nI u), .ref 1, .int xn]) (σ' := σ) rfl True.intro ?_
                  refine rw_callVi hX (as := [.int (nI u)]) (rest := [.int xn]) (c_size _ _ _ 1 (Or.inl rfl) V hV hv u hu) (by decide +kernel) mvX5_sizeOf lk9_81 (ci := 4) rfl rfl rfl (by decide) (Nat.le_of_ble_eq_true rfl) rfl ?_
                  intro r1 σ1 hr
                  rw [hr.1, show r1 = nI (vS V u) from hr.2]
                  clear hr σ1 r1
                  refine rw_go hX [(77, .iload 4), (79, .isub)] (by decide +kernel) (Ps := []) (pc' := 80) (lv' := [(0, .ref 0), (1, .int (nI w)), (2, .int xa), (3, .int (nI u)), (4, .int xf), (5, .int xn), (6, .int (nI (vS V w)))]) (st' := [.int (nI (vS V u) - xf), .int xn]) (σ' := σ) rfl True.intro ?_
                  refine rw_icmp hX (tgt := 86) (cnd := .le) (off := 6) (by decide +kernel) (by decide) (fun h80 => ?_) (fun h80 => ?_)
                  · replace h80 : (xn ≤ (nI (vS V u) - xf)) := h80
                    have hs5 := wf_s50 hv hw
                    have hu5 := wf_s50 hv hu
                    obtain ⟨k, f, rfl, rfl, hk1, hkf⟩ := subr h58 h64 h80 (wf_s50 hv hu)
                    obtain ⟨a, ha, rfl⟩ : ∃ a, a ≤ vS V w ∧ xa = nI a := by
                      obtain ⟨a, q1, q2⟩ := nI_of h47
                      rw [q2] at h53
                      exact ⟨a, Nat.not_lt.mp fun z => h53 (nI_lt z q1), q2⟩
                    have hcf : (nI f).toNatClampNeg = f := nI_clamp (by omega)
                    have hck : (nI k).toNatClampNeg = k := nI_clamp (by omega)
                    have hca : (nI a).toNatClampNeg = a := nI_clamp (by omega)
                    have hsp : pz (spOK (nI a) (nI f) (nI k) (vS V w) (vS V u)) = true := pz_t ⟨a, f, k, rfl, rfl, rfl, ha, hk1, hkf⟩
                    refine rw_go hX [(86, .iload 5), (88, .bipush 50), (90, .iload 6), (92, .isub)] (by decide +kernel) (Ps := []) (pc' := 93) (lv' := [(0, .ref 0), (1, .int (nI w)), (2, .int (nI a)), (3, .int (nI u)), (4, .int (nI f)), (5, .int (nI k)), (6, .int (nI (vS V w)))]) (st' := [.int (nI 50 - nI (vS V w)), .int (nI k)]) (σ' := σ) rfl True.intro ?_
                    rw [show (nI 50 - nI (vS V w)) = nI (50 - vS V w) from pk_sub (by omega)]
                    refine rw_icmp hX (tgt := 99) (cnd := .le) (off := 6) (by decide +kernel) (by decide) (fun h93 => ?_) (fun h93 => ?_)
                    · replace h93 := c2_leT h93
                      have hnk : nI k ≤ nI (50 - vS V w) := nI_le h93 (by omega)
                      refine rw_go hX [(99, .aload_n 0), (100, .getfield 12), (103, .iload_n 1), (104, .iload_n 2), (105, .iload_n 3), (106, .iload 4), (108, .iload 5)] (by decide +kernel) (Ps := []) (pc' := 110) (lv' := [(0, .ref 0), (1, .int (nI w)), (2, .int (nI a)), (3, .int (nI u)), (4, .int (nI f)), (5, .int (nI k)), (6, .int (nI (vS V w)))]) (st' := [.int (nI k), .int (nI f), .int (nI u), .int (nI a), .int (nI w), .ref 1]) (σ' := σ) rfl True.intro ?_
                      refine rw_callVv hX (as := [.int (nI w), .int (nI a), .int (nI u), .int (nI f), .int (nI k)]) (rest := []) (c_insert _ _ _ w a u f k (vS V w) (vS V u) hw hu ((congrFun (vw_at hV 1 (by omega)) w).trans (wf_s hv hw)) ((congrFun (vw_at hV 1 (by omega)) u).trans (wf_s hv hu)) hs5 hu5 ha hk1 hkf (by omega)) (by decide +kernel) mvX5_insert lk9_85 (ci := 4) rfl rfl rfl (by decide) (Nat.le_of_ble_eq_true rfl) rfl ?_
                      intro σ1 hr
                      rw [hr]
                      clear hr σ1
                      refine rw_go hX [(113, .aload_n 0), (114, .getfield 12), (117, .iload_n 1)] (by decide +kernel) (Ps := []) (pc' := 118) (lv' := [(0, .ref 0), (1, .int (nI w)), (2, .int (nI a)), (3, .int (nI u)), (4, .int (nI f)), (5, .int (nI k)), (6, .int (nI (vS V w)))]) (st' := [.int (nI w), .ref 1]) (σ' := splS σ w a u f k (vS V w)) rfl True.intro ?_
                      refine rw_callVi hX (as := [.int (nI w)]) (rest := []) (c_sizeOf_1 _ _ _ w hw) (by decide +kernel) mvX5_sizeOf lk9_81 (ci := 4) rfl rfl rfl (by decide) (Nat.le_of_ble_eq_true rfl) rfl ?_
                      intro r1 σ1 hr
                      rw [hr.1, show r1 = nI (vS V w + k) from hr.2.trans sw_eq]
                      clear hr σ1 r1
                      exact rw_iret hX (by decide +kernel) (⟨by simp only [aSpl, eq_true h4, hcw, eq_true h11, hcu, eq_false h22, eq_false h30, eq_false h47, eq_false h53, eq_false h58, eq_false h64, eq_true h80, hcf, hck, hca, hsp, eq_true h93, hnk, if_true, if_false, Bool.false_eq_true, and_self, and_true, true_and, and_false, false_and] <;> rfl, by simp only [sSpl, eq_true h4, hcw, eq_true h11, hcu, eq_false h22, eq_false h30, eq_false h47, eq_false h53, eq_false h58, eq_false h64, eq_true h80, hcf, hck, hca, hsp, eq_true h93, hnk, if_true, if_false, Bool.false_eq_true, and_self, and_true, true_and, and_false, false_and] <;> rfl⟩)
                    · replace h93 := c2_leF h93
                      have hnk : ¬ nI k ≤ nI (50 - vS V w) := nI_ge h93 (by omega)
                      refine rw_go hX [(96, .bipush (-4))] (by decide +kernel) (Ps := []) (pc' := 98) (lv' := [(0, .ref 0), (1, .int (nI w)), (2, .int (nI a)), (3, .int (nI u)), (4, .int (nI f)), (5, .int (nI k)), (6, .int (nI (vS V w)))]) (st' := [.int (-(nI 4))]) (σ' := σ) rfl True.intro ?_
                      exact rw_iret hX (by decide +kernel) (⟨by simp only [aSpl, eq_true h4, hcw, eq_true h11, hcu, eq_false h22, eq_false h30, eq_false h47, eq_false h53, eq_false h58, eq_false h64, eq_true h80, hcf, hck, hca, hsp, eq_true h93, hnk, if_true, if_false, Bool.false_eq_true, and_self, and_true, true_and, and_false, false_and] <;> rfl, by simp only [sSpl, eq_true h4, hcw, eq_true h11, hcu, eq_false h22, eq_false h30, eq_false h47, eq_false h53, eq_false h58, eq_false h64, eq_true h80, hcf, hck, hca, hsp, eq_true h93, hnk, if_true, if_false, Bool.false_eq_true, and_self, and_true, true_and, and_false, false_and] <;> rfl⟩)
                  · replace h80 : ¬ (xn ≤ (nI (vS V u) - xf)) := h80
                    have hsp : pz (spOK xa xf xn (vS V w) (vS V u)) = false := pz_f fun ⟨a, f, k, e1, e2, e3, g1, g2, g3⟩ => by
                      rw [e2, e3] at h80; exact absurd (subr_no g3 (wf_s50 hv hu)) h80
                    refine rw_go hX [(83, .bipush (-12))] (by decide +kernel) (Ps := []) (pc' := 85) (lv' := [(0, .ref 0), (1, .int (nI w)), (2, .int xa), (3, .int (nI u)), (4, .int xf), (5, .int xn), (6, .int (nI (vS V w)))]) (st' := [.int (-(nI 12))]) (σ' := σ) rfl True.intro ?_
                    exact rw_iret hX (by decide +kernel) (⟨by simp only [aSpl, eq_true h4, hcw, eq_true h11, hcu, eq_false h22, eq_false h30, eq_false h47, eq_false h53, eq_false h58, eq_false h64, eq_false h80, hsp, if_true, if_false, Bool.false_eq_true, and_self, and_true, true_and, and_false, false_and] <;> rfl, by simp only [sSpl, eq_true h4, hcw, eq_true h11, hcu, eq_false h22, eq_false h30, eq_false h47, eq_false h53, eq_false h58, eq_false h64, eq_false h80, hsp, if_true, if_false, Bool.false_eq_true, and_self, and_true, true_and, and_false, false_and] <;> rfl⟩)
        · replace h30 := of_decide_eq_true (zb_eqF h30)
          refine rw_go hX [(33, .bipush (-11))] (by decide +kernel) (Ps := []) (pc' := 35) (lv' := [(0, .ref 0), (1, .int (nI w)), (2, .int xa), (3, .int (nI u)), (4, .int xf), (5, .int xn)]) (st' := [.int (-(nI 11))]) (σ' := σ) rfl True.intro ?_
          exact rw_iret hX (by decide +kernel) (⟨by simp only [aSpl, eq_true h4, hcw, eq_true h11, hcu, eq_false h22, eq_true h30, if_true, if_false, Bool.false_eq_true, and_self, and_true, true_and, and_false, false_and] <;> rfl, by simp only [sSpl, eq_true h4, hcw, eq_true h11, hcu, eq_false h22, eq_true h30, if_true, if_false, Bool.false_eq_true, and_self, and_true, true_and, and_false, false_and] <;> rfl⟩)
    · replace h11 := of_decide_eq_false (zb_neF h11)
      refine rw_go hX [(14, .bipush (-2))] (by decide +kernel) (Ps := []) (pc' := 16) (lv' := [(0, .ref 0), (1, .int (nI w)), (2, .int xa), (3, .int xo), (4, .int xf), (5, .int xn)]) (st' := [.int (-(nI 2))]) (σ' := σ) rfl True.intro ?_
      exact rw_iret hX (by decide +kernel) (⟨by simp only [aSpl, eq_true h4, hcw, eq_false h11, if_true, if_false, Bool.false_eq_true, and_self, and_true, true_and, and_false, false_and] <;> rfl, by simp only [sSpl, eq_true h4, hcw, eq_false h11, if_true, if_false, Bool.false_eq_true, and_self, and_true, true_and, and_false, false_and] <;> rfl⟩)
set_option maxRecDepth 20000 in
set_option maxHeartbeats 4000000 in
theorem f_cut (l : Launch) (G : Gl) (σ : Mm) (V : Mm) (xw xa xn : Int32) (hV : vw σ 2 = V) (hv : wf V) : AMi l G 3 mX9_cut [.ref 0, .int xw, .int xa, .int xn] σ (fun r σ' => r = aCut V xw xa xn ∧ σ' = sCut V σ xw xa xn) := by
  refine rw_inI 9 (by decide +kernel) rfl rfl ?_
  intro E hE hX
  subst hE
  refine rw_go hX [(0, .iload_n 1)] (by decide +kernel) (Ps := []) (pc' := 1) (lv' := [(0, .ref 0), (1, .int xw), (2, .int xa), (3, .int xn)]) (st' := [.int xw]) (σ' := σ) rfl True.intro ?_
  refine rw_callSi hX (as := [.int xw]) (rest := []) (c_X9_isWork _ _ _ (xw)) (by decide +kernel) msX9_isWork (Or.inl lk9_56) rfl (by decide) (Nat.le_of_ble_eq_true rfl) rfl ?_
  intro r1 σ1 hr
  rw [hr.1, show r1 = bz (decide (0 ≤ xw ∧ xw ≤ 4)) from hr.2]
  clear hr σ1 r1
  refine rw_if hX (tgt := 10) (cnd := .ne) (off := 6) (by decide +kernel) (by decide) (fun h4 => ?_) (fun h4 => ?_)
  · replace h4 := of_decide_eq_true (zb_neT h4)
    obtain ⟨w, hw, rfl⟩ := rng (m := 4) (by omega) h4
    have hw : w < 5 := hw
    have hcw : (nI w).toNatClampNeg = w := nI_clamp (by omega)
    refine rw_go hX [(10, .aload_n 0), (11, .iload_n 1)] (by decide +kernel) (Ps := []) (pc' := 12) (lv' := [(0, .ref 0), (1, .int (nI w)), (2, .int xa), (3, .int xn)]) (st' := [.int (nI w), .ref 0]) (σ' := σ) rfl True.intro ?_
    refine rw_callVi hX (as := [.int (nI w)]) (rest := []) (c_missing _ _ _ V w hV hv hw) (by decide +kernel) mvX9_isMissing lk9_78 (ci := 8) rfl rfl rfl (by decide) (Nat.le_of_ble_eq_true rfl) rfl ?_
    intro r1 σ1 hr
    rw [hr.1, show r1 = bz (decide (vS V w = 0)) from hr.2]
    clear hr σ1 r1
    refine rw_if hX (tgt := 21) (cnd := .eq) (off := 6) (by decide +kernel) (by decide) (fun h15 => ?_) (fun h15 => ?_)
    · replace h15 := of_decide_eq_false (zb_eqT h15)
      refine rw_go hX [(21, .aload_n 0), (22, .getfield 12), (25, .iload_n 1)] (by decide +kernel) (Ps := []) (pc' := 26) (lv' := [(0, .ref 0), (1, .int (nI w)), (2, .int xa), (3, .int xn)]) (st' := [.int (nI w), .ref 1]) (σ' := σ) rfl True.intro ?_
      refine rw_callVi hX (as := [.int (nI w)]) (rest := []) (c_size _ _ _ 1 (Or.inl rfl) V hV hv w hw) (by decide +kernel) mvX5_sizeOf lk9_81 (ci := 4) rfl rfl rfl (by decide) (Nat.le_of_ble_eq_true rfl) rfl ?_
      intro r1 σ1 hr
      rw [hr.1, show r1 = nI (vS V w) from hr.2]
      clear hr σ1 r1
      refine rw_go hX [(29, .istore 4), (31, .iload_n 2)] (by decide +kernel) (Ps := []) (pc' := 32) (lv' := [(0, .ref 0), (1, .int (nI w)), (2, .int xa), (3, .int xn), (4, .int (nI (vS V w)))]) (st' := [.int xa]) (σ' := σ) rfl True.intro ?_
      refine rw_if hX (tgt := 48) (cnd := .lt) (off := 16) (by decide +kernel) (by decide) (fun h32 => ?_) (fun h32 => ?_)
      · replace h32 : (xa < 0) := h32
        have hsp : pz (ctOK xa xn (vS V w)) = false := pz_f fun ⟨a, k, e1, e2, g1, g2⟩ => by
          rw [e1] at h32; exact absurd h32 (nI_pos (by have := wf_s50 hv hw; omega))
        refine rw_go hX [(48, .bipush (-12))] (by decide +kernel) (Ps := []) (pc' := 50) (lv' := [(0, .ref 0), (1, .int (nI w)), (2, .int xa), (3, .int xn), (4, .int (nI (vS V w)))]) (st' := [.int (-(nI 12))]) (σ' := σ) rfl True.intro ?_
        exact rw_iret hX (by decide +kernel) (⟨by simp only [aCut, eq_true h4, hcw, eq_false h15, eq_true h32, hsp, if_true, if_false, Bool.false_eq_true, and_self, and_true, true_and, and_false, false_and] <;> rfl, by simp only [sCut, eq_true h4, hcw, eq_false h15, eq_true h32, hsp, if_true, if_false, Bool.false_eq_true, and_self, and_true, true_and, and_false, false_and] <;> rfl⟩)
      · replace h32 : ¬ (xa < 0) := h32
        refine rw_go hX [(35, .iload_n 3), (36, .iconst 1)] (by decide +kernel) (Ps := []) (pc' := 37) (lv' := [(0, .ref 0), (1, .int (nI w)), (2, .int xa), (3, .int xn), (4, .int (nI (vS V w)))]) (st' := [.int (nI 1), .int xn]) (σ' := σ) rfl True.intro ?_
        refine rw_icmp hX (tgt := 48) (cnd := .lt) (off := 11) (by decide +kernel) (by decide) (fun h37 => ?_) (fun h37 => ?_)
        · replace h37 : (xn < nI 1) := h37
          have hsp : pz (ctOK xa xn (vS V w)) = false := pz_f fun ⟨a, k, e1, e2, g1, g2⟩ => by
            rw [e2] at h37; exact absurd (nI_le g1 (by have := wf_s50 hv hw; omega)) (Int32.not_le.mpr h37)
          refine rw_go hX [(48, .bipush (-12))] (by decide +kernel) (Ps := []) (pc' := 50) (lv' := [(0, .ref 0), (1, .int (nI w)), (2, .int xa), (3, .int xn), (4, .int (nI (vS V w)))]) (st' := [.int (-(nI 12))]) (σ' := σ) rfl True.intro ?_
          exact rw_iret hX (by decide +kernel) (⟨by simp only [aCut, eq_true h4, hcw, eq_false h15, eq_false h32, eq_true h37, hsp, if_true, if_false, Bool.false_eq_true, and_self, and_true, true_and, and_false, false_and] <;> rfl, by simp only [sCut, eq_true h4, hcw, eq_false h15, eq_false h32, eq_true h37, hsp, if_true, if_false, Bool.false_eq_true, and_self, and_true, true_and, and_false, false_and] <;> rfl⟩)
        · replace h37 : ¬ (xn < nI 1) := h37
          refine rw_go hX [(40, .iload_n 3), (41, .iload 4), (43, .iload_n 2), (44, .isub)] (by decide +kernel) (Ps := []) (pc' := 45) (lv' := [(0, .ref 0), (1, .int (nI w)), (2, .int xa), (3, .int xn), (4, .int (nI (vS V w)))]) (st' := [.int (nI (vS V w) - xa), .int xn]) (σ' := σ) rfl True.intro ?_
          refine rw_icmp hX (tgt := 51) (cnd := .le) (off := 6) (by decide +kernel) (by decide) (fun h45 => ?_) (fun h45 => ?_)
          · replace h45 : (xn ≤ (nI (vS V w) - xa)) := h45
            have hs5 := wf_s50 hv hw
            obtain ⟨k, a, rfl, rfl, hk1, hka⟩ := subr h32 h37 h45 (wf_s50 hv hw)
            have hck : (nI k).toNatClampNeg = k := nI_clamp (by omega)
            have hca : (nI a).toNatClampNeg = a := nI_clamp (by omega)
            have hsp : pz (ctOK (nI a) (nI k) (vS V w)) = true := pz_t ⟨a, k, rfl, rfl, hk1, hka⟩
            refine rw_go hX [(51, .iload_n 3), (52, .iload 4)] (by decide +kernel) (Ps := []) (pc' := 54) (lv' := [(0, .ref 0), (1, .int (nI w)), (2, .int (nI a)), (3, .int (nI k)), (4, .int (nI (vS V w)))]) (st' := [.int (nI (vS V w)), .int (nI k)]) (σ' := σ) rfl True.intro ?_
            refine rw_icmp hX (tgt := 60) (cnd := .ne) (off := 6) (by decide +kernel) (by decide) (fun h54 => ?_) (fun h54 => ?_)
            · replace h54 := c2_neT h54
              have hnk : ¬ nI k = nI (vS V w) := fun z => h54 ((nI_eq (by omega) (by omega)).mp z)
              refine rw_go hX [(60, .aload_n 0), (61, .getfield 12), (64, .iload_n 1), (65, .iload_n 2), (66, .iload_n 3)] (by decide +kernel) (Ps := []) (pc' := 67) (lv' := [(0, .ref 0), (1, .int (nI w)), (2, .int (nI a)), (3, .int (nI k)), (4, .int (nI (vS V w)))]) (st' := [.int (nI k), .int (nI a), .int (nI w), .ref 1]) (σ' := σ) rfl True.intro ?_
              refine rw_callVv hX (as := [.int (nI w), .int (nI a), .int (nI k)]) (rest := []) (c_remove _ _ _ w a k (vS V w) hw ((congrFun (vw_at hV 1 (by omega)) w).trans (wf_s hv hw)) hs5 hk1 hka) (by decide +kernel) mvX5_remove lk9_89 (ci := 4) rfl rfl rfl (by decide) (Nat.le_of_ble_eq_true rfl) rfl ?_
              intro σ1 hr
              rw [hr]
              clear hr σ1
              refine rw_go hX [(70, .aload_n 0), (71, .getfield 12), (74, .iload_n 1)] (by decide +kernel) (Ps := []) (pc' := 75) (lv' := [(0, .ref 0), (1, .int (nI w)), (2, .int (nI a)), (3, .int (nI k)), (4, .int (nI (vS V w)))]) (st' := [.int (nI w), .ref 1]) (σ' := cutS σ w a k (vS V w)) rfl True.intro ?_
              refine rw_callVi hX (as := [.int (nI w)]) (rest := []) (c_sizeOf_1 _ _ _ w hw) (by decide +kernel) mvX5_sizeOf lk9_81 (ci := 4) rfl rfl rfl (by decide) (Nat.le_of_ble_eq_true rfl) rfl ?_
              intro r1 σ1 hr
              rw [hr.1, show r1 = nI (vS V w - k) from hr.2.trans sw_eq]
              clear hr σ1 r1
              exact rw_iret hX (by decide +kernel) (⟨by simp only [aCut, eq_true h4, hcw, eq_false h15, eq_false h32, eq_false h37, eq_true h45, hck, hca, hsp, eq_false h54, hnk, if_true, if_false, Bool.false_eq_true, and_self, and_true, true_and, and_false, false_and] <;> rfl, by simp only [sCut, eq_true h4, hcw, eq_false h15, eq_false h32, eq_false h37, eq_true h45, hck, hca, hsp, eq_false h54, hnk, if_true, if_false, Bool.false_eq_true, and_self, and_true, true_and, and_false, false_and] <;> rfl⟩)
            · replace h54 := c2_neF h54
              have hnk : nI k = nI (vS V w) := by rw [h54]
              refine rw_go hX [(57, .bipush (-3))] (by decide +kernel) (Ps := []) (pc' := 59) (lv' := [(0, .ref 0), (1, .int (nI w)), (2, .int (nI a)), (3, .int (nI k)), (4, .int (nI (vS V w)))]) (st' := [.int (-(nI 3))]) (σ' := σ) rfl True.intro ?_
              exact rw_iret hX (by decide +kernel) (⟨by simp only [aCut, eq_true h4, hcw, eq_false h15, eq_false h32, eq_false h37, eq_true h45, hck, hca, hsp, eq_true h54, eq_true hnk, if_true, if_false, Bool.false_eq_true, and_self, and_true, true_and, and_false, false_and] <;> rfl, by simp only [sCut, eq_true h4, hcw, eq_false h15, eq_false h32, eq_false h37, eq_true h45, hck, hca, hsp, eq_true h54, eq_true hnk, if_true, if_false, Bool.false_eq_true, and_self, and_true, true_and, and_false, false_and] <;> rfl⟩)
          · replace h45 : ¬ (xn ≤ (nI (vS V w) - xa)) := h45
            have hsp : pz (ctOK xa xn (vS V w)) = false := pz_f fun ⟨a, k, e1, e2, g1, g2⟩ => by
              rw [e1, e2] at h45; exact absurd (subr_no g2 (wf_s50 hv hw)) h45
            refine rw_go hX [(48, .bipush (-12))] (by decide +kernel) (Ps := []) (pc' := 50) (lv' := [(0, .ref 0), (1, .int (nI w)), (2, .int xa), (3, .int xn), (4, .int (nI (vS V w)))]) (st' := [.int (-(nI 12))]) (σ' := σ) rfl True.intro ?_
            exact rw_iret hX (by decide +kernel) (⟨by simp only [aCut, eq_true h4, hcw, eq_false h15, eq_false h32, eq_false h37, eq_false h45, hsp, if_true, if_false, Bool.false_eq_true, and_self, and_true, true_and, and_false, false_and] <;> rfl, by simp only [sCut, eq_true h4, hcw, eq_false h15, eq_false h32, eq_false h37, eq_false h45, hsp, if_true, if_false, Bool.false_eq_true, and_self, and_true, true_and, and_false, false_and] <;> rfl⟩)
    · replace h15 := of_decide_eq_true (zb_eqF h15)
      refine rw_go hX [(18, .bipush (-11))] (by decide +kernel) (Ps := []) (pc' := 20) (lv' := [(0, .ref 0), (1, .int (nI w)), (2, .int xa), (3, .int xn)]) (st' := [.int (-(nI 11))]) (σ' := σ) rfl True.intro ?_
      exact rw_iret hX (by decide +kernel) (⟨by simp only [aCut, eq_true h4, hcw, eq_true h15, if_true, if_false, Bool.false_eq_true, and_self, and_true, true_and, and_false, false_and] <;> rfl, by simp only [sCut, eq_true h4, hcw, eq_true h15, if_true, if_false, Bool.false_eq_true, and_self, and_true, true_and, and_false, false_and] <;> rfl⟩)
  · replace h4 := of_decide_eq_false (zb_neF h4)
    refine rw_go hX [(7, .bipush (-2))] (by decide +kernel) (Ps := []) (pc' := 9) (lv' := [(0, .ref 0), (1, .int xw), (2, .int xa), (3, .int xn)]) (st' := [.int (-(nI 2))]) (σ' := σ) rfl True.intro ?_
    exact rw_iret hX (by decide +kernel) (⟨by simp only [aCut, eq_false h4, if_true, if_false, Bool.false_eq_true, and_self, and_true, true_and, and_false, false_and] <;> rfl, by simp only [sCut, eq_false h4, if_true, if_false, Bool.false_eq_true, and_self, and_true, true_and, and_false, false_and] <;> rfl⟩)
set_option maxRecDepth 20000 in
set_option maxHeartbeats 4000000 in
theorem f_drop (l : Launch) (G : Gl) (σ : Mm) (V : Mm) (xw : Int32) (hV : vw σ 2 = V) (hv : wf V) : AMi l G 3 mX9_drop [.ref 0, .int xw] σ (fun r σ' => r = aDrop V xw ∧ σ' = sDrop 3 V σ xw) := by
  refine rw_inI 9 (by decide +kernel) rfl rfl ?_
  intro E hE hX
  subst hE
  refine rw_go hX [(0, .iload_n 1)] (by decide +kernel) (Ps := []) (pc' := 1) (lv' := [(0, .ref 0), (1, .int xw)]) (st' := [.int xw]) (σ' := σ) rfl True.intro ?_
  refine rw_callSi hX (as := [.int xw]) (rest := []) (c_X9_isWork _ _ _ (xw)) (by decide +kernel) msX9_isWork (Or.inl lk9_56) rfl (by decide) (Nat.le_of_ble_eq_true rfl) rfl ?_
  intro r1 σ1 hr
  rw [hr.1, show r1 = bz (decide (0 ≤ xw ∧ xw ≤ 4)) from hr.2]
  clear hr σ1 r1
  refine rw_if hX (tgt := 10) (cnd := .ne) (off := 6) (by decide +kernel) (by decide) (fun h4 => ?_) (fun h4 => ?_)
  · replace h4 := of_decide_eq_true (zb_neT h4)
    obtain ⟨w, hw, rfl⟩ := rng (m := 4) (by omega) h4
    have hw : w < 5 := hw
    have hcw : (nI w).toNatClampNeg = w := nI_clamp (by omega)
    refine rw_go hX [(10, .aload_n 0), (11, .iload_n 1)] (by decide +kernel) (Ps := []) (pc' := 12) (lv' := [(0, .ref 0), (1, .int (nI w))]) (st' := [.int (nI w), .ref 0]) (σ' := σ) rfl True.intro ?_
    refine rw_callVi hX (as := [.int (nI w)]) (rest := []) (c_missing _ _ _ V w hV hv hw) (by decide +kernel) mvX9_isMissing lk9_78 (ci := 8) rfl rfl rfl (by decide) (Nat.le_of_ble_eq_true rfl) rfl ?_
    intro r1 σ1 hr
    rw [hr.1, show r1 = bz (decide (vS V w = 0)) from hr.2]
    clear hr σ1 r1
    refine rw_if hX (tgt := 21) (cnd := .eq) (off := 6) (by decide +kernel) (by decide) (fun h15 => ?_) (fun h15 => ?_)
    · replace h15 := of_decide_eq_false (zb_eqT h15)
      refine rw_go hX [(21, .aload_n 0), (22, .getfield 12), (25, .iload_n 1)] (by decide +kernel) (Ps := []) (pc' := 26) (lv' := [(0, .ref 0), (1, .int (nI w))]) (st' := [.int (nI w), .ref 1]) (σ' := σ) rfl True.intro ?_
      refine rw_callVi hX (as := [.int (nI w)]) (rest := []) (c_size _ _ _ 1 (Or.inl rfl) V hV hv w hw) (by decide +kernel) mvX5_sizeOf lk9_81 (ci := 4) rfl rfl rfl (by decide) (Nat.le_of_ble_eq_true rfl) rfl ?_
      intro r1 σ1 hr
      rw [hr.1, show r1 = nI (vS V w) from hr.2]
      clear hr σ1 r1
      refine rw_go hX [(29, .istore_n 2), (30, .aload_n 0), (31, .getfield 12), (34, .iload_n 1)] (by decide +kernel) (Ps := []) (pc' := 35) (lv' := [(0, .ref 0), (1, .int (nI w)), (2, .int (nI (vS V w)))]) (st' := [.int (nI w), .ref 1]) (σ' := σ) rfl True.intro ?_
      refine rw_callVv hX (as := [.int (nI w)]) (rest := []) (c_lose_1 _ _ _ w hw) (by decide +kernel) mvX5_lose lk9_93 (ci := 4) rfl rfl rfl (by decide) (Nat.le_of_ble_eq_true rfl) rfl ?_
      intro σ1 hr
      rw [hr]
      clear hr σ1
      refine rw_go hX [(38, .iload_n 2)] (by decide +kernel) (Ps := []) (pc' := 39) (lv' := [(0, .ref 0), (1, .int (nI w)), (2, .int (nI (vS V w)))]) (st' := [.int (nI (vS V w))]) (σ' := sw σ 3 w (nI 0)) rfl True.intro ?_
      exact rw_iret hX (by decide +kernel) (⟨by simp only [aDrop, eq_true h4, hcw, eq_false h15, if_true, if_false, Bool.false_eq_true, and_self, and_true, true_and, and_false, false_and] <;> rfl, by simp only [sDrop, eq_true h4, hcw, eq_false h15, if_true, if_false, Bool.false_eq_true, and_self, and_true, true_and, and_false, false_and] <;> rfl⟩)
    · replace h15 := of_decide_eq_true (zb_eqF h15)
      refine rw_go hX [(18, .bipush (-11))] (by decide +kernel) (Ps := []) (pc' := 20) (lv' := [(0, .ref 0), (1, .int (nI w))]) (st' := [.int (-(nI 11))]) (σ' := σ) rfl True.intro ?_
      exact rw_iret hX (by decide +kernel) (⟨by simp only [aDrop, eq_true h4, hcw, eq_true h15, if_true, if_false, Bool.false_eq_true, and_self, and_true, true_and, and_false, false_and] <;> rfl, by simp only [sDrop, eq_true h4, hcw, eq_true h15, if_true, if_false, Bool.false_eq_true, and_self, and_true, true_and, and_false, false_and] <;> rfl⟩)
  · replace h4 := of_decide_eq_false (zb_neF h4)
    refine rw_go hX [(7, .bipush (-2))] (by decide +kernel) (Ps := []) (pc' := 9) (lv' := [(0, .ref 0), (1, .int xw)]) (st' := [.int (-(nI 2))]) (σ' := σ) rfl True.intro ?_
    exact rw_iret hX (by decide +kernel) (⟨by simp only [aDrop, eq_false h4, if_true, if_false, Bool.false_eq_true, and_self, and_true, true_and, and_false, false_and] <;> rfl, by simp only [sDrop, eq_false h4, if_true, if_false, Bool.false_eq_true, and_self, and_true, true_and, and_false, false_and] <;> rfl⟩)
set_option maxRecDepth 20000 in
set_option maxHeartbeats 4000000 in
theorem f_alter (l : Launch) (G : Gl) (σ : Mm) (V : Mm) (xw xq xv : Int32) (hV : vw σ 2 = V) (hv : wf V) : AMi l G 3 mX9_alter [.ref 0, .int xw, .int xq, .int xv] σ (fun r σ' => r = aAlt V xw xq xv ∧ σ' = sAlt 4 V σ xw xq xv) := by
  refine rw_inI 9 (by decide +kernel) rfl rfl ?_
  intro E hE hX
  subst hE
  refine rw_go hX [(0, .iload_n 1)] (by decide +kernel) (Ps := []) (pc' := 1) (lv' := [(0, .ref 0), (1, .int xw), (2, .int xq), (3, .int xv)]) (st' := [.int xw]) (σ' := σ) rfl True.intro ?_
  refine rw_callSi hX (as := [.int xw]) (rest := []) (c_X9_isWork _ _ _ (xw)) (by decide +kernel) msX9_isWork (Or.inl lk9_56) rfl (by decide) (Nat.le_of_ble_eq_true rfl) rfl ?_
  intro r1 σ1 hr
  rw [hr.1, show r1 = bz (decide (0 ≤ xw ∧ xw ≤ 4)) from hr.2]
  clear hr σ1 r1
  refine rw_if hX (tgt := 15) (cnd := .eq) (off := 11) (by decide +kernel) (by decide) (fun h4 => ?_) (fun h4 => ?_)
  · replace h4 := of_decide_eq_false (zb_eqT h4)
    refine rw_go hX [(15, .bipush (-2))] (by decide +kernel) (Ps := []) (pc' := 17) (lv' := [(0, .ref 0), (1, .int xw), (2, .int xq), (3, .int xv)]) (st' := [.int (-(nI 2))]) (σ' := σ) rfl True.intro ?_
    exact rw_iret hX (by decide +kernel) (⟨by simp only [aAlt, eq_false h4, if_true, if_false, Bool.false_eq_true, and_self, and_true, true_and, and_false, false_and] <;> rfl, by simp only [sAlt, eq_false h4, if_true, if_false, Bool.false_eq_true, and_self, and_true, true_and, and_false, false_and] <;> rfl⟩)
  · replace h4 := of_decide_eq_true (zb_eqF h4)
    obtain ⟨w, hw, rfl⟩ := rng (m := 4) (by omega) h4
    have hw : w < 5 := hw
    have hcw : (nI w).toNatClampNeg = w := nI_clamp (by omega)
    refine rw_go hX [(7, .iload_n 2), (8, .iconst 2)] (by decide +kernel) (Ps := []) (pc' := 9) (lv' := [(0, .ref 0), (1, .int (nI w)), (2, .int xq), (3, .int xv)]) (st' := [.int (nI 2), .int xq]) (σ' := σ) rfl True.intro ?_
    refine rw_callSi hX (as := [.int xq, .int (nI 2)]) (rest := []) (c_X9_isOneOf _ _ _ (xq) (nI 2)) (by decide +kernel) msX9_isOneOf (Or.inl lk9_97) rfl (by decide) (Nat.le_of_ble_eq_true rfl) rfl ?_
    intro r1 σ1 hr
    rw [hr.1, show r1 = bz (decide (0 ≤ xq ∧ xq < nI 2)) from hr.2]
    clear hr σ1 r1
    refine rw_if hX (tgt := 18) (cnd := .ne) (off := 6) (by decide +kernel) (by decide) (fun h12 => ?_) (fun h12 => ?_)
    · replace h12 := of_decide_eq_true (zb_neT h12)
      refine rw_go hX [(18, .iload_n 2)] (by decide +kernel) (Ps := []) (pc' := 19) (lv' := [(0, .ref 0), (1, .int (nI w)), (2, .int xq), (3, .int xv)]) (st' := [.int xq]) (σ' := σ) rfl True.intro ?_
      refine rw_if hX (tgt := 32) (cnd := .ne) (off := 13) (by decide +kernel) (by decide) (fun h19 => ?_) (fun h19 => ?_)
      · replace h19 : (xq ≠ 0) := h19
        refine rw_go hX [(32, .iload_n 3)] (by decide +kernel) (Ps := []) (pc' := 33) (lv' := [(0, .ref 0), (1, .int (nI w)), (2, .int xq), (3, .int xv)]) (st' := [.int xv]) (σ' := σ) rfl True.intro ?_
        refine rw_callSi hX (as := [.int xv]) (rest := []) (c_X9_isDay _ _ _ (xv)) (by decide +kernel) msX9_isDay (Or.inl lk9_62) rfl (by decide) (Nat.le_of_ble_eq_true rfl) rfl ?_
        intro r1 σ1 hr
        rw [hr.1, show r1 = bz (decide (0 ≤ xv ∧ xv ≤ 99)) from hr.2]
        clear hr σ1 r1
        refine rw_if hX (tgt := 42) (cnd := .ne) (off := 6) (by decide +kernel) (by decide) (fun h36 => ?_) (fun h36 => ?_)
        · replace h36 := of_decide_eq_true (zb_neT h36)
          refine rw_go hX [(42, .aload_n 0), (43, .iload_n 1)] (by decide +kernel) (Ps := []) (pc' := 44) (lv' := [(0, .ref 0), (1, .int (nI w)), (2, .int xq), (3, .int xv)]) (st' := [.int (nI w), .ref 0]) (σ' := σ) rfl True.intro ?_
          refine rw_callVi hX (as := [.int (nI w)]) (rest := []) (c_missing _ _ _ V w hV hv hw) (by decide +kernel) mvX9_isMissing lk9_78 (ci := 8) rfl rfl rfl (by decide) (Nat.le_of_ble_eq_true rfl) rfl ?_
          intro r1 σ1 hr
          rw [hr.1, show r1 = bz (decide (vS V w = 0)) from hr.2]
          clear hr σ1 r1
          refine rw_if hX (tgt := 53) (cnd := .eq) (off := 6) (by decide +kernel) (by decide) (fun h47 => ?_) (fun h47 => ?_)
          · replace h47 := of_decide_eq_false (zb_eqT h47)
            refine rw_go hX [(53, .iload_n 2)] (by decide +kernel) (Ps := []) (pc' := 54) (lv' := [(0, .ref 0), (1, .int (nI w)), (2, .int xq), (3, .int xv)]) (st' := [.int xq]) (σ' := σ) rfl True.intro ?_
            refine rw_if hX (tgt := 67) (cnd := .ne) (off := 13) (by decide +kernel) (by decide) (fun h54 => ?_) (fun h54 => ?_)
            · replace h54 : (xq ≠ 0) := h54
              refine rw_go hX [(67, .aload_n 0), (68, .getfield 12), (71, .getfield 75), (74, .astore 4), (76, .aload 4), (78, .iload_n 1), (79, .iaload)] (by decide +kernel) (Ps := [vp_in (nI w) 5]) (pc' := 80) (lv' := [(0, .ref 0), (1, .int (nI w)), (2, .int xq), (3, .int xv), (4, .ref 5)]) (st' := [.int (σ 5 (nI w).toNatClampNeg)]) (σ' := σ) rfl (vp_in_nI (by omega) (by omega)) ?_
              rw [show (σ 5 (nI w).toNatClampNeg) = V 3 w from (by rw [nI_clamp (by omega), (vw_at hV 3 (by omega))])]
              refine rw_go hX [(80, .istore 5), (82, .aload 4), (84, .iload_n 1), (85, .iload_n 3), (86, .iastore)] (by decide +kernel) (Ps := [vp_in (nI w) 5]) (pc' := 87) (lv' := [(0, .ref 0), (1, .int (nI w)), (2, .int xq), (3, .int xv), (4, .ref 5), (5, .int (V 3 w))]) (st' := []) (σ' := sw σ 5 (nI w).toNatClampNeg xv) rfl (vp_in_nI (by omega) (by omega)) ?_
              rw [show (sw σ 5 (nI w).toNatClampNeg xv) = sw σ 5 w xv from (by rw [nI_clamp (by omega)])]
              refine rw_go hX [(87, .iload 5)] (by decide +kernel) (Ps := []) (pc' := 89) (lv' := [(0, .ref 0), (1, .int (nI w)), (2, .int xq), (3, .int xv), (4, .ref 5), (5, .int (V 3 w))]) (st' := [.int (V 3 w)]) (σ' := sw σ 5 w xv) rfl True.intro ?_
              exact rw_iret hX (by decide +kernel) (⟨by simp only [aAlt, eq_true h4, hcw, eq_true h12, eq_false h19, eq_true h36, eq_false h47, eq_false h54, if_true, if_false, Bool.false_eq_true, and_self, and_true, true_and, and_false, false_and] <;> rfl, by simp only [sAlt, eq_true h4, hcw, eq_true h12, eq_false h19, eq_true h36, eq_false h47, eq_false h54, if_true, if_false, Bool.false_eq_true, and_self, and_true, true_and, and_false, false_and] <;> rfl⟩)
            · replace h54 : xq = 0 := Classical.not_not.mp h54
              exact absurd h54 h19
          · replace h47 := of_decide_eq_true (zb_eqF h47)
            refine rw_go hX [(50, .bipush (-11))] (by decide +kernel) (Ps := []) (pc' := 52) (lv' := [(0, .ref 0), (1, .int (nI w)), (2, .int xq), (3, .int xv)]) (st' := [.int (-(nI 11))]) (σ' := σ) rfl True.intro ?_
            exact rw_iret hX (by decide +kernel) (⟨by simp only [aAlt, eq_true h4, hcw, eq_true h12, eq_false h19, eq_true h36, eq_true h47, if_true, if_false, Bool.false_eq_true, and_self, and_true, true_and, and_false, false_and] <;> rfl, by simp only [sAlt, eq_true h4, hcw, eq_true h12, eq_false h19, eq_true h36, eq_true h47, if_true, if_false, Bool.false_eq_true, and_self, and_true, true_and, and_false, false_and] <;> rfl⟩)
        · replace h36 := of_decide_eq_false (zb_neF h36)
          refine rw_go hX [(39, .bipush (-2))] (by decide +kernel) (Ps := []) (pc' := 41) (lv' := [(0, .ref 0), (1, .int (nI w)), (2, .int xq), (3, .int xv)]) (st' := [.int (-(nI 2))]) (σ' := σ) rfl True.intro ?_
          exact rw_iret hX (by decide +kernel) (⟨by simp only [aAlt, eq_true h4, hcw, eq_true h12, eq_false h19, eq_false h36, if_true, if_false, Bool.false_eq_true, and_self, and_true, true_and, and_false, false_and] <;> rfl, by simp only [sAlt, eq_true h4, hcw, eq_true h12, eq_false h19, eq_false h36, if_true, if_false, Bool.false_eq_true, and_self, and_true, true_and, and_false, false_and] <;> rfl⟩)
      · replace h19 : xq = 0 := Classical.not_not.mp h19
        refine rw_go hX [(22, .iload_n 3)] (by decide +kernel) (Ps := []) (pc' := 23) (lv' := [(0, .ref 0), (1, .int (nI w)), (2, .int xq), (3, .int xv)]) (st' := [.int xv]) (σ' := σ) rfl True.intro ?_
        refine rw_callSi hX (as := [.int xv]) (rest := []) (c_X9_isKind _ _ _ (xv)) (by decide +kernel) msX9_isKind (Or.inl lk9_59) rfl (by decide) (Nat.le_of_ble_eq_true rfl) rfl ?_
        intro r1 σ1 hr
        rw [hr.1, show r1 = bz (decide (0 ≤ xv ∧ xv ≤ 5)) from hr.2]
        clear hr σ1 r1
        refine rw_if hX (tgt := 42) (cnd := .ne) (off := 16) (by decide +kernel) (by decide) (fun h26 => ?_) (fun h26 => ?_)
        · replace h26 := of_decide_eq_true (zb_neT h26)
          refine rw_go hX [(42, .aload_n 0), (43, .iload_n 1)] (by decide +kernel) (Ps := []) (pc' := 44) (lv' := [(0, .ref 0), (1, .int (nI w)), (2, .int xq), (3, .int xv)]) (st' := [.int (nI w), .ref 0]) (σ' := σ) rfl True.intro ?_
          refine rw_callVi hX (as := [.int (nI w)]) (rest := []) (c_missing _ _ _ V w hV hv hw) (by decide +kernel) mvX9_isMissing lk9_78 (ci := 8) rfl rfl rfl (by decide) (Nat.le_of_ble_eq_true rfl) rfl ?_
          intro r1 σ1 hr
          rw [hr.1, show r1 = bz (decide (vS V w = 0)) from hr.2]
          clear hr σ1 r1
          refine rw_if hX (tgt := 53) (cnd := .eq) (off := 6) (by decide +kernel) (by decide) (fun h47 => ?_) (fun h47 => ?_)
          · replace h47 := of_decide_eq_false (zb_eqT h47)
            refine rw_go hX [(53, .iload_n 2)] (by decide +kernel) (Ps := []) (pc' := 54) (lv' := [(0, .ref 0), (1, .int (nI w)), (2, .int xq), (3, .int xv)]) (st' := [.int xq]) (σ' := σ) rfl True.intro ?_
            refine rw_if hX (tgt := 67) (cnd := .ne) (off := 13) (by decide +kernel) (by decide) (fun h54 => ?_) (fun h54 => ?_)
            · replace h54 : (xq ≠ 0) := h54
              exact absurd h19 h54
            · replace h54 : xq = 0 := Classical.not_not.mp h54
              refine rw_go hX [(57, .aload_n 0), (58, .getfield 12), (61, .getfield 72), (64, .goto 10), (74, .astore 4), (76, .aload 4), (78, .iload_n 1), (79, .iaload)] (by decide +kernel) (Ps := [vp_in (nI w) 5]) (pc' := 80) (lv' := [(0, .ref 0), (1, .int (nI w)), (2, .int xq), (3, .int xv), (4, .ref 4)]) (st' := [.int (σ 4 (nI w).toNatClampNeg)]) (σ' := σ) rfl (vp_in_nI (by omega) (by omega)) ?_
              rw [show (σ 4 (nI w).toNatClampNeg) = V 2 w from (by rw [nI_clamp (by omega), (vw_at hV 2 (by omega))])]
              refine rw_go hX [(80, .istore 5), (82, .aload 4), (84, .iload_n 1), (85, .iload_n 3), (86, .iastore)] (by decide +kernel) (Ps := [vp_in (nI w) 5]) (pc' := 87) (lv' := [(0, .ref 0), (1, .int (nI w)), (2, .int xq), (3, .int xv), (4, .ref 4), (5, .int (V 2 w))]) (st' := []) (σ' := sw σ 4 (nI w).toNatClampNeg xv) rfl (vp_in_nI (by omega) (by omega)) ?_
              rw [show (sw σ 4 (nI w).toNatClampNeg xv) = sw σ 4 w xv from (by rw [nI_clamp (by omega)])]
              refine rw_go hX [(87, .iload 5)] (by decide +kernel) (Ps := []) (pc' := 89) (lv' := [(0, .ref 0), (1, .int (nI w)), (2, .int xq), (3, .int xv), (4, .ref 4), (5, .int (V 2 w))]) (st' := [.int (V 2 w)]) (σ' := sw σ 4 w xv) rfl True.intro ?_
              exact rw_iret hX (by decide +kernel) (⟨by simp only [aAlt, eq_true h4, hcw, eq_true h12, eq_true h19, eq_true h26, eq_false h47, eq_true h54, if_true, if_false, Bool.false_eq_true, and_self, and_true, true_and, and_false, false_and] <;> rfl, by simp only [sAlt, eq_true h4, hcw, eq_true h12, eq_true h19, eq_true h26, eq_false h47, eq_true h54, if_true, if_false, Bool.false_eq_true, and_self, and_true, true_and, and_false, false_and] <;> rfl⟩)
          · replace h47 := of_decide_eq_true (zb_eqF h47)
            refine rw_go hX [(50, .bipush (-11))] (by decide +kernel) (Ps := []) (pc' := 52) (lv' := [(0, .ref 0), (1, .int (nI w)), (2, .int xq), (3, .int xv)]) (st' := [.int (-(nI 11))]) (σ' := σ) rfl True.intro ?_
            exact rw_iret hX (by decide +kernel) (⟨by simp only [aAlt, eq_true h4, hcw, eq_true h12, eq_true h19, eq_true h26, eq_true h47, if_true, if_false, Bool.false_eq_true, and_self, and_true, true_and, and_false, false_and] <;> rfl, by simp only [sAlt, eq_true h4, hcw, eq_true h12, eq_true h19, eq_true h26, eq_true h47, if_true, if_false, Bool.false_eq_true, and_self, and_true, true_and, and_false, false_and] <;> rfl⟩)
        · replace h26 := of_decide_eq_false (zb_neF h26)
          refine rw_go hX [(29, .goto 10), (39, .bipush (-2))] (by decide +kernel) (Ps := []) (pc' := 41) (lv' := [(0, .ref 0), (1, .int (nI w)), (2, .int xq), (3, .int xv)]) (st' := [.int (-(nI 2))]) (σ' := σ) rfl True.intro ?_
          exact rw_iret hX (by decide +kernel) (⟨by simp only [aAlt, eq_true h4, hcw, eq_true h12, eq_true h19, eq_false h26, if_true, if_false, Bool.false_eq_true, and_self, and_true, true_and, and_false, false_and] <;> rfl, by simp only [sAlt, eq_true h4, hcw, eq_true h12, eq_true h19, eq_false h26, if_true, if_false, Bool.false_eq_true, and_self, and_true, true_and, and_false, false_and] <;> rfl⟩)
    · replace h12 := of_decide_eq_false (zb_neF h12)
      refine rw_go hX [(15, .bipush (-2))] (by decide +kernel) (Ps := []) (pc' := 17) (lv' := [(0, .ref 0), (1, .int (nI w)), (2, .int xq), (3, .int xv)]) (st' := [.int (-(nI 2))]) (σ' := σ) rfl True.intro ?_
      exact rw_iret hX (by decide +kernel) (⟨by simp only [aAlt, eq_true h4, hcw, eq_false h12, if_true, if_false, Bool.false_eq_true, and_self, and_true, true_and, and_false, false_and] <;> rfl, by simp only [sAlt, eq_true h4, hcw, eq_false h12, if_true, if_false, Bool.false_eq_true, and_self, and_true, true_and, and_false, false_and] <;> rfl⟩)
set_option maxRecDepth 20000 in
set_option maxHeartbeats 4000000 in
theorem f_raw (l : Launch) (G : Gl) (σ : Mm) (V : Mm) (xw xi : Int32) (hV : vw σ 2 = V) (hv : wf V) : AMi l G 3 mX9_raw [.ref 0, .int xw, .int xi] σ (fun r σ' => r = aRaw V xw xi ∧ σ' = σ) := by
  refine rw_inI 9 (by decide +kernel) rfl rfl ?_
  intro E hE hX
  subst hE
  refine rw_go hX [(0, .iload_n 1)] (by decide +kernel) (Ps := []) (pc' := 1) (lv' := [(0, .ref 0), (1, .int xw), (2, .int xi)]) (st' := [.int xw]) (σ' := σ) rfl True.intro ?_
  refine rw_callSi hX (as := [.int xw]) (rest := []) (c_X9_isWork _ _ _ (xw)) (by decide +kernel) msX9_isWork (Or.inl lk9_56) rfl (by decide) (Nat.le_of_ble_eq_true rfl) rfl ?_
  intro r1 σ1 hr
  rw [hr.1, show r1 = bz (decide (0 ≤ xw ∧ xw ≤ 4)) from hr.2]
  clear hr σ1 r1
  refine rw_if hX (tgt := 10) (cnd := .ne) (off := 6) (by decide +kernel) (by decide) (fun h4 => ?_) (fun h4 => ?_)
  · replace h4 := of_decide_eq_true (zb_neT h4)
    obtain ⟨w, hw, rfl⟩ := rng (m := 4) (by omega) h4
    have hw : w < 5 := hw
    have hcw : (nI w).toNatClampNeg = w := nI_clamp (by omega)
    refine rw_go hX [(10, .aload_n 0), (11, .iload_n 1)] (by decide +kernel) (Ps := []) (pc' := 12) (lv' := [(0, .ref 0), (1, .int (nI w)), (2, .int xi)]) (st' := [.int (nI w), .ref 0]) (σ' := σ) rfl True.intro ?_
    refine rw_callVi hX (as := [.int (nI w)]) (rest := []) (c_missing _ _ _ V w hV hv hw) (by decide +kernel) mvX9_isMissing lk9_78 (ci := 8) rfl rfl rfl (by decide) (Nat.le_of_ble_eq_true rfl) rfl ?_
    intro r1 σ1 hr
    rw [hr.1, show r1 = bz (decide (vS V w = 0)) from hr.2]
    clear hr σ1 r1
    refine rw_if hX (tgt := 21) (cnd := .eq) (off := 6) (by decide +kernel) (by decide) (fun h15 => ?_) (fun h15 => ?_)
    · replace h15 := of_decide_eq_false (zb_eqT h15)
      refine rw_go hX [(21, .iload_n 2), (22, .iconst (-1))] (by decide +kernel) (Ps := []) (pc' := 23) (lv' := [(0, .ref 0), (1, .int (nI w)), (2, .int xi)]) (st' := [.int (-(nI 1)), .int xi]) (σ' := σ) rfl True.intro ?_
      refine rw_icmp hX (tgt := 35) (cnd := .ne) (off := 12) (by decide +kernel) (by decide) (fun h23 => ?_) (fun h23 => ?_)
      · replace h23 : (xi ≠ (-(nI 1))) := h23
        refine rw_go hX [(35, .iload_n 2)] (by decide +kernel) (Ps := []) (pc' := 36) (lv' := [(0, .ref 0), (1, .int (nI w)), (2, .int xi)]) (st' := [.int xi]) (σ' := σ) rfl True.intro ?_
        refine rw_if hX (tgt := 51) (cnd := .lt) (off := 15) (by decide +kernel) (by decide) (fun h36 => ?_) (fun h36 => ?_)
        · replace h36 : (xi < 0) := h36
          refine rw_go hX [(51, .bipush (-12))] (by decide +kernel) (Ps := []) (pc' := 53) (lv' := [(0, .ref 0), (1, .int (nI w)), (2, .int xi)]) (st' := [.int (-(nI 12))]) (σ' := σ) rfl True.intro ?_
          exact rw_iret hX (by decide +kernel) (⟨by simp only [aRaw, eq_true h4, hcw, eq_false h15, eq_false h23, eq_true h36, if_true, if_false, Bool.false_eq_true, and_self, and_true, true_and, and_false, false_and], rfl⟩)
        · replace h36 : ¬ (xi < 0) := h36
          refine rw_go hX [(39, .iload_n 2), (40, .aload_n 0), (41, .getfield 12), (44, .iload_n 1)] (by decide +kernel) (Ps := []) (pc' := 45) (lv' := [(0, .ref 0), (1, .int (nI w)), (2, .int xi)]) (st' := [.int (nI w), .ref 1, .int xi]) (σ' := σ) rfl True.intro ?_
          refine rw_callVi hX (as := [.int (nI w)]) (rest := [.int xi]) (c_size _ _ _ 1 (Or.inl rfl) V hV hv w hw) (by decide +kernel) mvX5_sizeOf lk9_81 (ci := 4) rfl rfl rfl (by decide) (Nat.le_of_ble_eq_true rfl) rfl ?_
          intro r1 σ1 hr
          rw [hr.1, show r1 = nI (vS V w) from hr.2]
          clear hr σ1 r1
          refine rw_icmp hX (tgt := 54) (cnd := .lt) (off := 6) (by decide +kernel) (by decide) (fun h48 => ?_) (fun h48 => ?_)
          · replace h48 : (xi < nI (vS V w)) := h48
            obtain ⟨i, hi, rfl⟩ := rngO (m := vS V w) (by have := wf_s50 hv hw; omega) ⟨Int32.not_lt.mp h36, h48⟩
            have hs5 := wf_s50 hv hw
            have hci : (nI i).toNatClampNeg = i := nI_clamp (by omega)
            refine rw_go hX [(54, .aload_n 0), (55, .getfield 12), (58, .iload_n 1), (59, .iload_n 2)] (by decide +kernel) (Ps := []) (pc' := 60) (lv' := [(0, .ref 0), (1, .int (nI w)), (2, .int (nI i))]) (st' := [.int (nI i), .int (nI w), .ref 1]) (σ' := σ) rfl True.intro ?_
            refine rw_callVi hX (as := [.int (nI w), .int (nI i)]) (rest := []) (c_byteAt _ _ _ 1 (Or.inl rfl) V hV hv w i hw hi) (by decide +kernel) mvX5_byteAt lk9_101 (ci := 4) rfl rfl rfl (by decide) (Nat.le_of_ble_eq_true rfl) rfl ?_
            intro r1 σ1 hr
            rw [hr.1, show r1 = V 0 (50 * w + i) from hr.2]
            clear hr σ1 r1
            exact rw_iret hX (by decide +kernel) (⟨by simp only [aRaw, eq_true h4, hcw, eq_false h15, eq_false h23, eq_false h36, eq_true h48, hci, if_true, if_false, Bool.false_eq_true, and_self, and_true, true_and, and_false, false_and], rfl⟩)
          · replace h48 : ¬ (xi < nI (vS V w)) := h48
            refine rw_go hX [(51, .bipush (-12))] (by decide +kernel) (Ps := []) (pc' := 53) (lv' := [(0, .ref 0), (1, .int (nI w)), (2, .int xi)]) (st' := [.int (-(nI 12))]) (σ' := σ) rfl True.intro ?_
            exact rw_iret hX (by decide +kernel) (⟨by simp only [aRaw, eq_true h4, hcw, eq_false h15, eq_false h23, eq_false h36, eq_false h48, if_true, if_false, Bool.false_eq_true, and_self, and_true, true_and, and_false, false_and], rfl⟩)
      · replace h23 : xi = (-(nI 1)) := Classical.not_not.mp h23
        refine rw_go hX [(26, .aload_n 0), (27, .getfield 12), (30, .iload_n 1)] (by decide +kernel) (Ps := []) (pc' := 31) (lv' := [(0, .ref 0), (1, .int (nI w)), (2, .int xi)]) (st' := [.int (nI w), .ref 1]) (σ' := σ) rfl True.intro ?_
        refine rw_callVi hX (as := [.int (nI w)]) (rest := []) (c_size _ _ _ 1 (Or.inl rfl) V hV hv w hw) (by decide +kernel) mvX5_sizeOf lk9_81 (ci := 4) rfl rfl rfl (by decide) (Nat.le_of_ble_eq_true rfl) rfl ?_
        intro r1 σ1 hr
        rw [hr.1, show r1 = nI (vS V w) from hr.2]
        clear hr σ1 r1
        exact rw_iret hX (by decide +kernel) (⟨by simp only [aRaw, eq_true h4, hcw, eq_false h15, eq_true h23, if_true, if_false, Bool.false_eq_true, and_self, and_true, true_and, and_false, false_and], rfl⟩)
    · replace h15 := of_decide_eq_true (zb_eqF h15)
      refine rw_go hX [(18, .bipush (-11))] (by decide +kernel) (Ps := []) (pc' := 20) (lv' := [(0, .ref 0), (1, .int (nI w)), (2, .int xi)]) (st' := [.int (-(nI 11))]) (σ' := σ) rfl True.intro ?_
      exact rw_iret hX (by decide +kernel) (⟨by simp only [aRaw, eq_true h4, hcw, eq_true h15, if_true, if_false, Bool.false_eq_true, and_self, and_true, true_and, and_false, false_and], rfl⟩)
  · replace h4 := of_decide_eq_false (zb_neF h4)
    refine rw_go hX [(7, .bipush (-2))] (by decide +kernel) (Ps := []) (pc' := 9) (lv' := [(0, .ref 0), (1, .int xw), (2, .int xi)]) (st' := [.int (-(nI 2))]) (σ' := σ) rfl True.intro ?_
    exact rw_iret hX (by decide +kernel) (⟨by simp only [aRaw, eq_false h4, if_true, if_false, Bool.false_eq_true, and_self, and_true, true_and, and_false, false_and], rfl⟩)
set_option maxRecDepth 20000 in
set_option maxHeartbeats 4000000 in
theorem f_letter (l : Launch) (G : Gl) (σ : Mm) (V : Mm) (xw xi xq : Int32) (hV : vw σ 2 = V) (hv : wf V) : AMi l G 4 mX9_letter [.ref 0, .int xw, .int xi, .int xq] σ (fun r σ' => r = aLetter V xw xi xq ∧ XQ σ σ') := by
  refine rw_inI 9 (by decide +kernel) rfl rfl ?_
  intro E hE hX
  subst hE
  refine rw_go hX [(0, .iload_n 1)] (by decide +kernel) (Ps := []) (pc' := 1) (lv' := [(0, .ref 0), (1, .int xw), (2, .int xi), (3, .int xq)]) (st' := [.int xw]) (σ' := σ) rfl True.intro ?_
  refine rw_callSi hX (as := [.int xw]) (rest := []) (c_X9_isWork _ _ _ (xw)) (by decide +kernel) msX9_isWork (Or.inl lk9_56) rfl (by decide) (Nat.le_of_ble_eq_true rfl) rfl ?_
  intro r1 σ1 hr
  rw [hr.1, show r1 = bz (decide (0 ≤ xw ∧ xw ≤ 4)) from hr.2]
  clear hr σ1 r1
  refine rw_if hX (tgt := 15) (cnd := .eq) (off := 11) (by decide +kernel) (by decide) (fun h4 => ?_) (fun h4 => ?_)
  · replace h4 := of_decide_eq_false (zb_eqT h4)
    refine rw_go hX [(15, .bipush (-2))] (by decide +kernel) (Ps := []) (pc' := 17) (lv' := [(0, .ref 0), (1, .int xw), (2, .int xi), (3, .int xq)]) (st' := [.int (-(nI 2))]) (σ' := σ) rfl True.intro ?_
    exact rw_iret hX (by decide +kernel) (⟨by simp only [aLetter, eq_false h4, if_true, if_false, Bool.false_eq_true, and_self, and_true, true_and, and_false, false_and], XQ_rfl _⟩)
  · replace h4 := of_decide_eq_true (zb_eqF h4)
    obtain ⟨w, hw, rfl⟩ := rng (m := 4) (by omega) h4
    have hw : w < 5 := hw
    have hcw : (nI w).toNatClampNeg = w := nI_clamp (by omega)
    refine rw_go hX [(7, .iload_n 3), (8, .iconst 2)] (by decide +kernel) (Ps := []) (pc' := 9) (lv' := [(0, .ref 0), (1, .int (nI w)), (2, .int xi), (3, .int xq)]) (st' := [.int (nI 2), .int xq]) (σ' := σ) rfl True.intro ?_
    refine rw_callSi hX (as := [.int xq, .int (nI 2)]) (rest := []) (c_X9_isOneOf _ _ _ (xq) (nI 2)) (by decide +kernel) msX9_isOneOf (Or.inl lk9_97) rfl (by decide) (Nat.le_of_ble_eq_true rfl) rfl ?_
    intro r1 σ1 hr
    rw [hr.1, show r1 = bz (decide (0 ≤ xq ∧ xq < nI 2)) from hr.2]
    clear hr σ1 r1
    refine rw_if hX (tgt := 18) (cnd := .ne) (off := 6) (by decide +kernel) (by decide) (fun h12 => ?_) (fun h12 => ?_)
    · replace h12 := of_decide_eq_true (zb_neT h12)
      refine rw_go hX [(18, .aload_n 0), (19, .iload_n 1)] (by decide +kernel) (Ps := []) (pc' := 20) (lv' := [(0, .ref 0), (1, .int (nI w)), (2, .int xi), (3, .int xq)]) (st' := [.int (nI w), .ref 0]) (σ' := σ) rfl True.intro ?_
      refine rw_callVi hX (as := [.int (nI w)]) (rest := []) (c_missing _ _ _ V w hV hv hw) (by decide +kernel) mvX9_isMissing lk9_78 (ci := 8) rfl rfl rfl (by decide) (Nat.le_of_ble_eq_true rfl) rfl ?_
      intro r1 σ1 hr
      rw [hr.1, show r1 = bz (decide (vS V w = 0)) from hr.2]
      clear hr σ1 r1
      refine rw_if hX (tgt := 29) (cnd := .eq) (off := 6) (by decide +kernel) (by decide) (fun h23 => ?_) (fun h23 => ?_)
      · replace h23 := of_decide_eq_false (zb_eqT h23)
        refine rw_go hX [(29, .aload_n 0), (30, .getfield 25), (33, .getfield 105), (36, .astore 4), (38, .aload 4), (40, .aload_n 0), (41, .getfield 12), (44, .iload_n 1)] (by decide +kernel) (Ps := []) (pc' := 45) (lv' := [(0, .ref 0), (1, .int (nI w)), (2, .int xi), (3, .int xq), (4, .ref 23)]) (st' := [.int (nI w), .ref 1, .ref 23]) (σ' := σ) rfl True.intro ?_
        refine rw_callVv hX (as := [.ref 1, .int (nI w)]) (rest := []) (c_readLetters_1 _ _ _ V w hV hv hw) (by decide +kernel) mvX3_readLetters lk9_109 (ci := 2) rfl rfl rfl (by decide) (Nat.le_of_ble_eq_true rfl) rfl ?_
        intro σ1 hr
        rw [hr]
        clear hr σ1
        have hR := RLe_mk (rt := 26) (rp := 27) (rn := 24) (V := V) (w := w) σ (by decide) (by decide) (by decide) hv hw
        have hL5 := lC_50 hv hw
        refine rw_go hX [(48, .iload_n 2), (49, .iconst (-1))] (by decide +kernel) (Ps := []) (pc' := 50) (lv' := [(0, .ref 0), (1, .int (nI w)), (2, .int xi), (3, .int xq), (4, .ref 23)]) (st' := [.int (-(nI 1)), .int xi]) (σ' := rdL 26 27 24 V w σ) rfl True.intro ?_
        refine rw_icmp hX (tgt := 60) (cnd := .ne) (off := 10) (by decide +kernel) (by decide) (fun h50 => ?_) (fun h50 => ?_)
        · replace h50 : (xi ≠ (-(nI 1))) := h50
          refine rw_go hX [(60, .iload_n 2)] (by decide +kernel) (Ps := []) (pc' := 61) (lv' := [(0, .ref 0), (1, .int (nI w)), (2, .int xi), (3, .int xq), (4, .ref 23)]) (st' := [.int xi]) (σ' := rdL 26 27 24 V w σ) rfl True.intro ?_
          refine rw_if hX (tgt := 74) (cnd := .lt) (off := 13) (by decide +kernel) (by decide) (fun h61 => ?_) (fun h61 => ?_)
          · replace h61 : (xi < 0) := h61
            refine rw_go hX [(74, .bipush (-12))] (by decide +kernel) (Ps := []) (pc' := 76) (lv' := [(0, .ref 0), (1, .int (nI w)), (2, .int xi), (3, .int xq), (4, .ref 23)]) (st' := [.int (-(nI 12))]) (σ' := rdL 26 27 24 V w σ) rfl True.intro ?_
            exact rw_iret hX (by decide +kernel) (⟨by simp only [aLetter, eq_true h4, hcw, eq_true h12, eq_false h23, eq_false h50, eq_true h61, if_true, if_false, Bool.false_eq_true, and_self, and_true, true_and, and_false, false_and], fun k hk => rdL_n _ (by omega) (by omega) (by omega)⟩)
          · replace h61 : ¬ (xi < 0) := h61
            refine rw_go hX [(64, .iload_n 2), (65, .aload 4), (67, .iload_n 1)] (by decide +kernel) (Ps := []) (pc' := 68) (lv' := [(0, .ref 0), (1, .int (nI w)), (2, .int xi), (3, .int xq), (4, .ref 23)]) (st' := [.int (nI w), .ref 23, .int xi]) (σ' := rdL 26 27 24 V w σ) rfl True.intro ?_
            refine rw_callVi hX (as := [.int (nI w)]) (rest := [.int xi]) (c_letterCount _ _ _ w hw) (by decide +kernel) mvX3_letterCount lk9_115 (ci := 2) rfl rfl rfl (by decide) (Nat.le_of_ble_eq_true rfl) rfl ?_
            intro r1 σ1 hr
            rw [hr.1, show r1 = nI (lC V w) from hr.2.trans hR.1]
            clear hr σ1 r1
            refine rw_icmp hX (tgt := 77) (cnd := .lt) (off := 6) (by decide +kernel) (by decide) (fun h71 => ?_) (fun h71 => ?_)
            · replace h71 : (xi < nI (lC V w)) := h71
              obtain ⟨i, hi, rfl⟩ := rngO (m := lC V w) (by omega) ⟨Int32.not_lt.mp h61, h71⟩
              have hci : (nI i).toNatClampNeg = i := nI_clamp (by omega)
              refine rw_go hX [(77, .iload_n 3)] (by decide +kernel) (Ps := []) (pc' := 78) (lv' := [(0, .ref 0), (1, .int (nI w)), (2, .int (nI i)), (3, .int xq), (4, .ref 23)]) (st' := [.int xq]) (σ' := rdL 26 27 24 V w σ) rfl True.intro ?_
              refine rw_if hX (tgt := 91) (cnd := .ne) (off := 13) (by decide +kernel) (by decide) (fun h78 => ?_) (fun h78 => ?_)
              · replace h78 : (xq ≠ 0) := h78
                refine rw_go hX [(91, .aload 4), (93, .iload_n 1), (94, .iload_n 2)] (by decide +kernel) (Ps := []) (pc' := 95) (lv' := [(0, .ref 0), (1, .int (nI w)), (2, .int (nI i)), (3, .int xq), (4, .ref 23)]) (st' := [.int (nI i), .int (nI w), .ref 23]) (σ' := rdL 26 27 24 V w σ) rfl True.intro ?_
                refine rw_callVi hX (as := [.int (nI w), .int (nI i)]) (rest := []) (c_placeAt _ _ _ w i hw (by omega)) (by decide +kernel) mvX3_placeAt lk9_121 (ci := 2) rfl rfl rfl (by decide) (Nat.le_of_ble_eq_true rfl) rfl ?_
                intro r1 σ1 hr
                rw [hr.1, show r1 = nI (PL V w i) from hr.2.trans (hR.2 i hi).2]
                clear hr σ1 r1
                exact rw_iret hX (by decide +kernel) (⟨by simp only [aLetter, eq_true h4, hcw, eq_true h12, eq_false h23, eq_false h50, eq_false h61, eq_true h71, hci, eq_false h78, if_true, if_false, Bool.false_eq_true, and_self, and_true, true_and, and_false, false_and], fun k hk => rdL_n _ (by omega) (by omega) (by omega)⟩)
              · replace h78 : xq = 0 := Classical.not_not.mp h78
                refine rw_go hX [(81, .aload 4), (83, .iload_n 1), (84, .iload_n 2)] (by decide +kernel) (Ps := []) (pc' := 85) (lv' := [(0, .ref 0), (1, .int (nI w)), (2, .int (nI i)), (3, .int xq), (4, .ref 23)]) (st' := [.int (nI i), .int (nI w), .ref 23]) (σ' := rdL 26 27 24 V w σ) rfl True.intro ?_
                refine rw_callVi hX (as := [.int (nI w), .int (nI i)]) (rest := []) (c_tellAt _ _ _ w i hw (by omega)) (by decide +kernel) mvX3_tellAt lk9_118 (ci := 2) rfl rfl rfl (by decide) (Nat.le_of_ble_eq_true rfl) rfl ?_
                intro r1 σ1 hr
                rw [hr.1, show r1 = LT V (50 * w + i) from hr.2.trans (hR.2 i hi).1]
                clear hr σ1 r1
                refine rw_go hX [(88, .goto 10)] (by decide +kernel) (Ps := []) (pc' := 98) (lv' := [(0, .ref 0), (1, .int (nI w)), (2, .int (nI i)), (3, .int xq), (4, .ref 23)]) (st' := [.int (LT V (50 * w + i))]) (σ' := rdL 26 27 24 V w σ) rfl True.intro ?_
                exact rw_iret hX (by decide +kernel) (⟨by simp only [aLetter, eq_true h4, hcw, eq_true h12, eq_false h23, eq_false h50, eq_false h61, eq_true h71, hci, eq_true h78, if_true, if_false, Bool.false_eq_true, and_self, and_true, true_and, and_false, false_and], fun k hk => rdL_n _ (by omega) (by omega) (by omega)⟩)
            · replace h71 : ¬ (xi < nI (lC V w)) := h71
              refine rw_go hX [(74, .bipush (-12))] (by decide +kernel) (Ps := []) (pc' := 76) (lv' := [(0, .ref 0), (1, .int (nI w)), (2, .int xi), (3, .int xq), (4, .ref 23)]) (st' := [.int (-(nI 12))]) (σ' := rdL 26 27 24 V w σ) rfl True.intro ?_
              exact rw_iret hX (by decide +kernel) (⟨by simp only [aLetter, eq_true h4, hcw, eq_true h12, eq_false h23, eq_false h50, eq_false h61, eq_false h71, if_true, if_false, Bool.false_eq_true, and_self, and_true, true_and, and_false, false_and], fun k hk => rdL_n _ (by omega) (by omega) (by omega)⟩)
        · replace h50 : xi = (-(nI 1)) := Classical.not_not.mp h50
          refine rw_go hX [(53, .aload 4), (55, .iload_n 1)] (by decide +kernel) (Ps := []) (pc' := 56) (lv' := [(0, .ref 0), (1, .int (nI w)), (2, .int xi), (3, .int xq), (4, .ref 23)]) (st' := [.int (nI w), .ref 23]) (σ' := rdL 26 27 24 V w σ) rfl True.intro ?_
          refine rw_callVi hX (as := [.int (nI w)]) (rest := []) (c_letterCount _ _ _ w hw) (by decide +kernel) mvX3_letterCount lk9_115 (ci := 2) rfl rfl rfl (by decide) (Nat.le_of_ble_eq_true rfl) rfl ?_
          intro r1 σ1 hr
          rw [hr.1, show r1 = nI (lC V w) from hr.2.trans hR.1]
          clear hr σ1 r1
          exact rw_iret hX (by decide +kernel) (⟨by simp only [aLetter, eq_true h4, hcw, eq_true h12, eq_false h23, eq_true h50, if_true, if_false, Bool.false_eq_true, and_self, and_true, true_and, and_false, false_and], fun k hk => rdL_n _ (by omega) (by omega) (by omega)⟩)
      · replace h23 := of_decide_eq_true (zb_eqF h23)
        refine rw_go hX [(26, .bipush (-11))] (by decide +kernel) (Ps := []) (pc' := 28) (lv' := [(0, .ref 0), (1, .int (nI w)), (2, .int xi), (3, .int xq)]) (st' := [.int (-(nI 11))]) (σ' := σ) rfl True.intro ?_
        exact rw_iret hX (by decide +kernel) (⟨by simp only [aLetter, eq_true h4, hcw, eq_true h12, eq_true h23, if_true, if_false, Bool.false_eq_true, and_self, and_true, true_and, and_false, false_and], XQ_rfl _⟩)
    · replace h12 := of_decide_eq_false (zb_neF h12)
      refine rw_go hX [(15, .bipush (-2))] (by decide +kernel) (Ps := []) (pc' := 17) (lv' := [(0, .ref 0), (1, .int (nI w)), (2, .int xi), (3, .int xq)]) (st' := [.int (-(nI 2))]) (σ' := σ) rfl True.intro ?_
      exact rw_iret hX (by decide +kernel) (⟨by simp only [aLetter, eq_true h4, hcw, eq_false h12, if_true, if_false, Bool.false_eq_true, and_self, and_true, true_and, and_false, false_and], XQ_rfl _⟩)
theorem tk_e {V σ : Mm} {w : Nat} (h : RLe 26 27 24 V w σ) : cB (upU V (σ 26) (PL V w) w) (lC V w) = tkC V w := cB_congr fun i hi => by
  unfold upU
  rw [(h.2 i hi).1]
set_option maxRecDepth 20000 in
set_option maxHeartbeats 4000000 in
theorem f_taken (l : Launch) (G : Gl) (σ : Mm) (V : Mm) (xw xk : Int32) (hV : vw σ 2 = V) (hv : wf V) : AMi l G 4 mX9_taken [.ref 0, .int xw, .int xk] σ (fun r σ' => r = aTaken V xw xk ∧ XQ σ σ') := by
  refine rw_inI 9 (by decide +kernel) rfl rfl ?_
  intro E hE hX
  subst hE
  refine rw_go hX [(0, .iload_n 1)] (by decide +kernel) (Ps := []) (pc' := 1) (lv' := [(0, .ref 0), (1, .int xw), (2, .int xk)]) (st' := [.int xw]) (σ' := σ) rfl True.intro ?_
  refine rw_callSi hX (as := [.int xw]) (rest := []) (c_X9_isWork _ _ _ (xw)) (by decide +kernel) msX9_isWork (Or.inl lk9_56) rfl (by decide) (Nat.le_of_ble_eq_true rfl) rfl ?_
  intro r1 σ1 hr
  rw [hr.1, show r1 = bz (decide (0 ≤ xw ∧ xw ≤ 4)) from hr.2]
  clear hr σ1 r1
  refine rw_if hX (tgt := 14) (cnd := .eq) (off := 10) (by decide +kernel) (by decide) (fun h4 => ?_) (fun h4 => ?_)
  · replace h4 := of_decide_eq_false (zb_eqT h4)
    refine rw_go hX [(14, .bipush (-2))] (by decide +kernel) (Ps := []) (pc' := 16) (lv' := [(0, .ref 0), (1, .int xw), (2, .int xk)]) (st' := [.int (-(nI 2))]) (σ' := σ) rfl True.intro ?_
    exact rw_iret hX (by decide +kernel) (⟨by simp only [aTaken, eq_false h4, if_true, if_false, Bool.false_eq_true, and_self, and_true, true_and, and_false, false_and], XQ_rfl _⟩)
  · replace h4 := of_decide_eq_true (zb_eqF h4)
    obtain ⟨w, hw, rfl⟩ := rng (m := 4) (by omega) h4
    have hw : w < 5 := hw
    have hcw : (nI w).toNatClampNeg = w := nI_clamp (by omega)
    refine rw_go hX [(7, .iload_n 2)] (by decide +kernel) (Ps := []) (pc' := 8) (lv' := [(0, .ref 0), (1, .int (nI w)), (2, .int xk)]) (st' := [.int xk]) (σ' := σ) rfl True.intro ?_
    refine rw_callSi hX (as := [.int xk]) (rest := []) (c_X9_isKind _ _ _ (xk)) (by decide +kernel) msX9_isKind (Or.inl lk9_59) rfl (by decide) (Nat.le_of_ble_eq_true rfl) rfl ?_
    intro r1 σ1 hr
    rw [hr.1, show r1 = bz (decide (0 ≤ xk ∧ xk ≤ 5)) from hr.2]
    clear hr σ1 r1
    refine rw_if hX (tgt := 17) (cnd := .ne) (off := 6) (by decide +kernel) (by decide) (fun h11 => ?_) (fun h11 => ?_)
    · replace h11 := of_decide_eq_true (zb_neT h11)
      obtain ⟨k, hk, rfl⟩ := rng (m := 5) (by omega) h11
      have hck : (nI k).toNatClampNeg = k := nI_clamp (by omega)
      refine rw_go hX [(17, .aload_n 0), (18, .iload_n 1)] (by decide +kernel) (Ps := []) (pc' := 19) (lv' := [(0, .ref 0), (1, .int (nI w)), (2, .int (nI k))]) (st' := [.int (nI w), .ref 0]) (σ' := σ) rfl True.intro ?_
      refine rw_callVi hX (as := [.int (nI w)]) (rest := []) (c_missing _ _ _ V w hV hv hw) (by decide +kernel) mvX9_isMissing lk9_78 (ci := 8) rfl rfl rfl (by decide) (Nat.le_of_ble_eq_true rfl) rfl ?_
      intro r1 σ1 hr
      rw [hr.1, show r1 = bz (decide (vS V w = 0)) from hr.2]
      clear hr σ1 r1
      refine rw_if hX (tgt := 28) (cnd := .eq) (off := 6) (by decide +kernel) (by decide) (fun h22 => ?_) (fun h22 => ?_)
      · replace h22 := of_decide_eq_false (zb_eqT h22)
        refine rw_go hX [(28, .aload_n 0), (29, .getfield 12), (32, .getfield 72), (35, .iload_n 1), (36, .iaload)] (by decide +kernel) (Ps := [vp_in (nI w) 5]) (pc' := 37) (lv' := [(0, .ref 0), (1, .int (nI w)), (2, .int (nI k))]) (st' := [.int (σ 4 (nI w).toNatClampNeg)]) (σ' := σ) rfl (vp_in_nI (by omega) (by omega)) ?_
        rw [show (σ 4 (nI w).toNatClampNeg) = nI (vK V w) from (by rw [nI_clamp (by omega), (vw_at hV 2 (by omega)), wf_k hv hw])]
        refine rw_go hX [(37, .iload_n 2)] (by decide +kernel) (Ps := []) (pc' := 38) (lv' := [(0, .ref 0), (1, .int (nI w)), (2, .int (nI k))]) (st' := [.int (nI k), .int (nI (vK V w))]) (σ' := σ) rfl True.intro ?_
        refine rw_callSi hX (as := [.int (nI (vK V w)), .int (nI k)]) (rest := []) (c_isUnder _ _ _ (vK V w) k (wf_k6 hv hw) hk) (by decide +kernel) msX9_isUnder (Or.inl lk9_124) rfl (by decide) (Nat.le_of_ble_eq_true rfl) rfl ?_
        intro r1 σ1 hr
        rw [hr.1, show r1 = bz (undK (vK V w) k) from hr.2]
        clear hr σ1 r1
        refine rw_if hX (tgt := 47) (cnd := .ne) (off := 6) (by decide +kernel) (by decide) (fun h41 => ?_) (fun h41 => ?_)
        · replace h41 := zb_neT h41
          refine rw_go hX [(47, .aload_n 0), (48, .getfield 25), (51, .getfield 105), (54, .aload_n 0), (55, .getfield 12), (58, .iload_n 1)] (by decide +kernel) (Ps := []) (pc' := 59) (lv' := [(0, .ref 0), (1, .int (nI w)), (2, .int (nI k))]) (st' := [.int (nI w), .ref 1, .ref 23]) (σ' := σ) rfl True.intro ?_
          refine rw_callVv hX (as := [.ref 1, .int (nI w)]) (rest := []) (c_readLetters_1 _ _ _ V w hV hv hw) (by decide +kernel) mvX3_readLetters lk9_109 (ci := 2) rfl rfl rfl (by decide) (Nat.le_of_ble_eq_true rfl) rfl ?_
          intro σ1 hr
          rw [hr]
          clear hr σ1
          have hR := RLe_mk (rt := 26) (rp := 27) (rn := 24) (V := V) (w := w) σ (by decide) (by decide) (by decide) hv hw
          have hL5 := lC_50 hv hw
          refine rw_go hX [(62, .aload_n 0), (63, .getfield 25), (66, .getfield 105), (69, .aload_n 0), (70, .getfield 12), (73, .iload_n 1)] (by decide +kernel) (Ps := []) (pc' := 74) (lv' := [(0, .ref 0), (1, .int (nI w)), (2, .int (nI k))]) (st' := [.int (nI w), .ref 1, .ref 23]) (σ' := rdL 26 27 24 V w σ) rfl True.intro ?_
          refine rw_callVi hX (as := [.ref 1, .int (nI w)]) (rest := []) (c_unlikePlain _ _ _ V w (lC V w) (PL V w) ((vw_of (fun j hj => rdL_n _ (by omega) (by omega) (by omega))).trans hV) hv hw hR.1 hL5 (fun i hi => ⟨(hR.2 i hi).2, PL_lt V w hi⟩)) (by decide +kernel) mvX3_unlikePlain lk9_127 (ci := 2) rfl rfl rfl (by decide) (Nat.le_of_ble_eq_true rfl) rfl ?_
          intro r1 σ1 hr
          rw [hr.1, show r1 = nI (tkC V w) from hr.2.trans (by rw [tk_e hR])]
          clear hr σ1 r1
          exact rw_iret hX (by decide +kernel) (⟨by simp only [aTaken, eq_true h4, hcw, eq_true h11, hck, eq_false h22, h41, if_true, if_false, Bool.false_eq_true, and_self, and_true, true_and, and_false, false_and], fun k hk => rdL_n _ (by omega) (by omega) (by omega)⟩)
        · replace h41 := zb_neF h41
          refine rw_go hX [(44, .bipush (-13))] (by decide +kernel) (Ps := []) (pc' := 46) (lv' := [(0, .ref 0), (1, .int (nI w)), (2, .int (nI k))]) (st' := [.int (-(nI 13))]) (σ' := σ) rfl True.intro ?_
          exact rw_iret hX (by decide +kernel) (⟨by simp only [aTaken, eq_true h4, hcw, eq_true h11, hck, eq_false h22, h41, if_true, if_false, Bool.false_eq_true, and_self, and_true, true_and, and_false, false_and], XQ_rfl _⟩)
      · replace h22 := of_decide_eq_true (zb_eqF h22)
        refine rw_go hX [(25, .bipush (-11))] (by decide +kernel) (Ps := []) (pc' := 27) (lv' := [(0, .ref 0), (1, .int (nI w)), (2, .int (nI k))]) (st' := [.int (-(nI 11))]) (σ' := σ) rfl True.intro ?_
        exact rw_iret hX (by decide +kernel) (⟨by simp only [aTaken, eq_true h4, hcw, eq_true h11, hck, eq_true h22, if_true, if_false, Bool.false_eq_true, and_self, and_true, true_and, and_false, false_and], XQ_rfl _⟩)
    · replace h11 := of_decide_eq_false (zb_neF h11)
      refine rw_go hX [(14, .bipush (-2))] (by decide +kernel) (Ps := []) (pc' := 16) (lv' := [(0, .ref 0), (1, .int (nI w)), (2, .int xk)]) (st' := [.int (-(nI 2))]) (σ' := σ) rfl True.intro ?_
      exact rw_iret hX (by decide +kernel) (⟨by simp only [aTaken, eq_true h4, hcw, eq_false h11, if_true, if_false, Bool.false_eq_true, and_self, and_true, true_and, and_false, false_and], XQ_rfl _⟩)
set_option maxRecDepth 20000 in
set_option maxHeartbeats 4000000 in
theorem f_rule (l : Launch) (G : Gl) (σ : Mm) (V : Mm) (xq xv : Int32) (hV : vw σ 2 = V) (hv : wf V) : AMi l G 3 mX9_rule [.ref 0, .int xq, .int xv] σ (fun r σ' => r = aRule V xq xv ∧ σ' = sRule 6 σ xq xv) := by
  refine rw_inI 9 (by decide +kernel) rfl rfl ?_
  intro E hE hX
  subst hE
  refine rw_go hX [(0, .iload_n 1), (1, .bipush 6)] (by decide +kernel) (Ps := []) (pc' := 3) (lv' := [(0, .ref 0), (1, .int xq), (2, .int xv)]) (st' := [.int (nI 6), .int xq]) (σ' := σ) rfl True.intro ?_
  refine rw_callSi hX (as := [.int xq, .int (nI 6)]) (rest := []) (c_X9_isOneOf _ _ _ (xq) (nI 6)) (by decide +kernel) msX9_isOneOf (Or.inl lk9_97) rfl (by decide) (Nat.le_of_ble_eq_true rfl) rfl ?_
  intro r1 σ1 hr
  rw [hr.1, show r1 = bz (decide (0 ≤ xq ∧ xq < nI 6)) from hr.2]
  clear hr σ1 r1
  refine rw_if hX (tgt := 27) (cnd := .eq) (off := 21) (by decide +kernel) (by decide) (fun h6 => ?_) (fun h6 => ?_)
  · replace h6 := of_decide_eq_false (zb_eqT h6)
    refine rw_go hX [(27, .bipush (-2))] (by decide +kernel) (Ps := []) (pc' := 29) (lv' := [(0, .ref 0), (1, .int xq), (2, .int xv)]) (st' := [.int (-(nI 2))]) (σ' := σ) rfl True.intro ?_
    exact rw_iret hX (by decide +kernel) (⟨by simp only [aRule, eq_false h6, if_true, if_false, Bool.false_eq_true, and_self, and_true, true_and, and_false, false_and] <;> rfl, by simp only [sRule, eq_false h6, if_true, if_false, Bool.false_eq_true, and_self, and_true, true_and, and_false, false_and] <;> rfl⟩)
  · replace h6 := of_decide_eq_true (zb_eqF h6)
    obtain ⟨k, hk, rfl⟩ := rngO (m := 6) (by omega) h6
    have hck : (nI k).toNatClampNeg = k := nI_clamp (by omega)
    refine rw_go hX [(9, .iload_n 2), (10, .getstatic 131), (13, .iload_n 1), (14, .iaload)] (by decide +kernel) (Ps := [vp_in (nI k) 6]) (pc' := 15) (lv' := [(0, .ref 0), (1, .int (nI k)), (2, .int xv)]) (st' := [.int ((stL 1).getD (nI k).toNatClampNeg 0), .int xv]) (σ' := σ) rfl (vp_in_nI (by omega) (by omega)) ?_
    rw [show ((stL 1).getD (nI k).toNatClampNeg 0) = rlo k from by rw [nI_clamp (by omega)]; rfl]
    refine rw_icmp hX (tgt := 27) (cnd := .lt) (off := 12) (by decide +kernel) (by decide) (fun h15 => ?_) (fun h15 => ?_)
    · replace h15 : (xv < rlo k) := h15
      refine rw_go hX [(27, .bipush (-2))] (by decide +kernel) (Ps := []) (pc' := 29) (lv' := [(0, .ref 0), (1, .int (nI k)), (2, .int xv)]) (st' := [.int (-(nI 2))]) (σ' := σ) rfl True.intro ?_
      exact rw_iret hX (by decide +kernel) (⟨by simp only [aRule, eq_true h6, hck, eq_true h15, if_true, if_false, Bool.false_eq_true, and_self, and_true, true_and, and_false, false_and] <;> rfl, by simp only [sRule, eq_true h6, hck, eq_true h15, if_true, if_false, Bool.false_eq_true, and_self, and_true, true_and, and_false, false_and] <;> rfl⟩)
    · replace h15 : ¬ (xv < rlo k) := h15
      refine rw_go hX [(18, .iload_n 2), (19, .getstatic 134), (22, .iload_n 1), (23, .iaload)] (by decide +kernel) (Ps := [vp_in (nI k) 6]) (pc' := 24) (lv' := [(0, .ref 0), (1, .int (nI k)), (2, .int xv)]) (st' := [.int ((stL 2).getD (nI k).toNatClampNeg 0), .int xv]) (σ' := σ) rfl (vp_in_nI (by omega) (by omega)) ?_
      rw [show ((stL 2).getD (nI k).toNatClampNeg 0) = rhi k from by rw [nI_clamp (by omega)]; rfl]
      refine rw_icmp hX (tgt := 30) (cnd := .le) (off := 6) (by decide +kernel) (by decide) (fun h24 => ?_) (fun h24 => ?_)
      · replace h24 : (xv ≤ rhi k) := h24
        refine rw_go hX [(30, .aload_n 0), (31, .getfield 12), (34, .getfield 137), (37, .iload_n 1), (38, .iaload)] (by decide +kernel) (Ps := [vp_in (nI k) 6]) (pc' := 39) (lv' := [(0, .ref 0), (1, .int (nI k)), (2, .int xv)]) (st' := [.int (σ 6 (nI k).toNatClampNeg)]) (σ' := σ) rfl (vp_in_nI (by omega) (by omega)) ?_
        rw [show (σ 6 (nI k).toNatClampNeg) = V 4 k from (by rw [nI_clamp (by omega), (vw_at hV 4 (by omega))])]
        refine rw_go hX [(39, .istore_n 3), (40, .aload_n 0), (41, .getfield 12), (44, .getfield 137), (47, .iload_n 1), (48, .iload_n 2), (49, .iastore)] (by decide +kernel) (Ps := [vp_in (nI k) 6]) (pc' := 50) (lv' := [(0, .ref 0), (1, .int (nI k)), (2, .int xv), (3, .int (V 4 k))]) (st' := []) (σ' := sw σ 6 (nI k).toNatClampNeg xv) rfl (vp_in_nI (by omega) (by omega)) ?_
        rw [show (sw σ 6 (nI k).toNatClampNeg xv) = sw σ 6 k xv from (by rw [nI_clamp (by omega)])]
        refine rw_go hX [(50, .iload_n 3)] (by decide +kernel) (Ps := []) (pc' := 51) (lv' := [(0, .ref 0), (1, .int (nI k)), (2, .int xv), (3, .int (V 4 k))]) (st' := [.int (V 4 k)]) (σ' := sw σ 6 k xv) rfl True.intro ?_
        exact rw_iret hX (by decide +kernel) (⟨by simp only [aRule, eq_true h6, hck, eq_false h15, eq_true h24, if_true, if_false, Bool.false_eq_true, and_self, and_true, true_and, and_false, false_and] <;> rfl, by simp only [sRule, eq_true h6, hck, eq_false h15, eq_true h24, if_true, if_false, Bool.false_eq_true, and_self, and_true, true_and, and_false, false_and] <;> rfl⟩)
      · replace h24 : ¬ (xv ≤ rhi k) := h24
        refine rw_go hX [(27, .bipush (-2))] (by decide +kernel) (Ps := []) (pc' := 29) (lv' := [(0, .ref 0), (1, .int (nI k)), (2, .int xv)]) (st' := [.int (-(nI 2))]) (σ' := σ) rfl True.intro ?_
        exact rw_iret hX (by decide +kernel) (⟨by simp only [aRule, eq_true h6, hck, eq_false h15, eq_false h24, if_true, if_false, Bool.false_eq_true, and_self, and_true, true_and, and_false, false_and] <;> rfl, by simp only [sRule, eq_true h6, hck, eq_false h15, eq_false h24, if_true, if_false, Bool.false_eq_true, and_self, and_true, true_and, and_false, false_and] <;> rfl⟩)
set_option maxRecDepth 20000 in
set_option maxHeartbeats 4000000 in
theorem f_mark (l : Launch) (G : Gl) (σ : Mm) (V : Mm) (xw xi : Int32) (hV : vw σ 2 = V) (hv : wf V) : AMl l G 4 mX9_mark [.ref 0, .int xw, .int xi] σ (fun r σ' => r = aMark V xw xi ∧ XQ σ σ') := by
  refine rw_inL 9 (by decide +kernel) rfl rfl ?_
  intro E hE hX
  subst hE
  refine rw_go hX [(0, .iload_n 1)] (by decide +kernel) (Ps := []) (pc' := 1) (lv' := [(0, .ref 0), (1, .int xw), (2, .int xi)]) (st' := [.int xw]) (σ' := σ) rfl True.intro ?_
  refine rw_callSi hX (as := [.int xw]) (rest := []) (c_X9_isWork _ _ _ (xw)) (by decide +kernel) msX9_isWork (Or.inl lk9_56) rfl (by decide) (Nat.le_of_ble_eq_true rfl) rfl ?_
  intro r1 σ1 hr
  rw [hr.1, show r1 = bz (decide (0 ≤ xw ∧ xw ≤ 4)) from hr.2]
  clear hr σ1 r1
  refine rw_if hX (tgt := 15) (cnd := .eq) (off := 11) (by decide +kernel) (by decide) (fun h4 => ?_) (fun h4 => ?_)
  · replace h4 := of_decide_eq_false (zb_eqT h4)
    refine rw_go hX [(15, .ldc2_w 140)] (by decide +kernel) (Ps := []) (pc' := 18) (lv' := [(0, .ref 0), (1, .int xw), (2, .int xi)]) (st' := [.long (-4611686018427387904)]) (σ' := σ) rfl True.intro ?_
    exact rw_lret hX (by decide +kernel) (⟨by simp only [aMark, eq_false h4, if_true, if_false, Bool.false_eq_true, and_self, and_true, true_and, and_false, false_and], XQ_rfl _⟩)
  · replace h4 := of_decide_eq_true (zb_eqF h4)
    obtain ⟨w, hw, rfl⟩ := rng (m := 4) (by omega) h4
    have hw : w < 5 := hw
    have hcw : (nI w).toNatClampNeg = w := nI_clamp (by omega)
    refine rw_go hX [(7, .aload_n 0), (8, .iload_n 1)] (by decide +kernel) (Ps := []) (pc' := 9) (lv' := [(0, .ref 0), (1, .int (nI w)), (2, .int xi)]) (st' := [.int (nI w), .ref 0]) (σ' := σ) rfl True.intro ?_
    refine rw_callVi hX (as := [.int (nI w)]) (rest := []) (c_missing _ _ _ V w hV hv hw) (by decide +kernel) mvX9_isMissing lk9_78 (ci := 8) rfl rfl rfl (by decide) (Nat.le_of_ble_eq_true rfl) rfl ?_
    intro r1 σ1 hr
    rw [hr.1, show r1 = bz (decide (vS V w = 0)) from hr.2]
    clear hr σ1 r1
    refine rw_if hX (tgt := 19) (cnd := .eq) (off := 7) (by decide +kernel) (by decide) (fun h12 => ?_) (fun h12 => ?_)
    · replace h12 := of_decide_eq_false (zb_eqT h12)
      refine rw_go hX [(19, .aload_n 0), (20, .getfield 25), (23, .getfield 105), (26, .astore_n 3), (27, .aload_n 3), (28, .aload_n 0), (29, .getfield 12), (32, .iload_n 1)] (by decide +kernel) (Ps := []) (pc' := 33) (lv' := [(0, .ref 0), (1, .int (nI w)), (2, .int xi), (3, .ref 23)]) (st' := [.int (nI w), .ref 1, .ref 23]) (σ' := σ) rfl True.intro ?_
      refine rw_callVv hX (as := [.ref 1, .int (nI w)]) (rest := []) (c_readLetters_1 _ _ _ V w hV hv hw) (by decide +kernel) mvX3_readLetters lk9_109 (ci := 2) rfl rfl rfl (by decide) (Nat.le_of_ble_eq_true rfl) rfl ?_
      intro σ1 hr
      rw [hr]
      clear hr σ1
      have hR := RLe_mk (rt := 26) (rp := 27) (rn := 24) (V := V) (w := w) σ (by decide) (by decide) (by decide) hv hw
      have hL5 := lC_50 hv hw
      have hg5 := gC_50 hv hw
      have hK := wf_K hv
      refine rw_go hX [(36, .aload_n 3), (37, .iload_n 1), (38, .aload_n 0), (39, .getfield 12), (42, .getfield 137), (45, .iconst 0), (46, .iaload)] (by decide +kernel) (Ps := [vp_in (nI 0) 6]) (pc' := 47) (lv' := [(0, .ref 0), (1, .int (nI w)), (2, .int xi), (3, .ref 23)]) (st' := [.int ((rdL 26 27 24 V w σ) 6 (nI 0).toNatClampNeg), .int (nI w), .ref 23]) (σ' := rdL 26 27 24 V w σ) rfl (vp_in_nI (by omega) (by omega)) ?_
      rw [show ((rdL 26 27 24 V w σ) 6 (nI 0).toNatClampNeg) = nI (vR V 0) from (by rw [nI_clamp (by omega), rdL_n _ (by decide) (by decide) (by decide), (vw_at hV 4 (by omega)), hK.1])]
      refine rw_callVv hX (as := [.int (nI w), .int (nI (vR V 0))]) (rest := []) (c_readGrams _ _ _ w (vR V 0) (lC V w) hw hR.1 hL5 (by omega) (by omega)) (by decide +kernel) mvX3_readGrams lk9_142 (ci := 2) rfl rfl rfl (by decide) (Nat.le_of_ble_eq_true rfl) rfl ?_
      intro σ1 hr
      rw [hr]
      clear hr σ1
      refine rw_go hX [(50, .iload_n 2)] (by decide +kernel) (Ps := []) (pc' := 51) (lv' := [(0, .ref 0), (1, .int (nI w)), (2, .int xi), (3, .ref 23)]) (st' := [.int xi]) (σ' := rdG 26 24 28 25 w (vR V 0) (lC V w) (rdL 26 27 24 V w σ)) rfl True.intro ?_
      refine rw_if hX (tgt := 63) (cnd := .lt) (off := 12) (by decide +kernel) (by decide) (fun h51 => ?_) (fun h51 => ?_)
      · replace h51 : (xi < 0) := h51
        refine rw_go hX [(63, .ldc2_w 140)] (by decide +kernel) (Ps := []) (pc' := 66) (lv' := [(0, .ref 0), (1, .int (nI w)), (2, .int xi), (3, .ref 23)]) (st' := [.long (-4611686018427387904)]) (σ' := rdG 26 24 28 25 w (vR V 0) (lC V w) (rdL 26 27 24 V w σ)) rfl True.intro ?_
        exact rw_lret hX (by decide +kernel) (⟨by simp only [aMark, eq_true h4, hcw, eq_false h12, eq_true h51, if_true, if_false, Bool.false_eq_true, and_self, and_true, true_and, and_false, false_and], fun k hk => (rdG_n _ (by omega) (by omega)).trans (rdL_n _ (by omega) (by omega) (by omega))⟩)
      · replace h51 : ¬ (xi < 0) := h51
        refine rw_go hX [(54, .iload_n 2), (55, .aload_n 3), (56, .iload_n 1)] (by decide +kernel) (Ps := []) (pc' := 57) (lv' := [(0, .ref 0), (1, .int (nI w)), (2, .int xi), (3, .ref 23)]) (st' := [.int (nI w), .ref 23, .int xi]) (σ' := rdG 26 24 28 25 w (vR V 0) (lC V w) (rdL 26 27 24 V w σ)) rfl True.intro ?_
        refine rw_callVi hX (as := [.int (nI w)]) (rest := [.int xi]) (c_gramCount _ _ _ w hw) (by decide +kernel) mvX3_gramCount lk9_146 (ci := 2) rfl rfl rfl (by decide) (Nat.le_of_ble_eq_true rfl) rfl ?_
        intro r1 σ1 hr
        rw [hr.1, show r1 = nI (gC V w) from hr.2.trans (by unfold rdG; rw [sr_s, upd_s]; rfl)]
        clear hr σ1 r1
        refine rw_icmp hX (tgt := 67) (cnd := .lt) (off := 7) (by decide +kernel) (by decide) (fun h60 => ?_) (fun h60 => ?_)
        · replace h60 : (xi < nI (gC V w)) := h60
          obtain ⟨i, hi, rfl⟩ := rngO (m := gC V w) (by omega) ⟨Int32.not_lt.mp h51, h60⟩
          have hci : (nI i).toNatClampNeg = i := nI_clamp (by omega)
          refine rw_go hX [(67, .aload_n 3), (68, .iload_n 1), (69, .iload_n 2)] (by decide +kernel) (Ps := []) (pc' := 70) (lv' := [(0, .ref 0), (1, .int (nI w)), (2, .int (nI i)), (3, .ref 23)]) (st' := [.int (nI i), .int (nI w), .ref 23]) (σ' := rdG 26 24 28 25 w (vR V 0) (lC V w) (rdL 26 27 24 V w σ)) rfl True.intro ?_
          refine rw_callVi hX (as := [.int (nI w), .int (nI i)]) (rest := []) (c_markAt _ _ _ w i hw (by omega)) (by decide +kernel) mvX3_markAt lk9_149 (ci := 2) rfl rfl rfl (by decide) (Nat.le_of_ble_eq_true rfl) rfl ?_
          intro r1 σ1 hr
          rw [hr.1, show r1 = MK V (50 * w + i) from hr.2.trans (by unfold rdG; rw [sr_n _ _ (by decide), sr_s, mR_at, if_pos ⟨by omega, by unfold gC at hi; omega⟩]; exact mk_at hi fun j hj => (hR.2 j hj).1)]
          clear hr σ1 r1
          refine rw_go hX [(73, .i2l)] (by decide +kernel) (Ps := []) (pc' := 74) (lv' := [(0, .ref 0), (1, .int (nI w)), (2, .int (nI i)), (3, .ref 23)]) (st' := [.long ((MK V (50 * w + i)).toInt64)]) (σ' := rdG 26 24 28 25 w (vR V 0) (lC V w) (rdL 26 27 24 V w σ)) rfl True.intro ?_
          exact rw_lret hX (by decide +kernel) (⟨by simp only [aMark, eq_true h4, hcw, eq_false h12, eq_false h51, eq_true h60, hci, if_true, if_false, Bool.false_eq_true, and_self, and_true, true_and, and_false, false_and], fun k hk => (rdG_n _ (by omega) (by omega)).trans (rdL_n _ (by omega) (by omega) (by omega))⟩)
        · replace h60 : ¬ (xi < nI (gC V w)) := h60
          refine rw_go hX [(63, .ldc2_w 140)] (by decide +kernel) (Ps := []) (pc' := 66) (lv' := [(0, .ref 0), (1, .int (nI w)), (2, .int xi), (3, .ref 23)]) (st' := [.long (-4611686018427387904)]) (σ' := rdG 26 24 28 25 w (vR V 0) (lC V w) (rdL 26 27 24 V w σ)) rfl True.intro ?_
          exact rw_lret hX (by decide +kernel) (⟨by simp only [aMark, eq_true h4, hcw, eq_false h12, eq_false h51, eq_false h60, if_true, if_false, Bool.false_eq_true, and_self, and_true, true_and, and_false, false_and], fun k hk => (rdG_n _ (by omega) (by omega)).trans (rdL_n _ (by omega) (by omega) (by omega))⟩)
    · replace h12 := of_decide_eq_true (zb_eqF h12)
      refine rw_go hX [(15, .ldc2_w 140)] (by decide +kernel) (Ps := []) (pc' := 18) (lv' := [(0, .ref 0), (1, .int (nI w)), (2, .int xi)]) (st' := [.long (-4611686018427387904)]) (σ' := σ) rfl True.intro ?_
      exact rw_lret hX (by decide +kernel) (⟨by simp only [aMark, eq_true h4, hcw, eq_true h12, if_true, if_false, Bool.false_eq_true, and_self, and_true, true_and, and_false, false_and], XQ_rfl _⟩)
