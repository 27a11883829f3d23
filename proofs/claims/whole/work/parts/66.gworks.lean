/-! the model: splice .. mark -/
theorem dnR_g {f : Nat → Int32} {w c a s k : Nat} (h : a < c) (hk : 1 ≤ k) : dnR f (50 * w + c) (50 * w + s) k (50 * w + (c - 1)) = f (50 * w + (c - 1)) := if_neg (by omega)
set_option maxRecDepth 20000 in
set_option maxHeartbeats 4000000 in
theorem g_splice (l : Launch) (G : Gl) (σ : Mm) (V : Mm) (xw xa xo xf xn : Int32) (hV : vw σ 67 = V) (hv : wf V) : AMi l G 3 mX10_splice [.ref 66, .int xw, .int xa, .int xo, .int xf, .int xn] σ (fun r σ' => r = aSpl V xw xa xo xf xn ∧ σ' = sSplM V σ xw xa xo xf xn) := by
  refine rw_inI 10 (by decide +kernel) rfl rfl ?_
  intro E hE hX
  subst hE
  refine rw_go hX [(0, .iload_n 1)] (by decide +kernel) (Ps := []) (pc' := 1) (lv' := [(0, .ref 66), (1, .int xw), (2, .int xa), (3, .int xo), (4, .int xf), (5, .int xn)]) (st' := [.int xw]) (σ' := σ) rfl True.intro ?_
  refine rw_callSi hX (as := [.int xw]) (rest := []) (m_isWork _ _ _ (xw)) (by decide +kernel) msX10_isWork (Or.inl lk10_157) rfl (by decide) (Nat.le_of_ble_eq_true rfl) rfl ?_
  intro r1 σ1 hr
  rw [hr.1, show r1 = bz (decide (0 ≤ xw ∧ xw ≤ 4)) from hr.2]
  clear hr σ1 r1
  refine rw_if hX (tgt := 14) (cnd := .eq) (off := 10) (by decide +kernel) (by decide) (fun h4 => ?_) (fun h4 => ?_)
  · replace h4 := of_decide_eq_false (zb_eqT h4)
    refine rw_go hX [(14, .bipush (-2))] (by decide +kernel) (Ps := []) (pc' := 16) (lv' := [(0, .ref 66), (1, .int xw), (2, .int xa), (3, .int xo), (4, .int xf), (5, .int xn)]) (st' := [.int (-(nI 2))]) (σ' := σ) rfl True.intro ?_
    exact rw_iret hX (by decide +kernel) (⟨by simp only [aSpl, eq_false h4, if_true, if_false, Bool.false_eq_true, and_self, and_true, true_and, and_false, false_and] <;> rfl, by simp only [sSplM, eq_false h4, if_true, if_false, Bool.false_eq_true, and_self, and_true, true_and, and_false, false_and] <;> rfl⟩)
  · replace h4 := of_decide_eq_true (zb_eqF h4)
    obtain ⟨w, hw, rfl⟩ := rng (m := 4) (by omega) h4
    have hw : w < 5 := hw
    have hcw : (nI w).toNatClampNeg = w := nI_clamp (by omega)
    refine rw_go hX [(7, .iload_n 3)] (by decide +kernel) (Ps := []) (pc' := 8) (lv' := [(0, .ref 66), (1, .int (nI w)), (2, .int xa), (3, .int xo), (4, .int xf), (5, .int xn)]) (st' := [.int xo]) (σ' := σ) rfl True.intro ?_
    refine rw_callSi hX (as := [.int xo]) (rest := []) (m_isWork _ _ _ (xo)) (by decide +kernel) msX10_isWork (Or.inl lk10_157) rfl (by decide) (Nat.le_of_ble_eq_true rfl) rfl ?_
    intro r1 σ1 hr
    rw [hr.1, show r1 = bz (decide (0 ≤ xo ∧ xo ≤ 4)) from hr.2]
    clear hr σ1 r1
    refine rw_if hX (tgt := 17) (cnd := .ne) (off := 6) (by decide +kernel) (by decide) (fun h11 => ?_) (fun h11 => ?_)
    · replace h11 := of_decide_eq_true (zb_neT h11)
      obtain ⟨u, hu, rfl⟩ := rng (m := 4) (by omega) h11
      have hu : u < 5 := hu
      have hcu : (nI u).toNatClampNeg = u := nI_clamp (by omega)
      have hs5 := wf_s50 hv hw
      have hu5 := wf_s50 hv hu
      refine rw_go hX [(17, .aload_n 0), (18, .iload_n 1)] (by decide +kernel) (Ps := []) (pc' := 19) (lv' := [(0, .ref 66), (1, .int (nI w)), (2, .int xa), (3, .int (nI u)), (4, .int xf), (5, .int xn)]) (st' := [.int (nI w), .ref 66]) (σ' := σ) rfl True.intro ?_
      refine rw_callVi hX (as := [.int (nI w)]) (rest := []) (m_there _ _ _ V w hV hv hw) (by decide +kernel) mvX10_isThere lk10_132 (ci := 9) rfl rfl rfl (by decide) (Nat.le_of_ble_eq_true rfl) rfl ?_
      intro r1 σ1 hr
      rw [hr.1, show r1 = bz (decide (0 < vS V w)) from hr.2]
      clear hr σ1 r1
      refine rw_if hX (tgt := 33) (cnd := .eq) (off := 11) (by decide +kernel) (by decide) (fun h22 => ?_) (fun h22 => ?_)
      · replace h22 := of_decide_eq_false (zb_eqT h22)
        have hvsw : vS V w = 0 := by omega
        refine rw_go hX [(33, .bipush (-11))] (by decide +kernel) (Ps := []) (pc' := 35) (lv' := [(0, .ref 66), (1, .int (nI w)), (2, .int xa), (3, .int (nI u)), (4, .int xf), (5, .int xn)]) (st' := [.int (-(nI 11))]) (σ' := σ) rfl True.intro ?_
        exact rw_iret hX (by decide +kernel) (⟨by simp only [aSpl, eq_true h4, hcw, eq_true h11, hcu, eq_false h22, eq_true hvsw, if_true, if_false, Bool.false_eq_true, and_self, and_true, true_and, and_false, false_and] <;> rfl, by simp only [sSplM, eq_true h4, hcw, eq_true h11, hcu, eq_false h22, eq_true hvsw, if_true, if_false, Bool.false_eq_true, and_self, and_true, true_and, and_false, false_and] <;> rfl⟩)
      · replace h22 := of_decide_eq_true (zb_eqF h22)
        have hvsw : ¬ vS V w = 0 := by omega
        refine rw_go hX [(25, .aload_n 0), (26, .iload_n 3)] (by decide +kernel) (Ps := []) (pc' := 27) (lv' := [(0, .ref 66), (1, .int (nI w)), (2, .int xa), (3, .int (nI u)), (4, .int xf), (5, .int xn)]) (st' := [.int (nI u), .ref 66]) (σ' := σ) rfl True.intro ?_
        refine rw_callVi hX (as := [.int (nI u)]) (rest := []) (m_there _ _ _ V u hV hv hu) (by decide +kernel) mvX10_isThere lk10_132 (ci := 9) rfl rfl rfl (by decide) (Nat.le_of_ble_eq_true rfl) rfl ?_
        intro r1 σ1 hr
        rw [hr.1, show r1 = bz (decide (0 < vS V u)) from hr.2]
        clear hr σ1 r1
        refine rw_if hX (tgt := 36) (cnd := .ne) (off := 6) (by decide +kernel) (by decide) (fun h30 => ?_) (fun h30 => ?_)
        · replace h30 := of_decide_eq_true (zb_neT h30)
          have hvsu : ¬ vS V u = 0 := by omega
          refine rw_go hX [(36, .iload 5), (38, .iconst 1)] (by decide +kernel) (Ps := []) (pc' := 39) (lv' := [(0, .ref 66), (1, .int (nI w)), (2, .int xa), (3, .int (nI u)), (4, .int xf), (5, .int xn)]) (st' := [.int (nI 1), .int xn]) (σ' := σ) rfl True.intro ?_
          refine rw_icmp hX (tgt := 88) (cnd := .lt) (off := 49) (by decide +kernel) (by decide) (fun h39 => ?_) (fun h39 => ?_)
          · replace h39 : (xn < nI 1) := h39
            have hsp : pz (spOK xa xf xn (vS V w) (vS V u)) = false := pz_f fun ⟨a, f, k, e1, e2, e3, g1, g2, g3⟩ => by
              rw [e3] at h39; exact absurd (nI_le g2 (by omega)) (Int32.not_le.mpr h39)
            refine rw_go hX [(88, .bipush (-12))] (by decide +kernel) (Ps := []) (pc' := 90) (lv' := [(0, .ref 66), (1, .int (nI w)), (2, .int xa), (3, .int (nI u)), (4, .int xf), (5, .int xn)]) (st' := [.int (-(nI 12))]) (σ' := σ) rfl True.intro ?_
            exact rw_iret hX (by decide +kernel) (⟨by simp only [aSpl, eq_true h4, hcw, eq_true h11, hcu, eq_true h22, eq_false hvsw, eq_true h30, eq_false hvsu, eq_true h39, hsp, if_true, if_false, Bool.false_eq_true, and_self, and_true, true_and, and_false, false_and] <;> rfl, by simp only [sSplM, eq_true h4, hcw, eq_true h11, hcu, eq_true h22, eq_false hvsw, eq_true h30, eq_false hvsu, eq_true h39, hsp, if_true, if_false, Bool.false_eq_true, and_self, and_true, true_and, and_false, false_and] <;> rfl⟩)
          · replace h39 : ¬ (xn < nI 1) := h39
            refine rw_go hX [(42, .iload_n 2), (43, .i2l), (44, .lconst 0), (45, .aload_n 0), (46, .getfield 13), (49, .iload_n 1), (50, .iaload)] (by decide +kernel) (Ps := [vp_in (nI w) 5]) (pc' := 51) (lv' := [(0, .ref 66), (1, .int (nI w)), (2, .int xa), (3, .int (nI u)), (4, .int xf), (5, .int xn)]) (st' := [.int (σ 68 (nI w).toNatClampNeg), .long (Int64.ofNat 0), .long (xa.toInt64)]) (σ' := σ) rfl (vp_in_nI (by omega) (by omega)) ?_
            rw [show (σ 68 (nI w).toNatClampNeg) = nI (vS V w) from (by rw [nI_clamp (by omega), (vw_at hV 1 (by omega)), wf_s hv hw])]
            refine rw_go hX [(51, .i2l)] (by decide +kernel) (Ps := []) (pc' := 52) (lv' := [(0, .ref 66), (1, .int (nI w)), (2, .int xa), (3, .int (nI u)), (4, .int xf), (5, .int xn)]) (st' := [.long ((nI (vS V w)).toInt64), .long (Int64.ofNat 0), .long (xa.toInt64)]) (σ' := σ) rfl True.intro ?_
            refine rw_callSi hX (as := [.long (xa.toInt64), .long (Int64.ofNat 0), .long ((nI (vS V w)).toInt64)]) (rest := []) (m_inI _ _ _ (xa) (0) (nI (vS V w)) _ _ _ rfl (by first | rfl | decide +kernel) (by first | rfl | decide +kernel)) (by decide +kernel) msX10_in (Or.inl lk10_105) rfl (by decide) (Nat.le_of_ble_eq_true rfl) rfl ?_
            intro r1 σ1 hr
            rw [hr.1, show r1 = bz (decide (0 ≤ xa ∧ xa ≤ nI (vS V w))) from hr.2]
            clear hr σ1 r1
            refine rw_if hX (tgt := 88) (cnd := .eq) (off := 33) (by decide +kernel) (by decide) (fun h55 => ?_) (fun h55 => ?_)
            · replace h55 := of_decide_eq_false (zb_eqT h55)
              have hsp : pz (spOK xa xf xn (vS V w) (vS V u)) = false := pz_f fun ⟨a, f, k, e1, e2, e3, g1, g2, g3⟩ => by
                exact h55 ⟨by rw [e1]; exact nI_pos' (by omega), by rw [e1]; exact nI_le g1 (by omega)⟩
              refine rw_go hX [(88, .bipush (-12))] (by decide +kernel) (Ps := []) (pc' := 90) (lv' := [(0, .ref 66), (1, .int (nI w)), (2, .int xa), (3, .int (nI u)), (4, .int xf), (5, .int xn)]) (st' := [.int (-(nI 12))]) (σ' := σ) rfl True.intro ?_
              exact rw_iret hX (by decide +kernel) (⟨by simp only [aSpl, eq_true h4, hcw, eq_true h11, hcu, eq_true h22, eq_false hvsw, eq_true h30, eq_false hvsu, eq_false h39, eq_false h55, hsp, if_true, if_false, Bool.false_eq_true, and_self, and_true, true_and, and_false, false_and] <;> rfl, by simp only [sSplM, eq_true h4, hcw, eq_true h11, hcu, eq_true h22, eq_false hvsw, eq_true h30, eq_false hvsu, eq_false h39, eq_false h55, hsp, if_true, if_false, Bool.false_eq_true, and_self, and_true, true_and, and_false, false_and] <;> rfl⟩)
            · replace h55 := of_decide_eq_true (zb_eqF h55)
              refine rw_go hX [(58, .iload 4)] (by decide +kernel) (Ps := []) (pc' := 60) (lv' := [(0, .ref 66), (1, .int (nI w)), (2, .int xa), (3, .int (nI u)), (4, .int xf), (5, .int xn)]) (st' := [.int xf]) (σ' := σ) rfl True.intro ?_
              refine rw_if hX (tgt := 88) (cnd := .lt) (off := 28) (by decide +kernel) (by decide) (fun h60 => ?_) (fun h60 => ?_)
              · replace h60 : (xf < 0) := h60
                have hsp : pz (spOK xa xf xn (vS V w) (vS V u)) = false := pz_f fun ⟨a, f, k, e1, e2, e3, g1, g2, g3⟩ => by
                  rw [e2] at h60; exact absurd h60 (nI_pos (by omega))
                refine rw_go hX [(88, .bipush (-12))] (by decide +kernel) (Ps := []) (pc' := 90) (lv' := [(0, .ref 66), (1, .int (nI w)), (2, .int xa), (3, .int (nI u)), (4, .int xf), (5, .int xn)]) (st' := [.int (-(nI 12))]) (σ' := σ) rfl True.intro ?_
                exact rw_iret hX (by decide +kernel) (⟨by simp only [aSpl, eq_true h4, hcw, eq_true h11, hcu, eq_true h22, eq_false hvsw, eq_true h30, eq_false hvsu, eq_false h39, eq_true h55, eq_true h60, hsp, if_true, if_false, Bool.false_eq_true, and_self, and_true, true_and, and_false, false_and] <;> rfl, by simp only [sSplM, eq_true h4, hcw, eq_true h11, hcu, eq_true h22, eq_false hvsw, eq_true h30, eq_false hvsu, eq_false h39, eq_true h55, eq_true h60, hsp, if_true, if_false, Bool.false_eq_true, and_self, and_true, true_and, and_false, false_and] <;> rfl⟩)
              · replace h60 : ¬ (xf < 0) := h60
                refine rw_go hX [(63, .iload 5), (65, .aload_n 0), (66, .getfield 13), (69, .iload_n 3), (70, .iaload)] (by decide +kernel) (Ps := [vp_in (nI u) 5]) (pc' := 71) (lv' := [(0, .ref 66), (1, .int (nI w)), (2, .int xa), (3, .int (nI u)), (4, .int xf), (5, .int xn)]) (st' := [.int (σ 68 (nI u).toNatClampNeg), .int xn]) (σ' := σ) rfl (vp_in_nI (by omega) (by omega)) ?_
                rw [show (σ 68 (nI u).toNatClampNeg) = nI (vS V u) from (by rw [nI_clamp (by omega), (vw_at hV 1 (by omega)), wf_s hv hu])]
                refine rw_icmp hX (tgt := 88) (cnd := .gt) (off := 17) (by decide +kernel) (by decide) (fun h71 => ?_) (fun h71 => ?_)
                · replace h71 : (xn > nI (vS V u)) := h71
                  have hsp : pz (spOK xa xf xn (vS V w) (vS V u)) = false := pz_f fun ⟨a, f, k, e1, e2, e3, g1, g2, g3⟩ => by
                    rw [e3] at h71; exact absurd (nI_le (show k ≤ vS V u by omega) (by omega)) (Int32.not_le.mpr h71)
                  refine rw_go hX [(88, .bipush (-12))] (by decide +kernel) (Ps := []) (pc' := 90) (lv' := [(0, .ref 66), (1, .int (nI w)), (2, .int xa), (3, .int (nI u)), (4, .int xf), (5, .int xn)]) (st' := [.int (-(nI 12))]) (σ' := σ) rfl True.intro ?_
                  exact rw_iret hX (by decide +kernel) (⟨by simp only [aSpl, eq_true h4, hcw, eq_true h11, hcu, eq_true h22, eq_false hvsw, eq_true h30, eq_false hvsu, eq_false h39, eq_true h55, eq_false h60, eq_true h71, hsp, if_true, if_false, Bool.false_eq_true, and_self, and_true, true_and, and_false, false_and] <;> rfl, by simp only [sSplM, eq_true h4, hcw, eq_true h11, hcu, eq_true h22, eq_false hvsw, eq_true h30, eq_false hvsu, eq_false h39, eq_true h55, eq_false h60, eq_true h71, hsp, if_true, if_false, Bool.false_eq_true, and_self, and_true, true_and, and_false, false_and] <;> rfl⟩)
                · replace h71 : ¬ (xn > nI (vS V u)) := h71
                  have hn0 : ¬ xn < 0 := fun z => h39 (Int32.lt_of_lt_of_le z (nI_pos' (by omega)))
                  obtain ⟨k, hk, rfl⟩ := rng (m := vS V u) (by omega) ⟨Int32.not_lt.mp hn0, Int32.not_lt.mp h71⟩
                  have hk1 : 1 ≤ k := Nat.not_lt.mp fun z => h39 (nI_lt z (by omega))
                  have hck : (nI k).toNatClampNeg = k := nI_clamp (by omega)
                  refine rw_go hX [(74, .iload 4), (76, .aload_n 0), (77, .getfield 13), (80, .iload_n 3), (81, .iaload)] (by decide +kernel) (Ps := [vp_in (nI u) 5]) (pc' := 82) (lv' := [(0, .ref 66), (1, .int (nI w)), (2, .int xa), (3, .int (nI u)), (4, .int xf), (5, .int (nI k))]) (st' := [.int (σ 68 (nI u).toNatClampNeg), .int xf]) (σ' := σ) rfl (vp_in_nI (by omega) (by omega)) ?_
                  rw [show (σ 68 (nI u).toNatClampNeg) = nI (vS V u) from (by rw [nI_clamp (by omega), (vw_at hV 1 (by omega)), wf_s hv hu])]
                  refine rw_go hX [(82, .iload 5), (84, .isub)] (by decide +kernel) (Ps := []) (pc' := 85) (lv' := [(0, .ref 66), (1, .int (nI w)), (2, .int xa), (3, .int (nI u)), (4, .int xf), (5, .int (nI k))]) (st' := [.int (nI (vS V u) - nI k), .int xf]) (σ' := σ) rfl True.intro ?_
                  rw [show (nI (vS V u) - nI k) = nI (vS V u - k) from pk_sub (by omega)]
                  refine rw_icmp hX (tgt := 91) (cnd := .le) (off := 6) (by decide +kernel) (by decide) (fun h85 => ?_) (fun h85 => ?_)
                  · replace h85 : (xf ≤ nI (vS V u - k)) := h85
                    obtain ⟨f, hf, rfl⟩ := rng (m := vS V u - k) (by omega) ⟨Int32.not_lt.mp h60, h85⟩
                    obtain ⟨a, ha, rfl⟩ := rng (m := vS V w) (by omega) h55
                    have hcf : (nI f).toNatClampNeg = f := nI_clamp (by omega)
                    have hca : (nI a).toNatClampNeg = a := nI_clamp (by omega)
                    have hsp : pz (spOK (nI a) (nI f) (nI k) (vS V w) (vS V u)) = true := pz_t ⟨a, f, k, rfl, rfl, rfl, by omega, hk1, by omega⟩
                    refine rw_go hX [(91, .aload_n 0), (92, .getfield 13), (95, .iload_n 1), (96, .iaload)] (by decide +kernel) (Ps := [vp_in (nI w) 5]) (pc' := 97) (lv' := [(0, .ref 66), (1, .int (nI w)), (2, .int (nI a)), (3, .int (nI u)), (4, .int (nI f)), (5, .int (nI k))]) (st' := [.int (σ 68 (nI w).toNatClampNeg)]) (σ' := σ) rfl (vp_in_nI (by omega) (by omega)) ?_
                    rw [show (σ 68 (nI w).toNatClampNeg) = nI (vS V w) from (by rw [nI_clamp (by omega), (vw_at hV 1 (by omega)), wf_s hv hw])]
                    refine rw_go hX [(97, .iload 5), (99, .iadd)] (by decide +kernel) (Ps := []) (pc' := 100) (lv' := [(0, .ref 66), (1, .int (nI w)), (2, .int (nI a)), (3, .int (nI u)), (4, .int (nI f)), (5, .int (nI k))]) (st' := [.int (nI (vS V w) + nI k)]) (σ' := σ) rfl True.intro ?_
                    rw [show (nI (vS V w) + nI k) = nI (vS V w + k) from nI_add _ _]
                    refine rw_go hX [(100, .bipush 50)] (by decide +kernel) (Ps := []) (pc' := 102) (lv' := [(0, .ref 66), (1, .int (nI w)), (2, .int (nI a)), (3, .int (nI u)), (4, .int (nI f)), (5, .int (nI k))]) (st' := [.int (nI 50), .int (nI (vS V w + k))]) (σ' := σ) rfl True.intro ?_
                    refine rw_icmp hX (tgt := 108) (cnd := .le) (off := 6) (by decide +kernel) (by decide) (fun h102 => ?_) (fun h102 => ?_)
                    · replace h102 := c2_leT h102
                      have hnk : nI k ≤ nI (50 - vS V w) := nI_le (by omega) (by omega)
                      refine rw_go hX [(108, .iconst 0), (109, .istore 6)] (by decide +kernel) (Ps := []) (pc' := 111) (lv' := [(0, .ref 66), (1, .int (nI w)), (2, .int (nI a)), (3, .int (nI u)), (4, .int (nI f)), (5, .int (nI k)), (6, .int (nI 0))]) (st' := []) (σ' := σ) rfl True.intro ?_
                      have L111 : ∀ (μ111 : Nat) (i : Nat), μ111 = k - i → (i ≤ k) → RW E G 3 7 (QI E G (fun r σ' => r = aSpl V (nI w) (nI a) (nI u) (nI f) (nI k) ∧ σ' = sSplM V σ (nI w) (nI a) (nI u) (nI f) (nI k))) 111 [(0, .ref 66), (1, .int (nI w)), (2, .int (nI a)), (3, .int (nI u)), (4, .int (nI f)), (5, .int (nI k)), (6, .int (nI i))] [] (sr σ 74 (va_cpy (σ 67) (σ 74) (50 * u + f) 0 i)) := by
                        intro μ111
                        induction μ111 using Nat.strongRecOn with
                        | ind μ111 ih111 =>
                          intro i hμ111 hi
                          refine rw_go hX [(111, .iload 6), (113, .iload 5)] (by decide +kernel) (Ps := []) (pc' := 115) (lv' := [(0, .ref 66), (1, .int (nI w)), (2, .int (nI a)), (3, .int (nI u)), (4, .int (nI f)), (5, .int (nI k)), (6, .int (nI i))]) (st' := [.int (nI k), .int (nI i)]) (σ' := sr σ 74 (va_cpy (σ 67) (σ 74) (50 * u + f) 0 i)) rfl True.intro ?_
                          refine rw_icmp hX (tgt := 146) (cnd := .ge) (off := 31) (by decide +kernel) (by decide) (fun h115 => ?_) (fun h115 => ?_)
                          · replace h115 := c2_geT h115
                            have ei : i = k := by omega
                            have e67 : sr σ 74 (va_cpy (σ 67) (σ 74) (50 * u + f) 0 i) = sr (sr σ 74 (splH σ u f k)) 67 (dnR (σ 67) (50 * w + vS V w) (50 * w + vS V w) k) := by
                              rw [ei, dnR_0]
                              funext q
                              by_cases z : q = 67
                              · subst z; rw [sr_s, sr_n _ _ (by decide)]
                              · rw [sr_n _ _ z]; rfl
                            rw [e67]
                            refine rw_go hX [(146, .aload_n 0), (147, .getfield 13), (150, .iload_n 1), (151, .iaload)] (by decide +kernel) (Ps := [vp_in (nI w) 5]) (pc' := 152) (lv' := [(0, .ref 66), (1, .int (nI w)), (2, .int (nI a)), (3, .int (nI u)), (4, .int (nI f)), (5, .int (nI k)), (6, .int (nI i))]) (st' := [.int ((sr (sr σ 74 (splH σ u f k)) 67 (dnR (σ 67) (50 * w + vS V w) (50 * w + vS V w) k)) 68 (nI w).toNatClampNeg)]) (σ' := sr (sr σ 74 (splH σ u f k)) 67 (dnR (σ 67) (50 * w + vS V w) (50 * w + vS V w) k)) rfl (vp_in_nI (by omega) (by omega)) ?_
                            rw [show ((sr (sr σ 74 (splH σ u f k)) 67 (dnR (σ 67) (50 * w + vS V w) (50 * w + vS V w) k)) 68 (nI w).toNatClampNeg) = nI (vS V w) from (by rw [nI_clamp (by omega), sr_n _ _ (by decide), sr_n _ _ (by decide), (vw_at hV 1 (by omega)), wf_s hv hw])]
                            refine rw_go hX [(152, .iconst 1), (153, .isub), (154, .istore 6)] (by decide +kernel) (Ps := []) (pc' := 156) (lv' := [(0, .ref 66), (1, .int (nI w)), (2, .int (nI a)), (3, .int (nI u)), (4, .int (nI f)), (5, .int (nI k)), (6, .int (nI (vS V w) - nI 1))]) (st' := []) (σ' := sr (sr σ 74 (splH σ u f k)) 67 (dnR (σ 67) (50 * w + vS V w) (50 * w + vS V w) k)) rfl True.intro ?_
                            have L156 : ∀ (μ156 : Nat) (c : Nat), μ156 = c → (c ≤ vS V w) → (a ≤ c) → RW E G 3 7 (QI E G (fun r σ' => r = aSpl V (nI w) (nI a) (nI u) (nI f) (nI k) ∧ σ' = sSplM V σ (nI w) (nI a) (nI u) (nI f) (nI k))) 156 [(0, .ref 66), (1, .int (nI w)), (2, .int (nI a)), (3, .int (nI u)), (4, .int (nI f)), (5, .int (nI k)), (6, .int (nI c - nI 1))] [] (sr (sr σ 74 (splH σ u f k)) 67 (dnR (σ 67) (50 * w + c) (50 * w + vS V w) k)) := by
                              intro μ156
                              induction μ156 using Nat.strongRecOn with
                              | ind μ156 ih156 =>
                                intro c hμ156 hc hca2
                                refine rw_go hX [(156, .iload 6), (158, .iload_n 2)] (by decide +kernel) (Ps := []) (pc' := 159) (lv' := [(0, .ref 66), (1, .int (nI w)), (2, .int (nI a)), (3, .int (nI u)), (4, .int (nI f)), (5, .int (nI k)), (6, .int (nI c - nI 1))]) (st' := [.int (nI a), .int (nI c - nI 1)]) (σ' := sr (sr σ 74 (splH σ u f k)) 67 (dnR (σ 67) (50 * w + c) (50 * w + vS V w) k)) rfl True.intro ?_
                                refine rw_icmp hX (tgt := 195) (cnd := .lt) (off := 36) (by decide +kernel) (by decide) (fun h159 => ?_) (fun h159 => ?_)
                                · have ec : c = a := by
                                    rcases Nat.lt_or_ge a c with q | q
                                    · rw [pk_sub (show 1 ≤ c by omega)] at h159
                                      exact absurd h159 (nI_nlt (by omega) (by omega))
                                    · omega
                                  rw [show sr (sr σ 74 (splH σ u f k)) 67 (dnR (σ 67) (50 * w + c) (50 * w + vS V w) k) = sr (sr σ 74 (splH σ u f k)) 67 (va_cpy (splH σ u f k) (va_cpy (σ 67) (σ 67) (50 * w + a) (50 * w + a + k) (vS V w - a)) 0 (50 * w + a) 0) from by rw [cpy_0, ec, dnR_cpy _ (by omega), show 50 * w + vS V w - (50 * w + a) = vS V w - a by omega]]
                                  refine rw_go hX [(195, .iconst 0), (196, .istore 6)] (by decide +kernel) (Ps := []) (pc' := 198) (lv' := [(0, .ref 66), (1, .int (nI w)), (2, .int (nI a)), (3, .int (nI u)), (4, .int (nI f)), (5, .int (nI k)), (6, .int (nI 0))]) (st' := []) (σ' := sr (sr σ 74 (splH σ u f k)) 67 (va_cpy (splH σ u f k) (va_cpy (σ 67) (σ 67) (50 * w + a) (50 * w + a + k) (vS V w - a)) 0 (50 * w + a) 0)) rfl True.intro ?_
                                  have L198 : ∀ (μ198 : Nat) (i : Nat), μ198 = k - i → (i ≤ k) → RW E G 3 7 (QI E G (fun r σ' => r = aSpl V (nI w) (nI a) (nI u) (nI f) (nI k) ∧ σ' = sSplM V σ (nI w) (nI a) (nI u) (nI f) (nI k))) 198 [(0, .ref 66), (1, .int (nI w)), (2, .int (nI a)), (3, .int (nI u)), (4, .int (nI f)), (5, .int (nI k)), (6, .int (nI i))] [] (sr (sr σ 74 (splH σ u f k)) 67 (va_cpy (splH σ u f k) (va_cpy (σ 67) (σ 67) (50 * w + a) (50 * w + a + k) (vS V w - a)) 0 (50 * w + a) i)) := by
                                    intro μ198
                                    induction μ198 using Nat.strongRecOn with
                                    | ind μ198 ih198 =>
                                      intro i hμ198 hi
                                      refine rw_go hX [(198, .iload 6), (200, .iload 5)] (by decide +kernel) (Ps := []) (pc' := 202) (lv' := [(0, .ref 66), (1, .int (nI w)), (2, .int (nI a)), (3, .int (nI u)), (4, .int (nI f)), (5, .int (nI k)), (6, .int (nI i))]) (st' := [.int (nI k), .int (nI i)]) (σ' := sr (sr σ 74 (splH σ u f k)) 67 (va_cpy (splH σ u f k) (va_cpy (σ 67) (σ 67) (50 * w + a) (50 * w + a + k) (vS V w - a)) 0 (50 * w + a) i)) rfl True.intro ?_
                                      refine rw_icmp hX (tgt := 232) (cnd := .ge) (off := 30) (by decide +kernel) (by decide) (fun h202 => ?_) (fun h202 => ?_)
                                      · replace h202 := c2_geT h202
                                        have ei2 : i = k := by omega
                                        have h68 : (sr (sr σ 74 (splH σ u f k)) 67 (va_cpy (splH σ u f k) (va_cpy (σ 67) (σ 67) (50 * w + a) (50 * w + a + k) (vS V w - a)) 0 (50 * w + a) i)) 68 w = nI (vS V w) := by rw [sr_n _ _ (by decide), sr_n _ _ (by decide), (vw_at hV 1 (by omega)), wf_s hv hw]
                                        refine rw_go hX [(232, .aload_n 0), (233, .getfield 13), (236, .iload_n 1), (237, .dup2), (238, .iaload)] (by decide +kernel) (Ps := [vp_in (nI w) 5]) (pc' := 239) (lv' := [(0, .ref 66), (1, .int (nI w)), (2, .int (nI a)), (3, .int (nI u)), (4, .int (nI f)), (5, .int (nI k)), (6, .int (nI i))]) (st' := [.int ((sr (sr σ 74 (splH σ u f k)) 67 (va_cpy (splH σ u f k) (va_cpy (σ 67) (σ 67) (50 * w + a) (50 * w + a + k) (vS V w - a)) 0 (50 * w + a) i)) 68 (nI w).toNatClampNeg), .int (nI w), .ref 68]) (σ' := sr (sr σ 74 (splH σ u f k)) 67 (va_cpy (splH σ u f k) (va_cpy (σ 67) (σ 67) (50 * w + a) (50 * w + a + k) (vS V w - a)) 0 (50 * w + a) i)) rfl (vp_in_nI (by omega) (by omega)) ?_
                                        rw [show ((sr (sr σ 74 (splH σ u f k)) 67 (va_cpy (splH σ u f k) (va_cpy (σ 67) (σ 67) (50 * w + a) (50 * w + a + k) (vS V w - a)) 0 (50 * w + a) i)) 68 (nI w).toNatClampNeg) = nI (vS V w) from (by rw [nI_clamp (by omega), h68])]
                                        refine rw_go hX [(239, .iload 5), (241, .iadd)] (by decide +kernel) (Ps := []) (pc' := 242) (lv' := [(0, .ref 66), (1, .int (nI w)), (2, .int (nI a)), (3, .int (nI u)), (4, .int (nI f)), (5, .int (nI k)), (6, .int (nI i))]) (st' := [.int (nI (vS V w) + nI k), .int (nI w), .ref 68]) (σ' := sr (sr σ 74 (splH σ u f k)) 67 (va_cpy (splH σ u f k) (va_cpy (σ 67) (σ 67) (50 * w + a) (50 * w + a + k) (vS V w - a)) 0 (50 * w + a) i)) rfl True.intro ?_
                                        rw [show (nI (vS V w) + nI k) = nI (vS V w + k) from nI_add _ _]
                                        refine rw_go hX [(242, .iastore)] (by decide +kernel) (Ps := [vp_in (nI w) 5]) (pc' := 243) (lv' := [(0, .ref 66), (1, .int (nI w)), (2, .int (nI a)), (3, .int (nI u)), (4, .int (nI f)), (5, .int (nI k)), (6, .int (nI i))]) (st' := []) (σ' := sw (sr (sr σ 74 (splH σ u f k)) 67 (va_cpy (splH σ u f k) (va_cpy (σ 67) (σ 67) (50 * w + a) (50 * w + a + k) (vS V w - a)) 0 (50 * w + a) i)) 68 (nI w).toNatClampNeg (nI (vS V w + k))) rfl (vp_in_nI (by omega) (by omega)) ?_
                                        rw [show (sw (sr (sr σ 74 (splH σ u f k)) 67 (va_cpy (splH σ u f k) (va_cpy (σ 67) (σ 67) (50 * w + a) (50 * w + a + k) (vS V w - a)) 0 (50 * w + a) i)) 68 (nI w).toNatClampNeg (nI (vS V w + k))) = sw (sr (sr σ 74 (splH σ u f k)) 67 (va_cpy (splH σ u f k) (va_cpy (σ 67) (σ 67) (50 * w + a) (50 * w + a + k) (vS V w - a)) 0 (50 * w + a) i)) 68 w (nI (vS V w + k)) from (by rw [nI_clamp (by omega)])]
                                        refine rw_go hX [(243, .aload_n 0), (244, .getfield 13), (247, .iload_n 1), (248, .iaload)] (by decide +kernel) (Ps := [vp_in (nI w) 5]) (pc' := 249) (lv' := [(0, .ref 66), (1, .int (nI w)), (2, .int (nI a)), (3, .int (nI u)), (4, .int (nI f)), (5, .int (nI k)), (6, .int (nI i))]) (st' := [.int ((sw (sr (sr σ 74 (splH σ u f k)) 67 (va_cpy (splH σ u f k) (va_cpy (σ 67) (σ 67) (50 * w + a) (50 * w + a + k) (vS V w - a)) 0 (50 * w + a) i)) 68 w (nI (vS V w + k))) 68 (nI w).toNatClampNeg)]) (σ' := sw (sr (sr σ 74 (splH σ u f k)) 67 (va_cpy (splH σ u f k) (va_cpy (σ 67) (σ 67) (50 * w + a) (50 * w + a + k) (vS V w - a)) 0 (50 * w + a) i)) 68 w (nI (vS V w + k))) rfl (vp_in_nI (by omega) (by omega)) ?_
                                        rw [show ((sw (sr (sr σ 74 (splH σ u f k)) 67 (va_cpy (splH σ u f k) (va_cpy (σ 67) (σ 67) (50 * w + a) (50 * w + a + k) (vS V w - a)) 0 (50 * w + a) i)) 68 w (nI (vS V w + k))) 68 (nI w).toNatClampNeg) = nI (vS V w + k) from (by rw [nI_clamp (by omega), sw_eq])]
                                        exact rw_iret hX (by decide +kernel) (⟨by simp only [aSpl, eq_true h4, hcw, eq_true h11, hcu, eq_true h22, eq_false hvsw, eq_true h30, eq_false hvsu, eq_false h39, eq_true h55, eq_false h60, eq_false h71, hck, eq_true h85, hcf, hca, hsp, eq_true h102, eq_true hnk, eq_true h115, eq_true h202, if_true, if_false, Bool.false_eq_true, and_self, and_true, true_and, and_false, false_and], by simp only [sSplM, eq_true h4, hcw, eq_true h11, hcu, eq_true h22, eq_false hvsw, eq_true h30, eq_false hvsu, eq_false h39, eq_true h55, eq_false h60, eq_false h71, hck, eq_true h85, hcf, hca, hsp, eq_true h102, eq_true hnk, eq_true h115, eq_true h202, if_true, if_false, Bool.false_eq_true, and_self, and_true, true_and, and_false, false_and]; rw [ei2]; rfl⟩)
                                      · replace h202 := c2_geF h202
                                        refine rw_go hX [(205, .aload_n 0), (206, .getfield 9), (209, .bipush 50), (211, .iload_n 1), (212, .imul)] (by decide +kernel) (Ps := []) (pc' := 213) (lv' := [(0, .ref 66), (1, .int (nI w)), (2, .int (nI a)), (3, .int (nI u)), (4, .int (nI f)), (5, .int (nI k)), (6, .int (nI i))]) (st' := [.int (nI 50 * nI w), .ref 67]) (σ' := sr (sr σ 74 (splH σ u f k)) 67 (va_cpy (splH σ u f k) (va_cpy (σ 67) (σ 67) (50 * w + a) (50 * w + a + k) (vS V w - a)) 0 (50 * w + a) i)) rfl True.intro ?_
                                        rw [show (nI 50 * nI w) = nI (50 * w) from pk_mul _ _]
                                        refine rw_go hX [(213, .iload_n 2), (214, .iadd)] (by decide +kernel) (Ps := []) (pc' := 215) (lv' := [(0, .ref 66), (1, .int (nI w)), (2, .int (nI a)), (3, .int (nI u)), (4, .int (nI f)), (5, .int (nI k)), (6, .int (nI i))]) (st' := [.int (nI (50 * w) + nI a), .ref 67]) (σ' := sr (sr σ 74 (splH σ u f k)) 67 (va_cpy (splH σ u f k) (va_cpy (σ 67) (σ 67) (50 * w + a) (50 * w + a + k) (vS V w - a)) 0 (50 * w + a) i)) rfl True.intro ?_
                                        rw [show (nI (50 * w) + nI a) = nI (50 * w + a) from nI_add _ _]
                                        refine rw_go hX [(215, .iload 6), (217, .iadd)] (by decide +kernel) (Ps := []) (pc' := 218) (lv' := [(0, .ref 66), (1, .int (nI w)), (2, .int (nI a)), (3, .int (nI u)), (4, .int (nI f)), (5, .int (nI k)), (6, .int (nI i))]) (st' := [.int (nI (50 * w + a) + nI i), .ref 67]) (σ' := sr (sr σ 74 (splH σ u f k)) 67 (va_cpy (splH σ u f k) (va_cpy (σ 67) (σ 67) (50 * w + a) (50 * w + a + k) (vS V w - a)) 0 (50 * w + a) i)) rfl True.intro ?_
                                        rw [show (nI (50 * w + a) + nI i) = nI (50 * w + a + i) from nI_add _ _]
                                        refine rw_go hX [(218, .aload_n 0), (219, .getfield 31), (222, .iload 6), (224, .iaload)] (by decide +kernel) (Ps := [vp_in (nI i) 50]) (pc' := 225) (lv' := [(0, .ref 66), (1, .int (nI w)), (2, .int (nI a)), (3, .int (nI u)), (4, .int (nI f)), (5, .int (nI k)), (6, .int (nI i))]) (st' := [.int ((sr (sr σ 74 (splH σ u f k)) 67 (va_cpy (splH σ u f k) (va_cpy (σ 67) (σ 67) (50 * w + a) (50 * w + a + k) (vS V w - a)) 0 (50 * w + a) i)) 74 (nI i).toNatClampNeg), .int (nI (50 * w + a + i)), .ref 67]) (σ' := sr (sr σ 74 (splH σ u f k)) 67 (va_cpy (splH σ u f k) (va_cpy (σ 67) (σ 67) (50 * w + a) (50 * w + a + k) (vS V w - a)) 0 (50 * w + a) i)) rfl (vp_in_nI (by omega) (by omega)) ?_
                                        rw [show ((sr (sr σ 74 (splH σ u f k)) 67 (va_cpy (splH σ u f k) (va_cpy (σ 67) (σ 67) (50 * w + a) (50 * w + a + k) (vS V w - a)) 0 (50 * w + a) i)) 74 (nI i).toNatClampNeg) = (splH σ u f k) i from (by rw [nI_clamp (by omega), sr_n _ _ (by decide), sr_s])]
                                        refine rw_go hX [(225, .iastore)] (by decide +kernel) (Ps := [vp_in (nI (50 * w + a + i)) 250]) (pc' := 226) (lv' := [(0, .ref 66), (1, .int (nI w)), (2, .int (nI a)), (3, .int (nI u)), (4, .int (nI f)), (5, .int (nI k)), (6, .int (nI i))]) (st' := []) (σ' := sw (sr (sr σ 74 (splH σ u f k)) 67 (va_cpy (splH σ u f k) (va_cpy (σ 67) (σ 67) (50 * w + a) (50 * w + a + k) (vS V w - a)) 0 (50 * w + a) i)) 67 (nI (50 * w + a + i)).toNatClampNeg ((splH σ u f k) i)) rfl (vp_in_nI (by omega) (by omega)) ?_
                                        rw [show (sw (sr (sr σ 74 (splH σ u f k)) 67 (va_cpy (splH σ u f k) (va_cpy (σ 67) (σ 67) (50 * w + a) (50 * w + a + k) (vS V w - a)) 0 (50 * w + a) i)) 67 (nI (50 * w + a + i)).toNatClampNeg ((splH σ u f k) i)) = sw (sr (sr σ 74 (splH σ u f k)) 67 (va_cpy (splH σ u f k) (va_cpy (σ 67) (σ 67) (50 * w + a) (50 * w + a + k) (vS V w - a)) 0 (50 * w + a) i)) 67 (50 * w + a + i) ((splH σ u f k) i) from (by rw [nI_clamp (by omega)])]
                                        refine rw_go hX [(226, .iinc 6 1)] (by decide +kernel) (Ps := []) (pc' := 229) (lv' := [(0, .ref 66), (1, .int (nI w)), (2, .int (nI a)), (3, .int (nI u)), (4, .int (nI f)), (5, .int (nI k)), (6, .int (nI i + nI 1))]) (st' := []) (σ' := sw (sr (sr σ 74 (splH σ u f k)) 67 (va_cpy (splH σ u f k) (va_cpy (σ 67) (σ 67) (50 * w + a) (50 * w + a + k) (vS V w - a)) 0 (50 * w + a) i)) 67 (50 * w + a + i) ((splH σ u f k) i)) rfl True.intro ?_
                                        rw [show (nI i + nI 1) = nI (i + 1) from nI_add _ _]
                                        refine rw_go hX [(229, .goto (-31))] (by decide +kernel) (Ps := []) (pc' := 198) (lv' := [(0, .ref 66), (1, .int (nI w)), (2, .int (nI a)), (3, .int (nI u)), (4, .int (nI f)), (5, .int (nI k)), (6, .int (nI (i + 1)))]) (st' := []) (σ' := sw (sr (sr σ 74 (splH σ u f k)) 67 (va_cpy (splH σ u f k) (va_cpy (σ 67) (σ 67) (50 * w + a) (50 * w + a + k) (vS V w - a)) 0 (50 * w + a) i)) 67 (50 * w + a + i) ((splH σ u f k) i)) rfl True.intro ?_
                                        refine rw_lsub (ks := [0, 1, 2, 3, 4, 5, 6]) (lv' := [(0, .ref 66), (1, .int (nI w)), (2, .int (nI a)), (3, .int (nI u)), (4, .int (nI f)), (5, .int (nI k)), (6, .int (nI (i + 1)))]) rfl ?_
                                        have q := ih198 (k - (i + 1)) (by omega) (i + 1) rfl (by omega)
                                        rw [← cpy_1, Nat.zero_add] at q
                                        rw [sw_sr]
                                        exact q
                                  refine rw_lsub (ks := [0, 1, 2, 3, 4, 5, 6]) (lv' := [(0, .ref 66), (1, .int (nI w)), (2, .int (nI a)), (3, .int (nI u)), (4, .int (nI f)), (5, .int (nI k)), (6, .int (nI 0))]) rfl ?_
                                  exact L198 k 0 rfl (by omega)
                                · have hc1 : a < c := by
                                    rcases Nat.lt_or_ge a c with q | q
                                    · exact q
                                    · have q2 : c = a := by omega
                                      exfalso
                                      apply h159
                                      rw [q2]
                                      rcases Nat.eq_zero_or_pos a with z | z
                                      · subst z; show nI 0 - nI 1 < nI 0; decide +kernel
                                      · rw [pk_sub (show 1 ≤ a from z)]; show nI (a - 1) < nI a; exact nI_lt (by omega) (by omega)
                                  rw [show (nI c - nI 1) = nI (c - 1) from pk_sub (by omega)]
                                  refine rw_go hX [(162, .aload_n 0), (163, .getfield 9), (166, .bipush 50), (168, .iload_n 1), (169, .imul)] (by decide +kernel) (Ps := []) (pc' := 170) (lv' := [(0, .ref 66), (1, .int (nI w)), (2, .int (nI a)), (3, .int (nI u)), (4, .int (nI f)), (5, .int (nI k)), (6, .int (nI (c - 1)))]) (st' := [.int (nI 50 * nI w), .ref 67]) (σ' := sr (sr σ 74 (splH σ u f k)) 67 (dnR (σ 67) (50 * w + c) (50 * w + vS V w) k)) rfl True.intro ?_
                                  rw [show (nI 50 * nI w) = nI (50 * w) from pk_mul _ _]
                                  refine rw_go hX [(170, .iload 6), (172, .iadd)] (by decide +kernel) (Ps := []) (pc' := 173) (lv' := [(0, .ref 66), (1, .int (nI w)), (2, .int (nI a)), (3, .int (nI u)), (4, .int (nI f)), (5, .int (nI k)), (6, .int (nI (c - 1)))]) (st' := [.int (nI (50 * w) + nI (c - 1)), .ref 67]) (σ' := sr (sr σ 74 (splH σ u f k)) 67 (dnR (σ 67) (50 * w + c) (50 * w + vS V w) k)) rfl True.intro ?_
                                  rw [show (nI (50 * w) + nI (c - 1)) = nI (50 * w + (c - 1)) from nI_add _ _]
                                  refine rw_go hX [(173, .iload 5), (175, .iadd)] (by decide +kernel) (Ps := []) (pc' := 176) (lv' := [(0, .ref 66), (1, .int (nI w)), (2, .int (nI a)), (3, .int (nI u)), (4, .int (nI f)), (5, .int (nI k)), (6, .int (nI (c - 1)))]) (st' := [.int (nI (50 * w + (c - 1)) + nI k), .ref 67]) (σ' := sr (sr σ 74 (splH σ u f k)) 67 (dnR (σ 67) (50 * w + c) (50 * w + vS V w) k)) rfl True.intro ?_
                                  rw [show (nI (50 * w + (c - 1)) + nI k) = nI (50 * w + (c - 1) + k) from nI_add _ _]
                                  refine rw_go hX [(176, .aload_n 0), (177, .getfield 9), (180, .bipush 50), (182, .iload_n 1), (183, .imul)] (by decide +kernel) (Ps := []) (pc' := 184) (lv' := [(0, .ref 66), (1, .int (nI w)), (2, .int (nI a)), (3, .int (nI u)), (4, .int (nI f)), (5, .int (nI k)), (6, .int (nI (c - 1)))]) (st' := [.int (nI 50 * nI w), .ref 67, .int (nI (50 * w + (c - 1) + k)), .ref 67]) (σ' := sr (sr σ 74 (splH σ u f k)) 67 (dnR (σ 67) (50 * w + c) (50 * w + vS V w) k)) rfl True.intro ?_
                                  rw [show (nI 50 * nI w) = nI (50 * w) from pk_mul _ _]
                                  refine rw_go hX [(184, .iload 6), (186, .iadd)] (by decide +kernel) (Ps := []) (pc' := 187) (lv' := [(0, .ref 66), (1, .int (nI w)), (2, .int (nI a)), (3, .int (nI u)), (4, .int (nI f)), (5, .int (nI k)), (6, .int (nI (c - 1)))]) (st' := [.int (nI (50 * w) + nI (c - 1)), .ref 67, .int (nI (50 * w + (c - 1) + k)), .ref 67]) (σ' := sr (sr σ 74 (splH σ u f k)) 67 (dnR (σ 67) (50 * w + c) (50 * w + vS V w) k)) rfl True.intro ?_
                                  rw [show (nI (50 * w) + nI (c - 1)) = nI (50 * w + (c - 1)) from nI_add _ _]
                                  refine rw_go hX [(187, .iaload)] (by decide +kernel) (Ps := [vp_in (nI (50 * w + (c - 1))) 250]) (pc' := 188) (lv' := [(0, .ref 66), (1, .int (nI w)), (2, .int (nI a)), (3, .int (nI u)), (4, .int (nI f)), (5, .int (nI k)), (6, .int (nI (c - 1)))]) (st' := [.int ((sr (sr σ 74 (splH σ u f k)) 67 (dnR (σ 67) (50 * w + c) (50 * w + vS V w) k)) 67 (nI (50 * w + (c - 1))).toNatClampNeg), .int (nI (50 * w + (c - 1) + k)), .ref 67]) (σ' := sr (sr σ 74 (splH σ u f k)) 67 (dnR (σ 67) (50 * w + c) (50 * w + vS V w) k)) rfl (vp_in_nI (by omega) (by omega)) ?_
                                  rw [show ((sr (sr σ 74 (splH σ u f k)) 67 (dnR (σ 67) (50 * w + c) (50 * w + vS V w) k)) 67 (nI (50 * w + (c - 1))).toNatClampNeg) = σ 67 (50 * w + (c - 1)) from (by rw [nI_clamp (by omega), sr_s, dnR_g hc1 hk1])]
                                  refine rw_go hX [(188, .iastore)] (by decide +kernel) (Ps := [vp_in (nI (50 * w + (c - 1) + k)) 250]) (pc' := 189) (lv' := [(0, .ref 66), (1, .int (nI w)), (2, .int (nI a)), (3, .int (nI u)), (4, .int (nI f)), (5, .int (nI k)), (6, .int (nI (c - 1)))]) (st' := []) (σ' := sw (sr (sr σ 74 (splH σ u f k)) 67 (dnR (σ 67) (50 * w + c) (50 * w + vS V w) k)) 67 (nI (50 * w + (c - 1) + k)).toNatClampNeg (σ 67 (50 * w + (c - 1)))) rfl (vp_in_nI (by omega) (by omega)) ?_
                                  rw [show (sw (sr (sr σ 74 (splH σ u f k)) 67 (dnR (σ 67) (50 * w + c) (50 * w + vS V w) k)) 67 (nI (50 * w + (c - 1) + k)).toNatClampNeg (σ 67 (50 * w + (c - 1)))) = sw (sr (sr σ 74 (splH σ u f k)) 67 (dnR (σ 67) (50 * w + c) (50 * w + vS V w) k)) 67 (50 * w + (c - 1) + k) (σ 67 (50 * w + (c - 1))) from (by rw [nI_clamp (by omega)])]
                                  refine rw_go hX [(189, .iinc 6 (-1)), (192, .goto (-36))] (by decide +kernel) (Ps := []) (pc' := 156) (lv' := [(0, .ref 66), (1, .int (nI w)), (2, .int (nI a)), (3, .int (nI u)), (4, .int (nI f)), (5, .int (nI k)), (6, .int (nI (c - 1) + (-(nI 1))))]) (st' := []) (σ' := sw (sr (sr σ 74 (splH σ u f k)) 67 (dnR (σ 67) (50 * w + c) (50 * w + vS V w) k)) 67 (50 * w + (c - 1) + k) (σ 67 (50 * w + (c - 1)))) rfl True.intro ?_
                                  refine rw_lsub (ks := [0, 1, 2, 3, 4, 5, 6]) (lv' := [(0, .ref 66), (1, .int (nI w)), (2, .int (nI a)), (3, .int (nI u)), (4, .int (nI f)), (5, .int (nI k)), (6, .int (nI (c - 1) + (-(nI 1))))]) rfl ?_
                                  have q := ih156 (c - 1) (by omega) (c - 1) rfl (by omega) (by omega)
                                  rw [add_m1, sw_sr, show 50 * w + (c - 1) + k = 50 * w + (c - 1) + k from rfl]
                                  have d := dnR_1 (σ 67) (lo := 50 * w + (c - 1)) (hi := 50 * w + vS V w) (n := k) (by omega) hk1
                                  rw [show 50 * w + (c - 1) + 1 = 50 * w + c by omega] at d
                                  rw [d]
                                  exact q
                            refine rw_lsub (ks := [0, 1, 2, 3, 4, 5, 6]) (lv' := [(0, .ref 66), (1, .int (nI w)), (2, .int (nI a)), (3, .int (nI u)), (4, .int (nI f)), (5, .int (nI k)), (6, .int (nI (vS V w) - nI 1))]) rfl ?_
                            exact L156 (vS V w) (vS V w) rfl (by omega) (by omega)
                          · replace h115 := c2_geF h115
                            refine rw_go hX [(118, .aload_n 0), (119, .getfield 31), (122, .iload 6), (124, .aload_n 0), (125, .getfield 9), (128, .bipush 50), (130, .iload_n 3), (131, .imul)] (by decide +kernel) (Ps := []) (pc' := 132) (lv' := [(0, .ref 66), (1, .int (nI w)), (2, .int (nI a)), (3, .int (nI u)), (4, .int (nI f)), (5, .int (nI k)), (6, .int (nI i))]) (st' := [.int (nI 50 * nI u), .ref 67, .int (nI i), .ref 74]) (σ' := sr σ 74 (va_cpy (σ 67) (σ 74) (50 * u + f) 0 i)) rfl True.intro ?_
                            rw [show (nI 50 * nI u) = nI (50 * u) from pk_mul _ _]
                            refine rw_go hX [(132, .iload 4), (134, .iadd)] (by decide +kernel) (Ps := []) (pc' := 135) (lv' := [(0, .ref 66), (1, .int (nI w)), (2, .int (nI a)), (3, .int (nI u)), (4, .int (nI f)), (5, .int (nI k)), (6, .int (nI i))]) (st' := [.int (nI (50 * u) + nI f), .ref 67, .int (nI i), .ref 74]) (σ' := sr σ 74 (va_cpy (σ 67) (σ 74) (50 * u + f) 0 i)) rfl True.intro ?_
                            rw [show (nI (50 * u) + nI f) = nI (50 * u + f) from nI_add _ _]
                            refine rw_go hX [(135, .iload 6), (137, .iadd)] (by decide +kernel) (Ps := []) (pc' := 138) (lv' := [(0, .ref 66), (1, .int (nI w)), (2, .int (nI a)), (3, .int (nI u)), (4, .int (nI f)), (5, .int (nI k)), (6, .int (nI i))]) (st' := [.int (nI (50 * u + f) + nI i), .ref 67, .int (nI i), .ref 74]) (σ' := sr σ 74 (va_cpy (σ 67) (σ 74) (50 * u + f) 0 i)) rfl True.intro ?_
                            rw [show (nI (50 * u + f) + nI i) = nI (50 * u + f + i) from nI_add _ _]
                            refine rw_go hX [(138, .iaload)] (by decide +kernel) (Ps := [vp_in (nI (50 * u + f + i)) 250]) (pc' := 139) (lv' := [(0, .ref 66), (1, .int (nI w)), (2, .int (nI a)), (3, .int (nI u)), (4, .int (nI f)), (5, .int (nI k)), (6, .int (nI i))]) (st' := [.int ((sr σ 74 (va_cpy (σ 67) (σ 74) (50 * u + f) 0 i)) 67 (nI (50 * u + f + i)).toNatClampNeg), .int (nI i), .ref 74]) (σ' := sr σ 74 (va_cpy (σ 67) (σ 74) (50 * u + f) 0 i)) rfl (vp_in_nI (by omega) (by omega)) ?_
                            rw [show ((sr σ 74 (va_cpy (σ 67) (σ 74) (50 * u + f) 0 i)) 67 (nI (50 * u + f + i)).toNatClampNeg) = σ 67 (50 * u + f + i) from (by rw [nI_clamp (by omega), sr_n _ _ (by decide)])]
                            refine rw_go hX [(139, .iastore)] (by decide +kernel) (Ps := [vp_in (nI i) 50]) (pc' := 140) (lv' := [(0, .ref 66), (1, .int (nI w)), (2, .int (nI a)), (3, .int (nI u)), (4, .int (nI f)), (5, .int (nI k)), (6, .int (nI i))]) (st' := []) (σ' := sw (sr σ 74 (va_cpy (σ 67) (σ 74) (50 * u + f) 0 i)) 74 (nI i).toNatClampNeg (σ 67 (50 * u + f + i))) rfl (vp_in_nI (by omega) (by omega)) ?_
                            rw [show (sw (sr σ 74 (va_cpy (σ 67) (σ 74) (50 * u + f) 0 i)) 74 (nI i).toNatClampNeg (σ 67 (50 * u + f + i))) = sw (sr σ 74 (va_cpy (σ 67) (σ 74) (50 * u + f) 0 i)) 74 i (σ 67 (50 * u + f + i)) from (by rw [nI_clamp (by omega)])]
                            refine rw_go hX [(140, .iinc 6 1)] (by decide +kernel) (Ps := []) (pc' := 143) (lv' := [(0, .ref 66), (1, .int (nI w)), (2, .int (nI a)), (3, .int (nI u)), (4, .int (nI f)), (5, .int (nI k)), (6, .int (nI i + nI 1))]) (st' := []) (σ' := sw (sr σ 74 (va_cpy (σ 67) (σ 74) (50 * u + f) 0 i)) 74 i (σ 67 (50 * u + f + i))) rfl True.intro ?_
                            rw [show (nI i + nI 1) = nI (i + 1) from nI_add _ _]
                            refine rw_go hX [(143, .goto (-32))] (by decide +kernel) (Ps := []) (pc' := 111) (lv' := [(0, .ref 66), (1, .int (nI w)), (2, .int (nI a)), (3, .int (nI u)), (4, .int (nI f)), (5, .int (nI k)), (6, .int (nI (i + 1)))]) (st' := []) (σ' := sw (sr σ 74 (va_cpy (σ 67) (σ 74) (50 * u + f) 0 i)) 74 i (σ 67 (50 * u + f + i))) rfl True.intro ?_
                            refine rw_lsub (ks := [0, 1, 2, 3, 4, 5, 6]) (lv' := [(0, .ref 66), (1, .int (nI w)), (2, .int (nI a)), (3, .int (nI u)), (4, .int (nI f)), (5, .int (nI k)), (6, .int (nI (i + 1)))]) rfl ?_
                            have q := ih111 (k - (i + 1)) (by omega) (i + 1) rfl (by omega)
                            rw [← cpy_1, Nat.zero_add] at q
                            rw [sw_sr]
                            exact q
                      refine rw_lsub (ks := [0, 1, 2, 3, 4, 5, 6]) (lv' := [(0, .ref 66), (1, .int (nI w)), (2, .int (nI a)), (3, .int (nI u)), (4, .int (nI f)), (5, .int (nI k)), (6, .int (nI 0))]) rfl ?_
                      have q := L111 k 0 rfl (by omega)
                      rw [cpy_0, sr_id] at q
                      exact q
                    · replace h102 := c2_leF h102
                      have hnk : ¬ nI k ≤ nI (50 - vS V w) := nI_ge (by omega) (by omega)
                      refine rw_go hX [(105, .bipush (-4))] (by decide +kernel) (Ps := []) (pc' := 107) (lv' := [(0, .ref 66), (1, .int (nI w)), (2, .int (nI a)), (3, .int (nI u)), (4, .int (nI f)), (5, .int (nI k))]) (st' := [.int (-(nI 4))]) (σ' := σ) rfl True.intro ?_
                      exact rw_iret hX (by decide +kernel) (⟨by simp only [aSpl, eq_true h4, hcw, eq_true h11, hcu, eq_true h22, eq_false hvsw, eq_true h30, eq_false hvsu, eq_false h39, eq_true h55, eq_false h60, eq_false h71, hck, eq_true h85, hcf, hca, hsp, eq_true h102, eq_false hnk, if_true, if_false, Bool.false_eq_true, and_self, and_true, true_and, and_false, false_and] <;> rfl, by simp only [sSplM, eq_true h4, hcw, eq_true h11, hcu, eq_true h22, eq_false hvsw, eq_true h30, eq_false hvsu, eq_false h39, eq_true h55, eq_false h60, eq_false h71, hck, eq_true h85, hcf, hca, hsp, eq_true h102, eq_false hnk, if_true, if_false, Bool.false_eq_true, and_self, and_true, true_and, and_false, false_and] <;> rfl⟩)
                  · replace h85 : ¬ (xf ≤ nI (vS V u - k)) := h85
                    have hsp : pz (spOK xa xf (nI k) (vS V w) (vS V u)) = false := pz_f fun ⟨a, f, k9, e1, e2, e3, g1, g2, g3⟩ => by
                      rw [e2] at h85; exact absurd (nI_le (show f ≤ vS V u - _ from by
                        have e9 := (nI_eq (by omega) (by omega)).mp e3
                        omega) (by omega)) h85
                    refine rw_go hX [(88, .bipush (-12))] (by decide +kernel) (Ps := []) (pc' := 90) (lv' := [(0, .ref 66), (1, .int (nI w)), (2, .int xa), (3, .int (nI u)), (4, .int xf), (5, .int (nI k))]) (st' := [.int (-(nI 12))]) (σ' := σ) rfl True.intro ?_
                    exact rw_iret hX (by decide +kernel) (⟨by simp only [aSpl, eq_true h4, hcw, eq_true h11, hcu, eq_true h22, eq_false hvsw, eq_true h30, eq_false hvsu, eq_false h39, eq_true h55, eq_false h60, eq_false h71, hck, eq_false h85, hsp, if_true, if_false, Bool.false_eq_true, and_self, and_true, true_and, and_false, false_and] <;> rfl, by simp only [sSplM, eq_true h4, hcw, eq_true h11, hcu, eq_true h22, eq_false hvsw, eq_true h30, eq_false hvsu, eq_false h39, eq_true h55, eq_false h60, eq_false h71, hck, eq_false h85, hsp, if_true, if_false, Bool.false_eq_true, and_self, and_true, true_and, and_false, false_and] <;> rfl⟩)
        · replace h30 := of_decide_eq_false (zb_neF h30)
          have hvsu : vS V u = 0 := by omega
          refine rw_go hX [(33, .bipush (-11))] (by decide +kernel) (Ps := []) (pc' := 35) (lv' := [(0, .ref 66), (1, .int (nI w)), (2, .int xa), (3, .int (nI u)), (4, .int xf), (5, .int xn)]) (st' := [.int (-(nI 11))]) (σ' := σ) rfl True.intro ?_
          exact rw_iret hX (by decide +kernel) (⟨by simp only [aSpl, eq_true h4, hcw, eq_true h11, hcu, eq_true h22, eq_false hvsw, eq_false h30, eq_true hvsu, if_true, if_false, Bool.false_eq_true, and_self, and_true, true_and, and_false, false_and] <;> rfl, by simp only [sSplM, eq_true h4, hcw, eq_true h11, hcu, eq_true h22, eq_false hvsw, eq_false h30, eq_true hvsu, if_true, if_false, Bool.false_eq_true, and_self, and_true, true_and, and_false, false_and] <;> rfl⟩)
    · replace h11 := of_decide_eq_false (zb_neF h11)
      refine rw_go hX [(14, .bipush (-2))] (by decide +kernel) (Ps := []) (pc' := 16) (lv' := [(0, .ref 66), (1, .int (nI w)), (2, .int xa), (3, .int xo), (4, .int xf), (5, .int xn)]) (st' := [.int (-(nI 2))]) (σ' := σ) rfl True.intro ?_
      exact rw_iret hX (by decide +kernel) (⟨by simp only [aSpl, eq_true h4, hcw, eq_false h11, if_true, if_false, Bool.false_eq_true, and_self, and_true, true_and, and_false, false_and] <;> rfl, by simp only [sSplM, eq_true h4, hcw, eq_false h11, if_true, if_false, Bool.false_eq_true, and_self, and_true, true_and, and_false, false_and] <;> rfl⟩)
theorem cpy_o {f : Nat → Int32} {w a k c p : Nat} (h : 50 * w + a + (c - a) ≤ p) : va_cpy f f (50 * w + a + k) (50 * w + a) (c - a) p = f p := pk_cpy_out (Or.inr h)
set_option maxRecDepth 20000 in
set_option maxHeartbeats 4000000 in
theorem g_cut (l : Launch) (G : Gl) (σ : Mm) (V : Mm) (xw xa xn : Int32) (hV : vw σ 67 = V) (hv : wf V) : AMi l G 3 mX10_cut [.ref 66, .int xw, .int xa, .int xn] σ (fun r σ' => r = aCut V xw xa xn ∧ σ' = sCutM V σ xw xa xn) := by
  refine rw_inI 10 (by decide +kernel) rfl rfl ?_
  intro E hE hX
  subst hE
  refine rw_go hX [(0, .iload_n 1)] (by decide +kernel) (Ps := []) (pc' := 1) (lv' := [(0, .ref 66), (1, .int xw), (2, .int xa), (3, .int xn)]) (st' := [.int xw]) (σ' := σ) rfl True.intro ?_
  refine rw_callSi hX (as := [.int xw]) (rest := []) (m_isWork _ _ _ (xw)) (by decide +kernel) msX10_isWork (Or.inl lk10_157) rfl (by decide) (Nat.le_of_ble_eq_true rfl) rfl ?_
  intro r1 σ1 hr
  rw [hr.1, show r1 = bz (decide (0 ≤ xw ∧ xw ≤ 4)) from hr.2]
  clear hr σ1 r1
  refine rw_if hX (tgt := 10) (cnd := .ne) (off := 6) (by decide +kernel) (by decide) (fun h4 => ?_) (fun h4 => ?_)
  · replace h4 := of_decide_eq_true (zb_neT h4)
    obtain ⟨w, hw, rfl⟩ := rng (m := 4) (by omega) h4
    have hw : w < 5 := hw
    have hcw : (nI w).toNatClampNeg = w := nI_clamp (by omega)
    have hs5 := wf_s50 hv hw
    refine rw_go hX [(10, .aload_n 0), (11, .iload_n 1)] (by decide +kernel) (Ps := []) (pc' := 12) (lv' := [(0, .ref 66), (1, .int (nI w)), (2, .int xa), (3, .int xn)]) (st' := [.int (nI w), .ref 66]) (σ' := σ) rfl True.intro ?_
    refine rw_callVi hX (as := [.int (nI w)]) (rest := []) (m_there _ _ _ V w hV hv hw) (by decide +kernel) mvX10_isThere lk10_132 (ci := 9) rfl rfl rfl (by decide) (Nat.le_of_ble_eq_true rfl) rfl ?_
    intro r1 σ1 hr
    rw [hr.1, show r1 = bz (decide (0 < vS V w)) from hr.2]
    clear hr σ1 r1
    refine rw_if hX (tgt := 21) (cnd := .ne) (off := 6) (by decide +kernel) (by decide) (fun h15 => ?_) (fun h15 => ?_)
    · replace h15 := of_decide_eq_true (zb_neT h15)
      have hvsw : ¬ vS V w = 0 := by omega
      refine rw_go hX [(21, .iload_n 3), (22, .iconst 1)] (by decide +kernel) (Ps := []) (pc' := 23) (lv' := [(0, .ref 66), (1, .int (nI w)), (2, .int xa), (3, .int xn)]) (st' := [.int (nI 1), .int xn]) (σ' := σ) rfl True.intro ?_
      refine rw_icmp hX (tgt := 52) (cnd := .lt) (off := 29) (by decide +kernel) (by decide) (fun h23 => ?_) (fun h23 => ?_)
      · replace h23 : (xn < nI 1) := h23
        have hsp : pz (ctOK xa xn (vS V w)) = false := pz_f fun ⟨a, k, e1, e2, g1, g2⟩ => by
          rw [e2] at h23; exact absurd (nI_le g1 (by omega)) (Int32.not_le.mpr h23)
        refine rw_go hX [(52, .bipush (-12))] (by decide +kernel) (Ps := []) (pc' := 54) (lv' := [(0, .ref 66), (1, .int (nI w)), (2, .int xa), (3, .int xn)]) (st' := [.int (-(nI 12))]) (σ' := σ) rfl True.intro ?_
        exact rw_iret hX (by decide +kernel) (⟨by simp only [aCut, eq_true h4, hcw, eq_true h15, eq_false hvsw, eq_true h23, hsp, if_true, if_false, Bool.false_eq_true, and_self, and_true, true_and, and_false, false_and] <;> rfl, by simp only [sCutM, eq_true h4, hcw, eq_true h15, eq_false hvsw, eq_true h23, hsp, if_true, if_false, Bool.false_eq_true, and_self, and_true, true_and, and_false, false_and] <;> rfl⟩)
      · replace h23 : ¬ (xn < nI 1) := h23
        refine rw_go hX [(26, .iload_n 2)] (by decide +kernel) (Ps := []) (pc' := 27) (lv' := [(0, .ref 66), (1, .int (nI w)), (2, .int xa), (3, .int xn)]) (st' := [.int xa]) (σ' := σ) rfl True.intro ?_
        refine rw_if hX (tgt := 52) (cnd := .lt) (off := 25) (by decide +kernel) (by decide) (fun h27 => ?_) (fun h27 => ?_)
        · replace h27 : (xa < 0) := h27
          have hsp : pz (ctOK xa xn (vS V w)) = false := pz_f fun ⟨a, k, e1, e2, g1, g2⟩ => by
            rw [e1] at h27; exact absurd h27 (nI_pos (by omega))
          refine rw_go hX [(52, .bipush (-12))] (by decide +kernel) (Ps := []) (pc' := 54) (lv' := [(0, .ref 66), (1, .int (nI w)), (2, .int xa), (3, .int xn)]) (st' := [.int (-(nI 12))]) (σ' := σ) rfl True.intro ?_
          exact rw_iret hX (by decide +kernel) (⟨by simp only [aCut, eq_true h4, hcw, eq_true h15, eq_false hvsw, eq_false h23, eq_true h27, hsp, if_true, if_false, Bool.false_eq_true, and_self, and_true, true_and, and_false, false_and] <;> rfl, by simp only [sCutM, eq_true h4, hcw, eq_true h15, eq_false hvsw, eq_false h23, eq_true h27, hsp, if_true, if_false, Bool.false_eq_true, and_self, and_true, true_and, and_false, false_and] <;> rfl⟩)
        · replace h27 : ¬ (xa < 0) := h27
          refine rw_go hX [(30, .iload_n 3), (31, .aload_n 0), (32, .getfield 13), (35, .iload_n 1), (36, .iaload)] (by decide +kernel) (Ps := [vp_in (nI w) 5]) (pc' := 37) (lv' := [(0, .ref 66), (1, .int (nI w)), (2, .int xa), (3, .int xn)]) (st' := [.int (σ 68 (nI w).toNatClampNeg), .int xn]) (σ' := σ) rfl (vp_in_nI (by omega) (by omega)) ?_
          rw [show (σ 68 (nI w).toNatClampNeg) = nI (vS V w) from (by rw [nI_clamp (by omega), (vw_at hV 1 (by omega)), wf_s hv hw])]
          refine rw_icmp hX (tgt := 52) (cnd := .gt) (off := 15) (by decide +kernel) (by decide) (fun h37 => ?_) (fun h37 => ?_)
          · replace h37 : (xn > nI (vS V w)) := h37
            have hsp : pz (ctOK xa xn (vS V w)) = false := pz_f fun ⟨a, k, e1, e2, g1, g2⟩ => by
              rw [e2] at h37; exact absurd (nI_le (show k ≤ vS V w by omega) (by omega)) (Int32.not_le.mpr h37)
            refine rw_go hX [(52, .bipush (-12))] (by decide +kernel) (Ps := []) (pc' := 54) (lv' := [(0, .ref 66), (1, .int (nI w)), (2, .int xa), (3, .int xn)]) (st' := [.int (-(nI 12))]) (σ' := σ) rfl True.intro ?_
            exact rw_iret hX (by decide +kernel) (⟨by simp only [aCut, eq_true h4, hcw, eq_true h15, eq_false hvsw, eq_false h23, eq_false h27, eq_true h37, hsp, if_true, if_false, Bool.false_eq_true, and_self, and_true, true_and, and_false, false_and] <;> rfl, by simp only [sCutM, eq_true h4, hcw, eq_true h15, eq_false hvsw, eq_false h23, eq_false h27, eq_true h37, hsp, if_true, if_false, Bool.false_eq_true, and_self, and_true, true_and, and_false, false_and] <;> rfl⟩)
          · replace h37 : ¬ (xn > nI (vS V w)) := h37
            have hn0 : ¬ xn < 0 := fun z => h23 (Int32.lt_of_lt_of_le z (nI_pos' (by omega)))
            obtain ⟨k, hk, rfl⟩ := rng (m := vS V w) (by omega) ⟨Int32.not_lt.mp hn0, Int32.not_lt.mp h37⟩
            have hk1 : 1 ≤ k := Nat.not_lt.mp fun z => h23 (nI_lt z (by omega))
            have hck : (nI k).toNatClampNeg = k := nI_clamp (by omega)
            refine rw_go hX [(40, .iload_n 2), (41, .aload_n 0), (42, .getfield 13), (45, .iload_n 1), (46, .iaload)] (by decide +kernel) (Ps := [vp_in (nI w) 5]) (pc' := 47) (lv' := [(0, .ref 66), (1, .int (nI w)), (2, .int xa), (3, .int (nI k))]) (st' := [.int (σ 68 (nI w).toNatClampNeg), .int xa]) (σ' := σ) rfl (vp_in_nI (by omega) (by omega)) ?_
            rw [show (σ 68 (nI w).toNatClampNeg) = nI (vS V w) from (by rw [nI_clamp (by omega), (vw_at hV 1 (by omega)), wf_s hv hw])]
            refine rw_go hX [(47, .iload_n 3), (48, .isub)] (by decide +kernel) (Ps := []) (pc' := 49) (lv' := [(0, .ref 66), (1, .int (nI w)), (2, .int xa), (3, .int (nI k))]) (st' := [.int (nI (vS V w) - nI k), .int xa]) (σ' := σ) rfl True.intro ?_
            rw [show (nI (vS V w) - nI k) = nI (vS V w - k) from pk_sub (by omega)]
            refine rw_icmp hX (tgt := 55) (cnd := .le) (off := 6) (by decide +kernel) (by decide) (fun h49 => ?_) (fun h49 => ?_)
            · replace h49 : (xa ≤ nI (vS V w - k)) := h49
              obtain ⟨a, ha, rfl⟩ := rng (m := vS V w - k) (by omega) ⟨Int32.not_lt.mp h27, h49⟩
              have hca : (nI a).toNatClampNeg = a := nI_clamp (by omega)
              have hsp : pz (ctOK (nI a) (nI k) (vS V w)) = true := pz_t ⟨a, k, rfl, rfl, hk1, by omega⟩
              refine rw_go hX [(55, .iload_n 3), (56, .aload_n 0), (57, .getfield 13), (60, .iload_n 1), (61, .iaload)] (by decide +kernel) (Ps := [vp_in (nI w) 5]) (pc' := 62) (lv' := [(0, .ref 66), (1, .int (nI w)), (2, .int (nI a)), (3, .int (nI k))]) (st' := [.int (σ 68 (nI w).toNatClampNeg), .int (nI k)]) (σ' := σ) rfl (vp_in_nI (by omega) (by omega)) ?_
              rw [show (σ 68 (nI w).toNatClampNeg) = nI (vS V w) from (by rw [nI_clamp (by omega), (vw_at hV 1 (by omega)), wf_s hv hw])]
              refine rw_icmp hX (tgt := 68) (cnd := .ne) (off := 6) (by decide +kernel) (by decide) (fun h62 => ?_) (fun h62 => ?_)
              · replace h62 := c2_neT h62
                have hnk : ¬ nI k = nI (vS V w) := fun z => h62 ((nI_eq (by omega) (by omega)).mp z)
                refine rw_go hX [(68, .iload_n 2), (69, .istore 4)] (by decide +kernel) (Ps := []) (pc' := 71) (lv' := [(0, .ref 66), (1, .int (nI w)), (2, .int (nI a)), (3, .int (nI k)), (4, .int (nI a))]) (st' := []) (σ' := σ) rfl True.intro ?_
                have L71 : ∀ (μ71 : Nat) (c : Nat), μ71 = vS V w - c → (a ≤ c) → (c + k ≤ vS V w) → RW E G 3 5 (QI E G (fun r σ' => r = aCut V (nI w) (nI a) (nI k) ∧ σ' = sCutM V σ (nI w) (nI a) (nI k))) 71 [(0, .ref 66), (1, .int (nI w)), (2, .int (nI a)), (3, .int (nI k)), (4, .int (nI c))] [] (sr σ 67 (va_cpy (σ 67) (σ 67) (50 * w + a + k) (50 * w + a) (c - a))) := by
                  intro μ71
                  induction μ71 using Nat.strongRecOn with
                  | ind μ71 ih71 =>
                    intro c hμ71 hc hc2
                    refine rw_go hX [(71, .iload 4), (73, .iload_n 3), (74, .iadd)] (by decide +kernel) (Ps := []) (pc' := 75) (lv' := [(0, .ref 66), (1, .int (nI w)), (2, .int (nI a)), (3, .int (nI k)), (4, .int (nI c))]) (st' := [.int (nI c + nI k)]) (σ' := sr σ 67 (va_cpy (σ 67) (σ 67) (50 * w + a + k) (50 * w + a) (c - a))) rfl True.intro ?_
                    rw [show (nI c + nI k) = nI (c + k) from nI_add _ _]
                    refine rw_go hX [(75, .aload_n 0), (76, .getfield 13), (79, .iload_n 1), (80, .iaload)] (by decide +kernel) (Ps := [vp_in (nI w) 5]) (pc' := 81) (lv' := [(0, .ref 66), (1, .int (nI w)), (2, .int (nI a)), (3, .int (nI k)), (4, .int (nI c))]) (st' := [.int ((sr σ 67 (va_cpy (σ 67) (σ 67) (50 * w + a + k) (50 * w + a) (c - a))) 68 (nI w).toNatClampNeg), .int (nI (c + k))]) (σ' := sr σ 67 (va_cpy (σ 67) (σ 67) (50 * w + a + k) (50 * w + a) (c - a))) rfl (vp_in_nI (by omega) (by omega)) ?_
                    rw [show ((sr σ 67 (va_cpy (σ 67) (σ 67) (50 * w + a + k) (50 * w + a) (c - a))) 68 (nI w).toNatClampNeg) = nI (vS V w) from (by rw [nI_clamp (by omega), sr_n _ _ (by decide), (vw_at hV 1 (by omega)), wf_s hv hw])]
                    refine rw_icmp hX (tgt := 116) (cnd := .ge) (off := 35) (by decide +kernel) (by decide) (fun h81 => ?_) (fun h81 => ?_)
                    · replace h81 := c2_geT h81
                      have ec : c - a = vS V w - a - k := by omega
                      refine rw_go hX [(116, .aload_n 0), (117, .getfield 13), (120, .iload_n 1), (121, .dup2), (122, .iaload)] (by decide +kernel) (Ps := [vp_in (nI w) 5]) (pc' := 123) (lv' := [(0, .ref 66), (1, .int (nI w)), (2, .int (nI a)), (3, .int (nI k)), (4, .int (nI c))]) (st' := [.int ((sr σ 67 (va_cpy (σ 67) (σ 67) (50 * w + a + k) (50 * w + a) (c - a))) 68 (nI w).toNatClampNeg), .int (nI w), .ref 68]) (σ' := sr σ 67 (va_cpy (σ 67) (σ 67) (50 * w + a + k) (50 * w + a) (c - a))) rfl (vp_in_nI (by omega) (by omega)) ?_
                      rw [show ((sr σ 67 (va_cpy (σ 67) (σ 67) (50 * w + a + k) (50 * w + a) (c - a))) 68 (nI w).toNatClampNeg) = nI (vS V w) from (by rw [nI_clamp (by omega), sr_n _ _ (by decide), (vw_at hV 1 (by omega)), wf_s hv hw])]
                      refine rw_go hX [(123, .iload_n 3), (124, .isub)] (by decide +kernel) (Ps := []) (pc' := 125) (lv' := [(0, .ref 66), (1, .int (nI w)), (2, .int (nI a)), (3, .int (nI k)), (4, .int (nI c))]) (st' := [.int (nI (vS V w) - nI k), .int (nI w), .ref 68]) (σ' := sr σ 67 (va_cpy (σ 67) (σ 67) (50 * w + a + k) (50 * w + a) (c - a))) rfl True.intro ?_
                      rw [show (nI (vS V w) - nI k) = nI (vS V w - k) from pk_sub (by omega)]
                      refine rw_go hX [(125, .iastore)] (by decide +kernel) (Ps := [vp_in (nI w) 5]) (pc' := 126) (lv' := [(0, .ref 66), (1, .int (nI w)), (2, .int (nI a)), (3, .int (nI k)), (4, .int (nI c))]) (st' := []) (σ' := sw (sr σ 67 (va_cpy (σ 67) (σ 67) (50 * w + a + k) (50 * w + a) (c - a))) 68 (nI w).toNatClampNeg (nI (vS V w - k))) rfl (vp_in_nI (by omega) (by omega)) ?_
                      rw [show (sw (sr σ 67 (va_cpy (σ 67) (σ 67) (50 * w + a + k) (50 * w + a) (c - a))) 68 (nI w).toNatClampNeg (nI (vS V w - k))) = sw (sr σ 67 (va_cpy (σ 67) (σ 67) (50 * w + a + k) (50 * w + a) (c - a))) 68 w (nI (vS V w - k)) from (by rw [nI_clamp (by omega)])]
                      refine rw_go hX [(126, .aload_n 0), (127, .getfield 13), (130, .iload_n 1), (131, .iaload)] (by decide +kernel) (Ps := [vp_in (nI w) 5]) (pc' := 132) (lv' := [(0, .ref 66), (1, .int (nI w)), (2, .int (nI a)), (3, .int (nI k)), (4, .int (nI c))]) (st' := [.int ((sw (sr σ 67 (va_cpy (σ 67) (σ 67) (50 * w + a + k) (50 * w + a) (c - a))) 68 w (nI (vS V w - k))) 68 (nI w).toNatClampNeg)]) (σ' := sw (sr σ 67 (va_cpy (σ 67) (σ 67) (50 * w + a + k) (50 * w + a) (c - a))) 68 w (nI (vS V w - k))) rfl (vp_in_nI (by omega) (by omega)) ?_
                      rw [show ((sw (sr σ 67 (va_cpy (σ 67) (σ 67) (50 * w + a + k) (50 * w + a) (c - a))) 68 w (nI (vS V w - k))) 68 (nI w).toNatClampNeg) = nI (vS V w - k) from (by rw [nI_clamp (by omega), sw_eq])]
                      exact rw_iret hX (by decide +kernel) (⟨by simp only [aCut, eq_true h4, hcw, eq_true h15, eq_false hvsw, eq_false h23, eq_false h27, eq_false h37, hck, eq_true h49, hca, hsp, eq_false h62, eq_false hnk, eq_true h81, if_true, if_false, Bool.false_eq_true, and_self, and_true, true_and, and_false, false_and], by simp only [sCutM, eq_true h4, hcw, eq_true h15, eq_false hvsw, eq_false h23, eq_false h27, eq_false h37, hck, eq_true h49, hca, hsp, eq_false h62, eq_false hnk, eq_true h81, if_true, if_false, Bool.false_eq_true, and_self, and_true, true_and, and_false, false_and]; rw [ec]; rfl⟩)
                    · replace h81 := c2_geF h81
                      refine rw_go hX [(84, .aload_n 0), (85, .getfield 9), (88, .bipush 50), (90, .iload_n 1), (91, .imul)] (by decide +kernel) (Ps := []) (pc' := 92) (lv' := [(0, .ref 66), (1, .int (nI w)), (2, .int (nI a)), (3, .int (nI k)), (4, .int (nI c))]) (st' := [.int (nI 50 * nI w), .ref 67]) (σ' := sr σ 67 (va_cpy (σ 67) (σ 67) (50 * w + a + k) (50 * w + a) (c - a))) rfl True.intro ?_
                      rw [show (nI 50 * nI w) = nI (50 * w) from pk_mul _ _]
                      refine rw_go hX [(92, .iload 4), (94, .iadd)] (by decide +kernel) (Ps := []) (pc' := 95) (lv' := [(0, .ref 66), (1, .int (nI w)), (2, .int (nI a)), (3, .int (nI k)), (4, .int (nI c))]) (st' := [.int (nI (50 * w) + nI c), .ref 67]) (σ' := sr σ 67 (va_cpy (σ 67) (σ 67) (50 * w + a + k) (50 * w + a) (c - a))) rfl True.intro ?_
                      rw [show (nI (50 * w) + nI c) = nI (50 * w + c) from nI_add _ _]
                      refine rw_go hX [(95, .aload_n 0), (96, .getfield 9), (99, .bipush 50), (101, .iload_n 1), (102, .imul)] (by decide +kernel) (Ps := []) (pc' := 103) (lv' := [(0, .ref 66), (1, .int (nI w)), (2, .int (nI a)), (3, .int (nI k)), (4, .int (nI c))]) (st' := [.int (nI 50 * nI w), .ref 67, .int (nI (50 * w + c)), .ref 67]) (σ' := sr σ 67 (va_cpy (σ 67) (σ 67) (50 * w + a + k) (50 * w + a) (c - a))) rfl True.intro ?_
                      rw [show (nI 50 * nI w) = nI (50 * w) from pk_mul _ _]
                      refine rw_go hX [(103, .iload 4), (105, .iadd)] (by decide +kernel) (Ps := []) (pc' := 106) (lv' := [(0, .ref 66), (1, .int (nI w)), (2, .int (nI a)), (3, .int (nI k)), (4, .int (nI c))]) (st' := [.int (nI (50 * w) + nI c), .ref 67, .int (nI (50 * w + c)), .ref 67]) (σ' := sr σ 67 (va_cpy (σ 67) (σ 67) (50 * w + a + k) (50 * w + a) (c - a))) rfl True.intro ?_
                      rw [show (nI (50 * w) + nI c) = nI (50 * w + c) from nI_add _ _]
                      refine rw_go hX [(106, .iload_n 3), (107, .iadd)] (by decide +kernel) (Ps := []) (pc' := 108) (lv' := [(0, .ref 66), (1, .int (nI w)), (2, .int (nI a)), (3, .int (nI k)), (4, .int (nI c))]) (st' := [.int (nI (50 * w + c) + nI k), .ref 67, .int (nI (50 * w + c)), .ref 67]) (σ' := sr σ 67 (va_cpy (σ 67) (σ 67) (50 * w + a + k) (50 * w + a) (c - a))) rfl True.intro ?_
                      rw [show (nI (50 * w + c) + nI k) = nI (50 * w + c + k) from nI_add _ _]
                      refine rw_go hX [(108, .iaload)] (by decide +kernel) (Ps := [vp_in (nI (50 * w + c + k)) 250]) (pc' := 109) (lv' := [(0, .ref 66), (1, .int (nI w)), (2, .int (nI a)), (3, .int (nI k)), (4, .int (nI c))]) (st' := [.int ((sr σ 67 (va_cpy (σ 67) (σ 67) (50 * w + a + k) (50 * w + a) (c - a))) 67 (nI (50 * w + c + k)).toNatClampNeg), .int (nI (50 * w + c)), .ref 67]) (σ' := sr σ 67 (va_cpy (σ 67) (σ 67) (50 * w + a + k) (50 * w + a) (c - a))) rfl (vp_in_nI (by omega) (by omega)) ?_
                      rw [show ((sr σ 67 (va_cpy (σ 67) (σ 67) (50 * w + a + k) (50 * w + a) (c - a))) 67 (nI (50 * w + c + k)).toNatClampNeg) = σ 67 (50 * w + c + k) from (by rw [nI_clamp (by omega), sr_s, cpy_o (by omega)])]
                      refine rw_go hX [(109, .iastore)] (by decide +kernel) (Ps := [vp_in (nI (50 * w + c)) 250]) (pc' := 110) (lv' := [(0, .ref 66), (1, .int (nI w)), (2, .int (nI a)), (3, .int (nI k)), (4, .int (nI c))]) (st' := []) (σ' := sw (sr σ 67 (va_cpy (σ 67) (σ 67) (50 * w + a + k) (50 * w + a) (c - a))) 67 (nI (50 * w + c)).toNatClampNeg (σ 67 (50 * w + c + k))) rfl (vp_in_nI (by omega) (by omega)) ?_
                      rw [show (sw (sr σ 67 (va_cpy (σ 67) (σ 67) (50 * w + a + k) (50 * w + a) (c - a))) 67 (nI (50 * w + c)).toNatClampNeg (σ 67 (50 * w + c + k))) = sw (sr σ 67 (va_cpy (σ 67) (σ 67) (50 * w + a + k) (50 * w + a) (c - a))) 67 (50 * w + c) (σ 67 (50 * w + c + k)) from (by rw [nI_clamp (by omega)])]
                      refine rw_go hX [(110, .iinc 4 1)] (by decide +kernel) (Ps := []) (pc' := 113) (lv' := [(0, .ref 66), (1, .int (nI w)), (2, .int (nI a)), (3, .int (nI k)), (4, .int (nI c + nI 1))]) (st' := []) (σ' := sw (sr σ 67 (va_cpy (σ 67) (σ 67) (50 * w + a + k) (50 * w + a) (c - a))) 67 (50 * w + c) (σ 67 (50 * w + c + k))) rfl True.intro ?_
                      rw [show (nI c + nI 1) = nI (c + 1) from nI_add _ _]
                      refine rw_go hX [(113, .goto (-42))] (by decide +kernel) (Ps := []) (pc' := 71) (lv' := [(0, .ref 66), (1, .int (nI w)), (2, .int (nI a)), (3, .int (nI k)), (4, .int (nI (c + 1)))]) (st' := []) (σ' := sw (sr σ 67 (va_cpy (σ 67) (σ 67) (50 * w + a + k) (50 * w + a) (c - a))) 67 (50 * w + c) (σ 67 (50 * w + c + k))) rfl True.intro ?_
                      refine rw_lsub (ks := [0, 1, 2, 3, 4]) (lv' := [(0, .ref 66), (1, .int (nI w)), (2, .int (nI a)), (3, .int (nI k)), (4, .int (nI (c + 1)))]) rfl ?_
                      have q := ih71 (vS V w - (c + 1)) (by omega) (c + 1) rfl (by omega) (by omega)
                      rw [show c + 1 - a = c - a + 1 by omega, ← cpy_1, show 50 * w + a + k + (c - a) = 50 * w + c + k by omega, show 50 * w + a + (c - a) = 50 * w + c by omega] at q
                      rw [sw_sr]
                      exact q
                refine rw_lsub (ks := [0, 1, 2, 3, 4]) (lv' := [(0, .ref 66), (1, .int (nI w)), (2, .int (nI a)), (3, .int (nI k)), (4, .int (nI a))]) rfl ?_
                have q := L71 (vS V w - a) a rfl (by omega) (by omega)
                rw [Nat.sub_self, cpy_0, sr_id] at q
                exact q
              · replace h62 := c2_neF h62
                have hnk : nI k = nI (vS V w) := by rw [h62]
                refine rw_go hX [(65, .bipush (-3))] (by decide +kernel) (Ps := []) (pc' := 67) (lv' := [(0, .ref 66), (1, .int (nI w)), (2, .int (nI a)), (3, .int (nI k))]) (st' := [.int (-(nI 3))]) (σ' := σ) rfl True.intro ?_
                exact rw_iret hX (by decide +kernel) (⟨by simp only [aCut, eq_true h4, hcw, eq_true h15, eq_false hvsw, eq_false h23, eq_false h27, eq_false h37, hck, eq_true h49, hca, hsp, eq_true h62, eq_true hnk, if_true, if_false, Bool.false_eq_true, and_self, and_true, true_and, and_false, false_and] <;> rfl, by simp only [sCutM, eq_true h4, hcw, eq_true h15, eq_false hvsw, eq_false h23, eq_false h27, eq_false h37, hck, eq_true h49, hca, hsp, eq_true h62, eq_true hnk, if_true, if_false, Bool.false_eq_true, and_self, and_true, true_and, and_false, false_and] <;> rfl⟩)
            · replace h49 : ¬ (xa ≤ nI (vS V w - k)) := h49
              have hsp : pz (ctOK xa (nI k) (vS V w)) = false := pz_f fun ⟨a, k9, e1, e2, g1, g2⟩ => by
                have e9 := (nI_eq (by omega) (by omega)).mp e2
                rw [e1] at h49
                exact absurd (nI_le (show a ≤ vS V w - k by omega) (by omega)) h49
              refine rw_go hX [(52, .bipush (-12))] (by decide +kernel) (Ps := []) (pc' := 54) (lv' := [(0, .ref 66), (1, .int (nI w)), (2, .int xa), (3, .int (nI k))]) (st' := [.int (-(nI 12))]) (σ' := σ) rfl True.intro ?_
              exact rw_iret hX (by decide +kernel) (⟨by simp only [aCut, eq_true h4, hcw, eq_true h15, eq_false hvsw, eq_false h23, eq_false h27, eq_false h37, hck, eq_false h49, hsp, if_true, if_false, Bool.false_eq_true, and_self, and_true, true_and, and_false, false_and] <;> rfl, by simp only [sCutM, eq_true h4, hcw, eq_true h15, eq_false hvsw, eq_false h23, eq_false h27, eq_false h37, hck, eq_false h49, hsp, if_true, if_false, Bool.false_eq_true, and_self, and_true, true_and, and_false, false_and] <;> rfl⟩)
    · replace h15 := of_decide_eq_false (zb_neF h15)
      have hvsw : vS V w = 0 := by omega
      refine rw_go hX [(18, .bipush (-11))] (by decide +kernel) (Ps := []) (pc' := 20) (lv' := [(0, .ref 66), (1, .int (nI w)), (2, .int xa), (3, .int xn)]) (st' := [.int (-(nI 11))]) (σ' := σ) rfl True.intro ?_
      exact rw_iret hX (by decide +kernel) (⟨by simp only [aCut, eq_true h4, hcw, eq_false h15, eq_true hvsw, if_true, if_false, Bool.false_eq_true, and_self, and_true, true_and, and_false, false_and] <;> rfl, by simp only [sCutM, eq_true h4, hcw, eq_false h15, eq_true hvsw, if_true, if_false, Bool.false_eq_true, and_self, and_true, true_and, and_false, false_and] <;> rfl⟩)
  · replace h4 := of_decide_eq_false (zb_neF h4)
    refine rw_go hX [(7, .bipush (-2))] (by decide +kernel) (Ps := []) (pc' := 9) (lv' := [(0, .ref 66), (1, .int xw), (2, .int xa), (3, .int xn)]) (st' := [.int (-(nI 2))]) (σ' := σ) rfl True.intro ?_
    exact rw_iret hX (by decide +kernel) (⟨by simp only [aCut, eq_false h4, if_true, if_false, Bool.false_eq_true, and_self, and_true, true_and, and_false, false_and] <;> rfl, by simp only [sCutM, eq_false h4, if_true, if_false, Bool.false_eq_true, and_self, and_true, true_and, and_false, false_and] <;> rfl⟩)
set_option maxRecDepth 20000 in
set_option maxHeartbeats 4000000 in
theorem g_drop (l : Launch) (G : Gl) (σ : Mm) (V : Mm) (xw : Int32) (hV : vw σ 67 = V) (hv : wf V) : AMi l G 3 mX10_drop [.ref 66, .int xw] σ (fun r σ' => r = aDrop V xw ∧ σ' = sDrop 68 V σ xw) := by
  refine rw_inI 10 (by decide +kernel) rfl rfl ?_
  intro E hE hX
  subst hE
  refine rw_go hX [(0, .iload_n 1)] (by decide +kernel) (Ps := []) (pc' := 1) (lv' := [(0, .ref 66), (1, .int xw)]) (st' := [.int xw]) (σ' := σ) rfl True.intro ?_
  refine rw_callSi hX (as := [.int xw]) (rest := []) (m_isWork _ _ _ (xw)) (by decide +kernel) msX10_isWork (Or.inl lk10_157) rfl (by decide) (Nat.le_of_ble_eq_true rfl) rfl ?_
  intro r1 σ1 hr
  rw [hr.1, show r1 = bz (decide (0 ≤ xw ∧ xw ≤ 4)) from hr.2]
  clear hr σ1 r1
  refine rw_if hX (tgt := 10) (cnd := .ne) (off := 6) (by decide +kernel) (by decide) (fun h4 => ?_) (fun h4 => ?_)
  · replace h4 := of_decide_eq_true (zb_neT h4)
    obtain ⟨w, hw, rfl⟩ := rng (m := 4) (by omega) h4
    have hw : w < 5 := hw
    have hcw : (nI w).toNatClampNeg = w := nI_clamp (by omega)
    have hs5 := wf_s50 hv hw
    refine rw_go hX [(10, .aload_n 0), (11, .getfield 13), (14, .iload_n 1), (15, .iaload)] (by decide +kernel) (Ps := [vp_in (nI w) 5]) (pc' := 16) (lv' := [(0, .ref 66), (1, .int (nI w))]) (st' := [.int (σ 68 (nI w).toNatClampNeg)]) (σ' := σ) rfl (vp_in_nI (by omega) (by omega)) ?_
    rw [show (σ 68 (nI w).toNatClampNeg) = nI (vS V w) from (by rw [nI_clamp (by omega), (vw_at hV 1 (by omega)), wf_s hv hw])]
    refine rw_go hX [(16, .istore_n 2), (17, .aload_n 0), (18, .getfield 13), (21, .iload_n 1), (22, .iconst 0), (23, .iastore)] (by decide +kernel) (Ps := [vp_in (nI w) 5]) (pc' := 24) (lv' := [(0, .ref 66), (1, .int (nI w)), (2, .int (nI (vS V w)))]) (st' := []) (σ' := sw σ 68 (nI w).toNatClampNeg (nI 0)) rfl (vp_in_nI (by omega) (by omega)) ?_
    rw [show (sw σ 68 (nI w).toNatClampNeg (nI 0)) = sw σ 68 w (nI 0) from (by rw [nI_clamp (by omega)])]
    refine rw_go hX [(24, .iload_n 2)] (by decide +kernel) (Ps := []) (pc' := 25) (lv' := [(0, .ref 66), (1, .int (nI w)), (2, .int (nI (vS V w)))]) (st' := [.int (nI (vS V w))]) (σ' := sw σ 68 w (nI 0)) rfl True.intro ?_
    refine rw_if hX (tgt := 33) (cnd := .ne) (off := 8) (by decide +kernel) (by decide) (fun h25 => ?_) (fun h25 => ?_)
    · replace h25 := zn_neT h25
      have hvsw : ¬ vS V w = 0 := by omega
      refine rw_go hX [(33, .iload_n 2)] (by decide +kernel) (Ps := []) (pc' := 34) (lv' := [(0, .ref 66), (1, .int (nI w)), (2, .int (nI (vS V w)))]) (st' := [.int (nI (vS V w))]) (σ' := sw σ 68 w (nI 0)) rfl True.intro ?_
      exact rw_iret hX (by decide +kernel) (⟨by simp only [aDrop, eq_true h4, hcw, eq_true h25, eq_false hvsw, if_true, if_false, Bool.false_eq_true, and_self, and_true, true_and, and_false, false_and], by
  first
  | (simp only [sDrop, eq_true h4, hcw, eq_false hvsw, if_true, if_false, Bool.false_eq_true, and_self, and_true, true_and, and_false, false_and]; done)
  | (simp only [sDrop, eq_true h4, hcw, eq_true hvsw, if_true, if_false, Bool.false_eq_true, and_self, and_true, true_and, and_false, false_and]
     have e9 : σ 68 w = nI 0 := (congrFun (vw_at hV 1 (by omega)) w).trans (by rw [wf_s hv hw, hvsw])
     rw [← e9, sw_id])⟩)
    · replace h25 := zn_neF h25
      have hvsw : vS V w = 0 := h25
      refine rw_go hX [(28, .bipush (-11)), (30, .goto 4)] (by decide +kernel) (Ps := []) (pc' := 34) (lv' := [(0, .ref 66), (1, .int (nI w)), (2, .int (nI (vS V w)))]) (st' := [.int (-(nI 11))]) (σ' := sw σ 68 w (nI 0)) rfl True.intro ?_
      exact rw_iret hX (by decide +kernel) (⟨by simp only [aDrop, eq_true h4, hcw, eq_true h25, eq_true hvsw, if_true, if_false, Bool.false_eq_true, and_self, and_true, true_and, and_false, false_and], by
  first
  | (simp only [sDrop, eq_true h4, hcw, eq_false hvsw, if_true, if_false, Bool.false_eq_true, and_self, and_true, true_and, and_false, false_and]; done)
  | (simp only [sDrop, eq_true h4, hcw, eq_true hvsw, if_true, if_false, Bool.false_eq_true, and_self, and_true, true_and, and_false, false_and]
     have e9 : σ 68 w = nI 0 := (congrFun (vw_at hV 1 (by omega)) w).trans (by rw [wf_s hv hw, hvsw])
     rw [← e9, sw_id])⟩)
  · replace h4 := of_decide_eq_false (zb_neF h4)
    refine rw_go hX [(7, .bipush (-2))] (by decide +kernel) (Ps := []) (pc' := 9) (lv' := [(0, .ref 66), (1, .int xw)]) (st' := [.int (-(nI 2))]) (σ' := σ) rfl True.intro ?_
    exact rw_iret hX (by decide +kernel) (⟨by simp only [aDrop, eq_false h4, if_true, if_false, Bool.false_eq_true, and_self, and_true, true_and, and_false, false_and] <;> rfl, by simp only [sDrop, eq_false h4, if_true, if_false, Bool.false_eq_true, and_self, and_true, true_and, and_false, false_and] <;> rfl⟩)
set_option maxRecDepth 20000 in
set_option maxHeartbeats 4000000 in
theorem g_alter (l : Launch) (G : Gl) (σ : Mm) (V : Mm) (xw xq xv : Int32) (hV : vw σ 67 = V) (hv : wf V) : AMi l G 3 mX10_alter [.ref 66, .int xw, .int xq, .int xv] σ (fun r σ' => r = aAlt V xw xq xv ∧ σ' = sAlt 69 V σ xw xq xv) := by
  refine rw_inI 10 (by decide +kernel) rfl rfl ?_
  intro E hE hX
  subst hE
  refine rw_go hX [(0, .iload_n 1)] (by decide +kernel) (Ps := []) (pc' := 1) (lv' := [(0, .ref 66), (1, .int xw), (2, .int xq), (3, .int xv)]) (st' := [.int xw]) (σ' := σ) rfl True.intro ?_
  refine rw_callSi hX (as := [.int xw]) (rest := []) (m_isWork _ _ _ (xw)) (by decide +kernel) msX10_isWork (Or.inl lk10_157) rfl (by decide) (Nat.le_of_ble_eq_true rfl) rfl ?_
  intro r1 σ1 hr
  rw [hr.1, show r1 = bz (decide (0 ≤ xw ∧ xw ≤ 4)) from hr.2]
  clear hr σ1 r1
  refine rw_if hX (tgt := 39) (cnd := .eq) (off := 35) (by decide +kernel) (by decide) (fun h4 => ?_) (fun h4 => ?_)
  · replace h4 := of_decide_eq_false (zb_eqT h4)
    refine rw_go hX [(39, .bipush (-2))] (by decide +kernel) (Ps := []) (pc' := 41) (lv' := [(0, .ref 66), (1, .int xw), (2, .int xq), (3, .int xv)]) (st' := [.int (-(nI 2))]) (σ' := σ) rfl True.intro ?_
    exact rw_iret hX (by decide +kernel) (⟨by simp only [aAlt, eq_false h4, if_true, if_false, Bool.false_eq_true, and_self, and_true, true_and, and_false, false_and] <;> rfl, by simp only [sAlt, eq_false h4, if_true, if_false, Bool.false_eq_true, and_self, and_true, true_and, and_false, false_and] <;> rfl⟩)
  · replace h4 := of_decide_eq_true (zb_eqF h4)
    obtain ⟨w, hw, rfl⟩ := rng (m := 4) (by omega) h4
    have hw : w < 5 := hw
    have hcw : (nI w).toNatClampNeg = w := nI_clamp (by omega)
    refine rw_go hX [(7, .iload_n 2), (8, .i2l), (9, .lconst 0), (10, .lconst 1)] (by decide +kernel) (Ps := []) (pc' := 11) (lv' := [(0, .ref 66), (1, .int (nI w)), (2, .int xq), (3, .int xv)]) (st' := [.long (Int64.ofNat 1), .long (Int64.ofNat 0), .long (xq.toInt64)]) (σ' := σ) rfl True.intro ?_
    refine rw_callSi hX (as := [.long (xq.toInt64), .long (Int64.ofNat 0), .long (Int64.ofNat 1)]) (rest := []) (m_inI _ _ _ (xq) (0) (nI 1) _ _ _ rfl (by first | rfl | decide +kernel) (by first | rfl | decide +kernel)) (by decide +kernel) msX10_in (Or.inl lk10_105) rfl (by decide) (Nat.le_of_ble_eq_true rfl) rfl ?_
    intro r1 σ1 hr
    rw [hr.1, show r1 = bz (decide (0 ≤ xq ∧ xq < nI 2)) from hr.2.trans (by rw [decide_eq_decide.mpr (in_O (m := 1) (by omega))])]
    clear hr σ1 r1
    refine rw_if hX (tgt := 39) (cnd := .eq) (off := 25) (by decide +kernel) (by decide) (fun h14 => ?_) (fun h14 => ?_)
    · replace h14 := of_decide_eq_false (zb_eqT h14)
      refine rw_go hX [(39, .bipush (-2))] (by decide +kernel) (Ps := []) (pc' := 41) (lv' := [(0, .ref 66), (1, .int (nI w)), (2, .int xq), (3, .int xv)]) (st' := [.int (-(nI 2))]) (σ' := σ) rfl True.intro ?_
      exact rw_iret hX (by decide +kernel) (⟨by simp only [aAlt, eq_true h4, hcw, eq_false h14, if_true, if_false, Bool.false_eq_true, and_self, and_true, true_and, and_false, false_and] <;> rfl, by simp only [sAlt, eq_true h4, hcw, eq_false h14, if_true, if_false, Bool.false_eq_true, and_self, and_true, true_and, and_false, false_and] <;> rfl⟩)
    · replace h14 := of_decide_eq_true (zb_eqF h14)
      refine rw_go hX [(17, .iload_n 3), (18, .i2l), (19, .lconst 0), (20, .iload_n 2)] (by decide +kernel) (Ps := []) (pc' := 21) (lv' := [(0, .ref 66), (1, .int (nI w)), (2, .int xq), (3, .int xv)]) (st' := [.int xq, .long (Int64.ofNat 0), .long (xv.toInt64)]) (σ' := σ) rfl True.intro ?_
      refine rw_if hX (tgt := 30) (cnd := .ne) (off := 9) (by decide +kernel) (by decide) (fun h21 => ?_) (fun h21 => ?_)
      · replace h21 : (xq ≠ 0) := h21
        refine rw_go hX [(30, .ldc2_w 160)] (by decide +kernel) (Ps := []) (pc' := 33) (lv' := [(0, .ref 66), (1, .int (nI w)), (2, .int xq), (3, .int xv)]) (st' := [.long 99, .long (Int64.ofNat 0), .long (xv.toInt64)]) (σ' := σ) rfl True.intro ?_
        refine rw_callSi hX (as := [.long (xv.toInt64), .long (Int64.ofNat 0), .long 99]) (rest := []) (m_inI _ _ _ xv 0 99 _ _ _ rfl (by first | rfl | decide +kernel) (by first | rfl | decide +kernel)) (by decide +kernel) msX10_in (Or.inl lk10_105) rfl (by decide) (Nat.le_of_ble_eq_true rfl) rfl ?_
        intro r1 σ1 hr
        rw [hr.1, hr.2]
        clear hr σ1 r1
        refine rw_if hX (tgt := 42) (cnd := .ne) (off := 6) (by decide +kernel) (by decide) (fun h36 => ?_) (fun h36 => ?_)
        · replace h36 := of_decide_eq_true (zb_neT h36)
          refine rw_go hX [(42, .aload_n 0), (43, .iload_n 1)] (by decide +kernel) (Ps := []) (pc' := 44) (lv' := [(0, .ref 66), (1, .int (nI w)), (2, .int xq), (3, .int xv)]) (st' := [.int (nI w), .ref 66]) (σ' := σ) rfl True.intro ?_
          refine rw_callVi hX (as := [.int (nI w)]) (rest := []) (m_there _ _ _ V w hV hv hw) (by decide +kernel) mvX10_isThere lk10_132 (ci := 9) rfl rfl rfl (by decide) (Nat.le_of_ble_eq_true rfl) rfl ?_
          intro r1 σ1 hr
          rw [hr.1, show r1 = bz (decide (0 < vS V w)) from hr.2]
          clear hr σ1 r1
          refine rw_if hX (tgt := 53) (cnd := .ne) (off := 6) (by decide +kernel) (by decide) (fun h47 => ?_) (fun h47 => ?_)
          · replace h47 := of_decide_eq_true (zb_neT h47)
            have hvsw : ¬ vS V w = 0 := by omega
            refine rw_go hX [(53, .iload_n 2)] (by decide +kernel) (Ps := []) (pc' := 54) (lv' := [(0, .ref 66), (1, .int (nI w)), (2, .int xq), (3, .int xv)]) (st' := [.int xq]) (σ' := σ) rfl True.intro ?_
            refine rw_if hX (tgt := 66) (cnd := .ne) (off := 12) (by decide +kernel) (by decide) (fun h54 => ?_) (fun h54 => ?_)
            · replace h54 : (xq ≠ 0) := h54
              refine rw_go hX [(66, .aload_n 0), (67, .getfield 19), (70, .iload_n 1), (71, .iaload)] (by decide +kernel) (Ps := [vp_in (nI w) 5]) (pc' := 72) (lv' := [(0, .ref 66), (1, .int (nI w)), (2, .int xq), (3, .int xv)]) (st' := [.int (σ 70 (nI w).toNatClampNeg)]) (σ' := σ) rfl (vp_in_nI (by omega) (by omega)) ?_
              rw [show (σ 70 (nI w).toNatClampNeg) = V 3 w from (by rw [nI_clamp (by omega), (vw_at hV 3 (by omega))])]
              refine rw_go hX [(72, .istore 4), (74, .iload_n 2)] (by decide +kernel) (Ps := []) (pc' := 75) (lv' := [(0, .ref 66), (1, .int (nI w)), (2, .int xq), (3, .int xv), (4, .int (V 3 w))]) (st' := [.int xq]) (σ' := σ) rfl True.intro ?_
              refine rw_if hX (tgt := 88) (cnd := .ne) (off := 13) (by decide +kernel) (by decide) (fun h75 => ?_) (fun h75 => ?_)
              · replace h75 : (xq ≠ 0) := h75
                refine rw_go hX [(88, .aload_n 0), (89, .getfield 19), (92, .iload_n 1), (93, .iload_n 3), (94, .iastore)] (by decide +kernel) (Ps := [vp_in (nI w) 5]) (pc' := 95) (lv' := [(0, .ref 66), (1, .int (nI w)), (2, .int xq), (3, .int xv), (4, .int (V 3 w))]) (st' := []) (σ' := sw σ 70 (nI w).toNatClampNeg xv) rfl (vp_in_nI (by omega) (by omega)) ?_
                rw [show (sw σ 70 (nI w).toNatClampNeg xv) = sw σ 70 w xv from (by rw [nI_clamp (by omega)])]
                refine rw_go hX [(95, .iload 4)] (by decide +kernel) (Ps := []) (pc' := 97) (lv' := [(0, .ref 66), (1, .int (nI w)), (2, .int xq), (3, .int xv), (4, .int (V 3 w))]) (st' := [.int (V 3 w)]) (σ' := sw σ 70 w xv) rfl True.intro ?_
                exact rw_iret hX (by decide +kernel) (⟨by simp only [aAlt, eq_true h4, hcw, eq_true h14, eq_false h21, eq_true h36, eq_true h47, eq_false hvsw, eq_false h54, eq_false h75, if_true, if_false, Bool.false_eq_true, and_self, and_true, true_and, and_false, false_and] <;> rfl, by simp only [sAlt, eq_true h4, hcw, eq_true h14, eq_false h21, eq_true h36, eq_true h47, eq_false hvsw, eq_false h54, eq_false h75, if_true, if_false, Bool.false_eq_true, and_self, and_true, true_and, and_false, false_and] <;> rfl⟩)
              · replace h75 : xq = 0 := Classical.not_not.mp h75
                exact absurd h75 h21
            · replace h54 : xq = 0 := Classical.not_not.mp h54
              exact absurd h54 h21
          · replace h47 := of_decide_eq_false (zb_neF h47)
            have hvsw : vS V w = 0 := by omega
            refine rw_go hX [(50, .bipush (-11))] (by decide +kernel) (Ps := []) (pc' := 52) (lv' := [(0, .ref 66), (1, .int (nI w)), (2, .int xq), (3, .int xv)]) (st' := [.int (-(nI 11))]) (σ' := σ) rfl True.intro ?_
            exact rw_iret hX (by decide +kernel) (⟨by simp only [aAlt, eq_true h4, hcw, eq_true h14, eq_false h21, eq_true h36, eq_false h47, eq_true hvsw, if_true, if_false, Bool.false_eq_true, and_self, and_true, true_and, and_false, false_and] <;> rfl, by simp only [sAlt, eq_true h4, hcw, eq_true h14, eq_false h21, eq_true h36, eq_false h47, eq_true hvsw, if_true, if_false, Bool.false_eq_true, and_self, and_true, true_and, and_false, false_and] <;> rfl⟩)
        · replace h36 := of_decide_eq_false (zb_neF h36)
          refine rw_go hX [(39, .bipush (-2))] (by decide +kernel) (Ps := []) (pc' := 41) (lv' := [(0, .ref 66), (1, .int (nI w)), (2, .int xq), (3, .int xv)]) (st' := [.int (-(nI 2))]) (σ' := σ) rfl True.intro ?_
          exact rw_iret hX (by decide +kernel) (⟨by simp only [aAlt, eq_true h4, hcw, eq_true h14, eq_false h21, eq_false h36, if_true, if_false, Bool.false_eq_true, and_self, and_true, true_and, and_false, false_and] <;> rfl, by simp only [sAlt, eq_true h4, hcw, eq_true h14, eq_false h21, eq_false h36, if_true, if_false, Bool.false_eq_true, and_self, and_true, true_and, and_false, false_and] <;> rfl⟩)
      · replace h21 : xq = 0 := Classical.not_not.mp h21
        refine rw_go hX [(24, .ldc2_w 136), (27, .goto 6)] (by decide +kernel) (Ps := []) (pc' := 33) (lv' := [(0, .ref 66), (1, .int (nI w)), (2, .int xq), (3, .int xv)]) (st' := [.long 5, .long (Int64.ofNat 0), .long (xv.toInt64)]) (σ' := σ) rfl True.intro ?_
        refine rw_callSi hX (as := [.long (xv.toInt64), .long (Int64.ofNat 0), .long 5]) (rest := []) (m_inI _ _ _ xv 0 5 _ _ _ rfl (by first | rfl | decide +kernel) (by first | rfl | decide +kernel)) (by decide +kernel) msX10_in (Or.inl lk10_105) rfl (by decide) (Nat.le_of_ble_eq_true rfl) rfl ?_
        intro r1 σ1 hr
        rw [hr.1, hr.2]
        clear hr σ1 r1
        refine rw_if hX (tgt := 42) (cnd := .ne) (off := 6) (by decide +kernel) (by decide) (fun h36 => ?_) (fun h36 => ?_)
        · replace h36 := of_decide_eq_true (zb_neT h36)
          refine rw_go hX [(42, .aload_n 0), (43, .iload_n 1)] (by decide +kernel) (Ps := []) (pc' := 44) (lv' := [(0, .ref 66), (1, .int (nI w)), (2, .int xq), (3, .int xv)]) (st' := [.int (nI w), .ref 66]) (σ' := σ) rfl True.intro ?_
          refine rw_callVi hX (as := [.int (nI w)]) (rest := []) (m_there _ _ _ V w hV hv hw) (by decide +kernel) mvX10_isThere lk10_132 (ci := 9) rfl rfl rfl (by decide) (Nat.le_of_ble_eq_true rfl) rfl ?_
          intro r1 σ1 hr
          rw [hr.1, show r1 = bz (decide (0 < vS V w)) from hr.2]
          clear hr σ1 r1
          refine rw_if hX (tgt := 53) (cnd := .ne) (off := 6) (by decide +kernel) (by decide) (fun h47 => ?_) (fun h47 => ?_)
          · replace h47 := of_decide_eq_true (zb_neT h47)
            have hvsw : ¬ vS V w = 0 := by omega
            refine rw_go hX [(53, .iload_n 2)] (by decide +kernel) (Ps := []) (pc' := 54) (lv' := [(0, .ref 66), (1, .int (nI w)), (2, .int xq), (3, .int xv)]) (st' := [.int xq]) (σ' := σ) rfl True.intro ?_
            refine rw_if hX (tgt := 66) (cnd := .ne) (off := 12) (by decide +kernel) (by decide) (fun h54 => ?_) (fun h54 => ?_)
            · replace h54 : (xq ≠ 0) := h54
              exact absurd h21 h54
            · replace h54 : xq = 0 := Classical.not_not.mp h54
              refine rw_go hX [(57, .aload_n 0), (58, .getfield 16), (61, .iload_n 1), (62, .iaload)] (by decide +kernel) (Ps := [vp_in (nI w) 5]) (pc' := 63) (lv' := [(0, .ref 66), (1, .int (nI w)), (2, .int xq), (3, .int xv)]) (st' := [.int (σ 69 (nI w).toNatClampNeg)]) (σ' := σ) rfl (vp_in_nI (by omega) (by omega)) ?_
              rw [show (σ 69 (nI w).toNatClampNeg) = V 2 w from (by rw [nI_clamp (by omega), (vw_at hV 2 (by omega))])]
              refine rw_go hX [(63, .goto 9), (72, .istore 4), (74, .iload_n 2)] (by decide +kernel) (Ps := []) (pc' := 75) (lv' := [(0, .ref 66), (1, .int (nI w)), (2, .int xq), (3, .int xv), (4, .int (V 2 w))]) (st' := [.int xq]) (σ' := σ) rfl True.intro ?_
              refine rw_if hX (tgt := 88) (cnd := .ne) (off := 13) (by decide +kernel) (by decide) (fun h75 => ?_) (fun h75 => ?_)
              · replace h75 : (xq ≠ 0) := h75
                exact absurd h21 h75
              · replace h75 : xq = 0 := Classical.not_not.mp h75
                refine rw_go hX [(78, .aload_n 0), (79, .getfield 16), (82, .iload_n 1), (83, .iload_n 3), (84, .iastore)] (by decide +kernel) (Ps := [vp_in (nI w) 5]) (pc' := 85) (lv' := [(0, .ref 66), (1, .int (nI w)), (2, .int xq), (3, .int xv), (4, .int (V 2 w))]) (st' := []) (σ' := sw σ 69 (nI w).toNatClampNeg xv) rfl (vp_in_nI (by omega) (by omega)) ?_
                rw [show (sw σ 69 (nI w).toNatClampNeg xv) = sw σ 69 w xv from (by rw [nI_clamp (by omega)])]
                refine rw_go hX [(85, .goto 10), (95, .iload 4)] (by decide +kernel) (Ps := []) (pc' := 97) (lv' := [(0, .ref 66), (1, .int (nI w)), (2, .int xq), (3, .int xv), (4, .int (V 2 w))]) (st' := [.int (V 2 w)]) (σ' := sw σ 69 w xv) rfl True.intro ?_
                exact rw_iret hX (by decide +kernel) (⟨by simp only [aAlt, eq_true h4, hcw, eq_true h14, eq_true h21, eq_true h36, eq_true h47, eq_false hvsw, eq_true h54, eq_true h75, if_true, if_false, Bool.false_eq_true, and_self, and_true, true_and, and_false, false_and] <;> rfl, by simp only [sAlt, eq_true h4, hcw, eq_true h14, eq_true h21, eq_true h36, eq_true h47, eq_false hvsw, eq_true h54, eq_true h75, if_true, if_false, Bool.false_eq_true, and_self, and_true, true_and, and_false, false_and] <;> rfl⟩)
          · replace h47 := of_decide_eq_false (zb_neF h47)
            have hvsw : vS V w = 0 := by omega
            refine rw_go hX [(50, .bipush (-11))] (by decide +kernel) (Ps := []) (pc' := 52) (lv' := [(0, .ref 66), (1, .int (nI w)), (2, .int xq), (3, .int xv)]) (st' := [.int (-(nI 11))]) (σ' := σ) rfl True.intro ?_
            exact rw_iret hX (by decide +kernel) (⟨by simp only [aAlt, eq_true h4, hcw, eq_true h14, eq_true h21, eq_true h36, eq_false h47, eq_true hvsw, if_true, if_false, Bool.false_eq_true, and_self, and_true, true_and, and_false, false_and] <;> rfl, by simp only [sAlt, eq_true h4, hcw, eq_true h14, eq_true h21, eq_true h36, eq_false h47, eq_true hvsw, if_true, if_false, Bool.false_eq_true, and_self, and_true, true_and, and_false, false_and] <;> rfl⟩)
        · replace h36 := of_decide_eq_false (zb_neF h36)
          refine rw_go hX [(39, .bipush (-2))] (by decide +kernel) (Ps := []) (pc' := 41) (lv' := [(0, .ref 66), (1, .int (nI w)), (2, .int xq), (3, .int xv)]) (st' := [.int (-(nI 2))]) (σ' := σ) rfl True.intro ?_
          exact rw_iret hX (by decide +kernel) (⟨by simp only [aAlt, eq_true h4, hcw, eq_true h14, eq_true h21, eq_false h36, if_true, if_false, Bool.false_eq_true, and_self, and_true, true_and, and_false, false_and] <;> rfl, by simp only [sAlt, eq_true h4, hcw, eq_true h14, eq_true h21, eq_false h36, if_true, if_false, Bool.false_eq_true, and_self, and_true, true_and, and_false, false_and] <;> rfl⟩)
set_option maxRecDepth 20000 in
set_option maxHeartbeats 4000000 in
theorem g_raw (l : Launch) (G : Gl) (σ : Mm) (V : Mm) (xw xi : Int32) (hV : vw σ 67 = V) (hv : wf V) : AMi l G 3 mX10_raw [.ref 66, .int xw, .int xi] σ (fun r σ' => r = aRaw V xw xi ∧ σ' = σ) := by
  refine rw_inI 10 (by decide +kernel) rfl rfl ?_
  intro E hE hX
  subst hE
  refine rw_go hX [(0, .iload_n 1)] (by decide +kernel) (Ps := []) (pc' := 1) (lv' := [(0, .ref 66), (1, .int xw), (2, .int xi)]) (st' := [.int xw]) (σ' := σ) rfl True.intro ?_
  refine rw_callSi hX (as := [.int xw]) (rest := []) (m_isWork _ _ _ (xw)) (by decide +kernel) msX10_isWork (Or.inl lk10_157) rfl (by decide) (Nat.le_of_ble_eq_true rfl) rfl ?_
  intro r1 σ1 hr
  rw [hr.1, show r1 = bz (decide (0 ≤ xw ∧ xw ≤ 4)) from hr.2]
  clear hr σ1 r1
  refine rw_if hX (tgt := 10) (cnd := .ne) (off := 6) (by decide +kernel) (by decide) (fun h4 => ?_) (fun h4 => ?_)
  · replace h4 := of_decide_eq_true (zb_neT h4)
    obtain ⟨w, hw, rfl⟩ := rng (m := 4) (by omega) h4
    have hw : w < 5 := hw
    have hcw : (nI w).toNatClampNeg = w := nI_clamp (by omega)
    have hs5 := wf_s50 hv hw
    refine rw_go hX [(10, .aload_n 0), (11, .iload_n 1)] (by decide +kernel) (Ps := []) (pc' := 12) (lv' := [(0, .ref 66), (1, .int (nI w)), (2, .int xi)]) (st' := [.int (nI w), .ref 66]) (σ' := σ) rfl True.intro ?_
    refine rw_callVi hX (as := [.int (nI w)]) (rest := []) (m_there _ _ _ V w hV hv hw) (by decide +kernel) mvX10_isThere lk10_132 (ci := 9) rfl rfl rfl (by decide) (Nat.le_of_ble_eq_true rfl) rfl ?_
    intro r1 σ1 hr
    rw [hr.1, show r1 = bz (decide (0 < vS V w)) from hr.2]
    clear hr σ1 r1
    refine rw_if hX (tgt := 21) (cnd := .ne) (off := 6) (by decide +kernel) (by decide) (fun h15 => ?_) (fun h15 => ?_)
    · replace h15 := of_decide_eq_true (zb_neT h15)
      have hvsw : ¬ vS V w = 0 := by omega
      refine rw_go hX [(21, .iload_n 2), (22, .iconst (-1))] (by decide +kernel) (Ps := []) (pc' := 23) (lv' := [(0, .ref 66), (1, .int (nI w)), (2, .int xi)]) (st' := [.int (-(nI 1)), .int xi]) (σ' := σ) rfl True.intro ?_
      refine rw_icmp hX (tgt := 33) (cnd := .ne) (off := 10) (by decide +kernel) (by decide) (fun h23 => ?_) (fun h23 => ?_)
      · replace h23 : (xi ≠ (-(nI 1))) := h23
        refine rw_go hX [(33, .iload_n 2), (34, .i2l), (35, .lconst 0), (36, .aload_n 0), (37, .getfield 13), (40, .iload_n 1), (41, .iaload)] (by decide +kernel) (Ps := [vp_in (nI w) 5]) (pc' := 42) (lv' := [(0, .ref 66), (1, .int (nI w)), (2, .int xi)]) (st' := [.int (σ 68 (nI w).toNatClampNeg), .long (Int64.ofNat 0), .long (xi.toInt64)]) (σ' := σ) rfl (vp_in_nI (by omega) (by omega)) ?_
        rw [show (σ 68 (nI w).toNatClampNeg) = nI (vS V w) from (by rw [nI_clamp (by omega), (vw_at hV 1 (by omega)), wf_s hv hw])]
        refine rw_go hX [(42, .iconst 1), (43, .isub), (44, .i2l)] (by decide +kernel) (Ps := []) (pc' := 45) (lv' := [(0, .ref 66), (1, .int (nI w)), (2, .int xi)]) (st' := [.long ((nI (vS V w) - nI 1).toInt64), .long (Int64.ofNat 0), .long (xi.toInt64)]) (σ' := σ) rfl True.intro ?_
        refine rw_callSi hX (as := [.long (xi.toInt64), .long (Int64.ofNat 0), .long ((nI (vS V w) - nI 1).toInt64)]) (rest := []) (m_inI _ _ _ (xi) (0) (nI (vS V w) - nI 1) _ _ _ rfl (by first | rfl | decide +kernel) (by first | rfl | decide +kernel)) (by decide +kernel) msX10_in (Or.inl lk10_105) rfl (by decide) (Nat.le_of_ble_eq_true rfl) rfl ?_
        intro r1 σ1 hr
        rw [hr.1, show r1 = bz (decide (0 ≤ xi ∧ xi < nI (vS V w))) from hr.2.trans (by rw [decide_eq_decide.mpr (in_C (by omega))])]
        clear hr σ1 r1
        refine rw_if hX (tgt := 65) (cnd := .eq) (off := 17) (by decide +kernel) (by decide) (fun h48 => ?_) (fun h48 => ?_)
        · replace h48 := of_decide_eq_false (zb_eqT h48)
          skip
          refine rw_go hX [(65, .bipush (-12))] (by decide +kernel) (Ps := []) (pc' := 67) (lv' := [(0, .ref 66), (1, .int (nI w)), (2, .int xi)]) (st' := [.int (-(nI 12))]) (σ' := σ) rfl True.intro ?_
          exact rw_iret hX (by decide +kernel) (⟨by simp only [aRaw, eq_true h4, hcw, eq_true h15, eq_false hvsw, eq_false h23, eq_false h48, ite2 h48, if_true, if_false, Bool.false_eq_true, and_self, and_true, true_and, and_false, false_and], rfl⟩)
        · replace h48 := of_decide_eq_true (zb_eqF h48)
          obtain ⟨i, hi, rfl⟩ := rngO (m := vS V w) (by omega) h48
          have hci : (nI i).toNatClampNeg = i := nI_clamp (by omega)
          have hzi : ¬ nI i < 0 := nI_pos (by omega)
          have hli : nI i < nI (vS V w) := h48.2
          refine rw_go hX [(51, .aload_n 0), (52, .getfield 9), (55, .bipush 50), (57, .iload_n 1), (58, .imul)] (by decide +kernel) (Ps := []) (pc' := 59) (lv' := [(0, .ref 66), (1, .int (nI w)), (2, .int (nI i))]) (st' := [.int (nI 50 * nI w), .ref 67]) (σ' := σ) rfl True.intro ?_
          rw [show (nI 50 * nI w) = nI (50 * w) from pk_mul _ _]
          refine rw_go hX [(59, .iload_n 2), (60, .iadd)] (by decide +kernel) (Ps := []) (pc' := 61) (lv' := [(0, .ref 66), (1, .int (nI w)), (2, .int (nI i))]) (st' := [.int (nI (50 * w) + nI i), .ref 67]) (σ' := σ) rfl True.intro ?_
          rw [show (nI (50 * w) + nI i) = nI (50 * w + i) from nI_add _ _]
          refine rw_go hX [(61, .iaload)] (by decide +kernel) (Ps := [vp_in (nI (50 * w + i)) 250]) (pc' := 62) (lv' := [(0, .ref 66), (1, .int (nI w)), (2, .int (nI i))]) (st' := [.int (σ 67 (nI (50 * w + i)).toNatClampNeg)]) (σ' := σ) rfl (vp_in_nI (by omega) (by omega)) ?_
          rw [show (σ 67 (nI (50 * w + i)).toNatClampNeg) = V 0 (50 * w + i) from (by rw [nI_clamp (by omega), (vw_at hV 0 (by omega))])]
          refine rw_go hX [(62, .goto 5)] (by decide +kernel) (Ps := []) (pc' := 67) (lv' := [(0, .ref 66), (1, .int (nI w)), (2, .int (nI i))]) (st' := [.int (V 0 (50 * w + i))]) (σ' := σ) rfl True.intro ?_
          exact rw_iret hX (by decide +kernel) (⟨by simp only [aRaw, eq_true h4, hcw, eq_true h15, eq_false hvsw, eq_false h23, eq_true h48, hci, eq_false hzi, eq_true hli, if_true, if_false, Bool.false_eq_true, and_self, and_true, true_and, and_false, false_and], rfl⟩)
      · replace h23 : xi = (-(nI 1)) := Classical.not_not.mp h23
        refine rw_go hX [(26, .aload_n 0), (27, .getfield 13), (30, .iload_n 1), (31, .iaload)] (by decide +kernel) (Ps := [vp_in (nI w) 5]) (pc' := 32) (lv' := [(0, .ref 66), (1, .int (nI w)), (2, .int xi)]) (st' := [.int (σ 68 (nI w).toNatClampNeg)]) (σ' := σ) rfl (vp_in_nI (by omega) (by omega)) ?_
        rw [show (σ 68 (nI w).toNatClampNeg) = nI (vS V w) from (by rw [nI_clamp (by omega), (vw_at hV 1 (by omega)), wf_s hv hw])]
        exact rw_iret hX (by decide +kernel) (⟨by simp only [aRaw, eq_true h4, hcw, eq_true h15, eq_false hvsw, eq_true h23, if_true, if_false, Bool.false_eq_true, and_self, and_true, true_and, and_false, false_and], rfl⟩)
    · replace h15 := of_decide_eq_false (zb_neF h15)
      have hvsw : vS V w = 0 := by omega
      refine rw_go hX [(18, .bipush (-11))] (by decide +kernel) (Ps := []) (pc' := 20) (lv' := [(0, .ref 66), (1, .int (nI w)), (2, .int xi)]) (st' := [.int (-(nI 11))]) (σ' := σ) rfl True.intro ?_
      exact rw_iret hX (by decide +kernel) (⟨by simp only [aRaw, eq_true h4, hcw, eq_false h15, eq_true hvsw, if_true, if_false, Bool.false_eq_true, and_self, and_true, true_and, and_false, false_and], rfl⟩)
  · replace h4 := of_decide_eq_false (zb_neF h4)
    refine rw_go hX [(7, .bipush (-2))] (by decide +kernel) (Ps := []) (pc' := 9) (lv' := [(0, .ref 66), (1, .int xw), (2, .int xi)]) (st' := [.int (-(nI 2))]) (σ' := σ) rfl True.intro ?_
    exact rw_iret hX (by decide +kernel) (⟨by simp only [aRaw, eq_false h4, if_true, if_false, Bool.false_eq_true, and_self, and_true, true_and, and_false, false_and], rfl⟩)
/-- what the model's telling leaves as it was -/
def MQu (σ σ' : Mm) : Prop := (∀ k, k < 75 ∨ 91 < k → k ≠ 66 → k ≠ 99 → σ' k = σ k) ∧ σ' 66 6 = σ 66 6 ∧ σ' 66 8 = σ 66 8
theorem MQu_rfl (σ : Mm) : MQu σ σ := ⟨fun _ _ _ _ => rfl, rfl, rfl⟩
theorem MQu.trans {σ τ υ : Mm} (h : MQu σ τ) (g : MQu τ υ) : MQu σ υ := ⟨fun k h1 h2 h3 => (g.1 k h1 h2 h3).trans (h.1 k h1 h2 h3), g.2.1.trans h.2.1, g.2.2.trans h.2.2⟩
theorem MQu_A {σ τ : Mm} (h : FAN σ τ) : MQu σ τ := ⟨fun k h1 h2 h3 => h k (by omega), congrFun (h 66 (by omega)) 6, congrFun (h 66 (by omega)) 8⟩
theorem MQu_M {σ τ : Mm} (h : FM σ τ) : MQu σ τ := ⟨fun k h1 h2 h3 => h.1 k (by simp only [List.mem_cons, List.not_mem_nil, or_false]; omega), h.2 6 (by decide), h.2 8 (by decide)⟩
theorem MQu_k {σ τ : Mm} {ks : List Nat} (h : ∀ k, k ∉ ks → τ k = σ k) (g : ks.all (fun k => Nat.ble 75 k && Nat.ble k 91 || Nat.beq k 99) = true) : MQu σ τ := by
  have e : ∀ k, k < 75 ∨ 91 < k → k ≠ 99 → τ k = σ k := fun k h1 h2 => h k fun hm => by
    have := List.all_eq_true.mp g k hm
    rw [Bool.or_eq_true, Bool.and_eq_true, Nat.ble_eq, Nat.ble_eq] at this
    rcases this with q | q
    · omega
    · exact h2 (Nat.eq_of_beq_eq_true q)
  exact ⟨fun k h1 _ h3 => e k h1 h3, congrFun (e 66 (by omega) (by decide)) 6, congrFun (e 66 (by omega) (by decide)) 8⟩
set_option maxRecDepth 20000 in
set_option maxHeartbeats 4000000 in
theorem g_letter (l : Launch) (G : Gl) (σ : Mm) (V : Mm) (xw xi xq : Int32) (hV : vw σ 67 = V) (hv : wf V) : AMi l G 5 mX10_letter [.ref 66, .int xw, .int xi, .int xq] σ (fun r σ' => r = aLetter V xw xi xq ∧ MQu σ σ') := by
  refine rw_inI 10 (by decide +kernel) rfl rfl ?_
  intro E hE hX
  subst hE
  refine rw_go hX [(0, .iload_n 1)] (by decide +kernel) (Ps := []) (pc' := 1) (lv' := [(0, .ref 66), (1, .int xw), (2, .int xi), (3, .int xq)]) (st' := [.int xw]) (σ' := σ) rfl True.intro ?_
  refine rw_callSi hX (as := [.int xw]) (rest := []) (m_isWork _ _ _ (xw)) (by decide +kernel) msX10_isWork (Or.inl lk10_157) rfl (by decide) (Nat.le_of_ble_eq_true rfl) rfl ?_
  intro r1 σ1 hr
  rw [hr.1, show r1 = bz (decide (0 ≤ xw ∧ xw ≤ 4)) from hr.2]
  clear hr σ1 r1
  refine rw_if hX (tgt := 17) (cnd := .eq) (off := 13) (by decide +kernel) (by decide) (fun h4 => ?_) (fun h4 => ?_)
  · replace h4 := of_decide_eq_false (zb_eqT h4)
    refine rw_go hX [(17, .bipush (-2))] (by decide +kernel) (Ps := []) (pc' := 19) (lv' := [(0, .ref 66), (1, .int xw), (2, .int xi), (3, .int xq)]) (st' := [.int (-(nI 2))]) (σ' := σ) rfl True.intro ?_
    exact rw_iret hX (by decide +kernel) (⟨by simp only [aLetter, eq_false h4, if_true, if_false, Bool.false_eq_true, and_self, and_true, true_and, and_false, false_and], MQu_rfl _⟩)
  · replace h4 := of_decide_eq_true (zb_eqF h4)
    obtain ⟨w, hw, rfl⟩ := rng (m := 4) (by omega) h4
    have hw : w < 5 := hw
    have hcw : (nI w).toNatClampNeg = w := nI_clamp (by omega)
    refine rw_go hX [(7, .iload_n 3), (8, .i2l), (9, .lconst 0), (10, .lconst 1)] (by decide +kernel) (Ps := []) (pc' := 11) (lv' := [(0, .ref 66), (1, .int (nI w)), (2, .int xi), (3, .int xq)]) (st' := [.long (Int64.ofNat 1), .long (Int64.ofNat 0), .long (xq.toInt64)]) (σ' := σ) rfl True.intro ?_
    refine rw_callSi hX (as := [.long (xq.toInt64), .long (Int64.ofNat 0), .long (Int64.ofNat 1)]) (rest := []) (m_inI _ _ _ (xq) (0) (nI 1) _ _ _ rfl (by first | rfl | decide +kernel) (by first | rfl | decide +kernel)) (by decide +kernel) msX10_in (Or.inl lk10_105) rfl (by decide) (Nat.le_of_ble_eq_true rfl) rfl ?_
    intro r1 σ1 hr
    rw [hr.1, show r1 = bz (decide (0 ≤ xq ∧ xq < nI 2)) from hr.2.trans (by rw [decide_eq_decide.mpr (in_O (m := 1) (by omega))])]
    clear hr σ1 r1
    refine rw_if hX (tgt := 20) (cnd := .ne) (off := 6) (by decide +kernel) (by decide) (fun h14 => ?_) (fun h14 => ?_)
    · replace h14 := of_decide_eq_true (zb_neT h14)
      refine rw_go hX [(20, .aload_n 0), (21, .iload_n 1)] (by decide +kernel) (Ps := []) (pc' := 22) (lv' := [(0, .ref 66), (1, .int (nI w)), (2, .int xi), (3, .int xq)]) (st' := [.int (nI w), .ref 66]) (σ' := σ) rfl True.intro ?_
      refine rw_callVi hX (as := [.int (nI w)]) (rest := []) (m_there _ _ _ V w hV hv hw) (by decide +kernel) mvX10_isThere lk10_132 (ci := 9) rfl rfl rfl (by decide) (Nat.le_of_ble_eq_true rfl) rfl ?_
      intro r1 σ1 hr
      rw [hr.1, show r1 = bz (decide (0 < vS V w)) from hr.2]
      clear hr σ1 r1
      refine rw_if hX (tgt := 31) (cnd := .ne) (off := 6) (by decide +kernel) (by decide) (fun h25 => ?_) (fun h25 => ?_)
      · replace h25 := of_decide_eq_true (zb_neT h25)
        have hvsw : ¬ vS V w = 0 := by omega
        refine rw_go hX [(31, .aload_n 0), (32, .iload_n 1)] (by decide +kernel) (Ps := []) (pc' := 33) (lv' := [(0, .ref 66), (1, .int (nI w)), (2, .int xi), (3, .int xq)]) (st' := [.int (nI w), .ref 66]) (σ' := σ) rfl True.intro ?_
        refine rw_callVv hX (as := [.int (nI w)]) (rest := []) (m_spells _ _ _ V w hV hv hw) (by decide +kernel) mvX10_spells lk10_174 (ci := 9) rfl rfl rfl (by decide) (Nat.le_of_ble_eq_true rfl) rfl ?_
        intro σ1 hr
        rw [hr]
        clear hr σ1
        have hR := RLe_mk (rt := 75) (rp := 76) (rn := 77) (V := V) (w := w) σ (by decide) (by decide) (by decide) hv hw
        have hL5 := lC_50 hv hw
        refine rw_go hX [(36, .iload_n 2), (37, .iconst (-1))] (by decide +kernel) (Ps := []) (pc' := 38) (lv' := [(0, .ref 66), (1, .int (nI w)), (2, .int xi), (3, .int xq)]) (st' := [.int (-(nI 1)), .int xi]) (σ' := rdL 75 76 77 V w σ) rfl True.intro ?_
        refine rw_icmp hX (tgt := 48) (cnd := .ne) (off := 10) (by decide +kernel) (by decide) (fun h38 => ?_) (fun h38 => ?_)
        · replace h38 : (xi ≠ (-(nI 1))) := h38
          refine rw_go hX [(48, .iload_n 2), (49, .i2l), (50, .lconst 0), (51, .aload_n 0), (52, .getfield 40), (55, .iload_n 1), (56, .iaload)] (by decide +kernel) (Ps := [vp_in (nI w) 5]) (pc' := 57) (lv' := [(0, .ref 66), (1, .int (nI w)), (2, .int xi), (3, .int xq)]) (st' := [.int ((rdL 75 76 77 V w σ) 77 (nI w).toNatClampNeg), .long (Int64.ofNat 0), .long (xi.toInt64)]) (σ' := rdL 75 76 77 V w σ) rfl (vp_in_nI (by omega) (by omega)) ?_
          rw [show ((rdL 75 76 77 V w σ) 77 (nI w).toNatClampNeg) = nI (lC V w) from (by rw [nI_clamp (by omega), hR.1])]
          refine rw_go hX [(57, .iconst 1), (58, .isub), (59, .i2l)] (by decide +kernel) (Ps := []) (pc' := 60) (lv' := [(0, .ref 66), (1, .int (nI w)), (2, .int xi), (3, .int xq)]) (st' := [.long ((nI (lC V w) - nI 1).toInt64), .long (Int64.ofNat 0), .long (xi.toInt64)]) (σ' := rdL 75 76 77 V w σ) rfl True.intro ?_
          refine rw_callSi hX (as := [.long (xi.toInt64), .long (Int64.ofNat 0), .long ((nI (lC V w) - nI 1).toInt64)]) (rest := []) (m_inI _ _ _ (xi) (0) (nI (lC V w) - nI 1) _ _ _ rfl (by first | rfl | decide +kernel) (by first | rfl | decide +kernel)) (by decide +kernel) msX10_in (Or.inl lk10_105) rfl (by decide) (Nat.le_of_ble_eq_true rfl) rfl ?_
          intro r1 σ1 hr
          rw [hr.1, show r1 = bz (decide (0 ≤ xi ∧ xi < nI (lC V w))) from hr.2.trans (by rw [decide_eq_decide.mpr (in_C (by omega))])]
          clear hr σ1 r1
          refine rw_if hX (tgt := 71) (cnd := .ne) (off := 8) (by decide +kernel) (by decide) (fun h63 => ?_) (fun h63 => ?_)
          · replace h63 := of_decide_eq_true (zb_neT h63)
            obtain ⟨i, hi, rfl⟩ := rngO (m := lC V w) (by omega) h63
            have hci : (nI i).toNatClampNeg = i := nI_clamp (by omega)
            have hzi : ¬ nI i < 0 := nI_pos (by omega)
            have hli : nI i < nI (lC V w) := h63.2
            refine rw_go hX [(71, .iload_n 3)] (by decide +kernel) (Ps := []) (pc' := 72) (lv' := [(0, .ref 66), (1, .int (nI w)), (2, .int (nI i)), (3, .int xq)]) (st' := [.int xq]) (σ' := rdL 75 76 77 V w σ) rfl True.intro ?_
            refine rw_if hX (tgt := 89) (cnd := .ne) (off := 17) (by decide +kernel) (by decide) (fun h72 => ?_) (fun h72 => ?_)
            · replace h72 : (xq ≠ 0) := h72
              refine rw_go hX [(89, .aload_n 0), (90, .getfield 37), (93, .bipush 50), (95, .iload_n 1), (96, .imul)] (by decide +kernel) (Ps := []) (pc' := 97) (lv' := [(0, .ref 66), (1, .int (nI w)), (2, .int (nI i)), (3, .int xq)]) (st' := [.int (nI 50 * nI w), .ref 76]) (σ' := rdL 75 76 77 V w σ) rfl True.intro ?_
              rw [show (nI 50 * nI w) = nI (50 * w) from pk_mul _ _]
              refine rw_go hX [(97, .iload_n 2), (98, .iadd)] (by decide +kernel) (Ps := []) (pc' := 99) (lv' := [(0, .ref 66), (1, .int (nI w)), (2, .int (nI i)), (3, .int xq)]) (st' := [.int (nI (50 * w) + nI i), .ref 76]) (σ' := rdL 75 76 77 V w σ) rfl True.intro ?_
              rw [show (nI (50 * w) + nI i) = nI (50 * w + i) from nI_add _ _]
              refine rw_go hX [(99, .iaload)] (by decide +kernel) (Ps := [vp_in (nI (50 * w + i)) 250]) (pc' := 100) (lv' := [(0, .ref 66), (1, .int (nI w)), (2, .int (nI i)), (3, .int xq)]) (st' := [.int ((rdL 75 76 77 V w σ) 76 (nI (50 * w + i)).toNatClampNeg)]) (σ' := rdL 75 76 77 V w σ) rfl (vp_in_nI (by omega) (by omega)) ?_
              rw [show ((rdL 75 76 77 V w σ) 76 (nI (50 * w + i)).toNatClampNeg) = nI (PL V w i) from (by rw [nI_clamp (by omega), (hR.2 i hi).2])]
              exact rw_iret hX (by decide +kernel) (⟨by simp only [aLetter, eq_true h4, hcw, eq_true h14, eq_true h25, eq_false hvsw, eq_false h38, eq_true h63, hci, eq_false hzi, eq_true hli, eq_false h72, if_true, if_false, Bool.false_eq_true, and_self, and_true, true_and, and_false, false_and], ⟨fun k h1 h2 h3 => rdL_n _ (by omega) (by omega) (by omega), congrFun (rdL_n _ (by decide) (by decide) (by decide)) 6, congrFun (rdL_n _ (by decide) (by decide) (by decide)) 8⟩⟩)
            · replace h72 : xq = 0 := Classical.not_not.mp h72
              refine rw_go hX [(75, .aload_n 0), (76, .getfield 34), (79, .bipush 50), (81, .iload_n 1), (82, .imul)] (by decide +kernel) (Ps := []) (pc' := 83) (lv' := [(0, .ref 66), (1, .int (nI w)), (2, .int (nI i)), (3, .int xq)]) (st' := [.int (nI 50 * nI w), .ref 75]) (σ' := rdL 75 76 77 V w σ) rfl True.intro ?_
              rw [show (nI 50 * nI w) = nI (50 * w) from pk_mul _ _]
              refine rw_go hX [(83, .iload_n 2), (84, .iadd)] (by decide +kernel) (Ps := []) (pc' := 85) (lv' := [(0, .ref 66), (1, .int (nI w)), (2, .int (nI i)), (3, .int xq)]) (st' := [.int (nI (50 * w) + nI i), .ref 75]) (σ' := rdL 75 76 77 V w σ) rfl True.intro ?_
              rw [show (nI (50 * w) + nI i) = nI (50 * w + i) from nI_add _ _]
              refine rw_go hX [(85, .iaload)] (by decide +kernel) (Ps := [vp_in (nI (50 * w + i)) 250]) (pc' := 86) (lv' := [(0, .ref 66), (1, .int (nI w)), (2, .int (nI i)), (3, .int xq)]) (st' := [.int ((rdL 75 76 77 V w σ) 75 (nI (50 * w + i)).toNatClampNeg)]) (σ' := rdL 75 76 77 V w σ) rfl (vp_in_nI (by omega) (by omega)) ?_
              rw [show ((rdL 75 76 77 V w σ) 75 (nI (50 * w + i)).toNatClampNeg) = LT V (50 * w + i) from (by rw [nI_clamp (by omega), (hR.2 i hi).1])]
              refine rw_go hX [(86, .goto 14)] (by decide +kernel) (Ps := []) (pc' := 100) (lv' := [(0, .ref 66), (1, .int (nI w)), (2, .int (nI i)), (3, .int xq)]) (st' := [.int (LT V (50 * w + i))]) (σ' := rdL 75 76 77 V w σ) rfl True.intro ?_
              exact rw_iret hX (by decide +kernel) (⟨by simp only [aLetter, eq_true h4, hcw, eq_true h14, eq_true h25, eq_false hvsw, eq_false h38, eq_true h63, hci, eq_false hzi, eq_true hli, eq_true h72, if_true, if_false, Bool.false_eq_true, and_self, and_true, true_and, and_false, false_and], ⟨fun k h1 h2 h3 => rdL_n _ (by omega) (by omega) (by omega), congrFun (rdL_n _ (by decide) (by decide) (by decide)) 6, congrFun (rdL_n _ (by decide) (by decide) (by decide)) 8⟩⟩)
          · replace h63 := of_decide_eq_false (zb_neF h63)
            skip
            refine rw_go hX [(66, .bipush (-12)), (68, .goto 32)] (by decide +kernel) (Ps := []) (pc' := 100) (lv' := [(0, .ref 66), (1, .int (nI w)), (2, .int xi), (3, .int xq)]) (st' := [.int (-(nI 12))]) (σ' := rdL 75 76 77 V w σ) rfl True.intro ?_
            exact rw_iret hX (by decide +kernel) (⟨by simp only [aLetter, eq_true h4, hcw, eq_true h14, eq_true h25, eq_false hvsw, eq_false h38, eq_false h63, ite2 h63, if_true, if_false, Bool.false_eq_true, and_self, and_true, true_and, and_false, false_and], ⟨fun k h1 h2 h3 => rdL_n _ (by omega) (by omega) (by omega), congrFun (rdL_n _ (by decide) (by decide) (by decide)) 6, congrFun (rdL_n _ (by decide) (by decide) (by decide)) 8⟩⟩)
        · replace h38 : xi = (-(nI 1)) := Classical.not_not.mp h38
          refine rw_go hX [(41, .aload_n 0), (42, .getfield 40), (45, .iload_n 1), (46, .iaload)] (by decide +kernel) (Ps := [vp_in (nI w) 5]) (pc' := 47) (lv' := [(0, .ref 66), (1, .int (nI w)), (2, .int xi), (3, .int xq)]) (st' := [.int ((rdL 75 76 77 V w σ) 77 (nI w).toNatClampNeg)]) (σ' := rdL 75 76 77 V w σ) rfl (vp_in_nI (by omega) (by omega)) ?_
          rw [show ((rdL 75 76 77 V w σ) 77 (nI w).toNatClampNeg) = nI (lC V w) from (by rw [nI_clamp (by omega), hR.1])]
          exact rw_iret hX (by decide +kernel) (⟨by simp only [aLetter, eq_true h4, hcw, eq_true h14, eq_true h25, eq_false hvsw, eq_true h38, if_true, if_false, Bool.false_eq_true, and_self, and_true, true_and, and_false, false_and], ⟨fun k h1 h2 h3 => rdL_n _ (by omega) (by omega) (by omega), congrFun (rdL_n _ (by decide) (by decide) (by decide)) 6, congrFun (rdL_n _ (by decide) (by decide) (by decide)) 8⟩⟩)
      · replace h25 := of_decide_eq_false (zb_neF h25)
        have hvsw : vS V w = 0 := by omega
        refine rw_go hX [(28, .bipush (-11))] (by decide +kernel) (Ps := []) (pc' := 30) (lv' := [(0, .ref 66), (1, .int (nI w)), (2, .int xi), (3, .int xq)]) (st' := [.int (-(nI 11))]) (σ' := σ) rfl True.intro ?_
        exact rw_iret hX (by decide +kernel) (⟨by simp only [aLetter, eq_true h4, hcw, eq_true h14, eq_false h25, eq_true hvsw, if_true, if_false, Bool.false_eq_true, and_self, and_true, true_and, and_false, false_and], MQu_rfl _⟩)
    · replace h14 := of_decide_eq_false (zb_neF h14)
      refine rw_go hX [(17, .bipush (-2))] (by decide +kernel) (Ps := []) (pc' := 19) (lv' := [(0, .ref 66), (1, .int (nI w)), (2, .int xi), (3, .int xq)]) (st' := [.int (-(nI 2))]) (σ' := σ) rfl True.intro ?_
      exact rw_iret hX (by decide +kernel) (⟨by simp only [aLetter, eq_true h4, hcw, eq_false h14, if_true, if_false, Bool.false_eq_true, and_self, and_true, true_and, and_false, false_and], MQu_rfl _⟩)
set_option maxRecDepth 20000 in
set_option maxHeartbeats 4000000 in
theorem m_isUnder (l : Launch) (G : Gl) (σ : Mm) (i k : Nat) (hi : i < 6) (hk : k < 6) : AMi l G 0 mX10_isUnder [.int (nI i), .int (nI k)] σ (fun r σ' => σ' = σ ∧ r = bz (undK i k)) := by
  refine rw_inI 10 (by decide +kernel) rfl rfl ?_
  intro E hE hX
  subst hE
  refine rw_go hX [(0, .iload_n 0), (1, .iload_n 1)] (by decide +kernel) (Ps := []) (pc' := 2) (lv' := [(0, .int (nI i)), (1, .int (nI k))]) (st' := [.int (nI k), .int (nI i)]) (σ' := σ) rfl True.intro ?_
  refine rw_icmp hX (tgt := 29) (cnd := .eq) (off := 27) (by decide +kernel) (by decide) (fun h2 => ?_) (fun h2 => ?_)
  · replace h2 := c2_eqT h2
    refine rw_go hX [(29, .iconst 1), (30, .goto 4)] (by decide +kernel) (Ps := []) (pc' := 34) (lv' := [(0, .int (nI i)), (1, .int (nI k))]) (st' := [.int (nI 1)]) (σ' := σ) rfl True.intro ?_
    exact rw_zret hX (by decide +kernel) (Or.inr rfl) (⟨rfl, by
  unfold undK
  first
  | (rw [decide_eq_true (show i = k by omega)]; rfl)
  | (rw [decide_eq_true (show k = 0 by omega), Bool.true_or, Bool.or_true]; rfl)
  | (rw [decide_eq_true (show k = 1 by omega), decide_eq_true (show 3 < i by omega), Bool.true_and, Bool.true_or, Bool.or_true, Bool.or_true]; rfl)
  | (rw [decide_eq_true (show k = 2 by omega), decide_eq_true (show i = 3 by omega), Bool.true_and, Bool.or_true, Bool.or_true, Bool.or_true]; rfl)
  | (rw [decide_eq_false (show ¬ i = k by omega), decide_eq_false (show ¬ k = 0 by omega), show (decide (k = 1) && decide (3 < i)) = false from by rw [← Bool.decide_and]; exact decide_eq_false (by omega), show (decide (k = 2) && decide (i = 3)) = false from by rw [← Bool.decide_and]; exact decide_eq_false (by omega)]; rfl)⟩)
  · replace h2 := c2_eqF h2
    refine rw_go hX [(5, .iload_n 1)] (by decide +kernel) (Ps := []) (pc' := 6) (lv' := [(0, .int (nI i)), (1, .int (nI k))]) (st' := [.int (nI k)]) (σ' := σ) rfl True.intro ?_
    refine rw_if hX (tgt := 29) (cnd := .eq) (off := 23) (by decide +kernel) (by decide) (fun h6 => ?_) (fun h6 => ?_)
    · replace h6 := zn_eqT h6
      refine rw_go hX [(29, .iconst 1), (30, .goto 4)] (by decide +kernel) (Ps := []) (pc' := 34) (lv' := [(0, .int (nI i)), (1, .int (nI k))]) (st' := [.int (nI 1)]) (σ' := σ) rfl True.intro ?_
      exact rw_zret hX (by decide +kernel) (Or.inr rfl) (⟨rfl, by
  unfold undK
  first
  | (rw [decide_eq_true (show i = k by omega)]; rfl)
  | (rw [decide_eq_true (show k = 0 by omega), Bool.true_or, Bool.or_true]; rfl)
  | (rw [decide_eq_true (show k = 1 by omega), decide_eq_true (show 3 < i by omega), Bool.true_and, Bool.true_or, Bool.or_true, Bool.or_true]; rfl)
  | (rw [decide_eq_true (show k = 2 by omega), decide_eq_true (show i = 3 by omega), Bool.true_and, Bool.or_true, Bool.or_true, Bool.or_true]; rfl)
  | (rw [decide_eq_false (show ¬ i = k by omega), decide_eq_false (show ¬ k = 0 by omega), show (decide (k = 1) && decide (3 < i)) = false from by rw [← Bool.decide_and]; exact decide_eq_false (by omega), show (decide (k = 2) && decide (i = 3)) = false from by rw [← Bool.decide_and]; exact decide_eq_false (by omega)]; rfl)⟩)
    · replace h6 := zn_eqF h6
      refine rw_go hX [(9, .iload_n 1), (10, .iconst 1)] (by decide +kernel) (Ps := []) (pc' := 11) (lv' := [(0, .int (nI i)), (1, .int (nI k))]) (st' := [.int (nI 1), .int (nI k)]) (σ' := σ) rfl True.intro ?_
      refine rw_icmp hX (tgt := 19) (cnd := .ne) (off := 8) (by decide +kernel) (by decide) (fun h11 => ?_) (fun h11 => ?_)
      · replace h11 := c2_neT h11
        refine rw_go hX [(19, .iload_n 1), (20, .iconst 2)] (by decide +kernel) (Ps := []) (pc' := 21) (lv' := [(0, .int (nI i)), (1, .int (nI k))]) (st' := [.int (nI 2), .int (nI k)]) (σ' := σ) rfl True.intro ?_
        refine rw_icmp hX (tgt := 33) (cnd := .ne) (off := 12) (by decide +kernel) (by decide) (fun h21 => ?_) (fun h21 => ?_)
        · replace h21 := c2_neT h21
          refine rw_go hX [(33, .iconst 0)] (by decide +kernel) (Ps := []) (pc' := 34) (lv' := [(0, .int (nI i)), (1, .int (nI k))]) (st' := [.int (nI 0)]) (σ' := σ) rfl True.intro ?_
          exact rw_zret hX (by decide +kernel) (Or.inl rfl) (⟨rfl, by
  unfold undK
  first
  | (rw [decide_eq_true (show i = k by omega)]; rfl)
  | (rw [decide_eq_true (show k = 0 by omega), Bool.true_or, Bool.or_true]; rfl)
  | (rw [decide_eq_true (show k = 1 by omega), decide_eq_true (show 3 < i by omega), Bool.true_and, Bool.true_or, Bool.or_true, Bool.or_true]; rfl)
  | (rw [decide_eq_true (show k = 2 by omega), decide_eq_true (show i = 3 by omega), Bool.true_and, Bool.or_true, Bool.or_true, Bool.or_true]; rfl)
  | (rw [decide_eq_false (show ¬ i = k by omega), decide_eq_false (show ¬ k = 0 by omega), show (decide (k = 1) && decide (3 < i)) = false from by rw [← Bool.decide_and]; exact decide_eq_false (by omega), show (decide (k = 2) && decide (i = 3)) = false from by rw [← Bool.decide_and]; exact decide_eq_false (by omega)]; rfl)⟩)
        · replace h21 := c2_neF h21
          refine rw_go hX [(24, .iload_n 0), (25, .iconst 3)] (by decide +kernel) (Ps := []) (pc' := 26) (lv' := [(0, .int (nI i)), (1, .int (nI k))]) (st' := [.int (nI 3), .int (nI i)]) (σ' := σ) rfl True.intro ?_
          refine rw_icmp hX (tgt := 33) (cnd := .ne) (off := 7) (by decide +kernel) (by decide) (fun h26 => ?_) (fun h26 => ?_)
          · replace h26 := c2_neT h26
            refine rw_go hX [(33, .iconst 0)] (by decide +kernel) (Ps := []) (pc' := 34) (lv' := [(0, .int (nI i)), (1, .int (nI k))]) (st' := [.int (nI 0)]) (σ' := σ) rfl True.intro ?_
            exact rw_zret hX (by decide +kernel) (Or.inl rfl) (⟨rfl, by
  unfold undK
  first
  | (rw [decide_eq_true (show i = k by omega)]; rfl)
  | (rw [decide_eq_true (show k = 0 by omega), Bool.true_or, Bool.or_true]; rfl)
  | (rw [decide_eq_true (show k = 1 by omega), decide_eq_true (show 3 < i by omega), Bool.true_and, Bool.true_or, Bool.or_true, Bool.or_true]; rfl)
  | (rw [decide_eq_true (show k = 2 by omega), decide_eq_true (show i = 3 by omega), Bool.true_and, Bool.or_true, Bool.or_true, Bool.or_true]; rfl)
  | (rw [decide_eq_false (show ¬ i = k by omega), decide_eq_false (show ¬ k = 0 by omega), show (decide (k = 1) && decide (3 < i)) = false from by rw [← Bool.decide_and]; exact decide_eq_false (by omega), show (decide (k = 2) && decide (i = 3)) = false from by rw [← Bool.decide_and]; exact decide_eq_false (by omega)]; rfl)⟩)
          · replace h26 := c2_neF h26
            refine rw_go hX [(29, .iconst 1), (30, .goto 4)] (by decide +kernel) (Ps := []) (pc' := 34) (lv' := [(0, .int (nI i)), (1, .int (nI k))]) (st' := [.int (nI 1)]) (σ' := σ) rfl True.intro ?_
            exact rw_zret hX (by decide +kernel) (Or.inr rfl) (⟨rfl, by
  unfold undK
  first
  | (rw [decide_eq_true (show i = k by omega)]; rfl)
  | (rw [decide_eq_true (show k = 0 by omega), Bool.true_or, Bool.or_true]; rfl)
  | (rw [decide_eq_true (show k = 1 by omega), decide_eq_true (show 3 < i by omega), Bool.true_and, Bool.true_or, Bool.or_true, Bool.or_true]; rfl)
  | (rw [decide_eq_true (show k = 2 by omega), decide_eq_true (show i = 3 by omega), Bool.true_and, Bool.or_true, Bool.or_true, Bool.or_true]; rfl)
  | (rw [decide_eq_false (show ¬ i = k by omega), decide_eq_false (show ¬ k = 0 by omega), show (decide (k = 1) && decide (3 < i)) = false from by rw [← Bool.decide_and]; exact decide_eq_false (by omega), show (decide (k = 2) && decide (i = 3)) = false from by rw [← Bool.decide_and]; exact decide_eq_false (by omega)]; rfl)⟩)
      · replace h11 := c2_neF h11
        refine rw_go hX [(14, .iload_n 0), (15, .iconst 3)] (by decide +kernel) (Ps := []) (pc' := 16) (lv' := [(0, .int (nI i)), (1, .int (nI k))]) (st' := [.int (nI 3), .int (nI i)]) (σ' := σ) rfl True.intro ?_
        refine rw_icmp hX (tgt := 29) (cnd := .gt) (off := 13) (by decide +kernel) (by decide) (fun h16 => ?_) (fun h16 => ?_)
        · replace h16 := c2_gtT h16
          refine rw_go hX [(29, .iconst 1), (30, .goto 4)] (by decide +kernel) (Ps := []) (pc' := 34) (lv' := [(0, .int (nI i)), (1, .int (nI k))]) (st' := [.int (nI 1)]) (σ' := σ) rfl True.intro ?_
          exact rw_zret hX (by decide +kernel) (Or.inr rfl) (⟨rfl, by
  unfold undK
  first
  | (rw [decide_eq_true (show i = k by omega)]; rfl)
  | (rw [decide_eq_true (show k = 0 by omega), Bool.true_or, Bool.or_true]; rfl)
  | (rw [decide_eq_true (show k = 1 by omega), decide_eq_true (show 3 < i by omega), Bool.true_and, Bool.true_or, Bool.or_true, Bool.or_true]; rfl)
  | (rw [decide_eq_true (show k = 2 by omega), decide_eq_true (show i = 3 by omega), Bool.true_and, Bool.or_true, Bool.or_true, Bool.or_true]; rfl)
  | (rw [decide_eq_false (show ¬ i = k by omega), decide_eq_false (show ¬ k = 0 by omega), show (decide (k = 1) && decide (3 < i)) = false from by rw [← Bool.decide_and]; exact decide_eq_false (by omega), show (decide (k = 2) && decide (i = 3)) = false from by rw [← Bool.decide_and]; exact decide_eq_false (by omega)]; rfl)⟩)
        · replace h16 := c2_gtF h16
          refine rw_go hX [(19, .iload_n 1), (20, .iconst 2)] (by decide +kernel) (Ps := []) (pc' := 21) (lv' := [(0, .int (nI i)), (1, .int (nI k))]) (st' := [.int (nI 2), .int (nI k)]) (σ' := σ) rfl True.intro ?_
          refine rw_icmp hX (tgt := 33) (cnd := .ne) (off := 12) (by decide +kernel) (by decide) (fun h21 => ?_) (fun h21 => ?_)
          · replace h21 := c2_neT h21
            refine rw_go hX [(33, .iconst 0)] (by decide +kernel) (Ps := []) (pc' := 34) (lv' := [(0, .int (nI i)), (1, .int (nI k))]) (st' := [.int (nI 0)]) (σ' := σ) rfl True.intro ?_
            exact rw_zret hX (by decide +kernel) (Or.inl rfl) (⟨rfl, by
  unfold undK
  first
  | (rw [decide_eq_true (show i = k by omega)]; rfl)
  | (rw [decide_eq_true (show k = 0 by omega), Bool.true_or, Bool.or_true]; rfl)
  | (rw [decide_eq_true (show k = 1 by omega), decide_eq_true (show 3 < i by omega), Bool.true_and, Bool.true_or, Bool.or_true, Bool.or_true]; rfl)
  | (rw [decide_eq_true (show k = 2 by omega), decide_eq_true (show i = 3 by omega), Bool.true_and, Bool.or_true, Bool.or_true, Bool.or_true]; rfl)
  | (rw [decide_eq_false (show ¬ i = k by omega), decide_eq_false (show ¬ k = 0 by omega), show (decide (k = 1) && decide (3 < i)) = false from by rw [← Bool.decide_and]; exact decide_eq_false (by omega), show (decide (k = 2) && decide (i = 3)) = false from by rw [← Bool.decide_and]; exact decide_eq_false (by omega)]; rfl)⟩)
          · replace h21 := c2_neF h21
            refine rw_go hX [(24, .iload_n 0), (25, .iconst 3)] (by decide +kernel) (Ps := []) (pc' := 26) (lv' := [(0, .int (nI i)), (1, .int (nI k))]) (st' := [.int (nI 3), .int (nI i)]) (σ' := σ) rfl True.intro ?_
            refine rw_icmp hX (tgt := 33) (cnd := .ne) (off := 7) (by decide +kernel) (by decide) (fun h26 => ?_) (fun h26 => ?_)
            · replace h26 := c2_neT h26
              refine rw_go hX [(33, .iconst 0)] (by decide +kernel) (Ps := []) (pc' := 34) (lv' := [(0, .int (nI i)), (1, .int (nI k))]) (st' := [.int (nI 0)]) (σ' := σ) rfl True.intro ?_
              exact rw_zret hX (by decide +kernel) (Or.inl rfl) (⟨rfl, by
  unfold undK
  first
  | (rw [decide_eq_true (show i = k by omega)]; rfl)
  | (rw [decide_eq_true (show k = 0 by omega), Bool.true_or, Bool.or_true]; rfl)
  | (rw [decide_eq_true (show k = 1 by omega), decide_eq_true (show 3 < i by omega), Bool.true_and, Bool.true_or, Bool.or_true, Bool.or_true]; rfl)
  | (rw [decide_eq_true (show k = 2 by omega), decide_eq_true (show i = 3 by omega), Bool.true_and, Bool.or_true, Bool.or_true, Bool.or_true]; rfl)
  | (rw [decide_eq_false (show ¬ i = k by omega), decide_eq_false (show ¬ k = 0 by omega), show (decide (k = 1) && decide (3 < i)) = false from by rw [← Bool.decide_and]; exact decide_eq_false (by omega), show (decide (k = 2) && decide (i = 3)) = false from by rw [← Bool.decide_and]; exact decide_eq_false (by omega)]; rfl)⟩)
            · replace h26 := c2_neF h26
              refine rw_go hX [(29, .iconst 1), (30, .goto 4)] (by decide +kernel) (Ps := []) (pc' := 34) (lv' := [(0, .int (nI i)), (1, .int (nI k))]) (st' := [.int (nI 1)]) (σ' := σ) rfl True.intro ?_
              exact rw_zret hX (by decide +kernel) (Or.inr rfl) (⟨rfl, by
  unfold undK
  first
  | (rw [decide_eq_true (show i = k by omega)]; rfl)
  | (rw [decide_eq_true (show k = 0 by omega), Bool.true_or, Bool.or_true]; rfl)
  | (rw [decide_eq_true (show k = 1 by omega), decide_eq_true (show 3 < i by omega), Bool.true_and, Bool.true_or, Bool.or_true, Bool.or_true]; rfl)
  | (rw [decide_eq_true (show k = 2 by omega), decide_eq_true (show i = 3 by omega), Bool.true_and, Bool.or_true, Bool.or_true, Bool.or_true]; rfl)
  | (rw [decide_eq_false (show ¬ i = k by omega), decide_eq_false (show ¬ k = 0 by omega), show (decide (k = 1) && decide (3 < i)) = false from by rw [← Bool.decide_and]; exact decide_eq_false (by omega), show (decide (k = 2) && decide (i = 3)) = false from by rw [← Bool.decide_and]; exact decide_eq_false (by omega)]; rfl)⟩)
theorem tk_y {V : Mm} {w i : Nat} (h : LT V (50 * w + i) ≠ V 0 (50 * w + PL V w i) ∨ isL (LT V (50 * w + i)) = false) : (!isL (V 0 (50 * w + PL V w i)) || decide (V 0 (50 * w + PL V w i) ≠ LT V (50 * w + i))) = true := by
  by_cases e : V 0 (50 * w + PL V w i) = LT V (50 * w + i)
  · rcases h with h | h
    · exact absurd e.symm h
    · rw [e, h]; rfl
  · rw [decide_eq_true e, Bool.or_true]
theorem tk_n {V : Mm} {w i : Nat} (h : LT V (50 * w + i) = V 0 (50 * w + PL V w i)) (g : isL (LT V (50 * w + i)) = true) : (!isL (V 0 (50 * w + PL V w i)) || decide (V 0 (50 * w + PL V w i) ≠ LT V (50 * w + i))) = false := by
  rw [← h, g, decide_eq_false (fun z => z rfl)]; rfl
set_option maxRecDepth 20000 in
set_option maxHeartbeats 4000000 in
theorem g_taken (l : Launch) (G : Gl) (σ : Mm) (V : Mm) (xw xk : Int32) (hV : vw σ 67 = V) (hv : wf V) : AMi l G 5 mX10_taken [.ref 66, .int xw, .int xk] σ (fun r σ' => r = aTaken V xw xk ∧ MQu σ σ') := by
  refine rw_inI 10 (by decide +kernel) rfl rfl ?_
  intro E hE hX
  subst hE
  refine rw_go hX [(0, .iload_n 1)] (by decide +kernel) (Ps := []) (pc' := 1) (lv' := [(0, .ref 66), (1, .int xw), (2, .int xk)]) (st' := [.int xw]) (σ' := σ) rfl True.intro ?_
  refine rw_callSi hX (as := [.int xw]) (rest := []) (m_isWork _ _ _ (xw)) (by decide +kernel) msX10_isWork (Or.inl lk10_157) rfl (by decide) (Nat.le_of_ble_eq_true rfl) rfl ?_
  intro r1 σ1 hr
  rw [hr.1, show r1 = bz (decide (0 ≤ xw ∧ xw ≤ 4)) from hr.2]
  clear hr σ1 r1
  refine rw_if hX (tgt := 19) (cnd := .eq) (off := 15) (by decide +kernel) (by decide) (fun h4 => ?_) (fun h4 => ?_)
  · replace h4 := of_decide_eq_false (zb_eqT h4)
    refine rw_go hX [(19, .bipush (-2))] (by decide +kernel) (Ps := []) (pc' := 21) (lv' := [(0, .ref 66), (1, .int xw), (2, .int xk)]) (st' := [.int (-(nI 2))]) (σ' := σ) rfl True.intro ?_
    exact rw_iret hX (by decide +kernel) (⟨by simp only [aTaken, eq_false h4, if_true, if_false, Bool.false_eq_true, and_self, and_true, true_and, and_false, false_and], MQu_rfl _⟩)
  · replace h4 := of_decide_eq_true (zb_eqF h4)
    obtain ⟨w, hw, rfl⟩ := rng (m := 4) (by omega) h4
    have hw : w < 5 := hw
    have hcw : (nI w).toNatClampNeg = w := nI_clamp (by omega)
    refine rw_go hX [(7, .iload_n 2), (8, .i2l), (9, .lconst 0), (10, .ldc2_w 136)] (by decide +kernel) (Ps := []) (pc' := 13) (lv' := [(0, .ref 66), (1, .int (nI w)), (2, .int xk)]) (st' := [.long 5, .long (Int64.ofNat 0), .long (xk.toInt64)]) (σ' := σ) rfl True.intro ?_
    refine rw_callSi hX (as := [.long (xk.toInt64), .long (Int64.ofNat 0), .long 5]) (rest := []) (m_inI _ _ _ (xk) (0) (5) _ _ _ rfl (by first | rfl | decide +kernel) (by first | rfl | decide +kernel)) (by decide +kernel) msX10_in (Or.inl lk10_105) rfl (by decide) (Nat.le_of_ble_eq_true rfl) rfl ?_
    intro r1 σ1 hr
    rw [hr.1, show r1 = bz (decide (0 ≤ xk ∧ xk ≤ 5)) from hr.2]
    clear hr σ1 r1
    refine rw_if hX (tgt := 22) (cnd := .ne) (off := 6) (by decide +kernel) (by decide) (fun h16 => ?_) (fun h16 => ?_)
    · replace h16 := of_decide_eq_true (zb_neT h16)
      obtain ⟨k, hk, rfl⟩ := rng (m := 5) (by omega) h16
      have hck : (nI k).toNatClampNeg = k := nI_clamp (by omega)
      refine rw_go hX [(22, .aload_n 0), (23, .iload_n 1)] (by decide +kernel) (Ps := []) (pc' := 24) (lv' := [(0, .ref 66), (1, .int (nI w)), (2, .int (nI k))]) (st' := [.int (nI w), .ref 66]) (σ' := σ) rfl True.intro ?_
      refine rw_callVi hX (as := [.int (nI w)]) (rest := []) (m_there _ _ _ V w hV hv hw) (by decide +kernel) mvX10_isThere lk10_132 (ci := 9) rfl rfl rfl (by decide) (Nat.le_of_ble_eq_true rfl) rfl ?_
      intro r1 σ1 hr
      rw [hr.1, show r1 = bz (decide (0 < vS V w)) from hr.2]
      clear hr σ1 r1
      refine rw_if hX (tgt := 33) (cnd := .ne) (off := 6) (by decide +kernel) (by decide) (fun h27 => ?_) (fun h27 => ?_)
      · replace h27 := of_decide_eq_true (zb_neT h27)
        have hvsw : ¬ vS V w = 0 := by omega
        refine rw_go hX [(33, .aload_n 0), (34, .getfield 16), (37, .iload_n 1), (38, .iaload)] (by decide +kernel) (Ps := [vp_in (nI w) 5]) (pc' := 39) (lv' := [(0, .ref 66), (1, .int (nI w)), (2, .int (nI k))]) (st' := [.int (σ 69 (nI w).toNatClampNeg)]) (σ' := σ) rfl (vp_in_nI (by omega) (by omega)) ?_
        rw [show (σ 69 (nI w).toNatClampNeg) = nI (vK V w) from (by rw [nI_clamp (by omega), (vw_at hV 2 (by omega)), wf_k hv hw])]
        refine rw_go hX [(39, .iload_n 2)] (by decide +kernel) (Ps := []) (pc' := 40) (lv' := [(0, .ref 66), (1, .int (nI w)), (2, .int (nI k))]) (st' := [.int (nI k), .int (nI (vK V w))]) (σ' := σ) rfl True.intro ?_
        refine rw_callSi hX (as := [.int (nI (vK V w)), .int (nI k)]) (rest := []) (m_isUnder _ _ _ (vK V w) k (wf_k6 hv hw) hk) (by decide +kernel) msX10_isUnder (Or.inl lk10_178) rfl (by decide) (Nat.le_of_ble_eq_true rfl) rfl ?_
        intro r1 σ1 hr
        rw [hr.1, show r1 = bz (undK (vK V w) k) from hr.2]
        clear hr σ1 r1
        refine rw_if hX (tgt := 49) (cnd := .ne) (off := 6) (by decide +kernel) (by decide) (fun h43 => ?_) (fun h43 => ?_)
        · replace h43 := zb_neT h43
          refine rw_go hX [(49, .aload_n 0), (50, .iload_n 1)] (by decide +kernel) (Ps := []) (pc' := 51) (lv' := [(0, .ref 66), (1, .int (nI w)), (2, .int (nI k))]) (st' := [.int (nI w), .ref 66]) (σ' := σ) rfl True.intro ?_
          refine rw_callVv hX (as := [.int (nI w)]) (rest := []) (m_spells _ _ _ V w hV hv hw) (by decide +kernel) mvX10_spells lk10_174 (ci := 9) rfl rfl rfl (by decide) (Nat.le_of_ble_eq_true rfl) rfl ?_
          intro σ1 hr
          rw [hr]
          clear hr σ1
          have hR := RLe_mk (rt := 75) (rp := 76) (rn := 77) (V := V) (w := w) σ (by decide) (by decide) (by decide) hv hw
          have hL5 := lC_50 hv hw
          have hs5 := wf_s50 hv hw
          refine rw_go hX [(54, .iconst 0), (55, .istore_n 3), (56, .iconst 0), (57, .istore 4)] (by decide +kernel) (Ps := []) (pc' := 59) (lv' := [(0, .ref 66), (1, .int (nI w)), (2, .int (nI k)), (3, .int (nI 0)), (4, .int (nI 0))]) (st' := []) (σ' := rdL 75 76 77 V w σ) rfl True.intro ?_
          have L59 : ∀ (μ59 : Nat) (i : Nat), μ59 = lC V w - i → (i ≤ lC V w) → RW E G 5 5 (QI E G (fun r σ' => r = aTaken V (nI w) (nI k) ∧ MQu σ σ')) 59 [(0, .ref 66), (1, .int (nI w)), (2, .int (nI k)), (3, .int (nI (cB (fun i => !isL (V 0 (50 * w + PL V w i)) || decide (V 0 (50 * w + PL V w i) ≠ LT V (50 * w + i))) i))), (4, .int (nI i))] [] (rdL 75 76 77 V w σ) := by
            intro μ59
            induction μ59 using Nat.strongRecOn with
            | ind μ59 ih59 =>
              intro i hμ59 hi
              refine rw_go hX [(59, .iload 4), (61, .aload_n 0), (62, .getfield 40), (65, .iload_n 1), (66, .iaload)] (by decide +kernel) (Ps := [vp_in (nI w) 5]) (pc' := 67) (lv' := [(0, .ref 66), (1, .int (nI w)), (2, .int (nI k)), (3, .int (nI (cB (fun i => !isL (V 0 (50 * w + PL V w i)) || decide (V 0 (50 * w + PL V w i) ≠ LT V (50 * w + i))) i))), (4, .int (nI i))]) (st' := [.int ((rdL 75 76 77 V w σ) 77 (nI w).toNatClampNeg), .int (nI i)]) (σ' := rdL 75 76 77 V w σ) rfl (vp_in_nI (by omega) (by omega)) ?_
              rw [show ((rdL 75 76 77 V w σ) 77 (nI w).toNatClampNeg) = nI (lC V w) from (by rw [nI_clamp (by omega), hR.1])]
              refine rw_icmp hX (tgt := 139) (cnd := .ge) (off := 72) (by decide +kernel) (by decide) (fun h67 => ?_) (fun h67 => ?_)
              · replace h67 := c2_geT h67
                have ei : i = lC V w := by omega
                refine rw_go hX [(139, .iload_n 3)] (by decide +kernel) (Ps := []) (pc' := 140) (lv' := [(0, .ref 66), (1, .int (nI w)), (2, .int (nI k)), (3, .int (nI (cB (fun i => !isL (V 0 (50 * w + PL V w i)) || decide (V 0 (50 * w + PL V w i) ≠ LT V (50 * w + i))) i))), (4, .int (nI i))]) (st' := [.int (nI (cB (fun i => !isL (V 0 (50 * w + PL V w i)) || decide (V 0 (50 * w + PL V w i) ≠ LT V (50 * w + i))) i))]) (σ' := rdL 75 76 77 V w σ) rfl True.intro ?_
                exact rw_iret hX (by decide +kernel) (⟨by rw [ei]; simp only [aTaken, eq_true h4, hcw, eq_true h16, hck, eq_true h27, eq_false hvsw, h43, eq_true h67, if_true, if_false, Bool.false_eq_true, and_self, and_true, true_and, and_false, false_and]; rfl, ⟨fun k h1 h2 h3 => rdL_n _ (by omega) (by omega) (by omega), congrFun (rdL_n _ (by decide) (by decide) (by decide)) 6, congrFun (rdL_n _ (by decide) (by decide) (by decide)) 8⟩⟩)
              · replace h67 := c2_geF h67
                have hpl := PL_lt V w h67
                refine rw_go hX [(70, .iload_n 3), (71, .aload_n 0), (72, .getfield 34), (75, .bipush 50), (77, .iload_n 1), (78, .imul)] (by decide +kernel) (Ps := []) (pc' := 79) (lv' := [(0, .ref 66), (1, .int (nI w)), (2, .int (nI k)), (3, .int (nI (cB (fun i => !isL (V 0 (50 * w + PL V w i)) || decide (V 0 (50 * w + PL V w i) ≠ LT V (50 * w + i))) i))), (4, .int (nI i))]) (st' := [.int (nI 50 * nI w), .ref 75, .int (nI (cB (fun i => !isL (V 0 (50 * w + PL V w i)) || decide (V 0 (50 * w + PL V w i) ≠ LT V (50 * w + i))) i))]) (σ' := rdL 75 76 77 V w σ) rfl True.intro ?_
                rw [show (nI 50 * nI w) = nI (50 * w) from pk_mul _ _]
                refine rw_go hX [(79, .iload 4), (81, .iadd)] (by decide +kernel) (Ps := []) (pc' := 82) (lv' := [(0, .ref 66), (1, .int (nI w)), (2, .int (nI k)), (3, .int (nI (cB (fun i => !isL (V 0 (50 * w + PL V w i)) || decide (V 0 (50 * w + PL V w i) ≠ LT V (50 * w + i))) i))), (4, .int (nI i))]) (st' := [.int (nI (50 * w) + nI i), .ref 75, .int (nI (cB (fun i => !isL (V 0 (50 * w + PL V w i)) || decide (V 0 (50 * w + PL V w i) ≠ LT V (50 * w + i))) i))]) (σ' := rdL 75 76 77 V w σ) rfl True.intro ?_
                rw [show (nI (50 * w) + nI i) = nI (50 * w + i) from nI_add _ _]
                refine rw_go hX [(82, .iaload)] (by decide +kernel) (Ps := [vp_in (nI (50 * w + i)) 250]) (pc' := 83) (lv' := [(0, .ref 66), (1, .int (nI w)), (2, .int (nI k)), (3, .int (nI (cB (fun i => !isL (V 0 (50 * w + PL V w i)) || decide (V 0 (50 * w + PL V w i) ≠ LT V (50 * w + i))) i))), (4, .int (nI i))]) (st' := [.int ((rdL 75 76 77 V w σ) 75 (nI (50 * w + i)).toNatClampNeg), .int (nI (cB (fun i => !isL (V 0 (50 * w + PL V w i)) || decide (V 0 (50 * w + PL V w i) ≠ LT V (50 * w + i))) i))]) (σ' := rdL 75 76 77 V w σ) rfl (vp_in_nI (by omega) (by omega)) ?_
                rw [show ((rdL 75 76 77 V w σ) 75 (nI (50 * w + i)).toNatClampNeg) = LT V (50 * w + i) from (by rw [nI_clamp (by omega), (hR.2 i h67).1])]
                refine rw_go hX [(83, .aload_n 0), (84, .getfield 9), (87, .bipush 50), (89, .iload_n 1), (90, .imul)] (by decide +kernel) (Ps := []) (pc' := 91) (lv' := [(0, .ref 66), (1, .int (nI w)), (2, .int (nI k)), (3, .int (nI (cB (fun i => !isL (V 0 (50 * w + PL V w i)) || decide (V 0 (50 * w + PL V w i) ≠ LT V (50 * w + i))) i))), (4, .int (nI i))]) (st' := [.int (nI 50 * nI w), .ref 67, .int (LT V (50 * w + i)), .int (nI (cB (fun i => !isL (V 0 (50 * w + PL V w i)) || decide (V 0 (50 * w + PL V w i) ≠ LT V (50 * w + i))) i))]) (σ' := rdL 75 76 77 V w σ) rfl True.intro ?_
                rw [show (nI 50 * nI w) = nI (50 * w) from pk_mul _ _]
                refine rw_go hX [(91, .aload_n 0), (92, .getfield 37), (95, .bipush 50), (97, .iload_n 1), (98, .imul)] (by decide +kernel) (Ps := []) (pc' := 99) (lv' := [(0, .ref 66), (1, .int (nI w)), (2, .int (nI k)), (3, .int (nI (cB (fun i => !isL (V 0 (50 * w + PL V w i)) || decide (V 0 (50 * w + PL V w i) ≠ LT V (50 * w + i))) i))), (4, .int (nI i))]) (st' := [.int (nI 50 * nI w), .ref 76, .int (nI (50 * w)), .ref 67, .int (LT V (50 * w + i)), .int (nI (cB (fun i => !isL (V 0 (50 * w + PL V w i)) || decide (V 0 (50 * w + PL V w i) ≠ LT V (50 * w + i))) i))]) (σ' := rdL 75 76 77 V w σ) rfl True.intro ?_
                rw [show (nI 50 * nI w) = nI (50 * w) from pk_mul _ _]
                refine rw_go hX [(99, .iload 4), (101, .iadd)] (by decide +kernel) (Ps := []) (pc' := 102) (lv' := [(0, .ref 66), (1, .int (nI w)), (2, .int (nI k)), (3, .int (nI (cB (fun i => !isL (V 0 (50 * w + PL V w i)) || decide (V 0 (50 * w + PL V w i) ≠ LT V (50 * w + i))) i))), (4, .int (nI i))]) (st' := [.int (nI (50 * w) + nI i), .ref 76, .int (nI (50 * w)), .ref 67, .int (LT V (50 * w + i)), .int (nI (cB (fun i => !isL (V 0 (50 * w + PL V w i)) || decide (V 0 (50 * w + PL V w i) ≠ LT V (50 * w + i))) i))]) (σ' := rdL 75 76 77 V w σ) rfl True.intro ?_
                rw [show (nI (50 * w) + nI i) = nI (50 * w + i) from nI_add _ _]
                refine rw_go hX [(102, .iaload)] (by decide +kernel) (Ps := [vp_in (nI (50 * w + i)) 250]) (pc' := 103) (lv' := [(0, .ref 66), (1, .int (nI w)), (2, .int (nI k)), (3, .int (nI (cB (fun i => !isL (V 0 (50 * w + PL V w i)) || decide (V 0 (50 * w + PL V w i) ≠ LT V (50 * w + i))) i))), (4, .int (nI i))]) (st' := [.int ((rdL 75 76 77 V w σ) 76 (nI (50 * w + i)).toNatClampNeg), .int (nI (50 * w)), .ref 67, .int (LT V (50 * w + i)), .int (nI (cB (fun i => !isL (V 0 (50 * w + PL V w i)) || decide (V 0 (50 * w + PL V w i) ≠ LT V (50 * w + i))) i))]) (σ' := rdL 75 76 77 V w σ) rfl (vp_in_nI (by omega) (by omega)) ?_
                rw [show ((rdL 75 76 77 V w σ) 76 (nI (50 * w + i)).toNatClampNeg) = nI (PL V w i) from (by rw [nI_clamp (by omega), (hR.2 i h67).2])]
                refine rw_go hX [(103, .iadd)] (by decide +kernel) (Ps := []) (pc' := 104) (lv' := [(0, .ref 66), (1, .int (nI w)), (2, .int (nI k)), (3, .int (nI (cB (fun i => !isL (V 0 (50 * w + PL V w i)) || decide (V 0 (50 * w + PL V w i) ≠ LT V (50 * w + i))) i))), (4, .int (nI i))]) (st' := [.int (nI (50 * w) + nI (PL V w i)), .ref 67, .int (LT V (50 * w + i)), .int (nI (cB (fun i => !isL (V 0 (50 * w + PL V w i)) || decide (V 0 (50 * w + PL V w i) ≠ LT V (50 * w + i))) i))]) (σ' := rdL 75 76 77 V w σ) rfl True.intro ?_
                rw [show (nI (50 * w) + nI (PL V w i)) = nI (50 * w + PL V w i) from nI_add _ _]
                refine rw_go hX [(104, .iaload)] (by decide +kernel) (Ps := [vp_in (nI (50 * w + PL V w i)) 250]) (pc' := 105) (lv' := [(0, .ref 66), (1, .int (nI w)), (2, .int (nI k)), (3, .int (nI (cB (fun i => !isL (V 0 (50 * w + PL V w i)) || decide (V 0 (50 * w + PL V w i) ≠ LT V (50 * w + i))) i))), (4, .int (nI i))]) (st' := [.int ((rdL 75 76 77 V w σ) 67 (nI (50 * w + PL V w i)).toNatClampNeg), .int (LT V (50 * w + i)), .int (nI (cB (fun i => !isL (V 0 (50 * w + PL V w i)) || decide (V 0 (50 * w + PL V w i) ≠ LT V (50 * w + i))) i))]) (σ' := rdL 75 76 77 V w σ) rfl (vp_in_nI (by omega) (by omega)) ?_
                rw [show ((rdL 75 76 77 V w σ) 67 (nI (50 * w + PL V w i)).toNatClampNeg) = V 0 (50 * w + PL V w i) from (by rw [nI_clamp (by omega), rdL_n _ (by decide) (by decide) (by decide), (vw_at hV 0 (by omega))])]
                refine rw_icmp hX (tgt := 126) (cnd := .ne) (off := 21) (by decide +kernel) (by decide) (fun h105 => ?_) (fun h105 => ?_)
                · replace h105 : (LT V (50 * w + i) ≠ V 0 (50 * w + PL V w i)) := h105
                  have htk : LT V (50 * w + i) ≠ V 0 (50 * w + PL V w i) ∨ isL (LT V (50 * w + i)) = false := Or.inl h105
                  refine rw_go hX [(126, .iconst 1), (127, .goto 4), (131, .iadd)] (by decide +kernel) (Ps := []) (pc' := 132) (lv' := [(0, .ref 66), (1, .int (nI w)), (2, .int (nI k)), (3, .int (nI (cB (fun i => !isL (V 0 (50 * w + PL V w i)) || decide (V 0 (50 * w + PL V w i) ≠ LT V (50 * w + i))) i))), (4, .int (nI i))]) (st' := [.int (nI (cB (fun i => !isL (V 0 (50 * w + PL V w i)) || decide (V 0 (50 * w + PL V w i) ≠ LT V (50 * w + i))) i) + nI 1)]) (σ' := rdL 75 76 77 V w σ) rfl True.intro ?_
                  rw [show (nI (cB (fun i => !isL (V 0 (50 * w + PL V w i)) || decide (V 0 (50 * w + PL V w i) ≠ LT V (50 * w + i))) i) + nI 1) = nI (cB (fun i => !isL (V 0 (50 * w + PL V w i)) || decide (V 0 (50 * w + PL V w i) ≠ LT V (50 * w + i))) i + 1) from nI_add _ _]
                  refine rw_go hX [(132, .istore_n 3), (133, .iinc 4 1)] (by decide +kernel) (Ps := []) (pc' := 136) (lv' := [(0, .ref 66), (1, .int (nI w)), (2, .int (nI k)), (3, .int (nI (cB (fun i => !isL (V 0 (50 * w + PL V w i)) || decide (V 0 (50 * w + PL V w i) ≠ LT V (50 * w + i))) i + 1))), (4, .int (nI i + nI 1))]) (st' := []) (σ' := rdL 75 76 77 V w σ) rfl True.intro ?_
                  rw [show (nI i + nI 1) = nI (i + 1) from nI_add _ _]
                  refine rw_go hX [(136, .goto (-77))] (by decide +kernel) (Ps := []) (pc' := 59) (lv' := [(0, .ref 66), (1, .int (nI w)), (2, .int (nI k)), (3, .int (nI (cB (fun i => !isL (V 0 (50 * w + PL V w i)) || decide (V 0 (50 * w + PL V w i) ≠ LT V (50 * w + i))) i + 1))), (4, .int (nI (i + 1)))]) (st' := []) (σ' := rdL 75 76 77 V w σ) rfl True.intro ?_
                  refine rw_lsub (ks := [0, 1, 2, 3, 4]) (lv' := [(0, .ref 66), (1, .int (nI w)), (2, .int (nI k)), (3, .int (nI (cB (fun i => !isL (V 0 (50 * w + PL V w i)) || decide (V 0 (50 * w + PL V w i) ≠ LT V (50 * w + i))) i + 1))), (4, .int (nI (i + 1)))]) rfl ?_
                  have q := ih59 (lC V w - (i + 1)) (by omega) (i + 1) rfl (by omega)
                  rw [cB_y (k := i) (tk_y htk)] at q
                  exact q
                · replace h105 : LT V (50 * w + i) = V 0 (50 * w + PL V w i) := Classical.not_not.mp h105
                  refine rw_go hX [(108, .aload_n 0), (109, .getfield 34), (112, .bipush 50), (114, .iload_n 1), (115, .imul)] (by decide +kernel) (Ps := []) (pc' := 116) (lv' := [(0, .ref 66), (1, .int (nI w)), (2, .int (nI k)), (3, .int (nI (cB (fun i => !isL (V 0 (50 * w + PL V w i)) || decide (V 0 (50 * w + PL V w i) ≠ LT V (50 * w + i))) i))), (4, .int (nI i))]) (st' := [.int (nI 50 * nI w), .ref 75, .int (nI (cB (fun i => !isL (V 0 (50 * w + PL V w i)) || decide (V 0 (50 * w + PL V w i) ≠ LT V (50 * w + i))) i))]) (σ' := rdL 75 76 77 V w σ) rfl True.intro ?_
                  rw [show (nI 50 * nI w) = nI (50 * w) from pk_mul _ _]
                  refine rw_go hX [(116, .iload 4), (118, .iadd)] (by decide +kernel) (Ps := []) (pc' := 119) (lv' := [(0, .ref 66), (1, .int (nI w)), (2, .int (nI k)), (3, .int (nI (cB (fun i => !isL (V 0 (50 * w + PL V w i)) || decide (V 0 (50 * w + PL V w i) ≠ LT V (50 * w + i))) i))), (4, .int (nI i))]) (st' := [.int (nI (50 * w) + nI i), .ref 75, .int (nI (cB (fun i => !isL (V 0 (50 * w + PL V w i)) || decide (V 0 (50 * w + PL V w i) ≠ LT V (50 * w + i))) i))]) (σ' := rdL 75 76 77 V w σ) rfl True.intro ?_
                  rw [show (nI (50 * w) + nI i) = nI (50 * w + i) from nI_add _ _]
                  refine rw_go hX [(119, .iaload)] (by decide +kernel) (Ps := [vp_in (nI (50 * w + i)) 250]) (pc' := 120) (lv' := [(0, .ref 66), (1, .int (nI w)), (2, .int (nI k)), (3, .int (nI (cB (fun i => !isL (V 0 (50 * w + PL V w i)) || decide (V 0 (50 * w + PL V w i) ≠ LT V (50 * w + i))) i))), (4, .int (nI i))]) (st' := [.int ((rdL 75 76 77 V w σ) 75 (nI (50 * w + i)).toNatClampNeg), .int (nI (cB (fun i => !isL (V 0 (50 * w + PL V w i)) || decide (V 0 (50 * w + PL V w i) ≠ LT V (50 * w + i))) i))]) (σ' := rdL 75 76 77 V w σ) rfl (vp_in_nI (by omega) (by omega)) ?_
                  rw [show ((rdL 75 76 77 V w σ) 75 (nI (50 * w + i)).toNatClampNeg) = LT V (50 * w + i) from (by rw [nI_clamp (by omega), (hR.2 i h67).1])]
                  refine rw_callSi hX (as := [.int (LT V (50 * w + i))]) (rest := [.int (nI (cB (fun i => !isL (V 0 (50 * w + PL V w i)) || decide (V 0 (50 * w + PL V w i) ≠ LT V (50 * w + i))) i))]) (m_isLetter _ _ _ (LT V (50 * w + i))) (by decide +kernel) msX10_isLetter (Or.inl lk10_151) rfl (by decide) (Nat.le_of_ble_eq_true rfl) rfl ?_
                  intro r1 σ1 hr
                  rw [hr.1, show r1 = bz (isL (LT V (50 * w + i))) from hr.2]
                  clear hr σ1 r1
                  refine rw_if hX (tgt := 130) (cnd := .ne) (off := 7) (by decide +kernel) (by decide) (fun h123 => ?_) (fun h123 => ?_)
                  · replace h123 := zb_neT h123
                    refine rw_go hX [(130, .iconst 0), (131, .iadd)] (by decide +kernel) (Ps := []) (pc' := 132) (lv' := [(0, .ref 66), (1, .int (nI w)), (2, .int (nI k)), (3, .int (nI (cB (fun i => !isL (V 0 (50 * w + PL V w i)) || decide (V 0 (50 * w + PL V w i) ≠ LT V (50 * w + i))) i))), (4, .int (nI i))]) (st' := [.int (nI (cB (fun i => !isL (V 0 (50 * w + PL V w i)) || decide (V 0 (50 * w + PL V w i) ≠ LT V (50 * w + i))) i) + nI 0)]) (σ' := rdL 75 76 77 V w σ) rfl True.intro ?_
                    rw [show (nI (cB (fun i => !isL (V 0 (50 * w + PL V w i)) || decide (V 0 (50 * w + PL V w i) ≠ LT V (50 * w + i))) i) + nI 0) = nI (cB (fun i => !isL (V 0 (50 * w + PL V w i)) || decide (V 0 (50 * w + PL V w i) ≠ LT V (50 * w + i))) i + 0) from nI_add _ _]
                    refine rw_go hX [(132, .istore_n 3), (133, .iinc 4 1)] (by decide +kernel) (Ps := []) (pc' := 136) (lv' := [(0, .ref 66), (1, .int (nI w)), (2, .int (nI k)), (3, .int (nI (cB (fun i => !isL (V 0 (50 * w + PL V w i)) || decide (V 0 (50 * w + PL V w i) ≠ LT V (50 * w + i))) i + 0))), (4, .int (nI i + nI 1))]) (st' := []) (σ' := rdL 75 76 77 V w σ) rfl True.intro ?_
                    rw [show (nI i + nI 1) = nI (i + 1) from nI_add _ _]
                    refine rw_go hX [(136, .goto (-77))] (by decide +kernel) (Ps := []) (pc' := 59) (lv' := [(0, .ref 66), (1, .int (nI w)), (2, .int (nI k)), (3, .int (nI (cB (fun i => !isL (V 0 (50 * w + PL V w i)) || decide (V 0 (50 * w + PL V w i) ≠ LT V (50 * w + i))) i + 0))), (4, .int (nI (i + 1)))]) (st' := []) (σ' := rdL 75 76 77 V w σ) rfl True.intro ?_
                    refine rw_lsub (ks := [0, 1, 2, 3, 4]) (lv' := [(0, .ref 66), (1, .int (nI w)), (2, .int (nI k)), (3, .int (nI (cB (fun i => !isL (V 0 (50 * w + PL V w i)) || decide (V 0 (50 * w + PL V w i) ≠ LT V (50 * w + i))) i + 0))), (4, .int (nI (i + 1)))]) rfl ?_
                    have q := ih59 (lC V w - (i + 1)) (by omega) (i + 1) rfl (by omega)
                    rw [cB_n (k := i) (tk_n h105 h123)] at q
                    exact q
                  · replace h123 := zb_neF h123
                    have htk : LT V (50 * w + i) ≠ V 0 (50 * w + PL V w i) ∨ isL (LT V (50 * w + i)) = false := Or.inr h123
                    refine rw_go hX [(126, .iconst 1), (127, .goto 4), (131, .iadd)] (by decide +kernel) (Ps := []) (pc' := 132) (lv' := [(0, .ref 66), (1, .int (nI w)), (2, .int (nI k)), (3, .int (nI (cB (fun i => !isL (V 0 (50 * w + PL V w i)) || decide (V 0 (50 * w + PL V w i) ≠ LT V (50 * w + i))) i))), (4, .int (nI i))]) (st' := [.int (nI (cB (fun i => !isL (V 0 (50 * w + PL V w i)) || decide (V 0 (50 * w + PL V w i) ≠ LT V (50 * w + i))) i) + nI 1)]) (σ' := rdL 75 76 77 V w σ) rfl True.intro ?_
                    rw [show (nI (cB (fun i => !isL (V 0 (50 * w + PL V w i)) || decide (V 0 (50 * w + PL V w i) ≠ LT V (50 * w + i))) i) + nI 1) = nI (cB (fun i => !isL (V 0 (50 * w + PL V w i)) || decide (V 0 (50 * w + PL V w i) ≠ LT V (50 * w + i))) i + 1) from nI_add _ _]
                    refine rw_go hX [(132, .istore_n 3), (133, .iinc 4 1)] (by decide +kernel) (Ps := []) (pc' := 136) (lv' := [(0, .ref 66), (1, .int (nI w)), (2, .int (nI k)), (3, .int (nI (cB (fun i => !isL (V 0 (50 * w + PL V w i)) || decide (V 0 (50 * w + PL V w i) ≠ LT V (50 * w + i))) i + 1))), (4, .int (nI i + nI 1))]) (st' := []) (σ' := rdL 75 76 77 V w σ) rfl True.intro ?_
                    rw [show (nI i + nI 1) = nI (i + 1) from nI_add _ _]
                    refine rw_go hX [(136, .goto (-77))] (by decide +kernel) (Ps := []) (pc' := 59) (lv' := [(0, .ref 66), (1, .int (nI w)), (2, .int (nI k)), (3, .int (nI (cB (fun i => !isL (V 0 (50 * w + PL V w i)) || decide (V 0 (50 * w + PL V w i) ≠ LT V (50 * w + i))) i + 1))), (4, .int (nI (i + 1)))]) (st' := []) (σ' := rdL 75 76 77 V w σ) rfl True.intro ?_
                    refine rw_lsub (ks := [0, 1, 2, 3, 4]) (lv' := [(0, .ref 66), (1, .int (nI w)), (2, .int (nI k)), (3, .int (nI (cB (fun i => !isL (V 0 (50 * w + PL V w i)) || decide (V 0 (50 * w + PL V w i) ≠ LT V (50 * w + i))) i + 1))), (4, .int (nI (i + 1)))]) rfl ?_
                    have q := ih59 (lC V w - (i + 1)) (by omega) (i + 1) rfl (by omega)
                    rw [cB_y (k := i) (tk_y htk)] at q
                    exact q
          refine rw_lsub (ks := [0, 1, 2, 3, 4]) (lv' := [(0, .ref 66), (1, .int (nI w)), (2, .int (nI k)), (3, .int (nI 0)), (4, .int (nI 0))]) rfl ?_
          exact L59 (lC V w) 0 rfl (by omega)
        · replace h43 := zb_neF h43
          refine rw_go hX [(46, .bipush (-13))] (by decide +kernel) (Ps := []) (pc' := 48) (lv' := [(0, .ref 66), (1, .int (nI w)), (2, .int (nI k))]) (st' := [.int (-(nI 13))]) (σ' := σ) rfl True.intro ?_
          exact rw_iret hX (by decide +kernel) (⟨by simp only [aTaken, eq_true h4, hcw, eq_true h16, hck, eq_true h27, eq_false hvsw, h43, if_true, if_false, Bool.false_eq_true, and_self, and_true, true_and, and_false, false_and], MQu_rfl _⟩)
      · replace h27 := of_decide_eq_false (zb_neF h27)
        have hvsw : vS V w = 0 := by omega
        refine rw_go hX [(30, .bipush (-11))] (by decide +kernel) (Ps := []) (pc' := 32) (lv' := [(0, .ref 66), (1, .int (nI w)), (2, .int (nI k))]) (st' := [.int (-(nI 11))]) (σ' := σ) rfl True.intro ?_
        exact rw_iret hX (by decide +kernel) (⟨by simp only [aTaken, eq_true h4, hcw, eq_true h16, hck, eq_false h27, eq_true hvsw, if_true, if_false, Bool.false_eq_true, and_self, and_true, true_and, and_false, false_and], MQu_rfl _⟩)
    · replace h16 := of_decide_eq_false (zb_neF h16)
      refine rw_go hX [(19, .bipush (-2))] (by decide +kernel) (Ps := []) (pc' := 21) (lv' := [(0, .ref 66), (1, .int (nI w)), (2, .int xk)]) (st' := [.int (-(nI 2))]) (σ' := σ) rfl True.intro ?_
      exact rw_iret hX (by decide +kernel) (⟨by simp only [aTaken, eq_true h4, hcw, eq_false h16, if_true, if_false, Bool.false_eq_true, and_self, and_true, true_and, and_false, false_and], MQu_rfl _⟩)
