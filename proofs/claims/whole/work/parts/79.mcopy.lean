/-! the model: copied between sheets -/
theorem lek {c n : Nat} (hc : c < 2 ^ 30) (hn : n < 2 ^ 30) (h : ¬ (nI c : Int32) > nI n) : c ≤ n := by
  rcases Nat.lt_or_ge n c with q | q
  · exact absurd (nI_lt q (by omega)) h
  · exact q
set_option maxRecDepth 20000 in
set_option maxHeartbeats 800000 in
theorem g_copy_0_0 (l : Launch) (G : Gl) (σ : Mm) (n : Nat → Nat) (xi xj xk : Int32) (hsh : ∀ s, s < 4 → σ 98 s = nI (n s) ∧ n s ≤ 40) (hso : ∀ s, s < 4 → σ 97 s = -(nI 1) ∨ σ 97 s = nI 0 ∨ σ 97 s = nI 1) : AMi l G 3 mX10_copy [.ref 66, .int (nI 0), .int xi, .int (nI 0), .int xj, .int xk] σ (fun r σ' => r = aCopy n (σ 97) (nI 0) xi (nI 0) xj xk ∧ σ' = sCopyM n σ (nI 0) xi (nI 0) xj xk) := by
  refine rw_inI 10 (by decide +kernel) rfl rfl ?_
  intro E hE hX
  subst hE
  have hk4 := film_r 0 (by omega)
  have hu4 := film_r 0 (by omega)
  have hcs : (nI 0).toNatClampNeg = 0 := nI_clamp (by omega)
  have hct : (nI 0).toNatClampNeg = 0 := nI_clamp (by omega)
  have hns := hsh 0 (by omega)
  have hos := hso 0 (by omega)
  have hnu := hsh 0 (by omega)
  have hou := hso 0 (by omega)
  refine rw_go hX [(0, .iload_n 1)] (by decide +kernel) (Ps := []) (pc' := 1) (lv' := [(0, .ref 66), (1, .int (nI 0)), (2, .int xi), (3, .int (nI 0)), (4, .int xj), (5, .int xk)]) (st' := [.int (nI 0)]) (σ' := σ) rfl True.intro ?_
  refine rw_callSi hX (as := [.int (nI 0)]) (rest := []) (m_isSheet _ _ _ (nI 0)) (by decide +kernel) msX10_isSheet (Or.inl lk10_298) rfl (by decide) (Nat.le_of_ble_eq_true rfl) rfl ?_
  intro r1 σ1 hr
  rw [hr.1, show r1 = nI 1 from hr.2.trans (by decide +kernel)]
  clear hr σ1 r1
  refine rw_if hX (tgt := 14) (cnd := .eq) (off := 10) (by decide +kernel) (by decide) (fun h4 => ?_) (fun h4 => ?_)
  · exact absurd h4 (by simp only [cz, cc2]; decide +kernel)
  · skip
    refine rw_go hX [(7, .iload_n 3)] (by decide +kernel) (Ps := []) (pc' := 8) (lv' := [(0, .ref 66), (1, .int (nI 0)), (2, .int xi), (3, .int (nI 0)), (4, .int xj), (5, .int xk)]) (st' := [.int (nI 0)]) (σ' := σ) rfl True.intro ?_
    refine rw_callSi hX (as := [.int (nI 0)]) (rest := []) (m_isSheet _ _ _ (nI 0)) (by decide +kernel) msX10_isSheet (Or.inl lk10_298) rfl (by decide) (Nat.le_of_ble_eq_true rfl) rfl ?_
    intro r1 σ1 hr
    rw [hr.1, show r1 = nI 1 from hr.2.trans (by decide +kernel)]
    clear hr σ1 r1
    refine rw_if hX (tgt := 17) (cnd := .ne) (off := 6) (by decide +kernel) (by decide) (fun h11 => ?_) (fun h11 => ?_)
    · skip
      refine rw_go hX [(17, .aload_n 0), (18, .getfield 91), (21, .iload_n 1), (22, .iaload)] (by decide +kernel) (Ps := [vp_in (nI 0) 4]) (pc' := 23) (lv' := [(0, .ref 66), (1, .int (nI 0)), (2, .int xi), (3, .int (nI 0)), (4, .int xj), (5, .int xk)]) (st' := [.int (σ 97 (nI 0).toNatClampNeg)]) (σ' := σ) rfl (vp_in_nI (by omega) (by omega)) ?_
      rw [show (σ 97 (nI 0).toNatClampNeg) = σ 97 0 from (by rw [nI_clamp (by omega)])]
      refine rw_if hX (tgt := 35) (cnd := .lt) (off := 12) (by decide +kernel) (by decide) (fun h23 => ?_) (fun h23 => ?_)
      · replace h23 : (σ 97 0 < 0) := h23
        have hso1 : σ 97 0 = -(nI 1) := (so_m hos).mp h23
        refine rw_go hX [(35, .bipush (-11))] (by decide +kernel) (Ps := []) (pc' := 37) (lv' := [(0, .ref 66), (1, .int (nI 0)), (2, .int xi), (3, .int (nI 0)), (4, .int xj), (5, .int xk)]) (st' := [.int (-(nI 11))]) (σ' := σ) rfl True.intro ?_
        exact rw_iret hX (by decide +kernel) (⟨by simp only [aCopy, eq_true hk4, eq_true hu4, hcs, hct, eq_true h4, eq_true h11, eq_true h23, eq_true hso1, if_true, if_false, Bool.false_eq_true, and_self, and_true, true_and, and_false, false_and, oel_n, oel_s, decide_true, decide_false], by simp only [sCopyM, eq_true hk4, eq_true hu4, hcs, hct, eq_true h4, eq_true h11, eq_true h23, eq_true hso1, if_true, if_false, Bool.false_eq_true, and_self, and_true, true_and, and_false, false_and, oel_n, oel_s, decide_true, decide_false]⟩)
      · replace h23 : ¬ (σ 97 0 < 0) := h23
        have hso1 : ¬ σ 97 0 = -(nI 1) := fun z => h23 ((so_m hos).mpr z)
        refine rw_go hX [(26, .aload_n 0), (27, .getfield 91), (30, .iload_n 3), (31, .iaload)] (by decide +kernel) (Ps := [vp_in (nI 0) 4]) (pc' := 32) (lv' := [(0, .ref 66), (1, .int (nI 0)), (2, .int xi), (3, .int (nI 0)), (4, .int xj), (5, .int xk)]) (st' := [.int (σ 97 (nI 0).toNatClampNeg)]) (σ' := σ) rfl (vp_in_nI (by omega) (by omega)) ?_
        rw [show (σ 97 (nI 0).toNatClampNeg) = σ 97 0 from (by rw [nI_clamp (by omega)])]
        refine rw_if hX (tgt := 38) (cnd := .ge) (off := 6) (by decide +kernel) (by decide) (fun h32 => ?_) (fun h32 => ?_)
        · replace h32 : (σ 97 0 ≥ 0) := h32
          have hso2 : ¬ σ 97 0 = -(nI 1) := fun z => absurd ((so_m hou).mpr z) (Int32.not_lt.mpr h32)
          refine rw_go hX [(38, .aload_n 0), (39, .getfield 91), (42, .iload_n 1), (43, .iaload)] (by decide +kernel) (Ps := [vp_in (nI 0) 4]) (pc' := 44) (lv' := [(0, .ref 66), (1, .int (nI 0)), (2, .int xi), (3, .int (nI 0)), (4, .int xj), (5, .int xk)]) (st' := [.int (σ 97 (nI 0).toNatClampNeg)]) (σ' := σ) rfl (vp_in_nI (by omega) (by omega)) ?_
          rw [show (σ 97 (nI 0).toNatClampNeg) = σ 97 0 from (by rw [nI_clamp (by omega)])]
          refine rw_go hX [(44, .aload_n 0), (45, .getfield 91), (48, .iload_n 3), (49, .iaload)] (by decide +kernel) (Ps := [vp_in (nI 0) 4]) (pc' := 50) (lv' := [(0, .ref 66), (1, .int (nI 0)), (2, .int xi), (3, .int (nI 0)), (4, .int xj), (5, .int xk)]) (st' := [.int (σ 97 (nI 0).toNatClampNeg), .int (σ 97 0)]) (σ' := σ) rfl (vp_in_nI (by omega) (by omega)) ?_
          rw [show (σ 97 (nI 0).toNatClampNeg) = σ 97 0 from (by rw [nI_clamp (by omega)])]
          refine rw_icmp hX (tgt := 56) (cnd := .eq) (off := 6) (by decide +kernel) (by decide) (fun h50 => ?_) (fun h50 => ?_)
          · replace h50 : (σ 97 0 = σ 97 0) := h50
            refine rw_go hX [(56, .iload 5)] (by decide +kernel) (Ps := []) (pc' := 58) (lv' := [(0, .ref 66), (1, .int (nI 0)), (2, .int xi), (3, .int (nI 0)), (4, .int xj), (5, .int xk)]) (st' := [.int xk]) (σ' := σ) rfl True.intro ?_
            refine rw_if hX (tgt := 119) (cnd := .lt) (off := 61) (by decide +kernel) (by decide) (fun h58 => ?_) (fun h58 => ?_)
            · replace h58 : (xk < 0) := h58
              have hcp : pz (cpOK xi xj xk (n 0) (n 0)) = false := pz_f fun ⟨a9, b9, k9, e1, e2, e3, g1, g2⟩ => by
                rw [e3] at h58; exact absurd h58 (nI_pos (by have := hns.2; omega))
              refine rw_go hX [(119, .bipush (-12))] (by decide +kernel) (Ps := []) (pc' := 121) (lv' := [(0, .ref 66), (1, .int (nI 0)), (2, .int xi), (3, .int (nI 0)), (4, .int xj), (5, .int xk)]) (st' := [.int (-(nI 12))]) (σ' := σ) rfl True.intro ?_
              exact rw_iret hX (by decide +kernel) (⟨by simp only [aCopy, eq_true hk4, eq_true hu4, hcs, hct, eq_true h4, eq_true h11, eq_false h23, eq_false hso1, eq_true h32, eq_false hso2, eq_true h50, eq_true h58, hcp, if_true, if_false, Bool.false_eq_true, and_self, and_true, true_and, and_false, false_and, oel_n, oel_s, decide_true, decide_false], by simp only [sCopyM, eq_true hk4, eq_true hu4, hcs, hct, eq_true h4, eq_true h11, eq_false h23, eq_false hso1, eq_true h32, eq_false hso2, eq_true h50, eq_true h58, hcp, if_true, if_false, Bool.false_eq_true, and_self, and_true, true_and, and_false, false_and, oel_n, oel_s, decide_true, decide_false]⟩)
            · replace h58 : ¬ (xk < 0) := h58
              refine rw_go hX [(61, .iload_n 2)] (by decide +kernel) (Ps := []) (pc' := 62) (lv' := [(0, .ref 66), (1, .int (nI 0)), (2, .int xi), (3, .int (nI 0)), (4, .int xj), (5, .int xk)]) (st' := [.int xi]) (σ' := σ) rfl True.intro ?_
              refine rw_if hX (tgt := 119) (cnd := .lt) (off := 57) (by decide +kernel) (by decide) (fun h62 => ?_) (fun h62 => ?_)
              · replace h62 : (xi < 0) := h62
                have hcp : pz (cpOK xi xj xk (n 0) (n 0)) = false := pz_f fun ⟨a9, b9, k9, e1, e2, e3, g1, g2⟩ => by
                  rw [e1] at h62; exact absurd h62 (nI_pos (by have := hns.2; omega))
                refine rw_go hX [(119, .bipush (-12))] (by decide +kernel) (Ps := []) (pc' := 121) (lv' := [(0, .ref 66), (1, .int (nI 0)), (2, .int xi), (3, .int (nI 0)), (4, .int xj), (5, .int xk)]) (st' := [.int (-(nI 12))]) (σ' := σ) rfl True.intro ?_
                exact rw_iret hX (by decide +kernel) (⟨by simp only [aCopy, eq_true hk4, eq_true hu4, hcs, hct, eq_true h4, eq_true h11, eq_false h23, eq_false hso1, eq_true h32, eq_false hso2, eq_true h50, eq_false h58, eq_true h62, hcp, if_true, if_false, Bool.false_eq_true, and_self, and_true, true_and, and_false, false_and, oel_n, oel_s, decide_true, decide_false], by simp only [sCopyM, eq_true hk4, eq_true hu4, hcs, hct, eq_true h4, eq_true h11, eq_false h23, eq_false hso1, eq_true h32, eq_false hso2, eq_true h50, eq_false h58, eq_true h62, hcp, if_true, if_false, Bool.false_eq_true, and_self, and_true, true_and, and_false, false_and, oel_n, oel_s, decide_true, decide_false]⟩)
              · replace h62 : ¬ (xi < 0) := h62
                refine rw_go hX [(65, .iload 4)] (by decide +kernel) (Ps := []) (pc' := 67) (lv' := [(0, .ref 66), (1, .int (nI 0)), (2, .int xi), (3, .int (nI 0)), (4, .int xj), (5, .int xk)]) (st' := [.int xj]) (σ' := σ) rfl True.intro ?_
                refine rw_if hX (tgt := 119) (cnd := .lt) (off := 52) (by decide +kernel) (by decide) (fun h67 => ?_) (fun h67 => ?_)
                · replace h67 : (xj < 0) := h67
                  have hcp : pz (cpOK xi xj xk (n 0) (n 0)) = false := pz_f fun ⟨a9, b9, k9, e1, e2, e3, g1, g2⟩ => by
                    rw [e2] at h67; exact absurd h67 (nI_pos (by have := hnu.2; omega))
                  refine rw_go hX [(119, .bipush (-12))] (by decide +kernel) (Ps := []) (pc' := 121) (lv' := [(0, .ref 66), (1, .int (nI 0)), (2, .int xi), (3, .int (nI 0)), (4, .int xj), (5, .int xk)]) (st' := [.int (-(nI 12))]) (σ' := σ) rfl True.intro ?_
                  exact rw_iret hX (by decide +kernel) (⟨by simp only [aCopy, eq_true hk4, eq_true hu4, hcs, hct, eq_true h4, eq_true h11, eq_false h23, eq_false hso1, eq_true h32, eq_false hso2, eq_true h50, eq_false h58, eq_false h62, eq_true h67, hcp, if_true, if_false, Bool.false_eq_true, and_self, and_true, true_and, and_false, false_and, oel_n, oel_s, decide_true, decide_false], by simp only [sCopyM, eq_true hk4, eq_true hu4, hcs, hct, eq_true h4, eq_true h11, eq_false h23, eq_false hso1, eq_true h32, eq_false hso2, eq_true h50, eq_false h58, eq_false h62, eq_true h67, hcp, if_true, if_false, Bool.false_eq_true, and_self, and_true, true_and, and_false, false_and, oel_n, oel_s, decide_true, decide_false]⟩)
                · replace h67 : ¬ (xj < 0) := h67
                  refine rw_go hX [(70, .iload 5), (72, .aload_n 0), (73, .getfield 94), (76, .iload_n 1), (77, .iaload)] (by decide +kernel) (Ps := [vp_in (nI 0) 4]) (pc' := 78) (lv' := [(0, .ref 66), (1, .int (nI 0)), (2, .int xi), (3, .int (nI 0)), (4, .int xj), (5, .int xk)]) (st' := [.int (σ 98 (nI 0).toNatClampNeg), .int xk]) (σ' := σ) rfl (vp_in_nI (by omega) (by omega)) ?_
                  rw [show (σ 98 (nI 0).toNatClampNeg) = nI (n 0) from (by rw [nI_clamp (by omega), hnu.1])]
                  refine rw_icmp hX (tgt := 119) (cnd := .gt) (off := 41) (by decide +kernel) (by decide) (fun h78 => ?_) (fun h78 => ?_)
                  · replace h78 : (xk > nI (n 0)) := h78
                    have hcp : pz (cpOK xi xj xk (n 0) (n 0)) = false := pz_f fun ⟨a9, b9, k9, e1, e2, e3, g1, g2⟩ => by
                      rw [e3] at h78; exact absurd h78 (Int32.not_lt.mpr (nI_le (show k9 ≤ n 0 by omega) (by have := hns.2; omega)))
                    refine rw_go hX [(119, .bipush (-12))] (by decide +kernel) (Ps := []) (pc' := 121) (lv' := [(0, .ref 66), (1, .int (nI 0)), (2, .int xi), (3, .int (nI 0)), (4, .int xj), (5, .int xk)]) (st' := [.int (-(nI 12))]) (σ' := σ) rfl True.intro ?_
                    exact rw_iret hX (by decide +kernel) (⟨by simp only [aCopy, eq_true hk4, eq_true hu4, hcs, hct, eq_true h4, eq_true h11, eq_false h23, eq_false hso1, eq_true h32, eq_false hso2, eq_true h50, eq_false h58, eq_false h62, eq_false h67, eq_true h78, hcp, if_true, if_false, Bool.false_eq_true, and_self, and_true, true_and, and_false, false_and, oel_n, oel_s, decide_true, decide_false], by simp only [sCopyM, eq_true hk4, eq_true hu4, hcs, hct, eq_true h4, eq_true h11, eq_false h23, eq_false hso1, eq_true h32, eq_false hso2, eq_true h50, eq_false h58, eq_false h62, eq_false h67, eq_true h78, hcp, if_true, if_false, Bool.false_eq_true, and_self, and_true, true_and, and_false, false_and, oel_n, oel_s, decide_true, decide_false]⟩)
                  · replace h78 : ¬ (xk > nI (n 0)) := h78
                    have hn40 := hns.2
                    have hn41 := hnu.2
                    obtain ⟨c, hc, rfl⟩ := rng (m := n 0) (by omega) ⟨Int32.not_lt.mp h58, Int32.not_lt.mp h78⟩
                    have hcc : (nI c).toNatClampNeg = c := nI_clamp (by omega)
                    refine rw_go hX [(81, .iload 5), (83, .aload_n 0), (84, .getfield 94), (87, .iload_n 3), (88, .iaload)] (by decide +kernel) (Ps := [vp_in (nI 0) 4]) (pc' := 89) (lv' := [(0, .ref 66), (1, .int (nI 0)), (2, .int xi), (3, .int (nI 0)), (4, .int xj), (5, .int (nI c))]) (st' := [.int (σ 98 (nI 0).toNatClampNeg), .int (nI c)]) (σ' := σ) rfl (vp_in_nI (by omega) (by omega)) ?_
                    rw [show (σ 98 (nI 0).toNatClampNeg) = nI (n 0) from (by rw [nI_clamp (by omega), hnu.1])]
                    refine rw_icmp hX (tgt := 119) (cnd := .gt) (off := 30) (by decide +kernel) (by decide) (fun h89 => ?_) (fun h89 => ?_)
                    · replace h89 := c2_gtT h89
                      have hcp : pz (cpOK xi xj (nI c) (n 0) (n 0)) = false := pz_f fun ⟨a9, b9, k9, e1, e2, e3, g1, g2⟩ => by
                        have e9 := (nI_eq (by omega) (by omega)).mp e3
                        omega
                      refine rw_go hX [(119, .bipush (-12))] (by decide +kernel) (Ps := []) (pc' := 121) (lv' := [(0, .ref 66), (1, .int (nI 0)), (2, .int xi), (3, .int (nI 0)), (4, .int xj), (5, .int (nI c))]) (st' := [.int (-(nI 12))]) (σ' := σ) rfl True.intro ?_
                      exact rw_iret hX (by decide +kernel) (⟨by simp only [aCopy, eq_true hk4, eq_true hu4, hcs, hct, eq_true h4, eq_true h11, eq_false h23, eq_false hso1, eq_true h32, eq_false hso2, eq_true h50, eq_false h58, eq_false h62, eq_false h67, eq_false h78, hcc, eq_true h89, hcp, if_true, if_false, Bool.false_eq_true, and_self, and_true, true_and, and_false, false_and, oel_n, oel_s, decide_true, decide_false], by simp only [sCopyM, eq_true hk4, eq_true hu4, hcs, hct, eq_true h4, eq_true h11, eq_false h23, eq_false hso1, eq_true h32, eq_false hso2, eq_true h50, eq_false h58, eq_false h62, eq_false h67, eq_false h78, hcc, eq_true h89, hcp, if_true, if_false, Bool.false_eq_true, and_self, and_true, true_and, and_false, false_and, oel_n, oel_s, decide_true, decide_false]⟩)
                    · replace h89 := c2_gtF h89
                      have hcu : c ≤ n 0 := by omega
                      refine rw_go hX [(92, .iload_n 2), (93, .aload_n 0), (94, .getfield 94), (97, .iload_n 1), (98, .iaload)] (by decide +kernel) (Ps := [vp_in (nI 0) 4]) (pc' := 99) (lv' := [(0, .ref 66), (1, .int (nI 0)), (2, .int xi), (3, .int (nI 0)), (4, .int xj), (5, .int (nI c))]) (st' := [.int (σ 98 (nI 0).toNatClampNeg), .int xi]) (σ' := σ) rfl (vp_in_nI (by omega) (by omega)) ?_
                      rw [show (σ 98 (nI 0).toNatClampNeg) = nI (n 0) from (by rw [nI_clamp (by omega), hnu.1])]
                      refine rw_go hX [(99, .iload 5), (101, .isub)] (by decide +kernel) (Ps := []) (pc' := 102) (lv' := [(0, .ref 66), (1, .int (nI 0)), (2, .int xi), (3, .int (nI 0)), (4, .int xj), (5, .int (nI c))]) (st' := [.int (nI (n 0) - nI c), .int xi]) (σ' := σ) rfl True.intro ?_
                      rw [show (nI (n 0) - nI c) = nI (n 0 - c) from pk_sub (by omega)]
                      refine rw_icmp hX (tgt := 119) (cnd := .gt) (off := 17) (by decide +kernel) (by decide) (fun h102 => ?_) (fun h102 => ?_)
                      · replace h102 : (xi > nI (n 0 - c)) := h102
                        have hcp : pz (cpOK xi xj (nI c) (n 0) (n 0)) = false := pz_f fun ⟨a9, b9, k9, e1, e2, e3, g1, g2⟩ => by
                          have e9 := (nI_eq (by omega) (by omega)).mp e3
                          rw [e1] at h102
                          exact absurd h102 (Int32.not_lt.mpr (nI_le (by omega) (by omega)))
                        refine rw_go hX [(119, .bipush (-12))] (by decide +kernel) (Ps := []) (pc' := 121) (lv' := [(0, .ref 66), (1, .int (nI 0)), (2, .int xi), (3, .int (nI 0)), (4, .int xj), (5, .int (nI c))]) (st' := [.int (-(nI 12))]) (σ' := σ) rfl True.intro ?_
                        exact rw_iret hX (by decide +kernel) (⟨by simp only [aCopy, eq_true hk4, eq_true hu4, hcs, hct, eq_true h4, eq_true h11, eq_false h23, eq_false hso1, eq_true h32, eq_false hso2, eq_true h50, eq_false h58, eq_false h62, eq_false h67, eq_false h78, hcc, eq_true h89, eq_true h102, hcp, if_true, if_false, Bool.false_eq_true, and_self, and_true, true_and, and_false, false_and, oel_n, oel_s, decide_true, decide_false], by simp only [sCopyM, eq_true hk4, eq_true hu4, hcs, hct, eq_true h4, eq_true h11, eq_false h23, eq_false hso1, eq_true h32, eq_false hso2, eq_true h50, eq_false h58, eq_false h62, eq_false h67, eq_false h78, hcc, eq_true h89, eq_true h102, hcp, if_true, if_false, Bool.false_eq_true, and_self, and_true, true_and, and_false, false_and, oel_n, oel_s, decide_true, decide_false]⟩)
                      · replace h102 : ¬ (xi > nI (n 0 - c)) := h102
                        obtain ⟨a, ha, rfl⟩ := rng (m := n 0 - c) (by omega) ⟨Int32.not_lt.mp h62, Int32.not_lt.mp h102⟩
                        have hca : (nI a).toNatClampNeg = a := nI_clamp (by omega)
                        refine rw_go hX [(105, .iload 4), (107, .aload_n 0), (108, .getfield 94), (111, .iload_n 3), (112, .iaload)] (by decide +kernel) (Ps := [vp_in (nI 0) 4]) (pc' := 113) (lv' := [(0, .ref 66), (1, .int (nI 0)), (2, .int (nI a)), (3, .int (nI 0)), (4, .int xj), (5, .int (nI c))]) (st' := [.int (σ 98 (nI 0).toNatClampNeg), .int xj]) (σ' := σ) rfl (vp_in_nI (by omega) (by omega)) ?_
                        rw [show (σ 98 (nI 0).toNatClampNeg) = nI (n 0) from (by rw [nI_clamp (by omega), hnu.1])]
                        refine rw_go hX [(113, .iload 5), (115, .isub)] (by decide +kernel) (Ps := []) (pc' := 116) (lv' := [(0, .ref 66), (1, .int (nI 0)), (2, .int (nI a)), (3, .int (nI 0)), (4, .int xj), (5, .int (nI c))]) (st' := [.int (nI (n 0) - nI c), .int xj]) (σ' := σ) rfl True.intro ?_
                        rw [show (nI (n 0) - nI c) = nI (n 0 - c) from pk_sub (by omega)]
                        refine rw_icmp hX (tgt := 122) (cnd := .le) (off := 6) (by decide +kernel) (by decide) (fun h116 => ?_) (fun h116 => ?_)
                        · replace h116 : (xj ≤ nI (n 0 - c)) := h116
                          obtain ⟨b, hb, rfl⟩ := rng (m := n 0 - c) (by omega) ⟨Int32.not_lt.mp h67, h116⟩
                          have hcb : (nI b).toNatClampNeg = b := nI_clamp (by omega)
                          have hcp : pz (cpOK (nI a) (nI b) (nI c) (n 0) (n 0)) = true := pz_t ⟨a, b, c, rfl, rfl, rfl, by omega, by omega⟩
                          refine rw_go hX [(122, .iconst 0), (123, .istore 6)] (by decide +kernel) (Ps := []) (pc' := 125) (lv' := [(0, .ref 66), (1, .int (nI 0)), (2, .int (nI a)), (3, .int (nI 0)), (4, .int (nI b)), (5, .int (nI c)), (6, .int (nI 0))]) (st' := []) (σ' := σ) rfl True.intro ?_
                          have L125 : ∀ (μ125 : Nat) (i : Nat), μ125 = c - i → (i ≤ c) → RW E G 3 7 (QI E G (fun r σ' => r = aCopy n (σ 97) (nI 0) (nI a) (nI 0) (nI b) (nI c) ∧ σ' = sCopyM n σ (nI 0) (nI a) (nI 0) (nI b) (nI c))) 125 [(0, .ref 66), (1, .int (nI 0)), (2, .int (nI a)), (3, .int (nI 0)), (4, .int (nI b)), (5, .int (nI c)), (6, .int (nI i))] [] (sr σ 100 (va_cpy (σ 93) (σ 100) a 0 i)) := by
                            intro μ125
                            induction μ125 using Nat.strongRecOn with
                            | ind μ125 ih125 =>
                              intro i hμ125 hi
                              refine rw_go hX [(125, .iload 6), (127, .iload 5)] (by decide +kernel) (Ps := []) (pc' := 129) (lv' := [(0, .ref 66), (1, .int (nI 0)), (2, .int (nI a)), (3, .int (nI 0)), (4, .int (nI b)), (5, .int (nI c)), (6, .int (nI i))]) (st' := [.int (nI c), .int (nI i)]) (σ' := sr σ 100 (va_cpy (σ 93) (σ 100) a 0 i)) rfl True.intro ?_
                              refine rw_icmp hX (tgt := 156) (cnd := .ge) (off := 27) (by decide +kernel) (by decide) (fun h129 => ?_) (fun h129 => ?_)
                              · replace h129 := c2_geT h129
                                have ei : i = c := by omega
                                rw [ei]
                                refine rw_go hX [(156, .iconst 0), (157, .istore 6)] (by decide +kernel) (Ps := []) (pc' := 159) (lv' := [(0, .ref 66), (1, .int (nI 0)), (2, .int (nI a)), (3, .int (nI 0)), (4, .int (nI b)), (5, .int (nI c)), (6, .int (nI 0))]) (st' := []) (σ' := sr σ 100 (va_cpy (σ 93) (σ 100) a 0 c)) rfl True.intro ?_
                                have L159 : ∀ (μ159 : Nat) (i : Nat), μ159 = c - i → (i ≤ c) → RW E G 3 7 (QI E G (fun r σ' => r = aCopy n (σ 97) (nI 0) (nI a) (nI 0) (nI b) (nI c) ∧ σ' = sCopyM n σ (nI 0) (nI a) (nI 0) (nI b) (nI c))) 159 [(0, .ref 66), (1, .int (nI 0)), (2, .int (nI a)), (3, .int (nI 0)), (4, .int (nI b)), (5, .int (nI c)), (6, .int (nI i))] [] (sr (sr σ 100 (va_cpy (σ 93) (σ 100) a 0 c)) 93 (va_cpy (va_cpy (σ 93) (σ 100) a 0 c) (σ 93) 0 b i)) := by
                                  intro μ159
                                  induction μ159 using Nat.strongRecOn with
                                  | ind μ159 ih159 =>
                                    intro i hμ159 hi2
                                    refine rw_go hX [(159, .iload 6), (161, .iload 5)] (by decide +kernel) (Ps := []) (pc' := 163) (lv' := [(0, .ref 66), (1, .int (nI 0)), (2, .int (nI a)), (3, .int (nI 0)), (4, .int (nI b)), (5, .int (nI c)), (6, .int (nI i))]) (st' := [.int (nI c), .int (nI i)]) (σ' := sr (sr σ 100 (va_cpy (σ 93) (σ 100) a 0 c)) 93 (va_cpy (va_cpy (σ 93) (σ 100) a 0 c) (σ 93) 0 b i)) rfl True.intro ?_
                                    refine rw_icmp hX (tgt := 191) (cnd := .ge) (off := 28) (by decide +kernel) (by decide) (fun h163 => ?_) (fun h163 => ?_)
                                    · replace h163 := c2_geT h163
                                      have ei2 : i = c := by omega
                                      refine rw_go hX [(191, .iload 5)] (by decide +kernel) (Ps := []) (pc' := 193) (lv' := [(0, .ref 66), (1, .int (nI 0)), (2, .int (nI a)), (3, .int (nI 0)), (4, .int (nI b)), (5, .int (nI c)), (6, .int (nI i))]) (st' := [.int (nI c)]) (σ' := sr (sr σ 100 (va_cpy (σ 93) (σ 100) a 0 c)) 93 (va_cpy (va_cpy (σ 93) (σ 100) a 0 c) (σ 93) 0 b i)) rfl True.intro ?_
                                      exact rw_iret hX (by decide +kernel) (⟨by simp only [aCopy, eq_true hk4, eq_true hu4, hcs, hct, eq_true h4, eq_true h11, eq_false h23, eq_false hso1, eq_true h32, eq_false hso2, eq_true h50, eq_false h58, eq_false h62, eq_false h67, eq_false h78, hcc, eq_true h89, eq_false h102, hca, eq_true h116, hcb, hcp, eq_true h129, eq_true h163, if_true, if_false, Bool.false_eq_true, and_self, and_true, true_and, and_false, false_and, oel_n, oel_s, decide_true, decide_false], by simp only [sCopyM, eq_true hk4, eq_true hu4, hcs, hct, eq_true h4, eq_true h11, eq_false h23, eq_false hso1, eq_true h32, eq_false hso2, eq_true h50, eq_false h58, eq_false h62, eq_false h67, eq_false h78, hcc, eq_true h89, eq_false h102, hca, eq_true h116, hcb, hcp, eq_true h129, eq_true h163, if_true, if_false, Bool.false_eq_true, and_self, and_true, true_and, and_false, false_and, oel_n, oel_s, decide_true, decide_false]; rw [ei2]; rfl⟩)
                                    · replace h163 := c2_geF h163
                                      refine rw_go hX [(166, .aload_n 0), (167, .getfield 88), (170, .iload_n 3), (171, .aaload), (172, .iload 4), (174, .iload 6), (176, .iadd)] (by decide +kernel) (Ps := [vp_in (nI 0) 4]) (pc' := 177) (lv' := [(0, .ref 66), (1, .int (nI 0)), (2, .int (nI a)), (3, .int (nI 0)), (4, .int (nI b)), (5, .int (nI c)), (6, .int (nI i))]) (st' := [.int (nI b + nI i), .ref 93]) (σ' := sr (sr σ 100 (va_cpy (σ 93) (σ 100) a 0 c)) 93 (va_cpy (va_cpy (σ 93) (σ 100) a 0 c) (σ 93) 0 b i)) rfl (vp_in_nI (by omega) (by omega)) ?_
                                      rw [show (nI b + nI i) = nI (b + i) from nI_add _ _]
                                      refine rw_go hX [(177, .aload_n 0), (178, .getfield 100), (181, .iload 6), (183, .iaload)] (by decide +kernel) (Ps := [vp_in (nI i) 40]) (pc' := 184) (lv' := [(0, .ref 66), (1, .int (nI 0)), (2, .int (nI a)), (3, .int (nI 0)), (4, .int (nI b)), (5, .int (nI c)), (6, .int (nI i))]) (st' := [.int ((sr (sr σ 100 (va_cpy (σ 93) (σ 100) a 0 c)) 93 (va_cpy (va_cpy (σ 93) (σ 100) a 0 c) (σ 93) 0 b i)) 100 (nI i).toNatClampNeg), .int (nI (b + i)), .ref 93]) (σ' := sr (sr σ 100 (va_cpy (σ 93) (σ 100) a 0 c)) 93 (va_cpy (va_cpy (σ 93) (σ 100) a 0 c) (σ 93) 0 b i)) rfl (vp_in_nI (by omega) (by omega)) ?_
                                      rw [show ((sr (sr σ 100 (va_cpy (σ 93) (σ 100) a 0 c)) 93 (va_cpy (va_cpy (σ 93) (σ 100) a 0 c) (σ 93) 0 b i)) 100 (nI i).toNatClampNeg) = (va_cpy (σ 93) (σ 100) a 0 c) i from (by rw [nI_clamp (by omega), sr_n _ _ (by decide), sr_s])]
                                      refine rw_go hX [(184, .iastore)] (by decide +kernel) (Ps := [vp_in (nI (b + i)) 40]) (pc' := 185) (lv' := [(0, .ref 66), (1, .int (nI 0)), (2, .int (nI a)), (3, .int (nI 0)), (4, .int (nI b)), (5, .int (nI c)), (6, .int (nI i))]) (st' := []) (σ' := sw (sr (sr σ 100 (va_cpy (σ 93) (σ 100) a 0 c)) 93 (va_cpy (va_cpy (σ 93) (σ 100) a 0 c) (σ 93) 0 b i)) 93 (nI (b + i)).toNatClampNeg ((va_cpy (σ 93) (σ 100) a 0 c) i)) rfl (vp_in_nI (by omega) (by omega)) ?_
                                      rw [show (sw (sr (sr σ 100 (va_cpy (σ 93) (σ 100) a 0 c)) 93 (va_cpy (va_cpy (σ 93) (σ 100) a 0 c) (σ 93) 0 b i)) 93 (nI (b + i)).toNatClampNeg ((va_cpy (σ 93) (σ 100) a 0 c) i)) = sw (sr (sr σ 100 (va_cpy (σ 93) (σ 100) a 0 c)) 93 (va_cpy (va_cpy (σ 93) (σ 100) a 0 c) (σ 93) 0 b i)) 93 (b + i) ((va_cpy (σ 93) (σ 100) a 0 c) i) from (by rw [nI_clamp (by omega)])]
                                      refine rw_go hX [(185, .iinc 6 1)] (by decide +kernel) (Ps := []) (pc' := 188) (lv' := [(0, .ref 66), (1, .int (nI 0)), (2, .int (nI a)), (3, .int (nI 0)), (4, .int (nI b)), (5, .int (nI c)), (6, .int (nI i + nI 1))]) (st' := []) (σ' := sw (sr (sr σ 100 (va_cpy (σ 93) (σ 100) a 0 c)) 93 (va_cpy (va_cpy (σ 93) (σ 100) a 0 c) (σ 93) 0 b i)) 93 (b + i) ((va_cpy (σ 93) (σ 100) a 0 c) i)) rfl True.intro ?_
                                      rw [show (nI i + nI 1) = nI (i + 1) from nI_add _ _]
                                      refine rw_go hX [(188, .goto (-29))] (by decide +kernel) (Ps := []) (pc' := 159) (lv' := [(0, .ref 66), (1, .int (nI 0)), (2, .int (nI a)), (3, .int (nI 0)), (4, .int (nI b)), (5, .int (nI c)), (6, .int (nI (i + 1)))]) (st' := []) (σ' := sw (sr (sr σ 100 (va_cpy (σ 93) (σ 100) a 0 c)) 93 (va_cpy (va_cpy (σ 93) (σ 100) a 0 c) (σ 93) 0 b i)) 93 (b + i) ((va_cpy (σ 93) (σ 100) a 0 c) i)) rfl True.intro ?_
                                      refine rw_lsub (ks := [0, 1, 2, 3, 4, 5, 6]) (lv' := [(0, .ref 66), (1, .int (nI 0)), (2, .int (nI a)), (3, .int (nI 0)), (4, .int (nI b)), (5, .int (nI c)), (6, .int (nI (i + 1)))]) rfl ?_
                                      have q := ih159 (c - (i + 1)) (by omega) (i + 1) rfl (by omega)
                                      rw [← cpy_1, Nat.zero_add] at q
                                      rw [sw_sr]
                                      exact q
                                refine rw_lsub (ks := [0, 1, 2, 3, 4, 5, 6]) (lv' := [(0, .ref 66), (1, .int (nI 0)), (2, .int (nI a)), (3, .int (nI 0)), (4, .int (nI b)), (5, .int (nI c)), (6, .int (nI 0))]) rfl ?_
                                have q := L159 c 0 rfl (by omega)
                                rw [cpy_0, show sr (sr σ 100 (va_cpy (σ 93) (σ 100) a 0 c)) 93 (σ 93) = sr σ 100 (va_cpy (σ 93) (σ 100) a 0 c) from by
                                  funext q
                                  by_cases z : q = 93
                                  · subst z; rw [sr_s, sr_n _ _ (by decide)]
                                  · rw [sr_n _ _ z]] at q
                                exact q
                              · replace h129 := c2_geF h129
                                refine rw_go hX [(132, .aload_n 0), (133, .getfield 100), (136, .iload 6), (138, .aload_n 0), (139, .getfield 88), (142, .iload_n 1), (143, .aaload), (144, .iload_n 2), (145, .iload 6), (147, .iadd)] (by decide +kernel) (Ps := [vp_in (nI 0) 4]) (pc' := 148) (lv' := [(0, .ref 66), (1, .int (nI 0)), (2, .int (nI a)), (3, .int (nI 0)), (4, .int (nI b)), (5, .int (nI c)), (6, .int (nI i))]) (st' := [.int (nI a + nI i), .ref 93, .int (nI i), .ref 100]) (σ' := sr σ 100 (va_cpy (σ 93) (σ 100) a 0 i)) rfl (vp_in_nI (by omega) (by omega)) ?_
                                rw [show (nI a + nI i) = nI (a + i) from nI_add _ _]
                                refine rw_go hX [(148, .iaload)] (by decide +kernel) (Ps := [vp_in (nI (a + i)) 40]) (pc' := 149) (lv' := [(0, .ref 66), (1, .int (nI 0)), (2, .int (nI a)), (3, .int (nI 0)), (4, .int (nI b)), (5, .int (nI c)), (6, .int (nI i))]) (st' := [.int ((sr σ 100 (va_cpy (σ 93) (σ 100) a 0 i)) 93 (nI (a + i)).toNatClampNeg), .int (nI i), .ref 100]) (σ' := sr σ 100 (va_cpy (σ 93) (σ 100) a 0 i)) rfl (vp_in_nI (by omega) (by omega)) ?_
                                rw [show ((sr σ 100 (va_cpy (σ 93) (σ 100) a 0 i)) 93 (nI (a + i)).toNatClampNeg) = σ 93 (a + i) from (by rw [nI_clamp (by omega), sr_n _ _ (by decide)])]
                                refine rw_go hX [(149, .iastore)] (by decide +kernel) (Ps := [vp_in (nI i) 40]) (pc' := 150) (lv' := [(0, .ref 66), (1, .int (nI 0)), (2, .int (nI a)), (3, .int (nI 0)), (4, .int (nI b)), (5, .int (nI c)), (6, .int (nI i))]) (st' := []) (σ' := sw (sr σ 100 (va_cpy (σ 93) (σ 100) a 0 i)) 100 (nI i).toNatClampNeg (σ 93 (a + i))) rfl (vp_in_nI (by omega) (by omega)) ?_
                                rw [show (sw (sr σ 100 (va_cpy (σ 93) (σ 100) a 0 i)) 100 (nI i).toNatClampNeg (σ 93 (a + i))) = sw (sr σ 100 (va_cpy (σ 93) (σ 100) a 0 i)) 100 i (σ 93 (a + i)) from (by rw [nI_clamp (by omega)])]
                                refine rw_go hX [(150, .iinc 6 1)] (by decide +kernel) (Ps := []) (pc' := 153) (lv' := [(0, .ref 66), (1, .int (nI 0)), (2, .int (nI a)), (3, .int (nI 0)), (4, .int (nI b)), (5, .int (nI c)), (6, .int (nI i + nI 1))]) (st' := []) (σ' := sw (sr σ 100 (va_cpy (σ 93) (σ 100) a 0 i)) 100 i (σ 93 (a + i))) rfl True.intro ?_
                                rw [show (nI i + nI 1) = nI (i + 1) from nI_add _ _]
                                refine rw_go hX [(153, .goto (-28))] (by decide +kernel) (Ps := []) (pc' := 125) (lv' := [(0, .ref 66), (1, .int (nI 0)), (2, .int (nI a)), (3, .int (nI 0)), (4, .int (nI b)), (5, .int (nI c)), (6, .int (nI (i + 1)))]) (st' := []) (σ' := sw (sr σ 100 (va_cpy (σ 93) (σ 100) a 0 i)) 100 i (σ 93 (a + i))) rfl True.intro ?_
                                refine rw_lsub (ks := [0, 1, 2, 3, 4, 5, 6]) (lv' := [(0, .ref 66), (1, .int (nI 0)), (2, .int (nI a)), (3, .int (nI 0)), (4, .int (nI b)), (5, .int (nI c)), (6, .int (nI (i + 1)))]) rfl ?_
                                have q := ih125 (c - (i + 1)) (by omega) (i + 1) rfl (by omega)
                                rw [← cpy_1, Nat.zero_add] at q
                                rw [sw_sr]
                                exact q
                          refine rw_lsub (ks := [0, 1, 2, 3, 4, 5, 6]) (lv' := [(0, .ref 66), (1, .int (nI 0)), (2, .int (nI a)), (3, .int (nI 0)), (4, .int (nI b)), (5, .int (nI c)), (6, .int (nI 0))]) rfl ?_
                          have q := L125 c 0 rfl (by omega)
                          rw [cpy_0, sr_id] at q
                          exact q
                        · replace h116 : ¬ (xj ≤ nI (n 0 - c)) := h116
                          have hcp : pz (cpOK (nI a) xj (nI c) (n 0) (n 0)) = false := pz_f fun ⟨a9, b9, k9, e1, e2, e3, g1, g2⟩ => by
                            have e9 := (nI_eq (by omega) (by omega)).mp e3
                            rw [e2] at h116
                            exact absurd (nI_le (by omega) (by omega)) h116
                          refine rw_go hX [(119, .bipush (-12))] (by decide +kernel) (Ps := []) (pc' := 121) (lv' := [(0, .ref 66), (1, .int (nI 0)), (2, .int (nI a)), (3, .int (nI 0)), (4, .int xj), (5, .int (nI c))]) (st' := [.int (-(nI 12))]) (σ' := σ) rfl True.intro ?_
                          exact rw_iret hX (by decide +kernel) (⟨by simp only [aCopy, eq_true hk4, eq_true hu4, hcs, hct, eq_true h4, eq_true h11, eq_false h23, eq_false hso1, eq_true h32, eq_false hso2, eq_true h50, eq_false h58, eq_false h62, eq_false h67, eq_false h78, hcc, eq_true h89, eq_false h102, hca, eq_false h116, hcp, if_true, if_false, Bool.false_eq_true, and_self, and_true, true_and, and_false, false_and, oel_n, oel_s, decide_true, decide_false], by simp only [sCopyM, eq_true hk4, eq_true hu4, hcs, hct, eq_true h4, eq_true h11, eq_false h23, eq_false hso1, eq_true h32, eq_false hso2, eq_true h50, eq_false h58, eq_false h62, eq_false h67, eq_false h78, hcc, eq_true h89, eq_false h102, hca, eq_false h116, hcp, if_true, if_false, Bool.false_eq_true, and_self, and_true, true_and, and_false, false_and, oel_n, oel_s, decide_true, decide_false]⟩)
          · replace h50 : ¬ (σ 97 0 = σ 97 0) := h50
            exact absurd rfl h50
        · replace h32 : ¬ (σ 97 0 ≥ 0) := h32
          exact absurd ((so_m hou).mp (Int32.not_le.mp h32)) hso1
    · exact absurd (by simp only [cz, cc2]; decide +kernel) h11
set_option maxRecDepth 20000 in
set_option maxHeartbeats 800000 in
theorem g_copy_0_1 (l : Launch) (G : Gl) (σ : Mm) (n : Nat → Nat) (xi xj xk : Int32) (hsh : ∀ s, s < 4 → σ 98 s = nI (n s) ∧ n s ≤ 40) (hso : ∀ s, s < 4 → σ 97 s = -(nI 1) ∨ σ 97 s = nI 0 ∨ σ 97 s = nI 1) : AMi l G 3 mX10_copy [.ref 66, .int (nI 0), .int xi, .int (nI 1), .int xj, .int xk] σ (fun r σ' => r = aCopy n (σ 97) (nI 0) xi (nI 1) xj xk ∧ σ' = sCopyM n σ (nI 0) xi (nI 1) xj xk) := by
  refine rw_inI 10 (by decide +kernel) rfl rfl ?_
  intro E hE hX
  subst hE
  have hk4 := film_r 0 (by omega)
  have hu4 := film_r 1 (by omega)
  have hcs : (nI 0).toNatClampNeg = 0 := nI_clamp (by omega)
  have hct : (nI 1).toNatClampNeg = 1 := nI_clamp (by omega)
  have hns := hsh 0 (by omega)
  have hos := hso 0 (by omega)
  have hnu := hsh 1 (by omega)
  have hou := hso 1 (by omega)
  refine rw_go hX [(0, .iload_n 1)] (by decide +kernel) (Ps := []) (pc' := 1) (lv' := [(0, .ref 66), (1, .int (nI 0)), (2, .int xi), (3, .int (nI 1)), (4, .int xj), (5, .int xk)]) (st' := [.int (nI 0)]) (σ' := σ) rfl True.intro ?_
  refine rw_callSi hX (as := [.int (nI 0)]) (rest := []) (m_isSheet _ _ _ (nI 0)) (by decide +kernel) msX10_isSheet (Or.inl lk10_298) rfl (by decide) (Nat.le_of_ble_eq_true rfl) rfl ?_
  intro r1 σ1 hr
  rw [hr.1, show r1 = nI 1 from hr.2.trans (by decide +kernel)]
  clear hr σ1 r1
  refine rw_if hX (tgt := 14) (cnd := .eq) (off := 10) (by decide +kernel) (by decide) (fun h4 => ?_) (fun h4 => ?_)
  · exact absurd h4 (by simp only [cz, cc2]; decide +kernel)
  · skip
    refine rw_go hX [(7, .iload_n 3)] (by decide +kernel) (Ps := []) (pc' := 8) (lv' := [(0, .ref 66), (1, .int (nI 0)), (2, .int xi), (3, .int (nI 1)), (4, .int xj), (5, .int xk)]) (st' := [.int (nI 1)]) (σ' := σ) rfl True.intro ?_
    refine rw_callSi hX (as := [.int (nI 1)]) (rest := []) (m_isSheet _ _ _ (nI 1)) (by decide +kernel) msX10_isSheet (Or.inl lk10_298) rfl (by decide) (Nat.le_of_ble_eq_true rfl) rfl ?_
    intro r1 σ1 hr
    rw [hr.1, show r1 = nI 1 from hr.2.trans (by decide +kernel)]
    clear hr σ1 r1
    refine rw_if hX (tgt := 17) (cnd := .ne) (off := 6) (by decide +kernel) (by decide) (fun h11 => ?_) (fun h11 => ?_)
    · skip
      refine rw_go hX [(17, .aload_n 0), (18, .getfield 91), (21, .iload_n 1), (22, .iaload)] (by decide +kernel) (Ps := [vp_in (nI 0) 4]) (pc' := 23) (lv' := [(0, .ref 66), (1, .int (nI 0)), (2, .int xi), (3, .int (nI 1)), (4, .int xj), (5, .int xk)]) (st' := [.int (σ 97 (nI 0).toNatClampNeg)]) (σ' := σ) rfl (vp_in_nI (by omega) (by omega)) ?_
      rw [show (σ 97 (nI 0).toNatClampNeg) = σ 97 0 from (by rw [nI_clamp (by omega)])]
      refine rw_if hX (tgt := 35) (cnd := .lt) (off := 12) (by decide +kernel) (by decide) (fun h23 => ?_) (fun h23 => ?_)
      · replace h23 : (σ 97 0 < 0) := h23
        have hso1 : σ 97 0 = -(nI 1) := (so_m hos).mp h23
        refine rw_go hX [(35, .bipush (-11))] (by decide +kernel) (Ps := []) (pc' := 37) (lv' := [(0, .ref 66), (1, .int (nI 0)), (2, .int xi), (3, .int (nI 1)), (4, .int xj), (5, .int xk)]) (st' := [.int (-(nI 11))]) (σ' := σ) rfl True.intro ?_
        exact rw_iret hX (by decide +kernel) (⟨by simp only [aCopy, eq_true hk4, eq_true hu4, hcs, hct, eq_true h4, eq_true h11, eq_true h23, eq_true hso1, if_true, if_false, Bool.false_eq_true, and_self, and_true, true_and, and_false, false_and, oel_n, oel_s, decide_true, decide_false], by simp only [sCopyM, eq_true hk4, eq_true hu4, hcs, hct, eq_true h4, eq_true h11, eq_true h23, eq_true hso1, if_true, if_false, Bool.false_eq_true, and_self, and_true, true_and, and_false, false_and, oel_n, oel_s, decide_true, decide_false]⟩)
      · replace h23 : ¬ (σ 97 0 < 0) := h23
        have hso1 : ¬ σ 97 0 = -(nI 1) := fun z => h23 ((so_m hos).mpr z)
        refine rw_go hX [(26, .aload_n 0), (27, .getfield 91), (30, .iload_n 3), (31, .iaload)] (by decide +kernel) (Ps := [vp_in (nI 1) 4]) (pc' := 32) (lv' := [(0, .ref 66), (1, .int (nI 0)), (2, .int xi), (3, .int (nI 1)), (4, .int xj), (5, .int xk)]) (st' := [.int (σ 97 (nI 1).toNatClampNeg)]) (σ' := σ) rfl (vp_in_nI (by omega) (by omega)) ?_
        rw [show (σ 97 (nI 1).toNatClampNeg) = σ 97 1 from (by rw [nI_clamp (by omega)])]
        refine rw_if hX (tgt := 38) (cnd := .ge) (off := 6) (by decide +kernel) (by decide) (fun h32 => ?_) (fun h32 => ?_)
        · replace h32 : (σ 97 1 ≥ 0) := h32
          have hso2 : ¬ σ 97 1 = -(nI 1) := fun z => absurd ((so_m hou).mpr z) (Int32.not_lt.mpr h32)
          refine rw_go hX [(38, .aload_n 0), (39, .getfield 91), (42, .iload_n 1), (43, .iaload)] (by decide +kernel) (Ps := [vp_in (nI 0) 4]) (pc' := 44) (lv' := [(0, .ref 66), (1, .int (nI 0)), (2, .int xi), (3, .int (nI 1)), (4, .int xj), (5, .int xk)]) (st' := [.int (σ 97 (nI 0).toNatClampNeg)]) (σ' := σ) rfl (vp_in_nI (by omega) (by omega)) ?_
          rw [show (σ 97 (nI 0).toNatClampNeg) = σ 97 0 from (by rw [nI_clamp (by omega)])]
          refine rw_go hX [(44, .aload_n 0), (45, .getfield 91), (48, .iload_n 3), (49, .iaload)] (by decide +kernel) (Ps := [vp_in (nI 1) 4]) (pc' := 50) (lv' := [(0, .ref 66), (1, .int (nI 0)), (2, .int xi), (3, .int (nI 1)), (4, .int xj), (5, .int xk)]) (st' := [.int (σ 97 (nI 1).toNatClampNeg), .int (σ 97 0)]) (σ' := σ) rfl (vp_in_nI (by omega) (by omega)) ?_
          rw [show (σ 97 (nI 1).toNatClampNeg) = σ 97 1 from (by rw [nI_clamp (by omega)])]
          refine rw_icmp hX (tgt := 56) (cnd := .eq) (off := 6) (by decide +kernel) (by decide) (fun h50 => ?_) (fun h50 => ?_)
          · replace h50 : (σ 97 0 = σ 97 1) := h50
            refine rw_go hX [(56, .iload 5)] (by decide +kernel) (Ps := []) (pc' := 58) (lv' := [(0, .ref 66), (1, .int (nI 0)), (2, .int xi), (3, .int (nI 1)), (4, .int xj), (5, .int xk)]) (st' := [.int xk]) (σ' := σ) rfl True.intro ?_
            refine rw_if hX (tgt := 119) (cnd := .lt) (off := 61) (by decide +kernel) (by decide) (fun h58 => ?_) (fun h58 => ?_)
            · replace h58 : (xk < 0) := h58
              have hcp : pz (cpOK xi xj xk (n 0) (n 1)) = false := pz_f fun ⟨a9, b9, k9, e1, e2, e3, g1, g2⟩ => by
                rw [e3] at h58; exact absurd h58 (nI_pos (by have := hns.2; omega))
              refine rw_go hX [(119, .bipush (-12))] (by decide +kernel) (Ps := []) (pc' := 121) (lv' := [(0, .ref 66), (1, .int (nI 0)), (2, .int xi), (3, .int (nI 1)), (4, .int xj), (5, .int xk)]) (st' := [.int (-(nI 12))]) (σ' := σ) rfl True.intro ?_
              exact rw_iret hX (by decide +kernel) (⟨by simp only [aCopy, eq_true hk4, eq_true hu4, hcs, hct, eq_true h4, eq_true h11, eq_false h23, eq_false hso1, eq_true h32, eq_false hso2, eq_true h50, eq_true h58, hcp, if_true, if_false, Bool.false_eq_true, and_self, and_true, true_and, and_false, false_and, oel_n, oel_s, decide_true, decide_false], by simp only [sCopyM, eq_true hk4, eq_true hu4, hcs, hct, eq_true h4, eq_true h11, eq_false h23, eq_false hso1, eq_true h32, eq_false hso2, eq_true h50, eq_true h58, hcp, if_true, if_false, Bool.false_eq_true, and_self, and_true, true_and, and_false, false_and, oel_n, oel_s, decide_true, decide_false]⟩)
            · replace h58 : ¬ (xk < 0) := h58
              refine rw_go hX [(61, .iload_n 2)] (by decide +kernel) (Ps := []) (pc' := 62) (lv' := [(0, .ref 66), (1, .int (nI 0)), (2, .int xi), (3, .int (nI 1)), (4, .int xj), (5, .int xk)]) (st' := [.int xi]) (σ' := σ) rfl True.intro ?_
              refine rw_if hX (tgt := 119) (cnd := .lt) (off := 57) (by decide +kernel) (by decide) (fun h62 => ?_) (fun h62 => ?_)
              · replace h62 : (xi < 0) := h62
                have hcp : pz (cpOK xi xj xk (n 0) (n 1)) = false := pz_f fun ⟨a9, b9, k9, e1, e2, e3, g1, g2⟩ => by
                  rw [e1] at h62; exact absurd h62 (nI_pos (by have := hns.2; omega))
                refine rw_go hX [(119, .bipush (-12))] (by decide +kernel) (Ps := []) (pc' := 121) (lv' := [(0, .ref 66), (1, .int (nI 0)), (2, .int xi), (3, .int (nI 1)), (4, .int xj), (5, .int xk)]) (st' := [.int (-(nI 12))]) (σ' := σ) rfl True.intro ?_
                exact rw_iret hX (by decide +kernel) (⟨by simp only [aCopy, eq_true hk4, eq_true hu4, hcs, hct, eq_true h4, eq_true h11, eq_false h23, eq_false hso1, eq_true h32, eq_false hso2, eq_true h50, eq_false h58, eq_true h62, hcp, if_true, if_false, Bool.false_eq_true, and_self, and_true, true_and, and_false, false_and, oel_n, oel_s, decide_true, decide_false], by simp only [sCopyM, eq_true hk4, eq_true hu4, hcs, hct, eq_true h4, eq_true h11, eq_false h23, eq_false hso1, eq_true h32, eq_false hso2, eq_true h50, eq_false h58, eq_true h62, hcp, if_true, if_false, Bool.false_eq_true, and_self, and_true, true_and, and_false, false_and, oel_n, oel_s, decide_true, decide_false]⟩)
              · replace h62 : ¬ (xi < 0) := h62
                refine rw_go hX [(65, .iload 4)] (by decide +kernel) (Ps := []) (pc' := 67) (lv' := [(0, .ref 66), (1, .int (nI 0)), (2, .int xi), (3, .int (nI 1)), (4, .int xj), (5, .int xk)]) (st' := [.int xj]) (σ' := σ) rfl True.intro ?_
                refine rw_if hX (tgt := 119) (cnd := .lt) (off := 52) (by decide +kernel) (by decide) (fun h67 => ?_) (fun h67 => ?_)
                · replace h67 : (xj < 0) := h67
                  have hcp : pz (cpOK xi xj xk (n 0) (n 1)) = false := pz_f fun ⟨a9, b9, k9, e1, e2, e3, g1, g2⟩ => by
                    rw [e2] at h67; exact absurd h67 (nI_pos (by have := hnu.2; omega))
                  refine rw_go hX [(119, .bipush (-12))] (by decide +kernel) (Ps := []) (pc' := 121) (lv' := [(0, .ref 66), (1, .int (nI 0)), (2, .int xi), (3, .int (nI 1)), (4, .int xj), (5, .int xk)]) (st' := [.int (-(nI 12))]) (σ' := σ) rfl True.intro ?_
                  exact rw_iret hX (by decide +kernel) (⟨by simp only [aCopy, eq_true hk4, eq_true hu4, hcs, hct, eq_true h4, eq_true h11, eq_false h23, eq_false hso1, eq_true h32, eq_false hso2, eq_true h50, eq_false h58, eq_false h62, eq_true h67, hcp, if_true, if_false, Bool.false_eq_true, and_self, and_true, true_and, and_false, false_and, oel_n, oel_s, decide_true, decide_false], by simp only [sCopyM, eq_true hk4, eq_true hu4, hcs, hct, eq_true h4, eq_true h11, eq_false h23, eq_false hso1, eq_true h32, eq_false hso2, eq_true h50, eq_false h58, eq_false h62, eq_true h67, hcp, if_true, if_false, Bool.false_eq_true, and_self, and_true, true_and, and_false, false_and, oel_n, oel_s, decide_true, decide_false]⟩)
                · replace h67 : ¬ (xj < 0) := h67
                  refine rw_go hX [(70, .iload 5), (72, .aload_n 0), (73, .getfield 94), (76, .iload_n 1), (77, .iaload)] (by decide +kernel) (Ps := [vp_in (nI 0) 4]) (pc' := 78) (lv' := [(0, .ref 66), (1, .int (nI 0)), (2, .int xi), (3, .int (nI 1)), (4, .int xj), (5, .int xk)]) (st' := [.int (σ 98 (nI 0).toNatClampNeg), .int xk]) (σ' := σ) rfl (vp_in_nI (by omega) (by omega)) ?_
                  rw [show (σ 98 (nI 0).toNatClampNeg) = nI (n 0) from (by rw [nI_clamp (by omega), hns.1])]
                  refine rw_icmp hX (tgt := 119) (cnd := .gt) (off := 41) (by decide +kernel) (by decide) (fun h78 => ?_) (fun h78 => ?_)
                  · replace h78 : (xk > nI (n 0)) := h78
                    have hcp : pz (cpOK xi xj xk (n 0) (n 1)) = false := pz_f fun ⟨a9, b9, k9, e1, e2, e3, g1, g2⟩ => by
                      rw [e3] at h78; exact absurd h78 (Int32.not_lt.mpr (nI_le (show k9 ≤ n 0 by omega) (by have := hns.2; omega)))
                    refine rw_go hX [(119, .bipush (-12))] (by decide +kernel) (Ps := []) (pc' := 121) (lv' := [(0, .ref 66), (1, .int (nI 0)), (2, .int xi), (3, .int (nI 1)), (4, .int xj), (5, .int xk)]) (st' := [.int (-(nI 12))]) (σ' := σ) rfl True.intro ?_
                    exact rw_iret hX (by decide +kernel) (⟨by simp only [aCopy, eq_true hk4, eq_true hu4, hcs, hct, eq_true h4, eq_true h11, eq_false h23, eq_false hso1, eq_true h32, eq_false hso2, eq_true h50, eq_false h58, eq_false h62, eq_false h67, eq_true h78, hcp, if_true, if_false, Bool.false_eq_true, and_self, and_true, true_and, and_false, false_and, oel_n, oel_s, decide_true, decide_false], by simp only [sCopyM, eq_true hk4, eq_true hu4, hcs, hct, eq_true h4, eq_true h11, eq_false h23, eq_false hso1, eq_true h32, eq_false hso2, eq_true h50, eq_false h58, eq_false h62, eq_false h67, eq_true h78, hcp, if_true, if_false, Bool.false_eq_true, and_self, and_true, true_and, and_false, false_and, oel_n, oel_s, decide_true, decide_false]⟩)
                  · replace h78 : ¬ (xk > nI (n 0)) := h78
                    have hn40 := hns.2
                    have hn41 := hnu.2
                    obtain ⟨c, hc, rfl⟩ := rng (m := n 0) (by omega) ⟨Int32.not_lt.mp h58, Int32.not_lt.mp h78⟩
                    have hcc : (nI c).toNatClampNeg = c := nI_clamp (by omega)
                    refine rw_go hX [(81, .iload 5), (83, .aload_n 0), (84, .getfield 94), (87, .iload_n 3), (88, .iaload)] (by decide +kernel) (Ps := [vp_in (nI 1) 4]) (pc' := 89) (lv' := [(0, .ref 66), (1, .int (nI 0)), (2, .int xi), (3, .int (nI 1)), (4, .int xj), (5, .int (nI c))]) (st' := [.int (σ 98 (nI 1).toNatClampNeg), .int (nI c)]) (σ' := σ) rfl (vp_in_nI (by omega) (by omega)) ?_
                    rw [show (σ 98 (nI 1).toNatClampNeg) = nI (n 1) from (by rw [nI_clamp (by omega), hnu.1])]
                    refine rw_icmp hX (tgt := 119) (cnd := .gt) (off := 30) (by decide +kernel) (by decide) (fun h89 => ?_) (fun h89 => ?_)
                    · replace h89 := c2_gtT h89
                      have hcp : pz (cpOK xi xj (nI c) (n 0) (n 1)) = false := pz_f fun ⟨a9, b9, k9, e1, e2, e3, g1, g2⟩ => by
                        have e9 := (nI_eq (by omega) (by omega)).mp e3
                        omega
                      refine rw_go hX [(119, .bipush (-12))] (by decide +kernel) (Ps := []) (pc' := 121) (lv' := [(0, .ref 66), (1, .int (nI 0)), (2, .int xi), (3, .int (nI 1)), (4, .int xj), (5, .int (nI c))]) (st' := [.int (-(nI 12))]) (σ' := σ) rfl True.intro ?_
                      exact rw_iret hX (by decide +kernel) (⟨by simp only [aCopy, eq_true hk4, eq_true hu4, hcs, hct, eq_true h4, eq_true h11, eq_false h23, eq_false hso1, eq_true h32, eq_false hso2, eq_true h50, eq_false h58, eq_false h62, eq_false h67, eq_false h78, hcc, eq_true h89, hcp, if_true, if_false, Bool.false_eq_true, and_self, and_true, true_and, and_false, false_and, oel_n, oel_s, decide_true, decide_false], by simp only [sCopyM, eq_true hk4, eq_true hu4, hcs, hct, eq_true h4, eq_true h11, eq_false h23, eq_false hso1, eq_true h32, eq_false hso2, eq_true h50, eq_false h58, eq_false h62, eq_false h67, eq_false h78, hcc, eq_true h89, hcp, if_true, if_false, Bool.false_eq_true, and_self, and_true, true_and, and_false, false_and, oel_n, oel_s, decide_true, decide_false]⟩)
                    · replace h89 := c2_gtF h89
                      have hcu : c ≤ n 1 := by omega
                      refine rw_go hX [(92, .iload_n 2), (93, .aload_n 0), (94, .getfield 94), (97, .iload_n 1), (98, .iaload)] (by decide +kernel) (Ps := [vp_in (nI 0) 4]) (pc' := 99) (lv' := [(0, .ref 66), (1, .int (nI 0)), (2, .int xi), (3, .int (nI 1)), (4, .int xj), (5, .int (nI c))]) (st' := [.int (σ 98 (nI 0).toNatClampNeg), .int xi]) (σ' := σ) rfl (vp_in_nI (by omega) (by omega)) ?_
                      rw [show (σ 98 (nI 0).toNatClampNeg) = nI (n 0) from (by rw [nI_clamp (by omega), hns.1])]
                      refine rw_go hX [(99, .iload 5), (101, .isub)] (by decide +kernel) (Ps := []) (pc' := 102) (lv' := [(0, .ref 66), (1, .int (nI 0)), (2, .int xi), (3, .int (nI 1)), (4, .int xj), (5, .int (nI c))]) (st' := [.int (nI (n 0) - nI c), .int xi]) (σ' := σ) rfl True.intro ?_
                      rw [show (nI (n 0) - nI c) = nI (n 0 - c) from pk_sub (by omega)]
                      refine rw_icmp hX (tgt := 119) (cnd := .gt) (off := 17) (by decide +kernel) (by decide) (fun h102 => ?_) (fun h102 => ?_)
                      · replace h102 : (xi > nI (n 0 - c)) := h102
                        have hcp : pz (cpOK xi xj (nI c) (n 0) (n 1)) = false := pz_f fun ⟨a9, b9, k9, e1, e2, e3, g1, g2⟩ => by
                          have e9 := (nI_eq (by omega) (by omega)).mp e3
                          rw [e1] at h102
                          exact absurd h102 (Int32.not_lt.mpr (nI_le (by omega) (by omega)))
                        refine rw_go hX [(119, .bipush (-12))] (by decide +kernel) (Ps := []) (pc' := 121) (lv' := [(0, .ref 66), (1, .int (nI 0)), (2, .int xi), (3, .int (nI 1)), (4, .int xj), (5, .int (nI c))]) (st' := [.int (-(nI 12))]) (σ' := σ) rfl True.intro ?_
                        exact rw_iret hX (by decide +kernel) (⟨by simp only [aCopy, eq_true hk4, eq_true hu4, hcs, hct, eq_true h4, eq_true h11, eq_false h23, eq_false hso1, eq_true h32, eq_false hso2, eq_true h50, eq_false h58, eq_false h62, eq_false h67, eq_false h78, hcc, eq_true h89, eq_true h102, hcp, if_true, if_false, Bool.false_eq_true, and_self, and_true, true_and, and_false, false_and, oel_n, oel_s, decide_true, decide_false], by simp only [sCopyM, eq_true hk4, eq_true hu4, hcs, hct, eq_true h4, eq_true h11, eq_false h23, eq_false hso1, eq_true h32, eq_false hso2, eq_true h50, eq_false h58, eq_false h62, eq_false h67, eq_false h78, hcc, eq_true h89, eq_true h102, hcp, if_true, if_false, Bool.false_eq_true, and_self, and_true, true_and, and_false, false_and, oel_n, oel_s, decide_true, decide_false]⟩)
                      · replace h102 : ¬ (xi > nI (n 0 - c)) := h102
                        obtain ⟨a, ha, rfl⟩ := rng (m := n 0 - c) (by omega) ⟨Int32.not_lt.mp h62, Int32.not_lt.mp h102⟩
                        have hca : (nI a).toNatClampNeg = a := nI_clamp (by omega)
                        refine rw_go hX [(105, .iload 4), (107, .aload_n 0), (108, .getfield 94), (111, .iload_n 3), (112, .iaload)] (by decide +kernel) (Ps := [vp_in (nI 1) 4]) (pc' := 113) (lv' := [(0, .ref 66), (1, .int (nI 0)), (2, .int (nI a)), (3, .int (nI 1)), (4, .int xj), (5, .int (nI c))]) (st' := [.int (σ 98 (nI 1).toNatClampNeg), .int xj]) (σ' := σ) rfl (vp_in_nI (by omega) (by omega)) ?_
                        rw [show (σ 98 (nI 1).toNatClampNeg) = nI (n 1) from (by rw [nI_clamp (by omega), hnu.1])]
                        refine rw_go hX [(113, .iload 5), (115, .isub)] (by decide +kernel) (Ps := []) (pc' := 116) (lv' := [(0, .ref 66), (1, .int (nI 0)), (2, .int (nI a)), (3, .int (nI 1)), (4, .int xj), (5, .int (nI c))]) (st' := [.int (nI (n 1) - nI c), .int xj]) (σ' := σ) rfl True.intro ?_
                        rw [show (nI (n 1) - nI c) = nI (n 1 - c) from pk_sub (by omega)]
                        refine rw_icmp hX (tgt := 122) (cnd := .le) (off := 6) (by decide +kernel) (by decide) (fun h116 => ?_) (fun h116 => ?_)
                        · replace h116 : (xj ≤ nI (n 1 - c)) := h116
                          obtain ⟨b, hb, rfl⟩ := rng (m := n 1 - c) (by omega) ⟨Int32.not_lt.mp h67, h116⟩
                          have hcb : (nI b).toNatClampNeg = b := nI_clamp (by omega)
                          have hcp : pz (cpOK (nI a) (nI b) (nI c) (n 0) (n 1)) = true := pz_t ⟨a, b, c, rfl, rfl, rfl, by omega, by omega⟩
                          refine rw_go hX [(122, .iconst 0), (123, .istore 6)] (by decide +kernel) (Ps := []) (pc' := 125) (lv' := [(0, .ref 66), (1, .int (nI 0)), (2, .int (nI a)), (3, .int (nI 1)), (4, .int (nI b)), (5, .int (nI c)), (6, .int (nI 0))]) (st' := []) (σ' := σ) rfl True.intro ?_
                          have L125 : ∀ (μ125 : Nat) (i : Nat), μ125 = c - i → (i ≤ c) → RW E G 3 7 (QI E G (fun r σ' => r = aCopy n (σ 97) (nI 0) (nI a) (nI 1) (nI b) (nI c) ∧ σ' = sCopyM n σ (nI 0) (nI a) (nI 1) (nI b) (nI c))) 125 [(0, .ref 66), (1, .int (nI 0)), (2, .int (nI a)), (3, .int (nI 1)), (4, .int (nI b)), (5, .int (nI c)), (6, .int (nI i))] [] (sr σ 100 (va_cpy (σ 93) (σ 100) a 0 i)) := by
                            intro μ125
                            induction μ125 using Nat.strongRecOn with
                            | ind μ125 ih125 =>
                              intro i hμ125 hi
                              refine rw_go hX [(125, .iload 6), (127, .iload 5)] (by decide +kernel) (Ps := []) (pc' := 129) (lv' := [(0, .ref 66), (1, .int (nI 0)), (2, .int (nI a)), (3, .int (nI 1)), (4, .int (nI b)), (5, .int (nI c)), (6, .int (nI i))]) (st' := [.int (nI c), .int (nI i)]) (σ' := sr σ 100 (va_cpy (σ 93) (σ 100) a 0 i)) rfl True.intro ?_
                              refine rw_icmp hX (tgt := 156) (cnd := .ge) (off := 27) (by decide +kernel) (by decide) (fun h129 => ?_) (fun h129 => ?_)
                              · replace h129 := c2_geT h129
                                have ei : i = c := by omega
                                rw [ei]
                                refine rw_go hX [(156, .iconst 0), (157, .istore 6)] (by decide +kernel) (Ps := []) (pc' := 159) (lv' := [(0, .ref 66), (1, .int (nI 0)), (2, .int (nI a)), (3, .int (nI 1)), (4, .int (nI b)), (5, .int (nI c)), (6, .int (nI 0))]) (st' := []) (σ' := sr σ 100 (va_cpy (σ 93) (σ 100) a 0 c)) rfl True.intro ?_
                                have L159 : ∀ (μ159 : Nat) (i : Nat), μ159 = c - i → (i ≤ c) → RW E G 3 7 (QI E G (fun r σ' => r = aCopy n (σ 97) (nI 0) (nI a) (nI 1) (nI b) (nI c) ∧ σ' = sCopyM n σ (nI 0) (nI a) (nI 1) (nI b) (nI c))) 159 [(0, .ref 66), (1, .int (nI 0)), (2, .int (nI a)), (3, .int (nI 1)), (4, .int (nI b)), (5, .int (nI c)), (6, .int (nI i))] [] (sr (sr σ 100 (va_cpy (σ 93) (σ 100) a 0 c)) 94 (va_cpy (va_cpy (σ 93) (σ 100) a 0 c) (σ 94) 0 b i)) := by
                                  intro μ159
                                  induction μ159 using Nat.strongRecOn with
                                  | ind μ159 ih159 =>
                                    intro i hμ159 hi2
                                    refine rw_go hX [(159, .iload 6), (161, .iload 5)] (by decide +kernel) (Ps := []) (pc' := 163) (lv' := [(0, .ref 66), (1, .int (nI 0)), (2, .int (nI a)), (3, .int (nI 1)), (4, .int (nI b)), (5, .int (nI c)), (6, .int (nI i))]) (st' := [.int (nI c), .int (nI i)]) (σ' := sr (sr σ 100 (va_cpy (σ 93) (σ 100) a 0 c)) 94 (va_cpy (va_cpy (σ 93) (σ 100) a 0 c) (σ 94) 0 b i)) rfl True.intro ?_
                                    refine rw_icmp hX (tgt := 191) (cnd := .ge) (off := 28) (by decide +kernel) (by decide) (fun h163 => ?_) (fun h163 => ?_)
                                    · replace h163 := c2_geT h163
                                      have ei2 : i = c := by omega
                                      refine rw_go hX [(191, .iload 5)] (by decide +kernel) (Ps := []) (pc' := 193) (lv' := [(0, .ref 66), (1, .int (nI 0)), (2, .int (nI a)), (3, .int (nI 1)), (4, .int (nI b)), (5, .int (nI c)), (6, .int (nI i))]) (st' := [.int (nI c)]) (σ' := sr (sr σ 100 (va_cpy (σ 93) (σ 100) a 0 c)) 94 (va_cpy (va_cpy (σ 93) (σ 100) a 0 c) (σ 94) 0 b i)) rfl True.intro ?_
                                      exact rw_iret hX (by decide +kernel) (⟨by simp only [aCopy, eq_true hk4, eq_true hu4, hcs, hct, eq_true h4, eq_true h11, eq_false h23, eq_false hso1, eq_true h32, eq_false hso2, eq_true h50, eq_false h58, eq_false h62, eq_false h67, eq_false h78, hcc, eq_true h89, eq_false h102, hca, eq_true h116, hcb, hcp, eq_true h129, eq_true h163, if_true, if_false, Bool.false_eq_true, and_self, and_true, true_and, and_false, false_and, oel_n, oel_s, decide_true, decide_false], by simp only [sCopyM, eq_true hk4, eq_true hu4, hcs, hct, eq_true h4, eq_true h11, eq_false h23, eq_false hso1, eq_true h32, eq_false hso2, eq_true h50, eq_false h58, eq_false h62, eq_false h67, eq_false h78, hcc, eq_true h89, eq_false h102, hca, eq_true h116, hcb, hcp, eq_true h129, eq_true h163, if_true, if_false, Bool.false_eq_true, and_self, and_true, true_and, and_false, false_and, oel_n, oel_s, decide_true, decide_false]; rw [ei2]; rfl⟩)
                                    · replace h163 := c2_geF h163
                                      refine rw_go hX [(166, .aload_n 0), (167, .getfield 88), (170, .iload_n 3), (171, .aaload), (172, .iload 4), (174, .iload 6), (176, .iadd)] (by decide +kernel) (Ps := [vp_in (nI 1) 4]) (pc' := 177) (lv' := [(0, .ref 66), (1, .int (nI 0)), (2, .int (nI a)), (3, .int (nI 1)), (4, .int (nI b)), (5, .int (nI c)), (6, .int (nI i))]) (st' := [.int (nI b + nI i), .ref 94]) (σ' := sr (sr σ 100 (va_cpy (σ 93) (σ 100) a 0 c)) 94 (va_cpy (va_cpy (σ 93) (σ 100) a 0 c) (σ 94) 0 b i)) rfl (vp_in_nI (by omega) (by omega)) ?_
                                      rw [show (nI b + nI i) = nI (b + i) from nI_add _ _]
                                      refine rw_go hX [(177, .aload_n 0), (178, .getfield 100), (181, .iload 6), (183, .iaload)] (by decide +kernel) (Ps := [vp_in (nI i) 40]) (pc' := 184) (lv' := [(0, .ref 66), (1, .int (nI 0)), (2, .int (nI a)), (3, .int (nI 1)), (4, .int (nI b)), (5, .int (nI c)), (6, .int (nI i))]) (st' := [.int ((sr (sr σ 100 (va_cpy (σ 93) (σ 100) a 0 c)) 94 (va_cpy (va_cpy (σ 93) (σ 100) a 0 c) (σ 94) 0 b i)) 100 (nI i).toNatClampNeg), .int (nI (b + i)), .ref 94]) (σ' := sr (sr σ 100 (va_cpy (σ 93) (σ 100) a 0 c)) 94 (va_cpy (va_cpy (σ 93) (σ 100) a 0 c) (σ 94) 0 b i)) rfl (vp_in_nI (by omega) (by omega)) ?_
                                      rw [show ((sr (sr σ 100 (va_cpy (σ 93) (σ 100) a 0 c)) 94 (va_cpy (va_cpy (σ 93) (σ 100) a 0 c) (σ 94) 0 b i)) 100 (nI i).toNatClampNeg) = (va_cpy (σ 93) (σ 100) a 0 c) i from (by rw [nI_clamp (by omega), sr_n _ _ (by decide), sr_s])]
                                      refine rw_go hX [(184, .iastore)] (by decide +kernel) (Ps := [vp_in (nI (b + i)) 40]) (pc' := 185) (lv' := [(0, .ref 66), (1, .int (nI 0)), (2, .int (nI a)), (3, .int (nI 1)), (4, .int (nI b)), (5, .int (nI c)), (6, .int (nI i))]) (st' := []) (σ' := sw (sr (sr σ 100 (va_cpy (σ 93) (σ 100) a 0 c)) 94 (va_cpy (va_cpy (σ 93) (σ 100) a 0 c) (σ 94) 0 b i)) 94 (nI (b + i)).toNatClampNeg ((va_cpy (σ 93) (σ 100) a 0 c) i)) rfl (vp_in_nI (by omega) (by omega)) ?_
                                      rw [show (sw (sr (sr σ 100 (va_cpy (σ 93) (σ 100) a 0 c)) 94 (va_cpy (va_cpy (σ 93) (σ 100) a 0 c) (σ 94) 0 b i)) 94 (nI (b + i)).toNatClampNeg ((va_cpy (σ 93) (σ 100) a 0 c) i)) = sw (sr (sr σ 100 (va_cpy (σ 93) (σ 100) a 0 c)) 94 (va_cpy (va_cpy (σ 93) (σ 100) a 0 c) (σ 94) 0 b i)) 94 (b + i) ((va_cpy (σ 93) (σ 100) a 0 c) i) from (by rw [nI_clamp (by omega)])]
                                      refine rw_go hX [(185, .iinc 6 1)] (by decide +kernel) (Ps := []) (pc' := 188) (lv' := [(0, .ref 66), (1, .int (nI 0)), (2, .int (nI a)), (3, .int (nI 1)), (4, .int (nI b)), (5, .int (nI c)), (6, .int (nI i + nI 1))]) (st' := []) (σ' := sw (sr (sr σ 100 (va_cpy (σ 93) (σ 100) a 0 c)) 94 (va_cpy (va_cpy (σ 93) (σ 100) a 0 c) (σ 94) 0 b i)) 94 (b + i) ((va_cpy (σ 93) (σ 100) a 0 c) i)) rfl True.intro ?_
                                      rw [show (nI i + nI 1) = nI (i + 1) from nI_add _ _]
                                      refine rw_go hX [(188, .goto (-29))] (by decide +kernel) (Ps := []) (pc' := 159) (lv' := [(0, .ref 66), (1, .int (nI 0)), (2, .int (nI a)), (3, .int (nI 1)), (4, .int (nI b)), (5, .int (nI c)), (6, .int (nI (i + 1)))]) (st' := []) (σ' := sw (sr (sr σ 100 (va_cpy (σ 93) (σ 100) a 0 c)) 94 (va_cpy (va_cpy (σ 93) (σ 100) a 0 c) (σ 94) 0 b i)) 94 (b + i) ((va_cpy (σ 93) (σ 100) a 0 c) i)) rfl True.intro ?_
                                      refine rw_lsub (ks := [0, 1, 2, 3, 4, 5, 6]) (lv' := [(0, .ref 66), (1, .int (nI 0)), (2, .int (nI a)), (3, .int (nI 1)), (4, .int (nI b)), (5, .int (nI c)), (6, .int (nI (i + 1)))]) rfl ?_
                                      have q := ih159 (c - (i + 1)) (by omega) (i + 1) rfl (by omega)
                                      rw [← cpy_1, Nat.zero_add] at q
                                      rw [sw_sr]
                                      exact q
                                refine rw_lsub (ks := [0, 1, 2, 3, 4, 5, 6]) (lv' := [(0, .ref 66), (1, .int (nI 0)), (2, .int (nI a)), (3, .int (nI 1)), (4, .int (nI b)), (5, .int (nI c)), (6, .int (nI 0))]) rfl ?_
                                have q := L159 c 0 rfl (by omega)
                                rw [cpy_0, show sr (sr σ 100 (va_cpy (σ 93) (σ 100) a 0 c)) 94 (σ 94) = sr σ 100 (va_cpy (σ 93) (σ 100) a 0 c) from by
                                  funext q
                                  by_cases z : q = 94
                                  · subst z; rw [sr_s, sr_n _ _ (by decide)]
                                  · rw [sr_n _ _ z]] at q
                                exact q
                              · replace h129 := c2_geF h129
                                refine rw_go hX [(132, .aload_n 0), (133, .getfield 100), (136, .iload 6), (138, .aload_n 0), (139, .getfield 88), (142, .iload_n 1), (143, .aaload), (144, .iload_n 2), (145, .iload 6), (147, .iadd)] (by decide +kernel) (Ps := [vp_in (nI 0) 4]) (pc' := 148) (lv' := [(0, .ref 66), (1, .int (nI 0)), (2, .int (nI a)), (3, .int (nI 1)), (4, .int (nI b)), (5, .int (nI c)), (6, .int (nI i))]) (st' := [.int (nI a + nI i), .ref 93, .int (nI i), .ref 100]) (σ' := sr σ 100 (va_cpy (σ 93) (σ 100) a 0 i)) rfl (vp_in_nI (by omega) (by omega)) ?_
                                rw [show (nI a + nI i) = nI (a + i) from nI_add _ _]
                                refine rw_go hX [(148, .iaload)] (by decide +kernel) (Ps := [vp_in (nI (a + i)) 40]) (pc' := 149) (lv' := [(0, .ref 66), (1, .int (nI 0)), (2, .int (nI a)), (3, .int (nI 1)), (4, .int (nI b)), (5, .int (nI c)), (6, .int (nI i))]) (st' := [.int ((sr σ 100 (va_cpy (σ 93) (σ 100) a 0 i)) 93 (nI (a + i)).toNatClampNeg), .int (nI i), .ref 100]) (σ' := sr σ 100 (va_cpy (σ 93) (σ 100) a 0 i)) rfl (vp_in_nI (by omega) (by omega)) ?_
                                rw [show ((sr σ 100 (va_cpy (σ 93) (σ 100) a 0 i)) 93 (nI (a + i)).toNatClampNeg) = σ 93 (a + i) from (by rw [nI_clamp (by omega), sr_n _ _ (by decide)])]
                                refine rw_go hX [(149, .iastore)] (by decide +kernel) (Ps := [vp_in (nI i) 40]) (pc' := 150) (lv' := [(0, .ref 66), (1, .int (nI 0)), (2, .int (nI a)), (3, .int (nI 1)), (4, .int (nI b)), (5, .int (nI c)), (6, .int (nI i))]) (st' := []) (σ' := sw (sr σ 100 (va_cpy (σ 93) (σ 100) a 0 i)) 100 (nI i).toNatClampNeg (σ 93 (a + i))) rfl (vp_in_nI (by omega) (by omega)) ?_
                                rw [show (sw (sr σ 100 (va_cpy (σ 93) (σ 100) a 0 i)) 100 (nI i).toNatClampNeg (σ 93 (a + i))) = sw (sr σ 100 (va_cpy (σ 93) (σ 100) a 0 i)) 100 i (σ 93 (a + i)) from (by rw [nI_clamp (by omega)])]
                                refine rw_go hX [(150, .iinc 6 1)] (by decide +kernel) (Ps := []) (pc' := 153) (lv' := [(0, .ref 66), (1, .int (nI 0)), (2, .int (nI a)), (3, .int (nI 1)), (4, .int (nI b)), (5, .int (nI c)), (6, .int (nI i + nI 1))]) (st' := []) (σ' := sw (sr σ 100 (va_cpy (σ 93) (σ 100) a 0 i)) 100 i (σ 93 (a + i))) rfl True.intro ?_
                                rw [show (nI i + nI 1) = nI (i + 1) from nI_add _ _]
                                refine rw_go hX [(153, .goto (-28))] (by decide +kernel) (Ps := []) (pc' := 125) (lv' := [(0, .ref 66), (1, .int (nI 0)), (2, .int (nI a)), (3, .int (nI 1)), (4, .int (nI b)), (5, .int (nI c)), (6, .int (nI (i + 1)))]) (st' := []) (σ' := sw (sr σ 100 (va_cpy (σ 93) (σ 100) a 0 i)) 100 i (σ 93 (a + i))) rfl True.intro ?_
                                refine rw_lsub (ks := [0, 1, 2, 3, 4, 5, 6]) (lv' := [(0, .ref 66), (1, .int (nI 0)), (2, .int (nI a)), (3, .int (nI 1)), (4, .int (nI b)), (5, .int (nI c)), (6, .int (nI (i + 1)))]) rfl ?_
                                have q := ih125 (c - (i + 1)) (by omega) (i + 1) rfl (by omega)
                                rw [← cpy_1, Nat.zero_add] at q
                                rw [sw_sr]
                                exact q
                          refine rw_lsub (ks := [0, 1, 2, 3, 4, 5, 6]) (lv' := [(0, .ref 66), (1, .int (nI 0)), (2, .int (nI a)), (3, .int (nI 1)), (4, .int (nI b)), (5, .int (nI c)), (6, .int (nI 0))]) rfl ?_
                          have q := L125 c 0 rfl (by omega)
                          rw [cpy_0, sr_id] at q
                          exact q
                        · replace h116 : ¬ (xj ≤ nI (n 1 - c)) := h116
                          have hcp : pz (cpOK (nI a) xj (nI c) (n 0) (n 1)) = false := pz_f fun ⟨a9, b9, k9, e1, e2, e3, g1, g2⟩ => by
                            have e9 := (nI_eq (by omega) (by omega)).mp e3
                            rw [e2] at h116
                            exact absurd (nI_le (by omega) (by omega)) h116
                          refine rw_go hX [(119, .bipush (-12))] (by decide +kernel) (Ps := []) (pc' := 121) (lv' := [(0, .ref 66), (1, .int (nI 0)), (2, .int (nI a)), (3, .int (nI 1)), (4, .int xj), (5, .int (nI c))]) (st' := [.int (-(nI 12))]) (σ' := σ) rfl True.intro ?_
                          exact rw_iret hX (by decide +kernel) (⟨by simp only [aCopy, eq_true hk4, eq_true hu4, hcs, hct, eq_true h4, eq_true h11, eq_false h23, eq_false hso1, eq_true h32, eq_false hso2, eq_true h50, eq_false h58, eq_false h62, eq_false h67, eq_false h78, hcc, eq_true h89, eq_false h102, hca, eq_false h116, hcp, if_true, if_false, Bool.false_eq_true, and_self, and_true, true_and, and_false, false_and, oel_n, oel_s, decide_true, decide_false], by simp only [sCopyM, eq_true hk4, eq_true hu4, hcs, hct, eq_true h4, eq_true h11, eq_false h23, eq_false hso1, eq_true h32, eq_false hso2, eq_true h50, eq_false h58, eq_false h62, eq_false h67, eq_false h78, hcc, eq_true h89, eq_false h102, hca, eq_false h116, hcp, if_true, if_false, Bool.false_eq_true, and_self, and_true, true_and, and_false, false_and, oel_n, oel_s, decide_true, decide_false]⟩)
          · replace h50 : ¬ (σ 97 0 = σ 97 1) := h50
            refine rw_go hX [(53, .bipush (-13))] (by decide +kernel) (Ps := []) (pc' := 55) (lv' := [(0, .ref 66), (1, .int (nI 0)), (2, .int xi), (3, .int (nI 1)), (4, .int xj), (5, .int xk)]) (st' := [.int (-(nI 13))]) (σ' := σ) rfl True.intro ?_
            exact rw_iret hX (by decide +kernel) (⟨by simp only [aCopy, eq_true hk4, eq_true hu4, hcs, hct, eq_true h4, eq_true h11, eq_false h23, eq_false hso1, eq_true h32, eq_false hso2, eq_false h50, if_true, if_false, Bool.false_eq_true, and_self, and_true, true_and, and_false, false_and, oel_n, oel_s, decide_true, decide_false], by simp only [sCopyM, eq_true hk4, eq_true hu4, hcs, hct, eq_true h4, eq_true h11, eq_false h23, eq_false hso1, eq_true h32, eq_false hso2, eq_false h50, if_true, if_false, Bool.false_eq_true, and_self, and_true, true_and, and_false, false_and, oel_n, oel_s, decide_true, decide_false]⟩)
        · replace h32 : ¬ (σ 97 1 ≥ 0) := h32
          have hso2 : σ 97 1 = -(nI 1) := (so_m hou).mp (Int32.not_le.mp h32)
          refine rw_go hX [(35, .bipush (-11))] (by decide +kernel) (Ps := []) (pc' := 37) (lv' := [(0, .ref 66), (1, .int (nI 0)), (2, .int xi), (3, .int (nI 1)), (4, .int xj), (5, .int xk)]) (st' := [.int (-(nI 11))]) (σ' := σ) rfl True.intro ?_
          exact rw_iret hX (by decide +kernel) (⟨by simp only [aCopy, eq_true hk4, eq_true hu4, hcs, hct, eq_true h4, eq_true h11, eq_false h23, eq_false hso1, eq_false h32, eq_true hso2, if_true, if_false, Bool.false_eq_true, and_self, and_true, true_and, and_false, false_and, oel_n, oel_s, decide_true, decide_false], by simp only [sCopyM, eq_true hk4, eq_true hu4, hcs, hct, eq_true h4, eq_true h11, eq_false h23, eq_false hso1, eq_false h32, eq_true hso2, if_true, if_false, Bool.false_eq_true, and_self, and_true, true_and, and_false, false_and, oel_n, oel_s, decide_true, decide_false]⟩)
    · exact absurd (by simp only [cz, cc2]; decide +kernel) h11
set_option maxRecDepth 20000 in
set_option maxHeartbeats 800000 in
theorem g_copy_0_2 (l : Launch) (G : Gl) (σ : Mm) (n : Nat → Nat) (xi xj xk : Int32) (hsh : ∀ s, s < 4 → σ 98 s = nI (n s) ∧ n s ≤ 40) (hso : ∀ s, s < 4 → σ 97 s = -(nI 1) ∨ σ 97 s = nI 0 ∨ σ 97 s = nI 1) : AMi l G 3 mX10_copy [.ref 66, .int (nI 0), .int xi, .int (nI 2), .int xj, .int xk] σ (fun r σ' => r = aCopy n (σ 97) (nI 0) xi (nI 2) xj xk ∧ σ' = sCopyM n σ (nI 0) xi (nI 2) xj xk) := by
  refine rw_inI 10 (by decide +kernel) rfl rfl ?_
  intro E hE hX
  subst hE
  have hk4 := film_r 0 (by omega)
  have hu4 := film_r 2 (by omega)
  have hcs : (nI 0).toNatClampNeg = 0 := nI_clamp (by omega)
  have hct : (nI 2).toNatClampNeg = 2 := nI_clamp (by omega)
  have hns := hsh 0 (by omega)
  have hos := hso 0 (by omega)
  have hnu := hsh 2 (by omega)
  have hou := hso 2 (by omega)
  refine rw_go hX [(0, .iload_n 1)] (by decide +kernel) (Ps := []) (pc' := 1) (lv' := [(0, .ref 66), (1, .int (nI 0)), (2, .int xi), (3, .int (nI 2)), (4, .int xj), (5, .int xk)]) (st' := [.int (nI 0)]) (σ' := σ) rfl True.intro ?_
  refine rw_callSi hX (as := [.int (nI 0)]) (rest := []) (m_isSheet _ _ _ (nI 0)) (by decide +kernel) msX10_isSheet (Or.inl lk10_298) rfl (by decide) (Nat.le_of_ble_eq_true rfl) rfl ?_
  intro r1 σ1 hr
  rw [hr.1, show r1 = nI 1 from hr.2.trans (by decide +kernel)]
  clear hr σ1 r1
  refine rw_if hX (tgt := 14) (cnd := .eq) (off := 10) (by decide +kernel) (by decide) (fun h4 => ?_) (fun h4 => ?_)
  · exact absurd h4 (by simp only [cz, cc2]; decide +kernel)
  · skip
    refine rw_go hX [(7, .iload_n 3)] (by decide +kernel) (Ps := []) (pc' := 8) (lv' := [(0, .ref 66), (1, .int (nI 0)), (2, .int xi), (3, .int (nI 2)), (4, .int xj), (5, .int xk)]) (st' := [.int (nI 2)]) (σ' := σ) rfl True.intro ?_
    refine rw_callSi hX (as := [.int (nI 2)]) (rest := []) (m_isSheet _ _ _ (nI 2)) (by decide +kernel) msX10_isSheet (Or.inl lk10_298) rfl (by decide) (Nat.le_of_ble_eq_true rfl) rfl ?_
    intro r1 σ1 hr
    rw [hr.1, show r1 = nI 1 from hr.2.trans (by decide +kernel)]
    clear hr σ1 r1
    refine rw_if hX (tgt := 17) (cnd := .ne) (off := 6) (by decide +kernel) (by decide) (fun h11 => ?_) (fun h11 => ?_)
    · skip
      refine rw_go hX [(17, .aload_n 0), (18, .getfield 91), (21, .iload_n 1), (22, .iaload)] (by decide +kernel) (Ps := [vp_in (nI 0) 4]) (pc' := 23) (lv' := [(0, .ref 66), (1, .int (nI 0)), (2, .int xi), (3, .int (nI 2)), (4, .int xj), (5, .int xk)]) (st' := [.int (σ 97 (nI 0).toNatClampNeg)]) (σ' := σ) rfl (vp_in_nI (by omega) (by omega)) ?_
      rw [show (σ 97 (nI 0).toNatClampNeg) = σ 97 0 from (by rw [nI_clamp (by omega)])]
      refine rw_if hX (tgt := 35) (cnd := .lt) (off := 12) (by decide +kernel) (by decide) (fun h23 => ?_) (fun h23 => ?_)
      · replace h23 : (σ 97 0 < 0) := h23
        have hso1 : σ 97 0 = -(nI 1) := (so_m hos).mp h23
        refine rw_go hX [(35, .bipush (-11))] (by decide +kernel) (Ps := []) (pc' := 37) (lv' := [(0, .ref 66), (1, .int (nI 0)), (2, .int xi), (3, .int (nI 2)), (4, .int xj), (5, .int xk)]) (st' := [.int (-(nI 11))]) (σ' := σ) rfl True.intro ?_
        exact rw_iret hX (by decide +kernel) (⟨by simp only [aCopy, eq_true hk4, eq_true hu4, hcs, hct, eq_true h4, eq_true h11, eq_true h23, eq_true hso1, if_true, if_false, Bool.false_eq_true, and_self, and_true, true_and, and_false, false_and, oel_n, oel_s, decide_true, decide_false], by simp only [sCopyM, eq_true hk4, eq_true hu4, hcs, hct, eq_true h4, eq_true h11, eq_true h23, eq_true hso1, if_true, if_false, Bool.false_eq_true, and_self, and_true, true_and, and_false, false_and, oel_n, oel_s, decide_true, decide_false]⟩)
      · replace h23 : ¬ (σ 97 0 < 0) := h23
        have hso1 : ¬ σ 97 0 = -(nI 1) := fun z => h23 ((so_m hos).mpr z)
        refine rw_go hX [(26, .aload_n 0), (27, .getfield 91), (30, .iload_n 3), (31, .iaload)] (by decide +kernel) (Ps := [vp_in (nI 2) 4]) (pc' := 32) (lv' := [(0, .ref 66), (1, .int (nI 0)), (2, .int xi), (3, .int (nI 2)), (4, .int xj), (5, .int xk)]) (st' := [.int (σ 97 (nI 2).toNatClampNeg)]) (σ' := σ) rfl (vp_in_nI (by omega) (by omega)) ?_
        rw [show (σ 97 (nI 2).toNatClampNeg) = σ 97 2 from (by rw [nI_clamp (by omega)])]
        refine rw_if hX (tgt := 38) (cnd := .ge) (off := 6) (by decide +kernel) (by decide) (fun h32 => ?_) (fun h32 => ?_)
        · replace h32 : (σ 97 2 ≥ 0) := h32
          have hso2 : ¬ σ 97 2 = -(nI 1) := fun z => absurd ((so_m hou).mpr z) (Int32.not_lt.mpr h32)
          refine rw_go hX [(38, .aload_n 0), (39, .getfield 91), (42, .iload_n 1), (43, .iaload)] (by decide +kernel) (Ps := [vp_in (nI 0) 4]) (pc' := 44) (lv' := [(0, .ref 66), (1, .int (nI 0)), (2, .int xi), (3, .int (nI 2)), (4, .int xj), (5, .int xk)]) (st' := [.int (σ 97 (nI 0).toNatClampNeg)]) (σ' := σ) rfl (vp_in_nI (by omega) (by omega)) ?_
          rw [show (σ 97 (nI 0).toNatClampNeg) = σ 97 0 from (by rw [nI_clamp (by omega)])]
          refine rw_go hX [(44, .aload_n 0), (45, .getfield 91), (48, .iload_n 3), (49, .iaload)] (by decide +kernel) (Ps := [vp_in (nI 2) 4]) (pc' := 50) (lv' := [(0, .ref 66), (1, .int (nI 0)), (2, .int xi), (3, .int (nI 2)), (4, .int xj), (5, .int xk)]) (st' := [.int (σ 97 (nI 2).toNatClampNeg), .int (σ 97 0)]) (σ' := σ) rfl (vp_in_nI (by omega) (by omega)) ?_
          rw [show (σ 97 (nI 2).toNatClampNeg) = σ 97 2 from (by rw [nI_clamp (by omega)])]
          refine rw_icmp hX (tgt := 56) (cnd := .eq) (off := 6) (by decide +kernel) (by decide) (fun h50 => ?_) (fun h50 => ?_)
          · replace h50 : (σ 97 0 = σ 97 2) := h50
            refine rw_go hX [(56, .iload 5)] (by decide +kernel) (Ps := []) (pc' := 58) (lv' := [(0, .ref 66), (1, .int (nI 0)), (2, .int xi), (3, .int (nI 2)), (4, .int xj), (5, .int xk)]) (st' := [.int xk]) (σ' := σ) rfl True.intro ?_
            refine rw_if hX (tgt := 119) (cnd := .lt) (off := 61) (by decide +kernel) (by decide) (fun h58 => ?_) (fun h58 => ?_)
            · replace h58 : (xk < 0) := h58
              have hcp : pz (cpOK xi xj xk (n 0) (n 2)) = false := pz_f fun ⟨a9, b9, k9, e1, e2, e3, g1, g2⟩ => by
                rw [e3] at h58; exact absurd h58 (nI_pos (by have := hns.2; omega))
              refine rw_go hX [(119, .bipush (-12))] (by decide +kernel) (Ps := []) (pc' := 121) (lv' := [(0, .ref 66), (1, .int (nI 0)), (2, .int xi), (3, .int (nI 2)), (4, .int xj), (5, .int xk)]) (st' := [.int (-(nI 12))]) (σ' := σ) rfl True.intro ?_
              exact rw_iret hX (by decide +kernel) (⟨by simp only [aCopy, eq_true hk4, eq_true hu4, hcs, hct, eq_true h4, eq_true h11, eq_false h23, eq_false hso1, eq_true h32, eq_false hso2, eq_true h50, eq_true h58, hcp, if_true, if_false, Bool.false_eq_true, and_self, and_true, true_and, and_false, false_and, oel_n, oel_s, decide_true, decide_false], by simp only [sCopyM, eq_true hk4, eq_true hu4, hcs, hct, eq_true h4, eq_true h11, eq_false h23, eq_false hso1, eq_true h32, eq_false hso2, eq_true h50, eq_true h58, hcp, if_true, if_false, Bool.false_eq_true, and_self, and_true, true_and, and_false, false_and, oel_n, oel_s, decide_true, decide_false]⟩)
            · replace h58 : ¬ (xk < 0) := h58
              refine rw_go hX [(61, .iload_n 2)] (by decide +kernel) (Ps := []) (pc' := 62) (lv' := [(0, .ref 66), (1, .int (nI 0)), (2, .int xi), (3, .int (nI 2)), (4, .int xj), (5, .int xk)]) (st' := [.int xi]) (σ' := σ) rfl True.intro ?_
              refine rw_if hX (tgt := 119) (cnd := .lt) (off := 57) (by decide +kernel) (by decide) (fun h62 => ?_) (fun h62 => ?_)
              · replace h62 : (xi < 0) := h62
                have hcp : pz (cpOK xi xj xk (n 0) (n 2)) = false := pz_f fun ⟨a9, b9, k9, e1, e2, e3, g1, g2⟩ => by
                  rw [e1] at h62; exact absurd h62 (nI_pos (by have := hns.2; omega))
                refine rw_go hX [(119, .bipush (-12))] (by decide +kernel) (Ps := []) (pc' := 121) (lv' := [(0, .ref 66), (1, .int (nI 0)), (2, .int xi), (3, .int (nI 2)), (4, .int xj), (5, .int xk)]) (st' := [.int (-(nI 12))]) (σ' := σ) rfl True.intro ?_
                exact rw_iret hX (by decide +kernel) (⟨by simp only [aCopy, eq_true hk4, eq_true hu4, hcs, hct, eq_true h4, eq_true h11, eq_false h23, eq_false hso1, eq_true h32, eq_false hso2, eq_true h50, eq_false h58, eq_true h62, hcp, if_true, if_false, Bool.false_eq_true, and_self, and_true, true_and, and_false, false_and, oel_n, oel_s, decide_true, decide_false], by simp only [sCopyM, eq_true hk4, eq_true hu4, hcs, hct, eq_true h4, eq_true h11, eq_false h23, eq_false hso1, eq_true h32, eq_false hso2, eq_true h50, eq_false h58, eq_true h62, hcp, if_true, if_false, Bool.false_eq_true, and_self, and_true, true_and, and_false, false_and, oel_n, oel_s, decide_true, decide_false]⟩)
              · replace h62 : ¬ (xi < 0) := h62
                refine rw_go hX [(65, .iload 4)] (by decide +kernel) (Ps := []) (pc' := 67) (lv' := [(0, .ref 66), (1, .int (nI 0)), (2, .int xi), (3, .int (nI 2)), (4, .int xj), (5, .int xk)]) (st' := [.int xj]) (σ' := σ) rfl True.intro ?_
                refine rw_if hX (tgt := 119) (cnd := .lt) (off := 52) (by decide +kernel) (by decide) (fun h67 => ?_) (fun h67 => ?_)
                · replace h67 : (xj < 0) := h67
                  have hcp : pz (cpOK xi xj xk (n 0) (n 2)) = false := pz_f fun ⟨a9, b9, k9, e1, e2, e3, g1, g2⟩ => by
                    rw [e2] at h67; exact absurd h67 (nI_pos (by have := hnu.2; omega))
                  refine rw_go hX [(119, .bipush (-12))] (by decide +kernel) (Ps := []) (pc' := 121) (lv' := [(0, .ref 66), (1, .int (nI 0)), (2, .int xi), (3, .int (nI 2)), (4, .int xj), (5, .int xk)]) (st' := [.int (-(nI 12))]) (σ' := σ) rfl True.intro ?_
                  exact rw_iret hX (by decide +kernel) (⟨by simp only [aCopy, eq_true hk4, eq_true hu4, hcs, hct, eq_true h4, eq_true h11, eq_false h23, eq_false hso1, eq_true h32, eq_false hso2, eq_true h50, eq_false h58, eq_false h62, eq_true h67, hcp, if_true, if_false, Bool.false_eq_true, and_self, and_true, true_and, and_false, false_and, oel_n, oel_s, decide_true, decide_false], by simp only [sCopyM, eq_true hk4, eq_true hu4, hcs, hct, eq_true h4, eq_true h11, eq_false h23, eq_false hso1, eq_true h32, eq_false hso2, eq_true h50, eq_false h58, eq_false h62, eq_true h67, hcp, if_true, if_false, Bool.false_eq_true, and_self, and_true, true_and, and_false, false_and, oel_n, oel_s, decide_true, decide_false]⟩)
                · replace h67 : ¬ (xj < 0) := h67
                  refine rw_go hX [(70, .iload 5), (72, .aload_n 0), (73, .getfield 94), (76, .iload_n 1), (77, .iaload)] (by decide +kernel) (Ps := [vp_in (nI 0) 4]) (pc' := 78) (lv' := [(0, .ref 66), (1, .int (nI 0)), (2, .int xi), (3, .int (nI 2)), (4, .int xj), (5, .int xk)]) (st' := [.int (σ 98 (nI 0).toNatClampNeg), .int xk]) (σ' := σ) rfl (vp_in_nI (by omega) (by omega)) ?_
                  rw [show (σ 98 (nI 0).toNatClampNeg) = nI (n 0) from (by rw [nI_clamp (by omega), hns.1])]
                  refine rw_icmp hX (tgt := 119) (cnd := .gt) (off := 41) (by decide +kernel) (by decide) (fun h78 => ?_) (fun h78 => ?_)
                  · replace h78 : (xk > nI (n 0)) := h78
                    have hcp : pz (cpOK xi xj xk (n 0) (n 2)) = false := pz_f fun ⟨a9, b9, k9, e1, e2, e3, g1, g2⟩ => by
                      rw [e3] at h78; exact absurd h78 (Int32.not_lt.mpr (nI_le (show k9 ≤ n 0 by omega) (by have := hns.2; omega)))
                    refine rw_go hX [(119, .bipush (-12))] (by decide +kernel) (Ps := []) (pc' := 121) (lv' := [(0, .ref 66), (1, .int (nI 0)), (2, .int xi), (3, .int (nI 2)), (4, .int xj), (5, .int xk)]) (st' := [.int (-(nI 12))]) (σ' := σ) rfl True.intro ?_
                    exact rw_iret hX (by decide +kernel) (⟨by simp only [aCopy, eq_true hk4, eq_true hu4, hcs, hct, eq_true h4, eq_true h11, eq_false h23, eq_false hso1, eq_true h32, eq_false hso2, eq_true h50, eq_false h58, eq_false h62, eq_false h67, eq_true h78, hcp, if_true, if_false, Bool.false_eq_true, and_self, and_true, true_and, and_false, false_and, oel_n, oel_s, decide_true, decide_false], by simp only [sCopyM, eq_true hk4, eq_true hu4, hcs, hct, eq_true h4, eq_true h11, eq_false h23, eq_false hso1, eq_true h32, eq_false hso2, eq_true h50, eq_false h58, eq_false h62, eq_false h67, eq_true h78, hcp, if_true, if_false, Bool.false_eq_true, and_self, and_true, true_and, and_false, false_and, oel_n, oel_s, decide_true, decide_false]⟩)
                  · replace h78 : ¬ (xk > nI (n 0)) := h78
                    have hn40 := hns.2
                    have hn41 := hnu.2
                    obtain ⟨c, hc, rfl⟩ := rng (m := n 0) (by omega) ⟨Int32.not_lt.mp h58, Int32.not_lt.mp h78⟩
                    have hcc : (nI c).toNatClampNeg = c := nI_clamp (by omega)
                    refine rw_go hX [(81, .iload 5), (83, .aload_n 0), (84, .getfield 94), (87, .iload_n 3), (88, .iaload)] (by decide +kernel) (Ps := [vp_in (nI 2) 4]) (pc' := 89) (lv' := [(0, .ref 66), (1, .int (nI 0)), (2, .int xi), (3, .int (nI 2)), (4, .int xj), (5, .int (nI c))]) (st' := [.int (σ 98 (nI 2).toNatClampNeg), .int (nI c)]) (σ' := σ) rfl (vp_in_nI (by omega) (by omega)) ?_
                    rw [show (σ 98 (nI 2).toNatClampNeg) = nI (n 2) from (by rw [nI_clamp (by omega), hnu.1])]
                    refine rw_icmp hX (tgt := 119) (cnd := .gt) (off := 30) (by decide +kernel) (by decide) (fun h89 => ?_) (fun h89 => ?_)
                    · replace h89 := c2_gtT h89
                      have hcp : pz (cpOK xi xj (nI c) (n 0) (n 2)) = false := pz_f fun ⟨a9, b9, k9, e1, e2, e3, g1, g2⟩ => by
                        have e9 := (nI_eq (by omega) (by omega)).mp e3
                        omega
                      refine rw_go hX [(119, .bipush (-12))] (by decide +kernel) (Ps := []) (pc' := 121) (lv' := [(0, .ref 66), (1, .int (nI 0)), (2, .int xi), (3, .int (nI 2)), (4, .int xj), (5, .int (nI c))]) (st' := [.int (-(nI 12))]) (σ' := σ) rfl True.intro ?_
                      exact rw_iret hX (by decide +kernel) (⟨by simp only [aCopy, eq_true hk4, eq_true hu4, hcs, hct, eq_true h4, eq_true h11, eq_false h23, eq_false hso1, eq_true h32, eq_false hso2, eq_true h50, eq_false h58, eq_false h62, eq_false h67, eq_false h78, hcc, eq_true h89, hcp, if_true, if_false, Bool.false_eq_true, and_self, and_true, true_and, and_false, false_and, oel_n, oel_s, decide_true, decide_false], by simp only [sCopyM, eq_true hk4, eq_true hu4, hcs, hct, eq_true h4, eq_true h11, eq_false h23, eq_false hso1, eq_true h32, eq_false hso2, eq_true h50, eq_false h58, eq_false h62, eq_false h67, eq_false h78, hcc, eq_true h89, hcp, if_true, if_false, Bool.false_eq_true, and_self, and_true, true_and, and_false, false_and, oel_n, oel_s, decide_true, decide_false]⟩)
                    · replace h89 := c2_gtF h89
                      have hcu : c ≤ n 2 := by omega
                      refine rw_go hX [(92, .iload_n 2), (93, .aload_n 0), (94, .getfield 94), (97, .iload_n 1), (98, .iaload)] (by decide +kernel) (Ps := [vp_in (nI 0) 4]) (pc' := 99) (lv' := [(0, .ref 66), (1, .int (nI 0)), (2, .int xi), (3, .int (nI 2)), (4, .int xj), (5, .int (nI c))]) (st' := [.int (σ 98 (nI 0).toNatClampNeg), .int xi]) (σ' := σ) rfl (vp_in_nI (by omega) (by omega)) ?_
                      rw [show (σ 98 (nI 0).toNatClampNeg) = nI (n 0) from (by rw [nI_clamp (by omega), hns.1])]
                      refine rw_go hX [(99, .iload 5), (101, .isub)] (by decide +kernel) (Ps := []) (pc' := 102) (lv' := [(0, .ref 66), (1, .int (nI 0)), (2, .int xi), (3, .int (nI 2)), (4, .int xj), (5, .int (nI c))]) (st' := [.int (nI (n 0) - nI c), .int xi]) (σ' := σ) rfl True.intro ?_
                      rw [show (nI (n 0) - nI c) = nI (n 0 - c) from pk_sub (by omega)]
                      refine rw_icmp hX (tgt := 119) (cnd := .gt) (off := 17) (by decide +kernel) (by decide) (fun h102 => ?_) (fun h102 => ?_)
                      · replace h102 : (xi > nI (n 0 - c)) := h102
                        have hcp : pz (cpOK xi xj (nI c) (n 0) (n 2)) = false := pz_f fun ⟨a9, b9, k9, e1, e2, e3, g1, g2⟩ => by
                          have e9 := (nI_eq (by omega) (by omega)).mp e3
                          rw [e1] at h102
                          exact absurd h102 (Int32.not_lt.mpr (nI_le (by omega) (by omega)))
                        refine rw_go hX [(119, .bipush (-12))] (by decide +kernel) (Ps := []) (pc' := 121) (lv' := [(0, .ref 66), (1, .int (nI 0)), (2, .int xi), (3, .int (nI 2)), (4, .int xj), (5, .int (nI c))]) (st' := [.int (-(nI 12))]) (σ' := σ) rfl True.intro ?_
                        exact rw_iret hX (by decide +kernel) (⟨by simp only [aCopy, eq_true hk4, eq_true hu4, hcs, hct, eq_true h4, eq_true h11, eq_false h23, eq_false hso1, eq_true h32, eq_false hso2, eq_true h50, eq_false h58, eq_false h62, eq_false h67, eq_false h78, hcc, eq_true h89, eq_true h102, hcp, if_true, if_false, Bool.false_eq_true, and_self, and_true, true_and, and_false, false_and, oel_n, oel_s, decide_true, decide_false], by simp only [sCopyM, eq_true hk4, eq_true hu4, hcs, hct, eq_true h4, eq_true h11, eq_false h23, eq_false hso1, eq_true h32, eq_false hso2, eq_true h50, eq_false h58, eq_false h62, eq_false h67, eq_false h78, hcc, eq_true h89, eq_true h102, hcp, if_true, if_false, Bool.false_eq_true, and_self, and_true, true_and, and_false, false_and, oel_n, oel_s, decide_true, decide_false]⟩)
                      · replace h102 : ¬ (xi > nI (n 0 - c)) := h102
                        obtain ⟨a, ha, rfl⟩ := rng (m := n 0 - c) (by omega) ⟨Int32.not_lt.mp h62, Int32.not_lt.mp h102⟩
                        have hca : (nI a).toNatClampNeg = a := nI_clamp (by omega)
                        refine rw_go hX [(105, .iload 4), (107, .aload_n 0), (108, .getfield 94), (111, .iload_n 3), (112, .iaload)] (by decide +kernel) (Ps := [vp_in (nI 2) 4]) (pc' := 113) (lv' := [(0, .ref 66), (1, .int (nI 0)), (2, .int (nI a)), (3, .int (nI 2)), (4, .int xj), (5, .int (nI c))]) (st' := [.int (σ 98 (nI 2).toNatClampNeg), .int xj]) (σ' := σ) rfl (vp_in_nI (by omega) (by omega)) ?_
                        rw [show (σ 98 (nI 2).toNatClampNeg) = nI (n 2) from (by rw [nI_clamp (by omega), hnu.1])]
                        refine rw_go hX [(113, .iload 5), (115, .isub)] (by decide +kernel) (Ps := []) (pc' := 116) (lv' := [(0, .ref 66), (1, .int (nI 0)), (2, .int (nI a)), (3, .int (nI 2)), (4, .int xj), (5, .int (nI c))]) (st' := [.int (nI (n 2) - nI c), .int xj]) (σ' := σ) rfl True.intro ?_
                        rw [show (nI (n 2) - nI c) = nI (n 2 - c) from pk_sub (by omega)]
                        refine rw_icmp hX (tgt := 122) (cnd := .le) (off := 6) (by decide +kernel) (by decide) (fun h116 => ?_) (fun h116 => ?_)
                        · replace h116 : (xj ≤ nI (n 2 - c)) := h116
                          obtain ⟨b, hb, rfl⟩ := rng (m := n 2 - c) (by omega) ⟨Int32.not_lt.mp h67, h116⟩
                          have hcb : (nI b).toNatClampNeg = b := nI_clamp (by omega)
                          have hcp : pz (cpOK (nI a) (nI b) (nI c) (n 0) (n 2)) = true := pz_t ⟨a, b, c, rfl, rfl, rfl, by omega, by omega⟩
                          refine rw_go hX [(122, .iconst 0), (123, .istore 6)] (by decide +kernel) (Ps := []) (pc' := 125) (lv' := [(0, .ref 66), (1, .int (nI 0)), (2, .int (nI a)), (3, .int (nI 2)), (4, .int (nI b)), (5, .int (nI c)), (6, .int (nI 0))]) (st' := []) (σ' := σ) rfl True.intro ?_
                          have L125 : ∀ (μ125 : Nat) (i : Nat), μ125 = c - i → (i ≤ c) → RW E G 3 7 (QI E G (fun r σ' => r = aCopy n (σ 97) (nI 0) (nI a) (nI 2) (nI b) (nI c) ∧ σ' = sCopyM n σ (nI 0) (nI a) (nI 2) (nI b) (nI c))) 125 [(0, .ref 66), (1, .int (nI 0)), (2, .int (nI a)), (3, .int (nI 2)), (4, .int (nI b)), (5, .int (nI c)), (6, .int (nI i))] [] (sr σ 100 (va_cpy (σ 93) (σ 100) a 0 i)) := by
                            intro μ125
                            induction μ125 using Nat.strongRecOn with
                            | ind μ125 ih125 =>
                              intro i hμ125 hi
                              refine rw_go hX [(125, .iload 6), (127, .iload 5)] (by decide +kernel) (Ps := []) (pc' := 129) (lv' := [(0, .ref 66), (1, .int (nI 0)), (2, .int (nI a)), (3, .int (nI 2)), (4, .int (nI b)), (5, .int (nI c)), (6, .int (nI i))]) (st' := [.int (nI c), .int (nI i)]) (σ' := sr σ 100 (va_cpy (σ 93) (σ 100) a 0 i)) rfl True.intro ?_
                              refine rw_icmp hX (tgt := 156) (cnd := .ge) (off := 27) (by decide +kernel) (by decide) (fun h129 => ?_) (fun h129 => ?_)
                              · replace h129 := c2_geT h129
                                have ei : i = c := by omega
                                rw [ei]
                                refine rw_go hX [(156, .iconst 0), (157, .istore 6)] (by decide +kernel) (Ps := []) (pc' := 159) (lv' := [(0, .ref 66), (1, .int (nI 0)), (2, .int (nI a)), (3, .int (nI 2)), (4, .int (nI b)), (5, .int (nI c)), (6, .int (nI 0))]) (st' := []) (σ' := sr σ 100 (va_cpy (σ 93) (σ 100) a 0 c)) rfl True.intro ?_
                                have L159 : ∀ (μ159 : Nat) (i : Nat), μ159 = c - i → (i ≤ c) → RW E G 3 7 (QI E G (fun r σ' => r = aCopy n (σ 97) (nI 0) (nI a) (nI 2) (nI b) (nI c) ∧ σ' = sCopyM n σ (nI 0) (nI a) (nI 2) (nI b) (nI c))) 159 [(0, .ref 66), (1, .int (nI 0)), (2, .int (nI a)), (3, .int (nI 2)), (4, .int (nI b)), (5, .int (nI c)), (6, .int (nI i))] [] (sr (sr σ 100 (va_cpy (σ 93) (σ 100) a 0 c)) 95 (va_cpy (va_cpy (σ 93) (σ 100) a 0 c) (σ 95) 0 b i)) := by
                                  intro μ159
                                  induction μ159 using Nat.strongRecOn with
                                  | ind μ159 ih159 =>
                                    intro i hμ159 hi2
                                    refine rw_go hX [(159, .iload 6), (161, .iload 5)] (by decide +kernel) (Ps := []) (pc' := 163) (lv' := [(0, .ref 66), (1, .int (nI 0)), (2, .int (nI a)), (3, .int (nI 2)), (4, .int (nI b)), (5, .int (nI c)), (6, .int (nI i))]) (st' := [.int (nI c), .int (nI i)]) (σ' := sr (sr σ 100 (va_cpy (σ 93) (σ 100) a 0 c)) 95 (va_cpy (va_cpy (σ 93) (σ 100) a 0 c) (σ 95) 0 b i)) rfl True.intro ?_
                                    refine rw_icmp hX (tgt := 191) (cnd := .ge) (off := 28) (by decide +kernel) (by decide) (fun h163 => ?_) (fun h163 => ?_)
                                    · replace h163 := c2_geT h163
                                      have ei2 : i = c := by omega
                                      refine rw_go hX [(191, .iload 5)] (by decide +kernel) (Ps := []) (pc' := 193) (lv' := [(0, .ref 66), (1, .int (nI 0)), (2, .int (nI a)), (3, .int (nI 2)), (4, .int (nI b)), (5, .int (nI c)), (6, .int (nI i))]) (st' := [.int (nI c)]) (σ' := sr (sr σ 100 (va_cpy (σ 93) (σ 100) a 0 c)) 95 (va_cpy (va_cpy (σ 93) (σ 100) a 0 c) (σ 95) 0 b i)) rfl True.intro ?_
                                      exact rw_iret hX (by decide +kernel) (⟨by simp only [aCopy, eq_true hk4, eq_true hu4, hcs, hct, eq_true h4, eq_true h11, eq_false h23, eq_false hso1, eq_true h32, eq_false hso2, eq_true h50, eq_false h58, eq_false h62, eq_false h67, eq_false h78, hcc, eq_true h89, eq_false h102, hca, eq_true h116, hcb, hcp, eq_true h129, eq_true h163, if_true, if_false, Bool.false_eq_true, and_self, and_true, true_and, and_false, false_and, oel_n, oel_s, decide_true, decide_false], by simp only [sCopyM, eq_true hk4, eq_true hu4, hcs, hct, eq_true h4, eq_true h11, eq_false h23, eq_false hso1, eq_true h32, eq_false hso2, eq_true h50, eq_false h58, eq_false h62, eq_false h67, eq_false h78, hcc, eq_true h89, eq_false h102, hca, eq_true h116, hcb, hcp, eq_true h129, eq_true h163, if_true, if_false, Bool.false_eq_true, and_self, and_true, true_and, and_false, false_and, oel_n, oel_s, decide_true, decide_false]; rw [ei2]; rfl⟩)
                                    · replace h163 := c2_geF h163
                                      refine rw_go hX [(166, .aload_n 0), (167, .getfield 88), (170, .iload_n 3), (171, .aaload), (172, .iload 4), (174, .iload 6), (176, .iadd)] (by decide +kernel) (Ps := [vp_in (nI 2) 4]) (pc' := 177) (lv' := [(0, .ref 66), (1, .int (nI 0)), (2, .int (nI a)), (3, .int (nI 2)), (4, .int (nI b)), (5, .int (nI c)), (6, .int (nI i))]) (st' := [.int (nI b + nI i), .ref 95]) (σ' := sr (sr σ 100 (va_cpy (σ 93) (σ 100) a 0 c)) 95 (va_cpy (va_cpy (σ 93) (σ 100) a 0 c) (σ 95) 0 b i)) rfl (vp_in_nI (by omega) (by omega)) ?_
                                      rw [show (nI b + nI i) = nI (b + i) from nI_add _ _]
                                      refine rw_go hX [(177, .aload_n 0), (178, .getfield 100), (181, .iload 6), (183, .iaload)] (by decide +kernel) (Ps := [vp_in (nI i) 40]) (pc' := 184) (lv' := [(0, .ref 66), (1, .int (nI 0)), (2, .int (nI a)), (3, .int (nI 2)), (4, .int (nI b)), (5, .int (nI c)), (6, .int (nI i))]) (st' := [.int ((sr (sr σ 100 (va_cpy (σ 93) (σ 100) a 0 c)) 95 (va_cpy (va_cpy (σ 93) (σ 100) a 0 c) (σ 95) 0 b i)) 100 (nI i).toNatClampNeg), .int (nI (b + i)), .ref 95]) (σ' := sr (sr σ 100 (va_cpy (σ 93) (σ 100) a 0 c)) 95 (va_cpy (va_cpy (σ 93) (σ 100) a 0 c) (σ 95) 0 b i)) rfl (vp_in_nI (by omega) (by omega)) ?_
                                      rw [show ((sr (sr σ 100 (va_cpy (σ 93) (σ 100) a 0 c)) 95 (va_cpy (va_cpy (σ 93) (σ 100) a 0 c) (σ 95) 0 b i)) 100 (nI i).toNatClampNeg) = (va_cpy (σ 93) (σ 100) a 0 c) i from (by rw [nI_clamp (by omega), sr_n _ _ (by decide), sr_s])]
                                      refine rw_go hX [(184, .iastore)] (by decide +kernel) (Ps := [vp_in (nI (b + i)) 40]) (pc' := 185) (lv' := [(0, .ref 66), (1, .int (nI 0)), (2, .int (nI a)), (3, .int (nI 2)), (4, .int (nI b)), (5, .int (nI c)), (6, .int (nI i))]) (st' := []) (σ' := sw (sr (sr σ 100 (va_cpy (σ 93) (σ 100) a 0 c)) 95 (va_cpy (va_cpy (σ 93) (σ 100) a 0 c) (σ 95) 0 b i)) 95 (nI (b + i)).toNatClampNeg ((va_cpy (σ 93) (σ 100) a 0 c) i)) rfl (vp_in_nI (by omega) (by omega)) ?_
                                      rw [show (sw (sr (sr σ 100 (va_cpy (σ 93) (σ 100) a 0 c)) 95 (va_cpy (va_cpy (σ 93) (σ 100) a 0 c) (σ 95) 0 b i)) 95 (nI (b + i)).toNatClampNeg ((va_cpy (σ 93) (σ 100) a 0 c) i)) = sw (sr (sr σ 100 (va_cpy (σ 93) (σ 100) a 0 c)) 95 (va_cpy (va_cpy (σ 93) (σ 100) a 0 c) (σ 95) 0 b i)) 95 (b + i) ((va_cpy (σ 93) (σ 100) a 0 c) i) from (by rw [nI_clamp (by omega)])]
                                      refine rw_go hX [(185, .iinc 6 1)] (by decide +kernel) (Ps := []) (pc' := 188) (lv' := [(0, .ref 66), (1, .int (nI 0)), (2, .int (nI a)), (3, .int (nI 2)), (4, .int (nI b)), (5, .int (nI c)), (6, .int (nI i + nI 1))]) (st' := []) (σ' := sw (sr (sr σ 100 (va_cpy (σ 93) (σ 100) a 0 c)) 95 (va_cpy (va_cpy (σ 93) (σ 100) a 0 c) (σ 95) 0 b i)) 95 (b + i) ((va_cpy (σ 93) (σ 100) a 0 c) i)) rfl True.intro ?_
                                      rw [show (nI i + nI 1) = nI (i + 1) from nI_add _ _]
                                      refine rw_go hX [(188, .goto (-29))] (by decide +kernel) (Ps := []) (pc' := 159) (lv' := [(0, .ref 66), (1, .int (nI 0)), (2, .int (nI a)), (3, .int (nI 2)), (4, .int (nI b)), (5, .int (nI c)), (6, .int (nI (i + 1)))]) (st' := []) (σ' := sw (sr (sr σ 100 (va_cpy (σ 93) (σ 100) a 0 c)) 95 (va_cpy (va_cpy (σ 93) (σ 100) a 0 c) (σ 95) 0 b i)) 95 (b + i) ((va_cpy (σ 93) (σ 100) a 0 c) i)) rfl True.intro ?_
                                      refine rw_lsub (ks := [0, 1, 2, 3, 4, 5, 6]) (lv' := [(0, .ref 66), (1, .int (nI 0)), (2, .int (nI a)), (3, .int (nI 2)), (4, .int (nI b)), (5, .int (nI c)), (6, .int (nI (i + 1)))]) rfl ?_
                                      have q := ih159 (c - (i + 1)) (by omega) (i + 1) rfl (by omega)
                                      rw [← cpy_1, Nat.zero_add] at q
                                      rw [sw_sr]
                                      exact q
                                refine rw_lsub (ks := [0, 1, 2, 3, 4, 5, 6]) (lv' := [(0, .ref 66), (1, .int (nI 0)), (2, .int (nI a)), (3, .int (nI 2)), (4, .int (nI b)), (5, .int (nI c)), (6, .int (nI 0))]) rfl ?_
                                have q := L159 c 0 rfl (by omega)
                                rw [cpy_0, show sr (sr σ 100 (va_cpy (σ 93) (σ 100) a 0 c)) 95 (σ 95) = sr σ 100 (va_cpy (σ 93) (σ 100) a 0 c) from by
                                  funext q
                                  by_cases z : q = 95
                                  · subst z; rw [sr_s, sr_n _ _ (by decide)]
                                  · rw [sr_n _ _ z]] at q
                                exact q
                              · replace h129 := c2_geF h129
                                refine rw_go hX [(132, .aload_n 0), (133, .getfield 100), (136, .iload 6), (138, .aload_n 0), (139, .getfield 88), (142, .iload_n 1), (143, .aaload), (144, .iload_n 2), (145, .iload 6), (147, .iadd)] (by decide +kernel) (Ps := [vp_in (nI 0) 4]) (pc' := 148) (lv' := [(0, .ref 66), (1, .int (nI 0)), (2, .int (nI a)), (3, .int (nI 2)), (4, .int (nI b)), (5, .int (nI c)), (6, .int (nI i))]) (st' := [.int (nI a + nI i), .ref 93, .int (nI i), .ref 100]) (σ' := sr σ 100 (va_cpy (σ 93) (σ 100) a 0 i)) rfl (vp_in_nI (by omega) (by omega)) ?_
                                rw [show (nI a + nI i) = nI (a + i) from nI_add _ _]
                                refine rw_go hX [(148, .iaload)] (by decide +kernel) (Ps := [vp_in (nI (a + i)) 40]) (pc' := 149) (lv' := [(0, .ref 66), (1, .int (nI 0)), (2, .int (nI a)), (3, .int (nI 2)), (4, .int (nI b)), (5, .int (nI c)), (6, .int (nI i))]) (st' := [.int ((sr σ 100 (va_cpy (σ 93) (σ 100) a 0 i)) 93 (nI (a + i)).toNatClampNeg), .int (nI i), .ref 100]) (σ' := sr σ 100 (va_cpy (σ 93) (σ 100) a 0 i)) rfl (vp_in_nI (by omega) (by omega)) ?_
                                rw [show ((sr σ 100 (va_cpy (σ 93) (σ 100) a 0 i)) 93 (nI (a + i)).toNatClampNeg) = σ 93 (a + i) from (by rw [nI_clamp (by omega), sr_n _ _ (by decide)])]
                                refine rw_go hX [(149, .iastore)] (by decide +kernel) (Ps := [vp_in (nI i) 40]) (pc' := 150) (lv' := [(0, .ref 66), (1, .int (nI 0)), (2, .int (nI a)), (3, .int (nI 2)), (4, .int (nI b)), (5, .int (nI c)), (6, .int (nI i))]) (st' := []) (σ' := sw (sr σ 100 (va_cpy (σ 93) (σ 100) a 0 i)) 100 (nI i).toNatClampNeg (σ 93 (a + i))) rfl (vp_in_nI (by omega) (by omega)) ?_
                                rw [show (sw (sr σ 100 (va_cpy (σ 93) (σ 100) a 0 i)) 100 (nI i).toNatClampNeg (σ 93 (a + i))) = sw (sr σ 100 (va_cpy (σ 93) (σ 100) a 0 i)) 100 i (σ 93 (a + i)) from (by rw [nI_clamp (by omega)])]
                                refine rw_go hX [(150, .iinc 6 1)] (by decide +kernel) (Ps := []) (pc' := 153) (lv' := [(0, .ref 66), (1, .int (nI 0)), (2, .int (nI a)), (3, .int (nI 2)), (4, .int (nI b)), (5, .int (nI c)), (6, .int (nI i + nI 1))]) (st' := []) (σ' := sw (sr σ 100 (va_cpy (σ 93) (σ 100) a 0 i)) 100 i (σ 93 (a + i))) rfl True.intro ?_
                                rw [show (nI i + nI 1) = nI (i + 1) from nI_add _ _]
                                refine rw_go hX [(153, .goto (-28))] (by decide +kernel) (Ps := []) (pc' := 125) (lv' := [(0, .ref 66), (1, .int (nI 0)), (2, .int (nI a)), (3, .int (nI 2)), (4, .int (nI b)), (5, .int (nI c)), (6, .int (nI (i + 1)))]) (st' := []) (σ' := sw (sr σ 100 (va_cpy (σ 93) (σ 100) a 0 i)) 100 i (σ 93 (a + i))) rfl True.intro ?_
                                refine rw_lsub (ks := [0, 1, 2, 3, 4, 5, 6]) (lv' := [(0, .ref 66), (1, .int (nI 0)), (2, .int (nI a)), (3, .int (nI 2)), (4, .int (nI b)), (5, .int (nI c)), (6, .int (nI (i + 1)))]) rfl ?_
                                have q := ih125 (c - (i + 1)) (by omega) (i + 1) rfl (by omega)
                                rw [← cpy_1, Nat.zero_add] at q
                                rw [sw_sr]
                                exact q
                          refine rw_lsub (ks := [0, 1, 2, 3, 4, 5, 6]) (lv' := [(0, .ref 66), (1, .int (nI 0)), (2, .int (nI a)), (3, .int (nI 2)), (4, .int (nI b)), (5, .int (nI c)), (6, .int (nI 0))]) rfl ?_
                          have q := L125 c 0 rfl (by omega)
                          rw [cpy_0, sr_id] at q
                          exact q
                        · replace h116 : ¬ (xj ≤ nI (n 2 - c)) := h116
                          have hcp : pz (cpOK (nI a) xj (nI c) (n 0) (n 2)) = false := pz_f fun ⟨a9, b9, k9, e1, e2, e3, g1, g2⟩ => by
                            have e9 := (nI_eq (by omega) (by omega)).mp e3
                            rw [e2] at h116
                            exact absurd (nI_le (by omega) (by omega)) h116
                          refine rw_go hX [(119, .bipush (-12))] (by decide +kernel) (Ps := []) (pc' := 121) (lv' := [(0, .ref 66), (1, .int (nI 0)), (2, .int (nI a)), (3, .int (nI 2)), (4, .int xj), (5, .int (nI c))]) (st' := [.int (-(nI 12))]) (σ' := σ) rfl True.intro ?_
                          exact rw_iret hX (by decide +kernel) (⟨by simp only [aCopy, eq_true hk4, eq_true hu4, hcs, hct, eq_true h4, eq_true h11, eq_false h23, eq_false hso1, eq_true h32, eq_false hso2, eq_true h50, eq_false h58, eq_false h62, eq_false h67, eq_false h78, hcc, eq_true h89, eq_false h102, hca, eq_false h116, hcp, if_true, if_false, Bool.false_eq_true, and_self, and_true, true_and, and_false, false_and, oel_n, oel_s, decide_true, decide_false], by simp only [sCopyM, eq_true hk4, eq_true hu4, hcs, hct, eq_true h4, eq_true h11, eq_false h23, eq_false hso1, eq_true h32, eq_false hso2, eq_true h50, eq_false h58, eq_false h62, eq_false h67, eq_false h78, hcc, eq_true h89, eq_false h102, hca, eq_false h116, hcp, if_true, if_false, Bool.false_eq_true, and_self, and_true, true_and, and_false, false_and, oel_n, oel_s, decide_true, decide_false]⟩)
          · replace h50 : ¬ (σ 97 0 = σ 97 2) := h50
            refine rw_go hX [(53, .bipush (-13))] (by decide +kernel) (Ps := []) (pc' := 55) (lv' := [(0, .ref 66), (1, .int (nI 0)), (2, .int xi), (3, .int (nI 2)), (4, .int xj), (5, .int xk)]) (st' := [.int (-(nI 13))]) (σ' := σ) rfl True.intro ?_
            exact rw_iret hX (by decide +kernel) (⟨by simp only [aCopy, eq_true hk4, eq_true hu4, hcs, hct, eq_true h4, eq_true h11, eq_false h23, eq_false hso1, eq_true h32, eq_false hso2, eq_false h50, if_true, if_false, Bool.false_eq_true, and_self, and_true, true_and, and_false, false_and, oel_n, oel_s, decide_true, decide_false], by simp only [sCopyM, eq_true hk4, eq_true hu4, hcs, hct, eq_true h4, eq_true h11, eq_false h23, eq_false hso1, eq_true h32, eq_false hso2, eq_false h50, if_true, if_false, Bool.false_eq_true, and_self, and_true, true_and, and_false, false_and, oel_n, oel_s, decide_true, decide_false]⟩)
        · replace h32 : ¬ (σ 97 2 ≥ 0) := h32
          have hso2 : σ 97 2 = -(nI 1) := (so_m hou).mp (Int32.not_le.mp h32)
          refine rw_go hX [(35, .bipush (-11))] (by decide +kernel) (Ps := []) (pc' := 37) (lv' := [(0, .ref 66), (1, .int (nI 0)), (2, .int xi), (3, .int (nI 2)), (4, .int xj), (5, .int xk)]) (st' := [.int (-(nI 11))]) (σ' := σ) rfl True.intro ?_
          exact rw_iret hX (by decide +kernel) (⟨by simp only [aCopy, eq_true hk4, eq_true hu4, hcs, hct, eq_true h4, eq_true h11, eq_false h23, eq_false hso1, eq_false h32, eq_true hso2, if_true, if_false, Bool.false_eq_true, and_self, and_true, true_and, and_false, false_and, oel_n, oel_s, decide_true, decide_false], by simp only [sCopyM, eq_true hk4, eq_true hu4, hcs, hct, eq_true h4, eq_true h11, eq_false h23, eq_false hso1, eq_false h32, eq_true hso2, if_true, if_false, Bool.false_eq_true, and_self, and_true, true_and, and_false, false_and, oel_n, oel_s, decide_true, decide_false]⟩)
    · exact absurd (by simp only [cz, cc2]; decide +kernel) h11
set_option maxRecDepth 20000 in
set_option maxHeartbeats 800000 in
theorem g_copy_0_3 (l : Launch) (G : Gl) (σ : Mm) (n : Nat → Nat) (xi xj xk : Int32) (hsh : ∀ s, s < 4 → σ 98 s = nI (n s) ∧ n s ≤ 40) (hso : ∀ s, s < 4 → σ 97 s = -(nI 1) ∨ σ 97 s = nI 0 ∨ σ 97 s = nI 1) : AMi l G 3 mX10_copy [.ref 66, .int (nI 0), .int xi, .int (nI 3), .int xj, .int xk] σ (fun r σ' => r = aCopy n (σ 97) (nI 0) xi (nI 3) xj xk ∧ σ' = sCopyM n σ (nI 0) xi (nI 3) xj xk) := by
  refine rw_inI 10 (by decide +kernel) rfl rfl ?_
  intro E hE hX
  subst hE
  have hk4 := film_r 0 (by omega)
  have hu4 := film_r 3 (by omega)
  have hcs : (nI 0).toNatClampNeg = 0 := nI_clamp (by omega)
  have hct : (nI 3).toNatClampNeg = 3 := nI_clamp (by omega)
  have hns := hsh 0 (by omega)
  have hos := hso 0 (by omega)
  have hnu := hsh 3 (by omega)
  have hou := hso 3 (by omega)
  refine rw_go hX [(0, .iload_n 1)] (by decide +kernel) (Ps := []) (pc' := 1) (lv' := [(0, .ref 66), (1, .int (nI 0)), (2, .int xi), (3, .int (nI 3)), (4, .int xj), (5, .int xk)]) (st' := [.int (nI 0)]) (σ' := σ) rfl True.intro ?_
  refine rw_callSi hX (as := [.int (nI 0)]) (rest := []) (m_isSheet _ _ _ (nI 0)) (by decide +kernel) msX10_isSheet (Or.inl lk10_298) rfl (by decide) (Nat.le_of_ble_eq_true rfl) rfl ?_
  intro r1 σ1 hr
  rw [hr.1, show r1 = nI 1 from hr.2.trans (by decide +kernel)]
  clear hr σ1 r1
  refine rw_if hX (tgt := 14) (cnd := .eq) (off := 10) (by decide +kernel) (by decide) (fun h4 => ?_) (fun h4 => ?_)
  · exact absurd h4 (by simp only [cz, cc2]; decide +kernel)
  · skip
    refine rw_go hX [(7, .iload_n 3)] (by decide +kernel) (Ps := []) (pc' := 8) (lv' := [(0, .ref 66), (1, .int (nI 0)), (2, .int xi), (3, .int (nI 3)), (4, .int xj), (5, .int xk)]) (st' := [.int (nI 3)]) (σ' := σ) rfl True.intro ?_
    refine rw_callSi hX (as := [.int (nI 3)]) (rest := []) (m_isSheet _ _ _ (nI 3)) (by decide +kernel) msX10_isSheet (Or.inl lk10_298) rfl (by decide) (Nat.le_of_ble_eq_true rfl) rfl ?_
    intro r1 σ1 hr
    rw [hr.1, show r1 = nI 1 from hr.2.trans (by decide +kernel)]
    clear hr σ1 r1
    refine rw_if hX (tgt := 17) (cnd := .ne) (off := 6) (by decide +kernel) (by decide) (fun h11 => ?_) (fun h11 => ?_)
    · skip
      refine rw_go hX [(17, .aload_n 0), (18, .getfield 91), (21, .iload_n 1), (22, .iaload)] (by decide +kernel) (Ps := [vp_in (nI 0) 4]) (pc' := 23) (lv' := [(0, .ref 66), (1, .int (nI 0)), (2, .int xi), (3, .int (nI 3)), (4, .int xj), (5, .int xk)]) (st' := [.int (σ 97 (nI 0).toNatClampNeg)]) (σ' := σ) rfl (vp_in_nI (by omega) (by omega)) ?_
      rw [show (σ 97 (nI 0).toNatClampNeg) = σ 97 0 from (by rw [nI_clamp (by omega)])]
      refine rw_if hX (tgt := 35) (cnd := .lt) (off := 12) (by decide +kernel) (by decide) (fun h23 => ?_) (fun h23 => ?_)
      · replace h23 : (σ 97 0 < 0) := h23
        have hso1 : σ 97 0 = -(nI 1) := (so_m hos).mp h23
        refine rw_go hX [(35, .bipush (-11))] (by decide +kernel) (Ps := []) (pc' := 37) (lv' := [(0, .ref 66), (1, .int (nI 0)), (2, .int xi), (3, .int (nI 3)), (4, .int xj), (5, .int xk)]) (st' := [.int (-(nI 11))]) (σ' := σ) rfl True.intro ?_
        exact rw_iret hX (by decide +kernel) (⟨by simp only [aCopy, eq_true hk4, eq_true hu4, hcs, hct, eq_true h4, eq_true h11, eq_true h23, eq_true hso1, if_true, if_false, Bool.false_eq_true, and_self, and_true, true_and, and_false, false_and, oel_n, oel_s, decide_true, decide_false], by simp only [sCopyM, eq_true hk4, eq_true hu4, hcs, hct, eq_true h4, eq_true h11, eq_true h23, eq_true hso1, if_true, if_false, Bool.false_eq_true, and_self, and_true, true_and, and_false, false_and, oel_n, oel_s, decide_true, decide_false]⟩)
      · replace h23 : ¬ (σ 97 0 < 0) := h23
        have hso1 : ¬ σ 97 0 = -(nI 1) := fun z => h23 ((so_m hos).mpr z)
        refine rw_go hX [(26, .aload_n 0), (27, .getfield 91), (30, .iload_n 3), (31, .iaload)] (by decide +kernel) (Ps := [vp_in (nI 3) 4]) (pc' := 32) (lv' := [(0, .ref 66), (1, .int (nI 0)), (2, .int xi), (3, .int (nI 3)), (4, .int xj), (5, .int xk)]) (st' := [.int (σ 97 (nI 3).toNatClampNeg)]) (σ' := σ) rfl (vp_in_nI (by omega) (by omega)) ?_
        rw [show (σ 97 (nI 3).toNatClampNeg) = σ 97 3 from (by rw [nI_clamp (by omega)])]
        refine rw_if hX (tgt := 38) (cnd := .ge) (off := 6) (by decide +kernel) (by decide) (fun h32 => ?_) (fun h32 => ?_)
        · replace h32 : (σ 97 3 ≥ 0) := h32
          have hso2 : ¬ σ 97 3 = -(nI 1) := fun z => absurd ((so_m hou).mpr z) (Int32.not_lt.mpr h32)
          refine rw_go hX [(38, .aload_n 0), (39, .getfield 91), (42, .iload_n 1), (43, .iaload)] (by decide +kernel) (Ps := [vp_in (nI 0) 4]) (pc' := 44) (lv' := [(0, .ref 66), (1, .int (nI 0)), (2, .int xi), (3, .int (nI 3)), (4, .int xj), (5, .int xk)]) (st' := [.int (σ 97 (nI 0).toNatClampNeg)]) (σ' := σ) rfl (vp_in_nI (by omega) (by omega)) ?_
          rw [show (σ 97 (nI 0).toNatClampNeg) = σ 97 0 from (by rw [nI_clamp (by omega)])]
          refine rw_go hX [(44, .aload_n 0), (45, .getfield 91), (48, .iload_n 3), (49, .iaload)] (by decide +kernel) (Ps := [vp_in (nI 3) 4]) (pc' := 50) (lv' := [(0, .ref 66), (1, .int (nI 0)), (2, .int xi), (3, .int (nI 3)), (4, .int xj), (5, .int xk)]) (st' := [.int (σ 97 (nI 3).toNatClampNeg), .int (σ 97 0)]) (σ' := σ) rfl (vp_in_nI (by omega) (by omega)) ?_
          rw [show (σ 97 (nI 3).toNatClampNeg) = σ 97 3 from (by rw [nI_clamp (by omega)])]
          refine rw_icmp hX (tgt := 56) (cnd := .eq) (off := 6) (by decide +kernel) (by decide) (fun h50 => ?_) (fun h50 => ?_)
          · replace h50 : (σ 97 0 = σ 97 3) := h50
            refine rw_go hX [(56, .iload 5)] (by decide +kernel) (Ps := []) (pc' := 58) (lv' := [(0, .ref 66), (1, .int (nI 0)), (2, .int xi), (3, .int (nI 3)), (4, .int xj), (5, .int xk)]) (st' := [.int xk]) (σ' := σ) rfl True.intro ?_
            refine rw_if hX (tgt := 119) (cnd := .lt) (off := 61) (by decide +kernel) (by decide) (fun h58 => ?_) (fun h58 => ?_)
            · replace h58 : (xk < 0) := h58
              have hcp : pz (cpOK xi xj xk (n 0) (n 3)) = false := pz_f fun ⟨a9, b9, k9, e1, e2, e3, g1, g2⟩ => by
                rw [e3] at h58; exact absurd h58 (nI_pos (by have := hns.2; omega))
              refine rw_go hX [(119, .bipush (-12))] (by decide +kernel) (Ps := []) (pc' := 121) (lv' := [(0, .ref 66), (1, .int (nI 0)), (2, .int xi), (3, .int (nI 3)), (4, .int xj), (5, .int xk)]) (st' := [.int (-(nI 12))]) (σ' := σ) rfl True.intro ?_
              exact rw_iret hX (by decide +kernel) (⟨by simp only [aCopy, eq_true hk4, eq_true hu4, hcs, hct, eq_true h4, eq_true h11, eq_false h23, eq_false hso1, eq_true h32, eq_false hso2, eq_true h50, eq_true h58, hcp, if_true, if_false, Bool.false_eq_true, and_self, and_true, true_and, and_false, false_and, oel_n, oel_s, decide_true, decide_false], by simp only [sCopyM, eq_true hk4, eq_true hu4, hcs, hct, eq_true h4, eq_true h11, eq_false h23, eq_false hso1, eq_true h32, eq_false hso2, eq_true h50, eq_true h58, hcp, if_true, if_false, Bool.false_eq_true, and_self, and_true, true_and, and_false, false_and, oel_n, oel_s, decide_true, decide_false]⟩)
            · replace h58 : ¬ (xk < 0) := h58
              refine rw_go hX [(61, .iload_n 2)] (by decide +kernel) (Ps := []) (pc' := 62) (lv' := [(0, .ref 66), (1, .int (nI 0)), (2, .int xi), (3, .int (nI 3)), (4, .int xj), (5, .int xk)]) (st' := [.int xi]) (σ' := σ) rfl True.intro ?_
              refine rw_if hX (tgt := 119) (cnd := .lt) (off := 57) (by decide +kernel) (by decide) (fun h62 => ?_) (fun h62 => ?_)
              · replace h62 : (xi < 0) := h62
                have hcp : pz (cpOK xi xj xk (n 0) (n 3)) = false := pz_f fun ⟨a9, b9, k9, e1, e2, e3, g1, g2⟩ => by
                  rw [e1] at h62; exact absurd h62 (nI_pos (by have := hns.2; omega))
                refine rw_go hX [(119, .bipush (-12))] (by decide +kernel) (Ps := []) (pc' := 121) (lv' := [(0, .ref 66), (1, .int (nI 0)), (2, .int xi), (3, .int (nI 3)), (4, .int xj), (5, .int xk)]) (st' := [.int (-(nI 12))]) (σ' := σ) rfl True.intro ?_
                exact rw_iret hX (by decide +kernel) (⟨by simp only [aCopy, eq_true hk4, eq_true hu4, hcs, hct, eq_true h4, eq_true h11, eq_false h23, eq_false hso1, eq_true h32, eq_false hso2, eq_true h50, eq_false h58, eq_true h62, hcp, if_true, if_false, Bool.false_eq_true, and_self, and_true, true_and, and_false, false_and, oel_n, oel_s, decide_true, decide_false], by simp only [sCopyM, eq_true hk4, eq_true hu4, hcs, hct, eq_true h4, eq_true h11, eq_false h23, eq_false hso1, eq_true h32, eq_false hso2, eq_true h50, eq_false h58, eq_true h62, hcp, if_true, if_false, Bool.false_eq_true, and_self, and_true, true_and, and_false, false_and, oel_n, oel_s, decide_true, decide_false]⟩)
              · replace h62 : ¬ (xi < 0) := h62
                refine rw_go hX [(65, .iload 4)] (by decide +kernel) (Ps := []) (pc' := 67) (lv' := [(0, .ref 66), (1, .int (nI 0)), (2, .int xi), (3, .int (nI 3)), (4, .int xj), (5, .int xk)]) (st' := [.int xj]) (σ' := σ) rfl True.intro ?_
                refine rw_if hX (tgt := 119) (cnd := .lt) (off := 52) (by decide +kernel) (by decide) (fun h67 => ?_) (fun h67 => ?_)
                · replace h67 : (xj < 0) := h67
                  have hcp : pz (cpOK xi xj xk (n 0) (n 3)) = false := pz_f fun ⟨a9, b9, k9, e1, e2, e3, g1, g2⟩ => by
                    rw [e2] at h67; exact absurd h67 (nI_pos (by have := hnu.2; omega))
                  refine rw_go hX [(119, .bipush (-12))] (by decide +kernel) (Ps := []) (pc' := 121) (lv' := [(0, .ref 66), (1, .int (nI 0)), (2, .int xi), (3, .int (nI 3)), (4, .int xj), (5, .int xk)]) (st' := [.int (-(nI 12))]) (σ' := σ) rfl True.intro ?_
                  exact rw_iret hX (by decide +kernel) (⟨by simp only [aCopy, eq_true hk4, eq_true hu4, hcs, hct, eq_true h4, eq_true h11, eq_false h23, eq_false hso1, eq_true h32, eq_false hso2, eq_true h50, eq_false h58, eq_false h62, eq_true h67, hcp, if_true, if_false, Bool.false_eq_true, and_self, and_true, true_and, and_false, false_and, oel_n, oel_s, decide_true, decide_false], by simp only [sCopyM, eq_true hk4, eq_true hu4, hcs, hct, eq_true h4, eq_true h11, eq_false h23, eq_false hso1, eq_true h32, eq_false hso2, eq_true h50, eq_false h58, eq_false h62, eq_true h67, hcp, if_true, if_false, Bool.false_eq_true, and_self, and_true, true_and, and_false, false_and, oel_n, oel_s, decide_true, decide_false]⟩)
                · replace h67 : ¬ (xj < 0) := h67
                  refine rw_go hX [(70, .iload 5), (72, .aload_n 0), (73, .getfield 94), (76, .iload_n 1), (77, .iaload)] (by decide +kernel) (Ps := [vp_in (nI 0) 4]) (pc' := 78) (lv' := [(0, .ref 66), (1, .int (nI 0)), (2, .int xi), (3, .int (nI 3)), (4, .int xj), (5, .int xk)]) (st' := [.int (σ 98 (nI 0).toNatClampNeg), .int xk]) (σ' := σ) rfl (vp_in_nI (by omega) (by omega)) ?_
                  rw [show (σ 98 (nI 0).toNatClampNeg) = nI (n 0) from (by rw [nI_clamp (by omega), hns.1])]
                  refine rw_icmp hX (tgt := 119) (cnd := .gt) (off := 41) (by decide +kernel) (by decide) (fun h78 => ?_) (fun h78 => ?_)
                  · replace h78 : (xk > nI (n 0)) := h78
                    have hcp : pz (cpOK xi xj xk (n 0) (n 3)) = false := pz_f fun ⟨a9, b9, k9, e1, e2, e3, g1, g2⟩ => by
                      rw [e3] at h78; exact absurd h78 (Int32.not_lt.mpr (nI_le (show k9 ≤ n 0 by omega) (by have := hns.2; omega)))
                    refine rw_go hX [(119, .bipush (-12))] (by decide +kernel) (Ps := []) (pc' := 121) (lv' := [(0, .ref 66), (1, .int (nI 0)), (2, .int xi), (3, .int (nI 3)), (4, .int xj), (5, .int xk)]) (st' := [.int (-(nI 12))]) (σ' := σ) rfl True.intro ?_
                    exact rw_iret hX (by decide +kernel) (⟨by simp only [aCopy, eq_true hk4, eq_true hu4, hcs, hct, eq_true h4, eq_true h11, eq_false h23, eq_false hso1, eq_true h32, eq_false hso2, eq_true h50, eq_false h58, eq_false h62, eq_false h67, eq_true h78, hcp, if_true, if_false, Bool.false_eq_true, and_self, and_true, true_and, and_false, false_and, oel_n, oel_s, decide_true, decide_false], by simp only [sCopyM, eq_true hk4, eq_true hu4, hcs, hct, eq_true h4, eq_true h11, eq_false h23, eq_false hso1, eq_true h32, eq_false hso2, eq_true h50, eq_false h58, eq_false h62, eq_false h67, eq_true h78, hcp, if_true, if_false, Bool.false_eq_true, and_self, and_true, true_and, and_false, false_and, oel_n, oel_s, decide_true, decide_false]⟩)
                  · replace h78 : ¬ (xk > nI (n 0)) := h78
                    have hn40 := hns.2
                    have hn41 := hnu.2
                    obtain ⟨c, hc, rfl⟩ := rng (m := n 0) (by omega) ⟨Int32.not_lt.mp h58, Int32.not_lt.mp h78⟩
                    have hcc : (nI c).toNatClampNeg = c := nI_clamp (by omega)
                    refine rw_go hX [(81, .iload 5), (83, .aload_n 0), (84, .getfield 94), (87, .iload_n 3), (88, .iaload)] (by decide +kernel) (Ps := [vp_in (nI 3) 4]) (pc' := 89) (lv' := [(0, .ref 66), (1, .int (nI 0)), (2, .int xi), (3, .int (nI 3)), (4, .int xj), (5, .int (nI c))]) (st' := [.int (σ 98 (nI 3).toNatClampNeg), .int (nI c)]) (σ' := σ) rfl (vp_in_nI (by omega) (by omega)) ?_
                    rw [show (σ 98 (nI 3).toNatClampNeg) = nI (n 3) from (by rw [nI_clamp (by omega), hnu.1])]
                    refine rw_icmp hX (tgt := 119) (cnd := .gt) (off := 30) (by decide +kernel) (by decide) (fun h89 => ?_) (fun h89 => ?_)
                    · replace h89 := c2_gtT h89
                      have hcp : pz (cpOK xi xj (nI c) (n 0) (n 3)) = false := pz_f fun ⟨a9, b9, k9, e1, e2, e3, g1, g2⟩ => by
                        have e9 := (nI_eq (by omega) (by omega)).mp e3
                        omega
                      refine rw_go hX [(119, .bipush (-12))] (by decide +kernel) (Ps := []) (pc' := 121) (lv' := [(0, .ref 66), (1, .int (nI 0)), (2, .int xi), (3, .int (nI 3)), (4, .int xj), (5, .int (nI c))]) (st' := [.int (-(nI 12))]) (σ' := σ) rfl True.intro ?_
                      exact rw_iret hX (by decide +kernel) (⟨by simp only [aCopy, eq_true hk4, eq_true hu4, hcs, hct, eq_true h4, eq_true h11, eq_false h23, eq_false hso1, eq_true h32, eq_false hso2, eq_true h50, eq_false h58, eq_false h62, eq_false h67, eq_false h78, hcc, eq_true h89, hcp, if_true, if_false, Bool.false_eq_true, and_self, and_true, true_and, and_false, false_and, oel_n, oel_s, decide_true, decide_false], by simp only [sCopyM, eq_true hk4, eq_true hu4, hcs, hct, eq_true h4, eq_true h11, eq_false h23, eq_false hso1, eq_true h32, eq_false hso2, eq_true h50, eq_false h58, eq_false h62, eq_false h67, eq_false h78, hcc, eq_true h89, hcp, if_true, if_false, Bool.false_eq_true, and_self, and_true, true_and, and_false, false_and, oel_n, oel_s, decide_true, decide_false]⟩)
                    · replace h89 := c2_gtF h89
                      have hcu : c ≤ n 3 := by omega
                      refine rw_go hX [(92, .iload_n 2), (93, .aload_n 0), (94, .getfield 94), (97, .iload_n 1), (98, .iaload)] (by decide +kernel) (Ps := [vp_in (nI 0) 4]) (pc' := 99) (lv' := [(0, .ref 66), (1, .int (nI 0)), (2, .int xi), (3, .int (nI 3)), (4, .int xj), (5, .int (nI c))]) (st' := [.int (σ 98 (nI 0).toNatClampNeg), .int xi]) (σ' := σ) rfl (vp_in_nI (by omega) (by omega)) ?_
                      rw [show (σ 98 (nI 0).toNatClampNeg) = nI (n 0) from (by rw [nI_clamp (by omega), hns.1])]
                      refine rw_go hX [(99, .iload 5), (101, .isub)] (by decide +kernel) (Ps := []) (pc' := 102) (lv' := [(0, .ref 66), (1, .int (nI 0)), (2, .int xi), (3, .int (nI 3)), (4, .int xj), (5, .int (nI c))]) (st' := [.int (nI (n 0) - nI c), .int xi]) (σ' := σ) rfl True.intro ?_
                      rw [show (nI (n 0) - nI c) = nI (n 0 - c) from pk_sub (by omega)]
                      refine rw_icmp hX (tgt := 119) (cnd := .gt) (off := 17) (by decide +kernel) (by decide) (fun h102 => ?_) (fun h102 => ?_)
                      · replace h102 : (xi > nI (n 0 - c)) := h102
                        have hcp : pz (cpOK xi xj (nI c) (n 0) (n 3)) = false := pz_f fun ⟨a9, b9, k9, e1, e2, e3, g1, g2⟩ => by
                          have e9 := (nI_eq (by omega) (by omega)).mp e3
                          rw [e1] at h102
                          exact absurd h102 (Int32.not_lt.mpr (nI_le (by omega) (by omega)))
                        refine rw_go hX [(119, .bipush (-12))] (by decide +kernel) (Ps := []) (pc' := 121) (lv' := [(0, .ref 66), (1, .int (nI 0)), (2, .int xi), (3, .int (nI 3)), (4, .int xj), (5, .int (nI c))]) (st' := [.int (-(nI 12))]) (σ' := σ) rfl True.intro ?_
                        exact rw_iret hX (by decide +kernel) (⟨by simp only [aCopy, eq_true hk4, eq_true hu4, hcs, hct, eq_true h4, eq_true h11, eq_false h23, eq_false hso1, eq_true h32, eq_false hso2, eq_true h50, eq_false h58, eq_false h62, eq_false h67, eq_false h78, hcc, eq_true h89, eq_true h102, hcp, if_true, if_false, Bool.false_eq_true, and_self, and_true, true_and, and_false, false_and, oel_n, oel_s, decide_true, decide_false], by simp only [sCopyM, eq_true hk4, eq_true hu4, hcs, hct, eq_true h4, eq_true h11, eq_false h23, eq_false hso1, eq_true h32, eq_false hso2, eq_true h50, eq_false h58, eq_false h62, eq_false h67, eq_false h78, hcc, eq_true h89, eq_true h102, hcp, if_true, if_false, Bool.false_eq_true, and_self, and_true, true_and, and_false, false_and, oel_n, oel_s, decide_true, decide_false]⟩)
                      · replace h102 : ¬ (xi > nI (n 0 - c)) := h102
                        obtain ⟨a, ha, rfl⟩ := rng (m := n 0 - c) (by omega) ⟨Int32.not_lt.mp h62, Int32.not_lt.mp h102⟩
                        have hca : (nI a).toNatClampNeg = a := nI_clamp (by omega)
                        refine rw_go hX [(105, .iload 4), (107, .aload_n 0), (108, .getfield 94), (111, .iload_n 3), (112, .iaload)] (by decide +kernel) (Ps := [vp_in (nI 3) 4]) (pc' := 113) (lv' := [(0, .ref 66), (1, .int (nI 0)), (2, .int (nI a)), (3, .int (nI 3)), (4, .int xj), (5, .int (nI c))]) (st' := [.int (σ 98 (nI 3).toNatClampNeg), .int xj]) (σ' := σ) rfl (vp_in_nI (by omega) (by omega)) ?_
                        rw [show (σ 98 (nI 3).toNatClampNeg) = nI (n 3) from (by rw [nI_clamp (by omega), hnu.1])]
                        refine rw_go hX [(113, .iload 5), (115, .isub)] (by decide +kernel) (Ps := []) (pc' := 116) (lv' := [(0, .ref 66), (1, .int (nI 0)), (2, .int (nI a)), (3, .int (nI 3)), (4, .int xj), (5, .int (nI c))]) (st' := [.int (nI (n 3) - nI c), .int xj]) (σ' := σ) rfl True.intro ?_
                        rw [show (nI (n 3) - nI c) = nI (n 3 - c) from pk_sub (by omega)]
                        refine rw_icmp hX (tgt := 122) (cnd := .le) (off := 6) (by decide +kernel) (by decide) (fun h116 => ?_) (fun h116 => ?_)
                        · replace h116 : (xj ≤ nI (n 3 - c)) := h116
                          obtain ⟨b, hb, rfl⟩ := rng (m := n 3 - c) (by omega) ⟨Int32.not_lt.mp h67, h116⟩
                          have hcb : (nI b).toNatClampNeg = b := nI_clamp (by omega)
                          have hcp : pz (cpOK (nI a) (nI b) (nI c) (n 0) (n 3)) = true := pz_t ⟨a, b, c, rfl, rfl, rfl, by omega, by omega⟩
                          refine rw_go hX [(122, .iconst 0), (123, .istore 6)] (by decide +kernel) (Ps := []) (pc' := 125) (lv' := [(0, .ref 66), (1, .int (nI 0)), (2, .int (nI a)), (3, .int (nI 3)), (4, .int (nI b)), (5, .int (nI c)), (6, .int (nI 0))]) (st' := []) (σ' := σ) rfl True.intro ?_
                          have L125 : ∀ (μ125 : Nat) (i : Nat), μ125 = c - i → (i ≤ c) → RW E G 3 7 (QI E G (fun r σ' => r = aCopy n (σ 97) (nI 0) (nI a) (nI 3) (nI b) (nI c) ∧ σ' = sCopyM n σ (nI 0) (nI a) (nI 3) (nI b) (nI c))) 125 [(0, .ref 66), (1, .int (nI 0)), (2, .int (nI a)), (3, .int (nI 3)), (4, .int (nI b)), (5, .int (nI c)), (6, .int (nI i))] [] (sr σ 100 (va_cpy (σ 93) (σ 100) a 0 i)) := by
                            intro μ125
                            induction μ125 using Nat.strongRecOn with
                            | ind μ125 ih125 =>
                              intro i hμ125 hi
                              refine rw_go hX [(125, .iload 6), (127, .iload 5)] (by decide +kernel) (Ps := []) (pc' := 129) (lv' := [(0, .ref 66), (1, .int (nI 0)), (2, .int (nI a)), (3, .int (nI 3)), (4, .int (nI b)), (5, .int (nI c)), (6, .int (nI i))]) (st' := [.int (nI c), .int (nI i)]) (σ' := sr σ 100 (va_cpy (σ 93) (σ 100) a 0 i)) rfl True.intro ?_
                              refine rw_icmp hX (tgt := 156) (cnd := .ge) (off := 27) (by decide +kernel) (by decide) (fun h129 => ?_) (fun h129 => ?_)
                              · replace h129 := c2_geT h129
                                have ei : i = c := by omega
                                rw [ei]
                                refine rw_go hX [(156, .iconst 0), (157, .istore 6)] (by decide +kernel) (Ps := []) (pc' := 159) (lv' := [(0, .ref 66), (1, .int (nI 0)), (2, .int (nI a)), (3, .int (nI 3)), (4, .int (nI b)), (5, .int (nI c)), (6, .int (nI 0))]) (st' := []) (σ' := sr σ 100 (va_cpy (σ 93) (σ 100) a 0 c)) rfl True.intro ?_
                                have L159 : ∀ (μ159 : Nat) (i : Nat), μ159 = c - i → (i ≤ c) → RW E G 3 7 (QI E G (fun r σ' => r = aCopy n (σ 97) (nI 0) (nI a) (nI 3) (nI b) (nI c) ∧ σ' = sCopyM n σ (nI 0) (nI a) (nI 3) (nI b) (nI c))) 159 [(0, .ref 66), (1, .int (nI 0)), (2, .int (nI a)), (3, .int (nI 3)), (4, .int (nI b)), (5, .int (nI c)), (6, .int (nI i))] [] (sr (sr σ 100 (va_cpy (σ 93) (σ 100) a 0 c)) 96 (va_cpy (va_cpy (σ 93) (σ 100) a 0 c) (σ 96) 0 b i)) := by
                                  intro μ159
                                  induction μ159 using Nat.strongRecOn with
                                  | ind μ159 ih159 =>
                                    intro i hμ159 hi2
                                    refine rw_go hX [(159, .iload 6), (161, .iload 5)] (by decide +kernel) (Ps := []) (pc' := 163) (lv' := [(0, .ref 66), (1, .int (nI 0)), (2, .int (nI a)), (3, .int (nI 3)), (4, .int (nI b)), (5, .int (nI c)), (6, .int (nI i))]) (st' := [.int (nI c), .int (nI i)]) (σ' := sr (sr σ 100 (va_cpy (σ 93) (σ 100) a 0 c)) 96 (va_cpy (va_cpy (σ 93) (σ 100) a 0 c) (σ 96) 0 b i)) rfl True.intro ?_
                                    refine rw_icmp hX (tgt := 191) (cnd := .ge) (off := 28) (by decide +kernel) (by decide) (fun h163 => ?_) (fun h163 => ?_)
                                    · replace h163 := c2_geT h163
                                      have ei2 : i = c := by omega
                                      refine rw_go hX [(191, .iload 5)] (by decide +kernel) (Ps := []) (pc' := 193) (lv' := [(0, .ref 66), (1, .int (nI 0)), (2, .int (nI a)), (3, .int (nI 3)), (4, .int (nI b)), (5, .int (nI c)), (6, .int (nI i))]) (st' := [.int (nI c)]) (σ' := sr (sr σ 100 (va_cpy (σ 93) (σ 100) a 0 c)) 96 (va_cpy (va_cpy (σ 93) (σ 100) a 0 c) (σ 96) 0 b i)) rfl True.intro ?_
                                      exact rw_iret hX (by decide +kernel) (⟨by simp only [aCopy, eq_true hk4, eq_true hu4, hcs, hct, eq_true h4, eq_true h11, eq_false h23, eq_false hso1, eq_true h32, eq_false hso2, eq_true h50, eq_false h58, eq_false h62, eq_false h67, eq_false h78, hcc, eq_true h89, eq_false h102, hca, eq_true h116, hcb, hcp, eq_true h129, eq_true h163, if_true, if_false, Bool.false_eq_true, and_self, and_true, true_and, and_false, false_and, oel_n, oel_s, decide_true, decide_false], by simp only [sCopyM, eq_true hk4, eq_true hu4, hcs, hct, eq_true h4, eq_true h11, eq_false h23, eq_false hso1, eq_true h32, eq_false hso2, eq_true h50, eq_false h58, eq_false h62, eq_false h67, eq_false h78, hcc, eq_true h89, eq_false h102, hca, eq_true h116, hcb, hcp, eq_true h129, eq_true h163, if_true, if_false, Bool.false_eq_true, and_self, and_true, true_and, and_false, false_and, oel_n, oel_s, decide_true, decide_false]; rw [ei2]; rfl⟩)
                                    · replace h163 := c2_geF h163
                                      refine rw_go hX [(166, .aload_n 0), (167, .getfield 88), (170, .iload_n 3), (171, .aaload), (172, .iload 4), (174, .iload 6), (176, .iadd)] (by decide +kernel) (Ps := [vp_in (nI 3) 4]) (pc' := 177) (lv' := [(0, .ref 66), (1, .int (nI 0)), (2, .int (nI a)), (3, .int (nI 3)), (4, .int (nI b)), (5, .int (nI c)), (6, .int (nI i))]) (st' := [.int (nI b + nI i), .ref 96]) (σ' := sr (sr σ 100 (va_cpy (σ 93) (σ 100) a 0 c)) 96 (va_cpy (va_cpy (σ 93) (σ 100) a 0 c) (σ 96) 0 b i)) rfl (vp_in_nI (by omega) (by omega)) ?_
                                      rw [show (nI b + nI i) = nI (b + i) from nI_add _ _]
                                      refine rw_go hX [(177, .aload_n 0), (178, .getfield 100), (181, .iload 6), (183, .iaload)] (by decide +kernel) (Ps := [vp_in (nI i) 40]) (pc' := 184) (lv' := [(0, .ref 66), (1, .int (nI 0)), (2, .int (nI a)), (3, .int (nI 3)), (4, .int (nI b)), (5, .int (nI c)), (6, .int (nI i))]) (st' := [.int ((sr (sr σ 100 (va_cpy (σ 93) (σ 100) a 0 c)) 96 (va_cpy (va_cpy (σ 93) (σ 100) a 0 c) (σ 96) 0 b i)) 100 (nI i).toNatClampNeg), .int (nI (b + i)), .ref 96]) (σ' := sr (sr σ 100 (va_cpy (σ 93) (σ 100) a 0 c)) 96 (va_cpy (va_cpy (σ 93) (σ 100) a 0 c) (σ 96) 0 b i)) rfl (vp_in_nI (by omega) (by omega)) ?_
                                      rw [show ((sr (sr σ 100 (va_cpy (σ 93) (σ 100) a 0 c)) 96 (va_cpy (va_cpy (σ 93) (σ 100) a 0 c) (σ 96) 0 b i)) 100 (nI i).toNatClampNeg) = (va_cpy (σ 93) (σ 100) a 0 c) i from (by rw [nI_clamp (by omega), sr_n _ _ (by decide), sr_s])]
                                      refine rw_go hX [(184, .iastore)] (by decide +kernel) (Ps := [vp_in (nI (b + i)) 40]) (pc' := 185) (lv' := [(0, .ref 66), (1, .int (nI 0)), (2, .int (nI a)), (3, .int (nI 3)), (4, .int (nI b)), (5, .int (nI c)), (6, .int (nI i))]) (st' := []) (σ' := sw (sr (sr σ 100 (va_cpy (σ 93) (σ 100) a 0 c)) 96 (va_cpy (va_cpy (σ 93) (σ 100) a 0 c) (σ 96) 0 b i)) 96 (nI (b + i)).toNatClampNeg ((va_cpy (σ 93) (σ 100) a 0 c) i)) rfl (vp_in_nI (by omega) (by omega)) ?_
                                      rw [show (sw (sr (sr σ 100 (va_cpy (σ 93) (σ 100) a 0 c)) 96 (va_cpy (va_cpy (σ 93) (σ 100) a 0 c) (σ 96) 0 b i)) 96 (nI (b + i)).toNatClampNeg ((va_cpy (σ 93) (σ 100) a 0 c) i)) = sw (sr (sr σ 100 (va_cpy (σ 93) (σ 100) a 0 c)) 96 (va_cpy (va_cpy (σ 93) (σ 100) a 0 c) (σ 96) 0 b i)) 96 (b + i) ((va_cpy (σ 93) (σ 100) a 0 c) i) from (by rw [nI_clamp (by omega)])]
                                      refine rw_go hX [(185, .iinc 6 1)] (by decide +kernel) (Ps := []) (pc' := 188) (lv' := [(0, .ref 66), (1, .int (nI 0)), (2, .int (nI a)), (3, .int (nI 3)), (4, .int (nI b)), (5, .int (nI c)), (6, .int (nI i + nI 1))]) (st' := []) (σ' := sw (sr (sr σ 100 (va_cpy (σ 93) (σ 100) a 0 c)) 96 (va_cpy (va_cpy (σ 93) (σ 100) a 0 c) (σ 96) 0 b i)) 96 (b + i) ((va_cpy (σ 93) (σ 100) a 0 c) i)) rfl True.intro ?_
                                      rw [show (nI i + nI 1) = nI (i + 1) from nI_add _ _]
                                      refine rw_go hX [(188, .goto (-29))] (by decide +kernel) (Ps := []) (pc' := 159) (lv' := [(0, .ref 66), (1, .int (nI 0)), (2, .int (nI a)), (3, .int (nI 3)), (4, .int (nI b)), (5, .int (nI c)), (6, .int (nI (i + 1)))]) (st' := []) (σ' := sw (sr (sr σ 100 (va_cpy (σ 93) (σ 100) a 0 c)) 96 (va_cpy (va_cpy (σ 93) (σ 100) a 0 c) (σ 96) 0 b i)) 96 (b + i) ((va_cpy (σ 93) (σ 100) a 0 c) i)) rfl True.intro ?_
                                      refine rw_lsub (ks := [0, 1, 2, 3, 4, 5, 6]) (lv' := [(0, .ref 66), (1, .int (nI 0)), (2, .int (nI a)), (3, .int (nI 3)), (4, .int (nI b)), (5, .int (nI c)), (6, .int (nI (i + 1)))]) rfl ?_
                                      have q := ih159 (c - (i + 1)) (by omega) (i + 1) rfl (by omega)
                                      rw [← cpy_1, Nat.zero_add] at q
                                      rw [sw_sr]
                                      exact q
                                refine rw_lsub (ks := [0, 1, 2, 3, 4, 5, 6]) (lv' := [(0, .ref 66), (1, .int (nI 0)), (2, .int (nI a)), (3, .int (nI 3)), (4, .int (nI b)), (5, .int (nI c)), (6, .int (nI 0))]) rfl ?_
                                have q := L159 c 0 rfl (by omega)
                                rw [cpy_0, show sr (sr σ 100 (va_cpy (σ 93) (σ 100) a 0 c)) 96 (σ 96) = sr σ 100 (va_cpy (σ 93) (σ 100) a 0 c) from by
                                  funext q
                                  by_cases z : q = 96
                                  · subst z; rw [sr_s, sr_n _ _ (by decide)]
                                  · rw [sr_n _ _ z]] at q
                                exact q
                              · replace h129 := c2_geF h129
                                refine rw_go hX [(132, .aload_n 0), (133, .getfield 100), (136, .iload 6), (138, .aload_n 0), (139, .getfield 88), (142, .iload_n 1), (143, .aaload), (144, .iload_n 2), (145, .iload 6), (147, .iadd)] (by decide +kernel) (Ps := [vp_in (nI 0) 4]) (pc' := 148) (lv' := [(0, .ref 66), (1, .int (nI 0)), (2, .int (nI a)), (3, .int (nI 3)), (4, .int (nI b)), (5, .int (nI c)), (6, .int (nI i))]) (st' := [.int (nI a + nI i), .ref 93, .int (nI i), .ref 100]) (σ' := sr σ 100 (va_cpy (σ 93) (σ 100) a 0 i)) rfl (vp_in_nI (by omega) (by omega)) ?_
                                rw [show (nI a + nI i) = nI (a + i) from nI_add _ _]
                                refine rw_go hX [(148, .iaload)] (by decide +kernel) (Ps := [vp_in (nI (a + i)) 40]) (pc' := 149) (lv' := [(0, .ref 66), (1, .int (nI 0)), (2, .int (nI a)), (3, .int (nI 3)), (4, .int (nI b)), (5, .int (nI c)), (6, .int (nI i))]) (st' := [.int ((sr σ 100 (va_cpy (σ 93) (σ 100) a 0 i)) 93 (nI (a + i)).toNatClampNeg), .int (nI i), .ref 100]) (σ' := sr σ 100 (va_cpy (σ 93) (σ 100) a 0 i)) rfl (vp_in_nI (by omega) (by omega)) ?_
                                rw [show ((sr σ 100 (va_cpy (σ 93) (σ 100) a 0 i)) 93 (nI (a + i)).toNatClampNeg) = σ 93 (a + i) from (by rw [nI_clamp (by omega), sr_n _ _ (by decide)])]
                                refine rw_go hX [(149, .iastore)] (by decide +kernel) (Ps := [vp_in (nI i) 40]) (pc' := 150) (lv' := [(0, .ref 66), (1, .int (nI 0)), (2, .int (nI a)), (3, .int (nI 3)), (4, .int (nI b)), (5, .int (nI c)), (6, .int (nI i))]) (st' := []) (σ' := sw (sr σ 100 (va_cpy (σ 93) (σ 100) a 0 i)) 100 (nI i).toNatClampNeg (σ 93 (a + i))) rfl (vp_in_nI (by omega) (by omega)) ?_
                                rw [show (sw (sr σ 100 (va_cpy (σ 93) (σ 100) a 0 i)) 100 (nI i).toNatClampNeg (σ 93 (a + i))) = sw (sr σ 100 (va_cpy (σ 93) (σ 100) a 0 i)) 100 i (σ 93 (a + i)) from (by rw [nI_clamp (by omega)])]
                                refine rw_go hX [(150, .iinc 6 1)] (by decide +kernel) (Ps := []) (pc' := 153) (lv' := [(0, .ref 66), (1, .int (nI 0)), (2, .int (nI a)), (3, .int (nI 3)), (4, .int (nI b)), (5, .int (nI c)), (6, .int (nI i + nI 1))]) (st' := []) (σ' := sw (sr σ 100 (va_cpy (σ 93) (σ 100) a 0 i)) 100 i (σ 93 (a + i))) rfl True.intro ?_
                                rw [show (nI i + nI 1) = nI (i + 1) from nI_add _ _]
                                refine rw_go hX [(153, .goto (-28))] (by decide +kernel) (Ps := []) (pc' := 125) (lv' := [(0, .ref 66), (1, .int (nI 0)), (2, .int (nI a)), (3, .int (nI 3)), (4, .int (nI b)), (5, .int (nI c)), (6, .int (nI (i + 1)))]) (st' := []) (σ' := sw (sr σ 100 (va_cpy (σ 93) (σ 100) a 0 i)) 100 i (σ 93 (a + i))) rfl True.intro ?_
                                refine rw_lsub (ks := [0, 1, 2, 3, 4, 5, 6]) (lv' := [(0, .ref 66), (1, .int (nI 0)), (2, .int (nI a)), (3, .int (nI 3)), (4, .int (nI b)), (5, .int (nI c)), (6, .int (nI (i + 1)))]) rfl ?_
                                have q := ih125 (c - (i + 1)) (by omega) (i + 1) rfl (by omega)
                                rw [← cpy_1, Nat.zero_add] at q
                                rw [sw_sr]
                                exact q
                          refine rw_lsub (ks := [0, 1, 2, 3, 4, 5, 6]) (lv' := [(0, .ref 66), (1, .int (nI 0)), (2, .int (nI a)), (3, .int (nI 3)), (4, .int (nI b)), (5, .int (nI c)), (6, .int (nI 0))]) rfl ?_
                          have q := L125 c 0 rfl (by omega)
                          rw [cpy_0, sr_id] at q
                          exact q
                        · replace h116 : ¬ (xj ≤ nI (n 3 - c)) := h116
                          have hcp : pz (cpOK (nI a) xj (nI c) (n 0) (n 3)) = false := pz_f fun ⟨a9, b9, k9, e1, e2, e3, g1, g2⟩ => by
                            have e9 := (nI_eq (by omega) (by omega)).mp e3
                            rw [e2] at h116
                            exact absurd (nI_le (by omega) (by omega)) h116
                          refine rw_go hX [(119, .bipush (-12))] (by decide +kernel) (Ps := []) (pc' := 121) (lv' := [(0, .ref 66), (1, .int (nI 0)), (2, .int (nI a)), (3, .int (nI 3)), (4, .int xj), (5, .int (nI c))]) (st' := [.int (-(nI 12))]) (σ' := σ) rfl True.intro ?_
                          exact rw_iret hX (by decide +kernel) (⟨by simp only [aCopy, eq_true hk4, eq_true hu4, hcs, hct, eq_true h4, eq_true h11, eq_false h23, eq_false hso1, eq_true h32, eq_false hso2, eq_true h50, eq_false h58, eq_false h62, eq_false h67, eq_false h78, hcc, eq_true h89, eq_false h102, hca, eq_false h116, hcp, if_true, if_false, Bool.false_eq_true, and_self, and_true, true_and, and_false, false_and, oel_n, oel_s, decide_true, decide_false], by simp only [sCopyM, eq_true hk4, eq_true hu4, hcs, hct, eq_true h4, eq_true h11, eq_false h23, eq_false hso1, eq_true h32, eq_false hso2, eq_true h50, eq_false h58, eq_false h62, eq_false h67, eq_false h78, hcc, eq_true h89, eq_false h102, hca, eq_false h116, hcp, if_true, if_false, Bool.false_eq_true, and_self, and_true, true_and, and_false, false_and, oel_n, oel_s, decide_true, decide_false]⟩)
          · replace h50 : ¬ (σ 97 0 = σ 97 3) := h50
            refine rw_go hX [(53, .bipush (-13))] (by decide +kernel) (Ps := []) (pc' := 55) (lv' := [(0, .ref 66), (1, .int (nI 0)), (2, .int xi), (3, .int (nI 3)), (4, .int xj), (5, .int xk)]) (st' := [.int (-(nI 13))]) (σ' := σ) rfl True.intro ?_
            exact rw_iret hX (by decide +kernel) (⟨by simp only [aCopy, eq_true hk4, eq_true hu4, hcs, hct, eq_true h4, eq_true h11, eq_false h23, eq_false hso1, eq_true h32, eq_false hso2, eq_false h50, if_true, if_false, Bool.false_eq_true, and_self, and_true, true_and, and_false, false_and, oel_n, oel_s, decide_true, decide_false], by simp only [sCopyM, eq_true hk4, eq_true hu4, hcs, hct, eq_true h4, eq_true h11, eq_false h23, eq_false hso1, eq_true h32, eq_false hso2, eq_false h50, if_true, if_false, Bool.false_eq_true, and_self, and_true, true_and, and_false, false_and, oel_n, oel_s, decide_true, decide_false]⟩)
        · replace h32 : ¬ (σ 97 3 ≥ 0) := h32
          have hso2 : σ 97 3 = -(nI 1) := (so_m hou).mp (Int32.not_le.mp h32)
          refine rw_go hX [(35, .bipush (-11))] (by decide +kernel) (Ps := []) (pc' := 37) (lv' := [(0, .ref 66), (1, .int (nI 0)), (2, .int xi), (3, .int (nI 3)), (4, .int xj), (5, .int xk)]) (st' := [.int (-(nI 11))]) (σ' := σ) rfl True.intro ?_
          exact rw_iret hX (by decide +kernel) (⟨by simp only [aCopy, eq_true hk4, eq_true hu4, hcs, hct, eq_true h4, eq_true h11, eq_false h23, eq_false hso1, eq_false h32, eq_true hso2, if_true, if_false, Bool.false_eq_true, and_self, and_true, true_and, and_false, false_and, oel_n, oel_s, decide_true, decide_false], by simp only [sCopyM, eq_true hk4, eq_true hu4, hcs, hct, eq_true h4, eq_true h11, eq_false h23, eq_false hso1, eq_false h32, eq_true hso2, if_true, if_false, Bool.false_eq_true, and_self, and_true, true_and, and_false, false_and, oel_n, oel_s, decide_true, decide_false]⟩)
    · exact absurd (by simp only [cz, cc2]; decide +kernel) h11
set_option maxRecDepth 20000 in
set_option maxHeartbeats 800000 in
theorem g_copy_1_0 (l : Launch) (G : Gl) (σ : Mm) (n : Nat → Nat) (xi xj xk : Int32) (hsh : ∀ s, s < 4 → σ 98 s = nI (n s) ∧ n s ≤ 40) (hso : ∀ s, s < 4 → σ 97 s = -(nI 1) ∨ σ 97 s = nI 0 ∨ σ 97 s = nI 1) : AMi l G 3 mX10_copy [.ref 66, .int (nI 1), .int xi, .int (nI 0), .int xj, .int xk] σ (fun r σ' => r = aCopy n (σ 97) (nI 1) xi (nI 0) xj xk ∧ σ' = sCopyM n σ (nI 1) xi (nI 0) xj xk) := by
  refine rw_inI 10 (by decide +kernel) rfl rfl ?_
  intro E hE hX
  subst hE
  have hk4 := film_r 1 (by omega)
  have hu4 := film_r 0 (by omega)
  have hcs : (nI 1).toNatClampNeg = 1 := nI_clamp (by omega)
  have hct : (nI 0).toNatClampNeg = 0 := nI_clamp (by omega)
  have hns := hsh 1 (by omega)
  have hos := hso 1 (by omega)
  have hnu := hsh 0 (by omega)
  have hou := hso 0 (by omega)
  refine rw_go hX [(0, .iload_n 1)] (by decide +kernel) (Ps := []) (pc' := 1) (lv' := [(0, .ref 66), (1, .int (nI 1)), (2, .int xi), (3, .int (nI 0)), (4, .int xj), (5, .int xk)]) (st' := [.int (nI 1)]) (σ' := σ) rfl True.intro ?_
  refine rw_callSi hX (as := [.int (nI 1)]) (rest := []) (m_isSheet _ _ _ (nI 1)) (by decide +kernel) msX10_isSheet (Or.inl lk10_298) rfl (by decide) (Nat.le_of_ble_eq_true rfl) rfl ?_
  intro r1 σ1 hr
  rw [hr.1, show r1 = nI 1 from hr.2.trans (by decide +kernel)]
  clear hr σ1 r1
  refine rw_if hX (tgt := 14) (cnd := .eq) (off := 10) (by decide +kernel) (by decide) (fun h4 => ?_) (fun h4 => ?_)
  · exact absurd h4 (by simp only [cz, cc2]; decide +kernel)
  · skip
    refine rw_go hX [(7, .iload_n 3)] (by decide +kernel) (Ps := []) (pc' := 8) (lv' := [(0, .ref 66), (1, .int (nI 1)), (2, .int xi), (3, .int (nI 0)), (4, .int xj), (5, .int xk)]) (st' := [.int (nI 0)]) (σ' := σ) rfl True.intro ?_
    refine rw_callSi hX (as := [.int (nI 0)]) (rest := []) (m_isSheet _ _ _ (nI 0)) (by decide +kernel) msX10_isSheet (Or.inl lk10_298) rfl (by decide) (Nat.le_of_ble_eq_true rfl) rfl ?_
    intro r1 σ1 hr
    rw [hr.1, show r1 = nI 1 from hr.2.trans (by decide +kernel)]
    clear hr σ1 r1
    refine rw_if hX (tgt := 17) (cnd := .ne) (off := 6) (by decide +kernel) (by decide) (fun h11 => ?_) (fun h11 => ?_)
    · skip
      refine rw_go hX [(17, .aload_n 0), (18, .getfield 91), (21, .iload_n 1), (22, .iaload)] (by decide +kernel) (Ps := [vp_in (nI 1) 4]) (pc' := 23) (lv' := [(0, .ref 66), (1, .int (nI 1)), (2, .int xi), (3, .int (nI 0)), (4, .int xj), (5, .int xk)]) (st' := [.int (σ 97 (nI 1).toNatClampNeg)]) (σ' := σ) rfl (vp_in_nI (by omega) (by omega)) ?_
      rw [show (σ 97 (nI 1).toNatClampNeg) = σ 97 1 from (by rw [nI_clamp (by omega)])]
      refine rw_if hX (tgt := 35) (cnd := .lt) (off := 12) (by decide +kernel) (by decide) (fun h23 => ?_) (fun h23 => ?_)
      · replace h23 : (σ 97 1 < 0) := h23
        have hso1 : σ 97 1 = -(nI 1) := (so_m hos).mp h23
        refine rw_go hX [(35, .bipush (-11))] (by decide +kernel) (Ps := []) (pc' := 37) (lv' := [(0, .ref 66), (1, .int (nI 1)), (2, .int xi), (3, .int (nI 0)), (4, .int xj), (5, .int xk)]) (st' := [.int (-(nI 11))]) (σ' := σ) rfl True.intro ?_
        exact rw_iret hX (by decide +kernel) (⟨by simp only [aCopy, eq_true hk4, eq_true hu4, hcs, hct, eq_true h4, eq_true h11, eq_true h23, eq_true hso1, if_true, if_false, Bool.false_eq_true, and_self, and_true, true_and, and_false, false_and, oel_n, oel_s, decide_true, decide_false], by simp only [sCopyM, eq_true hk4, eq_true hu4, hcs, hct, eq_true h4, eq_true h11, eq_true h23, eq_true hso1, if_true, if_false, Bool.false_eq_true, and_self, and_true, true_and, and_false, false_and, oel_n, oel_s, decide_true, decide_false]⟩)
      · replace h23 : ¬ (σ 97 1 < 0) := h23
        have hso1 : ¬ σ 97 1 = -(nI 1) := fun z => h23 ((so_m hos).mpr z)
        refine rw_go hX [(26, .aload_n 0), (27, .getfield 91), (30, .iload_n 3), (31, .iaload)] (by decide +kernel) (Ps := [vp_in (nI 0) 4]) (pc' := 32) (lv' := [(0, .ref 66), (1, .int (nI 1)), (2, .int xi), (3, .int (nI 0)), (4, .int xj), (5, .int xk)]) (st' := [.int (σ 97 (nI 0).toNatClampNeg)]) (σ' := σ) rfl (vp_in_nI (by omega) (by omega)) ?_
        rw [show (σ 97 (nI 0).toNatClampNeg) = σ 97 0 from (by rw [nI_clamp (by omega)])]
        refine rw_if hX (tgt := 38) (cnd := .ge) (off := 6) (by decide +kernel) (by decide) (fun h32 => ?_) (fun h32 => ?_)
        · replace h32 : (σ 97 0 ≥ 0) := h32
          have hso2 : ¬ σ 97 0 = -(nI 1) := fun z => absurd ((so_m hou).mpr z) (Int32.not_lt.mpr h32)
          refine rw_go hX [(38, .aload_n 0), (39, .getfield 91), (42, .iload_n 1), (43, .iaload)] (by decide +kernel) (Ps := [vp_in (nI 1) 4]) (pc' := 44) (lv' := [(0, .ref 66), (1, .int (nI 1)), (2, .int xi), (3, .int (nI 0)), (4, .int xj), (5, .int xk)]) (st' := [.int (σ 97 (nI 1).toNatClampNeg)]) (σ' := σ) rfl (vp_in_nI (by omega) (by omega)) ?_
          rw [show (σ 97 (nI 1).toNatClampNeg) = σ 97 1 from (by rw [nI_clamp (by omega)])]
          refine rw_go hX [(44, .aload_n 0), (45, .getfield 91), (48, .iload_n 3), (49, .iaload)] (by decide +kernel) (Ps := [vp_in (nI 0) 4]) (pc' := 50) (lv' := [(0, .ref 66), (1, .int (nI 1)), (2, .int xi), (3, .int (nI 0)), (4, .int xj), (5, .int xk)]) (st' := [.int (σ 97 (nI 0).toNatClampNeg), .int (σ 97 1)]) (σ' := σ) rfl (vp_in_nI (by omega) (by omega)) ?_
          rw [show (σ 97 (nI 0).toNatClampNeg) = σ 97 0 from (by rw [nI_clamp (by omega)])]
          refine rw_icmp hX (tgt := 56) (cnd := .eq) (off := 6) (by decide +kernel) (by decide) (fun h50 => ?_) (fun h50 => ?_)
          · replace h50 : (σ 97 1 = σ 97 0) := h50
            refine rw_go hX [(56, .iload 5)] (by decide +kernel) (Ps := []) (pc' := 58) (lv' := [(0, .ref 66), (1, .int (nI 1)), (2, .int xi), (3, .int (nI 0)), (4, .int xj), (5, .int xk)]) (st' := [.int xk]) (σ' := σ) rfl True.intro ?_
            refine rw_if hX (tgt := 119) (cnd := .lt) (off := 61) (by decide +kernel) (by decide) (fun h58 => ?_) (fun h58 => ?_)
            · replace h58 : (xk < 0) := h58
              have hcp : pz (cpOK xi xj xk (n 1) (n 0)) = false := pz_f fun ⟨a9, b9, k9, e1, e2, e3, g1, g2⟩ => by
                rw [e3] at h58; exact absurd h58 (nI_pos (by have := hns.2; omega))
              refine rw_go hX [(119, .bipush (-12))] (by decide +kernel) (Ps := []) (pc' := 121) (lv' := [(0, .ref 66), (1, .int (nI 1)), (2, .int xi), (3, .int (nI 0)), (4, .int xj), (5, .int xk)]) (st' := [.int (-(nI 12))]) (σ' := σ) rfl True.intro ?_
              exact rw_iret hX (by decide +kernel) (⟨by simp only [aCopy, eq_true hk4, eq_true hu4, hcs, hct, eq_true h4, eq_true h11, eq_false h23, eq_false hso1, eq_true h32, eq_false hso2, eq_true h50, eq_true h58, hcp, if_true, if_false, Bool.false_eq_true, and_self, and_true, true_and, and_false, false_and, oel_n, oel_s, decide_true, decide_false], by simp only [sCopyM, eq_true hk4, eq_true hu4, hcs, hct, eq_true h4, eq_true h11, eq_false h23, eq_false hso1, eq_true h32, eq_false hso2, eq_true h50, eq_true h58, hcp, if_true, if_false, Bool.false_eq_true, and_self, and_true, true_and, and_false, false_and, oel_n, oel_s, decide_true, decide_false]⟩)
            · replace h58 : ¬ (xk < 0) := h58
              refine rw_go hX [(61, .iload_n 2)] (by decide +kernel) (Ps := []) (pc' := 62) (lv' := [(0, .ref 66), (1, .int (nI 1)), (2, .int xi), (3, .int (nI 0)), (4, .int xj), (5, .int xk)]) (st' := [.int xi]) (σ' := σ) rfl True.intro ?_
              refine rw_if hX (tgt := 119) (cnd := .lt) (off := 57) (by decide +kernel) (by decide) (fun h62 => ?_) (fun h62 => ?_)
              · replace h62 : (xi < 0) := h62
                have hcp : pz (cpOK xi xj xk (n 1) (n 0)) = false := pz_f fun ⟨a9, b9, k9, e1, e2, e3, g1, g2⟩ => by
                  rw [e1] at h62; exact absurd h62 (nI_pos (by have := hns.2; omega))
                refine rw_go hX [(119, .bipush (-12))] (by decide +kernel) (Ps := []) (pc' := 121) (lv' := [(0, .ref 66), (1, .int (nI 1)), (2, .int xi), (3, .int (nI 0)), (4, .int xj), (5, .int xk)]) (st' := [.int (-(nI 12))]) (σ' := σ) rfl True.intro ?_
                exact rw_iret hX (by decide +kernel) (⟨by simp only [aCopy, eq_true hk4, eq_true hu4, hcs, hct, eq_true h4, eq_true h11, eq_false h23, eq_false hso1, eq_true h32, eq_false hso2, eq_true h50, eq_false h58, eq_true h62, hcp, if_true, if_false, Bool.false_eq_true, and_self, and_true, true_and, and_false, false_and, oel_n, oel_s, decide_true, decide_false], by simp only [sCopyM, eq_true hk4, eq_true hu4, hcs, hct, eq_true h4, eq_true h11, eq_false h23, eq_false hso1, eq_true h32, eq_false hso2, eq_true h50, eq_false h58, eq_true h62, hcp, if_true, if_false, Bool.false_eq_true, and_self, and_true, true_and, and_false, false_and, oel_n, oel_s, decide_true, decide_false]⟩)
              · replace h62 : ¬ (xi < 0) := h62
                refine rw_go hX [(65, .iload 4)] (by decide +kernel) (Ps := []) (pc' := 67) (lv' := [(0, .ref 66), (1, .int (nI 1)), (2, .int xi), (3, .int (nI 0)), (4, .int xj), (5, .int xk)]) (st' := [.int xj]) (σ' := σ) rfl True.intro ?_
                refine rw_if hX (tgt := 119) (cnd := .lt) (off := 52) (by decide +kernel) (by decide) (fun h67 => ?_) (fun h67 => ?_)
                · replace h67 : (xj < 0) := h67
                  have hcp : pz (cpOK xi xj xk (n 1) (n 0)) = false := pz_f fun ⟨a9, b9, k9, e1, e2, e3, g1, g2⟩ => by
                    rw [e2] at h67; exact absurd h67 (nI_pos (by have := hnu.2; omega))
                  refine rw_go hX [(119, .bipush (-12))] (by decide +kernel) (Ps := []) (pc' := 121) (lv' := [(0, .ref 66), (1, .int (nI 1)), (2, .int xi), (3, .int (nI 0)), (4, .int xj), (5, .int xk)]) (st' := [.int (-(nI 12))]) (σ' := σ) rfl True.intro ?_
                  exact rw_iret hX (by decide +kernel) (⟨by simp only [aCopy, eq_true hk4, eq_true hu4, hcs, hct, eq_true h4, eq_true h11, eq_false h23, eq_false hso1, eq_true h32, eq_false hso2, eq_true h50, eq_false h58, eq_false h62, eq_true h67, hcp, if_true, if_false, Bool.false_eq_true, and_self, and_true, true_and, and_false, false_and, oel_n, oel_s, decide_true, decide_false], by simp only [sCopyM, eq_true hk4, eq_true hu4, hcs, hct, eq_true h4, eq_true h11, eq_false h23, eq_false hso1, eq_true h32, eq_false hso2, eq_true h50, eq_false h58, eq_false h62, eq_true h67, hcp, if_true, if_false, Bool.false_eq_true, and_self, and_true, true_and, and_false, false_and, oel_n, oel_s, decide_true, decide_false]⟩)
                · replace h67 : ¬ (xj < 0) := h67
                  refine rw_go hX [(70, .iload 5), (72, .aload_n 0), (73, .getfield 94), (76, .iload_n 1), (77, .iaload)] (by decide +kernel) (Ps := [vp_in (nI 1) 4]) (pc' := 78) (lv' := [(0, .ref 66), (1, .int (nI 1)), (2, .int xi), (3, .int (nI 0)), (4, .int xj), (5, .int xk)]) (st' := [.int (σ 98 (nI 1).toNatClampNeg), .int xk]) (σ' := σ) rfl (vp_in_nI (by omega) (by omega)) ?_
                  rw [show (σ 98 (nI 1).toNatClampNeg) = nI (n 1) from (by rw [nI_clamp (by omega), hns.1])]
                  refine rw_icmp hX (tgt := 119) (cnd := .gt) (off := 41) (by decide +kernel) (by decide) (fun h78 => ?_) (fun h78 => ?_)
                  · replace h78 : (xk > nI (n 1)) := h78
                    have hcp : pz (cpOK xi xj xk (n 1) (n 0)) = false := pz_f fun ⟨a9, b9, k9, e1, e2, e3, g1, g2⟩ => by
                      rw [e3] at h78; exact absurd h78 (Int32.not_lt.mpr (nI_le (show k9 ≤ n 1 by omega) (by have := hns.2; omega)))
                    refine rw_go hX [(119, .bipush (-12))] (by decide +kernel) (Ps := []) (pc' := 121) (lv' := [(0, .ref 66), (1, .int (nI 1)), (2, .int xi), (3, .int (nI 0)), (4, .int xj), (5, .int xk)]) (st' := [.int (-(nI 12))]) (σ' := σ) rfl True.intro ?_
                    exact rw_iret hX (by decide +kernel) (⟨by simp only [aCopy, eq_true hk4, eq_true hu4, hcs, hct, eq_true h4, eq_true h11, eq_false h23, eq_false hso1, eq_true h32, eq_false hso2, eq_true h50, eq_false h58, eq_false h62, eq_false h67, eq_true h78, hcp, if_true, if_false, Bool.false_eq_true, and_self, and_true, true_and, and_false, false_and, oel_n, oel_s, decide_true, decide_false], by simp only [sCopyM, eq_true hk4, eq_true hu4, hcs, hct, eq_true h4, eq_true h11, eq_false h23, eq_false hso1, eq_true h32, eq_false hso2, eq_true h50, eq_false h58, eq_false h62, eq_false h67, eq_true h78, hcp, if_true, if_false, Bool.false_eq_true, and_self, and_true, true_and, and_false, false_and, oel_n, oel_s, decide_true, decide_false]⟩)
                  · replace h78 : ¬ (xk > nI (n 1)) := h78
                    have hn40 := hns.2
                    have hn41 := hnu.2
                    obtain ⟨c, hc, rfl⟩ := rng (m := n 1) (by omega) ⟨Int32.not_lt.mp h58, Int32.not_lt.mp h78⟩
                    have hcc : (nI c).toNatClampNeg = c := nI_clamp (by omega)
                    refine rw_go hX [(81, .iload 5), (83, .aload_n 0), (84, .getfield 94), (87, .iload_n 3), (88, .iaload)] (by decide +kernel) (Ps := [vp_in (nI 0) 4]) (pc' := 89) (lv' := [(0, .ref 66), (1, .int (nI 1)), (2, .int xi), (3, .int (nI 0)), (4, .int xj), (5, .int (nI c))]) (st' := [.int (σ 98 (nI 0).toNatClampNeg), .int (nI c)]) (σ' := σ) rfl (vp_in_nI (by omega) (by omega)) ?_
                    rw [show (σ 98 (nI 0).toNatClampNeg) = nI (n 0) from (by rw [nI_clamp (by omega), hnu.1])]
                    refine rw_icmp hX (tgt := 119) (cnd := .gt) (off := 30) (by decide +kernel) (by decide) (fun h89 => ?_) (fun h89 => ?_)
                    · replace h89 := c2_gtT h89
                      have hcp : pz (cpOK xi xj (nI c) (n 1) (n 0)) = false := pz_f fun ⟨a9, b9, k9, e1, e2, e3, g1, g2⟩ => by
                        have e9 := (nI_eq (by omega) (by omega)).mp e3
                        omega
                      refine rw_go hX [(119, .bipush (-12))] (by decide +kernel) (Ps := []) (pc' := 121) (lv' := [(0, .ref 66), (1, .int (nI 1)), (2, .int xi), (3, .int (nI 0)), (4, .int xj), (5, .int (nI c))]) (st' := [.int (-(nI 12))]) (σ' := σ) rfl True.intro ?_
                      exact rw_iret hX (by decide +kernel) (⟨by simp only [aCopy, eq_true hk4, eq_true hu4, hcs, hct, eq_true h4, eq_true h11, eq_false h23, eq_false hso1, eq_true h32, eq_false hso2, eq_true h50, eq_false h58, eq_false h62, eq_false h67, eq_false h78, hcc, eq_true h89, hcp, if_true, if_false, Bool.false_eq_true, and_self, and_true, true_and, and_false, false_and, oel_n, oel_s, decide_true, decide_false], by simp only [sCopyM, eq_true hk4, eq_true hu4, hcs, hct, eq_true h4, eq_true h11, eq_false h23, eq_false hso1, eq_true h32, eq_false hso2, eq_true h50, eq_false h58, eq_false h62, eq_false h67, eq_false h78, hcc, eq_true h89, hcp, if_true, if_false, Bool.false_eq_true, and_self, and_true, true_and, and_false, false_and, oel_n, oel_s, decide_true, decide_false]⟩)
                    · replace h89 := c2_gtF h89
                      have hcu : c ≤ n 0 := by omega
                      refine rw_go hX [(92, .iload_n 2), (93, .aload_n 0), (94, .getfield 94), (97, .iload_n 1), (98, .iaload)] (by decide +kernel) (Ps := [vp_in (nI 1) 4]) (pc' := 99) (lv' := [(0, .ref 66), (1, .int (nI 1)), (2, .int xi), (3, .int (nI 0)), (4, .int xj), (5, .int (nI c))]) (st' := [.int (σ 98 (nI 1).toNatClampNeg), .int xi]) (σ' := σ) rfl (vp_in_nI (by omega) (by omega)) ?_
                      rw [show (σ 98 (nI 1).toNatClampNeg) = nI (n 1) from (by rw [nI_clamp (by omega), hns.1])]
                      refine rw_go hX [(99, .iload 5), (101, .isub)] (by decide +kernel) (Ps := []) (pc' := 102) (lv' := [(0, .ref 66), (1, .int (nI 1)), (2, .int xi), (3, .int (nI 0)), (4, .int xj), (5, .int (nI c))]) (st' := [.int (nI (n 1) - nI c), .int xi]) (σ' := σ) rfl True.intro ?_
                      rw [show (nI (n 1) - nI c) = nI (n 1 - c) from pk_sub (by omega)]
                      refine rw_icmp hX (tgt := 119) (cnd := .gt) (off := 17) (by decide +kernel) (by decide) (fun h102 => ?_) (fun h102 => ?_)
                      · replace h102 : (xi > nI (n 1 - c)) := h102
                        have hcp : pz (cpOK xi xj (nI c) (n 1) (n 0)) = false := pz_f fun ⟨a9, b9, k9, e1, e2, e3, g1, g2⟩ => by
                          have e9 := (nI_eq (by omega) (by omega)).mp e3
                          rw [e1] at h102
                          exact absurd h102 (Int32.not_lt.mpr (nI_le (by omega) (by omega)))
                        refine rw_go hX [(119, .bipush (-12))] (by decide +kernel) (Ps := []) (pc' := 121) (lv' := [(0, .ref 66), (1, .int (nI 1)), (2, .int xi), (3, .int (nI 0)), (4, .int xj), (5, .int (nI c))]) (st' := [.int (-(nI 12))]) (σ' := σ) rfl True.intro ?_
                        exact rw_iret hX (by decide +kernel) (⟨by simp only [aCopy, eq_true hk4, eq_true hu4, hcs, hct, eq_true h4, eq_true h11, eq_false h23, eq_false hso1, eq_true h32, eq_false hso2, eq_true h50, eq_false h58, eq_false h62, eq_false h67, eq_false h78, hcc, eq_true h89, eq_true h102, hcp, if_true, if_false, Bool.false_eq_true, and_self, and_true, true_and, and_false, false_and, oel_n, oel_s, decide_true, decide_false], by simp only [sCopyM, eq_true hk4, eq_true hu4, hcs, hct, eq_true h4, eq_true h11, eq_false h23, eq_false hso1, eq_true h32, eq_false hso2, eq_true h50, eq_false h58, eq_false h62, eq_false h67, eq_false h78, hcc, eq_true h89, eq_true h102, hcp, if_true, if_false, Bool.false_eq_true, and_self, and_true, true_and, and_false, false_and, oel_n, oel_s, decide_true, decide_false]⟩)
                      · replace h102 : ¬ (xi > nI (n 1 - c)) := h102
                        obtain ⟨a, ha, rfl⟩ := rng (m := n 1 - c) (by omega) ⟨Int32.not_lt.mp h62, Int32.not_lt.mp h102⟩
                        have hca : (nI a).toNatClampNeg = a := nI_clamp (by omega)
                        refine rw_go hX [(105, .iload 4), (107, .aload_n 0), (108, .getfield 94), (111, .iload_n 3), (112, .iaload)] (by decide +kernel) (Ps := [vp_in (nI 0) 4]) (pc' := 113) (lv' := [(0, .ref 66), (1, .int (nI 1)), (2, .int (nI a)), (3, .int (nI 0)), (4, .int xj), (5, .int (nI c))]) (st' := [.int (σ 98 (nI 0).toNatClampNeg), .int xj]) (σ' := σ) rfl (vp_in_nI (by omega) (by omega)) ?_
                        rw [show (σ 98 (nI 0).toNatClampNeg) = nI (n 0) from (by rw [nI_clamp (by omega), hnu.1])]
                        refine rw_go hX [(113, .iload 5), (115, .isub)] (by decide +kernel) (Ps := []) (pc' := 116) (lv' := [(0, .ref 66), (1, .int (nI 1)), (2, .int (nI a)), (3, .int (nI 0)), (4, .int xj), (5, .int (nI c))]) (st' := [.int (nI (n 0) - nI c), .int xj]) (σ' := σ) rfl True.intro ?_
                        rw [show (nI (n 0) - nI c) = nI (n 0 - c) from pk_sub (by omega)]
                        refine rw_icmp hX (tgt := 122) (cnd := .le) (off := 6) (by decide +kernel) (by decide) (fun h116 => ?_) (fun h116 => ?_)
                        · replace h116 : (xj ≤ nI (n 0 - c)) := h116
                          obtain ⟨b, hb, rfl⟩ := rng (m := n 0 - c) (by omega) ⟨Int32.not_lt.mp h67, h116⟩
                          have hcb : (nI b).toNatClampNeg = b := nI_clamp (by omega)
                          have hcp : pz (cpOK (nI a) (nI b) (nI c) (n 1) (n 0)) = true := pz_t ⟨a, b, c, rfl, rfl, rfl, by omega, by omega⟩
                          refine rw_go hX [(122, .iconst 0), (123, .istore 6)] (by decide +kernel) (Ps := []) (pc' := 125) (lv' := [(0, .ref 66), (1, .int (nI 1)), (2, .int (nI a)), (3, .int (nI 0)), (4, .int (nI b)), (5, .int (nI c)), (6, .int (nI 0))]) (st' := []) (σ' := σ) rfl True.intro ?_
                          have L125 : ∀ (μ125 : Nat) (i : Nat), μ125 = c - i → (i ≤ c) → RW E G 3 7 (QI E G (fun r σ' => r = aCopy n (σ 97) (nI 1) (nI a) (nI 0) (nI b) (nI c) ∧ σ' = sCopyM n σ (nI 1) (nI a) (nI 0) (nI b) (nI c))) 125 [(0, .ref 66), (1, .int (nI 1)), (2, .int (nI a)), (3, .int (nI 0)), (4, .int (nI b)), (5, .int (nI c)), (6, .int (nI i))] [] (sr σ 100 (va_cpy (σ 94) (σ 100) a 0 i)) := by
                            intro μ125
                            induction μ125 using Nat.strongRecOn with
                            | ind μ125 ih125 =>
                              intro i hμ125 hi
                              refine rw_go hX [(125, .iload 6), (127, .iload 5)] (by decide +kernel) (Ps := []) (pc' := 129) (lv' := [(0, .ref 66), (1, .int (nI 1)), (2, .int (nI a)), (3, .int (nI 0)), (4, .int (nI b)), (5, .int (nI c)), (6, .int (nI i))]) (st' := [.int (nI c), .int (nI i)]) (σ' := sr σ 100 (va_cpy (σ 94) (σ 100) a 0 i)) rfl True.intro ?_
                              refine rw_icmp hX (tgt := 156) (cnd := .ge) (off := 27) (by decide +kernel) (by decide) (fun h129 => ?_) (fun h129 => ?_)
                              · replace h129 := c2_geT h129
                                have ei : i = c := by omega
                                rw [ei]
                                refine rw_go hX [(156, .iconst 0), (157, .istore 6)] (by decide +kernel) (Ps := []) (pc' := 159) (lv' := [(0, .ref 66), (1, .int (nI 1)), (2, .int (nI a)), (3, .int (nI 0)), (4, .int (nI b)), (5, .int (nI c)), (6, .int (nI 0))]) (st' := []) (σ' := sr σ 100 (va_cpy (σ 94) (σ 100) a 0 c)) rfl True.intro ?_
                                have L159 : ∀ (μ159 : Nat) (i : Nat), μ159 = c - i → (i ≤ c) → RW E G 3 7 (QI E G (fun r σ' => r = aCopy n (σ 97) (nI 1) (nI a) (nI 0) (nI b) (nI c) ∧ σ' = sCopyM n σ (nI 1) (nI a) (nI 0) (nI b) (nI c))) 159 [(0, .ref 66), (1, .int (nI 1)), (2, .int (nI a)), (3, .int (nI 0)), (4, .int (nI b)), (5, .int (nI c)), (6, .int (nI i))] [] (sr (sr σ 100 (va_cpy (σ 94) (σ 100) a 0 c)) 93 (va_cpy (va_cpy (σ 94) (σ 100) a 0 c) (σ 93) 0 b i)) := by
                                  intro μ159
                                  induction μ159 using Nat.strongRecOn with
                                  | ind μ159 ih159 =>
                                    intro i hμ159 hi2
                                    refine rw_go hX [(159, .iload 6), (161, .iload 5)] (by decide +kernel) (Ps := []) (pc' := 163) (lv' := [(0, .ref 66), (1, .int (nI 1)), (2, .int (nI a)), (3, .int (nI 0)), (4, .int (nI b)), (5, .int (nI c)), (6, .int (nI i))]) (st' := [.int (nI c), .int (nI i)]) (σ' := sr (sr σ 100 (va_cpy (σ 94) (σ 100) a 0 c)) 93 (va_cpy (va_cpy (σ 94) (σ 100) a 0 c) (σ 93) 0 b i)) rfl True.intro ?_
                                    refine rw_icmp hX (tgt := 191) (cnd := .ge) (off := 28) (by decide +kernel) (by decide) (fun h163 => ?_) (fun h163 => ?_)
                                    · replace h163 := c2_geT h163
                                      have ei2 : i = c := by omega
                                      refine rw_go hX [(191, .iload 5)] (by decide +kernel) (Ps := []) (pc' := 193) (lv' := [(0, .ref 66), (1, .int (nI 1)), (2, .int (nI a)), (3, .int (nI 0)), (4, .int (nI b)), (5, .int (nI c)), (6, .int (nI i))]) (st' := [.int (nI c)]) (σ' := sr (sr σ 100 (va_cpy (σ 94) (σ 100) a 0 c)) 93 (va_cpy (va_cpy (σ 94) (σ 100) a 0 c) (σ 93) 0 b i)) rfl True.intro ?_
                                      exact rw_iret hX (by decide +kernel) (⟨by simp only [aCopy, eq_true hk4, eq_true hu4, hcs, hct, eq_true h4, eq_true h11, eq_false h23, eq_false hso1, eq_true h32, eq_false hso2, eq_true h50, eq_false h58, eq_false h62, eq_false h67, eq_false h78, hcc, eq_true h89, eq_false h102, hca, eq_true h116, hcb, hcp, eq_true h129, eq_true h163, if_true, if_false, Bool.false_eq_true, and_self, and_true, true_and, and_false, false_and, oel_n, oel_s, decide_true, decide_false], by simp only [sCopyM, eq_true hk4, eq_true hu4, hcs, hct, eq_true h4, eq_true h11, eq_false h23, eq_false hso1, eq_true h32, eq_false hso2, eq_true h50, eq_false h58, eq_false h62, eq_false h67, eq_false h78, hcc, eq_true h89, eq_false h102, hca, eq_true h116, hcb, hcp, eq_true h129, eq_true h163, if_true, if_false, Bool.false_eq_true, and_self, and_true, true_and, and_false, false_and, oel_n, oel_s, decide_true, decide_false]; rw [ei2]; rfl⟩)
                                    · replace h163 := c2_geF h163
                                      refine rw_go hX [(166, .aload_n 0), (167, .getfield 88), (170, .iload_n 3), (171, .aaload), (172, .iload 4), (174, .iload 6), (176, .iadd)] (by decide +kernel) (Ps := [vp_in (nI 0) 4]) (pc' := 177) (lv' := [(0, .ref 66), (1, .int (nI 1)), (2, .int (nI a)), (3, .int (nI 0)), (4, .int (nI b)), (5, .int (nI c)), (6, .int (nI i))]) (st' := [.int (nI b + nI i), .ref 93]) (σ' := sr (sr σ 100 (va_cpy (σ 94) (σ 100) a 0 c)) 93 (va_cpy (va_cpy (σ 94) (σ 100) a 0 c) (σ 93) 0 b i)) rfl (vp_in_nI (by omega) (by omega)) ?_
                                      rw [show (nI b + nI i) = nI (b + i) from nI_add _ _]
                                      refine rw_go hX [(177, .aload_n 0), (178, .getfield 100), (181, .iload 6), (183, .iaload)] (by decide +kernel) (Ps := [vp_in (nI i) 40]) (pc' := 184) (lv' := [(0, .ref 66), (1, .int (nI 1)), (2, .int (nI a)), (3, .int (nI 0)), (4, .int (nI b)), (5, .int (nI c)), (6, .int (nI i))]) (st' := [.int ((sr (sr σ 100 (va_cpy (σ 94) (σ 100) a 0 c)) 93 (va_cpy (va_cpy (σ 94) (σ 100) a 0 c) (σ 93) 0 b i)) 100 (nI i).toNatClampNeg), .int (nI (b + i)), .ref 93]) (σ' := sr (sr σ 100 (va_cpy (σ 94) (σ 100) a 0 c)) 93 (va_cpy (va_cpy (σ 94) (σ 100) a 0 c) (σ 93) 0 b i)) rfl (vp_in_nI (by omega) (by omega)) ?_
                                      rw [show ((sr (sr σ 100 (va_cpy (σ 94) (σ 100) a 0 c)) 93 (va_cpy (va_cpy (σ 94) (σ 100) a 0 c) (σ 93) 0 b i)) 100 (nI i).toNatClampNeg) = (va_cpy (σ 94) (σ 100) a 0 c) i from (by rw [nI_clamp (by omega), sr_n _ _ (by decide), sr_s])]
                                      refine rw_go hX [(184, .iastore)] (by decide +kernel) (Ps := [vp_in (nI (b + i)) 40]) (pc' := 185) (lv' := [(0, .ref 66), (1, .int (nI 1)), (2, .int (nI a)), (3, .int (nI 0)), (4, .int (nI b)), (5, .int (nI c)), (6, .int (nI i))]) (st' := []) (σ' := sw (sr (sr σ 100 (va_cpy (σ 94) (σ 100) a 0 c)) 93 (va_cpy (va_cpy (σ 94) (σ 100) a 0 c) (σ 93) 0 b i)) 93 (nI (b + i)).toNatClampNeg ((va_cpy (σ 94) (σ 100) a 0 c) i)) rfl (vp_in_nI (by omega) (by omega)) ?_
                                      rw [show (sw (sr (sr σ 100 (va_cpy (σ 94) (σ 100) a 0 c)) 93 (va_cpy (va_cpy (σ 94) (σ 100) a 0 c) (σ 93) 0 b i)) 93 (nI (b + i)).toNatClampNeg ((va_cpy (σ 94) (σ 100) a 0 c) i)) = sw (sr (sr σ 100 (va_cpy (σ 94) (σ 100) a 0 c)) 93 (va_cpy (va_cpy (σ 94) (σ 100) a 0 c) (σ 93) 0 b i)) 93 (b + i) ((va_cpy (σ 94) (σ 100) a 0 c) i) from (by rw [nI_clamp (by omega)])]
                                      refine rw_go hX [(185, .iinc 6 1)] (by decide +kernel) (Ps := []) (pc' := 188) (lv' := [(0, .ref 66), (1, .int (nI 1)), (2, .int (nI a)), (3, .int (nI 0)), (4, .int (nI b)), (5, .int (nI c)), (6, .int (nI i + nI 1))]) (st' := []) (σ' := sw (sr (sr σ 100 (va_cpy (σ 94) (σ 100) a 0 c)) 93 (va_cpy (va_cpy (σ 94) (σ 100) a 0 c) (σ 93) 0 b i)) 93 (b + i) ((va_cpy (σ 94) (σ 100) a 0 c) i)) rfl True.intro ?_
                                      rw [show (nI i + nI 1) = nI (i + 1) from nI_add _ _]
                                      refine rw_go hX [(188, .goto (-29))] (by decide +kernel) (Ps := []) (pc' := 159) (lv' := [(0, .ref 66), (1, .int (nI 1)), (2, .int (nI a)), (3, .int (nI 0)), (4, .int (nI b)), (5, .int (nI c)), (6, .int (nI (i + 1)))]) (st' := []) (σ' := sw (sr (sr σ 100 (va_cpy (σ 94) (σ 100) a 0 c)) 93 (va_cpy (va_cpy (σ 94) (σ 100) a 0 c) (σ 93) 0 b i)) 93 (b + i) ((va_cpy (σ 94) (σ 100) a 0 c) i)) rfl True.intro ?_
                                      refine rw_lsub (ks := [0, 1, 2, 3, 4, 5, 6]) (lv' := [(0, .ref 66), (1, .int (nI 1)), (2, .int (nI a)), (3, .int (nI 0)), (4, .int (nI b)), (5, .int (nI c)), (6, .int (nI (i + 1)))]) rfl ?_
                                      have q := ih159 (c - (i + 1)) (by omega) (i + 1) rfl (by omega)
                                      rw [← cpy_1, Nat.zero_add] at q
                                      rw [sw_sr]
                                      exact q
                                refine rw_lsub (ks := [0, 1, 2, 3, 4, 5, 6]) (lv' := [(0, .ref 66), (1, .int (nI 1)), (2, .int (nI a)), (3, .int (nI 0)), (4, .int (nI b)), (5, .int (nI c)), (6, .int (nI 0))]) rfl ?_
                                have q := L159 c 0 rfl (by omega)
                                rw [cpy_0, show sr (sr σ 100 (va_cpy (σ 94) (σ 100) a 0 c)) 93 (σ 93) = sr σ 100 (va_cpy (σ 94) (σ 100) a 0 c) from by
                                  funext q
                                  by_cases z : q = 93
                                  · subst z; rw [sr_s, sr_n _ _ (by decide)]
                                  · rw [sr_n _ _ z]] at q
                                exact q
                              · replace h129 := c2_geF h129
                                refine rw_go hX [(132, .aload_n 0), (133, .getfield 100), (136, .iload 6), (138, .aload_n 0), (139, .getfield 88), (142, .iload_n 1), (143, .aaload), (144, .iload_n 2), (145, .iload 6), (147, .iadd)] (by decide +kernel) (Ps := [vp_in (nI 1) 4]) (pc' := 148) (lv' := [(0, .ref 66), (1, .int (nI 1)), (2, .int (nI a)), (3, .int (nI 0)), (4, .int (nI b)), (5, .int (nI c)), (6, .int (nI i))]) (st' := [.int (nI a + nI i), .ref 94, .int (nI i), .ref 100]) (σ' := sr σ 100 (va_cpy (σ 94) (σ 100) a 0 i)) rfl (vp_in_nI (by omega) (by omega)) ?_
                                rw [show (nI a + nI i) = nI (a + i) from nI_add _ _]
                                refine rw_go hX [(148, .iaload)] (by decide +kernel) (Ps := [vp_in (nI (a + i)) 40]) (pc' := 149) (lv' := [(0, .ref 66), (1, .int (nI 1)), (2, .int (nI a)), (3, .int (nI 0)), (4, .int (nI b)), (5, .int (nI c)), (6, .int (nI i))]) (st' := [.int ((sr σ 100 (va_cpy (σ 94) (σ 100) a 0 i)) 94 (nI (a + i)).toNatClampNeg), .int (nI i), .ref 100]) (σ' := sr σ 100 (va_cpy (σ 94) (σ 100) a 0 i)) rfl (vp_in_nI (by omega) (by omega)) ?_
                                rw [show ((sr σ 100 (va_cpy (σ 94) (σ 100) a 0 i)) 94 (nI (a + i)).toNatClampNeg) = σ 94 (a + i) from (by rw [nI_clamp (by omega), sr_n _ _ (by decide)])]
                                refine rw_go hX [(149, .iastore)] (by decide +kernel) (Ps := [vp_in (nI i) 40]) (pc' := 150) (lv' := [(0, .ref 66), (1, .int (nI 1)), (2, .int (nI a)), (3, .int (nI 0)), (4, .int (nI b)), (5, .int (nI c)), (6, .int (nI i))]) (st' := []) (σ' := sw (sr σ 100 (va_cpy (σ 94) (σ 100) a 0 i)) 100 (nI i).toNatClampNeg (σ 94 (a + i))) rfl (vp_in_nI (by omega) (by omega)) ?_
                                rw [show (sw (sr σ 100 (va_cpy (σ 94) (σ 100) a 0 i)) 100 (nI i).toNatClampNeg (σ 94 (a + i))) = sw (sr σ 100 (va_cpy (σ 94) (σ 100) a 0 i)) 100 i (σ 94 (a + i)) from (by rw [nI_clamp (by omega)])]
                                refine rw_go hX [(150, .iinc 6 1)] (by decide +kernel) (Ps := []) (pc' := 153) (lv' := [(0, .ref 66), (1, .int (nI 1)), (2, .int (nI a)), (3, .int (nI 0)), (4, .int (nI b)), (5, .int (nI c)), (6, .int (nI i + nI 1))]) (st' := []) (σ' := sw (sr σ 100 (va_cpy (σ 94) (σ 100) a 0 i)) 100 i (σ 94 (a + i))) rfl True.intro ?_
                                rw [show (nI i + nI 1) = nI (i + 1) from nI_add _ _]
                                refine rw_go hX [(153, .goto (-28))] (by decide +kernel) (Ps := []) (pc' := 125) (lv' := [(0, .ref 66), (1, .int (nI 1)), (2, .int (nI a)), (3, .int (nI 0)), (4, .int (nI b)), (5, .int (nI c)), (6, .int (nI (i + 1)))]) (st' := []) (σ' := sw (sr σ 100 (va_cpy (σ 94) (σ 100) a 0 i)) 100 i (σ 94 (a + i))) rfl True.intro ?_
                                refine rw_lsub (ks := [0, 1, 2, 3, 4, 5, 6]) (lv' := [(0, .ref 66), (1, .int (nI 1)), (2, .int (nI a)), (3, .int (nI 0)), (4, .int (nI b)), (5, .int (nI c)), (6, .int (nI (i + 1)))]) rfl ?_
                                have q := ih125 (c - (i + 1)) (by omega) (i + 1) rfl (by omega)
                                rw [← cpy_1, Nat.zero_add] at q
                                rw [sw_sr]
                                exact q
                          refine rw_lsub (ks := [0, 1, 2, 3, 4, 5, 6]) (lv' := [(0, .ref 66), (1, .int (nI 1)), (2, .int (nI a)), (3, .int (nI 0)), (4, .int (nI b)), (5, .int (nI c)), (6, .int (nI 0))]) rfl ?_
                          have q := L125 c 0 rfl (by omega)
                          rw [cpy_0, sr_id] at q
                          exact q
                        · replace h116 : ¬ (xj ≤ nI (n 0 - c)) := h116
                          have hcp : pz (cpOK (nI a) xj (nI c) (n 1) (n 0)) = false := pz_f fun ⟨a9, b9, k9, e1, e2, e3, g1, g2⟩ => by
                            have e9 := (nI_eq (by omega) (by omega)).mp e3
                            rw [e2] at h116
                            exact absurd (nI_le (by omega) (by omega)) h116
                          refine rw_go hX [(119, .bipush (-12))] (by decide +kernel) (Ps := []) (pc' := 121) (lv' := [(0, .ref 66), (1, .int (nI 1)), (2, .int (nI a)), (3, .int (nI 0)), (4, .int xj), (5, .int (nI c))]) (st' := [.int (-(nI 12))]) (σ' := σ) rfl True.intro ?_
                          exact rw_iret hX (by decide +kernel) (⟨by simp only [aCopy, eq_true hk4, eq_true hu4, hcs, hct, eq_true h4, eq_true h11, eq_false h23, eq_false hso1, eq_true h32, eq_false hso2, eq_true h50, eq_false h58, eq_false h62, eq_false h67, eq_false h78, hcc, eq_true h89, eq_false h102, hca, eq_false h116, hcp, if_true, if_false, Bool.false_eq_true, and_self, and_true, true_and, and_false, false_and, oel_n, oel_s, decide_true, decide_false], by simp only [sCopyM, eq_true hk4, eq_true hu4, hcs, hct, eq_true h4, eq_true h11, eq_false h23, eq_false hso1, eq_true h32, eq_false hso2, eq_true h50, eq_false h58, eq_false h62, eq_false h67, eq_false h78, hcc, eq_true h89, eq_false h102, hca, eq_false h116, hcp, if_true, if_false, Bool.false_eq_true, and_self, and_true, true_and, and_false, false_and, oel_n, oel_s, decide_true, decide_false]⟩)
          · replace h50 : ¬ (σ 97 1 = σ 97 0) := h50
            refine rw_go hX [(53, .bipush (-13))] (by decide +kernel) (Ps := []) (pc' := 55) (lv' := [(0, .ref 66), (1, .int (nI 1)), (2, .int xi), (3, .int (nI 0)), (4, .int xj), (5, .int xk)]) (st' := [.int (-(nI 13))]) (σ' := σ) rfl True.intro ?_
            exact rw_iret hX (by decide +kernel) (⟨by simp only [aCopy, eq_true hk4, eq_true hu4, hcs, hct, eq_true h4, eq_true h11, eq_false h23, eq_false hso1, eq_true h32, eq_false hso2, eq_false h50, if_true, if_false, Bool.false_eq_true, and_self, and_true, true_and, and_false, false_and, oel_n, oel_s, decide_true, decide_false], by simp only [sCopyM, eq_true hk4, eq_true hu4, hcs, hct, eq_true h4, eq_true h11, eq_false h23, eq_false hso1, eq_true h32, eq_false hso2, eq_false h50, if_true, if_false, Bool.false_eq_true, and_self, and_true, true_and, and_false, false_and, oel_n, oel_s, decide_true, decide_false]⟩)
        · replace h32 : ¬ (σ 97 0 ≥ 0) := h32
          have hso2 : σ 97 0 = -(nI 1) := (so_m hou).mp (Int32.not_le.mp h32)
          refine rw_go hX [(35, .bipush (-11))] (by decide +kernel) (Ps := []) (pc' := 37) (lv' := [(0, .ref 66), (1, .int (nI 1)), (2, .int xi), (3, .int (nI 0)), (4, .int xj), (5, .int xk)]) (st' := [.int (-(nI 11))]) (σ' := σ) rfl True.intro ?_
          exact rw_iret hX (by decide +kernel) (⟨by simp only [aCopy, eq_true hk4, eq_true hu4, hcs, hct, eq_true h4, eq_true h11, eq_false h23, eq_false hso1, eq_false h32, eq_true hso2, if_true, if_false, Bool.false_eq_true, and_self, and_true, true_and, and_false, false_and, oel_n, oel_s, decide_true, decide_false], by simp only [sCopyM, eq_true hk4, eq_true hu4, hcs, hct, eq_true h4, eq_true h11, eq_false h23, eq_false hso1, eq_false h32, eq_true hso2, if_true, if_false, Bool.false_eq_true, and_self, and_true, true_and, and_false, false_and, oel_n, oel_s, decide_true, decide_false]⟩)
    · exact absurd (by simp only [cz, cc2]; decide +kernel) h11
set_option maxRecDepth 20000 in
set_option maxHeartbeats 800000 in
theorem g_copy_1_1 (l : Launch) (G : Gl) (σ : Mm) (n : Nat → Nat) (xi xj xk : Int32) (hsh : ∀ s, s < 4 → σ 98 s = nI (n s) ∧ n s ≤ 40) (hso : ∀ s, s < 4 → σ 97 s = -(nI 1) ∨ σ 97 s = nI 0 ∨ σ 97 s = nI 1) : AMi l G 3 mX10_copy [.ref 66, .int (nI 1), .int xi, .int (nI 1), .int xj, .int xk] σ (fun r σ' => r = aCopy n (σ 97) (nI 1) xi (nI 1) xj xk ∧ σ' = sCopyM n σ (nI 1) xi (nI 1) xj xk) := by
  refine rw_inI 10 (by decide +kernel) rfl rfl ?_
  intro E hE hX
  subst hE
  have hk4 := film_r 1 (by omega)
  have hu4 := film_r 1 (by omega)
  have hcs : (nI 1).toNatClampNeg = 1 := nI_clamp (by omega)
  have hct : (nI 1).toNatClampNeg = 1 := nI_clamp (by omega)
  have hns := hsh 1 (by omega)
  have hos := hso 1 (by omega)
  have hnu := hsh 1 (by omega)
  have hou := hso 1 (by omega)
  refine rw_go hX [(0, .iload_n 1)] (by decide +kernel) (Ps := []) (pc' := 1) (lv' := [(0, .ref 66), (1, .int (nI 1)), (2, .int xi), (3, .int (nI 1)), (4, .int xj), (5, .int xk)]) (st' := [.int (nI 1)]) (σ' := σ) rfl True.intro ?_
  refine rw_callSi hX (as := [.int (nI 1)]) (rest := []) (m_isSheet _ _ _ (nI 1)) (by decide +kernel) msX10_isSheet (Or.inl lk10_298) rfl (by decide) (Nat.le_of_ble_eq_true rfl) rfl ?_
  intro r1 σ1 hr
  rw [hr.1, show r1 = nI 1 from hr.2.trans (by decide +kernel)]
  clear hr σ1 r1
  refine rw_if hX (tgt := 14) (cnd := .eq) (off := 10) (by decide +kernel) (by decide) (fun h4 => ?_) (fun h4 => ?_)
  · exact absurd h4 (by simp only [cz, cc2]; decide +kernel)
  · skip
    refine rw_go hX [(7, .iload_n 3)] (by decide +kernel) (Ps := []) (pc' := 8) (lv' := [(0, .ref 66), (1, .int (nI 1)), (2, .int xi), (3, .int (nI 1)), (4, .int xj), (5, .int xk)]) (st' := [.int (nI 1)]) (σ' := σ) rfl True.intro ?_
    refine rw_callSi hX (as := [.int (nI 1)]) (rest := []) (m_isSheet _ _ _ (nI 1)) (by decide +kernel) msX10_isSheet (Or.inl lk10_298) rfl (by decide) (Nat.le_of_ble_eq_true rfl) rfl ?_
    intro r1 σ1 hr
    rw [hr.1, show r1 = nI 1 from hr.2.trans (by decide +kernel)]
    clear hr σ1 r1
    refine rw_if hX (tgt := 17) (cnd := .ne) (off := 6) (by decide +kernel) (by decide) (fun h11 => ?_) (fun h11 => ?_)
    · skip
      refine rw_go hX [(17, .aload_n 0), (18, .getfield 91), (21, .iload_n 1), (22, .iaload)] (by decide +kernel) (Ps := [vp_in (nI 1) 4]) (pc' := 23) (lv' := [(0, .ref 66), (1, .int (nI 1)), (2, .int xi), (3, .int (nI 1)), (4, .int xj), (5, .int xk)]) (st' := [.int (σ 97 (nI 1).toNatClampNeg)]) (σ' := σ) rfl (vp_in_nI (by omega) (by omega)) ?_
      rw [show (σ 97 (nI 1).toNatClampNeg) = σ 97 1 from (by rw [nI_clamp (by omega)])]
      refine rw_if hX (tgt := 35) (cnd := .lt) (off := 12) (by decide +kernel) (by decide) (fun h23 => ?_) (fun h23 => ?_)
      · replace h23 : (σ 97 1 < 0) := h23
        have hso1 : σ 97 1 = -(nI 1) := (so_m hos).mp h23
        refine rw_go hX [(35, .bipush (-11))] (by decide +kernel) (Ps := []) (pc' := 37) (lv' := [(0, .ref 66), (1, .int (nI 1)), (2, .int xi), (3, .int (nI 1)), (4, .int xj), (5, .int xk)]) (st' := [.int (-(nI 11))]) (σ' := σ) rfl True.intro ?_
        exact rw_iret hX (by decide +kernel) (⟨by simp only [aCopy, eq_true hk4, eq_true hu4, hcs, hct, eq_true h4, eq_true h11, eq_true h23, eq_true hso1, if_true, if_false, Bool.false_eq_true, and_self, and_true, true_and, and_false, false_and, oel_n, oel_s, decide_true, decide_false], by simp only [sCopyM, eq_true hk4, eq_true hu4, hcs, hct, eq_true h4, eq_true h11, eq_true h23, eq_true hso1, if_true, if_false, Bool.false_eq_true, and_self, and_true, true_and, and_false, false_and, oel_n, oel_s, decide_true, decide_false]⟩)
      · replace h23 : ¬ (σ 97 1 < 0) := h23
        have hso1 : ¬ σ 97 1 = -(nI 1) := fun z => h23 ((so_m hos).mpr z)
        refine rw_go hX [(26, .aload_n 0), (27, .getfield 91), (30, .iload_n 3), (31, .iaload)] (by decide +kernel) (Ps := [vp_in (nI 1) 4]) (pc' := 32) (lv' := [(0, .ref 66), (1, .int (nI 1)), (2, .int xi), (3, .int (nI 1)), (4, .int xj), (5, .int xk)]) (st' := [.int (σ 97 (nI 1).toNatClampNeg)]) (σ' := σ) rfl (vp_in_nI (by omega) (by omega)) ?_
        rw [show (σ 97 (nI 1).toNatClampNeg) = σ 97 1 from (by rw [nI_clamp (by omega)])]
        refine rw_if hX (tgt := 38) (cnd := .ge) (off := 6) (by decide +kernel) (by decide) (fun h32 => ?_) (fun h32 => ?_)
        · replace h32 : (σ 97 1 ≥ 0) := h32
          have hso2 : ¬ σ 97 1 = -(nI 1) := fun z => absurd ((so_m hou).mpr z) (Int32.not_lt.mpr h32)
          refine rw_go hX [(38, .aload_n 0), (39, .getfield 91), (42, .iload_n 1), (43, .iaload)] (by decide +kernel) (Ps := [vp_in (nI 1) 4]) (pc' := 44) (lv' := [(0, .ref 66), (1, .int (nI 1)), (2, .int xi), (3, .int (nI 1)), (4, .int xj), (5, .int xk)]) (st' := [.int (σ 97 (nI 1).toNatClampNeg)]) (σ' := σ) rfl (vp_in_nI (by omega) (by omega)) ?_
          rw [show (σ 97 (nI 1).toNatClampNeg) = σ 97 1 from (by rw [nI_clamp (by omega)])]
          refine rw_go hX [(44, .aload_n 0), (45, .getfield 91), (48, .iload_n 3), (49, .iaload)] (by decide +kernel) (Ps := [vp_in (nI 1) 4]) (pc' := 50) (lv' := [(0, .ref 66), (1, .int (nI 1)), (2, .int xi), (3, .int (nI 1)), (4, .int xj), (5, .int xk)]) (st' := [.int (σ 97 (nI 1).toNatClampNeg), .int (σ 97 1)]) (σ' := σ) rfl (vp_in_nI (by omega) (by omega)) ?_
          rw [show (σ 97 (nI 1).toNatClampNeg) = σ 97 1 from (by rw [nI_clamp (by omega)])]
          refine rw_icmp hX (tgt := 56) (cnd := .eq) (off := 6) (by decide +kernel) (by decide) (fun h50 => ?_) (fun h50 => ?_)
          · replace h50 : (σ 97 1 = σ 97 1) := h50
            refine rw_go hX [(56, .iload 5)] (by decide +kernel) (Ps := []) (pc' := 58) (lv' := [(0, .ref 66), (1, .int (nI 1)), (2, .int xi), (3, .int (nI 1)), (4, .int xj), (5, .int xk)]) (st' := [.int xk]) (σ' := σ) rfl True.intro ?_
            refine rw_if hX (tgt := 119) (cnd := .lt) (off := 61) (by decide +kernel) (by decide) (fun h58 => ?_) (fun h58 => ?_)
            · replace h58 : (xk < 0) := h58
              have hcp : pz (cpOK xi xj xk (n 1) (n 1)) = false := pz_f fun ⟨a9, b9, k9, e1, e2, e3, g1, g2⟩ => by
                rw [e3] at h58; exact absurd h58 (nI_pos (by have := hns.2; omega))
              refine rw_go hX [(119, .bipush (-12))] (by decide +kernel) (Ps := []) (pc' := 121) (lv' := [(0, .ref 66), (1, .int (nI 1)), (2, .int xi), (3, .int (nI 1)), (4, .int xj), (5, .int xk)]) (st' := [.int (-(nI 12))]) (σ' := σ) rfl True.intro ?_
              exact rw_iret hX (by decide +kernel) (⟨by simp only [aCopy, eq_true hk4, eq_true hu4, hcs, hct, eq_true h4, eq_true h11, eq_false h23, eq_false hso1, eq_true h32, eq_false hso2, eq_true h50, eq_true h58, hcp, if_true, if_false, Bool.false_eq_true, and_self, and_true, true_and, and_false, false_and, oel_n, oel_s, decide_true, decide_false], by simp only [sCopyM, eq_true hk4, eq_true hu4, hcs, hct, eq_true h4, eq_true h11, eq_false h23, eq_false hso1, eq_true h32, eq_false hso2, eq_true h50, eq_true h58, hcp, if_true, if_false, Bool.false_eq_true, and_self, and_true, true_and, and_false, false_and, oel_n, oel_s, decide_true, decide_false]⟩)
            · replace h58 : ¬ (xk < 0) := h58
              refine rw_go hX [(61, .iload_n 2)] (by decide +kernel) (Ps := []) (pc' := 62) (lv' := [(0, .ref 66), (1, .int (nI 1)), (2, .int xi), (3, .int (nI 1)), (4, .int xj), (5, .int xk)]) (st' := [.int xi]) (σ' := σ) rfl True.intro ?_
              refine rw_if hX (tgt := 119) (cnd := .lt) (off := 57) (by decide +kernel) (by decide) (fun h62 => ?_) (fun h62 => ?_)
              · replace h62 : (xi < 0) := h62
                have hcp : pz (cpOK xi xj xk (n 1) (n 1)) = false := pz_f fun ⟨a9, b9, k9, e1, e2, e3, g1, g2⟩ => by
                  rw [e1] at h62; exact absurd h62 (nI_pos (by have := hns.2; omega))
                refine rw_go hX [(119, .bipush (-12))] (by decide +kernel) (Ps := []) (pc' := 121) (lv' := [(0, .ref 66), (1, .int (nI 1)), (2, .int xi), (3, .int (nI 1)), (4, .int xj), (5, .int xk)]) (st' := [.int (-(nI 12))]) (σ' := σ) rfl True.intro ?_
                exact rw_iret hX (by decide +kernel) (⟨by simp only [aCopy, eq_true hk4, eq_true hu4, hcs, hct, eq_true h4, eq_true h11, eq_false h23, eq_false hso1, eq_true h32, eq_false hso2, eq_true h50, eq_false h58, eq_true h62, hcp, if_true, if_false, Bool.false_eq_true, and_self, and_true, true_and, and_false, false_and, oel_n, oel_s, decide_true, decide_false], by simp only [sCopyM, eq_true hk4, eq_true hu4, hcs, hct, eq_true h4, eq_true h11, eq_false h23, eq_false hso1, eq_true h32, eq_false hso2, eq_true h50, eq_false h58, eq_true h62, hcp, if_true, if_false, Bool.false_eq_true, and_self, and_true, true_and, and_false, false_and, oel_n, oel_s, decide_true, decide_false]⟩)
              · replace h62 : ¬ (xi < 0) := h62
                refine rw_go hX [(65, .iload 4)] (by decide +kernel) (Ps := []) (pc' := 67) (lv' := [(0, .ref 66), (1, .int (nI 1)), (2, .int xi), (3, .int (nI 1)), (4, .int xj), (5, .int xk)]) (st' := [.int xj]) (σ' := σ) rfl True.intro ?_
                refine rw_if hX (tgt := 119) (cnd := .lt) (off := 52) (by decide +kernel) (by decide) (fun h67 => ?_) (fun h67 => ?_)
                · replace h67 : (xj < 0) := h67
                  have hcp : pz (cpOK xi xj xk (n 1) (n 1)) = false := pz_f fun ⟨a9, b9, k9, e1, e2, e3, g1, g2⟩ => by
                    rw [e2] at h67; exact absurd h67 (nI_pos (by have := hnu.2; omega))
                  refine rw_go hX [(119, .bipush (-12))] (by decide +kernel) (Ps := []) (pc' := 121) (lv' := [(0, .ref 66), (1, .int (nI 1)), (2, .int xi), (3, .int (nI 1)), (4, .int xj), (5, .int xk)]) (st' := [.int (-(nI 12))]) (σ' := σ) rfl True.intro ?_
                  exact rw_iret hX (by decide +kernel) (⟨by simp only [aCopy, eq_true hk4, eq_true hu4, hcs, hct, eq_true h4, eq_true h11, eq_false h23, eq_false hso1, eq_true h32, eq_false hso2, eq_true h50, eq_false h58, eq_false h62, eq_true h67, hcp, if_true, if_false, Bool.false_eq_true, and_self, and_true, true_and, and_false, false_and, oel_n, oel_s, decide_true, decide_false], by simp only [sCopyM, eq_true hk4, eq_true hu4, hcs, hct, eq_true h4, eq_true h11, eq_false h23, eq_false hso1, eq_true h32, eq_false hso2, eq_true h50, eq_false h58, eq_false h62, eq_true h67, hcp, if_true, if_false, Bool.false_eq_true, and_self, and_true, true_and, and_false, false_and, oel_n, oel_s, decide_true, decide_false]⟩)
                · replace h67 : ¬ (xj < 0) := h67
                  refine rw_go hX [(70, .iload 5), (72, .aload_n 0), (73, .getfield 94), (76, .iload_n 1), (77, .iaload)] (by decide +kernel) (Ps := [vp_in (nI 1) 4]) (pc' := 78) (lv' := [(0, .ref 66), (1, .int (nI 1)), (2, .int xi), (3, .int (nI 1)), (4, .int xj), (5, .int xk)]) (st' := [.int (σ 98 (nI 1).toNatClampNeg), .int xk]) (σ' := σ) rfl (vp_in_nI (by omega) (by omega)) ?_
                  rw [show (σ 98 (nI 1).toNatClampNeg) = nI (n 1) from (by rw [nI_clamp (by omega), hnu.1])]
                  refine rw_icmp hX (tgt := 119) (cnd := .gt) (off := 41) (by decide +kernel) (by decide) (fun h78 => ?_) (fun h78 => ?_)
                  · replace h78 : (xk > nI (n 1)) := h78
                    have hcp : pz (cpOK xi xj xk (n 1) (n 1)) = false := pz_f fun ⟨a9, b9, k9, e1, e2, e3, g1, g2⟩ => by
                      rw [e3] at h78; exact absurd h78 (Int32.not_lt.mpr (nI_le (show k9 ≤ n 1 by omega) (by have := hns.2; omega)))
                    refine rw_go hX [(119, .bipush (-12))] (by decide +kernel) (Ps := []) (pc' := 121) (lv' := [(0, .ref 66), (1, .int (nI 1)), (2, .int xi), (3, .int (nI 1)), (4, .int xj), (5, .int xk)]) (st' := [.int (-(nI 12))]) (σ' := σ) rfl True.intro ?_
                    exact rw_iret hX (by decide +kernel) (⟨by simp only [aCopy, eq_true hk4, eq_true hu4, hcs, hct, eq_true h4, eq_true h11, eq_false h23, eq_false hso1, eq_true h32, eq_false hso2, eq_true h50, eq_false h58, eq_false h62, eq_false h67, eq_true h78, hcp, if_true, if_false, Bool.false_eq_true, and_self, and_true, true_and, and_false, false_and, oel_n, oel_s, decide_true, decide_false], by simp only [sCopyM, eq_true hk4, eq_true hu4, hcs, hct, eq_true h4, eq_true h11, eq_false h23, eq_false hso1, eq_true h32, eq_false hso2, eq_true h50, eq_false h58, eq_false h62, eq_false h67, eq_true h78, hcp, if_true, if_false, Bool.false_eq_true, and_self, and_true, true_and, and_false, false_and, oel_n, oel_s, decide_true, decide_false]⟩)
                  · replace h78 : ¬ (xk > nI (n 1)) := h78
                    have hn40 := hns.2
                    have hn41 := hnu.2
                    obtain ⟨c, hc, rfl⟩ := rng (m := n 1) (by omega) ⟨Int32.not_lt.mp h58, Int32.not_lt.mp h78⟩
                    have hcc : (nI c).toNatClampNeg = c := nI_clamp (by omega)
                    refine rw_go hX [(81, .iload 5), (83, .aload_n 0), (84, .getfield 94), (87, .iload_n 3), (88, .iaload)] (by decide +kernel) (Ps := [vp_in (nI 1) 4]) (pc' := 89) (lv' := [(0, .ref 66), (1, .int (nI 1)), (2, .int xi), (3, .int (nI 1)), (4, .int xj), (5, .int (nI c))]) (st' := [.int (σ 98 (nI 1).toNatClampNeg), .int (nI c)]) (σ' := σ) rfl (vp_in_nI (by omega) (by omega)) ?_
                    rw [show (σ 98 (nI 1).toNatClampNeg) = nI (n 1) from (by rw [nI_clamp (by omega), hnu.1])]
                    refine rw_icmp hX (tgt := 119) (cnd := .gt) (off := 30) (by decide +kernel) (by decide) (fun h89 => ?_) (fun h89 => ?_)
                    · replace h89 := c2_gtT h89
                      have hcp : pz (cpOK xi xj (nI c) (n 1) (n 1)) = false := pz_f fun ⟨a9, b9, k9, e1, e2, e3, g1, g2⟩ => by
                        have e9 := (nI_eq (by omega) (by omega)).mp e3
                        omega
                      refine rw_go hX [(119, .bipush (-12))] (by decide +kernel) (Ps := []) (pc' := 121) (lv' := [(0, .ref 66), (1, .int (nI 1)), (2, .int xi), (3, .int (nI 1)), (4, .int xj), (5, .int (nI c))]) (st' := [.int (-(nI 12))]) (σ' := σ) rfl True.intro ?_
                      exact rw_iret hX (by decide +kernel) (⟨by simp only [aCopy, eq_true hk4, eq_true hu4, hcs, hct, eq_true h4, eq_true h11, eq_false h23, eq_false hso1, eq_true h32, eq_false hso2, eq_true h50, eq_false h58, eq_false h62, eq_false h67, eq_false h78, hcc, eq_true h89, hcp, if_true, if_false, Bool.false_eq_true, and_self, and_true, true_and, and_false, false_and, oel_n, oel_s, decide_true, decide_false], by simp only [sCopyM, eq_true hk4, eq_true hu4, hcs, hct, eq_true h4, eq_true h11, eq_false h23, eq_false hso1, eq_true h32, eq_false hso2, eq_true h50, eq_false h58, eq_false h62, eq_false h67, eq_false h78, hcc, eq_true h89, hcp, if_true, if_false, Bool.false_eq_true, and_self, and_true, true_and, and_false, false_and, oel_n, oel_s, decide_true, decide_false]⟩)
                    · replace h89 := c2_gtF h89
                      have hcu : c ≤ n 1 := by omega
                      refine rw_go hX [(92, .iload_n 2), (93, .aload_n 0), (94, .getfield 94), (97, .iload_n 1), (98, .iaload)] (by decide +kernel) (Ps := [vp_in (nI 1) 4]) (pc' := 99) (lv' := [(0, .ref 66), (1, .int (nI 1)), (2, .int xi), (3, .int (nI 1)), (4, .int xj), (5, .int (nI c))]) (st' := [.int (σ 98 (nI 1).toNatClampNeg), .int xi]) (σ' := σ) rfl (vp_in_nI (by omega) (by omega)) ?_
                      rw [show (σ 98 (nI 1).toNatClampNeg) = nI (n 1) from (by rw [nI_clamp (by omega), hnu.1])]
                      refine rw_go hX [(99, .iload 5), (101, .isub)] (by decide +kernel) (Ps := []) (pc' := 102) (lv' := [(0, .ref 66), (1, .int (nI 1)), (2, .int xi), (3, .int (nI 1)), (4, .int xj), (5, .int (nI c))]) (st' := [.int (nI (n 1) - nI c), .int xi]) (σ' := σ) rfl True.intro ?_
                      rw [show (nI (n 1) - nI c) = nI (n 1 - c) from pk_sub (by omega)]
                      refine rw_icmp hX (tgt := 119) (cnd := .gt) (off := 17) (by decide +kernel) (by decide) (fun h102 => ?_) (fun h102 => ?_)
                      · replace h102 : (xi > nI (n 1 - c)) := h102
                        have hcp : pz (cpOK xi xj (nI c) (n 1) (n 1)) = false := pz_f fun ⟨a9, b9, k9, e1, e2, e3, g1, g2⟩ => by
                          have e9 := (nI_eq (by omega) (by omega)).mp e3
                          rw [e1] at h102
                          exact absurd h102 (Int32.not_lt.mpr (nI_le (by omega) (by omega)))
                        refine rw_go hX [(119, .bipush (-12))] (by decide +kernel) (Ps := []) (pc' := 121) (lv' := [(0, .ref 66), (1, .int (nI 1)), (2, .int xi), (3, .int (nI 1)), (4, .int xj), (5, .int (nI c))]) (st' := [.int (-(nI 12))]) (σ' := σ) rfl True.intro ?_
                        exact rw_iret hX (by decide +kernel) (⟨by simp only [aCopy, eq_true hk4, eq_true hu4, hcs, hct, eq_true h4, eq_true h11, eq_false h23, eq_false hso1, eq_true h32, eq_false hso2, eq_true h50, eq_false h58, eq_false h62, eq_false h67, eq_false h78, hcc, eq_true h89, eq_true h102, hcp, if_true, if_false, Bool.false_eq_true, and_self, and_true, true_and, and_false, false_and, oel_n, oel_s, decide_true, decide_false], by simp only [sCopyM, eq_true hk4, eq_true hu4, hcs, hct, eq_true h4, eq_true h11, eq_false h23, eq_false hso1, eq_true h32, eq_false hso2, eq_true h50, eq_false h58, eq_false h62, eq_false h67, eq_false h78, hcc, eq_true h89, eq_true h102, hcp, if_true, if_false, Bool.false_eq_true, and_self, and_true, true_and, and_false, false_and, oel_n, oel_s, decide_true, decide_false]⟩)
                      · replace h102 : ¬ (xi > nI (n 1 - c)) := h102
                        obtain ⟨a, ha, rfl⟩ := rng (m := n 1 - c) (by omega) ⟨Int32.not_lt.mp h62, Int32.not_lt.mp h102⟩
                        have hca : (nI a).toNatClampNeg = a := nI_clamp (by omega)
                        refine rw_go hX [(105, .iload 4), (107, .aload_n 0), (108, .getfield 94), (111, .iload_n 3), (112, .iaload)] (by decide +kernel) (Ps := [vp_in (nI 1) 4]) (pc' := 113) (lv' := [(0, .ref 66), (1, .int (nI 1)), (2, .int (nI a)), (3, .int (nI 1)), (4, .int xj), (5, .int (nI c))]) (st' := [.int (σ 98 (nI 1).toNatClampNeg), .int xj]) (σ' := σ) rfl (vp_in_nI (by omega) (by omega)) ?_
                        rw [show (σ 98 (nI 1).toNatClampNeg) = nI (n 1) from (by rw [nI_clamp (by omega), hnu.1])]
                        refine rw_go hX [(113, .iload 5), (115, .isub)] (by decide +kernel) (Ps := []) (pc' := 116) (lv' := [(0, .ref 66), (1, .int (nI 1)), (2, .int (nI a)), (3, .int (nI 1)), (4, .int xj), (5, .int (nI c))]) (st' := [.int (nI (n 1) - nI c), .int xj]) (σ' := σ) rfl True.intro ?_
                        rw [show (nI (n 1) - nI c) = nI (n 1 - c) from pk_sub (by omega)]
                        refine rw_icmp hX (tgt := 122) (cnd := .le) (off := 6) (by decide +kernel) (by decide) (fun h116 => ?_) (fun h116 => ?_)
                        · replace h116 : (xj ≤ nI (n 1 - c)) := h116
                          obtain ⟨b, hb, rfl⟩ := rng (m := n 1 - c) (by omega) ⟨Int32.not_lt.mp h67, h116⟩
                          have hcb : (nI b).toNatClampNeg = b := nI_clamp (by omega)
                          have hcp : pz (cpOK (nI a) (nI b) (nI c) (n 1) (n 1)) = true := pz_t ⟨a, b, c, rfl, rfl, rfl, by omega, by omega⟩
                          refine rw_go hX [(122, .iconst 0), (123, .istore 6)] (by decide +kernel) (Ps := []) (pc' := 125) (lv' := [(0, .ref 66), (1, .int (nI 1)), (2, .int (nI a)), (3, .int (nI 1)), (4, .int (nI b)), (5, .int (nI c)), (6, .int (nI 0))]) (st' := []) (σ' := σ) rfl True.intro ?_
                          have L125 : ∀ (μ125 : Nat) (i : Nat), μ125 = c - i → (i ≤ c) → RW E G 3 7 (QI E G (fun r σ' => r = aCopy n (σ 97) (nI 1) (nI a) (nI 1) (nI b) (nI c) ∧ σ' = sCopyM n σ (nI 1) (nI a) (nI 1) (nI b) (nI c))) 125 [(0, .ref 66), (1, .int (nI 1)), (2, .int (nI a)), (3, .int (nI 1)), (4, .int (nI b)), (5, .int (nI c)), (6, .int (nI i))] [] (sr σ 100 (va_cpy (σ 94) (σ 100) a 0 i)) := by
                            intro μ125
                            induction μ125 using Nat.strongRecOn with
                            | ind μ125 ih125 =>
                              intro i hμ125 hi
                              refine rw_go hX [(125, .iload 6), (127, .iload 5)] (by decide +kernel) (Ps := []) (pc' := 129) (lv' := [(0, .ref 66), (1, .int (nI 1)), (2, .int (nI a)), (3, .int (nI 1)), (4, .int (nI b)), (5, .int (nI c)), (6, .int (nI i))]) (st' := [.int (nI c), .int (nI i)]) (σ' := sr σ 100 (va_cpy (σ 94) (σ 100) a 0 i)) rfl True.intro ?_
                              refine rw_icmp hX (tgt := 156) (cnd := .ge) (off := 27) (by decide +kernel) (by decide) (fun h129 => ?_) (fun h129 => ?_)
                              · replace h129 := c2_geT h129
                                have ei : i = c := by omega
                                rw [ei]
                                refine rw_go hX [(156, .iconst 0), (157, .istore 6)] (by decide +kernel) (Ps := []) (pc' := 159) (lv' := [(0, .ref 66), (1, .int (nI 1)), (2, .int (nI a)), (3, .int (nI 1)), (4, .int (nI b)), (5, .int (nI c)), (6, .int (nI 0))]) (st' := []) (σ' := sr σ 100 (va_cpy (σ 94) (σ 100) a 0 c)) rfl True.intro ?_
                                have L159 : ∀ (μ159 : Nat) (i : Nat), μ159 = c - i → (i ≤ c) → RW E G 3 7 (QI E G (fun r σ' => r = aCopy n (σ 97) (nI 1) (nI a) (nI 1) (nI b) (nI c) ∧ σ' = sCopyM n σ (nI 1) (nI a) (nI 1) (nI b) (nI c))) 159 [(0, .ref 66), (1, .int (nI 1)), (2, .int (nI a)), (3, .int (nI 1)), (4, .int (nI b)), (5, .int (nI c)), (6, .int (nI i))] [] (sr (sr σ 100 (va_cpy (σ 94) (σ 100) a 0 c)) 94 (va_cpy (va_cpy (σ 94) (σ 100) a 0 c) (σ 94) 0 b i)) := by
                                  intro μ159
                                  induction μ159 using Nat.strongRecOn with
                                  | ind μ159 ih159 =>
                                    intro i hμ159 hi2
                                    refine rw_go hX [(159, .iload 6), (161, .iload 5)] (by decide +kernel) (Ps := []) (pc' := 163) (lv' := [(0, .ref 66), (1, .int (nI 1)), (2, .int (nI a)), (3, .int (nI 1)), (4, .int (nI b)), (5, .int (nI c)), (6, .int (nI i))]) (st' := [.int (nI c), .int (nI i)]) (σ' := sr (sr σ 100 (va_cpy (σ 94) (σ 100) a 0 c)) 94 (va_cpy (va_cpy (σ 94) (σ 100) a 0 c) (σ 94) 0 b i)) rfl True.intro ?_
                                    refine rw_icmp hX (tgt := 191) (cnd := .ge) (off := 28) (by decide +kernel) (by decide) (fun h163 => ?_) (fun h163 => ?_)
                                    · replace h163 := c2_geT h163
                                      have ei2 : i = c := by omega
                                      refine rw_go hX [(191, .iload 5)] (by decide +kernel) (Ps := []) (pc' := 193) (lv' := [(0, .ref 66), (1, .int (nI 1)), (2, .int (nI a)), (3, .int (nI 1)), (4, .int (nI b)), (5, .int (nI c)), (6, .int (nI i))]) (st' := [.int (nI c)]) (σ' := sr (sr σ 100 (va_cpy (σ 94) (σ 100) a 0 c)) 94 (va_cpy (va_cpy (σ 94) (σ 100) a 0 c) (σ 94) 0 b i)) rfl True.intro ?_
                                      exact rw_iret hX (by decide +kernel) (⟨by simp only [aCopy, eq_true hk4, eq_true hu4, hcs, hct, eq_true h4, eq_true h11, eq_false h23, eq_false hso1, eq_true h32, eq_false hso2, eq_true h50, eq_false h58, eq_false h62, eq_false h67, eq_false h78, hcc, eq_true h89, eq_false h102, hca, eq_true h116, hcb, hcp, eq_true h129, eq_true h163, if_true, if_false, Bool.false_eq_true, and_self, and_true, true_and, and_false, false_and, oel_n, oel_s, decide_true, decide_false], by simp only [sCopyM, eq_true hk4, eq_true hu4, hcs, hct, eq_true h4, eq_true h11, eq_false h23, eq_false hso1, eq_true h32, eq_false hso2, eq_true h50, eq_false h58, eq_false h62, eq_false h67, eq_false h78, hcc, eq_true h89, eq_false h102, hca, eq_true h116, hcb, hcp, eq_true h129, eq_true h163, if_true, if_false, Bool.false_eq_true, and_self, and_true, true_and, and_false, false_and, oel_n, oel_s, decide_true, decide_false]; rw [ei2]; rfl⟩)
                                    · replace h163 := c2_geF h163
                                      refine rw_go hX [(166, .aload_n 0), (167, .getfield 88), (170, .iload_n 3), (171, .aaload), (172, .iload 4), (174, .iload 6), (176, .iadd)] (by decide +kernel) (Ps := [vp_in (nI 1) 4]) (pc' := 177) (lv' := [(0, .ref 66), (1, .int (nI 1)), (2, .int (nI a)), (3, .int (nI 1)), (4, .int (nI b)), (5, .int (nI c)), (6, .int (nI i))]) (st' := [.int (nI b + nI i), .ref 94]) (σ' := sr (sr σ 100 (va_cpy (σ 94) (σ 100) a 0 c)) 94 (va_cpy (va_cpy (σ 94) (σ 100) a 0 c) (σ 94) 0 b i)) rfl (vp_in_nI (by omega) (by omega)) ?_
                                      rw [show (nI b + nI i) = nI (b + i) from nI_add _ _]
                                      refine rw_go hX [(177, .aload_n 0), (178, .getfield 100), (181, .iload 6), (183, .iaload)] (by decide +kernel) (Ps := [vp_in (nI i) 40]) (pc' := 184) (lv' := [(0, .ref 66), (1, .int (nI 1)), (2, .int (nI a)), (3, .int (nI 1)), (4, .int (nI b)), (5, .int (nI c)), (6, .int (nI i))]) (st' := [.int ((sr (sr σ 100 (va_cpy (σ 94) (σ 100) a 0 c)) 94 (va_cpy (va_cpy (σ 94) (σ 100) a 0 c) (σ 94) 0 b i)) 100 (nI i).toNatClampNeg), .int (nI (b + i)), .ref 94]) (σ' := sr (sr σ 100 (va_cpy (σ 94) (σ 100) a 0 c)) 94 (va_cpy (va_cpy (σ 94) (σ 100) a 0 c) (σ 94) 0 b i)) rfl (vp_in_nI (by omega) (by omega)) ?_
                                      rw [show ((sr (sr σ 100 (va_cpy (σ 94) (σ 100) a 0 c)) 94 (va_cpy (va_cpy (σ 94) (σ 100) a 0 c) (σ 94) 0 b i)) 100 (nI i).toNatClampNeg) = (va_cpy (σ 94) (σ 100) a 0 c) i from (by rw [nI_clamp (by omega), sr_n _ _ (by decide), sr_s])]
                                      refine rw_go hX [(184, .iastore)] (by decide +kernel) (Ps := [vp_in (nI (b + i)) 40]) (pc' := 185) (lv' := [(0, .ref 66), (1, .int (nI 1)), (2, .int (nI a)), (3, .int (nI 1)), (4, .int (nI b)), (5, .int (nI c)), (6, .int (nI i))]) (st' := []) (σ' := sw (sr (sr σ 100 (va_cpy (σ 94) (σ 100) a 0 c)) 94 (va_cpy (va_cpy (σ 94) (σ 100) a 0 c) (σ 94) 0 b i)) 94 (nI (b + i)).toNatClampNeg ((va_cpy (σ 94) (σ 100) a 0 c) i)) rfl (vp_in_nI (by omega) (by omega)) ?_
                                      rw [show (sw (sr (sr σ 100 (va_cpy (σ 94) (σ 100) a 0 c)) 94 (va_cpy (va_cpy (σ 94) (σ 100) a 0 c) (σ 94) 0 b i)) 94 (nI (b + i)).toNatClampNeg ((va_cpy (σ 94) (σ 100) a 0 c) i)) = sw (sr (sr σ 100 (va_cpy (σ 94) (σ 100) a 0 c)) 94 (va_cpy (va_cpy (σ 94) (σ 100) a 0 c) (σ 94) 0 b i)) 94 (b + i) ((va_cpy (σ 94) (σ 100) a 0 c) i) from (by rw [nI_clamp (by omega)])]
                                      refine rw_go hX [(185, .iinc 6 1)] (by decide +kernel) (Ps := []) (pc' := 188) (lv' := [(0, .ref 66), (1, .int (nI 1)), (2, .int (nI a)), (3, .int (nI 1)), (4, .int (nI b)), (5, .int (nI c)), (6, .int (nI i + nI 1))]) (st' := []) (σ' := sw (sr (sr σ 100 (va_cpy (σ 94) (σ 100) a 0 c)) 94 (va_cpy (va_cpy (σ 94) (σ 100) a 0 c) (σ 94) 0 b i)) 94 (b + i) ((va_cpy (σ 94) (σ 100) a 0 c) i)) rfl True.intro ?_
                                      rw [show (nI i + nI 1) = nI (i + 1) from nI_add _ _]
                                      refine rw_go hX [(188, .goto (-29))] (by decide +kernel) (Ps := []) (pc' := 159) (lv' := [(0, .ref 66), (1, .int (nI 1)), (2, .int (nI a)), (3, .int (nI 1)), (4, .int (nI b)), (5, .int (nI c)), (6, .int (nI (i + 1)))]) (st' := []) (σ' := sw (sr (sr σ 100 (va_cpy (σ 94) (σ 100) a 0 c)) 94 (va_cpy (va_cpy (σ 94) (σ 100) a 0 c) (σ 94) 0 b i)) 94 (b + i) ((va_cpy (σ 94) (σ 100) a 0 c) i)) rfl True.intro ?_
                                      refine rw_lsub (ks := [0, 1, 2, 3, 4, 5, 6]) (lv' := [(0, .ref 66), (1, .int (nI 1)), (2, .int (nI a)), (3, .int (nI 1)), (4, .int (nI b)), (5, .int (nI c)), (6, .int (nI (i + 1)))]) rfl ?_
                                      have q := ih159 (c - (i + 1)) (by omega) (i + 1) rfl (by omega)
                                      rw [← cpy_1, Nat.zero_add] at q
                                      rw [sw_sr]
                                      exact q
                                refine rw_lsub (ks := [0, 1, 2, 3, 4, 5, 6]) (lv' := [(0, .ref 66), (1, .int (nI 1)), (2, .int (nI a)), (3, .int (nI 1)), (4, .int (nI b)), (5, .int (nI c)), (6, .int (nI 0))]) rfl ?_
                                have q := L159 c 0 rfl (by omega)
                                rw [cpy_0, show sr (sr σ 100 (va_cpy (σ 94) (σ 100) a 0 c)) 94 (σ 94) = sr σ 100 (va_cpy (σ 94) (σ 100) a 0 c) from by
                                  funext q
                                  by_cases z : q = 94
                                  · subst z; rw [sr_s, sr_n _ _ (by decide)]
                                  · rw [sr_n _ _ z]] at q
                                exact q
                              · replace h129 := c2_geF h129
                                refine rw_go hX [(132, .aload_n 0), (133, .getfield 100), (136, .iload 6), (138, .aload_n 0), (139, .getfield 88), (142, .iload_n 1), (143, .aaload), (144, .iload_n 2), (145, .iload 6), (147, .iadd)] (by decide +kernel) (Ps := [vp_in (nI 1) 4]) (pc' := 148) (lv' := [(0, .ref 66), (1, .int (nI 1)), (2, .int (nI a)), (3, .int (nI 1)), (4, .int (nI b)), (5, .int (nI c)), (6, .int (nI i))]) (st' := [.int (nI a + nI i), .ref 94, .int (nI i), .ref 100]) (σ' := sr σ 100 (va_cpy (σ 94) (σ 100) a 0 i)) rfl (vp_in_nI (by omega) (by omega)) ?_
                                rw [show (nI a + nI i) = nI (a + i) from nI_add _ _]
                                refine rw_go hX [(148, .iaload)] (by decide +kernel) (Ps := [vp_in (nI (a + i)) 40]) (pc' := 149) (lv' := [(0, .ref 66), (1, .int (nI 1)), (2, .int (nI a)), (3, .int (nI 1)), (4, .int (nI b)), (5, .int (nI c)), (6, .int (nI i))]) (st' := [.int ((sr σ 100 (va_cpy (σ 94) (σ 100) a 0 i)) 94 (nI (a + i)).toNatClampNeg), .int (nI i), .ref 100]) (σ' := sr σ 100 (va_cpy (σ 94) (σ 100) a 0 i)) rfl (vp_in_nI (by omega) (by omega)) ?_
                                rw [show ((sr σ 100 (va_cpy (σ 94) (σ 100) a 0 i)) 94 (nI (a + i)).toNatClampNeg) = σ 94 (a + i) from (by rw [nI_clamp (by omega), sr_n _ _ (by decide)])]
                                refine rw_go hX [(149, .iastore)] (by decide +kernel) (Ps := [vp_in (nI i) 40]) (pc' := 150) (lv' := [(0, .ref 66), (1, .int (nI 1)), (2, .int (nI a)), (3, .int (nI 1)), (4, .int (nI b)), (5, .int (nI c)), (6, .int (nI i))]) (st' := []) (σ' := sw (sr σ 100 (va_cpy (σ 94) (σ 100) a 0 i)) 100 (nI i).toNatClampNeg (σ 94 (a + i))) rfl (vp_in_nI (by omega) (by omega)) ?_
                                rw [show (sw (sr σ 100 (va_cpy (σ 94) (σ 100) a 0 i)) 100 (nI i).toNatClampNeg (σ 94 (a + i))) = sw (sr σ 100 (va_cpy (σ 94) (σ 100) a 0 i)) 100 i (σ 94 (a + i)) from (by rw [nI_clamp (by omega)])]
                                refine rw_go hX [(150, .iinc 6 1)] (by decide +kernel) (Ps := []) (pc' := 153) (lv' := [(0, .ref 66), (1, .int (nI 1)), (2, .int (nI a)), (3, .int (nI 1)), (4, .int (nI b)), (5, .int (nI c)), (6, .int (nI i + nI 1))]) (st' := []) (σ' := sw (sr σ 100 (va_cpy (σ 94) (σ 100) a 0 i)) 100 i (σ 94 (a + i))) rfl True.intro ?_
                                rw [show (nI i + nI 1) = nI (i + 1) from nI_add _ _]
                                refine rw_go hX [(153, .goto (-28))] (by decide +kernel) (Ps := []) (pc' := 125) (lv' := [(0, .ref 66), (1, .int (nI 1)), (2, .int (nI a)), (3, .int (nI 1)), (4, .int (nI b)), (5, .int (nI c)), (6, .int (nI (i + 1)))]) (st' := []) (σ' := sw (sr σ 100 (va_cpy (σ 94) (σ 100) a 0 i)) 100 i (σ 94 (a + i))) rfl True.intro ?_
                                refine rw_lsub (ks := [0, 1, 2, 3, 4, 5, 6]) (lv' := [(0, .ref 66), (1, .int (nI 1)), (2, .int (nI a)), (3, .int (nI 1)), (4, .int (nI b)), (5, .int (nI c)), (6, .int (nI (i + 1)))]) rfl ?_
                                have q := ih125 (c - (i + 1)) (by omega) (i + 1) rfl (by omega)
                                rw [← cpy_1, Nat.zero_add] at q
                                rw [sw_sr]
                                exact q
                          refine rw_lsub (ks := [0, 1, 2, 3, 4, 5, 6]) (lv' := [(0, .ref 66), (1, .int (nI 1)), (2, .int (nI a)), (3, .int (nI 1)), (4, .int (nI b)), (5, .int (nI c)), (6, .int (nI 0))]) rfl ?_
                          have q := L125 c 0 rfl (by omega)
                          rw [cpy_0, sr_id] at q
                          exact q
                        · replace h116 : ¬ (xj ≤ nI (n 1 - c)) := h116
                          have hcp : pz (cpOK (nI a) xj (nI c) (n 1) (n 1)) = false := pz_f fun ⟨a9, b9, k9, e1, e2, e3, g1, g2⟩ => by
                            have e9 := (nI_eq (by omega) (by omega)).mp e3
                            rw [e2] at h116
                            exact absurd (nI_le (by omega) (by omega)) h116
                          refine rw_go hX [(119, .bipush (-12))] (by decide +kernel) (Ps := []) (pc' := 121) (lv' := [(0, .ref 66), (1, .int (nI 1)), (2, .int (nI a)), (3, .int (nI 1)), (4, .int xj), (5, .int (nI c))]) (st' := [.int (-(nI 12))]) (σ' := σ) rfl True.intro ?_
                          exact rw_iret hX (by decide +kernel) (⟨by simp only [aCopy, eq_true hk4, eq_true hu4, hcs, hct, eq_true h4, eq_true h11, eq_false h23, eq_false hso1, eq_true h32, eq_false hso2, eq_true h50, eq_false h58, eq_false h62, eq_false h67, eq_false h78, hcc, eq_true h89, eq_false h102, hca, eq_false h116, hcp, if_true, if_false, Bool.false_eq_true, and_self, and_true, true_and, and_false, false_and, oel_n, oel_s, decide_true, decide_false], by simp only [sCopyM, eq_true hk4, eq_true hu4, hcs, hct, eq_true h4, eq_true h11, eq_false h23, eq_false hso1, eq_true h32, eq_false hso2, eq_true h50, eq_false h58, eq_false h62, eq_false h67, eq_false h78, hcc, eq_true h89, eq_false h102, hca, eq_false h116, hcp, if_true, if_false, Bool.false_eq_true, and_self, and_true, true_and, and_false, false_and, oel_n, oel_s, decide_true, decide_false]⟩)
          · replace h50 : ¬ (σ 97 1 = σ 97 1) := h50
            exact absurd rfl h50
        · replace h32 : ¬ (σ 97 1 ≥ 0) := h32
          exact absurd ((so_m hou).mp (Int32.not_le.mp h32)) hso1
    · exact absurd (by simp only [cz, cc2]; decide +kernel) h11
set_option maxRecDepth 20000 in
set_option maxHeartbeats 800000 in
theorem g_copy_1_2 (l : Launch) (G : Gl) (σ : Mm) (n : Nat → Nat) (xi xj xk : Int32) (hsh : ∀ s, s < 4 → σ 98 s = nI (n s) ∧ n s ≤ 40) (hso : ∀ s, s < 4 → σ 97 s = -(nI 1) ∨ σ 97 s = nI 0 ∨ σ 97 s = nI 1) : AMi l G 3 mX10_copy [.ref 66, .int (nI 1), .int xi, .int (nI 2), .int xj, .int xk] σ (fun r σ' => r = aCopy n (σ 97) (nI 1) xi (nI 2) xj xk ∧ σ' = sCopyM n σ (nI 1) xi (nI 2) xj xk) := by
  refine rw_inI 10 (by decide +kernel) rfl rfl ?_
  intro E hE hX
  subst hE
  have hk4 := film_r 1 (by omega)
  have hu4 := film_r 2 (by omega)
  have hcs : (nI 1).toNatClampNeg = 1 := nI_clamp (by omega)
  have hct : (nI 2).toNatClampNeg = 2 := nI_clamp (by omega)
  have hns := hsh 1 (by omega)
  have hos := hso 1 (by omega)
  have hnu := hsh 2 (by omega)
  have hou := hso 2 (by omega)
  refine rw_go hX [(0, .iload_n 1)] (by decide +kernel) (Ps := []) (pc' := 1) (lv' := [(0, .ref 66), (1, .int (nI 1)), (2, .int xi), (3, .int (nI 2)), (4, .int xj), (5, .int xk)]) (st' := [.int (nI 1)]) (σ' := σ) rfl True.intro ?_
  refine rw_callSi hX (as := [.int (nI 1)]) (rest := []) (m_isSheet _ _ _ (nI 1)) (by decide +kernel) msX10_isSheet (Or.inl lk10_298) rfl (by decide) (Nat.le_of_ble_eq_true rfl) rfl ?_
  intro r1 σ1 hr
  rw [hr.1, show r1 = nI 1 from hr.2.trans (by decide +kernel)]
  clear hr σ1 r1
  refine rw_if hX (tgt := 14) (cnd := .eq) (off := 10) (by decide +kernel) (by decide) (fun h4 => ?_) (fun h4 => ?_)
  · exact absurd h4 (by simp only [cz, cc2]; decide +kernel)
  · skip
    refine rw_go hX [(7, .iload_n 3)] (by decide +kernel) (Ps := []) (pc' := 8) (lv' := [(0, .ref 66), (1, .int (nI 1)), (2, .int xi), (3, .int (nI 2)), (4, .int xj), (5, .int xk)]) (st' := [.int (nI 2)]) (σ' := σ) rfl True.intro ?_
    refine rw_callSi hX (as := [.int (nI 2)]) (rest := []) (m_isSheet _ _ _ (nI 2)) (by decide +kernel) msX10_isSheet (Or.inl lk10_298) rfl (by decide) (Nat.le_of_ble_eq_true rfl) rfl ?_
    intro r1 σ1 hr
    rw [hr.1, show r1 = nI 1 from hr.2.trans (by decide +kernel)]
    clear hr σ1 r1
    refine rw_if hX (tgt := 17) (cnd := .ne) (off := 6) (by decide +kernel) (by decide) (fun h11 => ?_) (fun h11 => ?_)
    · skip
      refine rw_go hX [(17, .aload_n 0), (18, .getfield 91), (21, .iload_n 1), (22, .iaload)] (by decide +kernel) (Ps := [vp_in (nI 1) 4]) (pc' := 23) (lv' := [(0, .ref 66), (1, .int (nI 1)), (2, .int xi), (3, .int (nI 2)), (4, .int xj), (5, .int xk)]) (st' := [.int (σ 97 (nI 1).toNatClampNeg)]) (σ' := σ) rfl (vp_in_nI (by omega) (by omega)) ?_
      rw [show (σ 97 (nI 1).toNatClampNeg) = σ 97 1 from (by rw [nI_clamp (by omega)])]
      refine rw_if hX (tgt := 35) (cnd := .lt) (off := 12) (by decide +kernel) (by decide) (fun h23 => ?_) (fun h23 => ?_)
      · replace h23 : (σ 97 1 < 0) := h23
        have hso1 : σ 97 1 = -(nI 1) := (so_m hos).mp h23
        refine rw_go hX [(35, .bipush (-11))] (by decide +kernel) (Ps := []) (pc' := 37) (lv' := [(0, .ref 66), (1, .int (nI 1)), (2, .int xi), (3, .int (nI 2)), (4, .int xj), (5, .int xk)]) (st' := [.int (-(nI 11))]) (σ' := σ) rfl True.intro ?_
        exact rw_iret hX (by decide +kernel) (⟨by simp only [aCopy, eq_true hk4, eq_true hu4, hcs, hct, eq_true h4, eq_true h11, eq_true h23, eq_true hso1, if_true, if_false, Bool.false_eq_true, and_self, and_true, true_and, and_false, false_and, oel_n, oel_s, decide_true, decide_false], by simp only [sCopyM, eq_true hk4, eq_true hu4, hcs, hct, eq_true h4, eq_true h11, eq_true h23, eq_true hso1, if_true, if_false, Bool.false_eq_true, and_self, and_true, true_and, and_false, false_and, oel_n, oel_s, decide_true, decide_false]⟩)
      · replace h23 : ¬ (σ 97 1 < 0) := h23
        have hso1 : ¬ σ 97 1 = -(nI 1) := fun z => h23 ((so_m hos).mpr z)
        refine rw_go hX [(26, .aload_n 0), (27, .getfield 91), (30, .iload_n 3), (31, .iaload)] (by decide +kernel) (Ps := [vp_in (nI 2) 4]) (pc' := 32) (lv' := [(0, .ref 66), (1, .int (nI 1)), (2, .int xi), (3, .int (nI 2)), (4, .int xj), (5, .int xk)]) (st' := [.int (σ 97 (nI 2).toNatClampNeg)]) (σ' := σ) rfl (vp_in_nI (by omega) (by omega)) ?_
        rw [show (σ 97 (nI 2).toNatClampNeg) = σ 97 2 from (by rw [nI_clamp (by omega)])]
        refine rw_if hX (tgt := 38) (cnd := .ge) (off := 6) (by decide +kernel) (by decide) (fun h32 => ?_) (fun h32 => ?_)
        · replace h32 : (σ 97 2 ≥ 0) := h32
          have hso2 : ¬ σ 97 2 = -(nI 1) := fun z => absurd ((so_m hou).mpr z) (Int32.not_lt.mpr h32)
          refine rw_go hX [(38, .aload_n 0), (39, .getfield 91), (42, .iload_n 1), (43, .iaload)] (by decide +kernel) (Ps := [vp_in (nI 1) 4]) (pc' := 44) (lv' := [(0, .ref 66), (1, .int (nI 1)), (2, .int xi), (3, .int (nI 2)), (4, .int xj), (5, .int xk)]) (st' := [.int (σ 97 (nI 1).toNatClampNeg)]) (σ' := σ) rfl (vp_in_nI (by omega) (by omega)) ?_
          rw [show (σ 97 (nI 1).toNatClampNeg) = σ 97 1 from (by rw [nI_clamp (by omega)])]
          refine rw_go hX [(44, .aload_n 0), (45, .getfield 91), (48, .iload_n 3), (49, .iaload)] (by decide +kernel) (Ps := [vp_in (nI 2) 4]) (pc' := 50) (lv' := [(0, .ref 66), (1, .int (nI 1)), (2, .int xi), (3, .int (nI 2)), (4, .int xj), (5, .int xk)]) (st' := [.int (σ 97 (nI 2).toNatClampNeg), .int (σ 97 1)]) (σ' := σ) rfl (vp_in_nI (by omega) (by omega)) ?_
          rw [show (σ 97 (nI 2).toNatClampNeg) = σ 97 2 from (by rw [nI_clamp (by omega)])]
          refine rw_icmp hX (tgt := 56) (cnd := .eq) (off := 6) (by decide +kernel) (by decide) (fun h50 => ?_) (fun h50 => ?_)
          · replace h50 : (σ 97 1 = σ 97 2) := h50
            refine rw_go hX [(56, .iload 5)] (by decide +kernel) (Ps := []) (pc' := 58) (lv' := [(0, .ref 66), (1, .int (nI 1)), (2, .int xi), (3, .int (nI 2)), (4, .int xj), (5, .int xk)]) (st' := [.int xk]) (σ' := σ) rfl True.intro ?_
            refine rw_if hX (tgt := 119) (cnd := .lt) (off := 61) (by decide +kernel) (by decide) (fun h58 => ?_) (fun h58 => ?_)
            · replace h58 : (xk < 0) := h58
              have hcp : pz (cpOK xi xj xk (n 1) (n 2)) = false := pz_f fun ⟨a9, b9, k9, e1, e2, e3, g1, g2⟩ => by
                rw [e3] at h58; exact absurd h58 (nI_pos (by have := hns.2; omega))
              refine rw_go hX [(119, .bipush (-12))] (by decide +kernel) (Ps := []) (pc' := 121) (lv' := [(0, .ref 66), (1, .int (nI 1)), (2, .int xi), (3, .int (nI 2)), (4, .int xj), (5, .int xk)]) (st' := [.int (-(nI 12))]) (σ' := σ) rfl True.intro ?_
              exact rw_iret hX (by decide +kernel) (⟨by simp only [aCopy, eq_true hk4, eq_true hu4, hcs, hct, eq_true h4, eq_true h11, eq_false h23, eq_false hso1, eq_true h32, eq_false hso2, eq_true h50, eq_true h58, hcp, if_true, if_false, Bool.false_eq_true, and_self, and_true, true_and, and_false, false_and, oel_n, oel_s, decide_true, decide_false], by simp only [sCopyM, eq_true hk4, eq_true hu4, hcs, hct, eq_true h4, eq_true h11, eq_false h23, eq_false hso1, eq_true h32, eq_false hso2, eq_true h50, eq_true h58, hcp, if_true, if_false, Bool.false_eq_true, and_self, and_true, true_and, and_false, false_and, oel_n, oel_s, decide_true, decide_false]⟩)
            · replace h58 : ¬ (xk < 0) := h58
              refine rw_go hX [(61, .iload_n 2)] (by decide +kernel) (Ps := []) (pc' := 62) (lv' := [(0, .ref 66), (1, .int (nI 1)), (2, .int xi), (3, .int (nI 2)), (4, .int xj), (5, .int xk)]) (st' := [.int xi]) (σ' := σ) rfl True.intro ?_
              refine rw_if hX (tgt := 119) (cnd := .lt) (off := 57) (by decide +kernel) (by decide) (fun h62 => ?_) (fun h62 => ?_)
              · replace h62 : (xi < 0) := h62
                have hcp : pz (cpOK xi xj xk (n 1) (n 2)) = false := pz_f fun ⟨a9, b9, k9, e1, e2, e3, g1, g2⟩ => by
                  rw [e1] at h62; exact absurd h62 (nI_pos (by have := hns.2; omega))
                refine rw_go hX [(119, .bipush (-12))] (by decide +kernel) (Ps := []) (pc' := 121) (lv' := [(0, .ref 66), (1, .int (nI 1)), (2, .int xi), (3, .int (nI 2)), (4, .int xj), (5, .int xk)]) (st' := [.int (-(nI 12))]) (σ' := σ) rfl True.intro ?_
                exact rw_iret hX (by decide +kernel) (⟨by simp only [aCopy, eq_true hk4, eq_true hu4, hcs, hct, eq_true h4, eq_true h11, eq_false h23, eq_false hso1, eq_true h32, eq_false hso2, eq_true h50, eq_false h58, eq_true h62, hcp, if_true, if_false, Bool.false_eq_true, and_self, and_true, true_and, and_false, false_and, oel_n, oel_s, decide_true, decide_false], by simp only [sCopyM, eq_true hk4, eq_true hu4, hcs, hct, eq_true h4, eq_true h11, eq_false h23, eq_false hso1, eq_true h32, eq_false hso2, eq_true h50, eq_false h58, eq_true h62, hcp, if_true, if_false, Bool.false_eq_true, and_self, and_true, true_and, and_false, false_and, oel_n, oel_s, decide_true, decide_false]⟩)
              · replace h62 : ¬ (xi < 0) := h62
                refine rw_go hX [(65, .iload 4)] (by decide +kernel) (Ps := []) (pc' := 67) (lv' := [(0, .ref 66), (1, .int (nI 1)), (2, .int xi), (3, .int (nI 2)), (4, .int xj), (5, .int xk)]) (st' := [.int xj]) (σ' := σ) rfl True.intro ?_
                refine rw_if hX (tgt := 119) (cnd := .lt) (off := 52) (by decide +kernel) (by decide) (fun h67 => ?_) (fun h67 => ?_)
                · replace h67 : (xj < 0) := h67
                  have hcp : pz (cpOK xi xj xk (n 1) (n 2)) = false := pz_f fun ⟨a9, b9, k9, e1, e2, e3, g1, g2⟩ => by
                    rw [e2] at h67; exact absurd h67 (nI_pos (by have := hnu.2; omega))
                  refine rw_go hX [(119, .bipush (-12))] (by decide +kernel) (Ps := []) (pc' := 121) (lv' := [(0, .ref 66), (1, .int (nI 1)), (2, .int xi), (3, .int (nI 2)), (4, .int xj), (5, .int xk)]) (st' := [.int (-(nI 12))]) (σ' := σ) rfl True.intro ?_
                  exact rw_iret hX (by decide +kernel) (⟨by simp only [aCopy, eq_true hk4, eq_true hu4, hcs, hct, eq_true h4, eq_true h11, eq_false h23, eq_false hso1, eq_true h32, eq_false hso2, eq_true h50, eq_false h58, eq_false h62, eq_true h67, hcp, if_true, if_false, Bool.false_eq_true, and_self, and_true, true_and, and_false, false_and, oel_n, oel_s, decide_true, decide_false], by simp only [sCopyM, eq_true hk4, eq_true hu4, hcs, hct, eq_true h4, eq_true h11, eq_false h23, eq_false hso1, eq_true h32, eq_false hso2, eq_true h50, eq_false h58, eq_false h62, eq_true h67, hcp, if_true, if_false, Bool.false_eq_true, and_self, and_true, true_and, and_false, false_and, oel_n, oel_s, decide_true, decide_false]⟩)
                · replace h67 : ¬ (xj < 0) := h67
                  refine rw_go hX [(70, .iload 5), (72, .aload_n 0), (73, .getfield 94), (76, .iload_n 1), (77, .iaload)] (by decide +kernel) (Ps := [vp_in (nI 1) 4]) (pc' := 78) (lv' := [(0, .ref 66), (1, .int (nI 1)), (2, .int xi), (3, .int (nI 2)), (4, .int xj), (5, .int xk)]) (st' := [.int (σ 98 (nI 1).toNatClampNeg), .int xk]) (σ' := σ) rfl (vp_in_nI (by omega) (by omega)) ?_
                  rw [show (σ 98 (nI 1).toNatClampNeg) = nI (n 1) from (by rw [nI_clamp (by omega), hns.1])]
                  refine rw_icmp hX (tgt := 119) (cnd := .gt) (off := 41) (by decide +kernel) (by decide) (fun h78 => ?_) (fun h78 => ?_)
                  · replace h78 : (xk > nI (n 1)) := h78
                    have hcp : pz (cpOK xi xj xk (n 1) (n 2)) = false := pz_f fun ⟨a9, b9, k9, e1, e2, e3, g1, g2⟩ => by
                      rw [e3] at h78; exact absurd h78 (Int32.not_lt.mpr (nI_le (show k9 ≤ n 1 by omega) (by have := hns.2; omega)))
                    refine rw_go hX [(119, .bipush (-12))] (by decide +kernel) (Ps := []) (pc' := 121) (lv' := [(0, .ref 66), (1, .int (nI 1)), (2, .int xi), (3, .int (nI 2)), (4, .int xj), (5, .int xk)]) (st' := [.int (-(nI 12))]) (σ' := σ) rfl True.intro ?_
                    exact rw_iret hX (by decide +kernel) (⟨by simp only [aCopy, eq_true hk4, eq_true hu4, hcs, hct, eq_true h4, eq_true h11, eq_false h23, eq_false hso1, eq_true h32, eq_false hso2, eq_true h50, eq_false h58, eq_false h62, eq_false h67, eq_true h78, hcp, if_true, if_false, Bool.false_eq_true, and_self, and_true, true_and, and_false, false_and, oel_n, oel_s, decide_true, decide_false], by simp only [sCopyM, eq_true hk4, eq_true hu4, hcs, hct, eq_true h4, eq_true h11, eq_false h23, eq_false hso1, eq_true h32, eq_false hso2, eq_true h50, eq_false h58, eq_false h62, eq_false h67, eq_true h78, hcp, if_true, if_false, Bool.false_eq_true, and_self, and_true, true_and, and_false, false_and, oel_n, oel_s, decide_true, decide_false]⟩)
                  · replace h78 : ¬ (xk > nI (n 1)) := h78
                    have hn40 := hns.2
                    have hn41 := hnu.2
                    obtain ⟨c, hc, rfl⟩ := rng (m := n 1) (by omega) ⟨Int32.not_lt.mp h58, Int32.not_lt.mp h78⟩
                    have hcc : (nI c).toNatClampNeg = c := nI_clamp (by omega)
                    refine rw_go hX [(81, .iload 5), (83, .aload_n 0), (84, .getfield 94), (87, .iload_n 3), (88, .iaload)] (by decide +kernel) (Ps := [vp_in (nI 2) 4]) (pc' := 89) (lv' := [(0, .ref 66), (1, .int (nI 1)), (2, .int xi), (3, .int (nI 2)), (4, .int xj), (5, .int (nI c))]) (st' := [.int (σ 98 (nI 2).toNatClampNeg), .int (nI c)]) (σ' := σ) rfl (vp_in_nI (by omega) (by omega)) ?_
                    rw [show (σ 98 (nI 2).toNatClampNeg) = nI (n 2) from (by rw [nI_clamp (by omega), hnu.1])]
                    refine rw_icmp hX (tgt := 119) (cnd := .gt) (off := 30) (by decide +kernel) (by decide) (fun h89 => ?_) (fun h89 => ?_)
                    · replace h89 := c2_gtT h89
                      have hcp : pz (cpOK xi xj (nI c) (n 1) (n 2)) = false := pz_f fun ⟨a9, b9, k9, e1, e2, e3, g1, g2⟩ => by
                        have e9 := (nI_eq (by omega) (by omega)).mp e3
                        omega
                      refine rw_go hX [(119, .bipush (-12))] (by decide +kernel) (Ps := []) (pc' := 121) (lv' := [(0, .ref 66), (1, .int (nI 1)), (2, .int xi), (3, .int (nI 2)), (4, .int xj), (5, .int (nI c))]) (st' := [.int (-(nI 12))]) (σ' := σ) rfl True.intro ?_
                      exact rw_iret hX (by decide +kernel) (⟨by simp only [aCopy, eq_true hk4, eq_true hu4, hcs, hct, eq_true h4, eq_true h11, eq_false h23, eq_false hso1, eq_true h32, eq_false hso2, eq_true h50, eq_false h58, eq_false h62, eq_false h67, eq_false h78, hcc, eq_true h89, hcp, if_true, if_false, Bool.false_eq_true, and_self, and_true, true_and, and_false, false_and, oel_n, oel_s, decide_true, decide_false], by simp only [sCopyM, eq_true hk4, eq_true hu4, hcs, hct, eq_true h4, eq_true h11, eq_false h23, eq_false hso1, eq_true h32, eq_false hso2, eq_true h50, eq_false h58, eq_false h62, eq_false h67, eq_false h78, hcc, eq_true h89, hcp, if_true, if_false, Bool.false_eq_true, and_self, and_true, true_and, and_false, false_and, oel_n, oel_s, decide_true, decide_false]⟩)
                    · replace h89 := c2_gtF h89
                      have hcu : c ≤ n 2 := by omega
                      refine rw_go hX [(92, .iload_n 2), (93, .aload_n 0), (94, .getfield 94), (97, .iload_n 1), (98, .iaload)] (by decide +kernel) (Ps := [vp_in (nI 1) 4]) (pc' := 99) (lv' := [(0, .ref 66), (1, .int (nI 1)), (2, .int xi), (3, .int (nI 2)), (4, .int xj), (5, .int (nI c))]) (st' := [.int (σ 98 (nI 1).toNatClampNeg), .int xi]) (σ' := σ) rfl (vp_in_nI (by omega) (by omega)) ?_
                      rw [show (σ 98 (nI 1).toNatClampNeg) = nI (n 1) from (by rw [nI_clamp (by omega), hns.1])]
                      refine rw_go hX [(99, .iload 5), (101, .isub)] (by decide +kernel) (Ps := []) (pc' := 102) (lv' := [(0, .ref 66), (1, .int (nI 1)), (2, .int xi), (3, .int (nI 2)), (4, .int xj), (5, .int (nI c))]) (st' := [.int (nI (n 1) - nI c), .int xi]) (σ' := σ) rfl True.intro ?_
                      rw [show (nI (n 1) - nI c) = nI (n 1 - c) from pk_sub (by omega)]
                      refine rw_icmp hX (tgt := 119) (cnd := .gt) (off := 17) (by decide +kernel) (by decide) (fun h102 => ?_) (fun h102 => ?_)
                      · replace h102 : (xi > nI (n 1 - c)) := h102
                        have hcp : pz (cpOK xi xj (nI c) (n 1) (n 2)) = false := pz_f fun ⟨a9, b9, k9, e1, e2, e3, g1, g2⟩ => by
                          have e9 := (nI_eq (by omega) (by omega)).mp e3
                          rw [e1] at h102
                          exact absurd h102 (Int32.not_lt.mpr (nI_le (by omega) (by omega)))
                        refine rw_go hX [(119, .bipush (-12))] (by decide +kernel) (Ps := []) (pc' := 121) (lv' := [(0, .ref 66), (1, .int (nI 1)), (2, .int xi), (3, .int (nI 2)), (4, .int xj), (5, .int (nI c))]) (st' := [.int (-(nI 12))]) (σ' := σ) rfl True.intro ?_
                        exact rw_iret hX (by decide +kernel) (⟨by simp only [aCopy, eq_true hk4, eq_true hu4, hcs, hct, eq_true h4, eq_true h11, eq_false h23, eq_false hso1, eq_true h32, eq_false hso2, eq_true h50, eq_false h58, eq_false h62, eq_false h67, eq_false h78, hcc, eq_true h89, eq_true h102, hcp, if_true, if_false, Bool.false_eq_true, and_self, and_true, true_and, and_false, false_and, oel_n, oel_s, decide_true, decide_false], by simp only [sCopyM, eq_true hk4, eq_true hu4, hcs, hct, eq_true h4, eq_true h11, eq_false h23, eq_false hso1, eq_true h32, eq_false hso2, eq_true h50, eq_false h58, eq_false h62, eq_false h67, eq_false h78, hcc, eq_true h89, eq_true h102, hcp, if_true, if_false, Bool.false_eq_true, and_self, and_true, true_and, and_false, false_and, oel_n, oel_s, decide_true, decide_false]⟩)
                      · replace h102 : ¬ (xi > nI (n 1 - c)) := h102
                        obtain ⟨a, ha, rfl⟩ := rng (m := n 1 - c) (by omega) ⟨Int32.not_lt.mp h62, Int32.not_lt.mp h102⟩
                        have hca : (nI a).toNatClampNeg = a := nI_clamp (by omega)
                        refine rw_go hX [(105, .iload 4), (107, .aload_n 0), (108, .getfield 94), (111, .iload_n 3), (112, .iaload)] (by decide +kernel) (Ps := [vp_in (nI 2) 4]) (pc' := 113) (lv' := [(0, .ref 66), (1, .int (nI 1)), (2, .int (nI a)), (3, .int (nI 2)), (4, .int xj), (5, .int (nI c))]) (st' := [.int (σ 98 (nI 2).toNatClampNeg), .int xj]) (σ' := σ) rfl (vp_in_nI (by omega) (by omega)) ?_
                        rw [show (σ 98 (nI 2).toNatClampNeg) = nI (n 2) from (by rw [nI_clamp (by omega), hnu.1])]
                        refine rw_go hX [(113, .iload 5), (115, .isub)] (by decide +kernel) (Ps := []) (pc' := 116) (lv' := [(0, .ref 66), (1, .int (nI 1)), (2, .int (nI a)), (3, .int (nI 2)), (4, .int xj), (5, .int (nI c))]) (st' := [.int (nI (n 2) - nI c), .int xj]) (σ' := σ) rfl True.intro ?_
                        rw [show (nI (n 2) - nI c) = nI (n 2 - c) from pk_sub (by omega)]
                        refine rw_icmp hX (tgt := 122) (cnd := .le) (off := 6) (by decide +kernel) (by decide) (fun h116 => ?_) (fun h116 => ?_)
                        · replace h116 : (xj ≤ nI (n 2 - c)) := h116
                          obtain ⟨b, hb, rfl⟩ := rng (m := n 2 - c) (by omega) ⟨Int32.not_lt.mp h67, h116⟩
                          have hcb : (nI b).toNatClampNeg = b := nI_clamp (by omega)
                          have hcp : pz (cpOK (nI a) (nI b) (nI c) (n 1) (n 2)) = true := pz_t ⟨a, b, c, rfl, rfl, rfl, by omega, by omega⟩
                          refine rw_go hX [(122, .iconst 0), (123, .istore 6)] (by decide +kernel) (Ps := []) (pc' := 125) (lv' := [(0, .ref 66), (1, .int (nI 1)), (2, .int (nI a)), (3, .int (nI 2)), (4, .int (nI b)), (5, .int (nI c)), (6, .int (nI 0))]) (st' := []) (σ' := σ) rfl True.intro ?_
                          have L125 : ∀ (μ125 : Nat) (i : Nat), μ125 = c - i → (i ≤ c) → RW E G 3 7 (QI E G (fun r σ' => r = aCopy n (σ 97) (nI 1) (nI a) (nI 2) (nI b) (nI c) ∧ σ' = sCopyM n σ (nI 1) (nI a) (nI 2) (nI b) (nI c))) 125 [(0, .ref 66), (1, .int (nI 1)), (2, .int (nI a)), (3, .int (nI 2)), (4, .int (nI b)), (5, .int (nI c)), (6, .int (nI i))] [] (sr σ 100 (va_cpy (σ 94) (σ 100) a 0 i)) := by
                            intro μ125
                            induction μ125 using Nat.strongRecOn with
                            | ind μ125 ih125 =>
                              intro i hμ125 hi
                              refine rw_go hX [(125, .iload 6), (127, .iload 5)] (by decide +kernel) (Ps := []) (pc' := 129) (lv' := [(0, .ref 66), (1, .int (nI 1)), (2, .int (nI a)), (3, .int (nI 2)), (4, .int (nI b)), (5, .int (nI c)), (6, .int (nI i))]) (st' := [.int (nI c), .int (nI i)]) (σ' := sr σ 100 (va_cpy (σ 94) (σ 100) a 0 i)) rfl True.intro ?_
                              refine rw_icmp hX (tgt := 156) (cnd := .ge) (off := 27) (by decide +kernel) (by decide) (fun h129 => ?_) (fun h129 => ?_)
                              · replace h129 := c2_geT h129
                                have ei : i = c := by omega
                                rw [ei]
                                refine rw_go hX [(156, .iconst 0), (157, .istore 6)] (by decide +kernel) (Ps := []) (pc' := 159) (lv' := [(0, .ref 66), (1, .int (nI 1)), (2, .int (nI a)), (3, .int (nI 2)), (4, .int (nI b)), (5, .int (nI c)), (6, .int (nI 0))]) (st' := []) (σ' := sr σ 100 (va_cpy (σ 94) (σ 100) a 0 c)) rfl True.intro ?_
                                have L159 : ∀ (μ159 : Nat) (i : Nat), μ159 = c - i → (i ≤ c) → RW E G 3 7 (QI E G (fun r σ' => r = aCopy n (σ 97) (nI 1) (nI a) (nI 2) (nI b) (nI c) ∧ σ' = sCopyM n σ (nI 1) (nI a) (nI 2) (nI b) (nI c))) 159 [(0, .ref 66), (1, .int (nI 1)), (2, .int (nI a)), (3, .int (nI 2)), (4, .int (nI b)), (5, .int (nI c)), (6, .int (nI i))] [] (sr (sr σ 100 (va_cpy (σ 94) (σ 100) a 0 c)) 95 (va_cpy (va_cpy (σ 94) (σ 100) a 0 c) (σ 95) 0 b i)) := by
                                  intro μ159
                                  induction μ159 using Nat.strongRecOn with
                                  | ind μ159 ih159 =>
                                    intro i hμ159 hi2
                                    refine rw_go hX [(159, .iload 6), (161, .iload 5)] (by decide +kernel) (Ps := []) (pc' := 163) (lv' := [(0, .ref 66), (1, .int (nI 1)), (2, .int (nI a)), (3, .int (nI 2)), (4, .int (nI b)), (5, .int (nI c)), (6, .int (nI i))]) (st' := [.int (nI c), .int (nI i)]) (σ' := sr (sr σ 100 (va_cpy (σ 94) (σ 100) a 0 c)) 95 (va_cpy (va_cpy (σ 94) (σ 100) a 0 c) (σ 95) 0 b i)) rfl True.intro ?_
                                    refine rw_icmp hX (tgt := 191) (cnd := .ge) (off := 28) (by decide +kernel) (by decide) (fun h163 => ?_) (fun h163 => ?_)
                                    · replace h163 := c2_geT h163
                                      have ei2 : i = c := by omega
                                      refine rw_go hX [(191, .iload 5)] (by decide +kernel) (Ps := []) (pc' := 193) (lv' := [(0, .ref 66), (1, .int (nI 1)), (2, .int (nI a)), (3, .int (nI 2)), (4, .int (nI b)), (5, .int (nI c)), (6, .int (nI i))]) (st' := [.int (nI c)]) (σ' := sr (sr σ 100 (va_cpy (σ 94) (σ 100) a 0 c)) 95 (va_cpy (va_cpy (σ 94) (σ 100) a 0 c) (σ 95) 0 b i)) rfl True.intro ?_
                                      exact rw_iret hX (by decide +kernel) (⟨by simp only [aCopy, eq_true hk4, eq_true hu4, hcs, hct, eq_true h4, eq_true h11, eq_false h23, eq_false hso1, eq_true h32, eq_false hso2, eq_true h50, eq_false h58, eq_false h62, eq_false h67, eq_false h78, hcc, eq_true h89, eq_false h102, hca, eq_true h116, hcb, hcp, eq_true h129, eq_true h163, if_true, if_false, Bool.false_eq_true, and_self, and_true, true_and, and_false, false_and, oel_n, oel_s, decide_true, decide_false], by simp only [sCopyM, eq_true hk4, eq_true hu4, hcs, hct, eq_true h4, eq_true h11, eq_false h23, eq_false hso1, eq_true h32, eq_false hso2, eq_true h50, eq_false h58, eq_false h62, eq_false h67, eq_false h78, hcc, eq_true h89, eq_false h102, hca, eq_true h116, hcb, hcp, eq_true h129, eq_true h163, if_true, if_false, Bool.false_eq_true, and_self, and_true, true_and, and_false, false_and, oel_n, oel_s, decide_true, decide_false]; rw [ei2]; rfl⟩)
                                    · replace h163 := c2_geF h163
                                      refine rw_go hX [(166, .aload_n 0), (167, .getfield 88), (170, .iload_n 3), (171, .aaload), (172, .iload 4), (174, .iload 6), (176, .iadd)] (by decide +kernel) (Ps := [vp_in (nI 2) 4]) (pc' := 177) (lv' := [(0, .ref 66), (1, .int (nI 1)), (2, .int (nI a)), (3, .int (nI 2)), (4, .int (nI b)), (5, .int (nI c)), (6, .int (nI i))]) (st' := [.int (nI b + nI i), .ref 95]) (σ' := sr (sr σ 100 (va_cpy (σ 94) (σ 100) a 0 c)) 95 (va_cpy (va_cpy (σ 94) (σ 100) a 0 c) (σ 95) 0 b i)) rfl (vp_in_nI (by omega) (by omega)) ?_
                                      rw [show (nI b + nI i) = nI (b + i) from nI_add _ _]
                                      refine rw_go hX [(177, .aload_n 0), (178, .getfield 100), (181, .iload 6), (183, .iaload)] (by decide +kernel) (Ps := [vp_in (nI i) 40]) (pc' := 184) (lv' := [(0, .ref 66), (1, .int (nI 1)), (2, .int (nI a)), (3, .int (nI 2)), (4, .int (nI b)), (5, .int (nI c)), (6, .int (nI i))]) (st' := [.int ((sr (sr σ 100 (va_cpy (σ 94) (σ 100) a 0 c)) 95 (va_cpy (va_cpy (σ 94) (σ 100) a 0 c) (σ 95) 0 b i)) 100 (nI i).toNatClampNeg), .int (nI (b + i)), .ref 95]) (σ' := sr (sr σ 100 (va_cpy (σ 94) (σ 100) a 0 c)) 95 (va_cpy (va_cpy (σ 94) (σ 100) a 0 c) (σ 95) 0 b i)) rfl (vp_in_nI (by omega) (by omega)) ?_
                                      rw [show ((sr (sr σ 100 (va_cpy (σ 94) (σ 100) a 0 c)) 95 (va_cpy (va_cpy (σ 94) (σ 100) a 0 c) (σ 95) 0 b i)) 100 (nI i).toNatClampNeg) = (va_cpy (σ 94) (σ 100) a 0 c) i from (by rw [nI_clamp (by omega), sr_n _ _ (by decide), sr_s])]
                                      refine rw_go hX [(184, .iastore)] (by decide +kernel) (Ps := [vp_in (nI (b + i)) 40]) (pc' := 185) (lv' := [(0, .ref 66), (1, .int (nI 1)), (2, .int (nI a)), (3, .int (nI 2)), (4, .int (nI b)), (5, .int (nI c)), (6, .int (nI i))]) (st' := []) (σ' := sw (sr (sr σ 100 (va_cpy (σ 94) (σ 100) a 0 c)) 95 (va_cpy (va_cpy (σ 94) (σ 100) a 0 c) (σ 95) 0 b i)) 95 (nI (b + i)).toNatClampNeg ((va_cpy (σ 94) (σ 100) a 0 c) i)) rfl (vp_in_nI (by omega) (by omega)) ?_
                                      rw [show (sw (sr (sr σ 100 (va_cpy (σ 94) (σ 100) a 0 c)) 95 (va_cpy (va_cpy (σ 94) (σ 100) a 0 c) (σ 95) 0 b i)) 95 (nI (b + i)).toNatClampNeg ((va_cpy (σ 94) (σ 100) a 0 c) i)) = sw (sr (sr σ 100 (va_cpy (σ 94) (σ 100) a 0 c)) 95 (va_cpy (va_cpy (σ 94) (σ 100) a 0 c) (σ 95) 0 b i)) 95 (b + i) ((va_cpy (σ 94) (σ 100) a 0 c) i) from (by rw [nI_clamp (by omega)])]
                                      refine rw_go hX [(185, .iinc 6 1)] (by decide +kernel) (Ps := []) (pc' := 188) (lv' := [(0, .ref 66), (1, .int (nI 1)), (2, .int (nI a)), (3, .int (nI 2)), (4, .int (nI b)), (5, .int (nI c)), (6, .int (nI i + nI 1))]) (st' := []) (σ' := sw (sr (sr σ 100 (va_cpy (σ 94) (σ 100) a 0 c)) 95 (va_cpy (va_cpy (σ 94) (σ 100) a 0 c) (σ 95) 0 b i)) 95 (b + i) ((va_cpy (σ 94) (σ 100) a 0 c) i)) rfl True.intro ?_
                                      rw [show (nI i + nI 1) = nI (i + 1) from nI_add _ _]
                                      refine rw_go hX [(188, .goto (-29))] (by decide +kernel) (Ps := []) (pc' := 159) (lv' := [(0, .ref 66), (1, .int (nI 1)), (2, .int (nI a)), (3, .int (nI 2)), (4, .int (nI b)), (5, .int (nI c)), (6, .int (nI (i + 1)))]) (st' := []) (σ' := sw (sr (sr σ 100 (va_cpy (σ 94) (σ 100) a 0 c)) 95 (va_cpy (va_cpy (σ 94) (σ 100) a 0 c) (σ 95) 0 b i)) 95 (b + i) ((va_cpy (σ 94) (σ 100) a 0 c) i)) rfl True.intro ?_
                                      refine rw_lsub (ks := [0, 1, 2, 3, 4, 5, 6]) (lv' := [(0, .ref 66), (1, .int (nI 1)), (2, .int (nI a)), (3, .int (nI 2)), (4, .int (nI b)), (5, .int (nI c)), (6, .int (nI (i + 1)))]) rfl ?_
                                      have q := ih159 (c - (i + 1)) (by omega) (i + 1) rfl (by omega)
                                      rw [← cpy_1, Nat.zero_add] at q
                                      rw [sw_sr]
                                      exact q
                                refine rw_lsub (ks := [0, 1, 2, 3, 4, 5, 6]) (lv' := [(0, .ref 66), (1, .int (nI 1)), (2, .int (nI a)), (3, .int (nI 2)), (4, .int (nI b)), (5, .int (nI c)), (6, .int (nI 0))]) rfl ?_
                                have q := L159 c 0 rfl (by omega)
                                rw [cpy_0, show sr (sr σ 100 (va_cpy (σ 94) (σ 100) a 0 c)) 95 (σ 95) = sr σ 100 (va_cpy (σ 94) (σ 100) a 0 c) from by
                                  funext q
                                  by_cases z : q = 95
                                  · subst z; rw [sr_s, sr_n _ _ (by decide)]
                                  · rw [sr_n _ _ z]] at q
                                exact q
                              · replace h129 := c2_geF h129
                                refine rw_go hX [(132, .aload_n 0), (133, .getfield 100), (136, .iload 6), (138, .aload_n 0), (139, .getfield 88), (142, .iload_n 1), (143, .aaload), (144, .iload_n 2), (145, .iload 6), (147, .iadd)] (by decide +kernel) (Ps := [vp_in (nI 1) 4]) (pc' := 148) (lv' := [(0, .ref 66), (1, .int (nI 1)), (2, .int (nI a)), (3, .int (nI 2)), (4, .int (nI b)), (5, .int (nI c)), (6, .int (nI i))]) (st' := [.int (nI a + nI i), .ref 94, .int (nI i), .ref 100]) (σ' := sr σ 100 (va_cpy (σ 94) (σ 100) a 0 i)) rfl (vp_in_nI (by omega) (by omega)) ?_
                                rw [show (nI a + nI i) = nI (a + i) from nI_add _ _]
                                refine rw_go hX [(148, .iaload)] (by decide +kernel) (Ps := [vp_in (nI (a + i)) 40]) (pc' := 149) (lv' := [(0, .ref 66), (1, .int (nI 1)), (2, .int (nI a)), (3, .int (nI 2)), (4, .int (nI b)), (5, .int (nI c)), (6, .int (nI i))]) (st' := [.int ((sr σ 100 (va_cpy (σ 94) (σ 100) a 0 i)) 94 (nI (a + i)).toNatClampNeg), .int (nI i), .ref 100]) (σ' := sr σ 100 (va_cpy (σ 94) (σ 100) a 0 i)) rfl (vp_in_nI (by omega) (by omega)) ?_
                                rw [show ((sr σ 100 (va_cpy (σ 94) (σ 100) a 0 i)) 94 (nI (a + i)).toNatClampNeg) = σ 94 (a + i) from (by rw [nI_clamp (by omega), sr_n _ _ (by decide)])]
                                refine rw_go hX [(149, .iastore)] (by decide +kernel) (Ps := [vp_in (nI i) 40]) (pc' := 150) (lv' := [(0, .ref 66), (1, .int (nI 1)), (2, .int (nI a)), (3, .int (nI 2)), (4, .int (nI b)), (5, .int (nI c)), (6, .int (nI i))]) (st' := []) (σ' := sw (sr σ 100 (va_cpy (σ 94) (σ 100) a 0 i)) 100 (nI i).toNatClampNeg (σ 94 (a + i))) rfl (vp_in_nI (by omega) (by omega)) ?_
                                rw [show (sw (sr σ 100 (va_cpy (σ 94) (σ 100) a 0 i)) 100 (nI i).toNatClampNeg (σ 94 (a + i))) = sw (sr σ 100 (va_cpy (σ 94) (σ 100) a 0 i)) 100 i (σ 94 (a + i)) from (by rw [nI_clamp (by omega)])]
                                refine rw_go hX [(150, .iinc 6 1)] (by decide +kernel) (Ps := []) (pc' := 153) (lv' := [(0, .ref 66), (1, .int (nI 1)), (2, .int (nI a)), (3, .int (nI 2)), (4, .int (nI b)), (5, .int (nI c)), (6, .int (nI i + nI 1))]) (st' := []) (σ' := sw (sr σ 100 (va_cpy (σ 94) (σ 100) a 0 i)) 100 i (σ 94 (a + i))) rfl True.intro ?_
                                rw [show (nI i + nI 1) = nI (i + 1) from nI_add _ _]
                                refine rw_go hX [(153, .goto (-28))] (by decide +kernel) (Ps := []) (pc' := 125) (lv' := [(0, .ref 66), (1, .int (nI 1)), (2, .int (nI a)), (3, .int (nI 2)), (4, .int (nI b)), (5, .int (nI c)), (6, .int (nI (i + 1)))]) (st' := []) (σ' := sw (sr σ 100 (va_cpy (σ 94) (σ 100) a 0 i)) 100 i (σ 94 (a + i))) rfl True.intro ?_
                                refine rw_lsub (ks := [0, 1, 2, 3, 4, 5, 6]) (lv' := [(0, .ref 66), (1, .int (nI 1)), (2, .int (nI a)), (3, .int (nI 2)), (4, .int (nI b)), (5, .int (nI c)), (6, .int (nI (i + 1)))]) rfl ?_
                                have q := ih125 (c - (i + 1)) (by omega) (i + 1) rfl (by omega)
                                rw [← cpy_1, Nat.zero_add] at q
                                rw [sw_sr]
                                exact q
                          refine rw_lsub (ks := [0, 1, 2, 3, 4, 5, 6]) (lv' := [(0, .ref 66), (1, .int (nI 1)), (2, .int (nI a)), (3, .int (nI 2)), (4, .int (nI b)), (5, .int (nI c)), (6, .int (nI 0))]) rfl ?_
                          have q := L125 c 0 rfl (by omega)
                          rw [cpy_0, sr_id] at q
                          exact q
                        · replace h116 : ¬ (xj ≤ nI (n 2 - c)) := h116
                          have hcp : pz (cpOK (nI a) xj (nI c) (n 1) (n 2)) = false := pz_f fun ⟨a9, b9, k9, e1, e2, e3, g1, g2⟩ => by
                            have e9 := (nI_eq (by omega) (by omega)).mp e3
                            rw [e2] at h116
                            exact absurd (nI_le (by omega) (by omega)) h116
                          refine rw_go hX [(119, .bipush (-12))] (by decide +kernel) (Ps := []) (pc' := 121) (lv' := [(0, .ref 66), (1, .int (nI 1)), (2, .int (nI a)), (3, .int (nI 2)), (4, .int xj), (5, .int (nI c))]) (st' := [.int (-(nI 12))]) (σ' := σ) rfl True.intro ?_
                          exact rw_iret hX (by decide +kernel) (⟨by simp only [aCopy, eq_true hk4, eq_true hu4, hcs, hct, eq_true h4, eq_true h11, eq_false h23, eq_false hso1, eq_true h32, eq_false hso2, eq_true h50, eq_false h58, eq_false h62, eq_false h67, eq_false h78, hcc, eq_true h89, eq_false h102, hca, eq_false h116, hcp, if_true, if_false, Bool.false_eq_true, and_self, and_true, true_and, and_false, false_and, oel_n, oel_s, decide_true, decide_false], by simp only [sCopyM, eq_true hk4, eq_true hu4, hcs, hct, eq_true h4, eq_true h11, eq_false h23, eq_false hso1, eq_true h32, eq_false hso2, eq_true h50, eq_false h58, eq_false h62, eq_false h67, eq_false h78, hcc, eq_true h89, eq_false h102, hca, eq_false h116, hcp, if_true, if_false, Bool.false_eq_true, and_self, and_true, true_and, and_false, false_and, oel_n, oel_s, decide_true, decide_false]⟩)
          · replace h50 : ¬ (σ 97 1 = σ 97 2) := h50
            refine rw_go hX [(53, .bipush (-13))] (by decide +kernel) (Ps := []) (pc' := 55) (lv' := [(0, .ref 66), (1, .int (nI 1)), (2, .int xi), (3, .int (nI 2)), (4, .int xj), (5, .int xk)]) (st' := [.int (-(nI 13))]) (σ' := σ) rfl True.intro ?_
            exact rw_iret hX (by decide +kernel) (⟨by simp only [aCopy, eq_true hk4, eq_true hu4, hcs, hct, eq_true h4, eq_true h11, eq_false h23, eq_false hso1, eq_true h32, eq_false hso2, eq_false h50, if_true, if_false, Bool.false_eq_true, and_self, and_true, true_and, and_false, false_and, oel_n, oel_s, decide_true, decide_false], by simp only [sCopyM, eq_true hk4, eq_true hu4, hcs, hct, eq_true h4, eq_true h11, eq_false h23, eq_false hso1, eq_true h32, eq_false hso2, eq_false h50, if_true, if_false, Bool.false_eq_true, and_self, and_true, true_and, and_false, false_and, oel_n, oel_s, decide_true, decide_false]⟩)
        · replace h32 : ¬ (σ 97 2 ≥ 0) := h32
          have hso2 : σ 97 2 = -(nI 1) := (so_m hou).mp (Int32.not_le.mp h32)
          refine rw_go hX [(35, .bipush (-11))] (by decide +kernel) (Ps := []) (pc' := 37) (lv' := [(0, .ref 66), (1, .int (nI 1)), (2, .int xi), (3, .int (nI 2)), (4, .int xj), (5, .int xk)]) (st' := [.int (-(nI 11))]) (σ' := σ) rfl True.intro ?_
          exact rw_iret hX (by decide +kernel) (⟨by simp only [aCopy, eq_true hk4, eq_true hu4, hcs, hct, eq_true h4, eq_true h11, eq_false h23, eq_false hso1, eq_false h32, eq_true hso2, if_true, if_false, Bool.false_eq_true, and_self, and_true, true_and, and_false, false_and, oel_n, oel_s, decide_true, decide_false], by simp only [sCopyM, eq_true hk4, eq_true hu4, hcs, hct, eq_true h4, eq_true h11, eq_false h23, eq_false hso1, eq_false h32, eq_true hso2, if_true, if_false, Bool.false_eq_true, and_self, and_true, true_and, and_false, false_and, oel_n, oel_s, decide_true, decide_false]⟩)
    · exact absurd (by simp only [cz, cc2]; decide +kernel) h11
set_option maxRecDepth 20000 in
set_option maxHeartbeats 800000 in
theorem g_copy_1_3 (l : Launch) (G : Gl) (σ : Mm) (n : Nat → Nat) (xi xj xk : Int32) (hsh : ∀ s, s < 4 → σ 98 s = nI (n s) ∧ n s ≤ 40) (hso : ∀ s, s < 4 → σ 97 s = -(nI 1) ∨ σ 97 s = nI 0 ∨ σ 97 s = nI 1) : AMi l G 3 mX10_copy [.ref 66, .int (nI 1), .int xi, .int (nI 3), .int xj, .int xk] σ (fun r σ' => r = aCopy n (σ 97) (nI 1) xi (nI 3) xj xk ∧ σ' = sCopyM n σ (nI 1) xi (nI 3) xj xk) := by
  refine rw_inI 10 (by decide +kernel) rfl rfl ?_
  intro E hE hX
  subst hE
  have hk4 := film_r 1 (by omega)
  have hu4 := film_r 3 (by omega)
  have hcs : (nI 1).toNatClampNeg = 1 := nI_clamp (by omega)
  have hct : (nI 3).toNatClampNeg = 3 := nI_clamp (by omega)
  have hns := hsh 1 (by omega)
  have hos := hso 1 (by omega)
  have hnu := hsh 3 (by omega)
  have hou := hso 3 (by omega)
  refine rw_go hX [(0, .iload_n 1)] (by decide +kernel) (Ps := []) (pc' := 1) (lv' := [(0, .ref 66), (1, .int (nI 1)), (2, .int xi), (3, .int (nI 3)), (4, .int xj), (5, .int xk)]) (st' := [.int (nI 1)]) (σ' := σ) rfl True.intro ?_
  refine rw_callSi hX (as := [.int (nI 1)]) (rest := []) (m_isSheet _ _ _ (nI 1)) (by decide +kernel) msX10_isSheet (Or.inl lk10_298) rfl (by decide) (Nat.le_of_ble_eq_true rfl) rfl ?_
  intro r1 σ1 hr
  rw [hr.1, show r1 = nI 1 from hr.2.trans (by decide +kernel)]
  clear hr σ1 r1
  refine rw_if hX (tgt := 14) (cnd := .eq) (off := 10) (by decide +kernel) (by decide) (fun h4 => ?_) (fun h4 => ?_)
  · exact absurd h4 (by simp only [cz, cc2]; decide +kernel)
  · skip
    refine rw_go hX [(7, .iload_n 3)] (by decide +kernel) (Ps := []) (pc' := 8) (lv' := [(0, .ref 66), (1, .int (nI 1)), (2, .int xi), (3, .int (nI 3)), (4, .int xj), (5, .int xk)]) (st' := [.int (nI 3)]) (σ' := σ) rfl True.intro ?_
    refine rw_callSi hX (as := [.int (nI 3)]) (rest := []) (m_isSheet _ _ _ (nI 3)) (by decide +kernel) msX10_isSheet (Or.inl lk10_298) rfl (by decide) (Nat.le_of_ble_eq_true rfl) rfl ?_
    intro r1 σ1 hr
    rw [hr.1, show r1 = nI 1 from hr.2.trans (by decide +kernel)]
    clear hr σ1 r1
    refine rw_if hX (tgt := 17) (cnd := .ne) (off := 6) (by decide +kernel) (by decide) (fun h11 => ?_) (fun h11 => ?_)
    · skip
      refine rw_go hX [(17, .aload_n 0), (18, .getfield 91), (21, .iload_n 1), (22, .iaload)] (by decide +kernel) (Ps := [vp_in (nI 1) 4]) (pc' := 23) (lv' := [(0, .ref 66), (1, .int (nI 1)), (2, .int xi), (3, .int (nI 3)), (4, .int xj), (5, .int xk)]) (st' := [.int (σ 97 (nI 1).toNatClampNeg)]) (σ' := σ) rfl (vp_in_nI (by omega) (by omega)) ?_
      rw [show (σ 97 (nI 1).toNatClampNeg) = σ 97 1 from (by rw [nI_clamp (by omega)])]
      refine rw_if hX (tgt := 35) (cnd := .lt) (off := 12) (by decide +kernel) (by decide) (fun h23 => ?_) (fun h23 => ?_)
      · replace h23 : (σ 97 1 < 0) := h23
        have hso1 : σ 97 1 = -(nI 1) := (so_m hos).mp h23
        refine rw_go hX [(35, .bipush (-11))] (by decide +kernel) (Ps := []) (pc' := 37) (lv' := [(0, .ref 66), (1, .int (nI 1)), (2, .int xi), (3, .int (nI 3)), (4, .int xj), (5, .int xk)]) (st' := [.int (-(nI 11))]) (σ' := σ) rfl True.intro ?_
        exact rw_iret hX (by decide +kernel) (⟨by simp only [aCopy, eq_true hk4, eq_true hu4, hcs, hct, eq_true h4, eq_true h11, eq_true h23, eq_true hso1, if_true, if_false, Bool.false_eq_true, and_self, and_true, true_and, and_false, false_and, oel_n, oel_s, decide_true, decide_false], by simp only [sCopyM, eq_true hk4, eq_true hu4, hcs, hct, eq_true h4, eq_true h11, eq_true h23, eq_true hso1, if_true, if_false, Bool.false_eq_true, and_self, and_true, true_and, and_false, false_and, oel_n, oel_s, decide_true, decide_false]⟩)
      · replace h23 : ¬ (σ 97 1 < 0) := h23
        have hso1 : ¬ σ 97 1 = -(nI 1) := fun z => h23 ((so_m hos).mpr z)
        refine rw_go hX [(26, .aload_n 0), (27, .getfield 91), (30, .iload_n 3), (31, .iaload)] (by decide +kernel) (Ps := [vp_in (nI 3) 4]) (pc' := 32) (lv' := [(0, .ref 66), (1, .int (nI 1)), (2, .int xi), (3, .int (nI 3)), (4, .int xj), (5, .int xk)]) (st' := [.int (σ 97 (nI 3).toNatClampNeg)]) (σ' := σ) rfl (vp_in_nI (by omega) (by omega)) ?_
        rw [show (σ 97 (nI 3).toNatClampNeg) = σ 97 3 from (by rw [nI_clamp (by omega)])]
        refine rw_if hX (tgt := 38) (cnd := .ge) (off := 6) (by decide +kernel) (by decide) (fun h32 => ?_) (fun h32 => ?_)
        · replace h32 : (σ 97 3 ≥ 0) := h32
          have hso2 : ¬ σ 97 3 = -(nI 1) := fun z => absurd ((so_m hou).mpr z) (Int32.not_lt.mpr h32)
          refine rw_go hX [(38, .aload_n 0), (39, .getfield 91), (42, .iload_n 1), (43, .iaload)] (by decide +kernel) (Ps := [vp_in (nI 1) 4]) (pc' := 44) (lv' := [(0, .ref 66), (1, .int (nI 1)), (2, .int xi), (3, .int (nI 3)), (4, .int xj), (5, .int xk)]) (st' := [.int (σ 97 (nI 1).toNatClampNeg)]) (σ' := σ) rfl (vp_in_nI (by omega) (by omega)) ?_
          rw [show (σ 97 (nI 1).toNatClampNeg) = σ 97 1 from (by rw [nI_clamp (by omega)])]
          refine rw_go hX [(44, .aload_n 0), (45, .getfield 91), (48, .iload_n 3), (49, .iaload)] (by decide +kernel) (Ps := [vp_in (nI 3) 4]) (pc' := 50) (lv' := [(0, .ref 66), (1, .int (nI 1)), (2, .int xi), (3, .int (nI 3)), (4, .int xj), (5, .int xk)]) (st' := [.int (σ 97 (nI 3).toNatClampNeg), .int (σ 97 1)]) (σ' := σ) rfl (vp_in_nI (by omega) (by omega)) ?_
          rw [show (σ 97 (nI 3).toNatClampNeg) = σ 97 3 from (by rw [nI_clamp (by omega)])]
          refine rw_icmp hX (tgt := 56) (cnd := .eq) (off := 6) (by decide +kernel) (by decide) (fun h50 => ?_) (fun h50 => ?_)
          · replace h50 : (σ 97 1 = σ 97 3) := h50
            refine rw_go hX [(56, .iload 5)] (by decide +kernel) (Ps := []) (pc' := 58) (lv' := [(0, .ref 66), (1, .int (nI 1)), (2, .int xi), (3, .int (nI 3)), (4, .int xj), (5, .int xk)]) (st' := [.int xk]) (σ' := σ) rfl True.intro ?_
            refine rw_if hX (tgt := 119) (cnd := .lt) (off := 61) (by decide +kernel) (by decide) (fun h58 => ?_) (fun h58 => ?_)
            · replace h58 : (xk < 0) := h58
              have hcp : pz (cpOK xi xj xk (n 1) (n 3)) = false := pz_f fun ⟨a9, b9, k9, e1, e2, e3, g1, g2⟩ => by
                rw [e3] at h58; exact absurd h58 (nI_pos (by have := hns.2; omega))
              refine rw_go hX [(119, .bipush (-12))] (by decide +kernel) (Ps := []) (pc' := 121) (lv' := [(0, .ref 66), (1, .int (nI 1)), (2, .int xi), (3, .int (nI 3)), (4, .int xj), (5, .int xk)]) (st' := [.int (-(nI 12))]) (σ' := σ) rfl True.intro ?_
              exact rw_iret hX (by decide +kernel) (⟨by simp only [aCopy, eq_true hk4, eq_true hu4, hcs, hct, eq_true h4, eq_true h11, eq_false h23, eq_false hso1, eq_true h32, eq_false hso2, eq_true h50, eq_true h58, hcp, if_true, if_false, Bool.false_eq_true, and_self, and_true, true_and, and_false, false_and, oel_n, oel_s, decide_true, decide_false], by simp only [sCopyM, eq_true hk4, eq_true hu4, hcs, hct, eq_true h4, eq_true h11, eq_false h23, eq_false hso1, eq_true h32, eq_false hso2, eq_true h50, eq_true h58, hcp, if_true, if_false, Bool.false_eq_true, and_self, and_true, true_and, and_false, false_and, oel_n, oel_s, decide_true, decide_false]⟩)
            · replace h58 : ¬ (xk < 0) := h58
              refine rw_go hX [(61, .iload_n 2)] (by decide +kernel) (Ps := []) (pc' := 62) (lv' := [(0, .ref 66), (1, .int (nI 1)), (2, .int xi), (3, .int (nI 3)), (4, .int xj), (5, .int xk)]) (st' := [.int xi]) (σ' := σ) rfl True.intro ?_
              refine rw_if hX (tgt := 119) (cnd := .lt) (off := 57) (by decide +kernel) (by decide) (fun h62 => ?_) (fun h62 => ?_)
              · replace h62 : (xi < 0) := h62
                have hcp : pz (cpOK xi xj xk (n 1) (n 3)) = false := pz_f fun ⟨a9, b9, k9, e1, e2, e3, g1, g2⟩ => by
                  rw [e1] at h62; exact absurd h62 (nI_pos (by have := hns.2; omega))
                refine rw_go hX [(119, .bipush (-12))] (by decide +kernel) (Ps := []) (pc' := 121) (lv' := [(0, .ref 66), (1, .int (nI 1)), (2, .int xi), (3, .int (nI 3)), (4, .int xj), (5, .int xk)]) (st' := [.int (-(nI 12))]) (σ' := σ) rfl True.intro ?_
                exact rw_iret hX (by decide +kernel) (⟨by simp only [aCopy, eq_true hk4, eq_true hu4, hcs, hct, eq_true h4, eq_true h11, eq_false h23, eq_false hso1, eq_true h32, eq_false hso2, eq_true h50, eq_false h58, eq_true h62, hcp, if_true, if_false, Bool.false_eq_true, and_self, and_true, true_and, and_false, false_and, oel_n, oel_s, decide_true, decide_false], by simp only [sCopyM, eq_true hk4, eq_true hu4, hcs, hct, eq_true h4, eq_true h11, eq_false h23, eq_false hso1, eq_true h32, eq_false hso2, eq_true h50, eq_false h58, eq_true h62, hcp, if_true, if_false, Bool.false_eq_true, and_self, and_true, true_and, and_false, false_and, oel_n, oel_s, decide_true, decide_false]⟩)
              · replace h62 : ¬ (xi < 0) := h62
                refine rw_go hX [(65, .iload 4)] (by decide +kernel) (Ps := []) (pc' := 67) (lv' := [(0, .ref 66), (1, .int (nI 1)), (2, .int xi), (3, .int (nI 3)), (4, .int xj), (5, .int xk)]) (st' := [.int xj]) (σ' := σ) rfl True.intro ?_
                refine rw_if hX (tgt := 119) (cnd := .lt) (off := 52) (by decide +kernel) (by decide) (fun h67 => ?_) (fun h67 => ?_)
                · replace h67 : (xj < 0) := h67
                  have hcp : pz (cpOK xi xj xk (n 1) (n 3)) = false := pz_f fun ⟨a9, b9, k9, e1, e2, e3, g1, g2⟩ => by
                    rw [e2] at h67; exact absurd h67 (nI_pos (by have := hnu.2; omega))
                  refine rw_go hX [(119, .bipush (-12))] (by decide +kernel) (Ps := []) (pc' := 121) (lv' := [(0, .ref 66), (1, .int (nI 1)), (2, .int xi), (3, .int (nI 3)), (4, .int xj), (5, .int xk)]) (st' := [.int (-(nI 12))]) (σ' := σ) rfl True.intro ?_
                  exact rw_iret hX (by decide +kernel) (⟨by simp only [aCopy, eq_true hk4, eq_true hu4, hcs, hct, eq_true h4, eq_true h11, eq_false h23, eq_false hso1, eq_true h32, eq_false hso2, eq_true h50, eq_false h58, eq_false h62, eq_true h67, hcp, if_true, if_false, Bool.false_eq_true, and_self, and_true, true_and, and_false, false_and, oel_n, oel_s, decide_true, decide_false], by simp only [sCopyM, eq_true hk4, eq_true hu4, hcs, hct, eq_true h4, eq_true h11, eq_false h23, eq_false hso1, eq_true h32, eq_false hso2, eq_true h50, eq_false h58, eq_false h62, eq_true h67, hcp, if_true, if_false, Bool.false_eq_true, and_self, and_true, true_and, and_false, false_and, oel_n, oel_s, decide_true, decide_false]⟩)
                · replace h67 : ¬ (xj < 0) := h67
                  refine rw_go hX [(70, .iload 5), (72, .aload_n 0), (73, .getfield 94), (76, .iload_n 1), (77, .iaload)] (by decide +kernel) (Ps := [vp_in (nI 1) 4]) (pc' := 78) (lv' := [(0, .ref 66), (1, .int (nI 1)), (2, .int xi), (3, .int (nI 3)), (4, .int xj), (5, .int xk)]) (st' := [.int (σ 98 (nI 1).toNatClampNeg), .int xk]) (σ' := σ) rfl (vp_in_nI (by omega) (by omega)) ?_
                  rw [show (σ 98 (nI 1).toNatClampNeg) = nI (n 1) from (by rw [nI_clamp (by omega), hns.1])]
                  refine rw_icmp hX (tgt := 119) (cnd := .gt) (off := 41) (by decide +kernel) (by decide) (fun h78 => ?_) (fun h78 => ?_)
                  · replace h78 : (xk > nI (n 1)) := h78
                    have hcp : pz (cpOK xi xj xk (n 1) (n 3)) = false := pz_f fun ⟨a9, b9, k9, e1, e2, e3, g1, g2⟩ => by
                      rw [e3] at h78; exact absurd h78 (Int32.not_lt.mpr (nI_le (show k9 ≤ n 1 by omega) (by have := hns.2; omega)))
                    refine rw_go hX [(119, .bipush (-12))] (by decide +kernel) (Ps := []) (pc' := 121) (lv' := [(0, .ref 66), (1, .int (nI 1)), (2, .int xi), (3, .int (nI 3)), (4, .int xj), (5, .int xk)]) (st' := [.int (-(nI 12))]) (σ' := σ) rfl True.intro ?_
                    exact rw_iret hX (by decide +kernel) (⟨by simp only [aCopy, eq_true hk4, eq_true hu4, hcs, hct, eq_true h4, eq_true h11, eq_false h23, eq_false hso1, eq_true h32, eq_false hso2, eq_true h50, eq_false h58, eq_false h62, eq_false h67, eq_true h78, hcp, if_true, if_false, Bool.false_eq_true, and_self, and_true, true_and, and_false, false_and, oel_n, oel_s, decide_true, decide_false], by simp only [sCopyM, eq_true hk4, eq_true hu4, hcs, hct, eq_true h4, eq_true h11, eq_false h23, eq_false hso1, eq_true h32, eq_false hso2, eq_true h50, eq_false h58, eq_false h62, eq_false h67, eq_true h78, hcp, if_true, if_false, Bool.false_eq_true, and_self, and_true, true_and, and_false, false_and, oel_n, oel_s, decide_true, decide_false]⟩)
                  · replace h78 : ¬ (xk > nI (n 1)) := h78
                    have hn40 := hns.2
                    have hn41 := hnu.2
                    obtain ⟨c, hc, rfl⟩ := rng (m := n 1) (by omega) ⟨Int32.not_lt.mp h58, Int32.not_lt.mp h78⟩
                    have hcc : (nI c).toNatClampNeg = c := nI_clamp (by omega)
                    refine rw_go hX [(81, .iload 5), (83, .aload_n 0), (84, .getfield 94), (87, .iload_n 3), (88, .iaload)] (by decide +kernel) (Ps := [vp_in (nI 3) 4]) (pc' := 89) (lv' := [(0, .ref 66), (1, .int (nI 1)), (2, .int xi), (3, .int (nI 3)), (4, .int xj), (5, .int (nI c))]) (st' := [.int (σ 98 (nI 3).toNatClampNeg), .int (nI c)]) (σ' := σ) rfl (vp_in_nI (by omega) (by omega)) ?_
                    rw [show (σ 98 (nI 3).toNatClampNeg) = nI (n 3) from (by rw [nI_clamp (by omega), hnu.1])]
                    refine rw_icmp hX (tgt := 119) (cnd := .gt) (off := 30) (by decide +kernel) (by decide) (fun h89 => ?_) (fun h89 => ?_)
                    · replace h89 := c2_gtT h89
                      have hcp : pz (cpOK xi xj (nI c) (n 1) (n 3)) = false := pz_f fun ⟨a9, b9, k9, e1, e2, e3, g1, g2⟩ => by
                        have e9 := (nI_eq (by omega) (by omega)).mp e3
                        omega
                      refine rw_go hX [(119, .bipush (-12))] (by decide +kernel) (Ps := []) (pc' := 121) (lv' := [(0, .ref 66), (1, .int (nI 1)), (2, .int xi), (3, .int (nI 3)), (4, .int xj), (5, .int (nI c))]) (st' := [.int (-(nI 12))]) (σ' := σ) rfl True.intro ?_
                      exact rw_iret hX (by decide +kernel) (⟨by simp only [aCopy, eq_true hk4, eq_true hu4, hcs, hct, eq_true h4, eq_true h11, eq_false h23, eq_false hso1, eq_true h32, eq_false hso2, eq_true h50, eq_false h58, eq_false h62, eq_false h67, eq_false h78, hcc, eq_true h89, hcp, if_true, if_false, Bool.false_eq_true, and_self, and_true, true_and, and_false, false_and, oel_n, oel_s, decide_true, decide_false], by simp only [sCopyM, eq_true hk4, eq_true hu4, hcs, hct, eq_true h4, eq_true h11, eq_false h23, eq_false hso1, eq_true h32, eq_false hso2, eq_true h50, eq_false h58, eq_false h62, eq_false h67, eq_false h78, hcc, eq_true h89, hcp, if_true, if_false, Bool.false_eq_true, and_self, and_true, true_and, and_false, false_and, oel_n, oel_s, decide_true, decide_false]⟩)
                    · replace h89 := c2_gtF h89
                      have hcu : c ≤ n 3 := by omega
                      refine rw_go hX [(92, .iload_n 2), (93, .aload_n 0), (94, .getfield 94), (97, .iload_n 1), (98, .iaload)] (by decide +kernel) (Ps := [vp_in (nI 1) 4]) (pc' := 99) (lv' := [(0, .ref 66), (1, .int (nI 1)), (2, .int xi), (3, .int (nI 3)), (4, .int xj), (5, .int (nI c))]) (st' := [.int (σ 98 (nI 1).toNatClampNeg), .int xi]) (σ' := σ) rfl (vp_in_nI (by omega) (by omega)) ?_
                      rw [show (σ 98 (nI 1).toNatClampNeg) = nI (n 1) from (by rw [nI_clamp (by omega), hns.1])]
                      refine rw_go hX [(99, .iload 5), (101, .isub)] (by decide +kernel) (Ps := []) (pc' := 102) (lv' := [(0, .ref 66), (1, .int (nI 1)), (2, .int xi), (3, .int (nI 3)), (4, .int xj), (5, .int (nI c))]) (st' := [.int (nI (n 1) - nI c), .int xi]) (σ' := σ) rfl True.intro ?_
                      rw [show (nI (n 1) - nI c) = nI (n 1 - c) from pk_sub (by omega)]
                      refine rw_icmp hX (tgt := 119) (cnd := .gt) (off := 17) (by decide +kernel) (by decide) (fun h102 => ?_) (fun h102 => ?_)
                      · replace h102 : (xi > nI (n 1 - c)) := h102
                        have hcp : pz (cpOK xi xj (nI c) (n 1) (n 3)) = false := pz_f fun ⟨a9, b9, k9, e1, e2, e3, g1, g2⟩ => by
                          have e9 := (nI_eq (by omega) (by omega)).mp e3
                          rw [e1] at h102
                          exact absurd h102 (Int32.not_lt.mpr (nI_le (by omega) (by omega)))
                        refine rw_go hX [(119, .bipush (-12))] (by decide +kernel) (Ps := []) (pc' := 121) (lv' := [(0, .ref 66), (1, .int (nI 1)), (2, .int xi), (3, .int (nI 3)), (4, .int xj), (5, .int (nI c))]) (st' := [.int (-(nI 12))]) (σ' := σ) rfl True.intro ?_
                        exact rw_iret hX (by decide +kernel) (⟨by simp only [aCopy, eq_true hk4, eq_true hu4, hcs, hct, eq_true h4, eq_true h11, eq_false h23, eq_false hso1, eq_true h32, eq_false hso2, eq_true h50, eq_false h58, eq_false h62, eq_false h67, eq_false h78, hcc, eq_true h89, eq_true h102, hcp, if_true, if_false, Bool.false_eq_true, and_self, and_true, true_and, and_false, false_and, oel_n, oel_s, decide_true, decide_false], by simp only [sCopyM, eq_true hk4, eq_true hu4, hcs, hct, eq_true h4, eq_true h11, eq_false h23, eq_false hso1, eq_true h32, eq_false hso2, eq_true h50, eq_false h58, eq_false h62, eq_false h67, eq_false h78, hcc, eq_true h89, eq_true h102, hcp, if_true, if_false, Bool.false_eq_true, and_self, and_true, true_and, and_false, false_and, oel_n, oel_s, decide_true, decide_false]⟩)
                      · replace h102 : ¬ (xi > nI (n 1 - c)) := h102
                        obtain ⟨a, ha, rfl⟩ := rng (m := n 1 - c) (by omega) ⟨Int32.not_lt.mp h62, Int32.not_lt.mp h102⟩
                        have hca : (nI a).toNatClampNeg = a := nI_clamp (by omega)
                        refine rw_go hX [(105, .iload 4), (107, .aload_n 0), (108, .getfield 94), (111, .iload_n 3), (112, .iaload)] (by decide +kernel) (Ps := [vp_in (nI 3) 4]) (pc' := 113) (lv' := [(0, .ref 66), (1, .int (nI 1)), (2, .int (nI a)), (3, .int (nI 3)), (4, .int xj), (5, .int (nI c))]) (st' := [.int (σ 98 (nI 3).toNatClampNeg), .int xj]) (σ' := σ) rfl (vp_in_nI (by omega) (by omega)) ?_
                        rw [show (σ 98 (nI 3).toNatClampNeg) = nI (n 3) from (by rw [nI_clamp (by omega), hnu.1])]
                        refine rw_go hX [(113, .iload 5), (115, .isub)] (by decide +kernel) (Ps := []) (pc' := 116) (lv' := [(0, .ref 66), (1, .int (nI 1)), (2, .int (nI a)), (3, .int (nI 3)), (4, .int xj), (5, .int (nI c))]) (st' := [.int (nI (n 3) - nI c), .int xj]) (σ' := σ) rfl True.intro ?_
                        rw [show (nI (n 3) - nI c) = nI (n 3 - c) from pk_sub (by omega)]
                        refine rw_icmp hX (tgt := 122) (cnd := .le) (off := 6) (by decide +kernel) (by decide) (fun h116 => ?_) (fun h116 => ?_)
                        · replace h116 : (xj ≤ nI (n 3 - c)) := h116
                          obtain ⟨b, hb, rfl⟩ := rng (m := n 3 - c) (by omega) ⟨Int32.not_lt.mp h67, h116⟩
                          have hcb : (nI b).toNatClampNeg = b := nI_clamp (by omega)
                          have hcp : pz (cpOK (nI a) (nI b) (nI c) (n 1) (n 3)) = true := pz_t ⟨a, b, c, rfl, rfl, rfl, by omega, by omega⟩
                          refine rw_go hX [(122, .iconst 0), (123, .istore 6)] (by decide +kernel) (Ps := []) (pc' := 125) (lv' := [(0, .ref 66), (1, .int (nI 1)), (2, .int (nI a)), (3, .int (nI 3)), (4, .int (nI b)), (5, .int (nI c)), (6, .int (nI 0))]) (st' := []) (σ' := σ) rfl True.intro ?_
                          have L125 : ∀ (μ125 : Nat) (i : Nat), μ125 = c - i → (i ≤ c) → RW E G 3 7 (QI E G (fun r σ' => r = aCopy n (σ 97) (nI 1) (nI a) (nI 3) (nI b) (nI c) ∧ σ' = sCopyM n σ (nI 1) (nI a) (nI 3) (nI b) (nI c))) 125 [(0, .ref 66), (1, .int (nI 1)), (2, .int (nI a)), (3, .int (nI 3)), (4, .int (nI b)), (5, .int (nI c)), (6, .int (nI i))] [] (sr σ 100 (va_cpy (σ 94) (σ 100) a 0 i)) := by
                            intro μ125
                            induction μ125 using Nat.strongRecOn with
                            | ind μ125 ih125 =>
                              intro i hμ125 hi
                              refine rw_go hX [(125, .iload 6), (127, .iload 5)] (by decide +kernel) (Ps := []) (pc' := 129) (lv' := [(0, .ref 66), (1, .int (nI 1)), (2, .int (nI a)), (3, .int (nI 3)), (4, .int (nI b)), (5, .int (nI c)), (6, .int (nI i))]) (st' := [.int (nI c), .int (nI i)]) (σ' := sr σ 100 (va_cpy (σ 94) (σ 100) a 0 i)) rfl True.intro ?_
                              refine rw_icmp hX (tgt := 156) (cnd := .ge) (off := 27) (by decide +kernel) (by decide) (fun h129 => ?_) (fun h129 => ?_)
                              · replace h129 := c2_geT h129
                                have ei : i = c := by omega
                                rw [ei]
                                refine rw_go hX [(156, .iconst 0), (157, .istore 6)] (by decide +kernel) (Ps := []) (pc' := 159) (lv' := [(0, .ref 66), (1, .int (nI 1)), (2, .int (nI a)), (3, .int (nI 3)), (4, .int (nI b)), (5, .int (nI c)), (6, .int (nI 0))]) (st' := []) (σ' := sr σ 100 (va_cpy (σ 94) (σ 100) a 0 c)) rfl True.intro ?_
                                have L159 : ∀ (μ159 : Nat) (i : Nat), μ159 = c - i → (i ≤ c) → RW E G 3 7 (QI E G (fun r σ' => r = aCopy n (σ 97) (nI 1) (nI a) (nI 3) (nI b) (nI c) ∧ σ' = sCopyM n σ (nI 1) (nI a) (nI 3) (nI b) (nI c))) 159 [(0, .ref 66), (1, .int (nI 1)), (2, .int (nI a)), (3, .int (nI 3)), (4, .int (nI b)), (5, .int (nI c)), (6, .int (nI i))] [] (sr (sr σ 100 (va_cpy (σ 94) (σ 100) a 0 c)) 96 (va_cpy (va_cpy (σ 94) (σ 100) a 0 c) (σ 96) 0 b i)) := by
                                  intro μ159
                                  induction μ159 using Nat.strongRecOn with
                                  | ind μ159 ih159 =>
                                    intro i hμ159 hi2
                                    refine rw_go hX [(159, .iload 6), (161, .iload 5)] (by decide +kernel) (Ps := []) (pc' := 163) (lv' := [(0, .ref 66), (1, .int (nI 1)), (2, .int (nI a)), (3, .int (nI 3)), (4, .int (nI b)), (5, .int (nI c)), (6, .int (nI i))]) (st' := [.int (nI c), .int (nI i)]) (σ' := sr (sr σ 100 (va_cpy (σ 94) (σ 100) a 0 c)) 96 (va_cpy (va_cpy (σ 94) (σ 100) a 0 c) (σ 96) 0 b i)) rfl True.intro ?_
                                    refine rw_icmp hX (tgt := 191) (cnd := .ge) (off := 28) (by decide +kernel) (by decide) (fun h163 => ?_) (fun h163 => ?_)
                                    · replace h163 := c2_geT h163
                                      have ei2 : i = c := by omega
                                      refine rw_go hX [(191, .iload 5)] (by decide +kernel) (Ps := []) (pc' := 193) (lv' := [(0, .ref 66), (1, .int (nI 1)), (2, .int (nI a)), (3, .int (nI 3)), (4, .int (nI b)), (5, .int (nI c)), (6, .int (nI i))]) (st' := [.int (nI c)]) (σ' := sr (sr σ 100 (va_cpy (σ 94) (σ 100) a 0 c)) 96 (va_cpy (va_cpy (σ 94) (σ 100) a 0 c) (σ 96) 0 b i)) rfl True.intro ?_
                                      exact rw_iret hX (by decide +kernel) (⟨by simp only [aCopy, eq_true hk4, eq_true hu4, hcs, hct, eq_true h4, eq_true h11, eq_false h23, eq_false hso1, eq_true h32, eq_false hso2, eq_true h50, eq_false h58, eq_false h62, eq_false h67, eq_false h78, hcc, eq_true h89, eq_false h102, hca, eq_true h116, hcb, hcp, eq_true h129, eq_true h163, if_true, if_false, Bool.false_eq_true, and_self, and_true, true_and, and_false, false_and, oel_n, oel_s, decide_true, decide_false], by simp only [sCopyM, eq_true hk4, eq_true hu4, hcs, hct, eq_true h4, eq_true h11, eq_false h23, eq_false hso1, eq_true h32, eq_false hso2, eq_true h50, eq_false h58, eq_false h62, eq_false h67, eq_false h78, hcc, eq_true h89, eq_false h102, hca, eq_true h116, hcb, hcp, eq_true h129, eq_true h163, if_true, if_false, Bool.false_eq_true, and_self, and_true, true_and, and_false, false_and, oel_n, oel_s, decide_true, decide_false]; rw [ei2]; rfl⟩)
                                    · replace h163 := c2_geF h163
                                      refine rw_go hX [(166, .aload_n 0), (167, .getfield 88), (170, .iload_n 3), (171, .aaload), (172, .iload 4), (174, .iload 6), (176, .iadd)] (by decide +kernel) (Ps := [vp_in (nI 3) 4]) (pc' := 177) (lv' := [(0, .ref 66), (1, .int (nI 1)), (2, .int (nI a)), (3, .int (nI 3)), (4, .int (nI b)), (5, .int (nI c)), (6, .int (nI i))]) (st' := [.int (nI b + nI i), .ref 96]) (σ' := sr (sr σ 100 (va_cpy (σ 94) (σ 100) a 0 c)) 96 (va_cpy (va_cpy (σ 94) (σ 100) a 0 c) (σ 96) 0 b i)) rfl (vp_in_nI (by omega) (by omega)) ?_
                                      rw [show (nI b + nI i) = nI (b + i) from nI_add _ _]
                                      refine rw_go hX [(177, .aload_n 0), (178, .getfield 100), (181, .iload 6), (183, .iaload)] (by decide +kernel) (Ps := [vp_in (nI i) 40]) (pc' := 184) (lv' := [(0, .ref 66), (1, .int (nI 1)), (2, .int (nI a)), (3, .int (nI 3)), (4, .int (nI b)), (5, .int (nI c)), (6, .int (nI i))]) (st' := [.int ((sr (sr σ 100 (va_cpy (σ 94) (σ 100) a 0 c)) 96 (va_cpy (va_cpy (σ 94) (σ 100) a 0 c) (σ 96) 0 b i)) 100 (nI i).toNatClampNeg), .int (nI (b + i)), .ref 96]) (σ' := sr (sr σ 100 (va_cpy (σ 94) (σ 100) a 0 c)) 96 (va_cpy (va_cpy (σ 94) (σ 100) a 0 c) (σ 96) 0 b i)) rfl (vp_in_nI (by omega) (by omega)) ?_
                                      rw [show ((sr (sr σ 100 (va_cpy (σ 94) (σ 100) a 0 c)) 96 (va_cpy (va_cpy (σ 94) (σ 100) a 0 c) (σ 96) 0 b i)) 100 (nI i).toNatClampNeg) = (va_cpy (σ 94) (σ 100) a 0 c) i from (by rw [nI_clamp (by omega), sr_n _ _ (by decide), sr_s])]
                                      refine rw_go hX [(184, .iastore)] (by decide +kernel) (Ps := [vp_in (nI (b + i)) 40]) (pc' := 185) (lv' := [(0, .ref 66), (1, .int (nI 1)), (2, .int (nI a)), (3, .int (nI 3)), (4, .int (nI b)), (5, .int (nI c)), (6, .int (nI i))]) (st' := []) (σ' := sw (sr (sr σ 100 (va_cpy (σ 94) (σ 100) a 0 c)) 96 (va_cpy (va_cpy (σ 94) (σ 100) a 0 c) (σ 96) 0 b i)) 96 (nI (b + i)).toNatClampNeg ((va_cpy (σ 94) (σ 100) a 0 c) i)) rfl (vp_in_nI (by omega) (by omega)) ?_
                                      rw [show (sw (sr (sr σ 100 (va_cpy (σ 94) (σ 100) a 0 c)) 96 (va_cpy (va_cpy (σ 94) (σ 100) a 0 c) (σ 96) 0 b i)) 96 (nI (b + i)).toNatClampNeg ((va_cpy (σ 94) (σ 100) a 0 c) i)) = sw (sr (sr σ 100 (va_cpy (σ 94) (σ 100) a 0 c)) 96 (va_cpy (va_cpy (σ 94) (σ 100) a 0 c) (σ 96) 0 b i)) 96 (b + i) ((va_cpy (σ 94) (σ 100) a 0 c) i) from (by rw [nI_clamp (by omega)])]
                                      refine rw_go hX [(185, .iinc 6 1)] (by decide +kernel) (Ps := []) (pc' := 188) (lv' := [(0, .ref 66), (1, .int (nI 1)), (2, .int (nI a)), (3, .int (nI 3)), (4, .int (nI b)), (5, .int (nI c)), (6, .int (nI i + nI 1))]) (st' := []) (σ' := sw (sr (sr σ 100 (va_cpy (σ 94) (σ 100) a 0 c)) 96 (va_cpy (va_cpy (σ 94) (σ 100) a 0 c) (σ 96) 0 b i)) 96 (b + i) ((va_cpy (σ 94) (σ 100) a 0 c) i)) rfl True.intro ?_
                                      rw [show (nI i + nI 1) = nI (i + 1) from nI_add _ _]
                                      refine rw_go hX [(188, .goto (-29))] (by decide +kernel) (Ps := []) (pc' := 159) (lv' := [(0, .ref 66), (1, .int (nI 1)), (2, .int (nI a)), (3, .int (nI 3)), (4, .int (nI b)), (5, .int (nI c)), (6, .int (nI (i + 1)))]) (st' := []) (σ' := sw (sr (sr σ 100 (va_cpy (σ 94) (σ 100) a 0 c)) 96 (va_cpy (va_cpy (σ 94) (σ 100) a 0 c) (σ 96) 0 b i)) 96 (b + i) ((va_cpy (σ 94) (σ 100) a 0 c) i)) rfl True.intro ?_
                                      refine rw_lsub (ks := [0, 1, 2, 3, 4, 5, 6]) (lv' := [(0, .ref 66), (1, .int (nI 1)), (2, .int (nI a)), (3, .int (nI 3)), (4, .int (nI b)), (5, .int (nI c)), (6, .int (nI (i + 1)))]) rfl ?_
                                      have q := ih159 (c - (i + 1)) (by omega) (i + 1) rfl (by omega)
                                      rw [← cpy_1, Nat.zero_add] at q
                                      rw [sw_sr]
                                      exact q
                                refine rw_lsub (ks := [0, 1, 2, 3, 4, 5, 6]) (lv' := [(0, .ref 66), (1, .int (nI 1)), (2, .int (nI a)), (3, .int (nI 3)), (4, .int (nI b)), (5, .int (nI c)), (6, .int (nI 0))]) rfl ?_
                                have q := L159 c 0 rfl (by omega)
                                rw [cpy_0, show sr (sr σ 100 (va_cpy (σ 94) (σ 100) a 0 c)) 96 (σ 96) = sr σ 100 (va_cpy (σ 94) (σ 100) a 0 c) from by
                                  funext q
                                  by_cases z : q = 96
                                  · subst z; rw [sr_s, sr_n _ _ (by decide)]
                                  · rw [sr_n _ _ z]] at q
                                exact q
                              · replace h129 := c2_geF h129
                                refine rw_go hX [(132, .aload_n 0), (133, .getfield 100), (136, .iload 6), (138, .aload_n 0), (139, .getfield 88), (142, .iload_n 1), (143, .aaload), (144, .iload_n 2), (145, .iload 6), (147, .iadd)] (by decide +kernel) (Ps := [vp_in (nI 1) 4]) (pc' := 148) (lv' := [(0, .ref 66), (1, .int (nI 1)), (2, .int (nI a)), (3, .int (nI 3)), (4, .int (nI b)), (5, .int (nI c)), (6, .int (nI i))]) (st' := [.int (nI a + nI i), .ref 94, .int (nI i), .ref 100]) (σ' := sr σ 100 (va_cpy (σ 94) (σ 100) a 0 i)) rfl (vp_in_nI (by omega) (by omega)) ?_
                                rw [show (nI a + nI i) = nI (a + i) from nI_add _ _]
                                refine rw_go hX [(148, .iaload)] (by decide +kernel) (Ps := [vp_in (nI (a + i)) 40]) (pc' := 149) (lv' := [(0, .ref 66), (1, .int (nI 1)), (2, .int (nI a)), (3, .int (nI 3)), (4, .int (nI b)), (5, .int (nI c)), (6, .int (nI i))]) (st' := [.int ((sr σ 100 (va_cpy (σ 94) (σ 100) a 0 i)) 94 (nI (a + i)).toNatClampNeg), .int (nI i), .ref 100]) (σ' := sr σ 100 (va_cpy (σ 94) (σ 100) a 0 i)) rfl (vp_in_nI (by omega) (by omega)) ?_
                                rw [show ((sr σ 100 (va_cpy (σ 94) (σ 100) a 0 i)) 94 (nI (a + i)).toNatClampNeg) = σ 94 (a + i) from (by rw [nI_clamp (by omega), sr_n _ _ (by decide)])]
                                refine rw_go hX [(149, .iastore)] (by decide +kernel) (Ps := [vp_in (nI i) 40]) (pc' := 150) (lv' := [(0, .ref 66), (1, .int (nI 1)), (2, .int (nI a)), (3, .int (nI 3)), (4, .int (nI b)), (5, .int (nI c)), (6, .int (nI i))]) (st' := []) (σ' := sw (sr σ 100 (va_cpy (σ 94) (σ 100) a 0 i)) 100 (nI i).toNatClampNeg (σ 94 (a + i))) rfl (vp_in_nI (by omega) (by omega)) ?_
                                rw [show (sw (sr σ 100 (va_cpy (σ 94) (σ 100) a 0 i)) 100 (nI i).toNatClampNeg (σ 94 (a + i))) = sw (sr σ 100 (va_cpy (σ 94) (σ 100) a 0 i)) 100 i (σ 94 (a + i)) from (by rw [nI_clamp (by omega)])]
                                refine rw_go hX [(150, .iinc 6 1)] (by decide +kernel) (Ps := []) (pc' := 153) (lv' := [(0, .ref 66), (1, .int (nI 1)), (2, .int (nI a)), (3, .int (nI 3)), (4, .int (nI b)), (5, .int (nI c)), (6, .int (nI i + nI 1))]) (st' := []) (σ' := sw (sr σ 100 (va_cpy (σ 94) (σ 100) a 0 i)) 100 i (σ 94 (a + i))) rfl True.intro ?_
                                rw [show (nI i + nI 1) = nI (i + 1) from nI_add _ _]
                                refine rw_go hX [(153, .goto (-28))] (by decide +kernel) (Ps := []) (pc' := 125) (lv' := [(0, .ref 66), (1, .int (nI 1)), (2, .int (nI a)), (3, .int (nI 3)), (4, .int (nI b)), (5, .int (nI c)), (6, .int (nI (i + 1)))]) (st' := []) (σ' := sw (sr σ 100 (va_cpy (σ 94) (σ 100) a 0 i)) 100 i (σ 94 (a + i))) rfl True.intro ?_
                                refine rw_lsub (ks := [0, 1, 2, 3, 4, 5, 6]) (lv' := [(0, .ref 66), (1, .int (nI 1)), (2, .int (nI a)), (3, .int (nI 3)), (4, .int (nI b)), (5, .int (nI c)), (6, .int (nI (i + 1)))]) rfl ?_
                                have q := ih125 (c - (i + 1)) (by omega) (i + 1) rfl (by omega)
                                rw [← cpy_1, Nat.zero_add] at q
                                rw [sw_sr]
                                exact q
                          refine rw_lsub (ks := [0, 1, 2, 3, 4, 5, 6]) (lv' := [(0, .ref 66), (1, .int (nI 1)), (2, .int (nI a)), (3, .int (nI 3)), (4, .int (nI b)), (5, .int (nI c)), (6, .int (nI 0))]) rfl ?_
                          have q := L125 c 0 rfl (by omega)
                          rw [cpy_0, sr_id] at q
                          exact q
                        · replace h116 : ¬ (xj ≤ nI (n 3 - c)) := h116
                          have hcp : pz (cpOK (nI a) xj (nI c) (n 1) (n 3)) = false := pz_f fun ⟨a9, b9, k9, e1, e2, e3, g1, g2⟩ => by
                            have e9 := (nI_eq (by omega) (by omega)).mp e3
                            rw [e2] at h116
                            exact absurd (nI_le (by omega) (by omega)) h116
                          refine rw_go hX [(119, .bipush (-12))] (by decide +kernel) (Ps := []) (pc' := 121) (lv' := [(0, .ref 66), (1, .int (nI 1)), (2, .int (nI a)), (3, .int (nI 3)), (4, .int xj), (5, .int (nI c))]) (st' := [.int (-(nI 12))]) (σ' := σ) rfl True.intro ?_
                          exact rw_iret hX (by decide +kernel) (⟨by simp only [aCopy, eq_true hk4, eq_true hu4, hcs, hct, eq_true h4, eq_true h11, eq_false h23, eq_false hso1, eq_true h32, eq_false hso2, eq_true h50, eq_false h58, eq_false h62, eq_false h67, eq_false h78, hcc, eq_true h89, eq_false h102, hca, eq_false h116, hcp, if_true, if_false, Bool.false_eq_true, and_self, and_true, true_and, and_false, false_and, oel_n, oel_s, decide_true, decide_false], by simp only [sCopyM, eq_true hk4, eq_true hu4, hcs, hct, eq_true h4, eq_true h11, eq_false h23, eq_false hso1, eq_true h32, eq_false hso2, eq_true h50, eq_false h58, eq_false h62, eq_false h67, eq_false h78, hcc, eq_true h89, eq_false h102, hca, eq_false h116, hcp, if_true, if_false, Bool.false_eq_true, and_self, and_true, true_and, and_false, false_and, oel_n, oel_s, decide_true, decide_false]⟩)
          · replace h50 : ¬ (σ 97 1 = σ 97 3) := h50
            refine rw_go hX [(53, .bipush (-13))] (by decide +kernel) (Ps := []) (pc' := 55) (lv' := [(0, .ref 66), (1, .int (nI 1)), (2, .int xi), (3, .int (nI 3)), (4, .int xj), (5, .int xk)]) (st' := [.int (-(nI 13))]) (σ' := σ) rfl True.intro ?_
            exact rw_iret hX (by decide +kernel) (⟨by simp only [aCopy, eq_true hk4, eq_true hu4, hcs, hct, eq_true h4, eq_true h11, eq_false h23, eq_false hso1, eq_true h32, eq_false hso2, eq_false h50, if_true, if_false, Bool.false_eq_true, and_self, and_true, true_and, and_false, false_and, oel_n, oel_s, decide_true, decide_false], by simp only [sCopyM, eq_true hk4, eq_true hu4, hcs, hct, eq_true h4, eq_true h11, eq_false h23, eq_false hso1, eq_true h32, eq_false hso2, eq_false h50, if_true, if_false, Bool.false_eq_true, and_self, and_true, true_and, and_false, false_and, oel_n, oel_s, decide_true, decide_false]⟩)
        · replace h32 : ¬ (σ 97 3 ≥ 0) := h32
          have hso2 : σ 97 3 = -(nI 1) := (so_m hou).mp (Int32.not_le.mp h32)
          refine rw_go hX [(35, .bipush (-11))] (by decide +kernel) (Ps := []) (pc' := 37) (lv' := [(0, .ref 66), (1, .int (nI 1)), (2, .int xi), (3, .int (nI 3)), (4, .int xj), (5, .int xk)]) (st' := [.int (-(nI 11))]) (σ' := σ) rfl True.intro ?_
          exact rw_iret hX (by decide +kernel) (⟨by simp only [aCopy, eq_true hk4, eq_true hu4, hcs, hct, eq_true h4, eq_true h11, eq_false h23, eq_false hso1, eq_false h32, eq_true hso2, if_true, if_false, Bool.false_eq_true, and_self, and_true, true_and, and_false, false_and, oel_n, oel_s, decide_true, decide_false], by simp only [sCopyM, eq_true hk4, eq_true hu4, hcs, hct, eq_true h4, eq_true h11, eq_false h23, eq_false hso1, eq_false h32, eq_true hso2, if_true, if_false, Bool.false_eq_true, and_self, and_true, true_and, and_false, false_and, oel_n, oel_s, decide_true, decide_false]⟩)
    · exact absurd (by simp only [cz, cc2]; decide +kernel) h11
set_option maxRecDepth 20000 in
set_option maxHeartbeats 800000 in
theorem g_copy_2_0 (l : Launch) (G : Gl) (σ : Mm) (n : Nat → Nat) (xi xj xk : Int32) (hsh : ∀ s, s < 4 → σ 98 s = nI (n s) ∧ n s ≤ 40) (hso : ∀ s, s < 4 → σ 97 s = -(nI 1) ∨ σ 97 s = nI 0 ∨ σ 97 s = nI 1) : AMi l G 3 mX10_copy [.ref 66, .int (nI 2), .int xi, .int (nI 0), .int xj, .int xk] σ (fun r σ' => r = aCopy n (σ 97) (nI 2) xi (nI 0) xj xk ∧ σ' = sCopyM n σ (nI 2) xi (nI 0) xj xk) := by
  refine rw_inI 10 (by decide +kernel) rfl rfl ?_
  intro E hE hX
  subst hE
  have hk4 := film_r 2 (by omega)
  have hu4 := film_r 0 (by omega)
  have hcs : (nI 2).toNatClampNeg = 2 := nI_clamp (by omega)
  have hct : (nI 0).toNatClampNeg = 0 := nI_clamp (by omega)
  have hns := hsh 2 (by omega)
  have hos := hso 2 (by omega)
  have hnu := hsh 0 (by omega)
  have hou := hso 0 (by omega)
  refine rw_go hX [(0, .iload_n 1)] (by decide +kernel) (Ps := []) (pc' := 1) (lv' := [(0, .ref 66), (1, .int (nI 2)), (2, .int xi), (3, .int (nI 0)), (4, .int xj), (5, .int xk)]) (st' := [.int (nI 2)]) (σ' := σ) rfl True.intro ?_
  refine rw_callSi hX (as := [.int (nI 2)]) (rest := []) (m_isSheet _ _ _ (nI 2)) (by decide +kernel) msX10_isSheet (Or.inl lk10_298) rfl (by decide) (Nat.le_of_ble_eq_true rfl) rfl ?_
  intro r1 σ1 hr
  rw [hr.1, show r1 = nI 1 from hr.2.trans (by decide +kernel)]
  clear hr σ1 r1
  refine rw_if hX (tgt := 14) (cnd := .eq) (off := 10) (by decide +kernel) (by decide) (fun h4 => ?_) (fun h4 => ?_)
  · exact absurd h4 (by simp only [cz, cc2]; decide +kernel)
  · skip
    refine rw_go hX [(7, .iload_n 3)] (by decide +kernel) (Ps := []) (pc' := 8) (lv' := [(0, .ref 66), (1, .int (nI 2)), (2, .int xi), (3, .int (nI 0)), (4, .int xj), (5, .int xk)]) (st' := [.int (nI 0)]) (σ' := σ) rfl True.intro ?_
    refine rw_callSi hX (as := [.int (nI 0)]) (rest := []) (m_isSheet _ _ _ (nI 0)) (by decide +kernel) msX10_isSheet (Or.inl lk10_298) rfl (by decide) (Nat.le_of_ble_eq_true rfl) rfl ?_
    intro r1 σ1 hr
    rw [hr.1, show r1 = nI 1 from hr.2.trans (by decide +kernel)]
    clear hr σ1 r1
    refine rw_if hX (tgt := 17) (cnd := .ne) (off := 6) (by decide +kernel) (by decide) (fun h11 => ?_) (fun h11 => ?_)
    · skip
      refine rw_go hX [(17, .aload_n 0), (18, .getfield 91), (21, .iload_n 1), (22, .iaload)] (by decide +kernel) (Ps := [vp_in (nI 2) 4]) (pc' := 23) (lv' := [(0, .ref 66), (1, .int (nI 2)), (2, .int xi), (3, .int (nI 0)), (4, .int xj), (5, .int xk)]) (st' := [.int (σ 97 (nI 2).toNatClampNeg)]) (σ' := σ) rfl (vp_in_nI (by omega) (by omega)) ?_
      rw [show (σ 97 (nI 2).toNatClampNeg) = σ 97 2 from (by rw [nI_clamp (by omega)])]
      refine rw_if hX (tgt := 35) (cnd := .lt) (off := 12) (by decide +kernel) (by decide) (fun h23 => ?_) (fun h23 => ?_)
      · replace h23 : (σ 97 2 < 0) := h23
        have hso1 : σ 97 2 = -(nI 1) := (so_m hos).mp h23
        refine rw_go hX [(35, .bipush (-11))] (by decide +kernel) (Ps := []) (pc' := 37) (lv' := [(0, .ref 66), (1, .int (nI 2)), (2, .int xi), (3, .int (nI 0)), (4, .int xj), (5, .int xk)]) (st' := [.int (-(nI 11))]) (σ' := σ) rfl True.intro ?_
        exact rw_iret hX (by decide +kernel) (⟨by simp only [aCopy, eq_true hk4, eq_true hu4, hcs, hct, eq_true h4, eq_true h11, eq_true h23, eq_true hso1, if_true, if_false, Bool.false_eq_true, and_self, and_true, true_and, and_false, false_and, oel_n, oel_s, decide_true, decide_false], by simp only [sCopyM, eq_true hk4, eq_true hu4, hcs, hct, eq_true h4, eq_true h11, eq_true h23, eq_true hso1, if_true, if_false, Bool.false_eq_true, and_self, and_true, true_and, and_false, false_and, oel_n, oel_s, decide_true, decide_false]⟩)
      · replace h23 : ¬ (σ 97 2 < 0) := h23
        have hso1 : ¬ σ 97 2 = -(nI 1) := fun z => h23 ((so_m hos).mpr z)
        refine rw_go hX [(26, .aload_n 0), (27, .getfield 91), (30, .iload_n 3), (31, .iaload)] (by decide +kernel) (Ps := [vp_in (nI 0) 4]) (pc' := 32) (lv' := [(0, .ref 66), (1, .int (nI 2)), (2, .int xi), (3, .int (nI 0)), (4, .int xj), (5, .int xk)]) (st' := [.int (σ 97 (nI 0).toNatClampNeg)]) (σ' := σ) rfl (vp_in_nI (by omega) (by omega)) ?_
        rw [show (σ 97 (nI 0).toNatClampNeg) = σ 97 0 from (by rw [nI_clamp (by omega)])]
        refine rw_if hX (tgt := 38) (cnd := .ge) (off := 6) (by decide +kernel) (by decide) (fun h32 => ?_) (fun h32 => ?_)
        · replace h32 : (σ 97 0 ≥ 0) := h32
          have hso2 : ¬ σ 97 0 = -(nI 1) := fun z => absurd ((so_m hou).mpr z) (Int32.not_lt.mpr h32)
          refine rw_go hX [(38, .aload_n 0), (39, .getfield 91), (42, .iload_n 1), (43, .iaload)] (by decide +kernel) (Ps := [vp_in (nI 2) 4]) (pc' := 44) (lv' := [(0, .ref 66), (1, .int (nI 2)), (2, .int xi), (3, .int (nI 0)), (4, .int xj), (5, .int xk)]) (st' := [.int (σ 97 (nI 2).toNatClampNeg)]) (σ' := σ) rfl (vp_in_nI (by omega) (by omega)) ?_
          rw [show (σ 97 (nI 2).toNatClampNeg) = σ 97 2 from (by rw [nI_clamp (by omega)])]
          refine rw_go hX [(44, .aload_n 0), (45, .getfield 91), (48, .iload_n 3), (49, .iaload)] (by decide +kernel) (Ps := [vp_in (nI 0) 4]) (pc' := 50) (lv' := [(0, .ref 66), (1, .int (nI 2)), (2, .int xi), (3, .int (nI 0)), (4, .int xj), (5, .int xk)]) (st' := [.int (σ 97 (nI 0).toNatClampNeg), .int (σ 97 2)]) (σ' := σ) rfl (vp_in_nI (by omega) (by omega)) ?_
          rw [show (σ 97 (nI 0).toNatClampNeg) = σ 97 0 from (by rw [nI_clamp (by omega)])]
          refine rw_icmp hX (tgt := 56) (cnd := .eq) (off := 6) (by decide +kernel) (by decide) (fun h50 => ?_) (fun h50 => ?_)
          · replace h50 : (σ 97 2 = σ 97 0) := h50
            refine rw_go hX [(56, .iload 5)] (by decide +kernel) (Ps := []) (pc' := 58) (lv' := [(0, .ref 66), (1, .int (nI 2)), (2, .int xi), (3, .int (nI 0)), (4, .int xj), (5, .int xk)]) (st' := [.int xk]) (σ' := σ) rfl True.intro ?_
            refine rw_if hX (tgt := 119) (cnd := .lt) (off := 61) (by decide +kernel) (by decide) (fun h58 => ?_) (fun h58 => ?_)
            · replace h58 : (xk < 0) := h58
              have hcp : pz (cpOK xi xj xk (n 2) (n 0)) = false := pz_f fun ⟨a9, b9, k9, e1, e2, e3, g1, g2⟩ => by
                rw [e3] at h58; exact absurd h58 (nI_pos (by have := hns.2; omega))
              refine rw_go hX [(119, .bipush (-12))] (by decide +kernel) (Ps := []) (pc' := 121) (lv' := [(0, .ref 66), (1, .int (nI 2)), (2, .int xi), (3, .int (nI 0)), (4, .int xj), (5, .int xk)]) (st' := [.int (-(nI 12))]) (σ' := σ) rfl True.intro ?_
              exact rw_iret hX (by decide +kernel) (⟨by simp only [aCopy, eq_true hk4, eq_true hu4, hcs, hct, eq_true h4, eq_true h11, eq_false h23, eq_false hso1, eq_true h32, eq_false hso2, eq_true h50, eq_true h58, hcp, if_true, if_false, Bool.false_eq_true, and_self, and_true, true_and, and_false, false_and, oel_n, oel_s, decide_true, decide_false], by simp only [sCopyM, eq_true hk4, eq_true hu4, hcs, hct, eq_true h4, eq_true h11, eq_false h23, eq_false hso1, eq_true h32, eq_false hso2, eq_true h50, eq_true h58, hcp, if_true, if_false, Bool.false_eq_true, and_self, and_true, true_and, and_false, false_and, oel_n, oel_s, decide_true, decide_false]⟩)
            · replace h58 : ¬ (xk < 0) := h58
              refine rw_go hX [(61, .iload_n 2)] (by decide +kernel) (Ps := []) (pc' := 62) (lv' := [(0, .ref 66), (1, .int (nI 2)), (2, .int xi), (3, .int (nI 0)), (4, .int xj), (5, .int xk)]) (st' := [.int xi]) (σ' := σ) rfl True.intro ?_
              refine rw_if hX (tgt := 119) (cnd := .lt) (off := 57) (by decide +kernel) (by decide) (fun h62 => ?_) (fun h62 => ?_)
              · replace h62 : (xi < 0) := h62
                have hcp : pz (cpOK xi xj xk (n 2) (n 0)) = false := pz_f fun ⟨a9, b9, k9, e1, e2, e3, g1, g2⟩ => by
                  rw [e1] at h62; exact absurd h62 (nI_pos (by have := hns.2; omega))
                refine rw_go hX [(119, .bipush (-12))] (by decide +kernel) (Ps := []) (pc' := 121) (lv' := [(0, .ref 66), (1, .int (nI 2)), (2, .int xi), (3, .int (nI 0)), (4, .int xj), (5, .int xk)]) (st' := [.int (-(nI 12))]) (σ' := σ) rfl True.intro ?_
                exact rw_iret hX (by decide +kernel) (⟨by simp only [aCopy, eq_true hk4, eq_true hu4, hcs, hct, eq_true h4, eq_true h11, eq_false h23, eq_false hso1, eq_true h32, eq_false hso2, eq_true h50, eq_false h58, eq_true h62, hcp, if_true, if_false, Bool.false_eq_true, and_self, and_true, true_and, and_false, false_and, oel_n, oel_s, decide_true, decide_false], by simp only [sCopyM, eq_true hk4, eq_true hu4, hcs, hct, eq_true h4, eq_true h11, eq_false h23, eq_false hso1, eq_true h32, eq_false hso2, eq_true h50, eq_false h58, eq_true h62, hcp, if_true, if_false, Bool.false_eq_true, and_self, and_true, true_and, and_false, false_and, oel_n, oel_s, decide_true, decide_false]⟩)
              · replace h62 : ¬ (xi < 0) := h62
                refine rw_go hX [(65, .iload 4)] (by decide +kernel) (Ps := []) (pc' := 67) (lv' := [(0, .ref 66), (1, .int (nI 2)), (2, .int xi), (3, .int (nI 0)), (4, .int xj), (5, .int xk)]) (st' := [.int xj]) (σ' := σ) rfl True.intro ?_
                refine rw_if hX (tgt := 119) (cnd := .lt) (off := 52) (by decide +kernel) (by decide) (fun h67 => ?_) (fun h67 => ?_)
                · replace h67 : (xj < 0) := h67
                  have hcp : pz (cpOK xi xj xk (n 2) (n 0)) = false := pz_f fun ⟨a9, b9, k9, e1, e2, e3, g1, g2⟩ => by
                    rw [e2] at h67; exact absurd h67 (nI_pos (by have := hnu.2; omega))
                  refine rw_go hX [(119, .bipush (-12))] (by decide +kernel) (Ps := []) (pc' := 121) (lv' := [(0, .ref 66), (1, .int (nI 2)), (2, .int xi), (3, .int (nI 0)), (4, .int xj), (5, .int xk)]) (st' := [.int (-(nI 12))]) (σ' := σ) rfl True.intro ?_
                  exact rw_iret hX (by decide +kernel) (⟨by simp only [aCopy, eq_true hk4, eq_true hu4, hcs, hct, eq_true h4, eq_true h11, eq_false h23, eq_false hso1, eq_true h32, eq_false hso2, eq_true h50, eq_false h58, eq_false h62, eq_true h67, hcp, if_true, if_false, Bool.false_eq_true, and_self, and_true, true_and, and_false, false_and, oel_n, oel_s, decide_true, decide_false], by simp only [sCopyM, eq_true hk4, eq_true hu4, hcs, hct, eq_true h4, eq_true h11, eq_false h23, eq_false hso1, eq_true h32, eq_false hso2, eq_true h50, eq_false h58, eq_false h62, eq_true h67, hcp, if_true, if_false, Bool.false_eq_true, and_self, and_true, true_and, and_false, false_and, oel_n, oel_s, decide_true, decide_false]⟩)
                · replace h67 : ¬ (xj < 0) := h67
                  refine rw_go hX [(70, .iload 5), (72, .aload_n 0), (73, .getfield 94), (76, .iload_n 1), (77, .iaload)] (by decide +kernel) (Ps := [vp_in (nI 2) 4]) (pc' := 78) (lv' := [(0, .ref 66), (1, .int (nI 2)), (2, .int xi), (3, .int (nI 0)), (4, .int xj), (5, .int xk)]) (st' := [.int (σ 98 (nI 2).toNatClampNeg), .int xk]) (σ' := σ) rfl (vp_in_nI (by omega) (by omega)) ?_
                  rw [show (σ 98 (nI 2).toNatClampNeg) = nI (n 2) from (by rw [nI_clamp (by omega), hns.1])]
                  refine rw_icmp hX (tgt := 119) (cnd := .gt) (off := 41) (by decide +kernel) (by decide) (fun h78 => ?_) (fun h78 => ?_)
                  · replace h78 : (xk > nI (n 2)) := h78
                    have hcp : pz (cpOK xi xj xk (n 2) (n 0)) = false := pz_f fun ⟨a9, b9, k9, e1, e2, e3, g1, g2⟩ => by
                      rw [e3] at h78; exact absurd h78 (Int32.not_lt.mpr (nI_le (show k9 ≤ n 2 by omega) (by have := hns.2; omega)))
                    refine rw_go hX [(119, .bipush (-12))] (by decide +kernel) (Ps := []) (pc' := 121) (lv' := [(0, .ref 66), (1, .int (nI 2)), (2, .int xi), (3, .int (nI 0)), (4, .int xj), (5, .int xk)]) (st' := [.int (-(nI 12))]) (σ' := σ) rfl True.intro ?_
                    exact rw_iret hX (by decide +kernel) (⟨by simp only [aCopy, eq_true hk4, eq_true hu4, hcs, hct, eq_true h4, eq_true h11, eq_false h23, eq_false hso1, eq_true h32, eq_false hso2, eq_true h50, eq_false h58, eq_false h62, eq_false h67, eq_true h78, hcp, if_true, if_false, Bool.false_eq_true, and_self, and_true, true_and, and_false, false_and, oel_n, oel_s, decide_true, decide_false], by simp only [sCopyM, eq_true hk4, eq_true hu4, hcs, hct, eq_true h4, eq_true h11, eq_false h23, eq_false hso1, eq_true h32, eq_false hso2, eq_true h50, eq_false h58, eq_false h62, eq_false h67, eq_true h78, hcp, if_true, if_false, Bool.false_eq_true, and_self, and_true, true_and, and_false, false_and, oel_n, oel_s, decide_true, decide_false]⟩)
                  · replace h78 : ¬ (xk > nI (n 2)) := h78
                    have hn40 := hns.2
                    have hn41 := hnu.2
                    obtain ⟨c, hc, rfl⟩ := rng (m := n 2) (by omega) ⟨Int32.not_lt.mp h58, Int32.not_lt.mp h78⟩
                    have hcc : (nI c).toNatClampNeg = c := nI_clamp (by omega)
                    refine rw_go hX [(81, .iload 5), (83, .aload_n 0), (84, .getfield 94), (87, .iload_n 3), (88, .iaload)] (by decide +kernel) (Ps := [vp_in (nI 0) 4]) (pc' := 89) (lv' := [(0, .ref 66), (1, .int (nI 2)), (2, .int xi), (3, .int (nI 0)), (4, .int xj), (5, .int (nI c))]) (st' := [.int (σ 98 (nI 0).toNatClampNeg), .int (nI c)]) (σ' := σ) rfl (vp_in_nI (by omega) (by omega)) ?_
                    rw [show (σ 98 (nI 0).toNatClampNeg) = nI (n 0) from (by rw [nI_clamp (by omega), hnu.1])]
                    refine rw_icmp hX (tgt := 119) (cnd := .gt) (off := 30) (by decide +kernel) (by decide) (fun h89 => ?_) (fun h89 => ?_)
                    · replace h89 := c2_gtT h89
                      have hcp : pz (cpOK xi xj (nI c) (n 2) (n 0)) = false := pz_f fun ⟨a9, b9, k9, e1, e2, e3, g1, g2⟩ => by
                        have e9 := (nI_eq (by omega) (by omega)).mp e3
                        omega
                      refine rw_go hX [(119, .bipush (-12))] (by decide +kernel) (Ps := []) (pc' := 121) (lv' := [(0, .ref 66), (1, .int (nI 2)), (2, .int xi), (3, .int (nI 0)), (4, .int xj), (5, .int (nI c))]) (st' := [.int (-(nI 12))]) (σ' := σ) rfl True.intro ?_
                      exact rw_iret hX (by decide +kernel) (⟨by simp only [aCopy, eq_true hk4, eq_true hu4, hcs, hct, eq_true h4, eq_true h11, eq_false h23, eq_false hso1, eq_true h32, eq_false hso2, eq_true h50, eq_false h58, eq_false h62, eq_false h67, eq_false h78, hcc, eq_true h89, hcp, if_true, if_false, Bool.false_eq_true, and_self, and_true, true_and, and_false, false_and, oel_n, oel_s, decide_true, decide_false], by simp only [sCopyM, eq_true hk4, eq_true hu4, hcs, hct, eq_true h4, eq_true h11, eq_false h23, eq_false hso1, eq_true h32, eq_false hso2, eq_true h50, eq_false h58, eq_false h62, eq_false h67, eq_false h78, hcc, eq_true h89, hcp, if_true, if_false, Bool.false_eq_true, and_self, and_true, true_and, and_false, false_and, oel_n, oel_s, decide_true, decide_false]⟩)
                    · replace h89 := c2_gtF h89
                      have hcu : c ≤ n 0 := by omega
                      refine rw_go hX [(92, .iload_n 2), (93, .aload_n 0), (94, .getfield 94), (97, .iload_n 1), (98, .iaload)] (by decide +kernel) (Ps := [vp_in (nI 2) 4]) (pc' := 99) (lv' := [(0, .ref 66), (1, .int (nI 2)), (2, .int xi), (3, .int (nI 0)), (4, .int xj), (5, .int (nI c))]) (st' := [.int (σ 98 (nI 2).toNatClampNeg), .int xi]) (σ' := σ) rfl (vp_in_nI (by omega) (by omega)) ?_
                      rw [show (σ 98 (nI 2).toNatClampNeg) = nI (n 2) from (by rw [nI_clamp (by omega), hns.1])]
                      refine rw_go hX [(99, .iload 5), (101, .isub)] (by decide +kernel) (Ps := []) (pc' := 102) (lv' := [(0, .ref 66), (1, .int (nI 2)), (2, .int xi), (3, .int (nI 0)), (4, .int xj), (5, .int (nI c))]) (st' := [.int (nI (n 2) - nI c), .int xi]) (σ' := σ) rfl True.intro ?_
                      rw [show (nI (n 2) - nI c) = nI (n 2 - c) from pk_sub (by omega)]
                      refine rw_icmp hX (tgt := 119) (cnd := .gt) (off := 17) (by decide +kernel) (by decide) (fun h102 => ?_) (fun h102 => ?_)
                      · replace h102 : (xi > nI (n 2 - c)) := h102
                        have hcp : pz (cpOK xi xj (nI c) (n 2) (n 0)) = false := pz_f fun ⟨a9, b9, k9, e1, e2, e3, g1, g2⟩ => by
                          have e9 := (nI_eq (by omega) (by omega)).mp e3
                          rw [e1] at h102
                          exact absurd h102 (Int32.not_lt.mpr (nI_le (by omega) (by omega)))
                        refine rw_go hX [(119, .bipush (-12))] (by decide +kernel) (Ps := []) (pc' := 121) (lv' := [(0, .ref 66), (1, .int (nI 2)), (2, .int xi), (3, .int (nI 0)), (4, .int xj), (5, .int (nI c))]) (st' := [.int (-(nI 12))]) (σ' := σ) rfl True.intro ?_
                        exact rw_iret hX (by decide +kernel) (⟨by simp only [aCopy, eq_true hk4, eq_true hu4, hcs, hct, eq_true h4, eq_true h11, eq_false h23, eq_false hso1, eq_true h32, eq_false hso2, eq_true h50, eq_false h58, eq_false h62, eq_false h67, eq_false h78, hcc, eq_true h89, eq_true h102, hcp, if_true, if_false, Bool.false_eq_true, and_self, and_true, true_and, and_false, false_and, oel_n, oel_s, decide_true, decide_false], by simp only [sCopyM, eq_true hk4, eq_true hu4, hcs, hct, eq_true h4, eq_true h11, eq_false h23, eq_false hso1, eq_true h32, eq_false hso2, eq_true h50, eq_false h58, eq_false h62, eq_false h67, eq_false h78, hcc, eq_true h89, eq_true h102, hcp, if_true, if_false, Bool.false_eq_true, and_self, and_true, true_and, and_false, false_and, oel_n, oel_s, decide_true, decide_false]⟩)
                      · replace h102 : ¬ (xi > nI (n 2 - c)) := h102
                        obtain ⟨a, ha, rfl⟩ := rng (m := n 2 - c) (by omega) ⟨Int32.not_lt.mp h62, Int32.not_lt.mp h102⟩
                        have hca : (nI a).toNatClampNeg = a := nI_clamp (by omega)
                        refine rw_go hX [(105, .iload 4), (107, .aload_n 0), (108, .getfield 94), (111, .iload_n 3), (112, .iaload)] (by decide +kernel) (Ps := [vp_in (nI 0) 4]) (pc' := 113) (lv' := [(0, .ref 66), (1, .int (nI 2)), (2, .int (nI a)), (3, .int (nI 0)), (4, .int xj), (5, .int (nI c))]) (st' := [.int (σ 98 (nI 0).toNatClampNeg), .int xj]) (σ' := σ) rfl (vp_in_nI (by omega) (by omega)) ?_
                        rw [show (σ 98 (nI 0).toNatClampNeg) = nI (n 0) from (by rw [nI_clamp (by omega), hnu.1])]
                        refine rw_go hX [(113, .iload 5), (115, .isub)] (by decide +kernel) (Ps := []) (pc' := 116) (lv' := [(0, .ref 66), (1, .int (nI 2)), (2, .int (nI a)), (3, .int (nI 0)), (4, .int xj), (5, .int (nI c))]) (st' := [.int (nI (n 0) - nI c), .int xj]) (σ' := σ) rfl True.intro ?_
                        rw [show (nI (n 0) - nI c) = nI (n 0 - c) from pk_sub (by omega)]
                        refine rw_icmp hX (tgt := 122) (cnd := .le) (off := 6) (by decide +kernel) (by decide) (fun h116 => ?_) (fun h116 => ?_)
                        · replace h116 : (xj ≤ nI (n 0 - c)) := h116
                          obtain ⟨b, hb, rfl⟩ := rng (m := n 0 - c) (by omega) ⟨Int32.not_lt.mp h67, h116⟩
                          have hcb : (nI b).toNatClampNeg = b := nI_clamp (by omega)
                          have hcp : pz (cpOK (nI a) (nI b) (nI c) (n 2) (n 0)) = true := pz_t ⟨a, b, c, rfl, rfl, rfl, by omega, by omega⟩
                          refine rw_go hX [(122, .iconst 0), (123, .istore 6)] (by decide +kernel) (Ps := []) (pc' := 125) (lv' := [(0, .ref 66), (1, .int (nI 2)), (2, .int (nI a)), (3, .int (nI 0)), (4, .int (nI b)), (5, .int (nI c)), (6, .int (nI 0))]) (st' := []) (σ' := σ) rfl True.intro ?_
                          have L125 : ∀ (μ125 : Nat) (i : Nat), μ125 = c - i → (i ≤ c) → RW E G 3 7 (QI E G (fun r σ' => r = aCopy n (σ 97) (nI 2) (nI a) (nI 0) (nI b) (nI c) ∧ σ' = sCopyM n σ (nI 2) (nI a) (nI 0) (nI b) (nI c))) 125 [(0, .ref 66), (1, .int (nI 2)), (2, .int (nI a)), (3, .int (nI 0)), (4, .int (nI b)), (5, .int (nI c)), (6, .int (nI i))] [] (sr σ 100 (va_cpy (σ 95) (σ 100) a 0 i)) := by
                            intro μ125
                            induction μ125 using Nat.strongRecOn with
                            | ind μ125 ih125 =>
                              intro i hμ125 hi
                              refine rw_go hX [(125, .iload 6), (127, .iload 5)] (by decide +kernel) (Ps := []) (pc' := 129) (lv' := [(0, .ref 66), (1, .int (nI 2)), (2, .int (nI a)), (3, .int (nI 0)), (4, .int (nI b)), (5, .int (nI c)), (6, .int (nI i))]) (st' := [.int (nI c), .int (nI i)]) (σ' := sr σ 100 (va_cpy (σ 95) (σ 100) a 0 i)) rfl True.intro ?_
                              refine rw_icmp hX (tgt := 156) (cnd := .ge) (off := 27) (by decide +kernel) (by decide) (fun h129 => ?_) (fun h129 => ?_)
                              · replace h129 := c2_geT h129
                                have ei : i = c := by omega
                                rw [ei]
                                refine rw_go hX [(156, .iconst 0), (157, .istore 6)] (by decide +kernel) (Ps := []) (pc' := 159) (lv' := [(0, .ref 66), (1, .int (nI 2)), (2, .int (nI a)), (3, .int (nI 0)), (4, .int (nI b)), (5, .int (nI c)), (6, .int (nI 0))]) (st' := []) (σ' := sr σ 100 (va_cpy (σ 95) (σ 100) a 0 c)) rfl True.intro ?_
                                have L159 : ∀ (μ159 : Nat) (i : Nat), μ159 = c - i → (i ≤ c) → RW E G 3 7 (QI E G (fun r σ' => r = aCopy n (σ 97) (nI 2) (nI a) (nI 0) (nI b) (nI c) ∧ σ' = sCopyM n σ (nI 2) (nI a) (nI 0) (nI b) (nI c))) 159 [(0, .ref 66), (1, .int (nI 2)), (2, .int (nI a)), (3, .int (nI 0)), (4, .int (nI b)), (5, .int (nI c)), (6, .int (nI i))] [] (sr (sr σ 100 (va_cpy (σ 95) (σ 100) a 0 c)) 93 (va_cpy (va_cpy (σ 95) (σ 100) a 0 c) (σ 93) 0 b i)) := by
                                  intro μ159
                                  induction μ159 using Nat.strongRecOn with
                                  | ind μ159 ih159 =>
                                    intro i hμ159 hi2
                                    refine rw_go hX [(159, .iload 6), (161, .iload 5)] (by decide +kernel) (Ps := []) (pc' := 163) (lv' := [(0, .ref 66), (1, .int (nI 2)), (2, .int (nI a)), (3, .int (nI 0)), (4, .int (nI b)), (5, .int (nI c)), (6, .int (nI i))]) (st' := [.int (nI c), .int (nI i)]) (σ' := sr (sr σ 100 (va_cpy (σ 95) (σ 100) a 0 c)) 93 (va_cpy (va_cpy (σ 95) (σ 100) a 0 c) (σ 93) 0 b i)) rfl True.intro ?_
                                    refine rw_icmp hX (tgt := 191) (cnd := .ge) (off := 28) (by decide +kernel) (by decide) (fun h163 => ?_) (fun h163 => ?_)
                                    · replace h163 := c2_geT h163
                                      have ei2 : i = c := by omega
                                      refine rw_go hX [(191, .iload 5)] (by decide +kernel) (Ps := []) (pc' := 193) (lv' := [(0, .ref 66), (1, .int (nI 2)), (2, .int (nI a)), (3, .int (nI 0)), (4, .int (nI b)), (5, .int (nI c)), (6, .int (nI i))]) (st' := [.int (nI c)]) (σ' := sr (sr σ 100 (va_cpy (σ 95) (σ 100) a 0 c)) 93 (va_cpy (va_cpy (σ 95) (σ 100) a 0 c) (σ 93) 0 b i)) rfl True.intro ?_
                                      exact rw_iret hX (by decide +kernel) (⟨by simp only [aCopy, eq_true hk4, eq_true hu4, hcs, hct, eq_true h4, eq_true h11, eq_false h23, eq_false hso1, eq_true h32, eq_false hso2, eq_true h50, eq_false h58, eq_false h62, eq_false h67, eq_false h78, hcc, eq_true h89, eq_false h102, hca, eq_true h116, hcb, hcp, eq_true h129, eq_true h163, if_true, if_false, Bool.false_eq_true, and_self, and_true, true_and, and_false, false_and, oel_n, oel_s, decide_true, decide_false], by simp only [sCopyM, eq_true hk4, eq_true hu4, hcs, hct, eq_true h4, eq_true h11, eq_false h23, eq_false hso1, eq_true h32, eq_false hso2, eq_true h50, eq_false h58, eq_false h62, eq_false h67, eq_false h78, hcc, eq_true h89, eq_false h102, hca, eq_true h116, hcb, hcp, eq_true h129, eq_true h163, if_true, if_false, Bool.false_eq_true, and_self, and_true, true_and, and_false, false_and, oel_n, oel_s, decide_true, decide_false]; rw [ei2]; rfl⟩)
                                    · replace h163 := c2_geF h163
                                      refine rw_go hX [(166, .aload_n 0), (167, .getfield 88), (170, .iload_n 3), (171, .aaload), (172, .iload 4), (174, .iload 6), (176, .iadd)] (by decide +kernel) (Ps := [vp_in (nI 0) 4]) (pc' := 177) (lv' := [(0, .ref 66), (1, .int (nI 2)), (2, .int (nI a)), (3, .int (nI 0)), (4, .int (nI b)), (5, .int (nI c)), (6, .int (nI i))]) (st' := [.int (nI b + nI i), .ref 93]) (σ' := sr (sr σ 100 (va_cpy (σ 95) (σ 100) a 0 c)) 93 (va_cpy (va_cpy (σ 95) (σ 100) a 0 c) (σ 93) 0 b i)) rfl (vp_in_nI (by omega) (by omega)) ?_
                                      rw [show (nI b + nI i) = nI (b + i) from nI_add _ _]
                                      refine rw_go hX [(177, .aload_n 0), (178, .getfield 100), (181, .iload 6), (183, .iaload)] (by decide +kernel) (Ps := [vp_in (nI i) 40]) (pc' := 184) (lv' := [(0, .ref 66), (1, .int (nI 2)), (2, .int (nI a)), (3, .int (nI 0)), (4, .int (nI b)), (5, .int (nI c)), (6, .int (nI i))]) (st' := [.int ((sr (sr σ 100 (va_cpy (σ 95) (σ 100) a 0 c)) 93 (va_cpy (va_cpy (σ 95) (σ 100) a 0 c) (σ 93) 0 b i)) 100 (nI i).toNatClampNeg), .int (nI (b + i)), .ref 93]) (σ' := sr (sr σ 100 (va_cpy (σ 95) (σ 100) a 0 c)) 93 (va_cpy (va_cpy (σ 95) (σ 100) a 0 c) (σ 93) 0 b i)) rfl (vp_in_nI (by omega) (by omega)) ?_
                                      rw [show ((sr (sr σ 100 (va_cpy (σ 95) (σ 100) a 0 c)) 93 (va_cpy (va_cpy (σ 95) (σ 100) a 0 c) (σ 93) 0 b i)) 100 (nI i).toNatClampNeg) = (va_cpy (σ 95) (σ 100) a 0 c) i from (by rw [nI_clamp (by omega), sr_n _ _ (by decide), sr_s])]
                                      refine rw_go hX [(184, .iastore)] (by decide +kernel) (Ps := [vp_in (nI (b + i)) 40]) (pc' := 185) (lv' := [(0, .ref 66), (1, .int (nI 2)), (2, .int (nI a)), (3, .int (nI 0)), (4, .int (nI b)), (5, .int (nI c)), (6, .int (nI i))]) (st' := []) (σ' := sw (sr (sr σ 100 (va_cpy (σ 95) (σ 100) a 0 c)) 93 (va_cpy (va_cpy (σ 95) (σ 100) a 0 c) (σ 93) 0 b i)) 93 (nI (b + i)).toNatClampNeg ((va_cpy (σ 95) (σ 100) a 0 c) i)) rfl (vp_in_nI (by omega) (by omega)) ?_
                                      rw [show (sw (sr (sr σ 100 (va_cpy (σ 95) (σ 100) a 0 c)) 93 (va_cpy (va_cpy (σ 95) (σ 100) a 0 c) (σ 93) 0 b i)) 93 (nI (b + i)).toNatClampNeg ((va_cpy (σ 95) (σ 100) a 0 c) i)) = sw (sr (sr σ 100 (va_cpy (σ 95) (σ 100) a 0 c)) 93 (va_cpy (va_cpy (σ 95) (σ 100) a 0 c) (σ 93) 0 b i)) 93 (b + i) ((va_cpy (σ 95) (σ 100) a 0 c) i) from (by rw [nI_clamp (by omega)])]
                                      refine rw_go hX [(185, .iinc 6 1)] (by decide +kernel) (Ps := []) (pc' := 188) (lv' := [(0, .ref 66), (1, .int (nI 2)), (2, .int (nI a)), (3, .int (nI 0)), (4, .int (nI b)), (5, .int (nI c)), (6, .int (nI i + nI 1))]) (st' := []) (σ' := sw (sr (sr σ 100 (va_cpy (σ 95) (σ 100) a 0 c)) 93 (va_cpy (va_cpy (σ 95) (σ 100) a 0 c) (σ 93) 0 b i)) 93 (b + i) ((va_cpy (σ 95) (σ 100) a 0 c) i)) rfl True.intro ?_
                                      rw [show (nI i + nI 1) = nI (i + 1) from nI_add _ _]
                                      refine rw_go hX [(188, .goto (-29))] (by decide +kernel) (Ps := []) (pc' := 159) (lv' := [(0, .ref 66), (1, .int (nI 2)), (2, .int (nI a)), (3, .int (nI 0)), (4, .int (nI b)), (5, .int (nI c)), (6, .int (nI (i + 1)))]) (st' := []) (σ' := sw (sr (sr σ 100 (va_cpy (σ 95) (σ 100) a 0 c)) 93 (va_cpy (va_cpy (σ 95) (σ 100) a 0 c) (σ 93) 0 b i)) 93 (b + i) ((va_cpy (σ 95) (σ 100) a 0 c) i)) rfl True.intro ?_
                                      refine rw_lsub (ks := [0, 1, 2, 3, 4, 5, 6]) (lv' := [(0, .ref 66), (1, .int (nI 2)), (2, .int (nI a)), (3, .int (nI 0)), (4, .int (nI b)), (5, .int (nI c)), (6, .int (nI (i + 1)))]) rfl ?_
                                      have q := ih159 (c - (i + 1)) (by omega) (i + 1) rfl (by omega)
                                      rw [← cpy_1, Nat.zero_add] at q
                                      rw [sw_sr]
                                      exact q
                                refine rw_lsub (ks := [0, 1, 2, 3, 4, 5, 6]) (lv' := [(0, .ref 66), (1, .int (nI 2)), (2, .int (nI a)), (3, .int (nI 0)), (4, .int (nI b)), (5, .int (nI c)), (6, .int (nI 0))]) rfl ?_
                                have q := L159 c 0 rfl (by omega)
                                rw [cpy_0, show sr (sr σ 100 (va_cpy (σ 95) (σ 100) a 0 c)) 93 (σ 93) = sr σ 100 (va_cpy (σ 95) (σ 100) a 0 c) from by
                                  funext q
                                  by_cases z : q = 93
                                  · subst z; rw [sr_s, sr_n _ _ (by decide)]
                                  · rw [sr_n _ _ z]] at q
                                exact q
                              · replace h129 := c2_geF h129
                                refine rw_go hX [(132, .aload_n 0), (133, .getfield 100), (136, .iload 6), (138, .aload_n 0), (139, .getfield 88), (142, .iload_n 1), (143, .aaload), (144, .iload_n 2), (145, .iload 6), (147, .iadd)] (by decide +kernel) (Ps := [vp_in (nI 2) 4]) (pc' := 148) (lv' := [(0, .ref 66), (1, .int (nI 2)), (2, .int (nI a)), (3, .int (nI 0)), (4, .int (nI b)), (5, .int (nI c)), (6, .int (nI i))]) (st' := [.int (nI a + nI i), .ref 95, .int (nI i), .ref 100]) (σ' := sr σ 100 (va_cpy (σ 95) (σ 100) a 0 i)) rfl (vp_in_nI (by omega) (by omega)) ?_
                                rw [show (nI a + nI i) = nI (a + i) from nI_add _ _]
                                refine rw_go hX [(148, .iaload)] (by decide +kernel) (Ps := [vp_in (nI (a + i)) 40]) (pc' := 149) (lv' := [(0, .ref 66), (1, .int (nI 2)), (2, .int (nI a)), (3, .int (nI 0)), (4, .int (nI b)), (5, .int (nI c)), (6, .int (nI i))]) (st' := [.int ((sr σ 100 (va_cpy (σ 95) (σ 100) a 0 i)) 95 (nI (a + i)).toNatClampNeg), .int (nI i), .ref 100]) (σ' := sr σ 100 (va_cpy (σ 95) (σ 100) a 0 i)) rfl (vp_in_nI (by omega) (by omega)) ?_
                                rw [show ((sr σ 100 (va_cpy (σ 95) (σ 100) a 0 i)) 95 (nI (a + i)).toNatClampNeg) = σ 95 (a + i) from (by rw [nI_clamp (by omega), sr_n _ _ (by decide)])]
                                refine rw_go hX [(149, .iastore)] (by decide +kernel) (Ps := [vp_in (nI i) 40]) (pc' := 150) (lv' := [(0, .ref 66), (1, .int (nI 2)), (2, .int (nI a)), (3, .int (nI 0)), (4, .int (nI b)), (5, .int (nI c)), (6, .int (nI i))]) (st' := []) (σ' := sw (sr σ 100 (va_cpy (σ 95) (σ 100) a 0 i)) 100 (nI i).toNatClampNeg (σ 95 (a + i))) rfl (vp_in_nI (by omega) (by omega)) ?_
                                rw [show (sw (sr σ 100 (va_cpy (σ 95) (σ 100) a 0 i)) 100 (nI i).toNatClampNeg (σ 95 (a + i))) = sw (sr σ 100 (va_cpy (σ 95) (σ 100) a 0 i)) 100 i (σ 95 (a + i)) from (by rw [nI_clamp (by omega)])]
                                refine rw_go hX [(150, .iinc 6 1)] (by decide +kernel) (Ps := []) (pc' := 153) (lv' := [(0, .ref 66), (1, .int (nI 2)), (2, .int (nI a)), (3, .int (nI 0)), (4, .int (nI b)), (5, .int (nI c)), (6, .int (nI i + nI 1))]) (st' := []) (σ' := sw (sr σ 100 (va_cpy (σ 95) (σ 100) a 0 i)) 100 i (σ 95 (a + i))) rfl True.intro ?_
                                rw [show (nI i + nI 1) = nI (i + 1) from nI_add _ _]
                                refine rw_go hX [(153, .goto (-28))] (by decide +kernel) (Ps := []) (pc' := 125) (lv' := [(0, .ref 66), (1, .int (nI 2)), (2, .int (nI a)), (3, .int (nI 0)), (4, .int (nI b)), (5, .int (nI c)), (6, .int (nI (i + 1)))]) (st' := []) (σ' := sw (sr σ 100 (va_cpy (σ 95) (σ 100) a 0 i)) 100 i (σ 95 (a + i))) rfl True.intro ?_
                                refine rw_lsub (ks := [0, 1, 2, 3, 4, 5, 6]) (lv' := [(0, .ref 66), (1, .int (nI 2)), (2, .int (nI a)), (3, .int (nI 0)), (4, .int (nI b)), (5, .int (nI c)), (6, .int (nI (i + 1)))]) rfl ?_
                                have q := ih125 (c - (i + 1)) (by omega) (i + 1) rfl (by omega)
                                rw [← cpy_1, Nat.zero_add] at q
                                rw [sw_sr]
                                exact q
                          refine rw_lsub (ks := [0, 1, 2, 3, 4, 5, 6]) (lv' := [(0, .ref 66), (1, .int (nI 2)), (2, .int (nI a)), (3, .int (nI 0)), (4, .int (nI b)), (5, .int (nI c)), (6, .int (nI 0))]) rfl ?_
                          have q := L125 c 0 rfl (by omega)
                          rw [cpy_0, sr_id] at q
                          exact q
                        · replace h116 : ¬ (xj ≤ nI (n 0 - c)) := h116
                          have hcp : pz (cpOK (nI a) xj (nI c) (n 2) (n 0)) = false := pz_f fun ⟨a9, b9, k9, e1, e2, e3, g1, g2⟩ => by
                            have e9 := (nI_eq (by omega) (by omega)).mp e3
                            rw [e2] at h116
                            exact absurd (nI_le (by omega) (by omega)) h116
                          refine rw_go hX [(119, .bipush (-12))] (by decide +kernel) (Ps := []) (pc' := 121) (lv' := [(0, .ref 66), (1, .int (nI 2)), (2, .int (nI a)), (3, .int (nI 0)), (4, .int xj), (5, .int (nI c))]) (st' := [.int (-(nI 12))]) (σ' := σ) rfl True.intro ?_
                          exact rw_iret hX (by decide +kernel) (⟨by simp only [aCopy, eq_true hk4, eq_true hu4, hcs, hct, eq_true h4, eq_true h11, eq_false h23, eq_false hso1, eq_true h32, eq_false hso2, eq_true h50, eq_false h58, eq_false h62, eq_false h67, eq_false h78, hcc, eq_true h89, eq_false h102, hca, eq_false h116, hcp, if_true, if_false, Bool.false_eq_true, and_self, and_true, true_and, and_false, false_and, oel_n, oel_s, decide_true, decide_false], by simp only [sCopyM, eq_true hk4, eq_true hu4, hcs, hct, eq_true h4, eq_true h11, eq_false h23, eq_false hso1, eq_true h32, eq_false hso2, eq_true h50, eq_false h58, eq_false h62, eq_false h67, eq_false h78, hcc, eq_true h89, eq_false h102, hca, eq_false h116, hcp, if_true, if_false, Bool.false_eq_true, and_self, and_true, true_and, and_false, false_and, oel_n, oel_s, decide_true, decide_false]⟩)
          · replace h50 : ¬ (σ 97 2 = σ 97 0) := h50
            refine rw_go hX [(53, .bipush (-13))] (by decide +kernel) (Ps := []) (pc' := 55) (lv' := [(0, .ref 66), (1, .int (nI 2)), (2, .int xi), (3, .int (nI 0)), (4, .int xj), (5, .int xk)]) (st' := [.int (-(nI 13))]) (σ' := σ) rfl True.intro ?_
            exact rw_iret hX (by decide +kernel) (⟨by simp only [aCopy, eq_true hk4, eq_true hu4, hcs, hct, eq_true h4, eq_true h11, eq_false h23, eq_false hso1, eq_true h32, eq_false hso2, eq_false h50, if_true, if_false, Bool.false_eq_true, and_self, and_true, true_and, and_false, false_and, oel_n, oel_s, decide_true, decide_false], by simp only [sCopyM, eq_true hk4, eq_true hu4, hcs, hct, eq_true h4, eq_true h11, eq_false h23, eq_false hso1, eq_true h32, eq_false hso2, eq_false h50, if_true, if_false, Bool.false_eq_true, and_self, and_true, true_and, and_false, false_and, oel_n, oel_s, decide_true, decide_false]⟩)
        · replace h32 : ¬ (σ 97 0 ≥ 0) := h32
          have hso2 : σ 97 0 = -(nI 1) := (so_m hou).mp (Int32.not_le.mp h32)
          refine rw_go hX [(35, .bipush (-11))] (by decide +kernel) (Ps := []) (pc' := 37) (lv' := [(0, .ref 66), (1, .int (nI 2)), (2, .int xi), (3, .int (nI 0)), (4, .int xj), (5, .int xk)]) (st' := [.int (-(nI 11))]) (σ' := σ) rfl True.intro ?_
          exact rw_iret hX (by decide +kernel) (⟨by simp only [aCopy, eq_true hk4, eq_true hu4, hcs, hct, eq_true h4, eq_true h11, eq_false h23, eq_false hso1, eq_false h32, eq_true hso2, if_true, if_false, Bool.false_eq_true, and_self, and_true, true_and, and_false, false_and, oel_n, oel_s, decide_true, decide_false], by simp only [sCopyM, eq_true hk4, eq_true hu4, hcs, hct, eq_true h4, eq_true h11, eq_false h23, eq_false hso1, eq_false h32, eq_true hso2, if_true, if_false, Bool.false_eq_true, and_self, and_true, true_and, and_false, false_and, oel_n, oel_s, decide_true, decide_false]⟩)
    · exact absurd (by simp only [cz, cc2]; decide +kernel) h11
set_option maxRecDepth 20000 in
set_option maxHeartbeats 800000 in
theorem g_copy_2_1 (l : Launch) (G : Gl) (σ : Mm) (n : Nat → Nat) (xi xj xk : Int32) (hsh : ∀ s, s < 4 → σ 98 s = nI (n s) ∧ n s ≤ 40) (hso : ∀ s, s < 4 → σ 97 s = -(nI 1) ∨ σ 97 s = nI 0 ∨ σ 97 s = nI 1) : AMi l G 3 mX10_copy [.ref 66, .int (nI 2), .int xi, .int (nI 1), .int xj, .int xk] σ (fun r σ' => r = aCopy n (σ 97) (nI 2) xi (nI 1) xj xk ∧ σ' = sCopyM n σ (nI 2) xi (nI 1) xj xk) := by
  refine rw_inI 10 (by decide +kernel) rfl rfl ?_
  intro E hE hX
  subst hE
  have hk4 := film_r 2 (by omega)
  have hu4 := film_r 1 (by omega)
  have hcs : (nI 2).toNatClampNeg = 2 := nI_clamp (by omega)
  have hct : (nI 1).toNatClampNeg = 1 := nI_clamp (by omega)
  have hns := hsh 2 (by omega)
  have hos := hso 2 (by omega)
  have hnu := hsh 1 (by omega)
  have hou := hso 1 (by omega)
  refine rw_go hX [(0, .iload_n 1)] (by decide +kernel) (Ps := []) (pc' := 1) (lv' := [(0, .ref 66), (1, .int (nI 2)), (2, .int xi), (3, .int (nI 1)), (4, .int xj), (5, .int xk)]) (st' := [.int (nI 2)]) (σ' := σ) rfl True.intro ?_
  refine rw_callSi hX (as := [.int (nI 2)]) (rest := []) (m_isSheet _ _ _ (nI 2)) (by decide +kernel) msX10_isSheet (Or.inl lk10_298) rfl (by decide) (Nat.le_of_ble_eq_true rfl) rfl ?_
  intro r1 σ1 hr
  rw [hr.1, show r1 = nI 1 from hr.2.trans (by decide +kernel)]
  clear hr σ1 r1
  refine rw_if hX (tgt := 14) (cnd := .eq) (off := 10) (by decide +kernel) (by decide) (fun h4 => ?_) (fun h4 => ?_)
  · exact absurd h4 (by simp only [cz, cc2]; decide +kernel)
  · skip
    refine rw_go hX [(7, .iload_n 3)] (by decide +kernel) (Ps := []) (pc' := 8) (lv' := [(0, .ref 66), (1, .int (nI 2)), (2, .int xi), (3, .int (nI 1)), (4, .int xj), (5, .int xk)]) (st' := [.int (nI 1)]) (σ' := σ) rfl True.intro ?_
    refine rw_callSi hX (as := [.int (nI 1)]) (rest := []) (m_isSheet _ _ _ (nI 1)) (by decide +kernel) msX10_isSheet (Or.inl lk10_298) rfl (by decide) (Nat.le_of_ble_eq_true rfl) rfl ?_
    intro r1 σ1 hr
    rw [hr.1, show r1 = nI 1 from hr.2.trans (by decide +kernel)]
    clear hr σ1 r1
    refine rw_if hX (tgt := 17) (cnd := .ne) (off := 6) (by decide +kernel) (by decide) (fun h11 => ?_) (fun h11 => ?_)
    · skip
      refine rw_go hX [(17, .aload_n 0), (18, .getfield 91), (21, .iload_n 1), (22, .iaload)] (by decide +kernel) (Ps := [vp_in (nI 2) 4]) (pc' := 23) (lv' := [(0, .ref 66), (1, .int (nI 2)), (2, .int xi), (3, .int (nI 1)), (4, .int xj), (5, .int xk)]) (st' := [.int (σ 97 (nI 2).toNatClampNeg)]) (σ' := σ) rfl (vp_in_nI (by omega) (by omega)) ?_
      rw [show (σ 97 (nI 2).toNatClampNeg) = σ 97 2 from (by rw [nI_clamp (by omega)])]
      refine rw_if hX (tgt := 35) (cnd := .lt) (off := 12) (by decide +kernel) (by decide) (fun h23 => ?_) (fun h23 => ?_)
      · replace h23 : (σ 97 2 < 0) := h23
        have hso1 : σ 97 2 = -(nI 1) := (so_m hos).mp h23
        refine rw_go hX [(35, .bipush (-11))] (by decide +kernel) (Ps := []) (pc' := 37) (lv' := [(0, .ref 66), (1, .int (nI 2)), (2, .int xi), (3, .int (nI 1)), (4, .int xj), (5, .int xk)]) (st' := [.int (-(nI 11))]) (σ' := σ) rfl True.intro ?_
        exact rw_iret hX (by decide +kernel) (⟨by simp only [aCopy, eq_true hk4, eq_true hu4, hcs, hct, eq_true h4, eq_true h11, eq_true h23, eq_true hso1, if_true, if_false, Bool.false_eq_true, and_self, and_true, true_and, and_false, false_and, oel_n, oel_s, decide_true, decide_false], by simp only [sCopyM, eq_true hk4, eq_true hu4, hcs, hct, eq_true h4, eq_true h11, eq_true h23, eq_true hso1, if_true, if_false, Bool.false_eq_true, and_self, and_true, true_and, and_false, false_and, oel_n, oel_s, decide_true, decide_false]⟩)
      · replace h23 : ¬ (σ 97 2 < 0) := h23
        have hso1 : ¬ σ 97 2 = -(nI 1) := fun z => h23 ((so_m hos).mpr z)
        refine rw_go hX [(26, .aload_n 0), (27, .getfield 91), (30, .iload_n 3), (31, .iaload)] (by decide +kernel) (Ps := [vp_in (nI 1) 4]) (pc' := 32) (lv' := [(0, .ref 66), (1, .int (nI 2)), (2, .int xi), (3, .int (nI 1)), (4, .int xj), (5, .int xk)]) (st' := [.int (σ 97 (nI 1).toNatClampNeg)]) (σ' := σ) rfl (vp_in_nI (by omega) (by omega)) ?_
        rw [show (σ 97 (nI 1).toNatClampNeg) = σ 97 1 from (by rw [nI_clamp (by omega)])]
        refine rw_if hX (tgt := 38) (cnd := .ge) (off := 6) (by decide +kernel) (by decide) (fun h32 => ?_) (fun h32 => ?_)
        · replace h32 : (σ 97 1 ≥ 0) := h32
          have hso2 : ¬ σ 97 1 = -(nI 1) := fun z => absurd ((so_m hou).mpr z) (Int32.not_lt.mpr h32)
          refine rw_go hX [(38, .aload_n 0), (39, .getfield 91), (42, .iload_n 1), (43, .iaload)] (by decide +kernel) (Ps := [vp_in (nI 2) 4]) (pc' := 44) (lv' := [(0, .ref 66), (1, .int (nI 2)), (2, .int xi), (3, .int (nI 1)), (4, .int xj), (5, .int xk)]) (st' := [.int (σ 97 (nI 2).toNatClampNeg)]) (σ' := σ) rfl (vp_in_nI (by omega) (by omega)) ?_
          rw [show (σ 97 (nI 2).toNatClampNeg) = σ 97 2 from (by rw [nI_clamp (by omega)])]
          refine rw_go hX [(44, .aload_n 0), (45, .getfield 91), (48, .iload_n 3), (49, .iaload)] (by decide +kernel) (Ps := [vp_in (nI 1) 4]) (pc' := 50) (lv' := [(0, .ref 66), (1, .int (nI 2)), (2, .int xi), (3, .int (nI 1)), (4, .int xj), (5, .int xk)]) (st' := [.int (σ 97 (nI 1).toNatClampNeg), .int (σ 97 2)]) (σ' := σ) rfl (vp_in_nI (by omega) (by omega)) ?_
          rw [show (σ 97 (nI 1).toNatClampNeg) = σ 97 1 from (by rw [nI_clamp (by omega)])]
          refine rw_icmp hX (tgt := 56) (cnd := .eq) (off := 6) (by decide +kernel) (by decide) (fun h50 => ?_) (fun h50 => ?_)
          · replace h50 : (σ 97 2 = σ 97 1) := h50
            refine rw_go hX [(56, .iload 5)] (by decide +kernel) (Ps := []) (pc' := 58) (lv' := [(0, .ref 66), (1, .int (nI 2)), (2, .int xi), (3, .int (nI 1)), (4, .int xj), (5, .int xk)]) (st' := [.int xk]) (σ' := σ) rfl True.intro ?_
            refine rw_if hX (tgt := 119) (cnd := .lt) (off := 61) (by decide +kernel) (by decide) (fun h58 => ?_) (fun h58 => ?_)
            · replace h58 : (xk < 0) := h58
              have hcp : pz (cpOK xi xj xk (n 2) (n 1)) = false := pz_f fun ⟨a9, b9, k9, e1, e2, e3, g1, g2⟩ => by
                rw [e3] at h58; exact absurd h58 (nI_pos (by have := hns.2; omega))
              refine rw_go hX [(119, .bipush (-12))] (by decide +kernel) (Ps := []) (pc' := 121) (lv' := [(0, .ref 66), (1, .int (nI 2)), (2, .int xi), (3, .int (nI 1)), (4, .int xj), (5, .int xk)]) (st' := [.int (-(nI 12))]) (σ' := σ) rfl True.intro ?_
              exact rw_iret hX (by decide +kernel) (⟨by simp only [aCopy, eq_true hk4, eq_true hu4, hcs, hct, eq_true h4, eq_true h11, eq_false h23, eq_false hso1, eq_true h32, eq_false hso2, eq_true h50, eq_true h58, hcp, if_true, if_false, Bool.false_eq_true, and_self, and_true, true_and, and_false, false_and, oel_n, oel_s, decide_true, decide_false], by simp only [sCopyM, eq_true hk4, eq_true hu4, hcs, hct, eq_true h4, eq_true h11, eq_false h23, eq_false hso1, eq_true h32, eq_false hso2, eq_true h50, eq_true h58, hcp, if_true, if_false, Bool.false_eq_true, and_self, and_true, true_and, and_false, false_and, oel_n, oel_s, decide_true, decide_false]⟩)
            · replace h58 : ¬ (xk < 0) := h58
              refine rw_go hX [(61, .iload_n 2)] (by decide +kernel) (Ps := []) (pc' := 62) (lv' := [(0, .ref 66), (1, .int (nI 2)), (2, .int xi), (3, .int (nI 1)), (4, .int xj), (5, .int xk)]) (st' := [.int xi]) (σ' := σ) rfl True.intro ?_
              refine rw_if hX (tgt := 119) (cnd := .lt) (off := 57) (by decide +kernel) (by decide) (fun h62 => ?_) (fun h62 => ?_)
              · replace h62 : (xi < 0) := h62
                have hcp : pz (cpOK xi xj xk (n 2) (n 1)) = false := pz_f fun ⟨a9, b9, k9, e1, e2, e3, g1, g2⟩ => by
                  rw [e1] at h62; exact absurd h62 (nI_pos (by have := hns.2; omega))
                refine rw_go hX [(119, .bipush (-12))] (by decide +kernel) (Ps := []) (pc' := 121) (lv' := [(0, .ref 66), (1, .int (nI 2)), (2, .int xi), (3, .int (nI 1)), (4, .int xj), (5, .int xk)]) (st' := [.int (-(nI 12))]) (σ' := σ) rfl True.intro ?_
                exact rw_iret hX (by decide +kernel) (⟨by simp only [aCopy, eq_true hk4, eq_true hu4, hcs, hct, eq_true h4, eq_true h11, eq_false h23, eq_false hso1, eq_true h32, eq_false hso2, eq_true h50, eq_false h58, eq_true h62, hcp, if_true, if_false, Bool.false_eq_true, and_self, and_true, true_and, and_false, false_and, oel_n, oel_s, decide_true, decide_false], by simp only [sCopyM, eq_true hk4, eq_true hu4, hcs, hct, eq_true h4, eq_true h11, eq_false h23, eq_false hso1, eq_true h32, eq_false hso2, eq_true h50, eq_false h58, eq_true h62, hcp, if_true, if_false, Bool.false_eq_true, and_self, and_true, true_and, and_false, false_and, oel_n, oel_s, decide_true, decide_false]⟩)
              · replace h62 : ¬ (xi < 0) := h62
                refine rw_go hX [(65, .iload 4)] (by decide +kernel) (Ps := []) (pc' := 67) (lv' := [(0, .ref 66), (1, .int (nI 2)), (2, .int xi), (3, .int (nI 1)), (4, .int xj), (5, .int xk)]) (st' := [.int xj]) (σ' := σ) rfl True.intro ?_
                refine rw_if hX (tgt := 119) (cnd := .lt) (off := 52) (by decide +kernel) (by decide) (fun h67 => ?_) (fun h67 => ?_)
                · replace h67 : (xj < 0) := h67
                  have hcp : pz (cpOK xi xj xk (n 2) (n 1)) = false := pz_f fun ⟨a9, b9, k9, e1, e2, e3, g1, g2⟩ => by
                    rw [e2] at h67; exact absurd h67 (nI_pos (by have := hnu.2; omega))
                  refine rw_go hX [(119, .bipush (-12))] (by decide +kernel) (Ps := []) (pc' := 121) (lv' := [(0, .ref 66), (1, .int (nI 2)), (2, .int xi), (3, .int (nI 1)), (4, .int xj), (5, .int xk)]) (st' := [.int (-(nI 12))]) (σ' := σ) rfl True.intro ?_
                  exact rw_iret hX (by decide +kernel) (⟨by simp only [aCopy, eq_true hk4, eq_true hu4, hcs, hct, eq_true h4, eq_true h11, eq_false h23, eq_false hso1, eq_true h32, eq_false hso2, eq_true h50, eq_false h58, eq_false h62, eq_true h67, hcp, if_true, if_false, Bool.false_eq_true, and_self, and_true, true_and, and_false, false_and, oel_n, oel_s, decide_true, decide_false], by simp only [sCopyM, eq_true hk4, eq_true hu4, hcs, hct, eq_true h4, eq_true h11, eq_false h23, eq_false hso1, eq_true h32, eq_false hso2, eq_true h50, eq_false h58, eq_false h62, eq_true h67, hcp, if_true, if_false, Bool.false_eq_true, and_self, and_true, true_and, and_false, false_and, oel_n, oel_s, decide_true, decide_false]⟩)
                · replace h67 : ¬ (xj < 0) := h67
                  refine rw_go hX [(70, .iload 5), (72, .aload_n 0), (73, .getfield 94), (76, .iload_n 1), (77, .iaload)] (by decide +kernel) (Ps := [vp_in (nI 2) 4]) (pc' := 78) (lv' := [(0, .ref 66), (1, .int (nI 2)), (2, .int xi), (3, .int (nI 1)), (4, .int xj), (5, .int xk)]) (st' := [.int (σ 98 (nI 2).toNatClampNeg), .int xk]) (σ' := σ) rfl (vp_in_nI (by omega) (by omega)) ?_
                  rw [show (σ 98 (nI 2).toNatClampNeg) = nI (n 2) from (by rw [nI_clamp (by omega), hns.1])]
                  refine rw_icmp hX (tgt := 119) (cnd := .gt) (off := 41) (by decide +kernel) (by decide) (fun h78 => ?_) (fun h78 => ?_)
                  · replace h78 : (xk > nI (n 2)) := h78
                    have hcp : pz (cpOK xi xj xk (n 2) (n 1)) = false := pz_f fun ⟨a9, b9, k9, e1, e2, e3, g1, g2⟩ => by
                      rw [e3] at h78; exact absurd h78 (Int32.not_lt.mpr (nI_le (show k9 ≤ n 2 by omega) (by have := hns.2; omega)))
                    refine rw_go hX [(119, .bipush (-12))] (by decide +kernel) (Ps := []) (pc' := 121) (lv' := [(0, .ref 66), (1, .int (nI 2)), (2, .int xi), (3, .int (nI 1)), (4, .int xj), (5, .int xk)]) (st' := [.int (-(nI 12))]) (σ' := σ) rfl True.intro ?_
                    exact rw_iret hX (by decide +kernel) (⟨by simp only [aCopy, eq_true hk4, eq_true hu4, hcs, hct, eq_true h4, eq_true h11, eq_false h23, eq_false hso1, eq_true h32, eq_false hso2, eq_true h50, eq_false h58, eq_false h62, eq_false h67, eq_true h78, hcp, if_true, if_false, Bool.false_eq_true, and_self, and_true, true_and, and_false, false_and, oel_n, oel_s, decide_true, decide_false], by simp only [sCopyM, eq_true hk4, eq_true hu4, hcs, hct, eq_true h4, eq_true h11, eq_false h23, eq_false hso1, eq_true h32, eq_false hso2, eq_true h50, eq_false h58, eq_false h62, eq_false h67, eq_true h78, hcp, if_true, if_false, Bool.false_eq_true, and_self, and_true, true_and, and_false, false_and, oel_n, oel_s, decide_true, decide_false]⟩)
                  · replace h78 : ¬ (xk > nI (n 2)) := h78
                    have hn40 := hns.2
                    have hn41 := hnu.2
                    obtain ⟨c, hc, rfl⟩ := rng (m := n 2) (by omega) ⟨Int32.not_lt.mp h58, Int32.not_lt.mp h78⟩
                    have hcc : (nI c).toNatClampNeg = c := nI_clamp (by omega)
                    refine rw_go hX [(81, .iload 5), (83, .aload_n 0), (84, .getfield 94), (87, .iload_n 3), (88, .iaload)] (by decide +kernel) (Ps := [vp_in (nI 1) 4]) (pc' := 89) (lv' := [(0, .ref 66), (1, .int (nI 2)), (2, .int xi), (3, .int (nI 1)), (4, .int xj), (5, .int (nI c))]) (st' := [.int (σ 98 (nI 1).toNatClampNeg), .int (nI c)]) (σ' := σ) rfl (vp_in_nI (by omega) (by omega)) ?_
                    rw [show (σ 98 (nI 1).toNatClampNeg) = nI (n 1) from (by rw [nI_clamp (by omega), hnu.1])]
                    refine rw_icmp hX (tgt := 119) (cnd := .gt) (off := 30) (by decide +kernel) (by decide) (fun h89 => ?_) (fun h89 => ?_)
                    · replace h89 := c2_gtT h89
                      have hcp : pz (cpOK xi xj (nI c) (n 2) (n 1)) = false := pz_f fun ⟨a9, b9, k9, e1, e2, e3, g1, g2⟩ => by
                        have e9 := (nI_eq (by omega) (by omega)).mp e3
                        omega
                      refine rw_go hX [(119, .bipush (-12))] (by decide +kernel) (Ps := []) (pc' := 121) (lv' := [(0, .ref 66), (1, .int (nI 2)), (2, .int xi), (3, .int (nI 1)), (4, .int xj), (5, .int (nI c))]) (st' := [.int (-(nI 12))]) (σ' := σ) rfl True.intro ?_
                      exact rw_iret hX (by decide +kernel) (⟨by simp only [aCopy, eq_true hk4, eq_true hu4, hcs, hct, eq_true h4, eq_true h11, eq_false h23, eq_false hso1, eq_true h32, eq_false hso2, eq_true h50, eq_false h58, eq_false h62, eq_false h67, eq_false h78, hcc, eq_true h89, hcp, if_true, if_false, Bool.false_eq_true, and_self, and_true, true_and, and_false, false_and, oel_n, oel_s, decide_true, decide_false], by simp only [sCopyM, eq_true hk4, eq_true hu4, hcs, hct, eq_true h4, eq_true h11, eq_false h23, eq_false hso1, eq_true h32, eq_false hso2, eq_true h50, eq_false h58, eq_false h62, eq_false h67, eq_false h78, hcc, eq_true h89, hcp, if_true, if_false, Bool.false_eq_true, and_self, and_true, true_and, and_false, false_and, oel_n, oel_s, decide_true, decide_false]⟩)
                    · replace h89 := c2_gtF h89
                      have hcu : c ≤ n 1 := by omega
                      refine rw_go hX [(92, .iload_n 2), (93, .aload_n 0), (94, .getfield 94), (97, .iload_n 1), (98, .iaload)] (by decide +kernel) (Ps := [vp_in (nI 2) 4]) (pc' := 99) (lv' := [(0, .ref 66), (1, .int (nI 2)), (2, .int xi), (3, .int (nI 1)), (4, .int xj), (5, .int (nI c))]) (st' := [.int (σ 98 (nI 2).toNatClampNeg), .int xi]) (σ' := σ) rfl (vp_in_nI (by omega) (by omega)) ?_
                      rw [show (σ 98 (nI 2).toNatClampNeg) = nI (n 2) from (by rw [nI_clamp (by omega), hns.1])]
                      refine rw_go hX [(99, .iload 5), (101, .isub)] (by decide +kernel) (Ps := []) (pc' := 102) (lv' := [(0, .ref 66), (1, .int (nI 2)), (2, .int xi), (3, .int (nI 1)), (4, .int xj), (5, .int (nI c))]) (st' := [.int (nI (n 2) - nI c), .int xi]) (σ' := σ) rfl True.intro ?_
                      rw [show (nI (n 2) - nI c) = nI (n 2 - c) from pk_sub (by omega)]
                      refine rw_icmp hX (tgt := 119) (cnd := .gt) (off := 17) (by decide +kernel) (by decide) (fun h102 => ?_) (fun h102 => ?_)
                      · replace h102 : (xi > nI (n 2 - c)) := h102
                        have hcp : pz (cpOK xi xj (nI c) (n 2) (n 1)) = false := pz_f fun ⟨a9, b9, k9, e1, e2, e3, g1, g2⟩ => by
                          have e9 := (nI_eq (by omega) (by omega)).mp e3
                          rw [e1] at h102
                          exact absurd h102 (Int32.not_lt.mpr (nI_le (by omega) (by omega)))
                        refine rw_go hX [(119, .bipush (-12))] (by decide +kernel) (Ps := []) (pc' := 121) (lv' := [(0, .ref 66), (1, .int (nI 2)), (2, .int xi), (3, .int (nI 1)), (4, .int xj), (5, .int (nI c))]) (st' := [.int (-(nI 12))]) (σ' := σ) rfl True.intro ?_
                        exact rw_iret hX (by decide +kernel) (⟨by simp only [aCopy, eq_true hk4, eq_true hu4, hcs, hct, eq_true h4, eq_true h11, eq_false h23, eq_false hso1, eq_true h32, eq_false hso2, eq_true h50, eq_false h58, eq_false h62, eq_false h67, eq_false h78, hcc, eq_true h89, eq_true h102, hcp, if_true, if_false, Bool.false_eq_true, and_self, and_true, true_and, and_false, false_and, oel_n, oel_s, decide_true, decide_false], by simp only [sCopyM, eq_true hk4, eq_true hu4, hcs, hct, eq_true h4, eq_true h11, eq_false h23, eq_false hso1, eq_true h32, eq_false hso2, eq_true h50, eq_false h58, eq_false h62, eq_false h67, eq_false h78, hcc, eq_true h89, eq_true h102, hcp, if_true, if_false, Bool.false_eq_true, and_self, and_true, true_and, and_false, false_and, oel_n, oel_s, decide_true, decide_false]⟩)
                      · replace h102 : ¬ (xi > nI (n 2 - c)) := h102
                        obtain ⟨a, ha, rfl⟩ := rng (m := n 2 - c) (by omega) ⟨Int32.not_lt.mp h62, Int32.not_lt.mp h102⟩
                        have hca : (nI a).toNatClampNeg = a := nI_clamp (by omega)
                        refine rw_go hX [(105, .iload 4), (107, .aload_n 0), (108, .getfield 94), (111, .iload_n 3), (112, .iaload)] (by decide +kernel) (Ps := [vp_in (nI 1) 4]) (pc' := 113) (lv' := [(0, .ref 66), (1, .int (nI 2)), (2, .int (nI a)), (3, .int (nI 1)), (4, .int xj), (5, .int (nI c))]) (st' := [.int (σ 98 (nI 1).toNatClampNeg), .int xj]) (σ' := σ) rfl (vp_in_nI (by omega) (by omega)) ?_
                        rw [show (σ 98 (nI 1).toNatClampNeg) = nI (n 1) from (by rw [nI_clamp (by omega), hnu.1])]
                        refine rw_go hX [(113, .iload 5), (115, .isub)] (by decide +kernel) (Ps := []) (pc' := 116) (lv' := [(0, .ref 66), (1, .int (nI 2)), (2, .int (nI a)), (3, .int (nI 1)), (4, .int xj), (5, .int (nI c))]) (st' := [.int (nI (n 1) - nI c), .int xj]) (σ' := σ) rfl True.intro ?_
                        rw [show (nI (n 1) - nI c) = nI (n 1 - c) from pk_sub (by omega)]
                        refine rw_icmp hX (tgt := 122) (cnd := .le) (off := 6) (by decide +kernel) (by decide) (fun h116 => ?_) (fun h116 => ?_)
                        · replace h116 : (xj ≤ nI (n 1 - c)) := h116
                          obtain ⟨b, hb, rfl⟩ := rng (m := n 1 - c) (by omega) ⟨Int32.not_lt.mp h67, h116⟩
                          have hcb : (nI b).toNatClampNeg = b := nI_clamp (by omega)
                          have hcp : pz (cpOK (nI a) (nI b) (nI c) (n 2) (n 1)) = true := pz_t ⟨a, b, c, rfl, rfl, rfl, by omega, by omega⟩
                          refine rw_go hX [(122, .iconst 0), (123, .istore 6)] (by decide +kernel) (Ps := []) (pc' := 125) (lv' := [(0, .ref 66), (1, .int (nI 2)), (2, .int (nI a)), (3, .int (nI 1)), (4, .int (nI b)), (5, .int (nI c)), (6, .int (nI 0))]) (st' := []) (σ' := σ) rfl True.intro ?_
                          have L125 : ∀ (μ125 : Nat) (i : Nat), μ125 = c - i → (i ≤ c) → RW E G 3 7 (QI E G (fun r σ' => r = aCopy n (σ 97) (nI 2) (nI a) (nI 1) (nI b) (nI c) ∧ σ' = sCopyM n σ (nI 2) (nI a) (nI 1) (nI b) (nI c))) 125 [(0, .ref 66), (1, .int (nI 2)), (2, .int (nI a)), (3, .int (nI 1)), (4, .int (nI b)), (5, .int (nI c)), (6, .int (nI i))] [] (sr σ 100 (va_cpy (σ 95) (σ 100) a 0 i)) := by
                            intro μ125
                            induction μ125 using Nat.strongRecOn with
                            | ind μ125 ih125 =>
                              intro i hμ125 hi
                              refine rw_go hX [(125, .iload 6), (127, .iload 5)] (by decide +kernel) (Ps := []) (pc' := 129) (lv' := [(0, .ref 66), (1, .int (nI 2)), (2, .int (nI a)), (3, .int (nI 1)), (4, .int (nI b)), (5, .int (nI c)), (6, .int (nI i))]) (st' := [.int (nI c), .int (nI i)]) (σ' := sr σ 100 (va_cpy (σ 95) (σ 100) a 0 i)) rfl True.intro ?_
                              refine rw_icmp hX (tgt := 156) (cnd := .ge) (off := 27) (by decide +kernel) (by decide) (fun h129 => ?_) (fun h129 => ?_)
                              · replace h129 := c2_geT h129
                                have ei : i = c := by omega
                                rw [ei]
                                refine rw_go hX [(156, .iconst 0), (157, .istore 6)] (by decide +kernel) (Ps := []) (pc' := 159) (lv' := [(0, .ref 66), (1, .int (nI 2)), (2, .int (nI a)), (3, .int (nI 1)), (4, .int (nI b)), (5, .int (nI c)), (6, .int (nI 0))]) (st' := []) (σ' := sr σ 100 (va_cpy (σ 95) (σ 100) a 0 c)) rfl True.intro ?_
                                have L159 : ∀ (μ159 : Nat) (i : Nat), μ159 = c - i → (i ≤ c) → RW E G 3 7 (QI E G (fun r σ' => r = aCopy n (σ 97) (nI 2) (nI a) (nI 1) (nI b) (nI c) ∧ σ' = sCopyM n σ (nI 2) (nI a) (nI 1) (nI b) (nI c))) 159 [(0, .ref 66), (1, .int (nI 2)), (2, .int (nI a)), (3, .int (nI 1)), (4, .int (nI b)), (5, .int (nI c)), (6, .int (nI i))] [] (sr (sr σ 100 (va_cpy (σ 95) (σ 100) a 0 c)) 94 (va_cpy (va_cpy (σ 95) (σ 100) a 0 c) (σ 94) 0 b i)) := by
                                  intro μ159
                                  induction μ159 using Nat.strongRecOn with
                                  | ind μ159 ih159 =>
                                    intro i hμ159 hi2
                                    refine rw_go hX [(159, .iload 6), (161, .iload 5)] (by decide +kernel) (Ps := []) (pc' := 163) (lv' := [(0, .ref 66), (1, .int (nI 2)), (2, .int (nI a)), (3, .int (nI 1)), (4, .int (nI b)), (5, .int (nI c)), (6, .int (nI i))]) (st' := [.int (nI c), .int (nI i)]) (σ' := sr (sr σ 100 (va_cpy (σ 95) (σ 100) a 0 c)) 94 (va_cpy (va_cpy (σ 95) (σ 100) a 0 c) (σ 94) 0 b i)) rfl True.intro ?_
                                    refine rw_icmp hX (tgt := 191) (cnd := .ge) (off := 28) (by decide +kernel) (by decide) (fun h163 => ?_) (fun h163 => ?_)
                                    · replace h163 := c2_geT h163
                                      have ei2 : i = c := by omega
                                      refine rw_go hX [(191, .iload 5)] (by decide +kernel) (Ps := []) (pc' := 193) (lv' := [(0, .ref 66), (1, .int (nI 2)), (2, .int (nI a)), (3, .int (nI 1)), (4, .int (nI b)), (5, .int (nI c)), (6, .int (nI i))]) (st' := [.int (nI c)]) (σ' := sr (sr σ 100 (va_cpy (σ 95) (σ 100) a 0 c)) 94 (va_cpy (va_cpy (σ 95) (σ 100) a 0 c) (σ 94) 0 b i)) rfl True.intro ?_
                                      exact rw_iret hX (by decide +kernel) (⟨by simp only [aCopy, eq_true hk4, eq_true hu4, hcs, hct, eq_true h4, eq_true h11, eq_false h23, eq_false hso1, eq_true h32, eq_false hso2, eq_true h50, eq_false h58, eq_false h62, eq_false h67, eq_false h78, hcc, eq_true h89, eq_false h102, hca, eq_true h116, hcb, hcp, eq_true h129, eq_true h163, if_true, if_false, Bool.false_eq_true, and_self, and_true, true_and, and_false, false_and, oel_n, oel_s, decide_true, decide_false], by simp only [sCopyM, eq_true hk4, eq_true hu4, hcs, hct, eq_true h4, eq_true h11, eq_false h23, eq_false hso1, eq_true h32, eq_false hso2, eq_true h50, eq_false h58, eq_false h62, eq_false h67, eq_false h78, hcc, eq_true h89, eq_false h102, hca, eq_true h116, hcb, hcp, eq_true h129, eq_true h163, if_true, if_false, Bool.false_eq_true, and_self, and_true, true_and, and_false, false_and, oel_n, oel_s, decide_true, decide_false]; rw [ei2]; rfl⟩)
                                    · replace h163 := c2_geF h163
                                      refine rw_go hX [(166, .aload_n 0), (167, .getfield 88), (170, .iload_n 3), (171, .aaload), (172, .iload 4), (174, .iload 6), (176, .iadd)] (by decide +kernel) (Ps := [vp_in (nI 1) 4]) (pc' := 177) (lv' := [(0, .ref 66), (1, .int (nI 2)), (2, .int (nI a)), (3, .int (nI 1)), (4, .int (nI b)), (5, .int (nI c)), (6, .int (nI i))]) (st' := [.int (nI b + nI i), .ref 94]) (σ' := sr (sr σ 100 (va_cpy (σ 95) (σ 100) a 0 c)) 94 (va_cpy (va_cpy (σ 95) (σ 100) a 0 c) (σ 94) 0 b i)) rfl (vp_in_nI (by omega) (by omega)) ?_
                                      rw [show (nI b + nI i) = nI (b + i) from nI_add _ _]
                                      refine rw_go hX [(177, .aload_n 0), (178, .getfield 100), (181, .iload 6), (183, .iaload)] (by decide +kernel) (Ps := [vp_in (nI i) 40]) (pc' := 184) (lv' := [(0, .ref 66), (1, .int (nI 2)), (2, .int (nI a)), (3, .int (nI 1)), (4, .int (nI b)), (5, .int (nI c)), (6, .int (nI i))]) (st' := [.int ((sr (sr σ 100 (va_cpy (σ 95) (σ 100) a 0 c)) 94 (va_cpy (va_cpy (σ 95) (σ 100) a 0 c) (σ 94) 0 b i)) 100 (nI i).toNatClampNeg), .int (nI (b + i)), .ref 94]) (σ' := sr (sr σ 100 (va_cpy (σ 95) (σ 100) a 0 c)) 94 (va_cpy (va_cpy (σ 95) (σ 100) a 0 c) (σ 94) 0 b i)) rfl (vp_in_nI (by omega) (by omega)) ?_
                                      rw [show ((sr (sr σ 100 (va_cpy (σ 95) (σ 100) a 0 c)) 94 (va_cpy (va_cpy (σ 95) (σ 100) a 0 c) (σ 94) 0 b i)) 100 (nI i).toNatClampNeg) = (va_cpy (σ 95) (σ 100) a 0 c) i from (by rw [nI_clamp (by omega), sr_n _ _ (by decide), sr_s])]
                                      refine rw_go hX [(184, .iastore)] (by decide +kernel) (Ps := [vp_in (nI (b + i)) 40]) (pc' := 185) (lv' := [(0, .ref 66), (1, .int (nI 2)), (2, .int (nI a)), (3, .int (nI 1)), (4, .int (nI b)), (5, .int (nI c)), (6, .int (nI i))]) (st' := []) (σ' := sw (sr (sr σ 100 (va_cpy (σ 95) (σ 100) a 0 c)) 94 (va_cpy (va_cpy (σ 95) (σ 100) a 0 c) (σ 94) 0 b i)) 94 (nI (b + i)).toNatClampNeg ((va_cpy (σ 95) (σ 100) a 0 c) i)) rfl (vp_in_nI (by omega) (by omega)) ?_
                                      rw [show (sw (sr (sr σ 100 (va_cpy (σ 95) (σ 100) a 0 c)) 94 (va_cpy (va_cpy (σ 95) (σ 100) a 0 c) (σ 94) 0 b i)) 94 (nI (b + i)).toNatClampNeg ((va_cpy (σ 95) (σ 100) a 0 c) i)) = sw (sr (sr σ 100 (va_cpy (σ 95) (σ 100) a 0 c)) 94 (va_cpy (va_cpy (σ 95) (σ 100) a 0 c) (σ 94) 0 b i)) 94 (b + i) ((va_cpy (σ 95) (σ 100) a 0 c) i) from (by rw [nI_clamp (by omega)])]
                                      refine rw_go hX [(185, .iinc 6 1)] (by decide +kernel) (Ps := []) (pc' := 188) (lv' := [(0, .ref 66), (1, .int (nI 2)), (2, .int (nI a)), (3, .int (nI 1)), (4, .int (nI b)), (5, .int (nI c)), (6, .int (nI i + nI 1))]) (st' := []) (σ' := sw (sr (sr σ 100 (va_cpy (σ 95) (σ 100) a 0 c)) 94 (va_cpy (va_cpy (σ 95) (σ 100) a 0 c) (σ 94) 0 b i)) 94 (b + i) ((va_cpy (σ 95) (σ 100) a 0 c) i)) rfl True.intro ?_
                                      rw [show (nI i + nI 1) = nI (i + 1) from nI_add _ _]
                                      refine rw_go hX [(188, .goto (-29))] (by decide +kernel) (Ps := []) (pc' := 159) (lv' := [(0, .ref 66), (1, .int (nI 2)), (2, .int (nI a)), (3, .int (nI 1)), (4, .int (nI b)), (5, .int (nI c)), (6, .int (nI (i + 1)))]) (st' := []) (σ' := sw (sr (sr σ 100 (va_cpy (σ 95) (σ 100) a 0 c)) 94 (va_cpy (va_cpy (σ 95) (σ 100) a 0 c) (σ 94) 0 b i)) 94 (b + i) ((va_cpy (σ 95) (σ 100) a 0 c) i)) rfl True.intro ?_
                                      refine rw_lsub (ks := [0, 1, 2, 3, 4, 5, 6]) (lv' := [(0, .ref 66), (1, .int (nI 2)), (2, .int (nI a)), (3, .int (nI 1)), (4, .int (nI b)), (5, .int (nI c)), (6, .int (nI (i + 1)))]) rfl ?_
                                      have q := ih159 (c - (i + 1)) (by omega) (i + 1) rfl (by omega)
                                      rw [← cpy_1, Nat.zero_add] at q
                                      rw [sw_sr]
                                      exact q
                                refine rw_lsub (ks := [0, 1, 2, 3, 4, 5, 6]) (lv' := [(0, .ref 66), (1, .int (nI 2)), (2, .int (nI a)), (3, .int (nI 1)), (4, .int (nI b)), (5, .int (nI c)), (6, .int (nI 0))]) rfl ?_
                                have q := L159 c 0 rfl (by omega)
                                rw [cpy_0, show sr (sr σ 100 (va_cpy (σ 95) (σ 100) a 0 c)) 94 (σ 94) = sr σ 100 (va_cpy (σ 95) (σ 100) a 0 c) from by
                                  funext q
                                  by_cases z : q = 94
                                  · subst z; rw [sr_s, sr_n _ _ (by decide)]
                                  · rw [sr_n _ _ z]] at q
                                exact q
                              · replace h129 := c2_geF h129
                                refine rw_go hX [(132, .aload_n 0), (133, .getfield 100), (136, .iload 6), (138, .aload_n 0), (139, .getfield 88), (142, .iload_n 1), (143, .aaload), (144, .iload_n 2), (145, .iload 6), (147, .iadd)] (by decide +kernel) (Ps := [vp_in (nI 2) 4]) (pc' := 148) (lv' := [(0, .ref 66), (1, .int (nI 2)), (2, .int (nI a)), (3, .int (nI 1)), (4, .int (nI b)), (5, .int (nI c)), (6, .int (nI i))]) (st' := [.int (nI a + nI i), .ref 95, .int (nI i), .ref 100]) (σ' := sr σ 100 (va_cpy (σ 95) (σ 100) a 0 i)) rfl (vp_in_nI (by omega) (by omega)) ?_
                                rw [show (nI a + nI i) = nI (a + i) from nI_add _ _]
                                refine rw_go hX [(148, .iaload)] (by decide +kernel) (Ps := [vp_in (nI (a + i)) 40]) (pc' := 149) (lv' := [(0, .ref 66), (1, .int (nI 2)), (2, .int (nI a)), (3, .int (nI 1)), (4, .int (nI b)), (5, .int (nI c)), (6, .int (nI i))]) (st' := [.int ((sr σ 100 (va_cpy (σ 95) (σ 100) a 0 i)) 95 (nI (a + i)).toNatClampNeg), .int (nI i), .ref 100]) (σ' := sr σ 100 (va_cpy (σ 95) (σ 100) a 0 i)) rfl (vp_in_nI (by omega) (by omega)) ?_
                                rw [show ((sr σ 100 (va_cpy (σ 95) (σ 100) a 0 i)) 95 (nI (a + i)).toNatClampNeg) = σ 95 (a + i) from (by rw [nI_clamp (by omega), sr_n _ _ (by decide)])]
                                refine rw_go hX [(149, .iastore)] (by decide +kernel) (Ps := [vp_in (nI i) 40]) (pc' := 150) (lv' := [(0, .ref 66), (1, .int (nI 2)), (2, .int (nI a)), (3, .int (nI 1)), (4, .int (nI b)), (5, .int (nI c)), (6, .int (nI i))]) (st' := []) (σ' := sw (sr σ 100 (va_cpy (σ 95) (σ 100) a 0 i)) 100 (nI i).toNatClampNeg (σ 95 (a + i))) rfl (vp_in_nI (by omega) (by omega)) ?_
                                rw [show (sw (sr σ 100 (va_cpy (σ 95) (σ 100) a 0 i)) 100 (nI i).toNatClampNeg (σ 95 (a + i))) = sw (sr σ 100 (va_cpy (σ 95) (σ 100) a 0 i)) 100 i (σ 95 (a + i)) from (by rw [nI_clamp (by omega)])]
                                refine rw_go hX [(150, .iinc 6 1)] (by decide +kernel) (Ps := []) (pc' := 153) (lv' := [(0, .ref 66), (1, .int (nI 2)), (2, .int (nI a)), (3, .int (nI 1)), (4, .int (nI b)), (5, .int (nI c)), (6, .int (nI i + nI 1))]) (st' := []) (σ' := sw (sr σ 100 (va_cpy (σ 95) (σ 100) a 0 i)) 100 i (σ 95 (a + i))) rfl True.intro ?_
                                rw [show (nI i + nI 1) = nI (i + 1) from nI_add _ _]
                                refine rw_go hX [(153, .goto (-28))] (by decide +kernel) (Ps := []) (pc' := 125) (lv' := [(0, .ref 66), (1, .int (nI 2)), (2, .int (nI a)), (3, .int (nI 1)), (4, .int (nI b)), (5, .int (nI c)), (6, .int (nI (i + 1)))]) (st' := []) (σ' := sw (sr σ 100 (va_cpy (σ 95) (σ 100) a 0 i)) 100 i (σ 95 (a + i))) rfl True.intro ?_
                                refine rw_lsub (ks := [0, 1, 2, 3, 4, 5, 6]) (lv' := [(0, .ref 66), (1, .int (nI 2)), (2, .int (nI a)), (3, .int (nI 1)), (4, .int (nI b)), (5, .int (nI c)), (6, .int (nI (i + 1)))]) rfl ?_
                                have q := ih125 (c - (i + 1)) (by omega) (i + 1) rfl (by omega)
                                rw [← cpy_1, Nat.zero_add] at q
                                rw [sw_sr]
                                exact q
                          refine rw_lsub (ks := [0, 1, 2, 3, 4, 5, 6]) (lv' := [(0, .ref 66), (1, .int (nI 2)), (2, .int (nI a)), (3, .int (nI 1)), (4, .int (nI b)), (5, .int (nI c)), (6, .int (nI 0))]) rfl ?_
                          have q := L125 c 0 rfl (by omega)
                          rw [cpy_0, sr_id] at q
                          exact q
                        · replace h116 : ¬ (xj ≤ nI (n 1 - c)) := h116
                          have hcp : pz (cpOK (nI a) xj (nI c) (n 2) (n 1)) = false := pz_f fun ⟨a9, b9, k9, e1, e2, e3, g1, g2⟩ => by
                            have e9 := (nI_eq (by omega) (by omega)).mp e3
                            rw [e2] at h116
                            exact absurd (nI_le (by omega) (by omega)) h116
                          refine rw_go hX [(119, .bipush (-12))] (by decide +kernel) (Ps := []) (pc' := 121) (lv' := [(0, .ref 66), (1, .int (nI 2)), (2, .int (nI a)), (3, .int (nI 1)), (4, .int xj), (5, .int (nI c))]) (st' := [.int (-(nI 12))]) (σ' := σ) rfl True.intro ?_
                          exact rw_iret hX (by decide +kernel) (⟨by simp only [aCopy, eq_true hk4, eq_true hu4, hcs, hct, eq_true h4, eq_true h11, eq_false h23, eq_false hso1, eq_true h32, eq_false hso2, eq_true h50, eq_false h58, eq_false h62, eq_false h67, eq_false h78, hcc, eq_true h89, eq_false h102, hca, eq_false h116, hcp, if_true, if_false, Bool.false_eq_true, and_self, and_true, true_and, and_false, false_and, oel_n, oel_s, decide_true, decide_false], by simp only [sCopyM, eq_true hk4, eq_true hu4, hcs, hct, eq_true h4, eq_true h11, eq_false h23, eq_false hso1, eq_true h32, eq_false hso2, eq_true h50, eq_false h58, eq_false h62, eq_false h67, eq_false h78, hcc, eq_true h89, eq_false h102, hca, eq_false h116, hcp, if_true, if_false, Bool.false_eq_true, and_self, and_true, true_and, and_false, false_and, oel_n, oel_s, decide_true, decide_false]⟩)
          · replace h50 : ¬ (σ 97 2 = σ 97 1) := h50
            refine rw_go hX [(53, .bipush (-13))] (by decide +kernel) (Ps := []) (pc' := 55) (lv' := [(0, .ref 66), (1, .int (nI 2)), (2, .int xi), (3, .int (nI 1)), (4, .int xj), (5, .int xk)]) (st' := [.int (-(nI 13))]) (σ' := σ) rfl True.intro ?_
            exact rw_iret hX (by decide +kernel) (⟨by simp only [aCopy, eq_true hk4, eq_true hu4, hcs, hct, eq_true h4, eq_true h11, eq_false h23, eq_false hso1, eq_true h32, eq_false hso2, eq_false h50, if_true, if_false, Bool.false_eq_true, and_self, and_true, true_and, and_false, false_and, oel_n, oel_s, decide_true, decide_false], by simp only [sCopyM, eq_true hk4, eq_true hu4, hcs, hct, eq_true h4, eq_true h11, eq_false h23, eq_false hso1, eq_true h32, eq_false hso2, eq_false h50, if_true, if_false, Bool.false_eq_true, and_self, and_true, true_and, and_false, false_and, oel_n, oel_s, decide_true, decide_false]⟩)
        · replace h32 : ¬ (σ 97 1 ≥ 0) := h32
          have hso2 : σ 97 1 = -(nI 1) := (so_m hou).mp (Int32.not_le.mp h32)
          refine rw_go hX [(35, .bipush (-11))] (by decide +kernel) (Ps := []) (pc' := 37) (lv' := [(0, .ref 66), (1, .int (nI 2)), (2, .int xi), (3, .int (nI 1)), (4, .int xj), (5, .int xk)]) (st' := [.int (-(nI 11))]) (σ' := σ) rfl True.intro ?_
          exact rw_iret hX (by decide +kernel) (⟨by simp only [aCopy, eq_true hk4, eq_true hu4, hcs, hct, eq_true h4, eq_true h11, eq_false h23, eq_false hso1, eq_false h32, eq_true hso2, if_true, if_false, Bool.false_eq_true, and_self, and_true, true_and, and_false, false_and, oel_n, oel_s, decide_true, decide_false], by simp only [sCopyM, eq_true hk4, eq_true hu4, hcs, hct, eq_true h4, eq_true h11, eq_false h23, eq_false hso1, eq_false h32, eq_true hso2, if_true, if_false, Bool.false_eq_true, and_self, and_true, true_and, and_false, false_and, oel_n, oel_s, decide_true, decide_false]⟩)
    · exact absurd (by simp only [cz, cc2]; decide +kernel) h11
set_option maxRecDepth 20000 in
set_option maxHeartbeats 800000 in
theorem g_copy_2_2 (l : Launch) (G : Gl) (σ : Mm) (n : Nat → Nat) (xi xj xk : Int32) (hsh : ∀ s, s < 4 → σ 98 s = nI (n s) ∧ n s ≤ 40) (hso : ∀ s, s < 4 → σ 97 s = -(nI 1) ∨ σ 97 s = nI 0 ∨ σ 97 s = nI 1) : AMi l G 3 mX10_copy [.ref 66, .int (nI 2), .int xi, .int (nI 2), .int xj, .int xk] σ (fun r σ' => r = aCopy n (σ 97) (nI 2) xi (nI 2) xj xk ∧ σ' = sCopyM n σ (nI 2) xi (nI 2) xj xk) := by
  refine rw_inI 10 (by decide +kernel) rfl rfl ?_
  intro E hE hX
  subst hE
  have hk4 := film_r 2 (by omega)
  have hu4 := film_r 2 (by omega)
  have hcs : (nI 2).toNatClampNeg = 2 := nI_clamp (by omega)
  have hct : (nI 2).toNatClampNeg = 2 := nI_clamp (by omega)
  have hns := hsh 2 (by omega)
  have hos := hso 2 (by omega)
  have hnu := hsh 2 (by omega)
  have hou := hso 2 (by omega)
  refine rw_go hX [(0, .iload_n 1)] (by decide +kernel) (Ps := []) (pc' := 1) (lv' := [(0, .ref 66), (1, .int (nI 2)), (2, .int xi), (3, .int (nI 2)), (4, .int xj), (5, .int xk)]) (st' := [.int (nI 2)]) (σ' := σ) rfl True.intro ?_
  refine rw_callSi hX (as := [.int (nI 2)]) (rest := []) (m_isSheet _ _ _ (nI 2)) (by decide +kernel) msX10_isSheet (Or.inl lk10_298) rfl (by decide) (Nat.le_of_ble_eq_true rfl) rfl ?_
  intro r1 σ1 hr
  rw [hr.1, show r1 = nI 1 from hr.2.trans (by decide +kernel)]
  clear hr σ1 r1
  refine rw_if hX (tgt := 14) (cnd := .eq) (off := 10) (by decide +kernel) (by decide) (fun h4 => ?_) (fun h4 => ?_)
  · exact absurd h4 (by simp only [cz, cc2]; decide +kernel)
  · skip
    refine rw_go hX [(7, .iload_n 3)] (by decide +kernel) (Ps := []) (pc' := 8) (lv' := [(0, .ref 66), (1, .int (nI 2)), (2, .int xi), (3, .int (nI 2)), (4, .int xj), (5, .int xk)]) (st' := [.int (nI 2)]) (σ' := σ) rfl True.intro ?_
    refine rw_callSi hX (as := [.int (nI 2)]) (rest := []) (m_isSheet _ _ _ (nI 2)) (by decide +kernel) msX10_isSheet (Or.inl lk10_298) rfl (by decide) (Nat.le_of_ble_eq_true rfl) rfl ?_
    intro r1 σ1 hr
    rw [hr.1, show r1 = nI 1 from hr.2.trans (by decide +kernel)]
    clear hr σ1 r1
    refine rw_if hX (tgt := 17) (cnd := .ne) (off := 6) (by decide +kernel) (by decide) (fun h11 => ?_) (fun h11 => ?_)
    · skip
      refine rw_go hX [(17, .aload_n 0), (18, .getfield 91), (21, .iload_n 1), (22, .iaload)] (by decide +kernel) (Ps := [vp_in (nI 2) 4]) (pc' := 23) (lv' := [(0, .ref 66), (1, .int (nI 2)), (2, .int xi), (3, .int (nI 2)), (4, .int xj), (5, .int xk)]) (st' := [.int (σ 97 (nI 2).toNatClampNeg)]) (σ' := σ) rfl (vp_in_nI (by omega) (by omega)) ?_
      rw [show (σ 97 (nI 2).toNatClampNeg) = σ 97 2 from (by rw [nI_clamp (by omega)])]
      refine rw_if hX (tgt := 35) (cnd := .lt) (off := 12) (by decide +kernel) (by decide) (fun h23 => ?_) (fun h23 => ?_)
      · replace h23 : (σ 97 2 < 0) := h23
        have hso1 : σ 97 2 = -(nI 1) := (so_m hos).mp h23
        refine rw_go hX [(35, .bipush (-11))] (by decide +kernel) (Ps := []) (pc' := 37) (lv' := [(0, .ref 66), (1, .int (nI 2)), (2, .int xi), (3, .int (nI 2)), (4, .int xj), (5, .int xk)]) (st' := [.int (-(nI 11))]) (σ' := σ) rfl True.intro ?_
        exact rw_iret hX (by decide +kernel) (⟨by simp only [aCopy, eq_true hk4, eq_true hu4, hcs, hct, eq_true h4, eq_true h11, eq_true h23, eq_true hso1, if_true, if_false, Bool.false_eq_true, and_self, and_true, true_and, and_false, false_and, oel_n, oel_s, decide_true, decide_false], by simp only [sCopyM, eq_true hk4, eq_true hu4, hcs, hct, eq_true h4, eq_true h11, eq_true h23, eq_true hso1, if_true, if_false, Bool.false_eq_true, and_self, and_true, true_and, and_false, false_and, oel_n, oel_s, decide_true, decide_false]⟩)
      · replace h23 : ¬ (σ 97 2 < 0) := h23
        have hso1 : ¬ σ 97 2 = -(nI 1) := fun z => h23 ((so_m hos).mpr z)
        refine rw_go hX [(26, .aload_n 0), (27, .getfield 91), (30, .iload_n 3), (31, .iaload)] (by decide +kernel) (Ps := [vp_in (nI 2) 4]) (pc' := 32) (lv' := [(0, .ref 66), (1, .int (nI 2)), (2, .int xi), (3, .int (nI 2)), (4, .int xj), (5, .int xk)]) (st' := [.int (σ 97 (nI 2).toNatClampNeg)]) (σ' := σ) rfl (vp_in_nI (by omega) (by omega)) ?_
        rw [show (σ 97 (nI 2).toNatClampNeg) = σ 97 2 from (by rw [nI_clamp (by omega)])]
        refine rw_if hX (tgt := 38) (cnd := .ge) (off := 6) (by decide +kernel) (by decide) (fun h32 => ?_) (fun h32 => ?_)
        · replace h32 : (σ 97 2 ≥ 0) := h32
          have hso2 : ¬ σ 97 2 = -(nI 1) := fun z => absurd ((so_m hou).mpr z) (Int32.not_lt.mpr h32)
          refine rw_go hX [(38, .aload_n 0), (39, .getfield 91), (42, .iload_n 1), (43, .iaload)] (by decide +kernel) (Ps := [vp_in (nI 2) 4]) (pc' := 44) (lv' := [(0, .ref 66), (1, .int (nI 2)), (2, .int xi), (3, .int (nI 2)), (4, .int xj), (5, .int xk)]) (st' := [.int (σ 97 (nI 2).toNatClampNeg)]) (σ' := σ) rfl (vp_in_nI (by omega) (by omega)) ?_
          rw [show (σ 97 (nI 2).toNatClampNeg) = σ 97 2 from (by rw [nI_clamp (by omega)])]
          refine rw_go hX [(44, .aload_n 0), (45, .getfield 91), (48, .iload_n 3), (49, .iaload)] (by decide +kernel) (Ps := [vp_in (nI 2) 4]) (pc' := 50) (lv' := [(0, .ref 66), (1, .int (nI 2)), (2, .int xi), (3, .int (nI 2)), (4, .int xj), (5, .int xk)]) (st' := [.int (σ 97 (nI 2).toNatClampNeg), .int (σ 97 2)]) (σ' := σ) rfl (vp_in_nI (by omega) (by omega)) ?_
          rw [show (σ 97 (nI 2).toNatClampNeg) = σ 97 2 from (by rw [nI_clamp (by omega)])]
          refine rw_icmp hX (tgt := 56) (cnd := .eq) (off := 6) (by decide +kernel) (by decide) (fun h50 => ?_) (fun h50 => ?_)
          · replace h50 : (σ 97 2 = σ 97 2) := h50
            refine rw_go hX [(56, .iload 5)] (by decide +kernel) (Ps := []) (pc' := 58) (lv' := [(0, .ref 66), (1, .int (nI 2)), (2, .int xi), (3, .int (nI 2)), (4, .int xj), (5, .int xk)]) (st' := [.int xk]) (σ' := σ) rfl True.intro ?_
            refine rw_if hX (tgt := 119) (cnd := .lt) (off := 61) (by decide +kernel) (by decide) (fun h58 => ?_) (fun h58 => ?_)
            · replace h58 : (xk < 0) := h58
              have hcp : pz (cpOK xi xj xk (n 2) (n 2)) = false := pz_f fun ⟨a9, b9, k9, e1, e2, e3, g1, g2⟩ => by
                rw [e3] at h58; exact absurd h58 (nI_pos (by have := hns.2; omega))
              refine rw_go hX [(119, .bipush (-12))] (by decide +kernel) (Ps := []) (pc' := 121) (lv' := [(0, .ref 66), (1, .int (nI 2)), (2, .int xi), (3, .int (nI 2)), (4, .int xj), (5, .int xk)]) (st' := [.int (-(nI 12))]) (σ' := σ) rfl True.intro ?_
              exact rw_iret hX (by decide +kernel) (⟨by simp only [aCopy, eq_true hk4, eq_true hu4, hcs, hct, eq_true h4, eq_true h11, eq_false h23, eq_false hso1, eq_true h32, eq_false hso2, eq_true h50, eq_true h58, hcp, if_true, if_false, Bool.false_eq_true, and_self, and_true, true_and, and_false, false_and, oel_n, oel_s, decide_true, decide_false], by simp only [sCopyM, eq_true hk4, eq_true hu4, hcs, hct, eq_true h4, eq_true h11, eq_false h23, eq_false hso1, eq_true h32, eq_false hso2, eq_true h50, eq_true h58, hcp, if_true, if_false, Bool.false_eq_true, and_self, and_true, true_and, and_false, false_and, oel_n, oel_s, decide_true, decide_false]⟩)
            · replace h58 : ¬ (xk < 0) := h58
              refine rw_go hX [(61, .iload_n 2)] (by decide +kernel) (Ps := []) (pc' := 62) (lv' := [(0, .ref 66), (1, .int (nI 2)), (2, .int xi), (3, .int (nI 2)), (4, .int xj), (5, .int xk)]) (st' := [.int xi]) (σ' := σ) rfl True.intro ?_
              refine rw_if hX (tgt := 119) (cnd := .lt) (off := 57) (by decide +kernel) (by decide) (fun h62 => ?_) (fun h62 => ?_)
              · replace h62 : (xi < 0) := h62
                have hcp : pz (cpOK xi xj xk (n 2) (n 2)) = false := pz_f fun ⟨a9, b9, k9, e1, e2, e3, g1, g2⟩ => by
                  rw [e1] at h62; exact absurd h62 (nI_pos (by have := hns.2; omega))
                refine rw_go hX [(119, .bipush (-12))] (by decide +kernel) (Ps := []) (pc' := 121) (lv' := [(0, .ref 66), (1, .int (nI 2)), (2, .int xi), (3, .int (nI 2)), (4, .int xj), (5, .int xk)]) (st' := [.int (-(nI 12))]) (σ' := σ) rfl True.intro ?_
                exact rw_iret hX (by decide +kernel) (⟨by simp only [aCopy, eq_true hk4, eq_true hu4, hcs, hct, eq_true h4, eq_true h11, eq_false h23, eq_false hso1, eq_true h32, eq_false hso2, eq_true h50, eq_false h58, eq_true h62, hcp, if_true, if_false, Bool.false_eq_true, and_self, and_true, true_and, and_false, false_and, oel_n, oel_s, decide_true, decide_false], by simp only [sCopyM, eq_true hk4, eq_true hu4, hcs, hct, eq_true h4, eq_true h11, eq_false h23, eq_false hso1, eq_true h32, eq_false hso2, eq_true h50, eq_false h58, eq_true h62, hcp, if_true, if_false, Bool.false_eq_true, and_self, and_true, true_and, and_false, false_and, oel_n, oel_s, decide_true, decide_false]⟩)
              · replace h62 : ¬ (xi < 0) := h62
                refine rw_go hX [(65, .iload 4)] (by decide +kernel) (Ps := []) (pc' := 67) (lv' := [(0, .ref 66), (1, .int (nI 2)), (2, .int xi), (3, .int (nI 2)), (4, .int xj), (5, .int xk)]) (st' := [.int xj]) (σ' := σ) rfl True.intro ?_
                refine rw_if hX (tgt := 119) (cnd := .lt) (off := 52) (by decide +kernel) (by decide) (fun h67 => ?_) (fun h67 => ?_)
                · replace h67 : (xj < 0) := h67
                  have hcp : pz (cpOK xi xj xk (n 2) (n 2)) = false := pz_f fun ⟨a9, b9, k9, e1, e2, e3, g1, g2⟩ => by
                    rw [e2] at h67; exact absurd h67 (nI_pos (by have := hnu.2; omega))
                  refine rw_go hX [(119, .bipush (-12))] (by decide +kernel) (Ps := []) (pc' := 121) (lv' := [(0, .ref 66), (1, .int (nI 2)), (2, .int xi), (3, .int (nI 2)), (4, .int xj), (5, .int xk)]) (st' := [.int (-(nI 12))]) (σ' := σ) rfl True.intro ?_
                  exact rw_iret hX (by decide +kernel) (⟨by simp only [aCopy, eq_true hk4, eq_true hu4, hcs, hct, eq_true h4, eq_true h11, eq_false h23, eq_false hso1, eq_true h32, eq_false hso2, eq_true h50, eq_false h58, eq_false h62, eq_true h67, hcp, if_true, if_false, Bool.false_eq_true, and_self, and_true, true_and, and_false, false_and, oel_n, oel_s, decide_true, decide_false], by simp only [sCopyM, eq_true hk4, eq_true hu4, hcs, hct, eq_true h4, eq_true h11, eq_false h23, eq_false hso1, eq_true h32, eq_false hso2, eq_true h50, eq_false h58, eq_false h62, eq_true h67, hcp, if_true, if_false, Bool.false_eq_true, and_self, and_true, true_and, and_false, false_and, oel_n, oel_s, decide_true, decide_false]⟩)
                · replace h67 : ¬ (xj < 0) := h67
                  refine rw_go hX [(70, .iload 5), (72, .aload_n 0), (73, .getfield 94), (76, .iload_n 1), (77, .iaload)] (by decide +kernel) (Ps := [vp_in (nI 2) 4]) (pc' := 78) (lv' := [(0, .ref 66), (1, .int (nI 2)), (2, .int xi), (3, .int (nI 2)), (4, .int xj), (5, .int xk)]) (st' := [.int (σ 98 (nI 2).toNatClampNeg), .int xk]) (σ' := σ) rfl (vp_in_nI (by omega) (by omega)) ?_
                  rw [show (σ 98 (nI 2).toNatClampNeg) = nI (n 2) from (by rw [nI_clamp (by omega), hnu.1])]
                  refine rw_icmp hX (tgt := 119) (cnd := .gt) (off := 41) (by decide +kernel) (by decide) (fun h78 => ?_) (fun h78 => ?_)
                  · replace h78 : (xk > nI (n 2)) := h78
                    have hcp : pz (cpOK xi xj xk (n 2) (n 2)) = false := pz_f fun ⟨a9, b9, k9, e1, e2, e3, g1, g2⟩ => by
                      rw [e3] at h78; exact absurd h78 (Int32.not_lt.mpr (nI_le (show k9 ≤ n 2 by omega) (by have := hns.2; omega)))
                    refine rw_go hX [(119, .bipush (-12))] (by decide +kernel) (Ps := []) (pc' := 121) (lv' := [(0, .ref 66), (1, .int (nI 2)), (2, .int xi), (3, .int (nI 2)), (4, .int xj), (5, .int xk)]) (st' := [.int (-(nI 12))]) (σ' := σ) rfl True.intro ?_
                    exact rw_iret hX (by decide +kernel) (⟨by simp only [aCopy, eq_true hk4, eq_true hu4, hcs, hct, eq_true h4, eq_true h11, eq_false h23, eq_false hso1, eq_true h32, eq_false hso2, eq_true h50, eq_false h58, eq_false h62, eq_false h67, eq_true h78, hcp, if_true, if_false, Bool.false_eq_true, and_self, and_true, true_and, and_false, false_and, oel_n, oel_s, decide_true, decide_false], by simp only [sCopyM, eq_true hk4, eq_true hu4, hcs, hct, eq_true h4, eq_true h11, eq_false h23, eq_false hso1, eq_true h32, eq_false hso2, eq_true h50, eq_false h58, eq_false h62, eq_false h67, eq_true h78, hcp, if_true, if_false, Bool.false_eq_true, and_self, and_true, true_and, and_false, false_and, oel_n, oel_s, decide_true, decide_false]⟩)
                  · replace h78 : ¬ (xk > nI (n 2)) := h78
                    have hn40 := hns.2
                    have hn41 := hnu.2
                    obtain ⟨c, hc, rfl⟩ := rng (m := n 2) (by omega) ⟨Int32.not_lt.mp h58, Int32.not_lt.mp h78⟩
                    have hcc : (nI c).toNatClampNeg = c := nI_clamp (by omega)
                    refine rw_go hX [(81, .iload 5), (83, .aload_n 0), (84, .getfield 94), (87, .iload_n 3), (88, .iaload)] (by decide +kernel) (Ps := [vp_in (nI 2) 4]) (pc' := 89) (lv' := [(0, .ref 66), (1, .int (nI 2)), (2, .int xi), (3, .int (nI 2)), (4, .int xj), (5, .int (nI c))]) (st' := [.int (σ 98 (nI 2).toNatClampNeg), .int (nI c)]) (σ' := σ) rfl (vp_in_nI (by omega) (by omega)) ?_
                    rw [show (σ 98 (nI 2).toNatClampNeg) = nI (n 2) from (by rw [nI_clamp (by omega), hnu.1])]
                    refine rw_icmp hX (tgt := 119) (cnd := .gt) (off := 30) (by decide +kernel) (by decide) (fun h89 => ?_) (fun h89 => ?_)
                    · replace h89 := c2_gtT h89
                      have hcp : pz (cpOK xi xj (nI c) (n 2) (n 2)) = false := pz_f fun ⟨a9, b9, k9, e1, e2, e3, g1, g2⟩ => by
                        have e9 := (nI_eq (by omega) (by omega)).mp e3
                        omega
                      refine rw_go hX [(119, .bipush (-12))] (by decide +kernel) (Ps := []) (pc' := 121) (lv' := [(0, .ref 66), (1, .int (nI 2)), (2, .int xi), (3, .int (nI 2)), (4, .int xj), (5, .int (nI c))]) (st' := [.int (-(nI 12))]) (σ' := σ) rfl True.intro ?_
                      exact rw_iret hX (by decide +kernel) (⟨by simp only [aCopy, eq_true hk4, eq_true hu4, hcs, hct, eq_true h4, eq_true h11, eq_false h23, eq_false hso1, eq_true h32, eq_false hso2, eq_true h50, eq_false h58, eq_false h62, eq_false h67, eq_false h78, hcc, eq_true h89, hcp, if_true, if_false, Bool.false_eq_true, and_self, and_true, true_and, and_false, false_and, oel_n, oel_s, decide_true, decide_false], by simp only [sCopyM, eq_true hk4, eq_true hu4, hcs, hct, eq_true h4, eq_true h11, eq_false h23, eq_false hso1, eq_true h32, eq_false hso2, eq_true h50, eq_false h58, eq_false h62, eq_false h67, eq_false h78, hcc, eq_true h89, hcp, if_true, if_false, Bool.false_eq_true, and_self, and_true, true_and, and_false, false_and, oel_n, oel_s, decide_true, decide_false]⟩)
                    · replace h89 := c2_gtF h89
                      have hcu : c ≤ n 2 := by omega
                      refine rw_go hX [(92, .iload_n 2), (93, .aload_n 0), (94, .getfield 94), (97, .iload_n 1), (98, .iaload)] (by decide +kernel) (Ps := [vp_in (nI 2) 4]) (pc' := 99) (lv' := [(0, .ref 66), (1, .int (nI 2)), (2, .int xi), (3, .int (nI 2)), (4, .int xj), (5, .int (nI c))]) (st' := [.int (σ 98 (nI 2).toNatClampNeg), .int xi]) (σ' := σ) rfl (vp_in_nI (by omega) (by omega)) ?_
                      rw [show (σ 98 (nI 2).toNatClampNeg) = nI (n 2) from (by rw [nI_clamp (by omega), hnu.1])]
                      refine rw_go hX [(99, .iload 5), (101, .isub)] (by decide +kernel) (Ps := []) (pc' := 102) (lv' := [(0, .ref 66), (1, .int (nI 2)), (2, .int xi), (3, .int (nI 2)), (4, .int xj), (5, .int (nI c))]) (st' := [.int (nI (n 2) - nI c), .int xi]) (σ' := σ) rfl True.intro ?_
                      rw [show (nI (n 2) - nI c) = nI (n 2 - c) from pk_sub (by omega)]
                      refine rw_icmp hX (tgt := 119) (cnd := .gt) (off := 17) (by decide +kernel) (by decide) (fun h102 => ?_) (fun h102 => ?_)
                      · replace h102 : (xi > nI (n 2 - c)) := h102
                        have hcp : pz (cpOK xi xj (nI c) (n 2) (n 2)) = false := pz_f fun ⟨a9, b9, k9, e1, e2, e3, g1, g2⟩ => by
                          have e9 := (nI_eq (by omega) (by omega)).mp e3
                          rw [e1] at h102
                          exact absurd h102 (Int32.not_lt.mpr (nI_le (by omega) (by omega)))
                        refine rw_go hX [(119, .bipush (-12))] (by decide +kernel) (Ps := []) (pc' := 121) (lv' := [(0, .ref 66), (1, .int (nI 2)), (2, .int xi), (3, .int (nI 2)), (4, .int xj), (5, .int (nI c))]) (st' := [.int (-(nI 12))]) (σ' := σ) rfl True.intro ?_
                        exact rw_iret hX (by decide +kernel) (⟨by simp only [aCopy, eq_true hk4, eq_true hu4, hcs, hct, eq_true h4, eq_true h11, eq_false h23, eq_false hso1, eq_true h32, eq_false hso2, eq_true h50, eq_false h58, eq_false h62, eq_false h67, eq_false h78, hcc, eq_true h89, eq_true h102, hcp, if_true, if_false, Bool.false_eq_true, and_self, and_true, true_and, and_false, false_and, oel_n, oel_s, decide_true, decide_false], by simp only [sCopyM, eq_true hk4, eq_true hu4, hcs, hct, eq_true h4, eq_true h11, eq_false h23, eq_false hso1, eq_true h32, eq_false hso2, eq_true h50, eq_false h58, eq_false h62, eq_false h67, eq_false h78, hcc, eq_true h89, eq_true h102, hcp, if_true, if_false, Bool.false_eq_true, and_self, and_true, true_and, and_false, false_and, oel_n, oel_s, decide_true, decide_false]⟩)
                      · replace h102 : ¬ (xi > nI (n 2 - c)) := h102
                        obtain ⟨a, ha, rfl⟩ := rng (m := n 2 - c) (by omega) ⟨Int32.not_lt.mp h62, Int32.not_lt.mp h102⟩
                        have hca : (nI a).toNatClampNeg = a := nI_clamp (by omega)
                        refine rw_go hX [(105, .iload 4), (107, .aload_n 0), (108, .getfield 94), (111, .iload_n 3), (112, .iaload)] (by decide +kernel) (Ps := [vp_in (nI 2) 4]) (pc' := 113) (lv' := [(0, .ref 66), (1, .int (nI 2)), (2, .int (nI a)), (3, .int (nI 2)), (4, .int xj), (5, .int (nI c))]) (st' := [.int (σ 98 (nI 2).toNatClampNeg), .int xj]) (σ' := σ) rfl (vp_in_nI (by omega) (by omega)) ?_
                        rw [show (σ 98 (nI 2).toNatClampNeg) = nI (n 2) from (by rw [nI_clamp (by omega), hnu.1])]
                        refine rw_go hX [(113, .iload 5), (115, .isub)] (by decide +kernel) (Ps := []) (pc' := 116) (lv' := [(0, .ref 66), (1, .int (nI 2)), (2, .int (nI a)), (3, .int (nI 2)), (4, .int xj), (5, .int (nI c))]) (st' := [.int (nI (n 2) - nI c), .int xj]) (σ' := σ) rfl True.intro ?_
                        rw [show (nI (n 2) - nI c) = nI (n 2 - c) from pk_sub (by omega)]
                        refine rw_icmp hX (tgt := 122) (cnd := .le) (off := 6) (by decide +kernel) (by decide) (fun h116 => ?_) (fun h116 => ?_)
                        · replace h116 : (xj ≤ nI (n 2 - c)) := h116
                          obtain ⟨b, hb, rfl⟩ := rng (m := n 2 - c) (by omega) ⟨Int32.not_lt.mp h67, h116⟩
                          have hcb : (nI b).toNatClampNeg = b := nI_clamp (by omega)
                          have hcp : pz (cpOK (nI a) (nI b) (nI c) (n 2) (n 2)) = true := pz_t ⟨a, b, c, rfl, rfl, rfl, by omega, by omega⟩
                          refine rw_go hX [(122, .iconst 0), (123, .istore 6)] (by decide +kernel) (Ps := []) (pc' := 125) (lv' := [(0, .ref 66), (1, .int (nI 2)), (2, .int (nI a)), (3, .int (nI 2)), (4, .int (nI b)), (5, .int (nI c)), (6, .int (nI 0))]) (st' := []) (σ' := σ) rfl True.intro ?_
                          have L125 : ∀ (μ125 : Nat) (i : Nat), μ125 = c - i → (i ≤ c) → RW E G 3 7 (QI E G (fun r σ' => r = aCopy n (σ 97) (nI 2) (nI a) (nI 2) (nI b) (nI c) ∧ σ' = sCopyM n σ (nI 2) (nI a) (nI 2) (nI b) (nI c))) 125 [(0, .ref 66), (1, .int (nI 2)), (2, .int (nI a)), (3, .int (nI 2)), (4, .int (nI b)), (5, .int (nI c)), (6, .int (nI i))] [] (sr σ 100 (va_cpy (σ 95) (σ 100) a 0 i)) := by
                            intro μ125
                            induction μ125 using Nat.strongRecOn with
                            | ind μ125 ih125 =>
                              intro i hμ125 hi
                              refine rw_go hX [(125, .iload 6), (127, .iload 5)] (by decide +kernel) (Ps := []) (pc' := 129) (lv' := [(0, .ref 66), (1, .int (nI 2)), (2, .int (nI a)), (3, .int (nI 2)), (4, .int (nI b)), (5, .int (nI c)), (6, .int (nI i))]) (st' := [.int (nI c), .int (nI i)]) (σ' := sr σ 100 (va_cpy (σ 95) (σ 100) a 0 i)) rfl True.intro ?_
                              refine rw_icmp hX (tgt := 156) (cnd := .ge) (off := 27) (by decide +kernel) (by decide) (fun h129 => ?_) (fun h129 => ?_)
                              · replace h129 := c2_geT h129
                                have ei : i = c := by omega
                                rw [ei]
                                refine rw_go hX [(156, .iconst 0), (157, .istore 6)] (by decide +kernel) (Ps := []) (pc' := 159) (lv' := [(0, .ref 66), (1, .int (nI 2)), (2, .int (nI a)), (3, .int (nI 2)), (4, .int (nI b)), (5, .int (nI c)), (6, .int (nI 0))]) (st' := []) (σ' := sr σ 100 (va_cpy (σ 95) (σ 100) a 0 c)) rfl True.intro ?_
                                have L159 : ∀ (μ159 : Nat) (i : Nat), μ159 = c - i → (i ≤ c) → RW E G 3 7 (QI E G (fun r σ' => r = aCopy n (σ 97) (nI 2) (nI a) (nI 2) (nI b) (nI c) ∧ σ' = sCopyM n σ (nI 2) (nI a) (nI 2) (nI b) (nI c))) 159 [(0, .ref 66), (1, .int (nI 2)), (2, .int (nI a)), (3, .int (nI 2)), (4, .int (nI b)), (5, .int (nI c)), (6, .int (nI i))] [] (sr (sr σ 100 (va_cpy (σ 95) (σ 100) a 0 c)) 95 (va_cpy (va_cpy (σ 95) (σ 100) a 0 c) (σ 95) 0 b i)) := by
                                  intro μ159
                                  induction μ159 using Nat.strongRecOn with
                                  | ind μ159 ih159 =>
                                    intro i hμ159 hi2
                                    refine rw_go hX [(159, .iload 6), (161, .iload 5)] (by decide +kernel) (Ps := []) (pc' := 163) (lv' := [(0, .ref 66), (1, .int (nI 2)), (2, .int (nI a)), (3, .int (nI 2)), (4, .int (nI b)), (5, .int (nI c)), (6, .int (nI i))]) (st' := [.int (nI c), .int (nI i)]) (σ' := sr (sr σ 100 (va_cpy (σ 95) (σ 100) a 0 c)) 95 (va_cpy (va_cpy (σ 95) (σ 100) a 0 c) (σ 95) 0 b i)) rfl True.intro ?_
                                    refine rw_icmp hX (tgt := 191) (cnd := .ge) (off := 28) (by decide +kernel) (by decide) (fun h163 => ?_) (fun h163 => ?_)
                                    · replace h163 := c2_geT h163
                                      have ei2 : i = c := by omega
                                      refine rw_go hX [(191, .iload 5)] (by decide +kernel) (Ps := []) (pc' := 193) (lv' := [(0, .ref 66), (1, .int (nI 2)), (2, .int (nI a)), (3, .int (nI 2)), (4, .int (nI b)), (5, .int (nI c)), (6, .int (nI i))]) (st' := [.int (nI c)]) (σ' := sr (sr σ 100 (va_cpy (σ 95) (σ 100) a 0 c)) 95 (va_cpy (va_cpy (σ 95) (σ 100) a 0 c) (σ 95) 0 b i)) rfl True.intro ?_
                                      exact rw_iret hX (by decide +kernel) (⟨by simp only [aCopy, eq_true hk4, eq_true hu4, hcs, hct, eq_true h4, eq_true h11, eq_false h23, eq_false hso1, eq_true h32, eq_false hso2, eq_true h50, eq_false h58, eq_false h62, eq_false h67, eq_false h78, hcc, eq_true h89, eq_false h102, hca, eq_true h116, hcb, hcp, eq_true h129, eq_true h163, if_true, if_false, Bool.false_eq_true, and_self, and_true, true_and, and_false, false_and, oel_n, oel_s, decide_true, decide_false], by simp only [sCopyM, eq_true hk4, eq_true hu4, hcs, hct, eq_true h4, eq_true h11, eq_false h23, eq_false hso1, eq_true h32, eq_false hso2, eq_true h50, eq_false h58, eq_false h62, eq_false h67, eq_false h78, hcc, eq_true h89, eq_false h102, hca, eq_true h116, hcb, hcp, eq_true h129, eq_true h163, if_true, if_false, Bool.false_eq_true, and_self, and_true, true_and, and_false, false_and, oel_n, oel_s, decide_true, decide_false]; rw [ei2]; rfl⟩)
                                    · replace h163 := c2_geF h163
                                      refine rw_go hX [(166, .aload_n 0), (167, .getfield 88), (170, .iload_n 3), (171, .aaload), (172, .iload 4), (174, .iload 6), (176, .iadd)] (by decide +kernel) (Ps := [vp_in (nI 2) 4]) (pc' := 177) (lv' := [(0, .ref 66), (1, .int (nI 2)), (2, .int (nI a)), (3, .int (nI 2)), (4, .int (nI b)), (5, .int (nI c)), (6, .int (nI i))]) (st' := [.int (nI b + nI i), .ref 95]) (σ' := sr (sr σ 100 (va_cpy (σ 95) (σ 100) a 0 c)) 95 (va_cpy (va_cpy (σ 95) (σ 100) a 0 c) (σ 95) 0 b i)) rfl (vp_in_nI (by omega) (by omega)) ?_
                                      rw [show (nI b + nI i) = nI (b + i) from nI_add _ _]
                                      refine rw_go hX [(177, .aload_n 0), (178, .getfield 100), (181, .iload 6), (183, .iaload)] (by decide +kernel) (Ps := [vp_in (nI i) 40]) (pc' := 184) (lv' := [(0, .ref 66), (1, .int (nI 2)), (2, .int (nI a)), (3, .int (nI 2)), (4, .int (nI b)), (5, .int (nI c)), (6, .int (nI i))]) (st' := [.int ((sr (sr σ 100 (va_cpy (σ 95) (σ 100) a 0 c)) 95 (va_cpy (va_cpy (σ 95) (σ 100) a 0 c) (σ 95) 0 b i)) 100 (nI i).toNatClampNeg), .int (nI (b + i)), .ref 95]) (σ' := sr (sr σ 100 (va_cpy (σ 95) (σ 100) a 0 c)) 95 (va_cpy (va_cpy (σ 95) (σ 100) a 0 c) (σ 95) 0 b i)) rfl (vp_in_nI (by omega) (by omega)) ?_
                                      rw [show ((sr (sr σ 100 (va_cpy (σ 95) (σ 100) a 0 c)) 95 (va_cpy (va_cpy (σ 95) (σ 100) a 0 c) (σ 95) 0 b i)) 100 (nI i).toNatClampNeg) = (va_cpy (σ 95) (σ 100) a 0 c) i from (by rw [nI_clamp (by omega), sr_n _ _ (by decide), sr_s])]
                                      refine rw_go hX [(184, .iastore)] (by decide +kernel) (Ps := [vp_in (nI (b + i)) 40]) (pc' := 185) (lv' := [(0, .ref 66), (1, .int (nI 2)), (2, .int (nI a)), (3, .int (nI 2)), (4, .int (nI b)), (5, .int (nI c)), (6, .int (nI i))]) (st' := []) (σ' := sw (sr (sr σ 100 (va_cpy (σ 95) (σ 100) a 0 c)) 95 (va_cpy (va_cpy (σ 95) (σ 100) a 0 c) (σ 95) 0 b i)) 95 (nI (b + i)).toNatClampNeg ((va_cpy (σ 95) (σ 100) a 0 c) i)) rfl (vp_in_nI (by omega) (by omega)) ?_
                                      rw [show (sw (sr (sr σ 100 (va_cpy (σ 95) (σ 100) a 0 c)) 95 (va_cpy (va_cpy (σ 95) (σ 100) a 0 c) (σ 95) 0 b i)) 95 (nI (b + i)).toNatClampNeg ((va_cpy (σ 95) (σ 100) a 0 c) i)) = sw (sr (sr σ 100 (va_cpy (σ 95) (σ 100) a 0 c)) 95 (va_cpy (va_cpy (σ 95) (σ 100) a 0 c) (σ 95) 0 b i)) 95 (b + i) ((va_cpy (σ 95) (σ 100) a 0 c) i) from (by rw [nI_clamp (by omega)])]
                                      refine rw_go hX [(185, .iinc 6 1)] (by decide +kernel) (Ps := []) (pc' := 188) (lv' := [(0, .ref 66), (1, .int (nI 2)), (2, .int (nI a)), (3, .int (nI 2)), (4, .int (nI b)), (5, .int (nI c)), (6, .int (nI i + nI 1))]) (st' := []) (σ' := sw (sr (sr σ 100 (va_cpy (σ 95) (σ 100) a 0 c)) 95 (va_cpy (va_cpy (σ 95) (σ 100) a 0 c) (σ 95) 0 b i)) 95 (b + i) ((va_cpy (σ 95) (σ 100) a 0 c) i)) rfl True.intro ?_
                                      rw [show (nI i + nI 1) = nI (i + 1) from nI_add _ _]
                                      refine rw_go hX [(188, .goto (-29))] (by decide +kernel) (Ps := []) (pc' := 159) (lv' := [(0, .ref 66), (1, .int (nI 2)), (2, .int (nI a)), (3, .int (nI 2)), (4, .int (nI b)), (5, .int (nI c)), (6, .int (nI (i + 1)))]) (st' := []) (σ' := sw (sr (sr σ 100 (va_cpy (σ 95) (σ 100) a 0 c)) 95 (va_cpy (va_cpy (σ 95) (σ 100) a 0 c) (σ 95) 0 b i)) 95 (b + i) ((va_cpy (σ 95) (σ 100) a 0 c) i)) rfl True.intro ?_
                                      refine rw_lsub (ks := [0, 1, 2, 3, 4, 5, 6]) (lv' := [(0, .ref 66), (1, .int (nI 2)), (2, .int (nI a)), (3, .int (nI 2)), (4, .int (nI b)), (5, .int (nI c)), (6, .int (nI (i + 1)))]) rfl ?_
                                      have q := ih159 (c - (i + 1)) (by omega) (i + 1) rfl (by omega)
                                      rw [← cpy_1, Nat.zero_add] at q
                                      rw [sw_sr]
                                      exact q
                                refine rw_lsub (ks := [0, 1, 2, 3, 4, 5, 6]) (lv' := [(0, .ref 66), (1, .int (nI 2)), (2, .int (nI a)), (3, .int (nI 2)), (4, .int (nI b)), (5, .int (nI c)), (6, .int (nI 0))]) rfl ?_
                                have q := L159 c 0 rfl (by omega)
                                rw [cpy_0, show sr (sr σ 100 (va_cpy (σ 95) (σ 100) a 0 c)) 95 (σ 95) = sr σ 100 (va_cpy (σ 95) (σ 100) a 0 c) from by
                                  funext q
                                  by_cases z : q = 95
                                  · subst z; rw [sr_s, sr_n _ _ (by decide)]
                                  · rw [sr_n _ _ z]] at q
                                exact q
                              · replace h129 := c2_geF h129
                                refine rw_go hX [(132, .aload_n 0), (133, .getfield 100), (136, .iload 6), (138, .aload_n 0), (139, .getfield 88), (142, .iload_n 1), (143, .aaload), (144, .iload_n 2), (145, .iload 6), (147, .iadd)] (by decide +kernel) (Ps := [vp_in (nI 2) 4]) (pc' := 148) (lv' := [(0, .ref 66), (1, .int (nI 2)), (2, .int (nI a)), (3, .int (nI 2)), (4, .int (nI b)), (5, .int (nI c)), (6, .int (nI i))]) (st' := [.int (nI a + nI i), .ref 95, .int (nI i), .ref 100]) (σ' := sr σ 100 (va_cpy (σ 95) (σ 100) a 0 i)) rfl (vp_in_nI (by omega) (by omega)) ?_
                                rw [show (nI a + nI i) = nI (a + i) from nI_add _ _]
                                refine rw_go hX [(148, .iaload)] (by decide +kernel) (Ps := [vp_in (nI (a + i)) 40]) (pc' := 149) (lv' := [(0, .ref 66), (1, .int (nI 2)), (2, .int (nI a)), (3, .int (nI 2)), (4, .int (nI b)), (5, .int (nI c)), (6, .int (nI i))]) (st' := [.int ((sr σ 100 (va_cpy (σ 95) (σ 100) a 0 i)) 95 (nI (a + i)).toNatClampNeg), .int (nI i), .ref 100]) (σ' := sr σ 100 (va_cpy (σ 95) (σ 100) a 0 i)) rfl (vp_in_nI (by omega) (by omega)) ?_
                                rw [show ((sr σ 100 (va_cpy (σ 95) (σ 100) a 0 i)) 95 (nI (a + i)).toNatClampNeg) = σ 95 (a + i) from (by rw [nI_clamp (by omega), sr_n _ _ (by decide)])]
                                refine rw_go hX [(149, .iastore)] (by decide +kernel) (Ps := [vp_in (nI i) 40]) (pc' := 150) (lv' := [(0, .ref 66), (1, .int (nI 2)), (2, .int (nI a)), (3, .int (nI 2)), (4, .int (nI b)), (5, .int (nI c)), (6, .int (nI i))]) (st' := []) (σ' := sw (sr σ 100 (va_cpy (σ 95) (σ 100) a 0 i)) 100 (nI i).toNatClampNeg (σ 95 (a + i))) rfl (vp_in_nI (by omega) (by omega)) ?_
                                rw [show (sw (sr σ 100 (va_cpy (σ 95) (σ 100) a 0 i)) 100 (nI i).toNatClampNeg (σ 95 (a + i))) = sw (sr σ 100 (va_cpy (σ 95) (σ 100) a 0 i)) 100 i (σ 95 (a + i)) from (by rw [nI_clamp (by omega)])]
                                refine rw_go hX [(150, .iinc 6 1)] (by decide +kernel) (Ps := []) (pc' := 153) (lv' := [(0, .ref 66), (1, .int (nI 2)), (2, .int (nI a)), (3, .int (nI 2)), (4, .int (nI b)), (5, .int (nI c)), (6, .int (nI i + nI 1))]) (st' := []) (σ' := sw (sr σ 100 (va_cpy (σ 95) (σ 100) a 0 i)) 100 i (σ 95 (a + i))) rfl True.intro ?_
                                rw [show (nI i + nI 1) = nI (i + 1) from nI_add _ _]
                                refine rw_go hX [(153, .goto (-28))] (by decide +kernel) (Ps := []) (pc' := 125) (lv' := [(0, .ref 66), (1, .int (nI 2)), (2, .int (nI a)), (3, .int (nI 2)), (4, .int (nI b)), (5, .int (nI c)), (6, .int (nI (i + 1)))]) (st' := []) (σ' := sw (sr σ 100 (va_cpy (σ 95) (σ 100) a 0 i)) 100 i (σ 95 (a + i))) rfl True.intro ?_
                                refine rw_lsub (ks := [0, 1, 2, 3, 4, 5, 6]) (lv' := [(0, .ref 66), (1, .int (nI 2)), (2, .int (nI a)), (3, .int (nI 2)), (4, .int (nI b)), (5, .int (nI c)), (6, .int (nI (i + 1)))]) rfl ?_
                                have q := ih125 (c - (i + 1)) (by omega) (i + 1) rfl (by omega)
                                rw [← cpy_1, Nat.zero_add] at q
                                rw [sw_sr]
                                exact q
                          refine rw_lsub (ks := [0, 1, 2, 3, 4, 5, 6]) (lv' := [(0, .ref 66), (1, .int (nI 2)), (2, .int (nI a)), (3, .int (nI 2)), (4, .int (nI b)), (5, .int (nI c)), (6, .int (nI 0))]) rfl ?_
                          have q := L125 c 0 rfl (by omega)
                          rw [cpy_0, sr_id] at q
                          exact q
                        · replace h116 : ¬ (xj ≤ nI (n 2 - c)) := h116
                          have hcp : pz (cpOK (nI a) xj (nI c) (n 2) (n 2)) = false := pz_f fun ⟨a9, b9, k9, e1, e2, e3, g1, g2⟩ => by
                            have e9 := (nI_eq (by omega) (by omega)).mp e3
                            rw [e2] at h116
                            exact absurd (nI_le (by omega) (by omega)) h116
                          refine rw_go hX [(119, .bipush (-12))] (by decide +kernel) (Ps := []) (pc' := 121) (lv' := [(0, .ref 66), (1, .int (nI 2)), (2, .int (nI a)), (3, .int (nI 2)), (4, .int xj), (5, .int (nI c))]) (st' := [.int (-(nI 12))]) (σ' := σ) rfl True.intro ?_
                          exact rw_iret hX (by decide +kernel) (⟨by simp only [aCopy, eq_true hk4, eq_true hu4, hcs, hct, eq_true h4, eq_true h11, eq_false h23, eq_false hso1, eq_true h32, eq_false hso2, eq_true h50, eq_false h58, eq_false h62, eq_false h67, eq_false h78, hcc, eq_true h89, eq_false h102, hca, eq_false h116, hcp, if_true, if_false, Bool.false_eq_true, and_self, and_true, true_and, and_false, false_and, oel_n, oel_s, decide_true, decide_false], by simp only [sCopyM, eq_true hk4, eq_true hu4, hcs, hct, eq_true h4, eq_true h11, eq_false h23, eq_false hso1, eq_true h32, eq_false hso2, eq_true h50, eq_false h58, eq_false h62, eq_false h67, eq_false h78, hcc, eq_true h89, eq_false h102, hca, eq_false h116, hcp, if_true, if_false, Bool.false_eq_true, and_self, and_true, true_and, and_false, false_and, oel_n, oel_s, decide_true, decide_false]⟩)
          · replace h50 : ¬ (σ 97 2 = σ 97 2) := h50
            exact absurd rfl h50
        · replace h32 : ¬ (σ 97 2 ≥ 0) := h32
          exact absurd ((so_m hou).mp (Int32.not_le.mp h32)) hso1
    · exact absurd (by simp only [cz, cc2]; decide +kernel) h11
set_option maxRecDepth 20000 in
set_option maxHeartbeats 800000 in
theorem g_copy_2_3 (l : Launch) (G : Gl) (σ : Mm) (n : Nat → Nat) (xi xj xk : Int32) (hsh : ∀ s, s < 4 → σ 98 s = nI (n s) ∧ n s ≤ 40) (hso : ∀ s, s < 4 → σ 97 s = -(nI 1) ∨ σ 97 s = nI 0 ∨ σ 97 s = nI 1) : AMi l G 3 mX10_copy [.ref 66, .int (nI 2), .int xi, .int (nI 3), .int xj, .int xk] σ (fun r σ' => r = aCopy n (σ 97) (nI 2) xi (nI 3) xj xk ∧ σ' = sCopyM n σ (nI 2) xi (nI 3) xj xk) := by
  refine rw_inI 10 (by decide +kernel) rfl rfl ?_
  intro E hE hX
  subst hE
  have hk4 := film_r 2 (by omega)
  have hu4 := film_r 3 (by omega)
  have hcs : (nI 2).toNatClampNeg = 2 := nI_clamp (by omega)
  have hct : (nI 3).toNatClampNeg = 3 := nI_clamp (by omega)
  have hns := hsh 2 (by omega)
  have hos := hso 2 (by omega)
  have hnu := hsh 3 (by omega)
  have hou := hso 3 (by omega)
  refine rw_go hX [(0, .iload_n 1)] (by decide +kernel) (Ps := []) (pc' := 1) (lv' := [(0, .ref 66), (1, .int (nI 2)), (2, .int xi), (3, .int (nI 3)), (4, .int xj), (5, .int xk)]) (st' := [.int (nI 2)]) (σ' := σ) rfl True.intro ?_
  refine rw_callSi hX (as := [.int (nI 2)]) (rest := []) (m_isSheet _ _ _ (nI 2)) (by decide +kernel) msX10_isSheet (Or.inl lk10_298) rfl (by decide) (Nat.le_of_ble_eq_true rfl) rfl ?_
  intro r1 σ1 hr
  rw [hr.1, show r1 = nI 1 from hr.2.trans (by decide +kernel)]
  clear hr σ1 r1
  refine rw_if hX (tgt := 14) (cnd := .eq) (off := 10) (by decide +kernel) (by decide) (fun h4 => ?_) (fun h4 => ?_)
  · exact absurd h4 (by simp only [cz, cc2]; decide +kernel)
  · skip
    refine rw_go hX [(7, .iload_n 3)] (by decide +kernel) (Ps := []) (pc' := 8) (lv' := [(0, .ref 66), (1, .int (nI 2)), (2, .int xi), (3, .int (nI 3)), (4, .int xj), (5, .int xk)]) (st' := [.int (nI 3)]) (σ' := σ) rfl True.intro ?_
    refine rw_callSi hX (as := [.int (nI 3)]) (rest := []) (m_isSheet _ _ _ (nI 3)) (by decide +kernel) msX10_isSheet (Or.inl lk10_298) rfl (by decide) (Nat.le_of_ble_eq_true rfl) rfl ?_
    intro r1 σ1 hr
    rw [hr.1, show r1 = nI 1 from hr.2.trans (by decide +kernel)]
    clear hr σ1 r1
    refine rw_if hX (tgt := 17) (cnd := .ne) (off := 6) (by decide +kernel) (by decide) (fun h11 => ?_) (fun h11 => ?_)
    · skip
      refine rw_go hX [(17, .aload_n 0), (18, .getfield 91), (21, .iload_n 1), (22, .iaload)] (by decide +kernel) (Ps := [vp_in (nI 2) 4]) (pc' := 23) (lv' := [(0, .ref 66), (1, .int (nI 2)), (2, .int xi), (3, .int (nI 3)), (4, .int xj), (5, .int xk)]) (st' := [.int (σ 97 (nI 2).toNatClampNeg)]) (σ' := σ) rfl (vp_in_nI (by omega) (by omega)) ?_
      rw [show (σ 97 (nI 2).toNatClampNeg) = σ 97 2 from (by rw [nI_clamp (by omega)])]
      refine rw_if hX (tgt := 35) (cnd := .lt) (off := 12) (by decide +kernel) (by decide) (fun h23 => ?_) (fun h23 => ?_)
      · replace h23 : (σ 97 2 < 0) := h23
        have hso1 : σ 97 2 = -(nI 1) := (so_m hos).mp h23
        refine rw_go hX [(35, .bipush (-11))] (by decide +kernel) (Ps := []) (pc' := 37) (lv' := [(0, .ref 66), (1, .int (nI 2)), (2, .int xi), (3, .int (nI 3)), (4, .int xj), (5, .int xk)]) (st' := [.int (-(nI 11))]) (σ' := σ) rfl True.intro ?_
        exact rw_iret hX (by decide +kernel) (⟨by simp only [aCopy, eq_true hk4, eq_true hu4, hcs, hct, eq_true h4, eq_true h11, eq_true h23, eq_true hso1, if_true, if_false, Bool.false_eq_true, and_self, and_true, true_and, and_false, false_and, oel_n, oel_s, decide_true, decide_false], by simp only [sCopyM, eq_true hk4, eq_true hu4, hcs, hct, eq_true h4, eq_true h11, eq_true h23, eq_true hso1, if_true, if_false, Bool.false_eq_true, and_self, and_true, true_and, and_false, false_and, oel_n, oel_s, decide_true, decide_false]⟩)
      · replace h23 : ¬ (σ 97 2 < 0) := h23
        have hso1 : ¬ σ 97 2 = -(nI 1) := fun z => h23 ((so_m hos).mpr z)
        refine rw_go hX [(26, .aload_n 0), (27, .getfield 91), (30, .iload_n 3), (31, .iaload)] (by decide +kernel) (Ps := [vp_in (nI 3) 4]) (pc' := 32) (lv' := [(0, .ref 66), (1, .int (nI 2)), (2, .int xi), (3, .int (nI 3)), (4, .int xj), (5, .int xk)]) (st' := [.int (σ 97 (nI 3).toNatClampNeg)]) (σ' := σ) rfl (vp_in_nI (by omega) (by omega)) ?_
        rw [show (σ 97 (nI 3).toNatClampNeg) = σ 97 3 from (by rw [nI_clamp (by omega)])]
        refine rw_if hX (tgt := 38) (cnd := .ge) (off := 6) (by decide +kernel) (by decide) (fun h32 => ?_) (fun h32 => ?_)
        · replace h32 : (σ 97 3 ≥ 0) := h32
          have hso2 : ¬ σ 97 3 = -(nI 1) := fun z => absurd ((so_m hou).mpr z) (Int32.not_lt.mpr h32)
          refine rw_go hX [(38, .aload_n 0), (39, .getfield 91), (42, .iload_n 1), (43, .iaload)] (by decide +kernel) (Ps := [vp_in (nI 2) 4]) (pc' := 44) (lv' := [(0, .ref 66), (1, .int (nI 2)), (2, .int xi), (3, .int (nI 3)), (4, .int xj), (5, .int xk)]) (st' := [.int (σ 97 (nI 2).toNatClampNeg)]) (σ' := σ) rfl (vp_in_nI (by omega) (by omega)) ?_
          rw [show (σ 97 (nI 2).toNatClampNeg) = σ 97 2 from (by rw [nI_clamp (by omega)])]
          refine rw_go hX [(44, .aload_n 0), (45, .getfield 91), (48, .iload_n 3), (49, .iaload)] (by decide +kernel) (Ps := [vp_in (nI 3) 4]) (pc' := 50) (lv' := [(0, .ref 66), (1, .int (nI 2)), (2, .int xi), (3, .int (nI 3)), (4, .int xj), (5, .int xk)]) (st' := [.int (σ 97 (nI 3).toNatClampNeg), .int (σ 97 2)]) (σ' := σ) rfl (vp_in_nI (by omega) (by omega)) ?_
          rw [show (σ 97 (nI 3).toNatClampNeg) = σ 97 3 from (by rw [nI_clamp (by omega)])]
          refine rw_icmp hX (tgt := 56) (cnd := .eq) (off := 6) (by decide +kernel) (by decide) (fun h50 => ?_) (fun h50 => ?_)
          · replace h50 : (σ 97 2 = σ 97 3) := h50
            refine rw_go hX [(56, .iload 5)] (by decide +kernel) (Ps := []) (pc' := 58) (lv' := [(0, .ref 66), (1, .int (nI 2)), (2, .int xi), (3, .int (nI 3)), (4, .int xj), (5, .int xk)]) (st' := [.int xk]) (σ' := σ) rfl True.intro ?_
            refine rw_if hX (tgt := 119) (cnd := .lt) (off := 61) (by decide +kernel) (by decide) (fun h58 => ?_) (fun h58 => ?_)
            · replace h58 : (xk < 0) := h58
              have hcp : pz (cpOK xi xj xk (n 2) (n 3)) = false := pz_f fun ⟨a9, b9, k9, e1, e2, e3, g1, g2⟩ => by
                rw [e3] at h58; exact absurd h58 (nI_pos (by have := hns.2; omega))
              refine rw_go hX [(119, .bipush (-12))] (by decide +kernel) (Ps := []) (pc' := 121) (lv' := [(0, .ref 66), (1, .int (nI 2)), (2, .int xi), (3, .int (nI 3)), (4, .int xj), (5, .int xk)]) (st' := [.int (-(nI 12))]) (σ' := σ) rfl True.intro ?_
              exact rw_iret hX (by decide +kernel) (⟨by simp only [aCopy, eq_true hk4, eq_true hu4, hcs, hct, eq_true h4, eq_true h11, eq_false h23, eq_false hso1, eq_true h32, eq_false hso2, eq_true h50, eq_true h58, hcp, if_true, if_false, Bool.false_eq_true, and_self, and_true, true_and, and_false, false_and, oel_n, oel_s, decide_true, decide_false], by simp only [sCopyM, eq_true hk4, eq_true hu4, hcs, hct, eq_true h4, eq_true h11, eq_false h23, eq_false hso1, eq_true h32, eq_false hso2, eq_true h50, eq_true h58, hcp, if_true, if_false, Bool.false_eq_true, and_self, and_true, true_and, and_false, false_and, oel_n, oel_s, decide_true, decide_false]⟩)
            · replace h58 : ¬ (xk < 0) := h58
              refine rw_go hX [(61, .iload_n 2)] (by decide +kernel) (Ps := []) (pc' := 62) (lv' := [(0, .ref 66), (1, .int (nI 2)), (2, .int xi), (3, .int (nI 3)), (4, .int xj), (5, .int xk)]) (st' := [.int xi]) (σ' := σ) rfl True.intro ?_
              refine rw_if hX (tgt := 119) (cnd := .lt) (off := 57) (by decide +kernel) (by decide) (fun h62 => ?_) (fun h62 => ?_)
              · replace h62 : (xi < 0) := h62
                have hcp : pz (cpOK xi xj xk (n 2) (n 3)) = false := pz_f fun ⟨a9, b9, k9, e1, e2, e3, g1, g2⟩ => by
                  rw [e1] at h62; exact absurd h62 (nI_pos (by have := hns.2; omega))
                refine rw_go hX [(119, .bipush (-12))] (by decide +kernel) (Ps := []) (pc' := 121) (lv' := [(0, .ref 66), (1, .int (nI 2)), (2, .int xi), (3, .int (nI 3)), (4, .int xj), (5, .int xk)]) (st' := [.int (-(nI 12))]) (σ' := σ) rfl True.intro ?_
                exact rw_iret hX (by decide +kernel) (⟨by simp only [aCopy, eq_true hk4, eq_true hu4, hcs, hct, eq_true h4, eq_true h11, eq_false h23, eq_false hso1, eq_true h32, eq_false hso2, eq_true h50, eq_false h58, eq_true h62, hcp, if_true, if_false, Bool.false_eq_true, and_self, and_true, true_and, and_false, false_and, oel_n, oel_s, decide_true, decide_false], by simp only [sCopyM, eq_true hk4, eq_true hu4, hcs, hct, eq_true h4, eq_true h11, eq_false h23, eq_false hso1, eq_true h32, eq_false hso2, eq_true h50, eq_false h58, eq_true h62, hcp, if_true, if_false, Bool.false_eq_true, and_self, and_true, true_and, and_false, false_and, oel_n, oel_s, decide_true, decide_false]⟩)
              · replace h62 : ¬ (xi < 0) := h62
                refine rw_go hX [(65, .iload 4)] (by decide +kernel) (Ps := []) (pc' := 67) (lv' := [(0, .ref 66), (1, .int (nI 2)), (2, .int xi), (3, .int (nI 3)), (4, .int xj), (5, .int xk)]) (st' := [.int xj]) (σ' := σ) rfl True.intro ?_
                refine rw_if hX (tgt := 119) (cnd := .lt) (off := 52) (by decide +kernel) (by decide) (fun h67 => ?_) (fun h67 => ?_)
                · replace h67 : (xj < 0) := h67
                  have hcp : pz (cpOK xi xj xk (n 2) (n 3)) = false := pz_f fun ⟨a9, b9, k9, e1, e2, e3, g1, g2⟩ => by
                    rw [e2] at h67; exact absurd h67 (nI_pos (by have := hnu.2; omega))
                  refine rw_go hX [(119, .bipush (-12))] (by decide +kernel) (Ps := []) (pc' := 121) (lv' := [(0, .ref 66), (1, .int (nI 2)), (2, .int xi), (3, .int (nI 3)), (4, .int xj), (5, .int xk)]) (st' := [.int (-(nI 12))]) (σ' := σ) rfl True.intro ?_
                  exact rw_iret hX (by decide +kernel) (⟨by simp only [aCopy, eq_true hk4, eq_true hu4, hcs, hct, eq_true h4, eq_true h11, eq_false h23, eq_false hso1, eq_true h32, eq_false hso2, eq_true h50, eq_false h58, eq_false h62, eq_true h67, hcp, if_true, if_false, Bool.false_eq_true, and_self, and_true, true_and, and_false, false_and, oel_n, oel_s, decide_true, decide_false], by simp only [sCopyM, eq_true hk4, eq_true hu4, hcs, hct, eq_true h4, eq_true h11, eq_false h23, eq_false hso1, eq_true h32, eq_false hso2, eq_true h50, eq_false h58, eq_false h62, eq_true h67, hcp, if_true, if_false, Bool.false_eq_true, and_self, and_true, true_and, and_false, false_and, oel_n, oel_s, decide_true, decide_false]⟩)
                · replace h67 : ¬ (xj < 0) := h67
                  refine rw_go hX [(70, .iload 5), (72, .aload_n 0), (73, .getfield 94), (76, .iload_n 1), (77, .iaload)] (by decide +kernel) (Ps := [vp_in (nI 2) 4]) (pc' := 78) (lv' := [(0, .ref 66), (1, .int (nI 2)), (2, .int xi), (3, .int (nI 3)), (4, .int xj), (5, .int xk)]) (st' := [.int (σ 98 (nI 2).toNatClampNeg), .int xk]) (σ' := σ) rfl (vp_in_nI (by omega) (by omega)) ?_
                  rw [show (σ 98 (nI 2).toNatClampNeg) = nI (n 2) from (by rw [nI_clamp (by omega), hns.1])]
                  refine rw_icmp hX (tgt := 119) (cnd := .gt) (off := 41) (by decide +kernel) (by decide) (fun h78 => ?_) (fun h78 => ?_)
                  · replace h78 : (xk > nI (n 2)) := h78
                    have hcp : pz (cpOK xi xj xk (n 2) (n 3)) = false := pz_f fun ⟨a9, b9, k9, e1, e2, e3, g1, g2⟩ => by
                      rw [e3] at h78; exact absurd h78 (Int32.not_lt.mpr (nI_le (show k9 ≤ n 2 by omega) (by have := hns.2; omega)))
                    refine rw_go hX [(119, .bipush (-12))] (by decide +kernel) (Ps := []) (pc' := 121) (lv' := [(0, .ref 66), (1, .int (nI 2)), (2, .int xi), (3, .int (nI 3)), (4, .int xj), (5, .int xk)]) (st' := [.int (-(nI 12))]) (σ' := σ) rfl True.intro ?_
                    exact rw_iret hX (by decide +kernel) (⟨by simp only [aCopy, eq_true hk4, eq_true hu4, hcs, hct, eq_true h4, eq_true h11, eq_false h23, eq_false hso1, eq_true h32, eq_false hso2, eq_true h50, eq_false h58, eq_false h62, eq_false h67, eq_true h78, hcp, if_true, if_false, Bool.false_eq_true, and_self, and_true, true_and, and_false, false_and, oel_n, oel_s, decide_true, decide_false], by simp only [sCopyM, eq_true hk4, eq_true hu4, hcs, hct, eq_true h4, eq_true h11, eq_false h23, eq_false hso1, eq_true h32, eq_false hso2, eq_true h50, eq_false h58, eq_false h62, eq_false h67, eq_true h78, hcp, if_true, if_false, Bool.false_eq_true, and_self, and_true, true_and, and_false, false_and, oel_n, oel_s, decide_true, decide_false]⟩)
                  · replace h78 : ¬ (xk > nI (n 2)) := h78
                    have hn40 := hns.2
                    have hn41 := hnu.2
                    obtain ⟨c, hc, rfl⟩ := rng (m := n 2) (by omega) ⟨Int32.not_lt.mp h58, Int32.not_lt.mp h78⟩
                    have hcc : (nI c).toNatClampNeg = c := nI_clamp (by omega)
                    refine rw_go hX [(81, .iload 5), (83, .aload_n 0), (84, .getfield 94), (87, .iload_n 3), (88, .iaload)] (by decide +kernel) (Ps := [vp_in (nI 3) 4]) (pc' := 89) (lv' := [(0, .ref 66), (1, .int (nI 2)), (2, .int xi), (3, .int (nI 3)), (4, .int xj), (5, .int (nI c))]) (st' := [.int (σ 98 (nI 3).toNatClampNeg), .int (nI c)]) (σ' := σ) rfl (vp_in_nI (by omega) (by omega)) ?_
                    rw [show (σ 98 (nI 3).toNatClampNeg) = nI (n 3) from (by rw [nI_clamp (by omega), hnu.1])]
                    refine rw_icmp hX (tgt := 119) (cnd := .gt) (off := 30) (by decide +kernel) (by decide) (fun h89 => ?_) (fun h89 => ?_)
                    · replace h89 := c2_gtT h89
                      have hcp : pz (cpOK xi xj (nI c) (n 2) (n 3)) = false := pz_f fun ⟨a9, b9, k9, e1, e2, e3, g1, g2⟩ => by
                        have e9 := (nI_eq (by omega) (by omega)).mp e3
                        omega
                      refine rw_go hX [(119, .bipush (-12))] (by decide +kernel) (Ps := []) (pc' := 121) (lv' := [(0, .ref 66), (1, .int (nI 2)), (2, .int xi), (3, .int (nI 3)), (4, .int xj), (5, .int (nI c))]) (st' := [.int (-(nI 12))]) (σ' := σ) rfl True.intro ?_
                      exact rw_iret hX (by decide +kernel) (⟨by simp only [aCopy, eq_true hk4, eq_true hu4, hcs, hct, eq_true h4, eq_true h11, eq_false h23, eq_false hso1, eq_true h32, eq_false hso2, eq_true h50, eq_false h58, eq_false h62, eq_false h67, eq_false h78, hcc, eq_true h89, hcp, if_true, if_false, Bool.false_eq_true, and_self, and_true, true_and, and_false, false_and, oel_n, oel_s, decide_true, decide_false], by simp only [sCopyM, eq_true hk4, eq_true hu4, hcs, hct, eq_true h4, eq_true h11, eq_false h23, eq_false hso1, eq_true h32, eq_false hso2, eq_true h50, eq_false h58, eq_false h62, eq_false h67, eq_false h78, hcc, eq_true h89, hcp, if_true, if_false, Bool.false_eq_true, and_self, and_true, true_and, and_false, false_and, oel_n, oel_s, decide_true, decide_false]⟩)
                    · replace h89 := c2_gtF h89
                      have hcu : c ≤ n 3 := by omega
                      refine rw_go hX [(92, .iload_n 2), (93, .aload_n 0), (94, .getfield 94), (97, .iload_n 1), (98, .iaload)] (by decide +kernel) (Ps := [vp_in (nI 2) 4]) (pc' := 99) (lv' := [(0, .ref 66), (1, .int (nI 2)), (2, .int xi), (3, .int (nI 3)), (4, .int xj), (5, .int (nI c))]) (st' := [.int (σ 98 (nI 2).toNatClampNeg), .int xi]) (σ' := σ) rfl (vp_in_nI (by omega) (by omega)) ?_
                      rw [show (σ 98 (nI 2).toNatClampNeg) = nI (n 2) from (by rw [nI_clamp (by omega), hns.1])]
                      refine rw_go hX [(99, .iload 5), (101, .isub)] (by decide +kernel) (Ps := []) (pc' := 102) (lv' := [(0, .ref 66), (1, .int (nI 2)), (2, .int xi), (3, .int (nI 3)), (4, .int xj), (5, .int (nI c))]) (st' := [.int (nI (n 2) - nI c), .int xi]) (σ' := σ) rfl True.intro ?_
                      rw [show (nI (n 2) - nI c) = nI (n 2 - c) from pk_sub (by omega)]
                      refine rw_icmp hX (tgt := 119) (cnd := .gt) (off := 17) (by decide +kernel) (by decide) (fun h102 => ?_) (fun h102 => ?_)
                      · replace h102 : (xi > nI (n 2 - c)) := h102
                        have hcp : pz (cpOK xi xj (nI c) (n 2) (n 3)) = false := pz_f fun ⟨a9, b9, k9, e1, e2, e3, g1, g2⟩ => by
                          have e9 := (nI_eq (by omega) (by omega)).mp e3
                          rw [e1] at h102
                          exact absurd h102 (Int32.not_lt.mpr (nI_le (by omega) (by omega)))
                        refine rw_go hX [(119, .bipush (-12))] (by decide +kernel) (Ps := []) (pc' := 121) (lv' := [(0, .ref 66), (1, .int (nI 2)), (2, .int xi), (3, .int (nI 3)), (4, .int xj), (5, .int (nI c))]) (st' := [.int (-(nI 12))]) (σ' := σ) rfl True.intro ?_
                        exact rw_iret hX (by decide +kernel) (⟨by simp only [aCopy, eq_true hk4, eq_true hu4, hcs, hct, eq_true h4, eq_true h11, eq_false h23, eq_false hso1, eq_true h32, eq_false hso2, eq_true h50, eq_false h58, eq_false h62, eq_false h67, eq_false h78, hcc, eq_true h89, eq_true h102, hcp, if_true, if_false, Bool.false_eq_true, and_self, and_true, true_and, and_false, false_and, oel_n, oel_s, decide_true, decide_false], by simp only [sCopyM, eq_true hk4, eq_true hu4, hcs, hct, eq_true h4, eq_true h11, eq_false h23, eq_false hso1, eq_true h32, eq_false hso2, eq_true h50, eq_false h58, eq_false h62, eq_false h67, eq_false h78, hcc, eq_true h89, eq_true h102, hcp, if_true, if_false, Bool.false_eq_true, and_self, and_true, true_and, and_false, false_and, oel_n, oel_s, decide_true, decide_false]⟩)
                      · replace h102 : ¬ (xi > nI (n 2 - c)) := h102
                        obtain ⟨a, ha, rfl⟩ := rng (m := n 2 - c) (by omega) ⟨Int32.not_lt.mp h62, Int32.not_lt.mp h102⟩
                        have hca : (nI a).toNatClampNeg = a := nI_clamp (by omega)
                        refine rw_go hX [(105, .iload 4), (107, .aload_n 0), (108, .getfield 94), (111, .iload_n 3), (112, .iaload)] (by decide +kernel) (Ps := [vp_in (nI 3) 4]) (pc' := 113) (lv' := [(0, .ref 66), (1, .int (nI 2)), (2, .int (nI a)), (3, .int (nI 3)), (4, .int xj), (5, .int (nI c))]) (st' := [.int (σ 98 (nI 3).toNatClampNeg), .int xj]) (σ' := σ) rfl (vp_in_nI (by omega) (by omega)) ?_
                        rw [show (σ 98 (nI 3).toNatClampNeg) = nI (n 3) from (by rw [nI_clamp (by omega), hnu.1])]
                        refine rw_go hX [(113, .iload 5), (115, .isub)] (by decide +kernel) (Ps := []) (pc' := 116) (lv' := [(0, .ref 66), (1, .int (nI 2)), (2, .int (nI a)), (3, .int (nI 3)), (4, .int xj), (5, .int (nI c))]) (st' := [.int (nI (n 3) - nI c), .int xj]) (σ' := σ) rfl True.intro ?_
                        rw [show (nI (n 3) - nI c) = nI (n 3 - c) from pk_sub (by omega)]
                        refine rw_icmp hX (tgt := 122) (cnd := .le) (off := 6) (by decide +kernel) (by decide) (fun h116 => ?_) (fun h116 => ?_)
                        · replace h116 : (xj ≤ nI (n 3 - c)) := h116
                          obtain ⟨b, hb, rfl⟩ := rng (m := n 3 - c) (by omega) ⟨Int32.not_lt.mp h67, h116⟩
                          have hcb : (nI b).toNatClampNeg = b := nI_clamp (by omega)
                          have hcp : pz (cpOK (nI a) (nI b) (nI c) (n 2) (n 3)) = true := pz_t ⟨a, b, c, rfl, rfl, rfl, by omega, by omega⟩
                          refine rw_go hX [(122, .iconst 0), (123, .istore 6)] (by decide +kernel) (Ps := []) (pc' := 125) (lv' := [(0, .ref 66), (1, .int (nI 2)), (2, .int (nI a)), (3, .int (nI 3)), (4, .int (nI b)), (5, .int (nI c)), (6, .int (nI 0))]) (st' := []) (σ' := σ) rfl True.intro ?_
                          have L125 : ∀ (μ125 : Nat) (i : Nat), μ125 = c - i → (i ≤ c) → RW E G 3 7 (QI E G (fun r σ' => r = aCopy n (σ 97) (nI 2) (nI a) (nI 3) (nI b) (nI c) ∧ σ' = sCopyM n σ (nI 2) (nI a) (nI 3) (nI b) (nI c))) 125 [(0, .ref 66), (1, .int (nI 2)), (2, .int (nI a)), (3, .int (nI 3)), (4, .int (nI b)), (5, .int (nI c)), (6, .int (nI i))] [] (sr σ 100 (va_cpy (σ 95) (σ 100) a 0 i)) := by
                            intro μ125
                            induction μ125 using Nat.strongRecOn with
                            | ind μ125 ih125 =>
                              intro i hμ125 hi
                              refine rw_go hX [(125, .iload 6), (127, .iload 5)] (by decide +kernel) (Ps := []) (pc' := 129) (lv' := [(0, .ref 66), (1, .int (nI 2)), (2, .int (nI a)), (3, .int (nI 3)), (4, .int (nI b)), (5, .int (nI c)), (6, .int (nI i))]) (st' := [.int (nI c), .int (nI i)]) (σ' := sr σ 100 (va_cpy (σ 95) (σ 100) a 0 i)) rfl True.intro ?_
                              refine rw_icmp hX (tgt := 156) (cnd := .ge) (off := 27) (by decide +kernel) (by decide) (fun h129 => ?_) (fun h129 => ?_)
                              · replace h129 := c2_geT h129
                                have ei : i = c := by omega
                                rw [ei]
                                refine rw_go hX [(156, .iconst 0), (157, .istore 6)] (by decide +kernel) (Ps := []) (pc' := 159) (lv' := [(0, .ref 66), (1, .int (nI 2)), (2, .int (nI a)), (3, .int (nI 3)), (4, .int (nI b)), (5, .int (nI c)), (6, .int (nI 0))]) (st' := []) (σ' := sr σ 100 (va_cpy (σ 95) (σ 100) a 0 c)) rfl True.intro ?_
                                have L159 : ∀ (μ159 : Nat) (i : Nat), μ159 = c - i → (i ≤ c) → RW E G 3 7 (QI E G (fun r σ' => r = aCopy n (σ 97) (nI 2) (nI a) (nI 3) (nI b) (nI c) ∧ σ' = sCopyM n σ (nI 2) (nI a) (nI 3) (nI b) (nI c))) 159 [(0, .ref 66), (1, .int (nI 2)), (2, .int (nI a)), (3, .int (nI 3)), (4, .int (nI b)), (5, .int (nI c)), (6, .int (nI i))] [] (sr (sr σ 100 (va_cpy (σ 95) (σ 100) a 0 c)) 96 (va_cpy (va_cpy (σ 95) (σ 100) a 0 c) (σ 96) 0 b i)) := by
                                  intro μ159
                                  induction μ159 using Nat.strongRecOn with
                                  | ind μ159 ih159 =>
                                    intro i hμ159 hi2
                                    refine rw_go hX [(159, .iload 6), (161, .iload 5)] (by decide +kernel) (Ps := []) (pc' := 163) (lv' := [(0, .ref 66), (1, .int (nI 2)), (2, .int (nI a)), (3, .int (nI 3)), (4, .int (nI b)), (5, .int (nI c)), (6, .int (nI i))]) (st' := [.int (nI c), .int (nI i)]) (σ' := sr (sr σ 100 (va_cpy (σ 95) (σ 100) a 0 c)) 96 (va_cpy (va_cpy (σ 95) (σ 100) a 0 c) (σ 96) 0 b i)) rfl True.intro ?_
                                    refine rw_icmp hX (tgt := 191) (cnd := .ge) (off := 28) (by decide +kernel) (by decide) (fun h163 => ?_) (fun h163 => ?_)
                                    · replace h163 := c2_geT h163
                                      have ei2 : i = c := by omega
                                      refine rw_go hX [(191, .iload 5)] (by decide +kernel) (Ps := []) (pc' := 193) (lv' := [(0, .ref 66), (1, .int (nI 2)), (2, .int (nI a)), (3, .int (nI 3)), (4, .int (nI b)), (5, .int (nI c)), (6, .int (nI i))]) (st' := [.int (nI c)]) (σ' := sr (sr σ 100 (va_cpy (σ 95) (σ 100) a 0 c)) 96 (va_cpy (va_cpy (σ 95) (σ 100) a 0 c) (σ 96) 0 b i)) rfl True.intro ?_
                                      exact rw_iret hX (by decide +kernel) (⟨by simp only [aCopy, eq_true hk4, eq_true hu4, hcs, hct, eq_true h4, eq_true h11, eq_false h23, eq_false hso1, eq_true h32, eq_false hso2, eq_true h50, eq_false h58, eq_false h62, eq_false h67, eq_false h78, hcc, eq_true h89, eq_false h102, hca, eq_true h116, hcb, hcp, eq_true h129, eq_true h163, if_true, if_false, Bool.false_eq_true, and_self, and_true, true_and, and_false, false_and, oel_n, oel_s, decide_true, decide_false], by simp only [sCopyM, eq_true hk4, eq_true hu4, hcs, hct, eq_true h4, eq_true h11, eq_false h23, eq_false hso1, eq_true h32, eq_false hso2, eq_true h50, eq_false h58, eq_false h62, eq_false h67, eq_false h78, hcc, eq_true h89, eq_false h102, hca, eq_true h116, hcb, hcp, eq_true h129, eq_true h163, if_true, if_false, Bool.false_eq_true, and_self, and_true, true_and, and_false, false_and, oel_n, oel_s, decide_true, decide_false]; rw [ei2]; rfl⟩)
                                    · replace h163 := c2_geF h163
                                      refine rw_go hX [(166, .aload_n 0), (167, .getfield 88), (170, .iload_n 3), (171, .aaload), (172, .iload 4), (174, .iload 6), (176, .iadd)] (by decide +kernel) (Ps := [vp_in (nI 3) 4]) (pc' := 177) (lv' := [(0, .ref 66), (1, .int (nI 2)), (2, .int (nI a)), (3, .int (nI 3)), (4, .int (nI b)), (5, .int (nI c)), (6, .int (nI i))]) (st' := [.int (nI b + nI i), .ref 96]) (σ' := sr (sr σ 100 (va_cpy (σ 95) (σ 100) a 0 c)) 96 (va_cpy (va_cpy (σ 95) (σ 100) a 0 c) (σ 96) 0 b i)) rfl (vp_in_nI (by omega) (by omega)) ?_
                                      rw [show (nI b + nI i) = nI (b + i) from nI_add _ _]
                                      refine rw_go hX [(177, .aload_n 0), (178, .getfield 100), (181, .iload 6), (183, .iaload)] (by decide +kernel) (Ps := [vp_in (nI i) 40]) (pc' := 184) (lv' := [(0, .ref 66), (1, .int (nI 2)), (2, .int (nI a)), (3, .int (nI 3)), (4, .int (nI b)), (5, .int (nI c)), (6, .int (nI i))]) (st' := [.int ((sr (sr σ 100 (va_cpy (σ 95) (σ 100) a 0 c)) 96 (va_cpy (va_cpy (σ 95) (σ 100) a 0 c) (σ 96) 0 b i)) 100 (nI i).toNatClampNeg), .int (nI (b + i)), .ref 96]) (σ' := sr (sr σ 100 (va_cpy (σ 95) (σ 100) a 0 c)) 96 (va_cpy (va_cpy (σ 95) (σ 100) a 0 c) (σ 96) 0 b i)) rfl (vp_in_nI (by omega) (by omega)) ?_
                                      rw [show ((sr (sr σ 100 (va_cpy (σ 95) (σ 100) a 0 c)) 96 (va_cpy (va_cpy (σ 95) (σ 100) a 0 c) (σ 96) 0 b i)) 100 (nI i).toNatClampNeg) = (va_cpy (σ 95) (σ 100) a 0 c) i from (by rw [nI_clamp (by omega), sr_n _ _ (by decide), sr_s])]
                                      refine rw_go hX [(184, .iastore)] (by decide +kernel) (Ps := [vp_in (nI (b + i)) 40]) (pc' := 185) (lv' := [(0, .ref 66), (1, .int (nI 2)), (2, .int (nI a)), (3, .int (nI 3)), (4, .int (nI b)), (5, .int (nI c)), (6, .int (nI i))]) (st' := []) (σ' := sw (sr (sr σ 100 (va_cpy (σ 95) (σ 100) a 0 c)) 96 (va_cpy (va_cpy (σ 95) (σ 100) a 0 c) (σ 96) 0 b i)) 96 (nI (b + i)).toNatClampNeg ((va_cpy (σ 95) (σ 100) a 0 c) i)) rfl (vp_in_nI (by omega) (by omega)) ?_
                                      rw [show (sw (sr (sr σ 100 (va_cpy (σ 95) (σ 100) a 0 c)) 96 (va_cpy (va_cpy (σ 95) (σ 100) a 0 c) (σ 96) 0 b i)) 96 (nI (b + i)).toNatClampNeg ((va_cpy (σ 95) (σ 100) a 0 c) i)) = sw (sr (sr σ 100 (va_cpy (σ 95) (σ 100) a 0 c)) 96 (va_cpy (va_cpy (σ 95) (σ 100) a 0 c) (σ 96) 0 b i)) 96 (b + i) ((va_cpy (σ 95) (σ 100) a 0 c) i) from (by rw [nI_clamp (by omega)])]
                                      refine rw_go hX [(185, .iinc 6 1)] (by decide +kernel) (Ps := []) (pc' := 188) (lv' := [(0, .ref 66), (1, .int (nI 2)), (2, .int (nI a)), (3, .int (nI 3)), (4, .int (nI b)), (5, .int (nI c)), (6, .int (nI i + nI 1))]) (st' := []) (σ' := sw (sr (sr σ 100 (va_cpy (σ 95) (σ 100) a 0 c)) 96 (va_cpy (va_cpy (σ 95) (σ 100) a 0 c) (σ 96) 0 b i)) 96 (b + i) ((va_cpy (σ 95) (σ 100) a 0 c) i)) rfl True.intro ?_
                                      rw [show (nI i + nI 1) = nI (i + 1) from nI_add _ _]
                                      refine rw_go hX [(188, .goto (-29))] (by decide +kernel) (Ps := []) (pc' := 159) (lv' := [(0, .ref 66), (1, .int (nI 2)), (2, .int (nI a)), (3, .int (nI 3)), (4, .int (nI b)), (5, .int (nI c)), (6, .int (nI (i + 1)))]) (st' := []) (σ' := sw (sr (sr σ 100 (va_cpy (σ 95) (σ 100) a 0 c)) 96 (va_cpy (va_cpy (σ 95) (σ 100) a 0 c) (σ 96) 0 b i)) 96 (b + i) ((va_cpy (σ 95) (σ 100) a 0 c) i)) rfl True.intro ?_
                                      refine rw_lsub (ks := [0, 1, 2, 3, 4, 5, 6]) (lv' := [(0, .ref 66), (1, .int (nI 2)), (2, .int (nI a)), (3, .int (nI 3)), (4, .int (nI b)), (5, .int (nI c)), (6, .int (nI (i + 1)))]) rfl ?_
                                      have q := ih159 (c - (i + 1)) (by omega) (i + 1) rfl (by omega)
                                      rw [← cpy_1, Nat.zero_add] at q
                                      rw [sw_sr]
                                      exact q
                                refine rw_lsub (ks := [0, 1, 2, 3, 4, 5, 6]) (lv' := [(0, .ref 66), (1, .int (nI 2)), (2, .int (nI a)), (3, .int (nI 3)), (4, .int (nI b)), (5, .int (nI c)), (6, .int (nI 0))]) rfl ?_
                                have q := L159 c 0 rfl (by omega)
                                rw [cpy_0, show sr (sr σ 100 (va_cpy (σ 95) (σ 100) a 0 c)) 96 (σ 96) = sr σ 100 (va_cpy (σ 95) (σ 100) a 0 c) from by
                                  funext q
                                  by_cases z : q = 96
                                  · subst z; rw [sr_s, sr_n _ _ (by decide)]
                                  · rw [sr_n _ _ z]] at q
                                exact q
                              · replace h129 := c2_geF h129
                                refine rw_go hX [(132, .aload_n 0), (133, .getfield 100), (136, .iload 6), (138, .aload_n 0), (139, .getfield 88), (142, .iload_n 1), (143, .aaload), (144, .iload_n 2), (145, .iload 6), (147, .iadd)] (by decide +kernel) (Ps := [vp_in (nI 2) 4]) (pc' := 148) (lv' := [(0, .ref 66), (1, .int (nI 2)), (2, .int (nI a)), (3, .int (nI 3)), (4, .int (nI b)), (5, .int (nI c)), (6, .int (nI i))]) (st' := [.int (nI a + nI i), .ref 95, .int (nI i), .ref 100]) (σ' := sr σ 100 (va_cpy (σ 95) (σ 100) a 0 i)) rfl (vp_in_nI (by omega) (by omega)) ?_
                                rw [show (nI a + nI i) = nI (a + i) from nI_add _ _]
                                refine rw_go hX [(148, .iaload)] (by decide +kernel) (Ps := [vp_in (nI (a + i)) 40]) (pc' := 149) (lv' := [(0, .ref 66), (1, .int (nI 2)), (2, .int (nI a)), (3, .int (nI 3)), (4, .int (nI b)), (5, .int (nI c)), (6, .int (nI i))]) (st' := [.int ((sr σ 100 (va_cpy (σ 95) (σ 100) a 0 i)) 95 (nI (a + i)).toNatClampNeg), .int (nI i), .ref 100]) (σ' := sr σ 100 (va_cpy (σ 95) (σ 100) a 0 i)) rfl (vp_in_nI (by omega) (by omega)) ?_
                                rw [show ((sr σ 100 (va_cpy (σ 95) (σ 100) a 0 i)) 95 (nI (a + i)).toNatClampNeg) = σ 95 (a + i) from (by rw [nI_clamp (by omega), sr_n _ _ (by decide)])]
                                refine rw_go hX [(149, .iastore)] (by decide +kernel) (Ps := [vp_in (nI i) 40]) (pc' := 150) (lv' := [(0, .ref 66), (1, .int (nI 2)), (2, .int (nI a)), (3, .int (nI 3)), (4, .int (nI b)), (5, .int (nI c)), (6, .int (nI i))]) (st' := []) (σ' := sw (sr σ 100 (va_cpy (σ 95) (σ 100) a 0 i)) 100 (nI i).toNatClampNeg (σ 95 (a + i))) rfl (vp_in_nI (by omega) (by omega)) ?_
                                rw [show (sw (sr σ 100 (va_cpy (σ 95) (σ 100) a 0 i)) 100 (nI i).toNatClampNeg (σ 95 (a + i))) = sw (sr σ 100 (va_cpy (σ 95) (σ 100) a 0 i)) 100 i (σ 95 (a + i)) from (by rw [nI_clamp (by omega)])]
                                refine rw_go hX [(150, .iinc 6 1)] (by decide +kernel) (Ps := []) (pc' := 153) (lv' := [(0, .ref 66), (1, .int (nI 2)), (2, .int (nI a)), (3, .int (nI 3)), (4, .int (nI b)), (5, .int (nI c)), (6, .int (nI i + nI 1))]) (st' := []) (σ' := sw (sr σ 100 (va_cpy (σ 95) (σ 100) a 0 i)) 100 i (σ 95 (a + i))) rfl True.intro ?_
                                rw [show (nI i + nI 1) = nI (i + 1) from nI_add _ _]
                                refine rw_go hX [(153, .goto (-28))] (by decide +kernel) (Ps := []) (pc' := 125) (lv' := [(0, .ref 66), (1, .int (nI 2)), (2, .int (nI a)), (3, .int (nI 3)), (4, .int (nI b)), (5, .int (nI c)), (6, .int (nI (i + 1)))]) (st' := []) (σ' := sw (sr σ 100 (va_cpy (σ 95) (σ 100) a 0 i)) 100 i (σ 95 (a + i))) rfl True.intro ?_
                                refine rw_lsub (ks := [0, 1, 2, 3, 4, 5, 6]) (lv' := [(0, .ref 66), (1, .int (nI 2)), (2, .int (nI a)), (3, .int (nI 3)), (4, .int (nI b)), (5, .int (nI c)), (6, .int (nI (i + 1)))]) rfl ?_
                                have q := ih125 (c - (i + 1)) (by omega) (i + 1) rfl (by omega)
                                rw [← cpy_1, Nat.zero_add] at q
                                rw [sw_sr]
                                exact q
                          refine rw_lsub (ks := [0, 1, 2, 3, 4, 5, 6]) (lv' := [(0, .ref 66), (1, .int (nI 2)), (2, .int (nI a)), (3, .int (nI 3)), (4, .int (nI b)), (5, .int (nI c)), (6, .int (nI 0))]) rfl ?_
                          have q := L125 c 0 rfl (by omega)
                          rw [cpy_0, sr_id] at q
                          exact q
                        · replace h116 : ¬ (xj ≤ nI (n 3 - c)) := h116
                          have hcp : pz (cpOK (nI a) xj (nI c) (n 2) (n 3)) = false := pz_f fun ⟨a9, b9, k9, e1, e2, e3, g1, g2⟩ => by
                            have e9 := (nI_eq (by omega) (by omega)).mp e3
                            rw [e2] at h116
                            exact absurd (nI_le (by omega) (by omega)) h116
                          refine rw_go hX [(119, .bipush (-12))] (by decide +kernel) (Ps := []) (pc' := 121) (lv' := [(0, .ref 66), (1, .int (nI 2)), (2, .int (nI a)), (3, .int (nI 3)), (4, .int xj), (5, .int (nI c))]) (st' := [.int (-(nI 12))]) (σ' := σ) rfl True.intro ?_
                          exact rw_iret hX (by decide +kernel) (⟨by simp only [aCopy, eq_true hk4, eq_true hu4, hcs, hct, eq_true h4, eq_true h11, eq_false h23, eq_false hso1, eq_true h32, eq_false hso2, eq_true h50, eq_false h58, eq_false h62, eq_false h67, eq_false h78, hcc, eq_true h89, eq_false h102, hca, eq_false h116, hcp, if_true, if_false, Bool.false_eq_true, and_self, and_true, true_and, and_false, false_and, oel_n, oel_s, decide_true, decide_false], by simp only [sCopyM, eq_true hk4, eq_true hu4, hcs, hct, eq_true h4, eq_true h11, eq_false h23, eq_false hso1, eq_true h32, eq_false hso2, eq_true h50, eq_false h58, eq_false h62, eq_false h67, eq_false h78, hcc, eq_true h89, eq_false h102, hca, eq_false h116, hcp, if_true, if_false, Bool.false_eq_true, and_self, and_true, true_and, and_false, false_and, oel_n, oel_s, decide_true, decide_false]⟩)
          · replace h50 : ¬ (σ 97 2 = σ 97 3) := h50
            refine rw_go hX [(53, .bipush (-13))] (by decide +kernel) (Ps := []) (pc' := 55) (lv' := [(0, .ref 66), (1, .int (nI 2)), (2, .int xi), (3, .int (nI 3)), (4, .int xj), (5, .int xk)]) (st' := [.int (-(nI 13))]) (σ' := σ) rfl True.intro ?_
            exact rw_iret hX (by decide +kernel) (⟨by simp only [aCopy, eq_true hk4, eq_true hu4, hcs, hct, eq_true h4, eq_true h11, eq_false h23, eq_false hso1, eq_true h32, eq_false hso2, eq_false h50, if_true, if_false, Bool.false_eq_true, and_self, and_true, true_and, and_false, false_and, oel_n, oel_s, decide_true, decide_false], by simp only [sCopyM, eq_true hk4, eq_true hu4, hcs, hct, eq_true h4, eq_true h11, eq_false h23, eq_false hso1, eq_true h32, eq_false hso2, eq_false h50, if_true, if_false, Bool.false_eq_true, and_self, and_true, true_and, and_false, false_and, oel_n, oel_s, decide_true, decide_false]⟩)
        · replace h32 : ¬ (σ 97 3 ≥ 0) := h32
          have hso2 : σ 97 3 = -(nI 1) := (so_m hou).mp (Int32.not_le.mp h32)
          refine rw_go hX [(35, .bipush (-11))] (by decide +kernel) (Ps := []) (pc' := 37) (lv' := [(0, .ref 66), (1, .int (nI 2)), (2, .int xi), (3, .int (nI 3)), (4, .int xj), (5, .int xk)]) (st' := [.int (-(nI 11))]) (σ' := σ) rfl True.intro ?_
          exact rw_iret hX (by decide +kernel) (⟨by simp only [aCopy, eq_true hk4, eq_true hu4, hcs, hct, eq_true h4, eq_true h11, eq_false h23, eq_false hso1, eq_false h32, eq_true hso2, if_true, if_false, Bool.false_eq_true, and_self, and_true, true_and, and_false, false_and, oel_n, oel_s, decide_true, decide_false], by simp only [sCopyM, eq_true hk4, eq_true hu4, hcs, hct, eq_true h4, eq_true h11, eq_false h23, eq_false hso1, eq_false h32, eq_true hso2, if_true, if_false, Bool.false_eq_true, and_self, and_true, true_and, and_false, false_and, oel_n, oel_s, decide_true, decide_false]⟩)
    · exact absurd (by simp only [cz, cc2]; decide +kernel) h11
set_option maxRecDepth 20000 in
set_option maxHeartbeats 800000 in
theorem g_copy_3_0 (l : Launch) (G : Gl) (σ : Mm) (n : Nat → Nat) (xi xj xk : Int32) (hsh : ∀ s, s < 4 → σ 98 s = nI (n s) ∧ n s ≤ 40) (hso : ∀ s, s < 4 → σ 97 s = -(nI 1) ∨ σ 97 s = nI 0 ∨ σ 97 s = nI 1) : AMi l G 3 mX10_copy [.ref 66, .int (nI 3), .int xi, .int (nI 0), .int xj, .int xk] σ (fun r σ' => r = aCopy n (σ 97) (nI 3) xi (nI 0) xj xk ∧ σ' = sCopyM n σ (nI 3) xi (nI 0) xj xk) := by
  refine rw_inI 10 (by decide +kernel) rfl rfl ?_
  intro E hE hX
  subst hE
  have hk4 := film_r 3 (by omega)
  have hu4 := film_r 0 (by omega)
  have hcs : (nI 3).toNatClampNeg = 3 := nI_clamp (by omega)
  have hct : (nI 0).toNatClampNeg = 0 := nI_clamp (by omega)
  have hns := hsh 3 (by omega)
  have hos := hso 3 (by omega)
  have hnu := hsh 0 (by omega)
  have hou := hso 0 (by omega)
  refine rw_go hX [(0, .iload_n 1)] (by decide +kernel) (Ps := []) (pc' := 1) (lv' := [(0, .ref 66), (1, .int (nI 3)), (2, .int xi), (3, .int (nI 0)), (4, .int xj), (5, .int xk)]) (st' := [.int (nI 3)]) (σ' := σ) rfl True.intro ?_
  refine rw_callSi hX (as := [.int (nI 3)]) (rest := []) (m_isSheet _ _ _ (nI 3)) (by decide +kernel) msX10_isSheet (Or.inl lk10_298) rfl (by decide) (Nat.le_of_ble_eq_true rfl) rfl ?_
  intro r1 σ1 hr
  rw [hr.1, show r1 = nI 1 from hr.2.trans (by decide +kernel)]
  clear hr σ1 r1
  refine rw_if hX (tgt := 14) (cnd := .eq) (off := 10) (by decide +kernel) (by decide) (fun h4 => ?_) (fun h4 => ?_)
  · exact absurd h4 (by simp only [cz, cc2]; decide +kernel)
  · skip
    refine rw_go hX [(7, .iload_n 3)] (by decide +kernel) (Ps := []) (pc' := 8) (lv' := [(0, .ref 66), (1, .int (nI 3)), (2, .int xi), (3, .int (nI 0)), (4, .int xj), (5, .int xk)]) (st' := [.int (nI 0)]) (σ' := σ) rfl True.intro ?_
    refine rw_callSi hX (as := [.int (nI 0)]) (rest := []) (m_isSheet _ _ _ (nI 0)) (by decide +kernel) msX10_isSheet (Or.inl lk10_298) rfl (by decide) (Nat.le_of_ble_eq_true rfl) rfl ?_
    intro r1 σ1 hr
    rw [hr.1, show r1 = nI 1 from hr.2.trans (by decide +kernel)]
    clear hr σ1 r1
    refine rw_if hX (tgt := 17) (cnd := .ne) (off := 6) (by decide +kernel) (by decide) (fun h11 => ?_) (fun h11 => ?_)
    · skip
      refine rw_go hX [(17, .aload_n 0), (18, .getfield 91), (21, .iload_n 1), (22, .iaload)] (by decide +kernel) (Ps := [vp_in (nI 3) 4]) (pc' := 23) (lv' := [(0, .ref 66), (1, .int (nI 3)), (2, .int xi), (3, .int (nI 0)), (4, .int xj), (5, .int xk)]) (st' := [.int (σ 97 (nI 3).toNatClampNeg)]) (σ' := σ) rfl (vp_in_nI (by omega) (by omega)) ?_
      rw [show (σ 97 (nI 3).toNatClampNeg) = σ 97 3 from (by rw [nI_clamp (by omega)])]
      refine rw_if hX (tgt := 35) (cnd := .lt) (off := 12) (by decide +kernel) (by decide) (fun h23 => ?_) (fun h23 => ?_)
      · replace h23 : (σ 97 3 < 0) := h23
        have hso1 : σ 97 3 = -(nI 1) := (so_m hos).mp h23
        refine rw_go hX [(35, .bipush (-11))] (by decide +kernel) (Ps := []) (pc' := 37) (lv' := [(0, .ref 66), (1, .int (nI 3)), (2, .int xi), (3, .int (nI 0)), (4, .int xj), (5, .int xk)]) (st' := [.int (-(nI 11))]) (σ' := σ) rfl True.intro ?_
        exact rw_iret hX (by decide +kernel) (⟨by simp only [aCopy, eq_true hk4, eq_true hu4, hcs, hct, eq_true h4, eq_true h11, eq_true h23, eq_true hso1, if_true, if_false, Bool.false_eq_true, and_self, and_true, true_and, and_false, false_and, oel_n, oel_s, decide_true, decide_false], by simp only [sCopyM, eq_true hk4, eq_true hu4, hcs, hct, eq_true h4, eq_true h11, eq_true h23, eq_true hso1, if_true, if_false, Bool.false_eq_true, and_self, and_true, true_and, and_false, false_and, oel_n, oel_s, decide_true, decide_false]⟩)
      · replace h23 : ¬ (σ 97 3 < 0) := h23
        have hso1 : ¬ σ 97 3 = -(nI 1) := fun z => h23 ((so_m hos).mpr z)
        refine rw_go hX [(26, .aload_n 0), (27, .getfield 91), (30, .iload_n 3), (31, .iaload)] (by decide +kernel) (Ps := [vp_in (nI 0) 4]) (pc' := 32) (lv' := [(0, .ref 66), (1, .int (nI 3)), (2, .int xi), (3, .int (nI 0)), (4, .int xj), (5, .int xk)]) (st' := [.int (σ 97 (nI 0).toNatClampNeg)]) (σ' := σ) rfl (vp_in_nI (by omega) (by omega)) ?_
        rw [show (σ 97 (nI 0).toNatClampNeg) = σ 97 0 from (by rw [nI_clamp (by omega)])]
        refine rw_if hX (tgt := 38) (cnd := .ge) (off := 6) (by decide +kernel) (by decide) (fun h32 => ?_) (fun h32 => ?_)
        · replace h32 : (σ 97 0 ≥ 0) := h32
          have hso2 : ¬ σ 97 0 = -(nI 1) := fun z => absurd ((so_m hou).mpr z) (Int32.not_lt.mpr h32)
          refine rw_go hX [(38, .aload_n 0), (39, .getfield 91), (42, .iload_n 1), (43, .iaload)] (by decide +kernel) (Ps := [vp_in (nI 3) 4]) (pc' := 44) (lv' := [(0, .ref 66), (1, .int (nI 3)), (2, .int xi), (3, .int (nI 0)), (4, .int xj), (5, .int xk)]) (st' := [.int (σ 97 (nI 3).toNatClampNeg)]) (σ' := σ) rfl (vp_in_nI (by omega) (by omega)) ?_
          rw [show (σ 97 (nI 3).toNatClampNeg) = σ 97 3 from (by rw [nI_clamp (by omega)])]
          refine rw_go hX [(44, .aload_n 0), (45, .getfield 91), (48, .iload_n 3), (49, .iaload)] (by decide +kernel) (Ps := [vp_in (nI 0) 4]) (pc' := 50) (lv' := [(0, .ref 66), (1, .int (nI 3)), (2, .int xi), (3, .int (nI 0)), (4, .int xj), (5, .int xk)]) (st' := [.int (σ 97 (nI 0).toNatClampNeg), .int (σ 97 3)]) (σ' := σ) rfl (vp_in_nI (by omega) (by omega)) ?_
          rw [show (σ 97 (nI 0).toNatClampNeg) = σ 97 0 from (by rw [nI_clamp (by omega)])]
          refine rw_icmp hX (tgt := 56) (cnd := .eq) (off := 6) (by decide +kernel) (by decide) (fun h50 => ?_) (fun h50 => ?_)
          · replace h50 : (σ 97 3 = σ 97 0) := h50
            refine rw_go hX [(56, .iload 5)] (by decide +kernel) (Ps := []) (pc' := 58) (lv' := [(0, .ref 66), (1, .int (nI 3)), (2, .int xi), (3, .int (nI 0)), (4, .int xj), (5, .int xk)]) (st' := [.int xk]) (σ' := σ) rfl True.intro ?_
            refine rw_if hX (tgt := 119) (cnd := .lt) (off := 61) (by decide +kernel) (by decide) (fun h58 => ?_) (fun h58 => ?_)
            · replace h58 : (xk < 0) := h58
              have hcp : pz (cpOK xi xj xk (n 3) (n 0)) = false := pz_f fun ⟨a9, b9, k9, e1, e2, e3, g1, g2⟩ => by
                rw [e3] at h58; exact absurd h58 (nI_pos (by have := hns.2; omega))
              refine rw_go hX [(119, .bipush (-12))] (by decide +kernel) (Ps := []) (pc' := 121) (lv' := [(0, .ref 66), (1, .int (nI 3)), (2, .int xi), (3, .int (nI 0)), (4, .int xj), (5, .int xk)]) (st' := [.int (-(nI 12))]) (σ' := σ) rfl True.intro ?_
              exact rw_iret hX (by decide +kernel) (⟨by simp only [aCopy, eq_true hk4, eq_true hu4, hcs, hct, eq_true h4, eq_true h11, eq_false h23, eq_false hso1, eq_true h32, eq_false hso2, eq_true h50, eq_true h58, hcp, if_true, if_false, Bool.false_eq_true, and_self, and_true, true_and, and_false, false_and, oel_n, oel_s, decide_true, decide_false], by simp only [sCopyM, eq_true hk4, eq_true hu4, hcs, hct, eq_true h4, eq_true h11, eq_false h23, eq_false hso1, eq_true h32, eq_false hso2, eq_true h50, eq_true h58, hcp, if_true, if_false, Bool.false_eq_true, and_self, and_true, true_and, and_false, false_and, oel_n, oel_s, decide_true, decide_false]⟩)
            · replace h58 : ¬ (xk < 0) := h58
              refine rw_go hX [(61, .iload_n 2)] (by decide +kernel) (Ps := []) (pc' := 62) (lv' := [(0, .ref 66), (1, .int (nI 3)), (2, .int xi), (3, .int (nI 0)), (4, .int xj), (5, .int xk)]) (st' := [.int xi]) (σ' := σ) rfl True.intro ?_
              refine rw_if hX (tgt := 119) (cnd := .lt) (off := 57) (by decide +kernel) (by decide) (fun h62 => ?_) (fun h62 => ?_)
              · replace h62 : (xi < 0) := h62
                have hcp : pz (cpOK xi xj xk (n 3) (n 0)) = false := pz_f fun ⟨a9, b9, k9, e1, e2, e3, g1, g2⟩ => by
                  rw [e1] at h62; exact absurd h62 (nI_pos (by have := hns.2; omega))
                refine rw_go hX [(119, .bipush (-12))] (by decide +kernel) (Ps := []) (pc' := 121) (lv' := [(0, .ref 66), (1, .int (nI 3)), (2, .int xi), (3, .int (nI 0)), (4, .int xj), (5, .int xk)]) (st' := [.int (-(nI 12))]) (σ' := σ) rfl True.intro ?_
                exact rw_iret hX (by decide +kernel) (⟨by simp only [aCopy, eq_true hk4, eq_true hu4, hcs, hct, eq_true h4, eq_true h11, eq_false h23, eq_false hso1, eq_true h32, eq_false hso2, eq_true h50, eq_false h58, eq_true h62, hcp, if_true, if_false, Bool.false_eq_true, and_self, and_true, true_and, and_false, false_and, oel_n, oel_s, decide_true, decide_false], by simp only [sCopyM, eq_true hk4, eq_true hu4, hcs, hct, eq_true h4, eq_true h11, eq_false h23, eq_false hso1, eq_true h32, eq_false hso2, eq_true h50, eq_false h58, eq_true h62, hcp, if_true, if_false, Bool.false_eq_true, and_self, and_true, true_and, and_false, false_and, oel_n, oel_s, decide_true, decide_false]⟩)
              · replace h62 : ¬ (xi < 0) := h62
                refine rw_go hX [(65, .iload 4)] (by decide +kernel) (Ps := []) (pc' := 67) (lv' := [(0, .ref 66), (1, .int (nI 3)), (2, .int xi), (3, .int (nI 0)), (4, .int xj), (5, .int xk)]) (st' := [.int xj]) (σ' := σ) rfl True.intro ?_
                refine rw_if hX (tgt := 119) (cnd := .lt) (off := 52) (by decide +kernel) (by decide) (fun h67 => ?_) (fun h67 => ?_)
                · replace h67 : (xj < 0) := h67
                  have hcp : pz (cpOK xi xj xk (n 3) (n 0)) = false := pz_f fun ⟨a9, b9, k9, e1, e2, e3, g1, g2⟩ => by
                    rw [e2] at h67; exact absurd h67 (nI_pos (by have := hnu.2; omega))
                  refine rw_go hX [(119, .bipush (-12))] (by decide +kernel) (Ps := []) (pc' := 121) (lv' := [(0, .ref 66), (1, .int (nI 3)), (2, .int xi), (3, .int (nI 0)), (4, .int xj), (5, .int xk)]) (st' := [.int (-(nI 12))]) (σ' := σ) rfl True.intro ?_
                  exact rw_iret hX (by decide +kernel) (⟨by simp only [aCopy, eq_true hk4, eq_true hu4, hcs, hct, eq_true h4, eq_true h11, eq_false h23, eq_false hso1, eq_true h32, eq_false hso2, eq_true h50, eq_false h58, eq_false h62, eq_true h67, hcp, if_true, if_false, Bool.false_eq_true, and_self, and_true, true_and, and_false, false_and, oel_n, oel_s, decide_true, decide_false], by simp only [sCopyM, eq_true hk4, eq_true hu4, hcs, hct, eq_true h4, eq_true h11, eq_false h23, eq_false hso1, eq_true h32, eq_false hso2, eq_true h50, eq_false h58, eq_false h62, eq_true h67, hcp, if_true, if_false, Bool.false_eq_true, and_self, and_true, true_and, and_false, false_and, oel_n, oel_s, decide_true, decide_false]⟩)
                · replace h67 : ¬ (xj < 0) := h67
                  refine rw_go hX [(70, .iload 5), (72, .aload_n 0), (73, .getfield 94), (76, .iload_n 1), (77, .iaload)] (by decide +kernel) (Ps := [vp_in (nI 3) 4]) (pc' := 78) (lv' := [(0, .ref 66), (1, .int (nI 3)), (2, .int xi), (3, .int (nI 0)), (4, .int xj), (5, .int xk)]) (st' := [.int (σ 98 (nI 3).toNatClampNeg), .int xk]) (σ' := σ) rfl (vp_in_nI (by omega) (by omega)) ?_
                  rw [show (σ 98 (nI 3).toNatClampNeg) = nI (n 3) from (by rw [nI_clamp (by omega), hns.1])]
                  refine rw_icmp hX (tgt := 119) (cnd := .gt) (off := 41) (by decide +kernel) (by decide) (fun h78 => ?_) (fun h78 => ?_)
                  · replace h78 : (xk > nI (n 3)) := h78
                    have hcp : pz (cpOK xi xj xk (n 3) (n 0)) = false := pz_f fun ⟨a9, b9, k9, e1, e2, e3, g1, g2⟩ => by
                      rw [e3] at h78; exact absurd h78 (Int32.not_lt.mpr (nI_le (show k9 ≤ n 3 by omega) (by have := hns.2; omega)))
                    refine rw_go hX [(119, .bipush (-12))] (by decide +kernel) (Ps := []) (pc' := 121) (lv' := [(0, .ref 66), (1, .int (nI 3)), (2, .int xi), (3, .int (nI 0)), (4, .int xj), (5, .int xk)]) (st' := [.int (-(nI 12))]) (σ' := σ) rfl True.intro ?_
                    exact rw_iret hX (by decide +kernel) (⟨by simp only [aCopy, eq_true hk4, eq_true hu4, hcs, hct, eq_true h4, eq_true h11, eq_false h23, eq_false hso1, eq_true h32, eq_false hso2, eq_true h50, eq_false h58, eq_false h62, eq_false h67, eq_true h78, hcp, if_true, if_false, Bool.false_eq_true, and_self, and_true, true_and, and_false, false_and, oel_n, oel_s, decide_true, decide_false], by simp only [sCopyM, eq_true hk4, eq_true hu4, hcs, hct, eq_true h4, eq_true h11, eq_false h23, eq_false hso1, eq_true h32, eq_false hso2, eq_true h50, eq_false h58, eq_false h62, eq_false h67, eq_true h78, hcp, if_true, if_false, Bool.false_eq_true, and_self, and_true, true_and, and_false, false_and, oel_n, oel_s, decide_true, decide_false]⟩)
                  · replace h78 : ¬ (xk > nI (n 3)) := h78
                    have hn40 := hns.2
                    have hn41 := hnu.2
                    obtain ⟨c, hc, rfl⟩ := rng (m := n 3) (by omega) ⟨Int32.not_lt.mp h58, Int32.not_lt.mp h78⟩
                    have hcc : (nI c).toNatClampNeg = c := nI_clamp (by omega)
                    refine rw_go hX [(81, .iload 5), (83, .aload_n 0), (84, .getfield 94), (87, .iload_n 3), (88, .iaload)] (by decide +kernel) (Ps := [vp_in (nI 0) 4]) (pc' := 89) (lv' := [(0, .ref 66), (1, .int (nI 3)), (2, .int xi), (3, .int (nI 0)), (4, .int xj), (5, .int (nI c))]) (st' := [.int (σ 98 (nI 0).toNatClampNeg), .int (nI c)]) (σ' := σ) rfl (vp_in_nI (by omega) (by omega)) ?_
                    rw [show (σ 98 (nI 0).toNatClampNeg) = nI (n 0) from (by rw [nI_clamp (by omega), hnu.1])]
                    refine rw_icmp hX (tgt := 119) (cnd := .gt) (off := 30) (by decide +kernel) (by decide) (fun h89 => ?_) (fun h89 => ?_)
                    · replace h89 := c2_gtT h89
                      have hcp : pz (cpOK xi xj (nI c) (n 3) (n 0)) = false := pz_f fun ⟨a9, b9, k9, e1, e2, e3, g1, g2⟩ => by
                        have e9 := (nI_eq (by omega) (by omega)).mp e3
                        omega
                      refine rw_go hX [(119, .bipush (-12))] (by decide +kernel) (Ps := []) (pc' := 121) (lv' := [(0, .ref 66), (1, .int (nI 3)), (2, .int xi), (3, .int (nI 0)), (4, .int xj), (5, .int (nI c))]) (st' := [.int (-(nI 12))]) (σ' := σ) rfl True.intro ?_
                      exact rw_iret hX (by decide +kernel) (⟨by simp only [aCopy, eq_true hk4, eq_true hu4, hcs, hct, eq_true h4, eq_true h11, eq_false h23, eq_false hso1, eq_true h32, eq_false hso2, eq_true h50, eq_false h58, eq_false h62, eq_false h67, eq_false h78, hcc, eq_true h89, hcp, if_true, if_false, Bool.false_eq_true, and_self, and_true, true_and, and_false, false_and, oel_n, oel_s, decide_true, decide_false], by simp only [sCopyM, eq_true hk4, eq_true hu4, hcs, hct, eq_true h4, eq_true h11, eq_false h23, eq_false hso1, eq_true h32, eq_false hso2, eq_true h50, eq_false h58, eq_false h62, eq_false h67, eq_false h78, hcc, eq_true h89, hcp, if_true, if_false, Bool.false_eq_true, and_self, and_true, true_and, and_false, false_and, oel_n, oel_s, decide_true, decide_false]⟩)
                    · replace h89 := c2_gtF h89
                      have hcu : c ≤ n 0 := by omega
                      refine rw_go hX [(92, .iload_n 2), (93, .aload_n 0), (94, .getfield 94), (97, .iload_n 1), (98, .iaload)] (by decide +kernel) (Ps := [vp_in (nI 3) 4]) (pc' := 99) (lv' := [(0, .ref 66), (1, .int (nI 3)), (2, .int xi), (3, .int (nI 0)), (4, .int xj), (5, .int (nI c))]) (st' := [.int (σ 98 (nI 3).toNatClampNeg), .int xi]) (σ' := σ) rfl (vp_in_nI (by omega) (by omega)) ?_
                      rw [show (σ 98 (nI 3).toNatClampNeg) = nI (n 3) from (by rw [nI_clamp (by omega), hns.1])]
                      refine rw_go hX [(99, .iload 5), (101, .isub)] (by decide +kernel) (Ps := []) (pc' := 102) (lv' := [(0, .ref 66), (1, .int (nI 3)), (2, .int xi), (3, .int (nI 0)), (4, .int xj), (5, .int (nI c))]) (st' := [.int (nI (n 3) - nI c), .int xi]) (σ' := σ) rfl True.intro ?_
                      rw [show (nI (n 3) - nI c) = nI (n 3 - c) from pk_sub (by omega)]
                      refine rw_icmp hX (tgt := 119) (cnd := .gt) (off := 17) (by decide +kernel) (by decide) (fun h102 => ?_) (fun h102 => ?_)
                      · replace h102 : (xi > nI (n 3 - c)) := h102
                        have hcp : pz (cpOK xi xj (nI c) (n 3) (n 0)) = false := pz_f fun ⟨a9, b9, k9, e1, e2, e3, g1, g2⟩ => by
                          have e9 := (nI_eq (by omega) (by omega)).mp e3
                          rw [e1] at h102
                          exact absurd h102 (Int32.not_lt.mpr (nI_le (by omega) (by omega)))
                        refine rw_go hX [(119, .bipush (-12))] (by decide +kernel) (Ps := []) (pc' := 121) (lv' := [(0, .ref 66), (1, .int (nI 3)), (2, .int xi), (3, .int (nI 0)), (4, .int xj), (5, .int (nI c))]) (st' := [.int (-(nI 12))]) (σ' := σ) rfl True.intro ?_
                        exact rw_iret hX (by decide +kernel) (⟨by simp only [aCopy, eq_true hk4, eq_true hu4, hcs, hct, eq_true h4, eq_true h11, eq_false h23, eq_false hso1, eq_true h32, eq_false hso2, eq_true h50, eq_false h58, eq_false h62, eq_false h67, eq_false h78, hcc, eq_true h89, eq_true h102, hcp, if_true, if_false, Bool.false_eq_true, and_self, and_true, true_and, and_false, false_and, oel_n, oel_s, decide_true, decide_false], by simp only [sCopyM, eq_true hk4, eq_true hu4, hcs, hct, eq_true h4, eq_true h11, eq_false h23, eq_false hso1, eq_true h32, eq_false hso2, eq_true h50, eq_false h58, eq_false h62, eq_false h67, eq_false h78, hcc, eq_true h89, eq_true h102, hcp, if_true, if_false, Bool.false_eq_true, and_self, and_true, true_and, and_false, false_and, oel_n, oel_s, decide_true, decide_false]⟩)
                      · replace h102 : ¬ (xi > nI (n 3 - c)) := h102
                        obtain ⟨a, ha, rfl⟩ := rng (m := n 3 - c) (by omega) ⟨Int32.not_lt.mp h62, Int32.not_lt.mp h102⟩
                        have hca : (nI a).toNatClampNeg = a := nI_clamp (by omega)
                        refine rw_go hX [(105, .iload 4), (107, .aload_n 0), (108, .getfield 94), (111, .iload_n 3), (112, .iaload)] (by decide +kernel) (Ps := [vp_in (nI 0) 4]) (pc' := 113) (lv' := [(0, .ref 66), (1, .int (nI 3)), (2, .int (nI a)), (3, .int (nI 0)), (4, .int xj), (5, .int (nI c))]) (st' := [.int (σ 98 (nI 0).toNatClampNeg), .int xj]) (σ' := σ) rfl (vp_in_nI (by omega) (by omega)) ?_
                        rw [show (σ 98 (nI 0).toNatClampNeg) = nI (n 0) from (by rw [nI_clamp (by omega), hnu.1])]
                        refine rw_go hX [(113, .iload 5), (115, .isub)] (by decide +kernel) (Ps := []) (pc' := 116) (lv' := [(0, .ref 66), (1, .int (nI 3)), (2, .int (nI a)), (3, .int (nI 0)), (4, .int xj), (5, .int (nI c))]) (st' := [.int (nI (n 0) - nI c), .int xj]) (σ' := σ) rfl True.intro ?_
                        rw [show (nI (n 0) - nI c) = nI (n 0 - c) from pk_sub (by omega)]
                        refine rw_icmp hX (tgt := 122) (cnd := .le) (off := 6) (by decide +kernel) (by decide) (fun h116 => ?_) (fun h116 => ?_)
                        · replace h116 : (xj ≤ nI (n 0 - c)) := h116
                          obtain ⟨b, hb, rfl⟩ := rng (m := n 0 - c) (by omega) ⟨Int32.not_lt.mp h67, h116⟩
                          have hcb : (nI b).toNatClampNeg = b := nI_clamp (by omega)
                          have hcp : pz (cpOK (nI a) (nI b) (nI c) (n 3) (n 0)) = true := pz_t ⟨a, b, c, rfl, rfl, rfl, by omega, by omega⟩
                          refine rw_go hX [(122, .iconst 0), (123, .istore 6)] (by decide +kernel) (Ps := []) (pc' := 125) (lv' := [(0, .ref 66), (1, .int (nI 3)), (2, .int (nI a)), (3, .int (nI 0)), (4, .int (nI b)), (5, .int (nI c)), (6, .int (nI 0))]) (st' := []) (σ' := σ) rfl True.intro ?_
                          have L125 : ∀ (μ125 : Nat) (i : Nat), μ125 = c - i → (i ≤ c) → RW E G 3 7 (QI E G (fun r σ' => r = aCopy n (σ 97) (nI 3) (nI a) (nI 0) (nI b) (nI c) ∧ σ' = sCopyM n σ (nI 3) (nI a) (nI 0) (nI b) (nI c))) 125 [(0, .ref 66), (1, .int (nI 3)), (2, .int (nI a)), (3, .int (nI 0)), (4, .int (nI b)), (5, .int (nI c)), (6, .int (nI i))] [] (sr σ 100 (va_cpy (σ 96) (σ 100) a 0 i)) := by
                            intro μ125
                            induction μ125 using Nat.strongRecOn with
                            | ind μ125 ih125 =>
                              intro i hμ125 hi
                              refine rw_go hX [(125, .iload 6), (127, .iload 5)] (by decide +kernel) (Ps := []) (pc' := 129) (lv' := [(0, .ref 66), (1, .int (nI 3)), (2, .int (nI a)), (3, .int (nI 0)), (4, .int (nI b)), (5, .int (nI c)), (6, .int (nI i))]) (st' := [.int (nI c), .int (nI i)]) (σ' := sr σ 100 (va_cpy (σ 96) (σ 100) a 0 i)) rfl True.intro ?_
                              refine rw_icmp hX (tgt := 156) (cnd := .ge) (off := 27) (by decide +kernel) (by decide) (fun h129 => ?_) (fun h129 => ?_)
                              · replace h129 := c2_geT h129
                                have ei : i = c := by omega
                                rw [ei]
                                refine rw_go hX [(156, .iconst 0), (157, .istore 6)] (by decide +kernel) (Ps := []) (pc' := 159) (lv' := [(0, .ref 66), (1, .int (nI 3)), (2, .int (nI a)), (3, .int (nI 0)), (4, .int (nI b)), (5, .int (nI c)), (6, .int (nI 0))]) (st' := []) (σ' := sr σ 100 (va_cpy (σ 96) (σ 100) a 0 c)) rfl True.intro ?_
                                have L159 : ∀ (μ159 : Nat) (i : Nat), μ159 = c - i → (i ≤ c) → RW E G 3 7 (QI E G (fun r σ' => r = aCopy n (σ 97) (nI 3) (nI a) (nI 0) (nI b) (nI c) ∧ σ' = sCopyM n σ (nI 3) (nI a) (nI 0) (nI b) (nI c))) 159 [(0, .ref 66), (1, .int (nI 3)), (2, .int (nI a)), (3, .int (nI 0)), (4, .int (nI b)), (5, .int (nI c)), (6, .int (nI i))] [] (sr (sr σ 100 (va_cpy (σ 96) (σ 100) a 0 c)) 93 (va_cpy (va_cpy (σ 96) (σ 100) a 0 c) (σ 93) 0 b i)) := by
                                  intro μ159
                                  induction μ159 using Nat.strongRecOn with
                                  | ind μ159 ih159 =>
                                    intro i hμ159 hi2
                                    refine rw_go hX [(159, .iload 6), (161, .iload 5)] (by decide +kernel) (Ps := []) (pc' := 163) (lv' := [(0, .ref 66), (1, .int (nI 3)), (2, .int (nI a)), (3, .int (nI 0)), (4, .int (nI b)), (5, .int (nI c)), (6, .int (nI i))]) (st' := [.int (nI c), .int (nI i)]) (σ' := sr (sr σ 100 (va_cpy (σ 96) (σ 100) a 0 c)) 93 (va_cpy (va_cpy (σ 96) (σ 100) a 0 c) (σ 93) 0 b i)) rfl True.intro ?_
                                    refine rw_icmp hX (tgt := 191) (cnd := .ge) (off := 28) (by decide +kernel) (by decide) (fun h163 => ?_) (fun h163 => ?_)
                                    · replace h163 := c2_geT h163
                                      have ei2 : i = c := by omega
                                      refine rw_go hX [(191, .iload 5)] (by decide +kernel) (Ps := []) (pc' := 193) (lv' := [(0, .ref 66), (1, .int (nI 3)), (2, .int (nI a)), (3, .int (nI 0)), (4, .int (nI b)), (5, .int (nI c)), (6, .int (nI i))]) (st' := [.int (nI c)]) (σ' := sr (sr σ 100 (va_cpy (σ 96) (σ 100) a 0 c)) 93 (va_cpy (va_cpy (σ 96) (σ 100) a 0 c) (σ 93) 0 b i)) rfl True.intro ?_
                                      exact rw_iret hX (by decide +kernel) (⟨by simp only [aCopy, eq_true hk4, eq_true hu4, hcs, hct, eq_true h4, eq_true h11, eq_false h23, eq_false hso1, eq_true h32, eq_false hso2, eq_true h50, eq_false h58, eq_false h62, eq_false h67, eq_false h78, hcc, eq_true h89, eq_false h102, hca, eq_true h116, hcb, hcp, eq_true h129, eq_true h163, if_true, if_false, Bool.false_eq_true, and_self, and_true, true_and, and_false, false_and, oel_n, oel_s, decide_true, decide_false], by simp only [sCopyM, eq_true hk4, eq_true hu4, hcs, hct, eq_true h4, eq_true h11, eq_false h23, eq_false hso1, eq_true h32, eq_false hso2, eq_true h50, eq_false h58, eq_false h62, eq_false h67, eq_false h78, hcc, eq_true h89, eq_false h102, hca, eq_true h116, hcb, hcp, eq_true h129, eq_true h163, if_true, if_false, Bool.false_eq_true, and_self, and_true, true_and, and_false, false_and, oel_n, oel_s, decide_true, decide_false]; rw [ei2]; rfl⟩)
                                    · replace h163 := c2_geF h163
                                      refine rw_go hX [(166, .aload_n 0), (167, .getfield 88), (170, .iload_n 3), (171, .aaload), (172, .iload 4), (174, .iload 6), (176, .iadd)] (by decide +kernel) (Ps := [vp_in (nI 0) 4]) (pc' := 177) (lv' := [(0, .ref 66), (1, .int (nI 3)), (2, .int (nI a)), (3, .int (nI 0)), (4, .int (nI b)), (5, .int (nI c)), (6, .int (nI i))]) (st' := [.int (nI b + nI i), .ref 93]) (σ' := sr (sr σ 100 (va_cpy (σ 96) (σ 100) a 0 c)) 93 (va_cpy (va_cpy (σ 96) (σ 100) a 0 c) (σ 93) 0 b i)) rfl (vp_in_nI (by omega) (by omega)) ?_
                                      rw [show (nI b + nI i) = nI (b + i) from nI_add _ _]
                                      refine rw_go hX [(177, .aload_n 0), (178, .getfield 100), (181, .iload 6), (183, .iaload)] (by decide +kernel) (Ps := [vp_in (nI i) 40]) (pc' := 184) (lv' := [(0, .ref 66), (1, .int (nI 3)), (2, .int (nI a)), (3, .int (nI 0)), (4, .int (nI b)), (5, .int (nI c)), (6, .int (nI i))]) (st' := [.int ((sr (sr σ 100 (va_cpy (σ 96) (σ 100) a 0 c)) 93 (va_cpy (va_cpy (σ 96) (σ 100) a 0 c) (σ 93) 0 b i)) 100 (nI i).toNatClampNeg), .int (nI (b + i)), .ref 93]) (σ' := sr (sr σ 100 (va_cpy (σ 96) (σ 100) a 0 c)) 93 (va_cpy (va_cpy (σ 96) (σ 100) a 0 c) (σ 93) 0 b i)) rfl (vp_in_nI (by omega) (by omega)) ?_
                                      rw [show ((sr (sr σ 100 (va_cpy (σ 96) (σ 100) a 0 c)) 93 (va_cpy (va_cpy (σ 96) (σ 100) a 0 c) (σ 93) 0 b i)) 100 (nI i).toNatClampNeg) = (va_cpy (σ 96) (σ 100) a 0 c) i from (by rw [nI_clamp (by omega), sr_n _ _ (by decide), sr_s])]
                                      refine rw_go hX [(184, .iastore)] (by decide +kernel) (Ps := [vp_in (nI (b + i)) 40]) (pc' := 185) (lv' := [(0, .ref 66), (1, .int (nI 3)), (2, .int (nI a)), (3, .int (nI 0)), (4, .int (nI b)), (5, .int (nI c)), (6, .int (nI i))]) (st' := []) (σ' := sw (sr (sr σ 100 (va_cpy (σ 96) (σ 100) a 0 c)) 93 (va_cpy (va_cpy (σ 96) (σ 100) a 0 c) (σ 93) 0 b i)) 93 (nI (b + i)).toNatClampNeg ((va_cpy (σ 96) (σ 100) a 0 c) i)) rfl (vp_in_nI (by omega) (by omega)) ?_
                                      rw [show (sw (sr (sr σ 100 (va_cpy (σ 96) (σ 100) a 0 c)) 93 (va_cpy (va_cpy (σ 96) (σ 100) a 0 c) (σ 93) 0 b i)) 93 (nI (b + i)).toNatClampNeg ((va_cpy (σ 96) (σ 100) a 0 c) i)) = sw (sr (sr σ 100 (va_cpy (σ 96) (σ 100) a 0 c)) 93 (va_cpy (va_cpy (σ 96) (σ 100) a 0 c) (σ 93) 0 b i)) 93 (b + i) ((va_cpy (σ 96) (σ 100) a 0 c) i) from (by rw [nI_clamp (by omega)])]
                                      refine rw_go hX [(185, .iinc 6 1)] (by decide +kernel) (Ps := []) (pc' := 188) (lv' := [(0, .ref 66), (1, .int (nI 3)), (2, .int (nI a)), (3, .int (nI 0)), (4, .int (nI b)), (5, .int (nI c)), (6, .int (nI i + nI 1))]) (st' := []) (σ' := sw (sr (sr σ 100 (va_cpy (σ 96) (σ 100) a 0 c)) 93 (va_cpy (va_cpy (σ 96) (σ 100) a 0 c) (σ 93) 0 b i)) 93 (b + i) ((va_cpy (σ 96) (σ 100) a 0 c) i)) rfl True.intro ?_
                                      rw [show (nI i + nI 1) = nI (i + 1) from nI_add _ _]
                                      refine rw_go hX [(188, .goto (-29))] (by decide +kernel) (Ps := []) (pc' := 159) (lv' := [(0, .ref 66), (1, .int (nI 3)), (2, .int (nI a)), (3, .int (nI 0)), (4, .int (nI b)), (5, .int (nI c)), (6, .int (nI (i + 1)))]) (st' := []) (σ' := sw (sr (sr σ 100 (va_cpy (σ 96) (σ 100) a 0 c)) 93 (va_cpy (va_cpy (σ 96) (σ 100) a 0 c) (σ 93) 0 b i)) 93 (b + i) ((va_cpy (σ 96) (σ 100) a 0 c) i)) rfl True.intro ?_
                                      refine rw_lsub (ks := [0, 1, 2, 3, 4, 5, 6]) (lv' := [(0, .ref 66), (1, .int (nI 3)), (2, .int (nI a)), (3, .int (nI 0)), (4, .int (nI b)), (5, .int (nI c)), (6, .int (nI (i + 1)))]) rfl ?_
                                      have q := ih159 (c - (i + 1)) (by omega) (i + 1) rfl (by omega)
                                      rw [← cpy_1, Nat.zero_add] at q
                                      rw [sw_sr]
                                      exact q
                                refine rw_lsub (ks := [0, 1, 2, 3, 4, 5, 6]) (lv' := [(0, .ref 66), (1, .int (nI 3)), (2, .int (nI a)), (3, .int (nI 0)), (4, .int (nI b)), (5, .int (nI c)), (6, .int (nI 0))]) rfl ?_
                                have q := L159 c 0 rfl (by omega)
                                rw [cpy_0, show sr (sr σ 100 (va_cpy (σ 96) (σ 100) a 0 c)) 93 (σ 93) = sr σ 100 (va_cpy (σ 96) (σ 100) a 0 c) from by
                                  funext q
                                  by_cases z : q = 93
                                  · subst z; rw [sr_s, sr_n _ _ (by decide)]
                                  · rw [sr_n _ _ z]] at q
                                exact q
                              · replace h129 := c2_geF h129
                                refine rw_go hX [(132, .aload_n 0), (133, .getfield 100), (136, .iload 6), (138, .aload_n 0), (139, .getfield 88), (142, .iload_n 1), (143, .aaload), (144, .iload_n 2), (145, .iload 6), (147, .iadd)] (by decide +kernel) (Ps := [vp_in (nI 3) 4]) (pc' := 148) (lv' := [(0, .ref 66), (1, .int (nI 3)), (2, .int (nI a)), (3, .int (nI 0)), (4, .int (nI b)), (5, .int (nI c)), (6, .int (nI i))]) (st' := [.int (nI a + nI i), .ref 96, .int (nI i), .ref 100]) (σ' := sr σ 100 (va_cpy (σ 96) (σ 100) a 0 i)) rfl (vp_in_nI (by omega) (by omega)) ?_
                                rw [show (nI a + nI i) = nI (a + i) from nI_add _ _]
                                refine rw_go hX [(148, .iaload)] (by decide +kernel) (Ps := [vp_in (nI (a + i)) 40]) (pc' := 149) (lv' := [(0, .ref 66), (1, .int (nI 3)), (2, .int (nI a)), (3, .int (nI 0)), (4, .int (nI b)), (5, .int (nI c)), (6, .int (nI i))]) (st' := [.int ((sr σ 100 (va_cpy (σ 96) (σ 100) a 0 i)) 96 (nI (a + i)).toNatClampNeg), .int (nI i), .ref 100]) (σ' := sr σ 100 (va_cpy (σ 96) (σ 100) a 0 i)) rfl (vp_in_nI (by omega) (by omega)) ?_
                                rw [show ((sr σ 100 (va_cpy (σ 96) (σ 100) a 0 i)) 96 (nI (a + i)).toNatClampNeg) = σ 96 (a + i) from (by rw [nI_clamp (by omega), sr_n _ _ (by decide)])]
                                refine rw_go hX [(149, .iastore)] (by decide +kernel) (Ps := [vp_in (nI i) 40]) (pc' := 150) (lv' := [(0, .ref 66), (1, .int (nI 3)), (2, .int (nI a)), (3, .int (nI 0)), (4, .int (nI b)), (5, .int (nI c)), (6, .int (nI i))]) (st' := []) (σ' := sw (sr σ 100 (va_cpy (σ 96) (σ 100) a 0 i)) 100 (nI i).toNatClampNeg (σ 96 (a + i))) rfl (vp_in_nI (by omega) (by omega)) ?_
                                rw [show (sw (sr σ 100 (va_cpy (σ 96) (σ 100) a 0 i)) 100 (nI i).toNatClampNeg (σ 96 (a + i))) = sw (sr σ 100 (va_cpy (σ 96) (σ 100) a 0 i)) 100 i (σ 96 (a + i)) from (by rw [nI_clamp (by omega)])]
                                refine rw_go hX [(150, .iinc 6 1)] (by decide +kernel) (Ps := []) (pc' := 153) (lv' := [(0, .ref 66), (1, .int (nI 3)), (2, .int (nI a)), (3, .int (nI 0)), (4, .int (nI b)), (5, .int (nI c)), (6, .int (nI i + nI 1))]) (st' := []) (σ' := sw (sr σ 100 (va_cpy (σ 96) (σ 100) a 0 i)) 100 i (σ 96 (a + i))) rfl True.intro ?_
                                rw [show (nI i + nI 1) = nI (i + 1) from nI_add _ _]
                                refine rw_go hX [(153, .goto (-28))] (by decide +kernel) (Ps := []) (pc' := 125) (lv' := [(0, .ref 66), (1, .int (nI 3)), (2, .int (nI a)), (3, .int (nI 0)), (4, .int (nI b)), (5, .int (nI c)), (6, .int (nI (i + 1)))]) (st' := []) (σ' := sw (sr σ 100 (va_cpy (σ 96) (σ 100) a 0 i)) 100 i (σ 96 (a + i))) rfl True.intro ?_
                                refine rw_lsub (ks := [0, 1, 2, 3, 4, 5, 6]) (lv' := [(0, .ref 66), (1, .int (nI 3)), (2, .int (nI a)), (3, .int (nI 0)), (4, .int (nI b)), (5, .int (nI c)), (6, .int (nI (i + 1)))]) rfl ?_
                                have q := ih125 (c - (i + 1)) (by omega) (i + 1) rfl (by omega)
                                rw [← cpy_1, Nat.zero_add] at q
                                rw [sw_sr]
                                exact q
                          refine rw_lsub (ks := [0, 1, 2, 3, 4, 5, 6]) (lv' := [(0, .ref 66), (1, .int (nI 3)), (2, .int (nI a)), (3, .int (nI 0)), (4, .int (nI b)), (5, .int (nI c)), (6, .int (nI 0))]) rfl ?_
                          have q := L125 c 0 rfl (by omega)
                          rw [cpy_0, sr_id] at q
                          exact q
                        · replace h116 : ¬ (xj ≤ nI (n 0 - c)) := h116
                          have hcp : pz (cpOK (nI a) xj (nI c) (n 3) (n 0)) = false := pz_f fun ⟨a9, b9, k9, e1, e2, e3, g1, g2⟩ => by
                            have e9 := (nI_eq (by omega) (by omega)).mp e3
                            rw [e2] at h116
                            exact absurd (nI_le (by omega) (by omega)) h116
                          refine rw_go hX [(119, .bipush (-12))] (by decide +kernel) (Ps := []) (pc' := 121) (lv' := [(0, .ref 66), (1, .int (nI 3)), (2, .int (nI a)), (3, .int (nI 0)), (4, .int xj), (5, .int (nI c))]) (st' := [.int (-(nI 12))]) (σ' := σ) rfl True.intro ?_
                          exact rw_iret hX (by decide +kernel) (⟨by simp only [aCopy, eq_true hk4, eq_true hu4, hcs, hct, eq_true h4, eq_true h11, eq_false h23, eq_false hso1, eq_true h32, eq_false hso2, eq_true h50, eq_false h58, eq_false h62, eq_false h67, eq_false h78, hcc, eq_true h89, eq_false h102, hca, eq_false h116, hcp, if_true, if_false, Bool.false_eq_true, and_self, and_true, true_and, and_false, false_and, oel_n, oel_s, decide_true, decide_false], by simp only [sCopyM, eq_true hk4, eq_true hu4, hcs, hct, eq_true h4, eq_true h11, eq_false h23, eq_false hso1, eq_true h32, eq_false hso2, eq_true h50, eq_false h58, eq_false h62, eq_false h67, eq_false h78, hcc, eq_true h89, eq_false h102, hca, eq_false h116, hcp, if_true, if_false, Bool.false_eq_true, and_self, and_true, true_and, and_false, false_and, oel_n, oel_s, decide_true, decide_false]⟩)
          · replace h50 : ¬ (σ 97 3 = σ 97 0) := h50
            refine rw_go hX [(53, .bipush (-13))] (by decide +kernel) (Ps := []) (pc' := 55) (lv' := [(0, .ref 66), (1, .int (nI 3)), (2, .int xi), (3, .int (nI 0)), (4, .int xj), (5, .int xk)]) (st' := [.int (-(nI 13))]) (σ' := σ) rfl True.intro ?_
            exact rw_iret hX (by decide +kernel) (⟨by simp only [aCopy, eq_true hk4, eq_true hu4, hcs, hct, eq_true h4, eq_true h11, eq_false h23, eq_false hso1, eq_true h32, eq_false hso2, eq_false h50, if_true, if_false, Bool.false_eq_true, and_self, and_true, true_and, and_false, false_and, oel_n, oel_s, decide_true, decide_false], by simp only [sCopyM, eq_true hk4, eq_true hu4, hcs, hct, eq_true h4, eq_true h11, eq_false h23, eq_false hso1, eq_true h32, eq_false hso2, eq_false h50, if_true, if_false, Bool.false_eq_true, and_self, and_true, true_and, and_false, false_and, oel_n, oel_s, decide_true, decide_false]⟩)
        · replace h32 : ¬ (σ 97 0 ≥ 0) := h32
          have hso2 : σ 97 0 = -(nI 1) := (so_m hou).mp (Int32.not_le.mp h32)
          refine rw_go hX [(35, .bipush (-11))] (by decide +kernel) (Ps := []) (pc' := 37) (lv' := [(0, .ref 66), (1, .int (nI 3)), (2, .int xi), (3, .int (nI 0)), (4, .int xj), (5, .int xk)]) (st' := [.int (-(nI 11))]) (σ' := σ) rfl True.intro ?_
          exact rw_iret hX (by decide +kernel) (⟨by simp only [aCopy, eq_true hk4, eq_true hu4, hcs, hct, eq_true h4, eq_true h11, eq_false h23, eq_false hso1, eq_false h32, eq_true hso2, if_true, if_false, Bool.false_eq_true, and_self, and_true, true_and, and_false, false_and, oel_n, oel_s, decide_true, decide_false], by simp only [sCopyM, eq_true hk4, eq_true hu4, hcs, hct, eq_true h4, eq_true h11, eq_false h23, eq_false hso1, eq_false h32, eq_true hso2, if_true, if_false, Bool.false_eq_true, and_self, and_true, true_and, and_false, false_and, oel_n, oel_s, decide_true, decide_false]⟩)
    · exact absurd (by simp only [cz, cc2]; decide +kernel) h11
set_option maxRecDepth 20000 in
set_option maxHeartbeats 800000 in
theorem g_copy_3_1 (l : Launch) (G : Gl) (σ : Mm) (n : Nat → Nat) (xi xj xk : Int32) (hsh : ∀ s, s < 4 → σ 98 s = nI (n s) ∧ n s ≤ 40) (hso : ∀ s, s < 4 → σ 97 s = -(nI 1) ∨ σ 97 s = nI 0 ∨ σ 97 s = nI 1) : AMi l G 3 mX10_copy [.ref 66, .int (nI 3), .int xi, .int (nI 1), .int xj, .int xk] σ (fun r σ' => r = aCopy n (σ 97) (nI 3) xi (nI 1) xj xk ∧ σ' = sCopyM n σ (nI 3) xi (nI 1) xj xk) := by
  refine rw_inI 10 (by decide +kernel) rfl rfl ?_
  intro E hE hX
  subst hE
  have hk4 := film_r 3 (by omega)
  have hu4 := film_r 1 (by omega)
  have hcs : (nI 3).toNatClampNeg = 3 := nI_clamp (by omega)
  have hct : (nI 1).toNatClampNeg = 1 := nI_clamp (by omega)
  have hns := hsh 3 (by omega)
  have hos := hso 3 (by omega)
  have hnu := hsh 1 (by omega)
  have hou := hso 1 (by omega)
  refine rw_go hX [(0, .iload_n 1)] (by decide +kernel) (Ps := []) (pc' := 1) (lv' := [(0, .ref 66), (1, .int (nI 3)), (2, .int xi), (3, .int (nI 1)), (4, .int xj), (5, .int xk)]) (st' := [.int (nI 3)]) (σ' := σ) rfl True.intro ?_
  refine rw_callSi hX (as := [.int (nI 3)]) (rest := []) (m_isSheet _ _ _ (nI 3)) (by decide +kernel) msX10_isSheet (Or.inl lk10_298) rfl (by decide) (Nat.le_of_ble_eq_true rfl) rfl ?_
  intro r1 σ1 hr
  rw [hr.1, show r1 = nI 1 from hr.2.trans (by decide +kernel)]
  clear hr σ1 r1
  refine rw_if hX (tgt := 14) (cnd := .eq) (off := 10) (by decide +kernel) (by decide) (fun h4 => ?_) (fun h4 => ?_)
  · exact absurd h4 (by simp only [cz, cc2]; decide +kernel)
  · skip
    refine rw_go hX [(7, .iload_n 3)] (by decide +kernel) (Ps := []) (pc' := 8) (lv' := [(0, .ref 66), (1, .int (nI 3)), (2, .int xi), (3, .int (nI 1)), (4, .int xj), (5, .int xk)]) (st' := [.int (nI 1)]) (σ' := σ) rfl True.intro ?_
    refine rw_callSi hX (as := [.int (nI 1)]) (rest := []) (m_isSheet _ _ _ (nI 1)) (by decide +kernel) msX10_isSheet (Or.inl lk10_298) rfl (by decide) (Nat.le_of_ble_eq_true rfl) rfl ?_
    intro r1 σ1 hr
    rw [hr.1, show r1 = nI 1 from hr.2.trans (by decide +kernel)]
    clear hr σ1 r1
    refine rw_if hX (tgt := 17) (cnd := .ne) (off := 6) (by decide +kernel) (by decide) (fun h11 => ?_) (fun h11 => ?_)
    · skip
      refine rw_go hX [(17, .aload_n 0), (18, .getfield 91), (21, .iload_n 1), (22, .iaload)] (by decide +kernel) (Ps := [vp_in (nI 3) 4]) (pc' := 23) (lv' := [(0, .ref 66), (1, .int (nI 3)), (2, .int xi), (3, .int (nI 1)), (4, .int xj), (5, .int xk)]) (st' := [.int (σ 97 (nI 3).toNatClampNeg)]) (σ' := σ) rfl (vp_in_nI (by omega) (by omega)) ?_
      rw [show (σ 97 (nI 3).toNatClampNeg) = σ 97 3 from (by rw [nI_clamp (by omega)])]
      refine rw_if hX (tgt := 35) (cnd := .lt) (off := 12) (by decide +kernel) (by decide) (fun h23 => ?_) (fun h23 => ?_)
      · replace h23 : (σ 97 3 < 0) := h23
        have hso1 : σ 97 3 = -(nI 1) := (so_m hos).mp h23
        refine rw_go hX [(35, .bipush (-11))] (by decide +kernel) (Ps := []) (pc' := 37) (lv' := [(0, .ref 66), (1, .int (nI 3)), (2, .int xi), (3, .int (nI 1)), (4, .int xj), (5, .int xk)]) (st' := [.int (-(nI 11))]) (σ' := σ) rfl True.intro ?_
        exact rw_iret hX (by decide +kernel) (⟨by simp only [aCopy, eq_true hk4, eq_true hu4, hcs, hct, eq_true h4, eq_true h11, eq_true h23, eq_true hso1, if_true, if_false, Bool.false_eq_true, and_self, and_true, true_and, and_false, false_and, oel_n, oel_s, decide_true, decide_false], by simp only [sCopyM, eq_true hk4, eq_true hu4, hcs, hct, eq_true h4, eq_true h11, eq_true h23, eq_true hso1, if_true, if_false, Bool.false_eq_true, and_self, and_true, true_and, and_false, false_and, oel_n, oel_s, decide_true, decide_false]⟩)
      · replace h23 : ¬ (σ 97 3 < 0) := h23
        have hso1 : ¬ σ 97 3 = -(nI 1) := fun z => h23 ((so_m hos).mpr z)
        refine rw_go hX [(26, .aload_n 0), (27, .getfield 91), (30, .iload_n 3), (31, .iaload)] (by decide +kernel) (Ps := [vp_in (nI 1) 4]) (pc' := 32) (lv' := [(0, .ref 66), (1, .int (nI 3)), (2, .int xi), (3, .int (nI 1)), (4, .int xj), (5, .int xk)]) (st' := [.int (σ 97 (nI 1).toNatClampNeg)]) (σ' := σ) rfl (vp_in_nI (by omega) (by omega)) ?_
        rw [show (σ 97 (nI 1).toNatClampNeg) = σ 97 1 from (by rw [nI_clamp (by omega)])]
        refine rw_if hX (tgt := 38) (cnd := .ge) (off := 6) (by decide +kernel) (by decide) (fun h32 => ?_) (fun h32 => ?_)
        · replace h32 : (σ 97 1 ≥ 0) := h32
          have hso2 : ¬ σ 97 1 = -(nI 1) := fun z => absurd ((so_m hou).mpr z) (Int32.not_lt.mpr h32)
          refine rw_go hX [(38, .aload_n 0), (39, .getfield 91), (42, .iload_n 1), (43, .iaload)] (by decide +kernel) (Ps := [vp_in (nI 3) 4]) (pc' := 44) (lv' := [(0, .ref 66), (1, .int (nI 3)), (2, .int xi), (3, .int (nI 1)), (4, .int xj), (5, .int xk)]) (st' := [.int (σ 97 (nI 3).toNatClampNeg)]) (σ' := σ) rfl (vp_in_nI (by omega) (by omega)) ?_
          rw [show (σ 97 (nI 3).toNatClampNeg) = σ 97 3 from (by rw [nI_clamp (by omega)])]
          refine rw_go hX [(44, .aload_n 0), (45, .getfield 91), (48, .iload_n 3), (49, .iaload)] (by decide +kernel) (Ps := [vp_in (nI 1) 4]) (pc' := 50) (lv' := [(0, .ref 66), (1, .int (nI 3)), (2, .int xi), (3, .int (nI 1)), (4, .int xj), (5, .int xk)]) (st' := [.int (σ 97 (nI 1).toNatClampNeg), .int (σ 97 3)]) (σ' := σ) rfl (vp_in_nI (by omega) (by omega)) ?_
          rw [show (σ 97 (nI 1).toNatClampNeg) = σ 97 1 from (by rw [nI_clamp (by omega)])]
          refine rw_icmp hX (tgt := 56) (cnd := .eq) (off := 6) (by decide +kernel) (by decide) (fun h50 => ?_) (fun h50 => ?_)
          · replace h50 : (σ 97 3 = σ 97 1) := h50
            refine rw_go hX [(56, .iload 5)] (by decide +kernel) (Ps := []) (pc' := 58) (lv' := [(0, .ref 66), (1, .int (nI 3)), (2, .int xi), (3, .int (nI 1)), (4, .int xj), (5, .int xk)]) (st' := [.int xk]) (σ' := σ) rfl True.intro ?_
            refine rw_if hX (tgt := 119) (cnd := .lt) (off := 61) (by decide +kernel) (by decide) (fun h58 => ?_) (fun h58 => ?_)
            · replace h58 : (xk < 0) := h58
              have hcp : pz (cpOK xi xj xk (n 3) (n 1)) = false := pz_f fun ⟨a9, b9, k9, e1, e2, e3, g1, g2⟩ => by
                rw [e3] at h58; exact absurd h58 (nI_pos (by have := hns.2; omega))
              refine rw_go hX [(119, .bipush (-12))] (by decide +kernel) (Ps := []) (pc' := 121) (lv' := [(0, .ref 66), (1, .int (nI 3)), (2, .int xi), (3, .int (nI 1)), (4, .int xj), (5, .int xk)]) (st' := [.int (-(nI 12))]) (σ' := σ) rfl True.intro ?_
              exact rw_iret hX (by decide +kernel) (⟨by simp only [aCopy, eq_true hk4, eq_true hu4, hcs, hct, eq_true h4, eq_true h11, eq_false h23, eq_false hso1, eq_true h32, eq_false hso2, eq_true h50, eq_true h58, hcp, if_true, if_false, Bool.false_eq_true, and_self, and_true, true_and, and_false, false_and, oel_n, oel_s, decide_true, decide_false], by simp only [sCopyM, eq_true hk4, eq_true hu4, hcs, hct, eq_true h4, eq_true h11, eq_false h23, eq_false hso1, eq_true h32, eq_false hso2, eq_true h50, eq_true h58, hcp, if_true, if_false, Bool.false_eq_true, and_self, and_true, true_and, and_false, false_and, oel_n, oel_s, decide_true, decide_false]⟩)
            · replace h58 : ¬ (xk < 0) := h58
              refine rw_go hX [(61, .iload_n 2)] (by decide +kernel) (Ps := []) (pc' := 62) (lv' := [(0, .ref 66), (1, .int (nI 3)), (2, .int xi), (3, .int (nI 1)), (4, .int xj), (5, .int xk)]) (st' := [.int xi]) (σ' := σ) rfl True.intro ?_
              refine rw_if hX (tgt := 119) (cnd := .lt) (off := 57) (by decide +kernel) (by decide) (fun h62 => ?_) (fun h62 => ?_)
              · replace h62 : (xi < 0) := h62
                have hcp : pz (cpOK xi xj xk (n 3) (n 1)) = false := pz_f fun ⟨a9, b9, k9, e1, e2, e3, g1, g2⟩ => by
                  rw [e1] at h62; exact absurd h62 (nI_pos (by have := hns.2; omega))
                refine rw_go hX [(119, .bipush (-12))] (by decide +kernel) (Ps := []) (pc' := 121) (lv' := [(0, .ref 66), (1, .int (nI 3)), (2, .int xi), (3, .int (nI 1)), (4, .int xj), (5, .int xk)]) (st' := [.int (-(nI 12))]) (σ' := σ) rfl True.intro ?_
                exact rw_iret hX (by decide +kernel) (⟨by simp only [aCopy, eq_true hk4, eq_true hu4, hcs, hct, eq_true h4, eq_true h11, eq_false h23, eq_false hso1, eq_true h32, eq_false hso2, eq_true h50, eq_false h58, eq_true h62, hcp, if_true, if_false, Bool.false_eq_true, and_self, and_true, true_and, and_false, false_and, oel_n, oel_s, decide_true, decide_false], by simp only [sCopyM, eq_true hk4, eq_true hu4, hcs, hct, eq_true h4, eq_true h11, eq_false h23, eq_false hso1, eq_true h32, eq_false hso2, eq_true h50, eq_false h58, eq_true h62, hcp, if_true, if_false, Bool.false_eq_true, and_self, and_true, true_and, and_false, false_and, oel_n, oel_s, decide_true, decide_false]⟩)
              · replace h62 : ¬ (xi < 0) := h62
                refine rw_go hX [(65, .iload 4)] (by decide +kernel) (Ps := []) (pc' := 67) (lv' := [(0, .ref 66), (1, .int (nI 3)), (2, .int xi), (3, .int (nI 1)), (4, .int xj), (5, .int xk)]) (st' := [.int xj]) (σ' := σ) rfl True.intro ?_
                refine rw_if hX (tgt := 119) (cnd := .lt) (off := 52) (by decide +kernel) (by decide) (fun h67 => ?_) (fun h67 => ?_)
                · replace h67 : (xj < 0) := h67
                  have hcp : pz (cpOK xi xj xk (n 3) (n 1)) = false := pz_f fun ⟨a9, b9, k9, e1, e2, e3, g1, g2⟩ => by
                    rw [e2] at h67; exact absurd h67 (nI_pos (by have := hnu.2; omega))
                  refine rw_go hX [(119, .bipush (-12))] (by decide +kernel) (Ps := []) (pc' := 121) (lv' := [(0, .ref 66), (1, .int (nI 3)), (2, .int xi), (3, .int (nI 1)), (4, .int xj), (5, .int xk)]) (st' := [.int (-(nI 12))]) (σ' := σ) rfl True.intro ?_
                  exact rw_iret hX (by decide +kernel) (⟨by simp only [aCopy, eq_true hk4, eq_true hu4, hcs, hct, eq_true h4, eq_true h11, eq_false h23, eq_false hso1, eq_true h32, eq_false hso2, eq_true h50, eq_false h58, eq_false h62, eq_true h67, hcp, if_true, if_false, Bool.false_eq_true, and_self, and_true, true_and, and_false, false_and, oel_n, oel_s, decide_true, decide_false], by simp only [sCopyM, eq_true hk4, eq_true hu4, hcs, hct, eq_true h4, eq_true h11, eq_false h23, eq_false hso1, eq_true h32, eq_false hso2, eq_true h50, eq_false h58, eq_false h62, eq_true h67, hcp, if_true, if_false, Bool.false_eq_true, and_self, and_true, true_and, and_false, false_and, oel_n, oel_s, decide_true, decide_false]⟩)
                · replace h67 : ¬ (xj < 0) := h67
                  refine rw_go hX [(70, .iload 5), (72, .aload_n 0), (73, .getfield 94), (76, .iload_n 1), (77, .iaload)] (by decide +kernel) (Ps := [vp_in (nI 3) 4]) (pc' := 78) (lv' := [(0, .ref 66), (1, .int (nI 3)), (2, .int xi), (3, .int (nI 1)), (4, .int xj), (5, .int xk)]) (st' := [.int (σ 98 (nI 3).toNatClampNeg), .int xk]) (σ' := σ) rfl (vp_in_nI (by omega) (by omega)) ?_
                  rw [show (σ 98 (nI 3).toNatClampNeg) = nI (n 3) from (by rw [nI_clamp (by omega), hns.1])]
                  refine rw_icmp hX (tgt := 119) (cnd := .gt) (off := 41) (by decide +kernel) (by decide) (fun h78 => ?_) (fun h78 => ?_)
                  · replace h78 : (xk > nI (n 3)) := h78
                    have hcp : pz (cpOK xi xj xk (n 3) (n 1)) = false := pz_f fun ⟨a9, b9, k9, e1, e2, e3, g1, g2⟩ => by
                      rw [e3] at h78; exact absurd h78 (Int32.not_lt.mpr (nI_le (show k9 ≤ n 3 by omega) (by have := hns.2; omega)))
                    refine rw_go hX [(119, .bipush (-12))] (by decide +kernel) (Ps := []) (pc' := 121) (lv' := [(0, .ref 66), (1, .int (nI 3)), (2, .int xi), (3, .int (nI 1)), (4, .int xj), (5, .int xk)]) (st' := [.int (-(nI 12))]) (σ' := σ) rfl True.intro ?_
                    exact rw_iret hX (by decide +kernel) (⟨by simp only [aCopy, eq_true hk4, eq_true hu4, hcs, hct, eq_true h4, eq_true h11, eq_false h23, eq_false hso1, eq_true h32, eq_false hso2, eq_true h50, eq_false h58, eq_false h62, eq_false h67, eq_true h78, hcp, if_true, if_false, Bool.false_eq_true, and_self, and_true, true_and, and_false, false_and, oel_n, oel_s, decide_true, decide_false], by simp only [sCopyM, eq_true hk4, eq_true hu4, hcs, hct, eq_true h4, eq_true h11, eq_false h23, eq_false hso1, eq_true h32, eq_false hso2, eq_true h50, eq_false h58, eq_false h62, eq_false h67, eq_true h78, hcp, if_true, if_false, Bool.false_eq_true, and_self, and_true, true_and, and_false, false_and, oel_n, oel_s, decide_true, decide_false]⟩)
                  · replace h78 : ¬ (xk > nI (n 3)) := h78
                    have hn40 := hns.2
                    have hn41 := hnu.2
                    obtain ⟨c, hc, rfl⟩ := rng (m := n 3) (by omega) ⟨Int32.not_lt.mp h58, Int32.not_lt.mp h78⟩
                    have hcc : (nI c).toNatClampNeg = c := nI_clamp (by omega)
                    refine rw_go hX [(81, .iload 5), (83, .aload_n 0), (84, .getfield 94), (87, .iload_n 3), (88, .iaload)] (by decide +kernel) (Ps := [vp_in (nI 1) 4]) (pc' := 89) (lv' := [(0, .ref 66), (1, .int (nI 3)), (2, .int xi), (3, .int (nI 1)), (4, .int xj), (5, .int (nI c))]) (st' := [.int (σ 98 (nI 1).toNatClampNeg), .int (nI c)]) (σ' := σ) rfl (vp_in_nI (by omega) (by omega)) ?_
                    rw [show (σ 98 (nI 1).toNatClampNeg) = nI (n 1) from (by rw [nI_clamp (by omega), hnu.1])]
                    refine rw_icmp hX (tgt := 119) (cnd := .gt) (off := 30) (by decide +kernel) (by decide) (fun h89 => ?_) (fun h89 => ?_)
                    · replace h89 := c2_gtT h89
                      have hcp : pz (cpOK xi xj (nI c) (n 3) (n 1)) = false := pz_f fun ⟨a9, b9, k9, e1, e2, e3, g1, g2⟩ => by
                        have e9 := (nI_eq (by omega) (by omega)).mp e3
                        omega
                      refine rw_go hX [(119, .bipush (-12))] (by decide +kernel) (Ps := []) (pc' := 121) (lv' := [(0, .ref 66), (1, .int (nI 3)), (2, .int xi), (3, .int (nI 1)), (4, .int xj), (5, .int (nI c))]) (st' := [.int (-(nI 12))]) (σ' := σ) rfl True.intro ?_
                      exact rw_iret hX (by decide +kernel) (⟨by simp only [aCopy, eq_true hk4, eq_true hu4, hcs, hct, eq_true h4, eq_true h11, eq_false h23, eq_false hso1, eq_true h32, eq_false hso2, eq_true h50, eq_false h58, eq_false h62, eq_false h67, eq_false h78, hcc, eq_true h89, hcp, if_true, if_false, Bool.false_eq_true, and_self, and_true, true_and, and_false, false_and, oel_n, oel_s, decide_true, decide_false], by simp only [sCopyM, eq_true hk4, eq_true hu4, hcs, hct, eq_true h4, eq_true h11, eq_false h23, eq_false hso1, eq_true h32, eq_false hso2, eq_true h50, eq_false h58, eq_false h62, eq_false h67, eq_false h78, hcc, eq_true h89, hcp, if_true, if_false, Bool.false_eq_true, and_self, and_true, true_and, and_false, false_and, oel_n, oel_s, decide_true, decide_false]⟩)
                    · replace h89 := c2_gtF h89
                      have hcu : c ≤ n 1 := by omega
                      refine rw_go hX [(92, .iload_n 2), (93, .aload_n 0), (94, .getfield 94), (97, .iload_n 1), (98, .iaload)] (by decide +kernel) (Ps := [vp_in (nI 3) 4]) (pc' := 99) (lv' := [(0, .ref 66), (1, .int (nI 3)), (2, .int xi), (3, .int (nI 1)), (4, .int xj), (5, .int (nI c))]) (st' := [.int (σ 98 (nI 3).toNatClampNeg), .int xi]) (σ' := σ) rfl (vp_in_nI (by omega) (by omega)) ?_
                      rw [show (σ 98 (nI 3).toNatClampNeg) = nI (n 3) from (by rw [nI_clamp (by omega), hns.1])]
                      refine rw_go hX [(99, .iload 5), (101, .isub)] (by decide +kernel) (Ps := []) (pc' := 102) (lv' := [(0, .ref 66), (1, .int (nI 3)), (2, .int xi), (3, .int (nI 1)), (4, .int xj), (5, .int (nI c))]) (st' := [.int (nI (n 3) - nI c), .int xi]) (σ' := σ) rfl True.intro ?_
                      rw [show (nI (n 3) - nI c) = nI (n 3 - c) from pk_sub (by omega)]
                      refine rw_icmp hX (tgt := 119) (cnd := .gt) (off := 17) (by decide +kernel) (by decide) (fun h102 => ?_) (fun h102 => ?_)
                      · replace h102 : (xi > nI (n 3 - c)) := h102
                        have hcp : pz (cpOK xi xj (nI c) (n 3) (n 1)) = false := pz_f fun ⟨a9, b9, k9, e1, e2, e3, g1, g2⟩ => by
                          have e9 := (nI_eq (by omega) (by omega)).mp e3
                          rw [e1] at h102
                          exact absurd h102 (Int32.not_lt.mpr (nI_le (by omega) (by omega)))
                        refine rw_go hX [(119, .bipush (-12))] (by decide +kernel) (Ps := []) (pc' := 121) (lv' := [(0, .ref 66), (1, .int (nI 3)), (2, .int xi), (3, .int (nI 1)), (4, .int xj), (5, .int (nI c))]) (st' := [.int (-(nI 12))]) (σ' := σ) rfl True.intro ?_
                        exact rw_iret hX (by decide +kernel) (⟨by simp only [aCopy, eq_true hk4, eq_true hu4, hcs, hct, eq_true h4, eq_true h11, eq_false h23, eq_false hso1, eq_true h32, eq_false hso2, eq_true h50, eq_false h58, eq_false h62, eq_false h67, eq_false h78, hcc, eq_true h89, eq_true h102, hcp, if_true, if_false, Bool.false_eq_true, and_self, and_true, true_and, and_false, false_and, oel_n, oel_s, decide_true, decide_false], by simp only [sCopyM, eq_true hk4, eq_true hu4, hcs, hct, eq_true h4, eq_true h11, eq_false h23, eq_false hso1, eq_true h32, eq_false hso2, eq_true h50, eq_false h58, eq_false h62, eq_false h67, eq_false h78, hcc, eq_true h89, eq_true h102, hcp, if_true, if_false, Bool.false_eq_true, and_self, and_true, true_and, and_false, false_and, oel_n, oel_s, decide_true, decide_false]⟩)
                      · replace h102 : ¬ (xi > nI (n 3 - c)) := h102
                        obtain ⟨a, ha, rfl⟩ := rng (m := n 3 - c) (by omega) ⟨Int32.not_lt.mp h62, Int32.not_lt.mp h102⟩
                        have hca : (nI a).toNatClampNeg = a := nI_clamp (by omega)
                        refine rw_go hX [(105, .iload 4), (107, .aload_n 0), (108, .getfield 94), (111, .iload_n 3), (112, .iaload)] (by decide +kernel) (Ps := [vp_in (nI 1) 4]) (pc' := 113) (lv' := [(0, .ref 66), (1, .int (nI 3)), (2, .int (nI a)), (3, .int (nI 1)), (4, .int xj), (5, .int (nI c))]) (st' := [.int (σ 98 (nI 1).toNatClampNeg), .int xj]) (σ' := σ) rfl (vp_in_nI (by omega) (by omega)) ?_
                        rw [show (σ 98 (nI 1).toNatClampNeg) = nI (n 1) from (by rw [nI_clamp (by omega), hnu.1])]
                        refine rw_go hX [(113, .iload 5), (115, .isub)] (by decide +kernel) (Ps := []) (pc' := 116) (lv' := [(0, .ref 66), (1, .int (nI 3)), (2, .int (nI a)), (3, .int (nI 1)), (4, .int xj), (5, .int (nI c))]) (st' := [.int (nI (n 1) - nI c), .int xj]) (σ' := σ) rfl True.intro ?_
                        rw [show (nI (n 1) - nI c) = nI (n 1 - c) from pk_sub (by omega)]
                        refine rw_icmp hX (tgt := 122) (cnd := .le) (off := 6) (by decide +kernel) (by decide) (fun h116 => ?_) (fun h116 => ?_)
                        · replace h116 : (xj ≤ nI (n 1 - c)) := h116
                          obtain ⟨b, hb, rfl⟩ := rng (m := n 1 - c) (by omega) ⟨Int32.not_lt.mp h67, h116⟩
                          have hcb : (nI b).toNatClampNeg = b := nI_clamp (by omega)
                          have hcp : pz (cpOK (nI a) (nI b) (nI c) (n 3) (n 1)) = true := pz_t ⟨a, b, c, rfl, rfl, rfl, by omega, by omega⟩
                          refine rw_go hX [(122, .iconst 0), (123, .istore 6)] (by decide +kernel) (Ps := []) (pc' := 125) (lv' := [(0, .ref 66), (1, .int (nI 3)), (2, .int (nI a)), (3, .int (nI 1)), (4, .int (nI b)), (5, .int (nI c)), (6, .int (nI 0))]) (st' := []) (σ' := σ) rfl True.intro ?_
                          have L125 : ∀ (μ125 : Nat) (i : Nat), μ125 = c - i → (i ≤ c) → RW E G 3 7 (QI E G (fun r σ' => r = aCopy n (σ 97) (nI 3) (nI a) (nI 1) (nI b) (nI c) ∧ σ' = sCopyM n σ (nI 3) (nI a) (nI 1) (nI b) (nI c))) 125 [(0, .ref 66), (1, .int (nI 3)), (2, .int (nI a)), (3, .int (nI 1)), (4, .int (nI b)), (5, .int (nI c)), (6, .int (nI i))] [] (sr σ 100 (va_cpy (σ 96) (σ 100) a 0 i)) := by
                            intro μ125
                            induction μ125 using Nat.strongRecOn with
                            | ind μ125 ih125 =>
                              intro i hμ125 hi
                              refine rw_go hX [(125, .iload 6), (127, .iload 5)] (by decide +kernel) (Ps := []) (pc' := 129) (lv' := [(0, .ref 66), (1, .int (nI 3)), (2, .int (nI a)), (3, .int (nI 1)), (4, .int (nI b)), (5, .int (nI c)), (6, .int (nI i))]) (st' := [.int (nI c), .int (nI i)]) (σ' := sr σ 100 (va_cpy (σ 96) (σ 100) a 0 i)) rfl True.intro ?_
                              refine rw_icmp hX (tgt := 156) (cnd := .ge) (off := 27) (by decide +kernel) (by decide) (fun h129 => ?_) (fun h129 => ?_)
                              · replace h129 := c2_geT h129
                                have ei : i = c := by omega
                                rw [ei]
                                refine rw_go hX [(156, .iconst 0), (157, .istore 6)] (by decide +kernel) (Ps := []) (pc' := 159) (lv' := [(0, .ref 66), (1, .int (nI 3)), (2, .int (nI a)), (3, .int (nI 1)), (4, .int (nI b)), (5, .int (nI c)), (6, .int (nI 0))]) (st' := []) (σ' := sr σ 100 (va_cpy (σ 96) (σ 100) a 0 c)) rfl True.intro ?_
                                have L159 : ∀ (μ159 : Nat) (i : Nat), μ159 = c - i → (i ≤ c) → RW E G 3 7 (QI E G (fun r σ' => r = aCopy n (σ 97) (nI 3) (nI a) (nI 1) (nI b) (nI c) ∧ σ' = sCopyM n σ (nI 3) (nI a) (nI 1) (nI b) (nI c))) 159 [(0, .ref 66), (1, .int (nI 3)), (2, .int (nI a)), (3, .int (nI 1)), (4, .int (nI b)), (5, .int (nI c)), (6, .int (nI i))] [] (sr (sr σ 100 (va_cpy (σ 96) (σ 100) a 0 c)) 94 (va_cpy (va_cpy (σ 96) (σ 100) a 0 c) (σ 94) 0 b i)) := by
                                  intro μ159
                                  induction μ159 using Nat.strongRecOn with
                                  | ind μ159 ih159 =>
                                    intro i hμ159 hi2
                                    refine rw_go hX [(159, .iload 6), (161, .iload 5)] (by decide +kernel) (Ps := []) (pc' := 163) (lv' := [(0, .ref 66), (1, .int (nI 3)), (2, .int (nI a)), (3, .int (nI 1)), (4, .int (nI b)), (5, .int (nI c)), (6, .int (nI i))]) (st' := [.int (nI c), .int (nI i)]) (σ' := sr (sr σ 100 (va_cpy (σ 96) (σ 100) a 0 c)) 94 (va_cpy (va_cpy (σ 96) (σ 100) a 0 c) (σ 94) 0 b i)) rfl True.intro ?_
                                    refine rw_icmp hX (tgt := 191) (cnd := .ge) (off := 28) (by decide +kernel) (by decide) (fun h163 => ?_) (fun h163 => ?_)
                                    · replace h163 := c2_geT h163
                                      have ei2 : i = c := by omega
                                      refine rw_go hX [(191, .iload 5)] (by decide +kernel) (Ps := []) (pc' := 193) (lv' := [(0, .ref 66), (1, .int (nI 3)), (2, .int (nI a)), (3, .int (nI 1)), (4, .int (nI b)), (5, .int (nI c)), (6, .int (nI i))]) (st' := [.int (nI c)]) (σ' := sr (sr σ 100 (va_cpy (σ 96) (σ 100) a 0 c)) 94 (va_cpy (va_cpy (σ 96) (σ 100) a 0 c) (σ 94) 0 b i)) rfl True.intro ?_
                                      exact rw_iret hX (by decide +kernel) (⟨by simp only [aCopy, eq_true hk4, eq_true hu4, hcs, hct, eq_true h4, eq_true h11, eq_false h23, eq_false hso1, eq_true h32, eq_false hso2, eq_true h50, eq_false h58, eq_false h62, eq_false h67, eq_false h78, hcc, eq_true h89, eq_false h102, hca, eq_true h116, hcb, hcp, eq_true h129, eq_true h163, if_true, if_false, Bool.false_eq_true, and_self, and_true, true_and, and_false, false_and, oel_n, oel_s, decide_true, decide_false], by simp only [sCopyM, eq_true hk4, eq_true hu4, hcs, hct, eq_true h4, eq_true h11, eq_false h23, eq_false hso1, eq_true h32, eq_false hso2, eq_true h50, eq_false h58, eq_false h62, eq_false h67, eq_false h78, hcc, eq_true h89, eq_false h102, hca, eq_true h116, hcb, hcp, eq_true h129, eq_true h163, if_true, if_false, Bool.false_eq_true, and_self, and_true, true_and, and_false, false_and, oel_n, oel_s, decide_true, decide_false]; rw [ei2]; rfl⟩)
                                    · replace h163 := c2_geF h163
                                      refine rw_go hX [(166, .aload_n 0), (167, .getfield 88), (170, .iload_n 3), (171, .aaload), (172, .iload 4), (174, .iload 6), (176, .iadd)] (by decide +kernel) (Ps := [vp_in (nI 1) 4]) (pc' := 177) (lv' := [(0, .ref 66), (1, .int (nI 3)), (2, .int (nI a)), (3, .int (nI 1)), (4, .int (nI b)), (5, .int (nI c)), (6, .int (nI i))]) (st' := [.int (nI b + nI i), .ref 94]) (σ' := sr (sr σ 100 (va_cpy (σ 96) (σ 100) a 0 c)) 94 (va_cpy (va_cpy (σ 96) (σ 100) a 0 c) (σ 94) 0 b i)) rfl (vp_in_nI (by omega) (by omega)) ?_
                                      rw [show (nI b + nI i) = nI (b + i) from nI_add _ _]
                                      refine rw_go hX [(177, .aload_n 0), (178, .getfield 100), (181, .iload 6), (183, .iaload)] (by decide +kernel) (Ps := [vp_in (nI i) 40]) (pc' := 184) (lv' := [(0, .ref 66), (1, .int (nI 3)), (2, .int (nI a)), (3, .int (nI 1)), (4, .int (nI b)), (5, .int (nI c)), (6, .int (nI i))]) (st' := [.int ((sr (sr σ 100 (va_cpy (σ 96) (σ 100) a 0 c)) 94 (va_cpy (va_cpy (σ 96) (σ 100) a 0 c) (σ 94) 0 b i)) 100 (nI i).toNatClampNeg), .int (nI (b + i)), .ref 94]) (σ' := sr (sr σ 100 (va_cpy (σ 96) (σ 100) a 0 c)) 94 (va_cpy (va_cpy (σ 96) (σ 100) a 0 c) (σ 94) 0 b i)) rfl (vp_in_nI (by omega) (by omega)) ?_
                                      rw [show ((sr (sr σ 100 (va_cpy (σ 96) (σ 100) a 0 c)) 94 (va_cpy (va_cpy (σ 96) (σ 100) a 0 c) (σ 94) 0 b i)) 100 (nI i).toNatClampNeg) = (va_cpy (σ 96) (σ 100) a 0 c) i from (by rw [nI_clamp (by omega), sr_n _ _ (by decide), sr_s])]
                                      refine rw_go hX [(184, .iastore)] (by decide +kernel) (Ps := [vp_in (nI (b + i)) 40]) (pc' := 185) (lv' := [(0, .ref 66), (1, .int (nI 3)), (2, .int (nI a)), (3, .int (nI 1)), (4, .int (nI b)), (5, .int (nI c)), (6, .int (nI i))]) (st' := []) (σ' := sw (sr (sr σ 100 (va_cpy (σ 96) (σ 100) a 0 c)) 94 (va_cpy (va_cpy (σ 96) (σ 100) a 0 c) (σ 94) 0 b i)) 94 (nI (b + i)).toNatClampNeg ((va_cpy (σ 96) (σ 100) a 0 c) i)) rfl (vp_in_nI (by omega) (by omega)) ?_
                                      rw [show (sw (sr (sr σ 100 (va_cpy (σ 96) (σ 100) a 0 c)) 94 (va_cpy (va_cpy (σ 96) (σ 100) a 0 c) (σ 94) 0 b i)) 94 (nI (b + i)).toNatClampNeg ((va_cpy (σ 96) (σ 100) a 0 c) i)) = sw (sr (sr σ 100 (va_cpy (σ 96) (σ 100) a 0 c)) 94 (va_cpy (va_cpy (σ 96) (σ 100) a 0 c) (σ 94) 0 b i)) 94 (b + i) ((va_cpy (σ 96) (σ 100) a 0 c) i) from (by rw [nI_clamp (by omega)])]
                                      refine rw_go hX [(185, .iinc 6 1)] (by decide +kernel) (Ps := []) (pc' := 188) (lv' := [(0, .ref 66), (1, .int (nI 3)), (2, .int (nI a)), (3, .int (nI 1)), (4, .int (nI b)), (5, .int (nI c)), (6, .int (nI i + nI 1))]) (st' := []) (σ' := sw (sr (sr σ 100 (va_cpy (σ 96) (σ 100) a 0 c)) 94 (va_cpy (va_cpy (σ 96) (σ 100) a 0 c) (σ 94) 0 b i)) 94 (b + i) ((va_cpy (σ 96) (σ 100) a 0 c) i)) rfl True.intro ?_
                                      rw [show (nI i + nI 1) = nI (i + 1) from nI_add _ _]
                                      refine rw_go hX [(188, .goto (-29))] (by decide +kernel) (Ps := []) (pc' := 159) (lv' := [(0, .ref 66), (1, .int (nI 3)), (2, .int (nI a)), (3, .int (nI 1)), (4, .int (nI b)), (5, .int (nI c)), (6, .int (nI (i + 1)))]) (st' := []) (σ' := sw (sr (sr σ 100 (va_cpy (σ 96) (σ 100) a 0 c)) 94 (va_cpy (va_cpy (σ 96) (σ 100) a 0 c) (σ 94) 0 b i)) 94 (b + i) ((va_cpy (σ 96) (σ 100) a 0 c) i)) rfl True.intro ?_
                                      refine rw_lsub (ks := [0, 1, 2, 3, 4, 5, 6]) (lv' := [(0, .ref 66), (1, .int (nI 3)), (2, .int (nI a)), (3, .int (nI 1)), (4, .int (nI b)), (5, .int (nI c)), (6, .int (nI (i + 1)))]) rfl ?_
                                      have q := ih159 (c - (i + 1)) (by omega) (i + 1) rfl (by omega)
                                      rw [← cpy_1, Nat.zero_add] at q
                                      rw [sw_sr]
                                      exact q
                                refine rw_lsub (ks := [0, 1, 2, 3, 4, 5, 6]) (lv' := [(0, .ref 66), (1, .int (nI 3)), (2, .int (nI a)), (3, .int (nI 1)), (4, .int (nI b)), (5, .int (nI c)), (6, .int (nI 0))]) rfl ?_
                                have q := L159 c 0 rfl (by omega)
                                rw [cpy_0, show sr (sr σ 100 (va_cpy (σ 96) (σ 100) a 0 c)) 94 (σ 94) = sr σ 100 (va_cpy (σ 96) (σ 100) a 0 c) from by
                                  funext q
                                  by_cases z : q = 94
                                  · subst z; rw [sr_s, sr_n _ _ (by decide)]
                                  · rw [sr_n _ _ z]] at q
                                exact q
                              · replace h129 := c2_geF h129
                                refine rw_go hX [(132, .aload_n 0), (133, .getfield 100), (136, .iload 6), (138, .aload_n 0), (139, .getfield 88), (142, .iload_n 1), (143, .aaload), (144, .iload_n 2), (145, .iload 6), (147, .iadd)] (by decide +kernel) (Ps := [vp_in (nI 3) 4]) (pc' := 148) (lv' := [(0, .ref 66), (1, .int (nI 3)), (2, .int (nI a)), (3, .int (nI 1)), (4, .int (nI b)), (5, .int (nI c)), (6, .int (nI i))]) (st' := [.int (nI a + nI i), .ref 96, .int (nI i), .ref 100]) (σ' := sr σ 100 (va_cpy (σ 96) (σ 100) a 0 i)) rfl (vp_in_nI (by omega) (by omega)) ?_
                                rw [show (nI a + nI i) = nI (a + i) from nI_add _ _]
                                refine rw_go hX [(148, .iaload)] (by decide +kernel) (Ps := [vp_in (nI (a + i)) 40]) (pc' := 149) (lv' := [(0, .ref 66), (1, .int (nI 3)), (2, .int (nI a)), (3, .int (nI 1)), (4, .int (nI b)), (5, .int (nI c)), (6, .int (nI i))]) (st' := [.int ((sr σ 100 (va_cpy (σ 96) (σ 100) a 0 i)) 96 (nI (a + i)).toNatClampNeg), .int (nI i), .ref 100]) (σ' := sr σ 100 (va_cpy (σ 96) (σ 100) a 0 i)) rfl (vp_in_nI (by omega) (by omega)) ?_
                                rw [show ((sr σ 100 (va_cpy (σ 96) (σ 100) a 0 i)) 96 (nI (a + i)).toNatClampNeg) = σ 96 (a + i) from (by rw [nI_clamp (by omega), sr_n _ _ (by decide)])]
                                refine rw_go hX [(149, .iastore)] (by decide +kernel) (Ps := [vp_in (nI i) 40]) (pc' := 150) (lv' := [(0, .ref 66), (1, .int (nI 3)), (2, .int (nI a)), (3, .int (nI 1)), (4, .int (nI b)), (5, .int (nI c)), (6, .int (nI i))]) (st' := []) (σ' := sw (sr σ 100 (va_cpy (σ 96) (σ 100) a 0 i)) 100 (nI i).toNatClampNeg (σ 96 (a + i))) rfl (vp_in_nI (by omega) (by omega)) ?_
                                rw [show (sw (sr σ 100 (va_cpy (σ 96) (σ 100) a 0 i)) 100 (nI i).toNatClampNeg (σ 96 (a + i))) = sw (sr σ 100 (va_cpy (σ 96) (σ 100) a 0 i)) 100 i (σ 96 (a + i)) from (by rw [nI_clamp (by omega)])]
                                refine rw_go hX [(150, .iinc 6 1)] (by decide +kernel) (Ps := []) (pc' := 153) (lv' := [(0, .ref 66), (1, .int (nI 3)), (2, .int (nI a)), (3, .int (nI 1)), (4, .int (nI b)), (5, .int (nI c)), (6, .int (nI i + nI 1))]) (st' := []) (σ' := sw (sr σ 100 (va_cpy (σ 96) (σ 100) a 0 i)) 100 i (σ 96 (a + i))) rfl True.intro ?_
                                rw [show (nI i + nI 1) = nI (i + 1) from nI_add _ _]
                                refine rw_go hX [(153, .goto (-28))] (by decide +kernel) (Ps := []) (pc' := 125) (lv' := [(0, .ref 66), (1, .int (nI 3)), (2, .int (nI a)), (3, .int (nI 1)), (4, .int (nI b)), (5, .int (nI c)), (6, .int (nI (i + 1)))]) (st' := []) (σ' := sw (sr σ 100 (va_cpy (σ 96) (σ 100) a 0 i)) 100 i (σ 96 (a + i))) rfl True.intro ?_
                                refine rw_lsub (ks := [0, 1, 2, 3, 4, 5, 6]) (lv' := [(0, .ref 66), (1, .int (nI 3)), (2, .int (nI a)), (3, .int (nI 1)), (4, .int (nI b)), (5, .int (nI c)), (6, .int (nI (i + 1)))]) rfl ?_
                                have q := ih125 (c - (i + 1)) (by omega) (i + 1) rfl (by omega)
                                rw [← cpy_1, Nat.zero_add] at q
                                rw [sw_sr]
                                exact q
                          refine rw_lsub (ks := [0, 1, 2, 3, 4, 5, 6]) (lv' := [(0, .ref 66), (1, .int (nI 3)), (2, .int (nI a)), (3, .int (nI 1)), (4, .int (nI b)), (5, .int (nI c)), (6, .int (nI 0))]) rfl ?_
                          have q := L125 c 0 rfl (by omega)
                          rw [cpy_0, sr_id] at q
                          exact q
                        · replace h116 : ¬ (xj ≤ nI (n 1 - c)) := h116
                          have hcp : pz (cpOK (nI a) xj (nI c) (n 3) (n 1)) = false := pz_f fun ⟨a9, b9, k9, e1, e2, e3, g1, g2⟩ => by
                            have e9 := (nI_eq (by omega) (by omega)).mp e3
                            rw [e2] at h116
                            exact absurd (nI_le (by omega) (by omega)) h116
                          refine rw_go hX [(119, .bipush (-12))] (by decide +kernel) (Ps := []) (pc' := 121) (lv' := [(0, .ref 66), (1, .int (nI 3)), (2, .int (nI a)), (3, .int (nI 1)), (4, .int xj), (5, .int (nI c))]) (st' := [.int (-(nI 12))]) (σ' := σ) rfl True.intro ?_
                          exact rw_iret hX (by decide +kernel) (⟨by simp only [aCopy, eq_true hk4, eq_true hu4, hcs, hct, eq_true h4, eq_true h11, eq_false h23, eq_false hso1, eq_true h32, eq_false hso2, eq_true h50, eq_false h58, eq_false h62, eq_false h67, eq_false h78, hcc, eq_true h89, eq_false h102, hca, eq_false h116, hcp, if_true, if_false, Bool.false_eq_true, and_self, and_true, true_and, and_false, false_and, oel_n, oel_s, decide_true, decide_false], by simp only [sCopyM, eq_true hk4, eq_true hu4, hcs, hct, eq_true h4, eq_true h11, eq_false h23, eq_false hso1, eq_true h32, eq_false hso2, eq_true h50, eq_false h58, eq_false h62, eq_false h67, eq_false h78, hcc, eq_true h89, eq_false h102, hca, eq_false h116, hcp, if_true, if_false, Bool.false_eq_true, and_self, and_true, true_and, and_false, false_and, oel_n, oel_s, decide_true, decide_false]⟩)
          · replace h50 : ¬ (σ 97 3 = σ 97 1) := h50
            refine rw_go hX [(53, .bipush (-13))] (by decide +kernel) (Ps := []) (pc' := 55) (lv' := [(0, .ref 66), (1, .int (nI 3)), (2, .int xi), (3, .int (nI 1)), (4, .int xj), (5, .int xk)]) (st' := [.int (-(nI 13))]) (σ' := σ) rfl True.intro ?_
            exact rw_iret hX (by decide +kernel) (⟨by simp only [aCopy, eq_true hk4, eq_true hu4, hcs, hct, eq_true h4, eq_true h11, eq_false h23, eq_false hso1, eq_true h32, eq_false hso2, eq_false h50, if_true, if_false, Bool.false_eq_true, and_self, and_true, true_and, and_false, false_and, oel_n, oel_s, decide_true, decide_false], by simp only [sCopyM, eq_true hk4, eq_true hu4, hcs, hct, eq_true h4, eq_true h11, eq_false h23, eq_false hso1, eq_true h32, eq_false hso2, eq_false h50, if_true, if_false, Bool.false_eq_true, and_self, and_true, true_and, and_false, false_and, oel_n, oel_s, decide_true, decide_false]⟩)
        · replace h32 : ¬ (σ 97 1 ≥ 0) := h32
          have hso2 : σ 97 1 = -(nI 1) := (so_m hou).mp (Int32.not_le.mp h32)
          refine rw_go hX [(35, .bipush (-11))] (by decide +kernel) (Ps := []) (pc' := 37) (lv' := [(0, .ref 66), (1, .int (nI 3)), (2, .int xi), (3, .int (nI 1)), (4, .int xj), (5, .int xk)]) (st' := [.int (-(nI 11))]) (σ' := σ) rfl True.intro ?_
          exact rw_iret hX (by decide +kernel) (⟨by simp only [aCopy, eq_true hk4, eq_true hu4, hcs, hct, eq_true h4, eq_true h11, eq_false h23, eq_false hso1, eq_false h32, eq_true hso2, if_true, if_false, Bool.false_eq_true, and_self, and_true, true_and, and_false, false_and, oel_n, oel_s, decide_true, decide_false], by simp only [sCopyM, eq_true hk4, eq_true hu4, hcs, hct, eq_true h4, eq_true h11, eq_false h23, eq_false hso1, eq_false h32, eq_true hso2, if_true, if_false, Bool.false_eq_true, and_self, and_true, true_and, and_false, false_and, oel_n, oel_s, decide_true, decide_false]⟩)
    · exact absurd (by simp only [cz, cc2]; decide +kernel) h11
set_option maxRecDepth 20000 in
set_option maxHeartbeats 800000 in
theorem g_copy_3_2 (l : Launch) (G : Gl) (σ : Mm) (n : Nat → Nat) (xi xj xk : Int32) (hsh : ∀ s, s < 4 → σ 98 s = nI (n s) ∧ n s ≤ 40) (hso : ∀ s, s < 4 → σ 97 s = -(nI 1) ∨ σ 97 s = nI 0 ∨ σ 97 s = nI 1) : AMi l G 3 mX10_copy [.ref 66, .int (nI 3), .int xi, .int (nI 2), .int xj, .int xk] σ (fun r σ' => r = aCopy n (σ 97) (nI 3) xi (nI 2) xj xk ∧ σ' = sCopyM n σ (nI 3) xi (nI 2) xj xk) := by
  refine rw_inI 10 (by decide +kernel) rfl rfl ?_
  intro E hE hX
  subst hE
  have hk4 := film_r 3 (by omega)
  have hu4 := film_r 2 (by omega)
  have hcs : (nI 3).toNatClampNeg = 3 := nI_clamp (by omega)
  have hct : (nI 2).toNatClampNeg = 2 := nI_clamp (by omega)
  have hns := hsh 3 (by omega)
  have hos := hso 3 (by omega)
  have hnu := hsh 2 (by omega)
  have hou := hso 2 (by omega)
  refine rw_go hX [(0, .iload_n 1)] (by decide +kernel) (Ps := []) (pc' := 1) (lv' := [(0, .ref 66), (1, .int (nI 3)), (2, .int xi), (3, .int (nI 2)), (4, .int xj), (5, .int xk)]) (st' := [.int (nI 3)]) (σ' := σ) rfl True.intro ?_
  refine rw_callSi hX (as := [.int (nI 3)]) (rest := []) (m_isSheet _ _ _ (nI 3)) (by decide +kernel) msX10_isSheet (Or.inl lk10_298) rfl (by decide) (Nat.le_of_ble_eq_true rfl) rfl ?_
  intro r1 σ1 hr
  rw [hr.1, show r1 = nI 1 from hr.2.trans (by decide +kernel)]
  clear hr σ1 r1
  refine rw_if hX (tgt := 14) (cnd := .eq) (off := 10) (by decide +kernel) (by decide) (fun h4 => ?_) (fun h4 => ?_)
  · exact absurd h4 (by simp only [cz, cc2]; decide +kernel)
  · skip
    refine rw_go hX [(7, .iload_n 3)] (by decide +kernel) (Ps := []) (pc' := 8) (lv' := [(0, .ref 66), (1, .int (nI 3)), (2, .int xi), (3, .int (nI 2)), (4, .int xj), (5, .int xk)]) (st' := [.int (nI 2)]) (σ' := σ) rfl True.intro ?_
    refine rw_callSi hX (as := [.int (nI 2)]) (rest := []) (m_isSheet _ _ _ (nI 2)) (by decide +kernel) msX10_isSheet (Or.inl lk10_298) rfl (by decide) (Nat.le_of_ble_eq_true rfl) rfl ?_
    intro r1 σ1 hr
    rw [hr.1, show r1 = nI 1 from hr.2.trans (by decide +kernel)]
    clear hr σ1 r1
    refine rw_if hX (tgt := 17) (cnd := .ne) (off := 6) (by decide +kernel) (by decide) (fun h11 => ?_) (fun h11 => ?_)
    · skip
      refine rw_go hX [(17, .aload_n 0), (18, .getfield 91), (21, .iload_n 1), (22, .iaload)] (by decide +kernel) (Ps := [vp_in (nI 3) 4]) (pc' := 23) (lv' := [(0, .ref 66), (1, .int (nI 3)), (2, .int xi), (3, .int (nI 2)), (4, .int xj), (5, .int xk)]) (st' := [.int (σ 97 (nI 3).toNatClampNeg)]) (σ' := σ) rfl (vp_in_nI (by omega) (by omega)) ?_
      rw [show (σ 97 (nI 3).toNatClampNeg) = σ 97 3 from (by rw [nI_clamp (by omega)])]
      refine rw_if hX (tgt := 35) (cnd := .lt) (off := 12) (by decide +kernel) (by decide) (fun h23 => ?_) (fun h23 => ?_)
      · replace h23 : (σ 97 3 < 0) := h23
        have hso1 : σ 97 3 = -(nI 1) := (so_m hos).mp h23
        refine rw_go hX [(35, .bipush (-11))] (by decide +kernel) (Ps := []) (pc' := 37) (lv' := [(0, .ref 66), (1, .int (nI 3)), (2, .int xi), (3, .int (nI 2)), (4, .int xj), (5, .int xk)]) (st' := [.int (-(nI 11))]) (σ' := σ) rfl True.intro ?_
        exact rw_iret hX (by decide +kernel) (⟨by simp only [aCopy, eq_true hk4, eq_true hu4, hcs, hct, eq_true h4, eq_true h11, eq_true h23, eq_true hso1, if_true, if_false, Bool.false_eq_true, and_self, and_true, true_and, and_false, false_and, oel_n, oel_s, decide_true, decide_false], by simp only [sCopyM, eq_true hk4, eq_true hu4, hcs, hct, eq_true h4, eq_true h11, eq_true h23, eq_true hso1, if_true, if_false, Bool.false_eq_true, and_self, and_true, true_and, and_false, false_and, oel_n, oel_s, decide_true, decide_false]⟩)
      · replace h23 : ¬ (σ 97 3 < 0) := h23
        have hso1 : ¬ σ 97 3 = -(nI 1) := fun z => h23 ((so_m hos).mpr z)
        refine rw_go hX [(26, .aload_n 0), (27, .getfield 91), (30, .iload_n 3), (31, .iaload)] (by decide +kernel) (Ps := [vp_in (nI 2) 4]) (pc' := 32) (lv' := [(0, .ref 66), (1, .int (nI 3)), (2, .int xi), (3, .int (nI 2)), (4, .int xj), (5, .int xk)]) (st' := [.int (σ 97 (nI 2).toNatClampNeg)]) (σ' := σ) rfl (vp_in_nI (by omega) (by omega)) ?_
        rw [show (σ 97 (nI 2).toNatClampNeg) = σ 97 2 from (by rw [nI_clamp (by omega)])]
        refine rw_if hX (tgt := 38) (cnd := .ge) (off := 6) (by decide +kernel) (by decide) (fun h32 => ?_) (fun h32 => ?_)
        · replace h32 : (σ 97 2 ≥ 0) := h32
          have hso2 : ¬ σ 97 2 = -(nI 1) := fun z => absurd ((so_m hou).mpr z) (Int32.not_lt.mpr h32)
          refine rw_go hX [(38, .aload_n 0), (39, .getfield 91), (42, .iload_n 1), (43, .iaload)] (by decide +kernel) (Ps := [vp_in (nI 3) 4]) (pc' := 44) (lv' := [(0, .ref 66), (1, .int (nI 3)), (2, .int xi), (3, .int (nI 2)), (4, .int xj), (5, .int xk)]) (st' := [.int (σ 97 (nI 3).toNatClampNeg)]) (σ' := σ) rfl (vp_in_nI (by omega) (by omega)) ?_
          rw [show (σ 97 (nI 3).toNatClampNeg) = σ 97 3 from (by rw [nI_clamp (by omega)])]
          refine rw_go hX [(44, .aload_n 0), (45, .getfield 91), (48, .iload_n 3), (49, .iaload)] (by decide +kernel) (Ps := [vp_in (nI 2) 4]) (pc' := 50) (lv' := [(0, .ref 66), (1, .int (nI 3)), (2, .int xi), (3, .int (nI 2)), (4, .int xj), (5, .int xk)]) (st' := [.int (σ 97 (nI 2).toNatClampNeg), .int (σ 97 3)]) (σ' := σ) rfl (vp_in_nI (by omega) (by omega)) ?_
          rw [show (σ 97 (nI 2).toNatClampNeg) = σ 97 2 from (by rw [nI_clamp (by omega)])]
          refine rw_icmp hX (tgt := 56) (cnd := .eq) (off := 6) (by decide +kernel) (by decide) (fun h50 => ?_) (fun h50 => ?_)
          · replace h50 : (σ 97 3 = σ 97 2) := h50
            refine rw_go hX [(56, .iload 5)] (by decide +kernel) (Ps := []) (pc' := 58) (lv' := [(0, .ref 66), (1, .int (nI 3)), (2, .int xi), (3, .int (nI 2)), (4, .int xj), (5, .int xk)]) (st' := [.int xk]) (σ' := σ) rfl True.intro ?_
            refine rw_if hX (tgt := 119) (cnd := .lt) (off := 61) (by decide +kernel) (by decide) (fun h58 => ?_) (fun h58 => ?_)
            · replace h58 : (xk < 0) := h58
              have hcp : pz (cpOK xi xj xk (n 3) (n 2)) = false := pz_f fun ⟨a9, b9, k9, e1, e2, e3, g1, g2⟩ => by
                rw [e3] at h58; exact absurd h58 (nI_pos (by have := hns.2; omega))
              refine rw_go hX [(119, .bipush (-12))] (by decide +kernel) (Ps := []) (pc' := 121) (lv' := [(0, .ref 66), (1, .int (nI 3)), (2, .int xi), (3, .int (nI 2)), (4, .int xj), (5, .int xk)]) (st' := [.int (-(nI 12))]) (σ' := σ) rfl True.intro ?_
              exact rw_iret hX (by decide +kernel) (⟨by simp only [aCopy, eq_true hk4, eq_true hu4, hcs, hct, eq_true h4, eq_true h11, eq_false h23, eq_false hso1, eq_true h32, eq_false hso2, eq_true h50, eq_true h58, hcp, if_true, if_false, Bool.false_eq_true, and_self, and_true, true_and, and_false, false_and, oel_n, oel_s, decide_true, decide_false], by simp only [sCopyM, eq_true hk4, eq_true hu4, hcs, hct, eq_true h4, eq_true h11, eq_false h23, eq_false hso1, eq_true h32, eq_false hso2, eq_true h50, eq_true h58, hcp, if_true, if_false, Bool.false_eq_true, and_self, and_true, true_and, and_false, false_and, oel_n, oel_s, decide_true, decide_false]⟩)
            · replace h58 : ¬ (xk < 0) := h58
              refine rw_go hX [(61, .iload_n 2)] (by decide +kernel) (Ps := []) (pc' := 62) (lv' := [(0, .ref 66), (1, .int (nI 3)), (2, .int xi), (3, .int (nI 2)), (4, .int xj), (5, .int xk)]) (st' := [.int xi]) (σ' := σ) rfl True.intro ?_
              refine rw_if hX (tgt := 119) (cnd := .lt) (off := 57) (by decide +kernel) (by decide) (fun h62 => ?_) (fun h62 => ?_)
              · replace h62 : (xi < 0) := h62
                have hcp : pz (cpOK xi xj xk (n 3) (n 2)) = false := pz_f fun ⟨a9, b9, k9, e1, e2, e3, g1, g2⟩ => by
                  rw [e1] at h62; exact absurd h62 (nI_pos (by have := hns.2; omega))
                refine rw_go hX [(119, .bipush (-12))] (by decide +kernel) (Ps := []) (pc' := 121) (lv' := [(0, .ref 66), (1, .int (nI 3)), (2, .int xi), (3, .int (nI 2)), (4, .int xj), (5, .int xk)]) (st' := [.int (-(nI 12))]) (σ' := σ) rfl True.intro ?_
                exact rw_iret hX (by decide +kernel) (⟨by simp only [aCopy, eq_true hk4, eq_true hu4, hcs, hct, eq_true h4, eq_true h11, eq_false h23, eq_false hso1, eq_true h32, eq_false hso2, eq_true h50, eq_false h58, eq_true h62, hcp, if_true, if_false, Bool.false_eq_true, and_self, and_true, true_and, and_false, false_and, oel_n, oel_s, decide_true, decide_false], by simp only [sCopyM, eq_true hk4, eq_true hu4, hcs, hct, eq_true h4, eq_true h11, eq_false h23, eq_false hso1, eq_true h32, eq_false hso2, eq_true h50, eq_false h58, eq_true h62, hcp, if_true, if_false, Bool.false_eq_true, and_self, and_true, true_and, and_false, false_and, oel_n, oel_s, decide_true, decide_false]⟩)
              · replace h62 : ¬ (xi < 0) := h62
                refine rw_go hX [(65, .iload 4)] (by decide +kernel) (Ps := []) (pc' := 67) (lv' := [(0, .ref 66), (1, .int (nI 3)), (2, .int xi), (3, .int (nI 2)), (4, .int xj), (5, .int xk)]) (st' := [.int xj]) (σ' := σ) rfl True.intro ?_
                refine rw_if hX (tgt := 119) (cnd := .lt) (off := 52) (by decide +kernel) (by decide) (fun h67 => ?_) (fun h67 => ?_)
                · replace h67 : (xj < 0) := h67
                  have hcp : pz (cpOK xi xj xk (n 3) (n 2)) = false := pz_f fun ⟨a9, b9, k9, e1, e2, e3, g1, g2⟩ => by
                    rw [e2] at h67; exact absurd h67 (nI_pos (by have := hnu.2; omega))
                  refine rw_go hX [(119, .bipush (-12))] (by decide +kernel) (Ps := []) (pc' := 121) (lv' := [(0, .ref 66), (1, .int (nI 3)), (2, .int xi), (3, .int (nI 2)), (4, .int xj), (5, .int xk)]) (st' := [.int (-(nI 12))]) (σ' := σ) rfl True.intro ?_
                  exact rw_iret hX (by decide +kernel) (⟨by simp only [aCopy, eq_true hk4, eq_true hu4, hcs, hct, eq_true h4, eq_true h11, eq_false h23, eq_false hso1, eq_true h32, eq_false hso2, eq_true h50, eq_false h58, eq_false h62, eq_true h67, hcp, if_true, if_false, Bool.false_eq_true, and_self, and_true, true_and, and_false, false_and, oel_n, oel_s, decide_true, decide_false], by simp only [sCopyM, eq_true hk4, eq_true hu4, hcs, hct, eq_true h4, eq_true h11, eq_false h23, eq_false hso1, eq_true h32, eq_false hso2, eq_true h50, eq_false h58, eq_false h62, eq_true h67, hcp, if_true, if_false, Bool.false_eq_true, and_self, and_true, true_and, and_false, false_and, oel_n, oel_s, decide_true, decide_false]⟩)
                · replace h67 : ¬ (xj < 0) := h67
                  refine rw_go hX [(70, .iload 5), (72, .aload_n 0), (73, .getfield 94), (76, .iload_n 1), (77, .iaload)] (by decide +kernel) (Ps := [vp_in (nI 3) 4]) (pc' := 78) (lv' := [(0, .ref 66), (1, .int (nI 3)), (2, .int xi), (3, .int (nI 2)), (4, .int xj), (5, .int xk)]) (st' := [.int (σ 98 (nI 3).toNatClampNeg), .int xk]) (σ' := σ) rfl (vp_in_nI (by omega) (by omega)) ?_
                  rw [show (σ 98 (nI 3).toNatClampNeg) = nI (n 3) from (by rw [nI_clamp (by omega), hns.1])]
                  refine rw_icmp hX (tgt := 119) (cnd := .gt) (off := 41) (by decide +kernel) (by decide) (fun h78 => ?_) (fun h78 => ?_)
                  · replace h78 : (xk > nI (n 3)) := h78
                    have hcp : pz (cpOK xi xj xk (n 3) (n 2)) = false := pz_f fun ⟨a9, b9, k9, e1, e2, e3, g1, g2⟩ => by
                      rw [e3] at h78; exact absurd h78 (Int32.not_lt.mpr (nI_le (show k9 ≤ n 3 by omega) (by have := hns.2; omega)))
                    refine rw_go hX [(119, .bipush (-12))] (by decide +kernel) (Ps := []) (pc' := 121) (lv' := [(0, .ref 66), (1, .int (nI 3)), (2, .int xi), (3, .int (nI 2)), (4, .int xj), (5, .int xk)]) (st' := [.int (-(nI 12))]) (σ' := σ) rfl True.intro ?_
                    exact rw_iret hX (by decide +kernel) (⟨by simp only [aCopy, eq_true hk4, eq_true hu4, hcs, hct, eq_true h4, eq_true h11, eq_false h23, eq_false hso1, eq_true h32, eq_false hso2, eq_true h50, eq_false h58, eq_false h62, eq_false h67, eq_true h78, hcp, if_true, if_false, Bool.false_eq_true, and_self, and_true, true_and, and_false, false_and, oel_n, oel_s, decide_true, decide_false], by simp only [sCopyM, eq_true hk4, eq_true hu4, hcs, hct, eq_true h4, eq_true h11, eq_false h23, eq_false hso1, eq_true h32, eq_false hso2, eq_true h50, eq_false h58, eq_false h62, eq_false h67, eq_true h78, hcp, if_true, if_false, Bool.false_eq_true, and_self, and_true, true_and, and_false, false_and, oel_n, oel_s, decide_true, decide_false]⟩)
                  · replace h78 : ¬ (xk > nI (n 3)) := h78
                    have hn40 := hns.2
                    have hn41 := hnu.2
                    obtain ⟨c, hc, rfl⟩ := rng (m := n 3) (by omega) ⟨Int32.not_lt.mp h58, Int32.not_lt.mp h78⟩
                    have hcc : (nI c).toNatClampNeg = c := nI_clamp (by omega)
                    refine rw_go hX [(81, .iload 5), (83, .aload_n 0), (84, .getfield 94), (87, .iload_n 3), (88, .iaload)] (by decide +kernel) (Ps := [vp_in (nI 2) 4]) (pc' := 89) (lv' := [(0, .ref 66), (1, .int (nI 3)), (2, .int xi), (3, .int (nI 2)), (4, .int xj), (5, .int (nI c))]) (st' := [.int (σ 98 (nI 2).toNatClampNeg), .int (nI c)]) (σ' := σ) rfl (vp_in_nI (by omega) (by omega)) ?_
                    rw [show (σ 98 (nI 2).toNatClampNeg) = nI (n 2) from (by rw [nI_clamp (by omega), hnu.1])]
                    refine rw_icmp hX (tgt := 119) (cnd := .gt) (off := 30) (by decide +kernel) (by decide) (fun h89 => ?_) (fun h89 => ?_)
                    · replace h89 := c2_gtT h89
                      have hcp : pz (cpOK xi xj (nI c) (n 3) (n 2)) = false := pz_f fun ⟨a9, b9, k9, e1, e2, e3, g1, g2⟩ => by
                        have e9 := (nI_eq (by omega) (by omega)).mp e3
                        omega
                      refine rw_go hX [(119, .bipush (-12))] (by decide +kernel) (Ps := []) (pc' := 121) (lv' := [(0, .ref 66), (1, .int (nI 3)), (2, .int xi), (3, .int (nI 2)), (4, .int xj), (5, .int (nI c))]) (st' := [.int (-(nI 12))]) (σ' := σ) rfl True.intro ?_
                      exact rw_iret hX (by decide +kernel) (⟨by simp only [aCopy, eq_true hk4, eq_true hu4, hcs, hct, eq_true h4, eq_true h11, eq_false h23, eq_false hso1, eq_true h32, eq_false hso2, eq_true h50, eq_false h58, eq_false h62, eq_false h67, eq_false h78, hcc, eq_true h89, hcp, if_true, if_false, Bool.false_eq_true, and_self, and_true, true_and, and_false, false_and, oel_n, oel_s, decide_true, decide_false], by simp only [sCopyM, eq_true hk4, eq_true hu4, hcs, hct, eq_true h4, eq_true h11, eq_false h23, eq_false hso1, eq_true h32, eq_false hso2, eq_true h50, eq_false h58, eq_false h62, eq_false h67, eq_false h78, hcc, eq_true h89, hcp, if_true, if_false, Bool.false_eq_true, and_self, and_true, true_and, and_false, false_and, oel_n, oel_s, decide_true, decide_false]⟩)
                    · replace h89 := c2_gtF h89
                      have hcu : c ≤ n 2 := by omega
                      refine rw_go hX [(92, .iload_n 2), (93, .aload_n 0), (94, .getfield 94), (97, .iload_n 1), (98, .iaload)] (by decide +kernel) (Ps := [vp_in (nI 3) 4]) (pc' := 99) (lv' := [(0, .ref 66), (1, .int (nI 3)), (2, .int xi), (3, .int (nI 2)), (4, .int xj), (5, .int (nI c))]) (st' := [.int (σ 98 (nI 3).toNatClampNeg), .int xi]) (σ' := σ) rfl (vp_in_nI (by omega) (by omega)) ?_
                      rw [show (σ 98 (nI 3).toNatClampNeg) = nI (n 3) from (by rw [nI_clamp (by omega), hns.1])]
                      refine rw_go hX [(99, .iload 5), (101, .isub)] (by decide +kernel) (Ps := []) (pc' := 102) (lv' := [(0, .ref 66), (1, .int (nI 3)), (2, .int xi), (3, .int (nI 2)), (4, .int xj), (5, .int (nI c))]) (st' := [.int (nI (n 3) - nI c), .int xi]) (σ' := σ) rfl True.intro ?_
                      rw [show (nI (n 3) - nI c) = nI (n 3 - c) from pk_sub (by omega)]
                      refine rw_icmp hX (tgt := 119) (cnd := .gt) (off := 17) (by decide +kernel) (by decide) (fun h102 => ?_) (fun h102 => ?_)
                      · replace h102 : (xi > nI (n 3 - c)) := h102
                        have hcp : pz (cpOK xi xj (nI c) (n 3) (n 2)) = false := pz_f fun ⟨a9, b9, k9, e1, e2, e3, g1, g2⟩ => by
                          have e9 := (nI_eq (by omega) (by omega)).mp e3
                          rw [e1] at h102
                          exact absurd h102 (Int32.not_lt.mpr (nI_le (by omega) (by omega)))
                        refine rw_go hX [(119, .bipush (-12))] (by decide +kernel) (Ps := []) (pc' := 121) (lv' := [(0, .ref 66), (1, .int (nI 3)), (2, .int xi), (3, .int (nI 2)), (4, .int xj), (5, .int (nI c))]) (st' := [.int (-(nI 12))]) (σ' := σ) rfl True.intro ?_
                        exact rw_iret hX (by decide +kernel) (⟨by simp only [aCopy, eq_true hk4, eq_true hu4, hcs, hct, eq_true h4, eq_true h11, eq_false h23, eq_false hso1, eq_true h32, eq_false hso2, eq_true h50, eq_false h58, eq_false h62, eq_false h67, eq_false h78, hcc, eq_true h89, eq_true h102, hcp, if_true, if_false, Bool.false_eq_true, and_self, and_true, true_and, and_false, false_and, oel_n, oel_s, decide_true, decide_false], by simp only [sCopyM, eq_true hk4, eq_true hu4, hcs, hct, eq_true h4, eq_true h11, eq_false h23, eq_false hso1, eq_true h32, eq_false hso2, eq_true h50, eq_false h58, eq_false h62, eq_false h67, eq_false h78, hcc, eq_true h89, eq_true h102, hcp, if_true, if_false, Bool.false_eq_true, and_self, and_true, true_and, and_false, false_and, oel_n, oel_s, decide_true, decide_false]⟩)
                      · replace h102 : ¬ (xi > nI (n 3 - c)) := h102
                        obtain ⟨a, ha, rfl⟩ := rng (m := n 3 - c) (by omega) ⟨Int32.not_lt.mp h62, Int32.not_lt.mp h102⟩
                        have hca : (nI a).toNatClampNeg = a := nI_clamp (by omega)
                        refine rw_go hX [(105, .iload 4), (107, .aload_n 0), (108, .getfield 94), (111, .iload_n 3), (112, .iaload)] (by decide +kernel) (Ps := [vp_in (nI 2) 4]) (pc' := 113) (lv' := [(0, .ref 66), (1, .int (nI 3)), (2, .int (nI a)), (3, .int (nI 2)), (4, .int xj), (5, .int (nI c))]) (st' := [.int (σ 98 (nI 2).toNatClampNeg), .int xj]) (σ' := σ) rfl (vp_in_nI (by omega) (by omega)) ?_
                        rw [show (σ 98 (nI 2).toNatClampNeg) = nI (n 2) from (by rw [nI_clamp (by omega), hnu.1])]
                        refine rw_go hX [(113, .iload 5), (115, .isub)] (by decide +kernel) (Ps := []) (pc' := 116) (lv' := [(0, .ref 66), (1, .int (nI 3)), (2, .int (nI a)), (3, .int (nI 2)), (4, .int xj), (5, .int (nI c))]) (st' := [.int (nI (n 2) - nI c), .int xj]) (σ' := σ) rfl True.intro ?_
                        rw [show (nI (n 2) - nI c) = nI (n 2 - c) from pk_sub (by omega)]
                        refine rw_icmp hX (tgt := 122) (cnd := .le) (off := 6) (by decide +kernel) (by decide) (fun h116 => ?_) (fun h116 => ?_)
                        · replace h116 : (xj ≤ nI (n 2 - c)) := h116
                          obtain ⟨b, hb, rfl⟩ := rng (m := n 2 - c) (by omega) ⟨Int32.not_lt.mp h67, h116⟩
                          have hcb : (nI b).toNatClampNeg = b := nI_clamp (by omega)
                          have hcp : pz (cpOK (nI a) (nI b) (nI c) (n 3) (n 2)) = true := pz_t ⟨a, b, c, rfl, rfl, rfl, by omega, by omega⟩
                          refine rw_go hX [(122, .iconst 0), (123, .istore 6)] (by decide +kernel) (Ps := []) (pc' := 125) (lv' := [(0, .ref 66), (1, .int (nI 3)), (2, .int (nI a)), (3, .int (nI 2)), (4, .int (nI b)), (5, .int (nI c)), (6, .int (nI 0))]) (st' := []) (σ' := σ) rfl True.intro ?_
                          have L125 : ∀ (μ125 : Nat) (i : Nat), μ125 = c - i → (i ≤ c) → RW E G 3 7 (QI E G (fun r σ' => r = aCopy n (σ 97) (nI 3) (nI a) (nI 2) (nI b) (nI c) ∧ σ' = sCopyM n σ (nI 3) (nI a) (nI 2) (nI b) (nI c))) 125 [(0, .ref 66), (1, .int (nI 3)), (2, .int (nI a)), (3, .int (nI 2)), (4, .int (nI b)), (5, .int (nI c)), (6, .int (nI i))] [] (sr σ 100 (va_cpy (σ 96) (σ 100) a 0 i)) := by
                            intro μ125
                            induction μ125 using Nat.strongRecOn with
                            | ind μ125 ih125 =>
                              intro i hμ125 hi
                              refine rw_go hX [(125, .iload 6), (127, .iload 5)] (by decide +kernel) (Ps := []) (pc' := 129) (lv' := [(0, .ref 66), (1, .int (nI 3)), (2, .int (nI a)), (3, .int (nI 2)), (4, .int (nI b)), (5, .int (nI c)), (6, .int (nI i))]) (st' := [.int (nI c), .int (nI i)]) (σ' := sr σ 100 (va_cpy (σ 96) (σ 100) a 0 i)) rfl True.intro ?_
                              refine rw_icmp hX (tgt := 156) (cnd := .ge) (off := 27) (by decide +kernel) (by decide) (fun h129 => ?_) (fun h129 => ?_)
                              · replace h129 := c2_geT h129
                                have ei : i = c := by omega
                                rw [ei]
                                refine rw_go hX [(156, .iconst 0), (157, .istore 6)] (by decide +kernel) (Ps := []) (pc' := 159) (lv' := [(0, .ref 66), (1, .int (nI 3)), (2, .int (nI a)), (3, .int (nI 2)), (4, .int (nI b)), (5, .int (nI c)), (6, .int (nI 0))]) (st' := []) (σ' := sr σ 100 (va_cpy (σ 96) (σ 100) a 0 c)) rfl True.intro ?_
                                have L159 : ∀ (μ159 : Nat) (i : Nat), μ159 = c - i → (i ≤ c) → RW E G 3 7 (QI E G (fun r σ' => r = aCopy n (σ 97) (nI 3) (nI a) (nI 2) (nI b) (nI c) ∧ σ' = sCopyM n σ (nI 3) (nI a) (nI 2) (nI b) (nI c))) 159 [(0, .ref 66), (1, .int (nI 3)), (2, .int (nI a)), (3, .int (nI 2)), (4, .int (nI b)), (5, .int (nI c)), (6, .int (nI i))] [] (sr (sr σ 100 (va_cpy (σ 96) (σ 100) a 0 c)) 95 (va_cpy (va_cpy (σ 96) (σ 100) a 0 c) (σ 95) 0 b i)) := by
                                  intro μ159
                                  induction μ159 using Nat.strongRecOn with
                                  | ind μ159 ih159 =>
                                    intro i hμ159 hi2
                                    refine rw_go hX [(159, .iload 6), (161, .iload 5)] (by decide +kernel) (Ps := []) (pc' := 163) (lv' := [(0, .ref 66), (1, .int (nI 3)), (2, .int (nI a)), (3, .int (nI 2)), (4, .int (nI b)), (5, .int (nI c)), (6, .int (nI i))]) (st' := [.int (nI c), .int (nI i)]) (σ' := sr (sr σ 100 (va_cpy (σ 96) (σ 100) a 0 c)) 95 (va_cpy (va_cpy (σ 96) (σ 100) a 0 c) (σ 95) 0 b i)) rfl True.intro ?_
                                    refine rw_icmp hX (tgt := 191) (cnd := .ge) (off := 28) (by decide +kernel) (by decide) (fun h163 => ?_) (fun h163 => ?_)
                                    · replace h163 := c2_geT h163
                                      have ei2 : i = c := by omega
                                      refine rw_go hX [(191, .iload 5)] (by decide +kernel) (Ps := []) (pc' := 193) (lv' := [(0, .ref 66), (1, .int (nI 3)), (2, .int (nI a)), (3, .int (nI 2)), (4, .int (nI b)), (5, .int (nI c)), (6, .int (nI i))]) (st' := [.int (nI c)]) (σ' := sr (sr σ 100 (va_cpy (σ 96) (σ 100) a 0 c)) 95 (va_cpy (va_cpy (σ 96) (σ 100) a 0 c) (σ 95) 0 b i)) rfl True.intro ?_
                                      exact rw_iret hX (by decide +kernel) (⟨by simp only [aCopy, eq_true hk4, eq_true hu4, hcs, hct, eq_true h4, eq_true h11, eq_false h23, eq_false hso1, eq_true h32, eq_false hso2, eq_true h50, eq_false h58, eq_false h62, eq_false h67, eq_false h78, hcc, eq_true h89, eq_false h102, hca, eq_true h116, hcb, hcp, eq_true h129, eq_true h163, if_true, if_false, Bool.false_eq_true, and_self, and_true, true_and, and_false, false_and, oel_n, oel_s, decide_true, decide_false], by simp only [sCopyM, eq_true hk4, eq_true hu4, hcs, hct, eq_true h4, eq_true h11, eq_false h23, eq_false hso1, eq_true h32, eq_false hso2, eq_true h50, eq_false h58, eq_false h62, eq_false h67, eq_false h78, hcc, eq_true h89, eq_false h102, hca, eq_true h116, hcb, hcp, eq_true h129, eq_true h163, if_true, if_false, Bool.false_eq_true, and_self, and_true, true_and, and_false, false_and, oel_n, oel_s, decide_true, decide_false]; rw [ei2]; rfl⟩)
                                    · replace h163 := c2_geF h163
                                      refine rw_go hX [(166, .aload_n 0), (167, .getfield 88), (170, .iload_n 3), (171, .aaload), (172, .iload 4), (174, .iload 6), (176, .iadd)] (by decide +kernel) (Ps := [vp_in (nI 2) 4]) (pc' := 177) (lv' := [(0, .ref 66), (1, .int (nI 3)), (2, .int (nI a)), (3, .int (nI 2)), (4, .int (nI b)), (5, .int (nI c)), (6, .int (nI i))]) (st' := [.int (nI b + nI i), .ref 95]) (σ' := sr (sr σ 100 (va_cpy (σ 96) (σ 100) a 0 c)) 95 (va_cpy (va_cpy (σ 96) (σ 100) a 0 c) (σ 95) 0 b i)) rfl (vp_in_nI (by omega) (by omega)) ?_
                                      rw [show (nI b + nI i) = nI (b + i) from nI_add _ _]
                                      refine rw_go hX [(177, .aload_n 0), (178, .getfield 100), (181, .iload 6), (183, .iaload)] (by decide +kernel) (Ps := [vp_in (nI i) 40]) (pc' := 184) (lv' := [(0, .ref 66), (1, .int (nI 3)), (2, .int (nI a)), (3, .int (nI 2)), (4, .int (nI b)), (5, .int (nI c)), (6, .int (nI i))]) (st' := [.int ((sr (sr σ 100 (va_cpy (σ 96) (σ 100) a 0 c)) 95 (va_cpy (va_cpy (σ 96) (σ 100) a 0 c) (σ 95) 0 b i)) 100 (nI i).toNatClampNeg), .int (nI (b + i)), .ref 95]) (σ' := sr (sr σ 100 (va_cpy (σ 96) (σ 100) a 0 c)) 95 (va_cpy (va_cpy (σ 96) (σ 100) a 0 c) (σ 95) 0 b i)) rfl (vp_in_nI (by omega) (by omega)) ?_
                                      rw [show ((sr (sr σ 100 (va_cpy (σ 96) (σ 100) a 0 c)) 95 (va_cpy (va_cpy (σ 96) (σ 100) a 0 c) (σ 95) 0 b i)) 100 (nI i).toNatClampNeg) = (va_cpy (σ 96) (σ 100) a 0 c) i from (by rw [nI_clamp (by omega), sr_n _ _ (by decide), sr_s])]
                                      refine rw_go hX [(184, .iastore)] (by decide +kernel) (Ps := [vp_in (nI (b + i)) 40]) (pc' := 185) (lv' := [(0, .ref 66), (1, .int (nI 3)), (2, .int (nI a)), (3, .int (nI 2)), (4, .int (nI b)), (5, .int (nI c)), (6, .int (nI i))]) (st' := []) (σ' := sw (sr (sr σ 100 (va_cpy (σ 96) (σ 100) a 0 c)) 95 (va_cpy (va_cpy (σ 96) (σ 100) a 0 c) (σ 95) 0 b i)) 95 (nI (b + i)).toNatClampNeg ((va_cpy (σ 96) (σ 100) a 0 c) i)) rfl (vp_in_nI (by omega) (by omega)) ?_
                                      rw [show (sw (sr (sr σ 100 (va_cpy (σ 96) (σ 100) a 0 c)) 95 (va_cpy (va_cpy (σ 96) (σ 100) a 0 c) (σ 95) 0 b i)) 95 (nI (b + i)).toNatClampNeg ((va_cpy (σ 96) (σ 100) a 0 c) i)) = sw (sr (sr σ 100 (va_cpy (σ 96) (σ 100) a 0 c)) 95 (va_cpy (va_cpy (σ 96) (σ 100) a 0 c) (σ 95) 0 b i)) 95 (b + i) ((va_cpy (σ 96) (σ 100) a 0 c) i) from (by rw [nI_clamp (by omega)])]
                                      refine rw_go hX [(185, .iinc 6 1)] (by decide +kernel) (Ps := []) (pc' := 188) (lv' := [(0, .ref 66), (1, .int (nI 3)), (2, .int (nI a)), (3, .int (nI 2)), (4, .int (nI b)), (5, .int (nI c)), (6, .int (nI i + nI 1))]) (st' := []) (σ' := sw (sr (sr σ 100 (va_cpy (σ 96) (σ 100) a 0 c)) 95 (va_cpy (va_cpy (σ 96) (σ 100) a 0 c) (σ 95) 0 b i)) 95 (b + i) ((va_cpy (σ 96) (σ 100) a 0 c) i)) rfl True.intro ?_
                                      rw [show (nI i + nI 1) = nI (i + 1) from nI_add _ _]
                                      refine rw_go hX [(188, .goto (-29))] (by decide +kernel) (Ps := []) (pc' := 159) (lv' := [(0, .ref 66), (1, .int (nI 3)), (2, .int (nI a)), (3, .int (nI 2)), (4, .int (nI b)), (5, .int (nI c)), (6, .int (nI (i + 1)))]) (st' := []) (σ' := sw (sr (sr σ 100 (va_cpy (σ 96) (σ 100) a 0 c)) 95 (va_cpy (va_cpy (σ 96) (σ 100) a 0 c) (σ 95) 0 b i)) 95 (b + i) ((va_cpy (σ 96) (σ 100) a 0 c) i)) rfl True.intro ?_
                                      refine rw_lsub (ks := [0, 1, 2, 3, 4, 5, 6]) (lv' := [(0, .ref 66), (1, .int (nI 3)), (2, .int (nI a)), (3, .int (nI 2)), (4, .int (nI b)), (5, .int (nI c)), (6, .int (nI (i + 1)))]) rfl ?_
                                      have q := ih159 (c - (i + 1)) (by omega) (i + 1) rfl (by omega)
                                      rw [← cpy_1, Nat.zero_add] at q
                                      rw [sw_sr]
                                      exact q
                                refine rw_lsub (ks := [0, 1, 2, 3, 4, 5, 6]) (lv' := [(0, .ref 66), (1, .int (nI 3)), (2, .int (nI a)), (3, .int (nI 2)), (4, .int (nI b)), (5, .int (nI c)), (6, .int (nI 0))]) rfl ?_
                                have q := L159 c 0 rfl (by omega)
                                rw [cpy_0, show sr (sr σ 100 (va_cpy (σ 96) (σ 100) a 0 c)) 95 (σ 95) = sr σ 100 (va_cpy (σ 96) (σ 100) a 0 c) from by
                                  funext q
                                  by_cases z : q = 95
                                  · subst z; rw [sr_s, sr_n _ _ (by decide)]
                                  · rw [sr_n _ _ z]] at q
                                exact q
                              · replace h129 := c2_geF h129
                                refine rw_go hX [(132, .aload_n 0), (133, .getfield 100), (136, .iload 6), (138, .aload_n 0), (139, .getfield 88), (142, .iload_n 1), (143, .aaload), (144, .iload_n 2), (145, .iload 6), (147, .iadd)] (by decide +kernel) (Ps := [vp_in (nI 3) 4]) (pc' := 148) (lv' := [(0, .ref 66), (1, .int (nI 3)), (2, .int (nI a)), (3, .int (nI 2)), (4, .int (nI b)), (5, .int (nI c)), (6, .int (nI i))]) (st' := [.int (nI a + nI i), .ref 96, .int (nI i), .ref 100]) (σ' := sr σ 100 (va_cpy (σ 96) (σ 100) a 0 i)) rfl (vp_in_nI (by omega) (by omega)) ?_
                                rw [show (nI a + nI i) = nI (a + i) from nI_add _ _]
                                refine rw_go hX [(148, .iaload)] (by decide +kernel) (Ps := [vp_in (nI (a + i)) 40]) (pc' := 149) (lv' := [(0, .ref 66), (1, .int (nI 3)), (2, .int (nI a)), (3, .int (nI 2)), (4, .int (nI b)), (5, .int (nI c)), (6, .int (nI i))]) (st' := [.int ((sr σ 100 (va_cpy (σ 96) (σ 100) a 0 i)) 96 (nI (a + i)).toNatClampNeg), .int (nI i), .ref 100]) (σ' := sr σ 100 (va_cpy (σ 96) (σ 100) a 0 i)) rfl (vp_in_nI (by omega) (by omega)) ?_
                                rw [show ((sr σ 100 (va_cpy (σ 96) (σ 100) a 0 i)) 96 (nI (a + i)).toNatClampNeg) = σ 96 (a + i) from (by rw [nI_clamp (by omega), sr_n _ _ (by decide)])]
                                refine rw_go hX [(149, .iastore)] (by decide +kernel) (Ps := [vp_in (nI i) 40]) (pc' := 150) (lv' := [(0, .ref 66), (1, .int (nI 3)), (2, .int (nI a)), (3, .int (nI 2)), (4, .int (nI b)), (5, .int (nI c)), (6, .int (nI i))]) (st' := []) (σ' := sw (sr σ 100 (va_cpy (σ 96) (σ 100) a 0 i)) 100 (nI i).toNatClampNeg (σ 96 (a + i))) rfl (vp_in_nI (by omega) (by omega)) ?_
                                rw [show (sw (sr σ 100 (va_cpy (σ 96) (σ 100) a 0 i)) 100 (nI i).toNatClampNeg (σ 96 (a + i))) = sw (sr σ 100 (va_cpy (σ 96) (σ 100) a 0 i)) 100 i (σ 96 (a + i)) from (by rw [nI_clamp (by omega)])]
                                refine rw_go hX [(150, .iinc 6 1)] (by decide +kernel) (Ps := []) (pc' := 153) (lv' := [(0, .ref 66), (1, .int (nI 3)), (2, .int (nI a)), (3, .int (nI 2)), (4, .int (nI b)), (5, .int (nI c)), (6, .int (nI i + nI 1))]) (st' := []) (σ' := sw (sr σ 100 (va_cpy (σ 96) (σ 100) a 0 i)) 100 i (σ 96 (a + i))) rfl True.intro ?_
                                rw [show (nI i + nI 1) = nI (i + 1) from nI_add _ _]
                                refine rw_go hX [(153, .goto (-28))] (by decide +kernel) (Ps := []) (pc' := 125) (lv' := [(0, .ref 66), (1, .int (nI 3)), (2, .int (nI a)), (3, .int (nI 2)), (4, .int (nI b)), (5, .int (nI c)), (6, .int (nI (i + 1)))]) (st' := []) (σ' := sw (sr σ 100 (va_cpy (σ 96) (σ 100) a 0 i)) 100 i (σ 96 (a + i))) rfl True.intro ?_
                                refine rw_lsub (ks := [0, 1, 2, 3, 4, 5, 6]) (lv' := [(0, .ref 66), (1, .int (nI 3)), (2, .int (nI a)), (3, .int (nI 2)), (4, .int (nI b)), (5, .int (nI c)), (6, .int (nI (i + 1)))]) rfl ?_
                                have q := ih125 (c - (i + 1)) (by omega) (i + 1) rfl (by omega)
                                rw [← cpy_1, Nat.zero_add] at q
                                rw [sw_sr]
                                exact q
                          refine rw_lsub (ks := [0, 1, 2, 3, 4, 5, 6]) (lv' := [(0, .ref 66), (1, .int (nI 3)), (2, .int (nI a)), (3, .int (nI 2)), (4, .int (nI b)), (5, .int (nI c)), (6, .int (nI 0))]) rfl ?_
                          have q := L125 c 0 rfl (by omega)
                          rw [cpy_0, sr_id] at q
                          exact q
                        · replace h116 : ¬ (xj ≤ nI (n 2 - c)) := h116
                          have hcp : pz (cpOK (nI a) xj (nI c) (n 3) (n 2)) = false := pz_f fun ⟨a9, b9, k9, e1, e2, e3, g1, g2⟩ => by
                            have e9 := (nI_eq (by omega) (by omega)).mp e3
                            rw [e2] at h116
                            exact absurd (nI_le (by omega) (by omega)) h116
                          refine rw_go hX [(119, .bipush (-12))] (by decide +kernel) (Ps := []) (pc' := 121) (lv' := [(0, .ref 66), (1, .int (nI 3)), (2, .int (nI a)), (3, .int (nI 2)), (4, .int xj), (5, .int (nI c))]) (st' := [.int (-(nI 12))]) (σ' := σ) rfl True.intro ?_
                          exact rw_iret hX (by decide +kernel) (⟨by simp only [aCopy, eq_true hk4, eq_true hu4, hcs, hct, eq_true h4, eq_true h11, eq_false h23, eq_false hso1, eq_true h32, eq_false hso2, eq_true h50, eq_false h58, eq_false h62, eq_false h67, eq_false h78, hcc, eq_true h89, eq_false h102, hca, eq_false h116, hcp, if_true, if_false, Bool.false_eq_true, and_self, and_true, true_and, and_false, false_and, oel_n, oel_s, decide_true, decide_false], by simp only [sCopyM, eq_true hk4, eq_true hu4, hcs, hct, eq_true h4, eq_true h11, eq_false h23, eq_false hso1, eq_true h32, eq_false hso2, eq_true h50, eq_false h58, eq_false h62, eq_false h67, eq_false h78, hcc, eq_true h89, eq_false h102, hca, eq_false h116, hcp, if_true, if_false, Bool.false_eq_true, and_self, and_true, true_and, and_false, false_and, oel_n, oel_s, decide_true, decide_false]⟩)
          · replace h50 : ¬ (σ 97 3 = σ 97 2) := h50
            refine rw_go hX [(53, .bipush (-13))] (by decide +kernel) (Ps := []) (pc' := 55) (lv' := [(0, .ref 66), (1, .int (nI 3)), (2, .int xi), (3, .int (nI 2)), (4, .int xj), (5, .int xk)]) (st' := [.int (-(nI 13))]) (σ' := σ) rfl True.intro ?_
            exact rw_iret hX (by decide +kernel) (⟨by simp only [aCopy, eq_true hk4, eq_true hu4, hcs, hct, eq_true h4, eq_true h11, eq_false h23, eq_false hso1, eq_true h32, eq_false hso2, eq_false h50, if_true, if_false, Bool.false_eq_true, and_self, and_true, true_and, and_false, false_and, oel_n, oel_s, decide_true, decide_false], by simp only [sCopyM, eq_true hk4, eq_true hu4, hcs, hct, eq_true h4, eq_true h11, eq_false h23, eq_false hso1, eq_true h32, eq_false hso2, eq_false h50, if_true, if_false, Bool.false_eq_true, and_self, and_true, true_and, and_false, false_and, oel_n, oel_s, decide_true, decide_false]⟩)
        · replace h32 : ¬ (σ 97 2 ≥ 0) := h32
          have hso2 : σ 97 2 = -(nI 1) := (so_m hou).mp (Int32.not_le.mp h32)
          refine rw_go hX [(35, .bipush (-11))] (by decide +kernel) (Ps := []) (pc' := 37) (lv' := [(0, .ref 66), (1, .int (nI 3)), (2, .int xi), (3, .int (nI 2)), (4, .int xj), (5, .int xk)]) (st' := [.int (-(nI 11))]) (σ' := σ) rfl True.intro ?_
          exact rw_iret hX (by decide +kernel) (⟨by simp only [aCopy, eq_true hk4, eq_true hu4, hcs, hct, eq_true h4, eq_true h11, eq_false h23, eq_false hso1, eq_false h32, eq_true hso2, if_true, if_false, Bool.false_eq_true, and_self, and_true, true_and, and_false, false_and, oel_n, oel_s, decide_true, decide_false], by simp only [sCopyM, eq_true hk4, eq_true hu4, hcs, hct, eq_true h4, eq_true h11, eq_false h23, eq_false hso1, eq_false h32, eq_true hso2, if_true, if_false, Bool.false_eq_true, and_self, and_true, true_and, and_false, false_and, oel_n, oel_s, decide_true, decide_false]⟩)
    · exact absurd (by simp only [cz, cc2]; decide +kernel) h11
set_option maxRecDepth 20000 in
set_option maxHeartbeats 800000 in
theorem g_copy_3_3 (l : Launch) (G : Gl) (σ : Mm) (n : Nat → Nat) (xi xj xk : Int32) (hsh : ∀ s, s < 4 → σ 98 s = nI (n s) ∧ n s ≤ 40) (hso : ∀ s, s < 4 → σ 97 s = -(nI 1) ∨ σ 97 s = nI 0 ∨ σ 97 s = nI 1) : AMi l G 3 mX10_copy [.ref 66, .int (nI 3), .int xi, .int (nI 3), .int xj, .int xk] σ (fun r σ' => r = aCopy n (σ 97) (nI 3) xi (nI 3) xj xk ∧ σ' = sCopyM n σ (nI 3) xi (nI 3) xj xk) := by
  refine rw_inI 10 (by decide +kernel) rfl rfl ?_
  intro E hE hX
  subst hE
  have hk4 := film_r 3 (by omega)
  have hu4 := film_r 3 (by omega)
  have hcs : (nI 3).toNatClampNeg = 3 := nI_clamp (by omega)
  have hct : (nI 3).toNatClampNeg = 3 := nI_clamp (by omega)
  have hns := hsh 3 (by omega)
  have hos := hso 3 (by omega)
  have hnu := hsh 3 (by omega)
  have hou := hso 3 (by omega)
  refine rw_go hX [(0, .iload_n 1)] (by decide +kernel) (Ps := []) (pc' := 1) (lv' := [(0, .ref 66), (1, .int (nI 3)), (2, .int xi), (3, .int (nI 3)), (4, .int xj), (5, .int xk)]) (st' := [.int (nI 3)]) (σ' := σ) rfl True.intro ?_
  refine rw_callSi hX (as := [.int (nI 3)]) (rest := []) (m_isSheet _ _ _ (nI 3)) (by decide +kernel) msX10_isSheet (Or.inl lk10_298) rfl (by decide) (Nat.le_of_ble_eq_true rfl) rfl ?_
  intro r1 σ1 hr
  rw [hr.1, show r1 = nI 1 from hr.2.trans (by decide +kernel)]
  clear hr σ1 r1
  refine rw_if hX (tgt := 14) (cnd := .eq) (off := 10) (by decide +kernel) (by decide) (fun h4 => ?_) (fun h4 => ?_)
  · exact absurd h4 (by simp only [cz, cc2]; decide +kernel)
  · skip
    refine rw_go hX [(7, .iload_n 3)] (by decide +kernel) (Ps := []) (pc' := 8) (lv' := [(0, .ref 66), (1, .int (nI 3)), (2, .int xi), (3, .int (nI 3)), (4, .int xj), (5, .int xk)]) (st' := [.int (nI 3)]) (σ' := σ) rfl True.intro ?_
    refine rw_callSi hX (as := [.int (nI 3)]) (rest := []) (m_isSheet _ _ _ (nI 3)) (by decide +kernel) msX10_isSheet (Or.inl lk10_298) rfl (by decide) (Nat.le_of_ble_eq_true rfl) rfl ?_
    intro r1 σ1 hr
    rw [hr.1, show r1 = nI 1 from hr.2.trans (by decide +kernel)]
    clear hr σ1 r1
    refine rw_if hX (tgt := 17) (cnd := .ne) (off := 6) (by decide +kernel) (by decide) (fun h11 => ?_) (fun h11 => ?_)
    · skip
      refine rw_go hX [(17, .aload_n 0), (18, .getfield 91), (21, .iload_n 1), (22, .iaload)] (by decide +kernel) (Ps := [vp_in (nI 3) 4]) (pc' := 23) (lv' := [(0, .ref 66), (1, .int (nI 3)), (2, .int xi), (3, .int (nI 3)), (4, .int xj), (5, .int xk)]) (st' := [.int (σ 97 (nI 3).toNatClampNeg)]) (σ' := σ) rfl (vp_in_nI (by omega) (by omega)) ?_
      rw [show (σ 97 (nI 3).toNatClampNeg) = σ 97 3 from (by rw [nI_clamp (by omega)])]
      refine rw_if hX (tgt := 35) (cnd := .lt) (off := 12) (by decide +kernel) (by decide) (fun h23 => ?_) (fun h23 => ?_)
      · replace h23 : (σ 97 3 < 0) := h23
        have hso1 : σ 97 3 = -(nI 1) := (so_m hos).mp h23
        refine rw_go hX [(35, .bipush (-11))] (by decide +kernel) (Ps := []) (pc' := 37) (lv' := [(0, .ref 66), (1, .int (nI 3)), (2, .int xi), (3, .int (nI 3)), (4, .int xj), (5, .int xk)]) (st' := [.int (-(nI 11))]) (σ' := σ) rfl True.intro ?_
        exact rw_iret hX (by decide +kernel) (⟨by simp only [aCopy, eq_true hk4, eq_true hu4, hcs, hct, eq_true h4, eq_true h11, eq_true h23, eq_true hso1, if_true, if_false, Bool.false_eq_true, and_self, and_true, true_and, and_false, false_and, oel_n, oel_s, decide_true, decide_false], by simp only [sCopyM, eq_true hk4, eq_true hu4, hcs, hct, eq_true h4, eq_true h11, eq_true h23, eq_true hso1, if_true, if_false, Bool.false_eq_true, and_self, and_true, true_and, and_false, false_and, oel_n, oel_s, decide_true, decide_false]⟩)
      · replace h23 : ¬ (σ 97 3 < 0) := h23
        have hso1 : ¬ σ 97 3 = -(nI 1) := fun z => h23 ((so_m hos).mpr z)
        refine rw_go hX [(26, .aload_n 0), (27, .getfield 91), (30, .iload_n 3), (31, .iaload)] (by decide +kernel) (Ps := [vp_in (nI 3) 4]) (pc' := 32) (lv' := [(0, .ref 66), (1, .int (nI 3)), (2, .int xi), (3, .int (nI 3)), (4, .int xj), (5, .int xk)]) (st' := [.int (σ 97 (nI 3).toNatClampNeg)]) (σ' := σ) rfl (vp_in_nI (by omega) (by omega)) ?_
        rw [show (σ 97 (nI 3).toNatClampNeg) = σ 97 3 from (by rw [nI_clamp (by omega)])]
        refine rw_if hX (tgt := 38) (cnd := .ge) (off := 6) (by decide +kernel) (by decide) (fun h32 => ?_) (fun h32 => ?_)
        · replace h32 : (σ 97 3 ≥ 0) := h32
          have hso2 : ¬ σ 97 3 = -(nI 1) := fun z => absurd ((so_m hou).mpr z) (Int32.not_lt.mpr h32)
          refine rw_go hX [(38, .aload_n 0), (39, .getfield 91), (42, .iload_n 1), (43, .iaload)] (by decide +kernel) (Ps := [vp_in (nI 3) 4]) (pc' := 44) (lv' := [(0, .ref 66), (1, .int (nI 3)), (2, .int xi), (3, .int (nI 3)), (4, .int xj), (5, .int xk)]) (st' := [.int (σ 97 (nI 3).toNatClampNeg)]) (σ' := σ) rfl (vp_in_nI (by omega) (by omega)) ?_
          rw [show (σ 97 (nI 3).toNatClampNeg) = σ 97 3 from (by rw [nI_clamp (by omega)])]
          refine rw_go hX [(44, .aload_n 0), (45, .getfield 91), (48, .iload_n 3), (49, .iaload)] (by decide +kernel) (Ps := [vp_in (nI 3) 4]) (pc' := 50) (lv' := [(0, .ref 66), (1, .int (nI 3)), (2, .int xi), (3, .int (nI 3)), (4, .int xj), (5, .int xk)]) (st' := [.int (σ 97 (nI 3).toNatClampNeg), .int (σ 97 3)]) (σ' := σ) rfl (vp_in_nI (by omega) (by omega)) ?_
          rw [show (σ 97 (nI 3).toNatClampNeg) = σ 97 3 from (by rw [nI_clamp (by omega)])]
          refine rw_icmp hX (tgt := 56) (cnd := .eq) (off := 6) (by decide +kernel) (by decide) (fun h50 => ?_) (fun h50 => ?_)
          · replace h50 : (σ 97 3 = σ 97 3) := h50
            refine rw_go hX [(56, .iload 5)] (by decide +kernel) (Ps := []) (pc' := 58) (lv' := [(0, .ref 66), (1, .int (nI 3)), (2, .int xi), (3, .int (nI 3)), (4, .int xj), (5, .int xk)]) (st' := [.int xk]) (σ' := σ) rfl True.intro ?_
            refine rw_if hX (tgt := 119) (cnd := .lt) (off := 61) (by decide +kernel) (by decide) (fun h58 => ?_) (fun h58 => ?_)
            · replace h58 : (xk < 0) := h58
              have hcp : pz (cpOK xi xj xk (n 3) (n 3)) = false := pz_f fun ⟨a9, b9, k9, e1, e2, e3, g1, g2⟩ => by
                rw [e3] at h58; exact absurd h58 (nI_pos (by have := hns.2; omega))
              refine rw_go hX [(119, .bipush (-12))] (by decide +kernel) (Ps := []) (pc' := 121) (lv' := [(0, .ref 66), (1, .int (nI 3)), (2, .int xi), (3, .int (nI 3)), (4, .int xj), (5, .int xk)]) (st' := [.int (-(nI 12))]) (σ' := σ) rfl True.intro ?_
              exact rw_iret hX (by decide +kernel) (⟨by simp only [aCopy, eq_true hk4, eq_true hu4, hcs, hct, eq_true h4, eq_true h11, eq_false h23, eq_false hso1, eq_true h32, eq_false hso2, eq_true h50, eq_true h58, hcp, if_true, if_false, Bool.false_eq_true, and_self, and_true, true_and, and_false, false_and, oel_n, oel_s, decide_true, decide_false], by simp only [sCopyM, eq_true hk4, eq_true hu4, hcs, hct, eq_true h4, eq_true h11, eq_false h23, eq_false hso1, eq_true h32, eq_false hso2, eq_true h50, eq_true h58, hcp, if_true, if_false, Bool.false_eq_true, and_self, and_true, true_and, and_false, false_and, oel_n, oel_s, decide_true, decide_false]⟩)
            · replace h58 : ¬ (xk < 0) := h58
              refine rw_go hX [(61, .iload_n 2)] (by decide +kernel) (Ps := []) (pc' := 62) (lv' := [(0, .ref 66), (1, .int (nI 3)), (2, .int xi), (3, .int (nI 3)), (4, .int xj), (5, .int xk)]) (st' := [.int xi]) (σ' := σ) rfl True.intro ?_
              refine rw_if hX (tgt := 119) (cnd := .lt) (off := 57) (by decide +kernel) (by decide) (fun h62 => ?_) (fun h62 => ?_)
              · replace h62 : (xi < 0) := h62
                have hcp : pz (cpOK xi xj xk (n 3) (n 3)) = false := pz_f fun ⟨a9, b9, k9, e1, e2, e3, g1, g2⟩ => by
                  rw [e1] at h62; exact absurd h62 (nI_pos (by have := hns.2; omega))
                refine rw_go hX [(119, .bipush (-12))] (by decide +kernel) (Ps := []) (pc' := 121) (lv' := [(0, .ref 66), (1, .int (nI 3)), (2, .int xi), (3, .int (nI 3)), (4, .int xj), (5, .int xk)]) (st' := [.int (-(nI 12))]) (σ' := σ) rfl True.intro ?_
                exact rw_iret hX (by decide +kernel) (⟨by simp only [aCopy, eq_true hk4, eq_true hu4, hcs, hct, eq_true h4, eq_true h11, eq_false h23, eq_false hso1, eq_true h32, eq_false hso2, eq_true h50, eq_false h58, eq_true h62, hcp, if_true, if_false, Bool.false_eq_true, and_self, and_true, true_and, and_false, false_and, oel_n, oel_s, decide_true, decide_false], by simp only [sCopyM, eq_true hk4, eq_true hu4, hcs, hct, eq_true h4, eq_true h11, eq_false h23, eq_false hso1, eq_true h32, eq_false hso2, eq_true h50, eq_false h58, eq_true h62, hcp, if_true, if_false, Bool.false_eq_true, and_self, and_true, true_and, and_false, false_and, oel_n, oel_s, decide_true, decide_false]⟩)
              · replace h62 : ¬ (xi < 0) := h62
                refine rw_go hX [(65, .iload 4)] (by decide +kernel) (Ps := []) (pc' := 67) (lv' := [(0, .ref 66), (1, .int (nI 3)), (2, .int xi), (3, .int (nI 3)), (4, .int xj), (5, .int xk)]) (st' := [.int xj]) (σ' := σ) rfl True.intro ?_
                refine rw_if hX (tgt := 119) (cnd := .lt) (off := 52) (by decide +kernel) (by decide) (fun h67 => ?_) (fun h67 => ?_)
                · replace h67 : (xj < 0) := h67
                  have hcp : pz (cpOK xi xj xk (n 3) (n 3)) = false := pz_f fun ⟨a9, b9, k9, e1, e2, e3, g1, g2⟩ => by
                    rw [e2] at h67; exact absurd h67 (nI_pos (by have := hnu.2; omega))
                  refine rw_go hX [(119, .bipush (-12))] (by decide +kernel) (Ps := []) (pc' := 121) (lv' := [(0, .ref 66), (1, .int (nI 3)), (2, .int xi), (3, .int (nI 3)), (4, .int xj), (5, .int xk)]) (st' := [.int (-(nI 12))]) (σ' := σ) rfl True.intro ?_
                  exact rw_iret hX (by decide +kernel) (⟨by simp only [aCopy, eq_true hk4, eq_true hu4, hcs, hct, eq_true h4, eq_true h11, eq_false h23, eq_false hso1, eq_true h32, eq_false hso2, eq_true h50, eq_false h58, eq_false h62, eq_true h67, hcp, if_true, if_false, Bool.false_eq_true, and_self, and_true, true_and, and_false, false_and, oel_n, oel_s, decide_true, decide_false], by simp only [sCopyM, eq_true hk4, eq_true hu4, hcs, hct, eq_true h4, eq_true h11, eq_false h23, eq_false hso1, eq_true h32, eq_false hso2, eq_true h50, eq_false h58, eq_false h62, eq_true h67, hcp, if_true, if_false, Bool.false_eq_true, and_self, and_true, true_and, and_false, false_and, oel_n, oel_s, decide_true, decide_false]⟩)
                · replace h67 : ¬ (xj < 0) := h67
                  refine rw_go hX [(70, .iload 5), (72, .aload_n 0), (73, .getfield 94), (76, .iload_n 1), (77, .iaload)] (by decide +kernel) (Ps := [vp_in (nI 3) 4]) (pc' := 78) (lv' := [(0, .ref 66), (1, .int (nI 3)), (2, .int xi), (3, .int (nI 3)), (4, .int xj), (5, .int xk)]) (st' := [.int (σ 98 (nI 3).toNatClampNeg), .int xk]) (σ' := σ) rfl (vp_in_nI (by omega) (by omega)) ?_
                  rw [show (σ 98 (nI 3).toNatClampNeg) = nI (n 3) from (by rw [nI_clamp (by omega), hnu.1])]
                  refine rw_icmp hX (tgt := 119) (cnd := .gt) (off := 41) (by decide +kernel) (by decide) (fun h78 => ?_) (fun h78 => ?_)
                  · replace h78 : (xk > nI (n 3)) := h78
                    have hcp : pz (cpOK xi xj xk (n 3) (n 3)) = false := pz_f fun ⟨a9, b9, k9, e1, e2, e3, g1, g2⟩ => by
                      rw [e3] at h78; exact absurd h78 (Int32.not_lt.mpr (nI_le (show k9 ≤ n 3 by omega) (by have := hns.2; omega)))
                    refine rw_go hX [(119, .bipush (-12))] (by decide +kernel) (Ps := []) (pc' := 121) (lv' := [(0, .ref 66), (1, .int (nI 3)), (2, .int xi), (3, .int (nI 3)), (4, .int xj), (5, .int xk)]) (st' := [.int (-(nI 12))]) (σ' := σ) rfl True.intro ?_
                    exact rw_iret hX (by decide +kernel) (⟨by simp only [aCopy, eq_true hk4, eq_true hu4, hcs, hct, eq_true h4, eq_true h11, eq_false h23, eq_false hso1, eq_true h32, eq_false hso2, eq_true h50, eq_false h58, eq_false h62, eq_false h67, eq_true h78, hcp, if_true, if_false, Bool.false_eq_true, and_self, and_true, true_and, and_false, false_and, oel_n, oel_s, decide_true, decide_false], by simp only [sCopyM, eq_true hk4, eq_true hu4, hcs, hct, eq_true h4, eq_true h11, eq_false h23, eq_false hso1, eq_true h32, eq_false hso2, eq_true h50, eq_false h58, eq_false h62, eq_false h67, eq_true h78, hcp, if_true, if_false, Bool.false_eq_true, and_self, and_true, true_and, and_false, false_and, oel_n, oel_s, decide_true, decide_false]⟩)
                  · replace h78 : ¬ (xk > nI (n 3)) := h78
                    have hn40 := hns.2
                    have hn41 := hnu.2
                    obtain ⟨c, hc, rfl⟩ := rng (m := n 3) (by omega) ⟨Int32.not_lt.mp h58, Int32.not_lt.mp h78⟩
                    have hcc : (nI c).toNatClampNeg = c := nI_clamp (by omega)
                    refine rw_go hX [(81, .iload 5), (83, .aload_n 0), (84, .getfield 94), (87, .iload_n 3), (88, .iaload)] (by decide +kernel) (Ps := [vp_in (nI 3) 4]) (pc' := 89) (lv' := [(0, .ref 66), (1, .int (nI 3)), (2, .int xi), (3, .int (nI 3)), (4, .int xj), (5, .int (nI c))]) (st' := [.int (σ 98 (nI 3).toNatClampNeg), .int (nI c)]) (σ' := σ) rfl (vp_in_nI (by omega) (by omega)) ?_
                    rw [show (σ 98 (nI 3).toNatClampNeg) = nI (n 3) from (by rw [nI_clamp (by omega), hnu.1])]
                    refine rw_icmp hX (tgt := 119) (cnd := .gt) (off := 30) (by decide +kernel) (by decide) (fun h89 => ?_) (fun h89 => ?_)
                    · replace h89 := c2_gtT h89
                      have hcp : pz (cpOK xi xj (nI c) (n 3) (n 3)) = false := pz_f fun ⟨a9, b9, k9, e1, e2, e3, g1, g2⟩ => by
                        have e9 := (nI_eq (by omega) (by omega)).mp e3
                        omega
                      refine rw_go hX [(119, .bipush (-12))] (by decide +kernel) (Ps := []) (pc' := 121) (lv' := [(0, .ref 66), (1, .int (nI 3)), (2, .int xi), (3, .int (nI 3)), (4, .int xj), (5, .int (nI c))]) (st' := [.int (-(nI 12))]) (σ' := σ) rfl True.intro ?_
                      exact rw_iret hX (by decide +kernel) (⟨by simp only [aCopy, eq_true hk4, eq_true hu4, hcs, hct, eq_true h4, eq_true h11, eq_false h23, eq_false hso1, eq_true h32, eq_false hso2, eq_true h50, eq_false h58, eq_false h62, eq_false h67, eq_false h78, hcc, eq_true h89, hcp, if_true, if_false, Bool.false_eq_true, and_self, and_true, true_and, and_false, false_and, oel_n, oel_s, decide_true, decide_false], by simp only [sCopyM, eq_true hk4, eq_true hu4, hcs, hct, eq_true h4, eq_true h11, eq_false h23, eq_false hso1, eq_true h32, eq_false hso2, eq_true h50, eq_false h58, eq_false h62, eq_false h67, eq_false h78, hcc, eq_true h89, hcp, if_true, if_false, Bool.false_eq_true, and_self, and_true, true_and, and_false, false_and, oel_n, oel_s, decide_true, decide_false]⟩)
                    · replace h89 := c2_gtF h89
                      have hcu : c ≤ n 3 := by omega
                      refine rw_go hX [(92, .iload_n 2), (93, .aload_n 0), (94, .getfield 94), (97, .iload_n 1), (98, .iaload)] (by decide +kernel) (Ps := [vp_in (nI 3) 4]) (pc' := 99) (lv' := [(0, .ref 66), (1, .int (nI 3)), (2, .int xi), (3, .int (nI 3)), (4, .int xj), (5, .int (nI c))]) (st' := [.int (σ 98 (nI 3).toNatClampNeg), .int xi]) (σ' := σ) rfl (vp_in_nI (by omega) (by omega)) ?_
                      rw [show (σ 98 (nI 3).toNatClampNeg) = nI (n 3) from (by rw [nI_clamp (by omega), hnu.1])]
                      refine rw_go hX [(99, .iload 5), (101, .isub)] (by decide +kernel) (Ps := []) (pc' := 102) (lv' := [(0, .ref 66), (1, .int (nI 3)), (2, .int xi), (3, .int (nI 3)), (4, .int xj), (5, .int (nI c))]) (st' := [.int (nI (n 3) - nI c), .int xi]) (σ' := σ) rfl True.intro ?_
                      rw [show (nI (n 3) - nI c) = nI (n 3 - c) from pk_sub (by omega)]
                      refine rw_icmp hX (tgt := 119) (cnd := .gt) (off := 17) (by decide +kernel) (by decide) (fun h102 => ?_) (fun h102 => ?_)
                      · replace h102 : (xi > nI (n 3 - c)) := h102
                        have hcp : pz (cpOK xi xj (nI c) (n 3) (n 3)) = false := pz_f fun ⟨a9, b9, k9, e1, e2, e3, g1, g2⟩ => by
                          have e9 := (nI_eq (by omega) (by omega)).mp e3
                          rw [e1] at h102
                          exact absurd h102 (Int32.not_lt.mpr (nI_le (by omega) (by omega)))
                        refine rw_go hX [(119, .bipush (-12))] (by decide +kernel) (Ps := []) (pc' := 121) (lv' := [(0, .ref 66), (1, .int (nI 3)), (2, .int xi), (3, .int (nI 3)), (4, .int xj), (5, .int (nI c))]) (st' := [.int (-(nI 12))]) (σ' := σ) rfl True.intro ?_
                        exact rw_iret hX (by decide +kernel) (⟨by simp only [aCopy, eq_true hk4, eq_true hu4, hcs, hct, eq_true h4, eq_true h11, eq_false h23, eq_false hso1, eq_true h32, eq_false hso2, eq_true h50, eq_false h58, eq_false h62, eq_false h67, eq_false h78, hcc, eq_true h89, eq_true h102, hcp, if_true, if_false, Bool.false_eq_true, and_self, and_true, true_and, and_false, false_and, oel_n, oel_s, decide_true, decide_false], by simp only [sCopyM, eq_true hk4, eq_true hu4, hcs, hct, eq_true h4, eq_true h11, eq_false h23, eq_false hso1, eq_true h32, eq_false hso2, eq_true h50, eq_false h58, eq_false h62, eq_false h67, eq_false h78, hcc, eq_true h89, eq_true h102, hcp, if_true, if_false, Bool.false_eq_true, and_self, and_true, true_and, and_false, false_and, oel_n, oel_s, decide_true, decide_false]⟩)
                      · replace h102 : ¬ (xi > nI (n 3 - c)) := h102
                        obtain ⟨a, ha, rfl⟩ := rng (m := n 3 - c) (by omega) ⟨Int32.not_lt.mp h62, Int32.not_lt.mp h102⟩
                        have hca : (nI a).toNatClampNeg = a := nI_clamp (by omega)
                        refine rw_go hX [(105, .iload 4), (107, .aload_n 0), (108, .getfield 94), (111, .iload_n 3), (112, .iaload)] (by decide +kernel) (Ps := [vp_in (nI 3) 4]) (pc' := 113) (lv' := [(0, .ref 66), (1, .int (nI 3)), (2, .int (nI a)), (3, .int (nI 3)), (4, .int xj), (5, .int (nI c))]) (st' := [.int (σ 98 (nI 3).toNatClampNeg), .int xj]) (σ' := σ) rfl (vp_in_nI (by omega) (by omega)) ?_
                        rw [show (σ 98 (nI 3).toNatClampNeg) = nI (n 3) from (by rw [nI_clamp (by omega), hnu.1])]
                        refine rw_go hX [(113, .iload 5), (115, .isub)] (by decide +kernel) (Ps := []) (pc' := 116) (lv' := [(0, .ref 66), (1, .int (nI 3)), (2, .int (nI a)), (3, .int (nI 3)), (4, .int xj), (5, .int (nI c))]) (st' := [.int (nI (n 3) - nI c), .int xj]) (σ' := σ) rfl True.intro ?_
                        rw [show (nI (n 3) - nI c) = nI (n 3 - c) from pk_sub (by omega)]
                        refine rw_icmp hX (tgt := 122) (cnd := .le) (off := 6) (by decide +kernel) (by decide) (fun h116 => ?_) (fun h116 => ?_)
                        · replace h116 : (xj ≤ nI (n 3 - c)) := h116
                          obtain ⟨b, hb, rfl⟩ := rng (m := n 3 - c) (by omega) ⟨Int32.not_lt.mp h67, h116⟩
                          have hcb : (nI b).toNatClampNeg = b := nI_clamp (by omega)
                          have hcp : pz (cpOK (nI a) (nI b) (nI c) (n 3) (n 3)) = true := pz_t ⟨a, b, c, rfl, rfl, rfl, by omega, by omega⟩
                          refine rw_go hX [(122, .iconst 0), (123, .istore 6)] (by decide +kernel) (Ps := []) (pc' := 125) (lv' := [(0, .ref 66), (1, .int (nI 3)), (2, .int (nI a)), (3, .int (nI 3)), (4, .int (nI b)), (5, .int (nI c)), (6, .int (nI 0))]) (st' := []) (σ' := σ) rfl True.intro ?_
                          have L125 : ∀ (μ125 : Nat) (i : Nat), μ125 = c - i → (i ≤ c) → RW E G 3 7 (QI E G (fun r σ' => r = aCopy n (σ 97) (nI 3) (nI a) (nI 3) (nI b) (nI c) ∧ σ' = sCopyM n σ (nI 3) (nI a) (nI 3) (nI b) (nI c))) 125 [(0, .ref 66), (1, .int (nI 3)), (2, .int (nI a)), (3, .int (nI 3)), (4, .int (nI b)), (5, .int (nI c)), (6, .int (nI i))] [] (sr σ 100 (va_cpy (σ 96) (σ 100) a 0 i)) := by
                            intro μ125
                            induction μ125 using Nat.strongRecOn with
                            | ind μ125 ih125 =>
                              intro i hμ125 hi
                              refine rw_go hX [(125, .iload 6), (127, .iload 5)] (by decide +kernel) (Ps := []) (pc' := 129) (lv' := [(0, .ref 66), (1, .int (nI 3)), (2, .int (nI a)), (3, .int (nI 3)), (4, .int (nI b)), (5, .int (nI c)), (6, .int (nI i))]) (st' := [.int (nI c), .int (nI i)]) (σ' := sr σ 100 (va_cpy (σ 96) (σ 100) a 0 i)) rfl True.intro ?_
                              refine rw_icmp hX (tgt := 156) (cnd := .ge) (off := 27) (by decide +kernel) (by decide) (fun h129 => ?_) (fun h129 => ?_)
                              · replace h129 := c2_geT h129
                                have ei : i = c := by omega
                                rw [ei]
                                refine rw_go hX [(156, .iconst 0), (157, .istore 6)] (by decide +kernel) (Ps := []) (pc' := 159) (lv' := [(0, .ref 66), (1, .int (nI 3)), (2, .int (nI a)), (3, .int (nI 3)), (4, .int (nI b)), (5, .int (nI c)), (6, .int (nI 0))]) (st' := []) (σ' := sr σ 100 (va_cpy (σ 96) (σ 100) a 0 c)) rfl True.intro ?_
                                have L159 : ∀ (μ159 : Nat) (i : Nat), μ159 = c - i → (i ≤ c) → RW E G 3 7 (QI E G (fun r σ' => r = aCopy n (σ 97) (nI 3) (nI a) (nI 3) (nI b) (nI c) ∧ σ' = sCopyM n σ (nI 3) (nI a) (nI 3) (nI b) (nI c))) 159 [(0, .ref 66), (1, .int (nI 3)), (2, .int (nI a)), (3, .int (nI 3)), (4, .int (nI b)), (5, .int (nI c)), (6, .int (nI i))] [] (sr (sr σ 100 (va_cpy (σ 96) (σ 100) a 0 c)) 96 (va_cpy (va_cpy (σ 96) (σ 100) a 0 c) (σ 96) 0 b i)) := by
                                  intro μ159
                                  induction μ159 using Nat.strongRecOn with
                                  | ind μ159 ih159 =>
                                    intro i hμ159 hi2
                                    refine rw_go hX [(159, .iload 6), (161, .iload 5)] (by decide +kernel) (Ps := []) (pc' := 163) (lv' := [(0, .ref 66), (1, .int (nI 3)), (2, .int (nI a)), (3, .int (nI 3)), (4, .int (nI b)), (5, .int (nI c)), (6, .int (nI i))]) (st' := [.int (nI c), .int (nI i)]) (σ' := sr (sr σ 100 (va_cpy (σ 96) (σ 100) a 0 c)) 96 (va_cpy (va_cpy (σ 96) (σ 100) a 0 c) (σ 96) 0 b i)) rfl True.intro ?_
                                    refine rw_icmp hX (tgt := 191) (cnd := .ge) (off := 28) (by decide +kernel) (by decide) (fun h163 => ?_) (fun h163 => ?_)
                                    · replace h163 := c2_geT h163
                                      have ei2 : i = c := by omega
                                      refine rw_go hX [(191, .iload 5)] (by decide +kernel) (Ps := []) (pc' := 193) (lv' := [(0, .ref 66), (1, .int (nI 3)), (2, .int (nI a)), (3, .int (nI 3)), (4, .int (nI b)), (5, .int (nI c)), (6, .int (nI i))]) (st' := [.int (nI c)]) (σ' := sr (sr σ 100 (va_cpy (σ 96) (σ 100) a 0 c)) 96 (va_cpy (va_cpy (σ 96) (σ 100) a 0 c) (σ 96) 0 b i)) rfl True.intro ?_
                                      exact rw_iret hX (by decide +kernel) (⟨by simp only [aCopy, eq_true hk4, eq_true hu4, hcs, hct, eq_true h4, eq_true h11, eq_false h23, eq_false hso1, eq_true h32, eq_false hso2, eq_true h50, eq_false h58, eq_false h62, eq_false h67, eq_false h78, hcc, eq_true h89, eq_false h102, hca, eq_true h116, hcb, hcp, eq_true h129, eq_true h163, if_true, if_false, Bool.false_eq_true, and_self, and_true, true_and, and_false, false_and, oel_n, oel_s, decide_true, decide_false], by simp only [sCopyM, eq_true hk4, eq_true hu4, hcs, hct, eq_true h4, eq_true h11, eq_false h23, eq_false hso1, eq_true h32, eq_false hso2, eq_true h50, eq_false h58, eq_false h62, eq_false h67, eq_false h78, hcc, eq_true h89, eq_false h102, hca, eq_true h116, hcb, hcp, eq_true h129, eq_true h163, if_true, if_false, Bool.false_eq_true, and_self, and_true, true_and, and_false, false_and, oel_n, oel_s, decide_true, decide_false]; rw [ei2]; rfl⟩)
                                    · replace h163 := c2_geF h163
                                      refine rw_go hX [(166, .aload_n 0), (167, .getfield 88), (170, .iload_n 3), (171, .aaload), (172, .iload 4), (174, .iload 6), (176, .iadd)] (by decide +kernel) (Ps := [vp_in (nI 3) 4]) (pc' := 177) (lv' := [(0, .ref 66), (1, .int (nI 3)), (2, .int (nI a)), (3, .int (nI 3)), (4, .int (nI b)), (5, .int (nI c)), (6, .int (nI i))]) (st' := [.int (nI b + nI i), .ref 96]) (σ' := sr (sr σ 100 (va_cpy (σ 96) (σ 100) a 0 c)) 96 (va_cpy (va_cpy (σ 96) (σ 100) a 0 c) (σ 96) 0 b i)) rfl (vp_in_nI (by omega) (by omega)) ?_
                                      rw [show (nI b + nI i) = nI (b + i) from nI_add _ _]
                                      refine rw_go hX [(177, .aload_n 0), (178, .getfield 100), (181, .iload 6), (183, .iaload)] (by decide +kernel) (Ps := [vp_in (nI i) 40]) (pc' := 184) (lv' := [(0, .ref 66), (1, .int (nI 3)), (2, .int (nI a)), (3, .int (nI 3)), (4, .int (nI b)), (5, .int (nI c)), (6, .int (nI i))]) (st' := [.int ((sr (sr σ 100 (va_cpy (σ 96) (σ 100) a 0 c)) 96 (va_cpy (va_cpy (σ 96) (σ 100) a 0 c) (σ 96) 0 b i)) 100 (nI i).toNatClampNeg), .int (nI (b + i)), .ref 96]) (σ' := sr (sr σ 100 (va_cpy (σ 96) (σ 100) a 0 c)) 96 (va_cpy (va_cpy (σ 96) (σ 100) a 0 c) (σ 96) 0 b i)) rfl (vp_in_nI (by omega) (by omega)) ?_
                                      rw [show ((sr (sr σ 100 (va_cpy (σ 96) (σ 100) a 0 c)) 96 (va_cpy (va_cpy (σ 96) (σ 100) a 0 c) (σ 96) 0 b i)) 100 (nI i).toNatClampNeg) = (va_cpy (σ 96) (σ 100) a 0 c) i from (by rw [nI_clamp (by omega), sr_n _ _ (by decide), sr_s])]
                                      refine rw_go hX [(184, .iastore)] (by decide +kernel) (Ps := [vp_in (nI (b + i)) 40]) (pc' := 185) (lv' := [(0, .ref 66), (1, .int (nI 3)), (2, .int (nI a)), (3, .int (nI 3)), (4, .int (nI b)), (5, .int (nI c)), (6, .int (nI i))]) (st' := []) (σ' := sw (sr (sr σ 100 (va_cpy (σ 96) (σ 100) a 0 c)) 96 (va_cpy (va_cpy (σ 96) (σ 100) a 0 c) (σ 96) 0 b i)) 96 (nI (b + i)).toNatClampNeg ((va_cpy (σ 96) (σ 100) a 0 c) i)) rfl (vp_in_nI (by omega) (by omega)) ?_
                                      rw [show (sw (sr (sr σ 100 (va_cpy (σ 96) (σ 100) a 0 c)) 96 (va_cpy (va_cpy (σ 96) (σ 100) a 0 c) (σ 96) 0 b i)) 96 (nI (b + i)).toNatClampNeg ((va_cpy (σ 96) (σ 100) a 0 c) i)) = sw (sr (sr σ 100 (va_cpy (σ 96) (σ 100) a 0 c)) 96 (va_cpy (va_cpy (σ 96) (σ 100) a 0 c) (σ 96) 0 b i)) 96 (b + i) ((va_cpy (σ 96) (σ 100) a 0 c) i) from (by rw [nI_clamp (by omega)])]
                                      refine rw_go hX [(185, .iinc 6 1)] (by decide +kernel) (Ps := []) (pc' := 188) (lv' := [(0, .ref 66), (1, .int (nI 3)), (2, .int (nI a)), (3, .int (nI 3)), (4, .int (nI b)), (5, .int (nI c)), (6, .int (nI i + nI 1))]) (st' := []) (σ' := sw (sr (sr σ 100 (va_cpy (σ 96) (σ 100) a 0 c)) 96 (va_cpy (va_cpy (σ 96) (σ 100) a 0 c) (σ 96) 0 b i)) 96 (b + i) ((va_cpy (σ 96) (σ 100) a 0 c) i)) rfl True.intro ?_
                                      rw [show (nI i + nI 1) = nI (i + 1) from nI_add _ _]
                                      refine rw_go hX [(188, .goto (-29))] (by decide +kernel) (Ps := []) (pc' := 159) (lv' := [(0, .ref 66), (1, .int (nI 3)), (2, .int (nI a)), (3, .int (nI 3)), (4, .int (nI b)), (5, .int (nI c)), (6, .int (nI (i + 1)))]) (st' := []) (σ' := sw (sr (sr σ 100 (va_cpy (σ 96) (σ 100) a 0 c)) 96 (va_cpy (va_cpy (σ 96) (σ 100) a 0 c) (σ 96) 0 b i)) 96 (b + i) ((va_cpy (σ 96) (σ 100) a 0 c) i)) rfl True.intro ?_
                                      refine rw_lsub (ks := [0, 1, 2, 3, 4, 5, 6]) (lv' := [(0, .ref 66), (1, .int (nI 3)), (2, .int (nI a)), (3, .int (nI 3)), (4, .int (nI b)), (5, .int (nI c)), (6, .int (nI (i + 1)))]) rfl ?_
                                      have q := ih159 (c - (i + 1)) (by omega) (i + 1) rfl (by omega)
                                      rw [← cpy_1, Nat.zero_add] at q
                                      rw [sw_sr]
                                      exact q
                                refine rw_lsub (ks := [0, 1, 2, 3, 4, 5, 6]) (lv' := [(0, .ref 66), (1, .int (nI 3)), (2, .int (nI a)), (3, .int (nI 3)), (4, .int (nI b)), (5, .int (nI c)), (6, .int (nI 0))]) rfl ?_
                                have q := L159 c 0 rfl (by omega)
                                rw [cpy_0, show sr (sr σ 100 (va_cpy (σ 96) (σ 100) a 0 c)) 96 (σ 96) = sr σ 100 (va_cpy (σ 96) (σ 100) a 0 c) from by
                                  funext q
                                  by_cases z : q = 96
                                  · subst z; rw [sr_s, sr_n _ _ (by decide)]
                                  · rw [sr_n _ _ z]] at q
                                exact q
                              · replace h129 := c2_geF h129
                                refine rw_go hX [(132, .aload_n 0), (133, .getfield 100), (136, .iload 6), (138, .aload_n 0), (139, .getfield 88), (142, .iload_n 1), (143, .aaload), (144, .iload_n 2), (145, .iload 6), (147, .iadd)] (by decide +kernel) (Ps := [vp_in (nI 3) 4]) (pc' := 148) (lv' := [(0, .ref 66), (1, .int (nI 3)), (2, .int (nI a)), (3, .int (nI 3)), (4, .int (nI b)), (5, .int (nI c)), (6, .int (nI i))]) (st' := [.int (nI a + nI i), .ref 96, .int (nI i), .ref 100]) (σ' := sr σ 100 (va_cpy (σ 96) (σ 100) a 0 i)) rfl (vp_in_nI (by omega) (by omega)) ?_
                                rw [show (nI a + nI i) = nI (a + i) from nI_add _ _]
                                refine rw_go hX [(148, .iaload)] (by decide +kernel) (Ps := [vp_in (nI (a + i)) 40]) (pc' := 149) (lv' := [(0, .ref 66), (1, .int (nI 3)), (2, .int (nI a)), (3, .int (nI 3)), (4, .int (nI b)), (5, .int (nI c)), (6, .int (nI i))]) (st' := [.int ((sr σ 100 (va_cpy (σ 96) (σ 100) a 0 i)) 96 (nI (a + i)).toNatClampNeg), .int (nI i), .ref 100]) (σ' := sr σ 100 (va_cpy (σ 96) (σ 100) a 0 i)) rfl (vp_in_nI (by omega) (by omega)) ?_
                                rw [show ((sr σ 100 (va_cpy (σ 96) (σ 100) a 0 i)) 96 (nI (a + i)).toNatClampNeg) = σ 96 (a + i) from (by rw [nI_clamp (by omega), sr_n _ _ (by decide)])]
                                refine rw_go hX [(149, .iastore)] (by decide +kernel) (Ps := [vp_in (nI i) 40]) (pc' := 150) (lv' := [(0, .ref 66), (1, .int (nI 3)), (2, .int (nI a)), (3, .int (nI 3)), (4, .int (nI b)), (5, .int (nI c)), (6, .int (nI i))]) (st' := []) (σ' := sw (sr σ 100 (va_cpy (σ 96) (σ 100) a 0 i)) 100 (nI i).toNatClampNeg (σ 96 (a + i))) rfl (vp_in_nI (by omega) (by omega)) ?_
                                rw [show (sw (sr σ 100 (va_cpy (σ 96) (σ 100) a 0 i)) 100 (nI i).toNatClampNeg (σ 96 (a + i))) = sw (sr σ 100 (va_cpy (σ 96) (σ 100) a 0 i)) 100 i (σ 96 (a + i)) from (by rw [nI_clamp (by omega)])]
                                refine rw_go hX [(150, .iinc 6 1)] (by decide +kernel) (Ps := []) (pc' := 153) (lv' := [(0, .ref 66), (1, .int (nI 3)), (2, .int (nI a)), (3, .int (nI 3)), (4, .int (nI b)), (5, .int (nI c)), (6, .int (nI i + nI 1))]) (st' := []) (σ' := sw (sr σ 100 (va_cpy (σ 96) (σ 100) a 0 i)) 100 i (σ 96 (a + i))) rfl True.intro ?_
                                rw [show (nI i + nI 1) = nI (i + 1) from nI_add _ _]
                                refine rw_go hX [(153, .goto (-28))] (by decide +kernel) (Ps := []) (pc' := 125) (lv' := [(0, .ref 66), (1, .int (nI 3)), (2, .int (nI a)), (3, .int (nI 3)), (4, .int (nI b)), (5, .int (nI c)), (6, .int (nI (i + 1)))]) (st' := []) (σ' := sw (sr σ 100 (va_cpy (σ 96) (σ 100) a 0 i)) 100 i (σ 96 (a + i))) rfl True.intro ?_
                                refine rw_lsub (ks := [0, 1, 2, 3, 4, 5, 6]) (lv' := [(0, .ref 66), (1, .int (nI 3)), (2, .int (nI a)), (3, .int (nI 3)), (4, .int (nI b)), (5, .int (nI c)), (6, .int (nI (i + 1)))]) rfl ?_
                                have q := ih125 (c - (i + 1)) (by omega) (i + 1) rfl (by omega)
                                rw [← cpy_1, Nat.zero_add] at q
                                rw [sw_sr]
                                exact q
                          refine rw_lsub (ks := [0, 1, 2, 3, 4, 5, 6]) (lv' := [(0, .ref 66), (1, .int (nI 3)), (2, .int (nI a)), (3, .int (nI 3)), (4, .int (nI b)), (5, .int (nI c)), (6, .int (nI 0))]) rfl ?_
                          have q := L125 c 0 rfl (by omega)
                          rw [cpy_0, sr_id] at q
                          exact q
                        · replace h116 : ¬ (xj ≤ nI (n 3 - c)) := h116
                          have hcp : pz (cpOK (nI a) xj (nI c) (n 3) (n 3)) = false := pz_f fun ⟨a9, b9, k9, e1, e2, e3, g1, g2⟩ => by
                            have e9 := (nI_eq (by omega) (by omega)).mp e3
                            rw [e2] at h116
                            exact absurd (nI_le (by omega) (by omega)) h116
                          refine rw_go hX [(119, .bipush (-12))] (by decide +kernel) (Ps := []) (pc' := 121) (lv' := [(0, .ref 66), (1, .int (nI 3)), (2, .int (nI a)), (3, .int (nI 3)), (4, .int xj), (5, .int (nI c))]) (st' := [.int (-(nI 12))]) (σ' := σ) rfl True.intro ?_
                          exact rw_iret hX (by decide +kernel) (⟨by simp only [aCopy, eq_true hk4, eq_true hu4, hcs, hct, eq_true h4, eq_true h11, eq_false h23, eq_false hso1, eq_true h32, eq_false hso2, eq_true h50, eq_false h58, eq_false h62, eq_false h67, eq_false h78, hcc, eq_true h89, eq_false h102, hca, eq_false h116, hcp, if_true, if_false, Bool.false_eq_true, and_self, and_true, true_and, and_false, false_and, oel_n, oel_s, decide_true, decide_false], by simp only [sCopyM, eq_true hk4, eq_true hu4, hcs, hct, eq_true h4, eq_true h11, eq_false h23, eq_false hso1, eq_true h32, eq_false hso2, eq_true h50, eq_false h58, eq_false h62, eq_false h67, eq_false h78, hcc, eq_true h89, eq_false h102, hca, eq_false h116, hcp, if_true, if_false, Bool.false_eq_true, and_self, and_true, true_and, and_false, false_and, oel_n, oel_s, decide_true, decide_false]⟩)
          · replace h50 : ¬ (σ 97 3 = σ 97 3) := h50
            exact absurd rfl h50
        · replace h32 : ¬ (σ 97 3 ≥ 0) := h32
          exact absurd ((so_m hou).mp (Int32.not_le.mp h32)) hso1
    · exact absurd (by simp only [cz, cc2]; decide +kernel) h11
set_option maxRecDepth 20000 in
set_option maxHeartbeats 800000 in
theorem g_copyO (l : Launch) (G : Gl) (σ : Mm) (n : Nat → Nat) (xs xi xu xj xk : Int32) (hx : ¬ (0 ≤ xs ∧ xs ≤ 3)) : AMi l G 3 mX10_copy [.ref 66, .int xs, .int xi, .int xu, .int xj, .int xk] σ (fun r σ' => r = aCopy n (σ 97) xs xi xu xj xk ∧ σ' = sCopyM n σ xs xi xu xj xk) := by
  refine rw_inI 10 (by decide +kernel) rfl rfl ?_
  intro E hE hX
  subst hE
  refine rw_go hX [(0, .iload_n 1)] (by decide +kernel) (Ps := []) (pc' := 1) (lv' := [(0, .ref 66), (1, .int xs), (2, .int xi), (3, .int xu), (4, .int xj), (5, .int xk)]) (st' := [.int xs]) (σ' := σ) rfl True.intro ?_
  refine rw_callSi hX (as := [.int xs]) (rest := []) (m_isSheet _ _ _ xs) (by decide +kernel) msX10_isSheet (Or.inl lk10_298) rfl (by decide) (Nat.le_of_ble_eq_true rfl) rfl ?_
  intro r1 σ1 hr
  rw [hr.1, show r1 = nI 0 from hr.2.trans (by rw [decide_eq_false hx]; rfl)]
  clear hr σ1 r1
  refine rw_if hX (tgt := 14) (cnd := .eq) (off := 10) (by decide +kernel) (by decide) (fun h4 => ?_) (fun h4 => ?_)
  · skip
    refine rw_go hX [(14, .bipush (-2))] (by decide +kernel) (Ps := []) (pc' := 16) (lv' := [(0, .ref 66), (1, .int xs), (2, .int xi), (3, .int xu), (4, .int xj), (5, .int xk)]) (st' := [.int (-(nI 2))]) (σ' := σ) rfl True.intro ?_
    exact rw_iret hX (by decide +kernel) (⟨by simp only [aCopy, eq_false hx, if_true, if_false, Bool.false_eq_true, and_self, and_true, true_and, and_false, false_and, oel_n, oel_s, decide_true, decide_false], by simp only [sCopyM, eq_false hx, if_true, if_false, Bool.false_eq_true, and_self, and_true, true_and, and_false, false_and, oel_n, oel_s, decide_true, decide_false]⟩)
  · exact absurd (by simp only [cz, cc2]; decide +kernel) h4
set_option maxRecDepth 20000 in
set_option maxHeartbeats 800000 in
theorem g_copyP (l : Launch) (G : Gl) (σ : Mm) (n : Nat → Nat) (xs xi xu xj xk : Int32) (hy : 0 ≤ xs ∧ xs ≤ 3) (hx : ¬ (0 ≤ xu ∧ xu ≤ 3)) : AMi l G 3 mX10_copy [.ref 66, .int xs, .int xi, .int xu, .int xj, .int xk] σ (fun r σ' => r = aCopy n (σ 97) xs xi xu xj xk ∧ σ' = sCopyM n σ xs xi xu xj xk) := by
  refine rw_inI 10 (by decide +kernel) rfl rfl ?_
  intro E hE hX
  subst hE
  refine rw_go hX [(0, .iload_n 1)] (by decide +kernel) (Ps := []) (pc' := 1) (lv' := [(0, .ref 66), (1, .int xs), (2, .int xi), (3, .int xu), (4, .int xj), (5, .int xk)]) (st' := [.int xs]) (σ' := σ) rfl True.intro ?_
  refine rw_callSi hX (as := [.int xs]) (rest := []) (m_isSheet _ _ _ xs) (by decide +kernel) msX10_isSheet (Or.inl lk10_298) rfl (by decide) (Nat.le_of_ble_eq_true rfl) rfl ?_
  intro r1 σ1 hr
  rw [hr.1, show r1 = nI 1 from hr.2.trans (by rw [decide_eq_true hy]; rfl)]
  clear hr σ1 r1
  refine rw_if hX (tgt := 14) (cnd := .eq) (off := 10) (by decide +kernel) (by decide) (fun h4 => ?_) (fun h4 => ?_)
  · exact absurd h4 (by simp only [cz, cc2]; decide +kernel)
  · skip
    refine rw_go hX [(7, .iload_n 3)] (by decide +kernel) (Ps := []) (pc' := 8) (lv' := [(0, .ref 66), (1, .int xs), (2, .int xi), (3, .int xu), (4, .int xj), (5, .int xk)]) (st' := [.int xu]) (σ' := σ) rfl True.intro ?_
    refine rw_callSi hX (as := [.int xu]) (rest := []) (m_isSheet _ _ _ xu) (by decide +kernel) msX10_isSheet (Or.inl lk10_298) rfl (by decide) (Nat.le_of_ble_eq_true rfl) rfl ?_
    intro r1 σ1 hr
    rw [hr.1, show r1 = nI 0 from hr.2.trans (by rw [decide_eq_false hx]; rfl)]
    clear hr σ1 r1
    refine rw_if hX (tgt := 17) (cnd := .ne) (off := 6) (by decide +kernel) (by decide) (fun h11 => ?_) (fun h11 => ?_)
    · exact absurd h11 (by simp only [cz, cc2]; decide +kernel)
    · skip
      refine rw_go hX [(14, .bipush (-2))] (by decide +kernel) (Ps := []) (pc' := 16) (lv' := [(0, .ref 66), (1, .int xs), (2, .int xi), (3, .int xu), (4, .int xj), (5, .int xk)]) (st' := [.int (-(nI 2))]) (σ' := σ) rfl True.intro ?_
      exact rw_iret hX (by decide +kernel) (⟨by simp only [aCopy, eq_true hy, eq_false hx, if_true, if_false, Bool.false_eq_true, and_self, and_true, true_and, and_false, false_and, oel_n, oel_s, decide_true, decide_false], by simp only [sCopyM, eq_true hy, eq_false hx, if_true, if_false, Bool.false_eq_true, and_self, and_true, true_and, and_false, false_and, oel_n, oel_s, decide_true, decide_false]⟩)
theorem g_copy (l : Launch) (G : Gl) (σ : Mm) (n : Nat → Nat) (xs xi xu xj xk : Int32) (hsh : ∀ s, s < 4 → σ 98 s = nI (n s) ∧ n s ≤ 40) (hso : ∀ s, s < 4 → σ 97 s = -(nI 1) ∨ σ 97 s = nI 0 ∨ σ 97 s = nI 1) : AMi l G 3 mX10_copy [.ref 66, .int xs, .int xi, .int xu, .int xj, .int xk] σ (fun r σ' => r = aCopy n (σ 97) xs xi xu xj xk ∧ σ' = sCopyM n σ xs xi xu xj xk) := by
  by_cases h : 0 ≤ xs ∧ xs ≤ 3
  · by_cases h2 : 0 ≤ xu ∧ xu ≤ 3
    · rcases sh4q h with rfl | rfl | rfl | rfl <;> rcases sh4q h2 with rfl | rfl | rfl | rfl
      · exact g_copy_0_0 l G σ n xi xj xk hsh hso
      · exact g_copy_0_1 l G σ n xi xj xk hsh hso
      · exact g_copy_0_2 l G σ n xi xj xk hsh hso
      · exact g_copy_0_3 l G σ n xi xj xk hsh hso
      · exact g_copy_1_0 l G σ n xi xj xk hsh hso
      · exact g_copy_1_1 l G σ n xi xj xk hsh hso
      · exact g_copy_1_2 l G σ n xi xj xk hsh hso
      · exact g_copy_1_3 l G σ n xi xj xk hsh hso
      · exact g_copy_2_0 l G σ n xi xj xk hsh hso
      · exact g_copy_2_1 l G σ n xi xj xk hsh hso
      · exact g_copy_2_2 l G σ n xi xj xk hsh hso
      · exact g_copy_2_3 l G σ n xi xj xk hsh hso
      · exact g_copy_3_0 l G σ n xi xj xk hsh hso
      · exact g_copy_3_1 l G σ n xi xj xk hsh hso
      · exact g_copy_3_2 l G σ n xi xj xk hsh hso
      · exact g_copy_3_3 l G σ n xi xj xk hsh hso
    · exact g_copyP l G σ n xs xi xu xj xk h h2
  · exact g_copyO l G σ n xs xi xu xj xk h
