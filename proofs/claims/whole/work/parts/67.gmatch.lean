/-! the model: the calls on prints and matches -/
theorem pAtF_out {V : Mm} {w n : Nat} {k : Int32} (hn : n ≤ 50) (h : ¬ (0 ≤ k ∧ k < nI (pNs V w n))) : pAtF V w k n = none := pAtF_none fun g hg hp z => by
  have l2 : pNs V w g ≤ g := cB_le _ g
  have l3 : pNs V w (g + 1) ≤ pNs V w n := cB_up _ (by omega)
  have l4 : pNs V w (g + 1) = pNs V w g + 1 := cB_y hp
  have l5 : pNs V w n ≤ n := cB_le _ n
  exact h (by rw [← z]; exact ⟨nI_pos' (by omega), nI_lt (by omega) (by omega)⟩)
set_option maxRecDepth 20000 in
set_option maxHeartbeats 4000000 in
theorem m_printsOf (l : Launch) (G : Gl) (σ : Mm) (V : Mm) (w : Nat) (hv : wf V) (hw : w < 5) (h71 : σ 71 = V 4) (hA : RDm V w σ) : AMi l G 1 mX10_printsOf [.ref 66, .int (nI w)] σ (fun r σ' => σ' = σ ∧ r = nI (pNs V w (gC V w))) := by
  refine rw_inI 10 (by decide +kernel) rfl rfl ?_
  intro E hE hX
  subst hE
  have hg5 := gC_50 hv hw
  refine rw_go hX [(0, .iconst 0), (1, .istore_n 2), (2, .iconst 0), (3, .istore_n 3)] (by decide +kernel) (Ps := []) (pc' := 4) (lv' := [(0, .ref 66), (1, .int (nI w)), (2, .int (nI 0)), (3, .int (nI 0))]) (st' := []) (σ' := σ) rfl True.intro ?_
  have L4 : ∀ (μ4 : Nat) (g : Nat), μ4 = gC V w - g → (g ≤ gC V w) → RW E G 1 4 (QI E G (fun r σ' => σ' = σ ∧ r = nI (pNs V w (gC V w)))) 4 [(0, .ref 66), (1, .int (nI w)), (2, .int (nI (pNs V w g))), (3, .int (nI g))] [] σ := by
    intro μ4
    induction μ4 using Nat.strongRecOn with
    | ind μ4 ih4 =>
      intro g hμ4 hg
      refine rw_go hX [(4, .iload_n 3), (5, .aload_n 0), (6, .iload_n 1)] (by decide +kernel) (Ps := []) (pc' := 7) (lv' := [(0, .ref 66), (1, .int (nI w)), (2, .int (nI (pNs V w g))), (3, .int (nI g))]) (st' := [.int (nI w), .ref 66, .int (nI g)]) (σ' := σ) rfl True.intro ?_
      refine rw_callVi hX (as := [.int (nI w)]) (rest := [.int (nI g)]) (m_gramsV _ _ _ V w hv hw h71 hA) (by decide +kernel) mvX10_grams lk10_187 (ci := 9) rfl rfl rfl (by decide) (Nat.le_of_ble_eq_true rfl) rfl ?_
      intro r1 σ1 hr
      rw [hr.1, show r1 = nI (gC V w) from hr.2]
      clear hr σ1 r1
      refine rw_icmp hX (tgt := 41) (cnd := .ge) (off := 31) (by decide +kernel) (by decide) (fun h10 => ?_) (fun h10 => ?_)
      · replace h10 := c2_geT h10
        have eg : g = gC V w := by omega
        refine rw_go hX [(41, .iload_n 2)] (by decide +kernel) (Ps := []) (pc' := 42) (lv' := [(0, .ref 66), (1, .int (nI w)), (2, .int (nI (pNs V w g))), (3, .int (nI g))]) (st' := [.int (nI (pNs V w g))]) (σ' := σ) rfl True.intro ?_
        exact rw_iret hX (by decide +kernel) (⟨rfl, by rw [eg]⟩)
      · replace h10 := c2_geF h10
        have hP := PR_of hA h10
        refine rw_go hX [(13, .iload_n 2), (14, .aload_n 0), (15, .getfield 46), (18, .bipush 50), (20, .iload_n 1), (21, .imul)] (by decide +kernel) (Ps := []) (pc' := 22) (lv' := [(0, .ref 66), (1, .int (nI w)), (2, .int (nI (pNs V w g))), (3, .int (nI g))]) (st' := [.int (nI 50 * nI w), .ref 79, .int (nI (pNs V w g))]) (σ' := σ) rfl True.intro ?_
        rw [show (nI 50 * nI w) = nI (50 * w) from pk_mul _ _]
        refine rw_go hX [(22, .iload_n 3), (23, .iadd)] (by decide +kernel) (Ps := []) (pc' := 24) (lv' := [(0, .ref 66), (1, .int (nI w)), (2, .int (nI (pNs V w g))), (3, .int (nI g))]) (st' := [.int (nI (50 * w) + nI g), .ref 79, .int (nI (pNs V w g))]) (σ' := σ) rfl True.intro ?_
        rw [show (nI (50 * w) + nI g) = nI (50 * w + g) from nI_add _ _]
        refine rw_go hX [(24, .baload)] (by decide +kernel) (Ps := [vp_in (nI (50 * w + g)) 250]) (pc' := 25) (lv' := [(0, .ref 66), (1, .int (nI w)), (2, .int (nI (pNs V w g))), (3, .int (nI g))]) (st' := [.int (σ 79 (nI (50 * w + g)).toNatClampNeg), .int (nI (pNs V w g))]) (σ' := σ) rfl (vp_in_nI (by omega) (by omega)) ?_
        rw [show (σ 79 (nI (50 * w + g)).toNatClampNeg) = σ 79 (50 * w + g) from (by rw [nI_clamp (by omega)])]
        refine rw_if hX (tgt := 32) (cnd := .eq) (off := 7) (by decide +kernel) (by decide) (fun h25 => ?_) (fun h25 => ?_)
        · replace h25 : (σ 79 (50 * w + g) = 0) := h25
          refine rw_go hX [(32, .iconst 0), (33, .iadd)] (by decide +kernel) (Ps := []) (pc' := 34) (lv' := [(0, .ref 66), (1, .int (nI w)), (2, .int (nI (pNs V w g))), (3, .int (nI g))]) (st' := [.int (nI (pNs V w g) + nI 0)]) (σ' := σ) rfl True.intro ?_
          rw [show (nI (pNs V w g) + nI 0) = nI (pNs V w g + 0) from nI_add _ _]
          refine rw_go hX [(34, .istore_n 2), (35, .iinc 3 1)] (by decide +kernel) (Ps := []) (pc' := 38) (lv' := [(0, .ref 66), (1, .int (nI w)), (2, .int (nI (pNs V w g + 0))), (3, .int (nI g + nI 1))]) (st' := []) (σ' := σ) rfl True.intro ?_
          rw [show (nI g + nI 1) = nI (g + 1) from nI_add _ _]
          refine rw_go hX [(38, .goto (-34))] (by decide +kernel) (Ps := []) (pc' := 4) (lv' := [(0, .ref 66), (1, .int (nI w)), (2, .int (nI (pNs V w g + 0))), (3, .int (nI (g + 1)))]) (st' := []) (σ' := σ) rfl True.intro ?_
          refine rw_lsub (ks := [0, 1, 2, 3]) (lv' := [(0, .ref 66), (1, .int (nI w)), (2, .int (nI (pNs V w g + 0))), (3, .int (nI (g + 1)))]) rfl ?_
          have q := ih4 (gC V w - (g + 1)) (by omega) (g + 1) rfl (by omega)
          rw [show pNs V w (g + 1) = pNs V w g + 0 from cB_n (hP.1 h25)] at q
          exact q
        · replace h25 : ¬ (σ 79 (50 * w + g) = 0) := h25
          refine rw_go hX [(28, .iconst 1), (29, .goto 4), (33, .iadd)] (by decide +kernel) (Ps := []) (pc' := 34) (lv' := [(0, .ref 66), (1, .int (nI w)), (2, .int (nI (pNs V w g))), (3, .int (nI g))]) (st' := [.int (nI (pNs V w g) + nI 1)]) (σ' := σ) rfl True.intro ?_
          rw [show (nI (pNs V w g) + nI 1) = nI (pNs V w g + 1) from nI_add _ _]
          refine rw_go hX [(34, .istore_n 2), (35, .iinc 3 1)] (by decide +kernel) (Ps := []) (pc' := 38) (lv' := [(0, .ref 66), (1, .int (nI w)), (2, .int (nI (pNs V w g + 1))), (3, .int (nI g + nI 1))]) (st' := []) (σ' := σ) rfl True.intro ?_
          rw [show (nI g + nI 1) = nI (g + 1) from nI_add _ _]
          refine rw_go hX [(38, .goto (-34))] (by decide +kernel) (Ps := []) (pc' := 4) (lv' := [(0, .ref 66), (1, .int (nI w)), (2, .int (nI (pNs V w g + 1))), (3, .int (nI (g + 1)))]) (st' := []) (σ' := σ) rfl True.intro ?_
          refine rw_lsub (ks := [0, 1, 2, 3]) (lv' := [(0, .ref 66), (1, .int (nI w)), (2, .int (nI (pNs V w g + 1))), (3, .int (nI (g + 1)))]) rfl ?_
          have q := ih4 (gC V w - (g + 1)) (by omega) (g + 1) rfl (by omega)
          rw [show pNs V w (g + 1) = pNs V w g + 1 from cB_y (hP.2 h25)] at q
          exact q
  refine rw_lsub (ks := [0, 1, 2, 3]) (lv' := [(0, .ref 66), (1, .int (nI w)), (2, .int (nI 0)), (3, .int (nI 0))]) rfl ?_
  exact L4 (gC V w) 0 rfl (by omega)
set_option maxRecDepth 20000 in
set_option maxHeartbeats 4000000 in
theorem m_nthPrint (l : Launch) (G : Gl) (σ : Mm) (V : Mm) (w k : Nat) (hv : wf V) (hw : w < 5) (hA : RDm V w σ) (hk : k < pNs V w (gC V w)) : AMi l G 0 mX10_nthPrint [.ref 66, .int (nI w), .int (nI k)] σ (fun r σ' => σ' = σ ∧ ∃ g, g < gC V w ∧ pAtF V w (nI k) (gC V w) = some g ∧ r = nI g) := by
  refine rw_inI 10 (by decide +kernel) rfl rfl ?_
  intro E hE hX
  subst hE
  have hg5 := gC_50 hv hw
  have hpn : pNs V w (gC V w) ≤ gC V w := cB_le _ _
  refine rw_go hX [(0, .iconst (-1)), (1, .istore_n 3), (2, .iload_n 2), (3, .istore 4)] (by decide +kernel) (Ps := []) (pc' := 5) (lv' := [(0, .ref 66), (1, .int (nI w)), (2, .int (nI k)), (3, .int (-(nI 1))), (4, .int (nI k))]) (st' := []) (σ' := σ) rfl True.intro ?_
  have L5 : ∀ (μ5 : Nat) (t c : Nat), μ5 = k + 1 - t → (t ≤ k + 1) → (pNs V w c = t) → (1 ≤ t → 1 ≤ c ∧ c ≤ gC V w ∧ PR V (50 * w + (c - 1)) = true) → RW E G 0 5 (QI E G (fun r σ' => σ' = σ ∧ ∃ g, g < gC V w ∧ pAtF V w (nI k) (gC V w) = some g ∧ r = nI g)) 5 [(0, .ref 66), (1, .int (nI w)), (2, .int (nI k)), (3, .int (nI c - nI 1)), (4, .int (nI (k + 1 - t) - nI 1))] [] σ := by
    intro μ5
    induction μ5 using Nat.strongRecOn with
    | ind μ5 ih5 =>
      intro t c hμ5 ht hct hcp
      refine rw_go hX [(5, .iload 4)] (by decide +kernel) (Ps := []) (pc' := 7) (lv' := [(0, .ref 66), (1, .int (nI w)), (2, .int (nI k)), (3, .int (nI c - nI 1)), (4, .int (nI (k + 1 - t) - nI 1))]) (st' := [.int (nI (k + 1 - t) - nI 1)]) (σ' := σ) rfl True.intro ?_
      refine rw_if hX (tgt := 39) (cnd := .lt) (off := 32) (by decide +kernel) (by decide) (fun h7 => ?_) (fun h7 => ?_)
      · have et := neg1 (by omega) h7
        obtain ⟨hc1, hc2, hc3⟩ := hcp (by omega)
        refine rw_go hX [(39, .iload_n 3)] (by decide +kernel) (Ps := []) (pc' := 40) (lv' := [(0, .ref 66), (1, .int (nI w)), (2, .int (nI k)), (3, .int (nI c - nI 1)), (4, .int (nI (k + 1 - t) - nI 1))]) (st' := [.int (nI c - nI 1)]) (σ' := σ) rfl True.intro ?_
        exact rw_iret hX (by decide +kernel) (by
  refine ⟨rfl, c - 1, by omega, ?_, by rw [pk_sub hc1]⟩
  have e1 : pNs V w (c - 1 + 1) = pNs V w (c - 1) + 1 := cB_y hc3
  rw [show c - 1 + 1 = c by omega] at e1
  exact pAtF_some hc3 (by rw [show pNs V w (c - 1) = k by omega]) (by omega) (by omega) (by omega))
      · have h1t := nneg1 h7
        rw [show (nI (k + 1 - t) - nI 1) = nI (k - t) from (by rw [pk_sub h1t, show k + 1 - t - 1 = k - t from by omega])]
        refine rw_go hX [(10, .iinc 3 1)] (by decide +kernel) (Ps := []) (pc' := 13) (lv' := [(0, .ref 66), (1, .int (nI w)), (2, .int (nI k)), (3, .int ((nI c - nI 1) + nI 1)), (4, .int (nI (k - t)))]) (st' := []) (σ' := σ) rfl True.intro ?_
        have L13 : ∀ (μ13 : Nat) (c : Nat), μ13 = gC V w - c → (pNs V w c = t) → RW E G 0 5 (QI E G (fun r σ' => σ' = σ ∧ ∃ g, g < gC V w ∧ pAtF V w (nI k) (gC V w) = some g ∧ r = nI g)) 13 [(0, .ref 66), (1, .int (nI w)), (2, .int (nI k)), (3, .int (nI c)), (4, .int (nI (k - t)))] [] σ := by
          intro μ13
          induction μ13 using Nat.strongRecOn with
          | ind μ13 ih13 =>
            intro c hμ13 hct
            have hcg : c < gC V w := by
              rcases Nat.lt_or_ge c (gC V w) with q | q
              · exact q
              · have : pNs V w (gC V w) ≤ pNs V w c := cB_up _ q
                omega
            have hP := PR_of hA hcg
            try rw [sub1_add]
            refine rw_go hX [(13, .aload_n 0), (14, .getfield 46), (17, .bipush 50), (19, .iload_n 1), (20, .imul)] (by decide +kernel) (Ps := []) (pc' := 21) (lv' := [(0, .ref 66), (1, .int (nI w)), (2, .int (nI k)), (3, .int (nI c)), (4, .int (nI (k - t)))]) (st' := [.int (nI 50 * nI w), .ref 79]) (σ' := σ) rfl True.intro ?_
            rw [show (nI 50 * nI w) = nI (50 * w) from pk_mul _ _]
            refine rw_go hX [(21, .iload_n 3), (22, .iadd)] (by decide +kernel) (Ps := []) (pc' := 23) (lv' := [(0, .ref 66), (1, .int (nI w)), (2, .int (nI k)), (3, .int (nI c)), (4, .int (nI (k - t)))]) (st' := [.int (nI (50 * w) + nI c), .ref 79]) (σ' := σ) rfl True.intro ?_
            rw [show (nI (50 * w) + nI c) = nI (50 * w + c) from nI_add _ _]
            refine rw_go hX [(23, .baload)] (by decide +kernel) (Ps := [vp_in (nI (50 * w + c)) 250]) (pc' := 24) (lv' := [(0, .ref 66), (1, .int (nI w)), (2, .int (nI k)), (3, .int (nI c)), (4, .int (nI (k - t)))]) (st' := [.int (σ 79 (nI (50 * w + c)).toNatClampNeg)]) (σ' := σ) rfl (vp_in_nI (by omega) (by omega)) ?_
            rw [show (σ 79 (nI (50 * w + c)).toNatClampNeg) = σ 79 (50 * w + c) from (by rw [nI_clamp (by omega)])]
            refine rw_if hX (tgt := 33) (cnd := .ne) (off := 9) (by decide +kernel) (by decide) (fun h24 => ?_) (fun h24 => ?_)
            · replace h24 : (σ 79 (50 * w + c) ≠ 0) := h24
              refine rw_go hX [(33, .iinc 4 (-1)), (36, .goto (-31))] (by decide +kernel) (Ps := []) (pc' := 5) (lv' := [(0, .ref 66), (1, .int (nI w)), (2, .int (nI k)), (3, .int (nI c)), (4, .int (nI (k - t) + (-(nI 1))))]) (st' := []) (σ' := σ) rfl True.intro ?_
              refine rw_lsub (ks := [0, 1, 2, 3, 4]) (lv' := [(0, .ref 66), (1, .int (nI w)), (2, .int (nI k)), (3, .int (nI c)), (4, .int (nI (k - t) + (-(nI 1))))]) rfl ?_
              have q := ih5 (k + 1 - (t + 1)) (by omega) (t + 1) (c + 1) rfl (by omega) (by rw [show pNs V w (c + 1) = pNs V w c + 1 from cB_y (hP.2 h24), hct]) (fun _ => ⟨by omega, by omega, by rw [Nat.add_sub_cancel]; exact hP.2 h24⟩)
              rw [show (nI (c + 1) - nI 1 : Int32) = nI c from by rw [pk_sub (by omega), Nat.add_sub_cancel], show k + 1 - (t + 1) = k - t by omega] at q
              rw [add_m1]
              exact q
            · replace h24 : σ 79 (50 * w + c) = 0 := Classical.not_not.mp h24
              refine rw_go hX [(27, .iinc 3 1)] (by decide +kernel) (Ps := []) (pc' := 30) (lv' := [(0, .ref 66), (1, .int (nI w)), (2, .int (nI k)), (3, .int (nI c + nI 1)), (4, .int (nI (k - t)))]) (st' := []) (σ' := σ) rfl True.intro ?_
              rw [show (nI c + nI 1) = nI (c + 1) from nI_add _ _]
              refine rw_go hX [(30, .goto (-17))] (by decide +kernel) (Ps := []) (pc' := 13) (lv' := [(0, .ref 66), (1, .int (nI w)), (2, .int (nI k)), (3, .int (nI (c + 1))), (4, .int (nI (k - t)))]) (st' := []) (σ' := σ) rfl True.intro ?_
              refine rw_lsub (ks := [0, 1, 2, 3, 4]) (lv' := [(0, .ref 66), (1, .int (nI w)), (2, .int (nI k)), (3, .int (nI (c + 1))), (4, .int (nI (k - t)))]) rfl ?_
              exact ih13 (gC V w - (c + 1)) (by omega) (c + 1) rfl (by rw [show pNs V w (c + 1) = pNs V w c from by unfold pNs; exact cB_n (hP.1 h24)]; exact hct)
        refine rw_lsub (ks := [0, 1, 2, 3, 4]) (lv' := [(0, .ref 66), (1, .int (nI w)), (2, .int (nI k)), (3, .int ((nI c - nI 1) + nI 1)), (4, .int (nI (k - t)))]) rfl ?_
        rw [sub1_add]
        exact L13 (gC V w - c) c rfl hct
  refine rw_lsub (ks := [0, 1, 2, 3, 4]) (lv' := [(0, .ref 66), (1, .int (nI w)), (2, .int (nI k)), (3, .int (-(nI 1))), (4, .int (nI k))]) rfl ?_
  have q := L5 (k + 1) 0 0 rfl (by omega) rfl (fun z => by omega)
  rw [Nat.sub_zero] at q
  rw [show (-(nI 1) : Int32) = nI 0 - nI 1 from by decide +kernel, show (nI k : Int32) = nI (k + 1) - nI 1 from by rw [pk_sub (by omega), Nat.add_sub_cancel]]
  rw [show (nI (k + 1) - nI 1 : Int32) = nI k from by rw [pk_sub (by omega), Nat.add_sub_cancel]] at q ⊢
  exact q
set_option maxRecDepth 20000 in
set_option maxHeartbeats 4000000 in
theorem g_print (l : Launch) (G : Gl) (σ : Mm) (V : Mm) (xw xk xq : Int32) (hV : vw σ 67 = V) (hv : wf V) : AMi l G 6 mX10_print [.ref 66, .int xw, .int xk, .int xq] σ (fun r σ' => r = aPrint V xw xk xq ∧ MQu σ σ') := by
  refine rw_inI 10 (by decide +kernel) rfl rfl ?_
  intro E hE hX
  subst hE
  refine rw_go hX [(0, .iload_n 1)] (by decide +kernel) (Ps := []) (pc' := 1) (lv' := [(0, .ref 66), (1, .int xw), (2, .int xk), (3, .int xq)]) (st' := [.int xw]) (σ' := σ) rfl True.intro ?_
  refine rw_callSi hX (as := [.int xw]) (rest := []) (m_isWork _ _ _ (xw)) (by decide +kernel) msX10_isWork (Or.inl lk10_157) rfl (by decide) (Nat.le_of_ble_eq_true rfl) rfl ?_
  intro r1 σ1 hr
  rw [hr.1, show r1 = bz (decide (0 ≤ xw ∧ xw ≤ 4)) from hr.2]
  clear hr σ1 r1
  refine rw_if hX (tgt := 19) (cnd := .eq) (off := 15) (by decide +kernel) (by decide) (fun h4 => ?_) (fun h4 => ?_)
  · replace h4 := of_decide_eq_false (zb_eqT h4)
    refine rw_go hX [(19, .bipush (-2))] (by decide +kernel) (Ps := []) (pc' := 21) (lv' := [(0, .ref 66), (1, .int xw), (2, .int xk), (3, .int xq)]) (st' := [.int (-(nI 2))]) (σ' := σ) rfl True.intro ?_
    exact rw_iret hX (by decide +kernel) (⟨by simp only [aPrint, eq_false h4, if_true, if_false, Bool.false_eq_true, and_self, and_true, true_and, and_false, false_and, oel_n, oel_s, decide_true, decide_false], MQu_rfl _⟩)
  · replace h4 := of_decide_eq_true (zb_eqF h4)
    obtain ⟨w, hw, rfl⟩ := rng (m := 4) (by omega) h4
    have hw : w < 5 := hw
    have hcw : (nI w).toNatClampNeg = w := nI_clamp (by omega)
    refine rw_go hX [(7, .iload_n 3), (8, .i2l), (9, .lconst 0), (10, .ldc2_w 205)] (by decide +kernel) (Ps := []) (pc' := 13) (lv' := [(0, .ref 66), (1, .int (nI w)), (2, .int xk), (3, .int xq)]) (st' := [.long 2, .long (Int64.ofNat 0), .long (xq.toInt64)]) (σ' := σ) rfl True.intro ?_
    refine rw_callSi hX (as := [.long (xq.toInt64), .long (Int64.ofNat 0), .long 2]) (rest := []) (m_inI _ _ _ (xq) (0) (nI 2) _ _ _ rfl (by first | rfl | decide +kernel) (by first | rfl | decide +kernel)) (by decide +kernel) msX10_in (Or.inl lk10_105) rfl (by decide) (Nat.le_of_ble_eq_true rfl) rfl ?_
    intro r1 σ1 hr
    rw [hr.1, show r1 = bz (decide (0 ≤ xq ∧ xq < nI 3)) from hr.2.trans (by rw [decide_eq_decide.mpr (in_O (m := 2) (by omega))])]
    clear hr σ1 r1
    refine rw_if hX (tgt := 22) (cnd := .ne) (off := 6) (by decide +kernel) (by decide) (fun h16 => ?_) (fun h16 => ?_)
    · replace h16 := of_decide_eq_true (zb_neT h16)
      refine rw_go hX [(22, .aload_n 0), (23, .iload_n 1)] (by decide +kernel) (Ps := []) (pc' := 24) (lv' := [(0, .ref 66), (1, .int (nI w)), (2, .int xk), (3, .int xq)]) (st' := [.int (nI w), .ref 66]) (σ' := σ) rfl True.intro ?_
      refine rw_callVi hX (as := [.int (nI w)]) (rest := []) (m_there _ _ _ V w hV hv hw) (by decide +kernel) mvX10_isThere lk10_132 (ci := 9) rfl rfl rfl (by decide) (Nat.le_of_ble_eq_true rfl) rfl ?_
      intro r1 σ1 hr
      rw [hr.1, show r1 = bz (decide (0 < vS V w)) from hr.2]
      clear hr σ1 r1
      refine rw_if hX (tgt := 33) (cnd := .ne) (off := 6) (by decide +kernel) (by decide) (fun h27 => ?_) (fun h27 => ?_)
      · replace h27 := of_decide_eq_true (zb_neT h27)
        have hvsw : ¬ vS V w = 0 := by omega
        have hg5 := gC_50 hv hw
        have hpn : pNs V w (gC V w) ≤ gC V w := cB_le _ _
        refine rw_go hX [(33, .aload_n 0)] (by decide +kernel) (Ps := []) (pc' := 34) (lv' := [(0, .ref 66), (1, .int (nI w)), (2, .int xk), (3, .int xq)]) (st' := [.ref 66]) (σ' := σ) rfl True.intro ?_
        refine rw_callVv hX (as := []) (rest := []) (m_anew _ _ _ V hV hv) (by decide +kernel) mvX10_anew lk10_220 (ci := 9) rfl rfl rfl (by decide) (Nat.le_of_ble_eq_true rfl) rfl ?_
        intro τ1 ht1
        obtain ⟨hAN, hFN⟩ := ht1
        have hq1 := MQu_A hFN
        have hV1 : vw τ1 67 = V := (vw_of (fun j hj => hFN _ (by omega))).trans hV
        have h71 : τ1 71 = V 4 := vw_at hV1 4 (by omega)
        refine rw_go hX [(37, .iload_n 2), (38, .iconst (-1))] (by decide +kernel) (Ps := []) (pc' := 39) (lv' := [(0, .ref 66), (1, .int (nI w)), (2, .int xk), (3, .int xq)]) (st' := [.int (-(nI 1)), .int xk]) (σ' := τ1) rfl True.intro ?_
        refine rw_icmp hX (tgt := 48) (cnd := .ne) (off := 9) (by decide +kernel) (by decide) (fun h39 => ?_) (fun h39 => ?_)
        · replace h39 : (xk ≠ (-(nI 1))) := h39
          refine rw_go hX [(48, .iload_n 2), (49, .i2l), (50, .lconst 0), (51, .aload_n 0), (52, .iload_n 1)] (by decide +kernel) (Ps := []) (pc' := 53) (lv' := [(0, .ref 66), (1, .int (nI w)), (2, .int xk), (3, .int xq)]) (st' := [.int (nI w), .ref 66, .long (Int64.ofNat 0), .long (xk.toInt64)]) (σ' := τ1) rfl True.intro ?_
          refine rw_callVi hX (as := [.int (nI w)]) (rest := [.long (Int64.ofNat 0), .long (xk.toInt64)]) (m_printsOf _ _ _ V w hv hw h71 (hAN.1 w hw)) (by decide +kernel) mvX10_printsOf lk10_223 (ci := 9) rfl rfl rfl (by decide) (Nat.le_of_ble_eq_true rfl) rfl ?_
          intro r1 σ1 hr
          rw [hr.1, show r1 = nI (pNs V w (gC V w)) from hr.2]
          clear hr σ1 r1
          refine rw_go hX [(56, .iconst 1), (57, .isub), (58, .i2l)] (by decide +kernel) (Ps := []) (pc' := 59) (lv' := [(0, .ref 66), (1, .int (nI w)), (2, .int xk), (3, .int xq)]) (st' := [.long ((nI (pNs V w (gC V w)) - nI 1).toInt64), .long (Int64.ofNat 0), .long (xk.toInt64)]) (σ' := τ1) rfl True.intro ?_
          refine rw_callSi hX (as := [.long (xk.toInt64), .long (Int64.ofNat 0), .long ((nI (pNs V w (gC V w)) - nI 1).toInt64)]) (rest := []) (m_inI _ _ _ (xk) (0) (nI (pNs V w (gC V w)) - nI 1) _ _ _ rfl (by first | rfl | decide +kernel) (by first | rfl | decide +kernel)) (by decide +kernel) msX10_in (Or.inl lk10_105) rfl (by decide) (Nat.le_of_ble_eq_true rfl) rfl ?_
          intro r1 σ1 hr
          rw [hr.1, show r1 = bz (decide (0 ≤ xk ∧ xk < nI (pNs V w (gC V w)))) from hr.2.trans (by rw [decide_eq_decide.mpr (in_C (by omega))])]
          clear hr σ1 r1
          refine rw_if hX (tgt := 68) (cnd := .ne) (off := 6) (by decide +kernel) (by decide) (fun h62 => ?_) (fun h62 => ?_)
          · replace h62 := of_decide_eq_true (zb_neT h62)
            obtain ⟨k, hk, rfl⟩ := rngO (m := pNs V w (gC V w)) (by omega) h62
            refine rw_go hX [(68, .aload_n 0), (69, .iload_n 1), (70, .iload_n 2)] (by decide +kernel) (Ps := []) (pc' := 71) (lv' := [(0, .ref 66), (1, .int (nI w)), (2, .int (nI k)), (3, .int xq)]) (st' := [.int (nI k), .int (nI w), .ref 66]) (σ' := τ1) rfl True.intro ?_
            refine rw_callVi hX (as := [.int (nI w), .int (nI k)]) (rest := []) (m_nthPrint _ _ _ V w k hv hw (hAN.1 w hw) hk) (by decide +kernel) mvX10_nthPrint lk10_226 (ci := 9) rfl rfl rfl (by decide) (Nat.le_of_ble_eq_true rfl) rfl ?_
            intro r1 σ1 hr
            rw [hr.1]
            obtain ⟨g, hg, hpa, hrg⟩ := hr.2
            rw [hrg]
            clear hr σ1 hrg r1
            have hok := hAN.2 _ (okc_i hv hw hg)
            refine rw_go hX [(74, .istore 4), (76, .iload_n 3)] (by decide +kernel) (Ps := []) (pc' := 77) (lv' := [(0, .ref 66), (1, .int (nI w)), (2, .int (nI k)), (3, .int xq), (4, .int (nI g))]) (st' := [.int xq]) (σ' := τ1) rfl True.intro ?_
            refine rw_if hX (tgt := 85) (cnd := .ne) (off := 8) (by decide +kernel) (by decide) (fun h77 => ?_) (fun h77 => ?_)
            · replace h77 : (xq ≠ 0) := h77
              refine rw_go hX [(85, .iload_n 3), (86, .iconst 1)] (by decide +kernel) (Ps := []) (pc' := 87) (lv' := [(0, .ref 66), (1, .int (nI w)), (2, .int (nI k)), (3, .int xq), (4, .int (nI g))]) (st' := [.int (nI 1), .int xq]) (σ' := τ1) rfl True.intro ?_
              refine rw_icmp hX (tgt := 105) (cnd := .ne) (off := 18) (by decide +kernel) (by decide) (fun h87 => ?_) (fun h87 => ?_)
              · replace h87 : (xq ≠ nI 1) := h87
                refine rw_go hX [(105, .aload_n 0), (106, .getfield 53), (109, .bipush 50), (111, .iload_n 1), (112, .imul)] (by decide +kernel) (Ps := []) (pc' := 113) (lv' := [(0, .ref 66), (1, .int (nI w)), (2, .int (nI k)), (3, .int xq), (4, .int (nI g))]) (st' := [.int (nI 50 * nI w), .ref 81]) (σ' := τ1) rfl True.intro ?_
                rw [show (nI 50 * nI w) = nI (50 * w) from pk_mul _ _]
                refine rw_go hX [(113, .iload 4), (115, .iadd)] (by decide +kernel) (Ps := []) (pc' := 116) (lv' := [(0, .ref 66), (1, .int (nI w)), (2, .int (nI k)), (3, .int xq), (4, .int (nI g))]) (st' := [.int (nI (50 * w) + nI g), .ref 81]) (σ' := τ1) rfl True.intro ?_
                rw [show (nI (50 * w) + nI g) = nI (50 * w + g) from nI_add _ _]
                refine rw_go hX [(116, .baload)] (by decide +kernel) (Ps := [vp_in (nI (50 * w + g)) 250]) (pc' := 117) (lv' := [(0, .ref 66), (1, .int (nI w)), (2, .int (nI k)), (3, .int xq), (4, .int (nI g))]) (st' := [.int (τ1 81 (nI (50 * w + g)).toNatClampNeg)]) (σ' := τ1) rfl (vp_in_nI (by omega) (by omega)) ?_
                rw [show (τ1 81 (nI (50 * w + g)).toNatClampNeg) = bz (CM V (50 * w + g)) from (by rw [nI_clamp (by omega), hok.2])]
                refine rw_if hX (tgt := 124) (cnd := .eq) (off := 7) (by decide +kernel) (by decide) (fun h117 => ?_) (fun h117 => ?_)
                · replace h117 := zb_eqT h117
                  refine rw_go hX [(124, .iconst 0)] (by decide +kernel) (Ps := []) (pc' := 125) (lv' := [(0, .ref 66), (1, .int (nI w)), (2, .int (nI k)), (3, .int xq), (4, .int (nI g))]) (st' := [.int (nI 0)]) (σ' := τ1) rfl True.intro ?_
                  exact rw_iret hX (by decide +kernel) (⟨by first | (simp only [aPrint, hpa, eq_true h4, hcw, eq_true h16, eq_true h27, eq_false hvsw, eq_false h39, eq_true h62, eq_false h77, eq_false h87, h117, if_true, if_false, Bool.false_eq_true, and_self, and_true, true_and, and_false, false_and, oel_n, oel_s, decide_true, decide_false]; done) | (simp only [aPrint, hpa, eq_true h4, hcw, eq_true h16, eq_true h27, eq_false hvsw, eq_false h39, eq_true h62, eq_false h77, eq_false h87, h117, if_true, if_false, Bool.false_eq_true, and_self, and_true, true_and, and_false, false_and, oel_n, oel_s, decide_true, decide_false]; rfl), hq1⟩)
                · replace h117 := zb_eqF h117
                  refine rw_go hX [(120, .iconst 1), (121, .goto 4)] (by decide +kernel) (Ps := []) (pc' := 125) (lv' := [(0, .ref 66), (1, .int (nI w)), (2, .int (nI k)), (3, .int xq), (4, .int (nI g))]) (st' := [.int (nI 1)]) (σ' := τ1) rfl True.intro ?_
                  exact rw_iret hX (by decide +kernel) (⟨by first | (simp only [aPrint, hpa, eq_true h4, hcw, eq_true h16, eq_true h27, eq_false hvsw, eq_false h39, eq_true h62, eq_false h77, eq_false h87, h117, if_true, if_false, Bool.false_eq_true, and_self, and_true, true_and, and_false, false_and, oel_n, oel_s, decide_true, decide_false]; done) | (simp only [aPrint, hpa, eq_true h4, hcw, eq_true h16, eq_true h27, eq_false hvsw, eq_false h39, eq_true h62, eq_false h77, eq_false h87, h117, if_true, if_false, Bool.false_eq_true, and_self, and_true, true_and, and_false, false_and, oel_n, oel_s, decide_true, decide_false]; rfl), hq1⟩)
              · replace h87 : xq = nI 1 := Classical.not_not.mp h87
                refine rw_go hX [(90, .aload_n 0), (91, .getfield 50), (94, .bipush 50), (96, .iload_n 1), (97, .imul)] (by decide +kernel) (Ps := []) (pc' := 98) (lv' := [(0, .ref 66), (1, .int (nI w)), (2, .int (nI k)), (3, .int xq), (4, .int (nI g))]) (st' := [.int (nI 50 * nI w), .ref 80]) (σ' := τ1) rfl True.intro ?_
                rw [show (nI 50 * nI w) = nI (50 * w) from pk_mul _ _]
                refine rw_go hX [(98, .iload 4), (100, .iadd)] (by decide +kernel) (Ps := []) (pc' := 101) (lv' := [(0, .ref 66), (1, .int (nI w)), (2, .int (nI k)), (3, .int xq), (4, .int (nI g))]) (st' := [.int (nI (50 * w) + nI g), .ref 80]) (σ' := τ1) rfl True.intro ?_
                rw [show (nI (50 * w) + nI g) = nI (50 * w + g) from nI_add _ _]
                refine rw_go hX [(101, .iaload)] (by decide +kernel) (Ps := [vp_in (nI (50 * w + g)) 250]) (pc' := 102) (lv' := [(0, .ref 66), (1, .int (nI w)), (2, .int (nI k)), (3, .int xq), (4, .int (nI g))]) (st' := [.int (τ1 80 (nI (50 * w + g)).toNatClampNeg)]) (σ' := τ1) rfl (vp_in_nI (by omega) (by omega)) ?_
                rw [show (τ1 80 (nI (50 * w + g)).toNatClampNeg) = nI (WN V (50 * w + g)) from (by rw [nI_clamp (by omega), hok.1])]
                refine rw_go hX [(102, .goto 23)] (by decide +kernel) (Ps := []) (pc' := 125) (lv' := [(0, .ref 66), (1, .int (nI w)), (2, .int (nI k)), (3, .int xq), (4, .int (nI g))]) (st' := [.int (nI (WN V (50 * w + g)))]) (σ' := τ1) rfl True.intro ?_
                exact rw_iret hX (by decide +kernel) (⟨by first | (simp only [aPrint, hpa, eq_true h4, hcw, eq_true h16, eq_true h27, eq_false hvsw, eq_false h39, eq_true h62, eq_false h77, eq_true h87, if_true, if_false, Bool.false_eq_true, and_self, and_true, true_and, and_false, false_and, oel_n, oel_s, decide_true, decide_false]; done) | (simp only [aPrint, hpa, eq_true h4, hcw, eq_true h16, eq_true h27, eq_false hvsw, eq_false h39, eq_true h62, eq_false h77, eq_true h87, if_true, if_false, Bool.false_eq_true, and_self, and_true, true_and, and_false, false_and, oel_n, oel_s, decide_true, decide_false]; rfl), hq1⟩)
            · replace h77 : xq = 0 := Classical.not_not.mp h77
              refine rw_go hX [(80, .iload 4), (82, .goto 43)] (by decide +kernel) (Ps := []) (pc' := 125) (lv' := [(0, .ref 66), (1, .int (nI w)), (2, .int (nI k)), (3, .int xq), (4, .int (nI g))]) (st' := [.int (nI g)]) (σ' := τ1) rfl True.intro ?_
              exact rw_iret hX (by decide +kernel) (⟨by first | (simp only [aPrint, hpa, eq_true h4, hcw, eq_true h16, eq_true h27, eq_false hvsw, eq_false h39, eq_true h62, eq_true h77, if_true, if_false, Bool.false_eq_true, and_self, and_true, true_and, and_false, false_and, oel_n, oel_s, decide_true, decide_false]; done) | (simp only [aPrint, hpa, eq_true h4, hcw, eq_true h16, eq_true h27, eq_false hvsw, eq_false h39, eq_true h62, eq_true h77, if_true, if_false, Bool.false_eq_true, and_self, and_true, true_and, and_false, false_and, oel_n, oel_s, decide_true, decide_false]; rfl), hq1⟩)
          · replace h62 := of_decide_eq_false (zb_neF h62)
            have hpa : pAtF V w xk (gC V w) = none := pAtF_out (by omega) h62
            refine rw_go hX [(65, .bipush (-12))] (by decide +kernel) (Ps := []) (pc' := 67) (lv' := [(0, .ref 66), (1, .int (nI w)), (2, .int xk), (3, .int xq)]) (st' := [.int (-(nI 12))]) (σ' := τ1) rfl True.intro ?_
            exact rw_iret hX (by decide +kernel) (⟨by simp only [aPrint, eq_true h4, hcw, eq_true h16, eq_true h27, eq_false hvsw, eq_false h39, eq_false h62, hpa, if_true, if_false, Bool.false_eq_true, and_self, and_true, true_and, and_false, false_and, oel_n, oel_s, decide_true, decide_false], hq1⟩)
        · replace h39 : xk = (-(nI 1)) := Classical.not_not.mp h39
          refine rw_go hX [(42, .aload_n 0), (43, .iload_n 1)] (by decide +kernel) (Ps := []) (pc' := 44) (lv' := [(0, .ref 66), (1, .int (nI w)), (2, .int xk), (3, .int xq)]) (st' := [.int (nI w), .ref 66]) (σ' := τ1) rfl True.intro ?_
          refine rw_callVi hX (as := [.int (nI w)]) (rest := []) (m_printsOf _ _ _ V w hv hw h71 (hAN.1 w hw)) (by decide +kernel) mvX10_printsOf lk10_223 (ci := 9) rfl rfl rfl (by decide) (Nat.le_of_ble_eq_true rfl) rfl ?_
          intro r1 σ1 hr
          rw [hr.1, show r1 = nI (pNs V w (gC V w)) from hr.2]
          clear hr σ1 r1
          exact rw_iret hX (by decide +kernel) (⟨by simp only [aPrint, eq_true h4, hcw, eq_true h16, eq_true h27, eq_false hvsw, eq_true h39, if_true, if_false, Bool.false_eq_true, and_self, and_true, true_and, and_false, false_and, oel_n, oel_s, decide_true, decide_false], hq1⟩)
      · replace h27 := of_decide_eq_false (zb_neF h27)
        have hvsw : vS V w = 0 := by omega
        refine rw_go hX [(30, .bipush (-11))] (by decide +kernel) (Ps := []) (pc' := 32) (lv' := [(0, .ref 66), (1, .int (nI w)), (2, .int xk), (3, .int xq)]) (st' := [.int (-(nI 11))]) (σ' := σ) rfl True.intro ?_
        exact rw_iret hX (by decide +kernel) (⟨by simp only [aPrint, eq_true h4, hcw, eq_true h16, eq_false h27, eq_true hvsw, if_true, if_false, Bool.false_eq_true, and_self, and_true, true_and, and_false, false_and, oel_n, oel_s, decide_true, decide_false], MQu_rfl _⟩)
    · replace h16 := of_decide_eq_false (zb_neF h16)
      refine rw_go hX [(19, .bipush (-2))] (by decide +kernel) (Ps := []) (pc' := 21) (lv' := [(0, .ref 66), (1, .int (nI w)), (2, .int xk), (3, .int xq)]) (st' := [.int (-(nI 2))]) (σ' := σ) rfl True.intro ?_
      exact rw_iret hX (by decide +kernel) (⟨by simp only [aPrint, eq_true h4, hcw, eq_false h16, if_true, if_false, Bool.false_eq_true, and_self, and_true, true_and, and_false, false_and, oel_n, oel_s, decide_true, decide_false], MQu_rfl _⟩)
set_option maxRecDepth 20000 in
set_option maxHeartbeats 4000000 in
theorem g_common (l : Launch) (G : Gl) (σ : Mm) (V : Mm) (xw xq : Int32) (hV : vw σ 67 = V) (hv : wf V) : AMi l G 6 mX10_common [.ref 66, .int xw, .int xq] σ (fun r σ' => r = aCommon V xw xq ∧ MQu σ σ') := by
  refine rw_inI 10 (by decide +kernel) rfl rfl ?_
  intro E hE hX
  subst hE
  refine rw_go hX [(0, .iload_n 1)] (by decide +kernel) (Ps := []) (pc' := 1) (lv' := [(0, .ref 66), (1, .int xw), (2, .int xq)]) (st' := [.int xw]) (σ' := σ) rfl True.intro ?_
  refine rw_callSi hX (as := [.int xw]) (rest := []) (m_isWork _ _ _ (xw)) (by decide +kernel) msX10_isWork (Or.inl lk10_157) rfl (by decide) (Nat.le_of_ble_eq_true rfl) rfl ?_
  intro r1 σ1 hr
  rw [hr.1, show r1 = bz (decide (0 ≤ xw ∧ xw ≤ 4)) from hr.2]
  clear hr σ1 r1
  refine rw_if hX (tgt := 17) (cnd := .eq) (off := 13) (by decide +kernel) (by decide) (fun h4 => ?_) (fun h4 => ?_)
  · replace h4 := of_decide_eq_false (zb_eqT h4)
    refine rw_go hX [(17, .bipush (-2))] (by decide +kernel) (Ps := []) (pc' := 19) (lv' := [(0, .ref 66), (1, .int xw), (2, .int xq)]) (st' := [.int (-(nI 2))]) (σ' := σ) rfl True.intro ?_
    exact rw_iret hX (by decide +kernel) (⟨by simp only [aCommon, eq_false h4, if_true, if_false, Bool.false_eq_true, and_self, and_true, true_and, and_false, false_and, oel_n, oel_s, decide_true, decide_false], MQu_rfl _⟩)
  · replace h4 := of_decide_eq_true (zb_eqF h4)
    obtain ⟨w, hw, rfl⟩ := rng (m := 4) (by omega) h4
    have hw : w < 5 := hw
    have hcw : (nI w).toNatClampNeg = w := nI_clamp (by omega)
    refine rw_go hX [(7, .iload_n 2), (8, .i2l), (9, .lconst 0), (10, .lconst 1)] (by decide +kernel) (Ps := []) (pc' := 11) (lv' := [(0, .ref 66), (1, .int (nI w)), (2, .int xq)]) (st' := [.long (Int64.ofNat 1), .long (Int64.ofNat 0), .long (xq.toInt64)]) (σ' := σ) rfl True.intro ?_
    refine rw_callSi hX (as := [.long (xq.toInt64), .long (Int64.ofNat 0), .long (Int64.ofNat 1)]) (rest := []) (m_inI _ _ _ (xq) (0) (nI 1) _ _ _ rfl (by first | rfl | decide +kernel) (by first | rfl | decide +kernel)) (by decide +kernel) msX10_in (Or.inl lk10_105) rfl (by decide) (Nat.le_of_ble_eq_true rfl) rfl ?_
    intro r1 σ1 hr
    rw [hr.1, show r1 = bz (decide (0 ≤ xq ∧ xq < nI 2)) from hr.2.trans (by rw [decide_eq_decide.mpr (in_O (m := 1) (by omega))])]
    clear hr σ1 r1
    refine rw_if hX (tgt := 20) (cnd := .ne) (off := 6) (by decide +kernel) (by decide) (fun h14 => ?_) (fun h14 => ?_)
    · replace h14 := of_decide_eq_true (zb_neT h14)
      obtain ⟨c, hc, rfl⟩ := rngO (m := 2) (by omega) h14
      have hcc : (nI c).toNatClampNeg = c := nI_clamp (by omega)
      refine rw_go hX [(20, .aload_n 0), (21, .iload_n 1)] (by decide +kernel) (Ps := []) (pc' := 22) (lv' := [(0, .ref 66), (1, .int (nI w)), (2, .int (nI c))]) (st' := [.int (nI w), .ref 66]) (σ' := σ) rfl True.intro ?_
      refine rw_callVi hX (as := [.int (nI w)]) (rest := []) (m_there _ _ _ V w hV hv hw) (by decide +kernel) mvX10_isThere lk10_132 (ci := 9) rfl rfl rfl (by decide) (Nat.le_of_ble_eq_true rfl) rfl ?_
      intro r1 σ1 hr
      rw [hr.1, show r1 = bz (decide (0 < vS V w)) from hr.2]
      clear hr σ1 r1
      refine rw_if hX (tgt := 31) (cnd := .ne) (off := 6) (by decide +kernel) (by decide) (fun h25 => ?_) (fun h25 => ?_)
      · replace h25 := of_decide_eq_true (zb_neT h25)
        have hvsw : ¬ vS V w = 0 := by omega
        have hg5 := gC_50 hv hw
        refine rw_go hX [(31, .aload_n 0)] (by decide +kernel) (Ps := []) (pc' := 32) (lv' := [(0, .ref 66), (1, .int (nI w)), (2, .int (nI c))]) (st' := [.ref 66]) (σ' := σ) rfl True.intro ?_
        refine rw_callVv hX (as := []) (rest := []) (m_anew _ _ _ V hV hv) (by decide +kernel) mvX10_anew lk10_220 (ci := 9) rfl rfl rfl (by decide) (Nat.le_of_ble_eq_true rfl) rfl ?_
        intro τ1 ht1
        obtain ⟨hAN, hFN⟩ := ht1
        have hq1 := MQu_A hFN
        have hV1 : vw τ1 67 = V := (vw_of (fun j hj => hFN _ (by omega))).trans hV
        have h71 : τ1 71 = V 4 := vw_at hV1 4 (by omega)
        refine rw_go hX [(35, .iconst 0), (36, .istore_n 3), (37, .iconst 0), (38, .istore 4)] (by decide +kernel) (Ps := []) (pc' := 40) (lv' := [(0, .ref 66), (1, .int (nI w)), (2, .int (nI c)), (3, .int (nI 0)), (4, .int (nI 0))]) (st' := []) (σ' := τ1) rfl True.intro ?_
        have L40 : ∀ (μ40 : Nat) (g : Nat), μ40 = gC V w - g → (g ≤ gC V w) → RW E G 6 5 (QI E G (fun r σ' => r = aCommon V (nI w) (nI c) ∧ MQu σ σ')) 40 [(0, .ref 66), (1, .int (nI w)), (2, .int (nI c)), (3, .int (nI (cB (cmB V w (decide (nI c = nI 1))) g))), (4, .int (nI g))] [] τ1 := by
          intro μ40
          induction μ40 using Nat.strongRecOn with
          | ind μ40 ih40 =>
            intro g hμ40 hg
            refine rw_go hX [(40, .iload 4), (42, .aload_n 0), (43, .iload_n 1)] (by decide +kernel) (Ps := []) (pc' := 44) (lv' := [(0, .ref 66), (1, .int (nI w)), (2, .int (nI c)), (3, .int (nI (cB (cmB V w (decide (nI c = nI 1))) g))), (4, .int (nI g))]) (st' := [.int (nI w), .ref 66, .int (nI g)]) (σ' := τ1) rfl True.intro ?_
            refine rw_callVi hX (as := [.int (nI w)]) (rest := [.int (nI g)]) (m_gramsV _ _ _ V w hv hw h71 (hAN.1 w hw)) (by decide +kernel) mvX10_grams lk10_187 (ci := 9) rfl rfl rfl (by decide) (Nat.le_of_ble_eq_true rfl) rfl ?_
            intro r1 σ1 hr
            rw [hr.1, show r1 = nI (gC V w) from hr.2]
            clear hr σ1 r1
            refine rw_icmp hX (tgt := 98) (cnd := .ge) (off := 51) (by decide +kernel) (by decide) (fun h47 => ?_) (fun h47 => ?_)
            · replace h47 := c2_geT h47
              have eg : g = gC V w := by omega
              refine rw_go hX [(98, .iload_n 3)] (by decide +kernel) (Ps := []) (pc' := 99) (lv' := [(0, .ref 66), (1, .int (nI w)), (2, .int (nI c)), (3, .int (nI (cB (cmB V w (decide (nI c = nI 1))) g))), (4, .int (nI g))]) (st' := [.int (nI (cB (cmB V w (decide (nI c = nI 1))) g))]) (σ' := τ1) rfl True.intro ?_
              exact rw_iret hX (by decide +kernel) (⟨by rw [eg]; simp only [aCommon, eq_true h4, eq_true h14, eq_false hvsw, hcw, if_true, if_false, Bool.false_eq_true, and_self, and_true, true_and, and_false, false_and, oel_n, oel_s, decide_true, decide_false], hq1⟩)
            · replace h47 := c2_geF h47
              have hP := PR_of (hAN.1 w hw) h47
              have hok := hAN.2 _ (okc_i hv hw h47)
              refine rw_go hX [(50, .iload_n 3), (51, .aload_n 0), (52, .getfield 53), (55, .bipush 50), (57, .iload_n 1), (58, .imul)] (by decide +kernel) (Ps := []) (pc' := 59) (lv' := [(0, .ref 66), (1, .int (nI w)), (2, .int (nI c)), (3, .int (nI (cB (cmB V w (decide (nI c = nI 1))) g))), (4, .int (nI g))]) (st' := [.int (nI 50 * nI w), .ref 81, .int (nI (cB (cmB V w (decide (nI c = nI 1))) g))]) (σ' := τ1) rfl True.intro ?_
              rw [show (nI 50 * nI w) = nI (50 * w) from pk_mul _ _]
              refine rw_go hX [(59, .iload 4), (61, .iadd)] (by decide +kernel) (Ps := []) (pc' := 62) (lv' := [(0, .ref 66), (1, .int (nI w)), (2, .int (nI c)), (3, .int (nI (cB (cmB V w (decide (nI c = nI 1))) g))), (4, .int (nI g))]) (st' := [.int (nI (50 * w) + nI g), .ref 81, .int (nI (cB (cmB V w (decide (nI c = nI 1))) g))]) (σ' := τ1) rfl True.intro ?_
              rw [show (nI (50 * w) + nI g) = nI (50 * w + g) from nI_add _ _]
              refine rw_go hX [(62, .baload)] (by decide +kernel) (Ps := [vp_in (nI (50 * w + g)) 250]) (pc' := 63) (lv' := [(0, .ref 66), (1, .int (nI w)), (2, .int (nI c)), (3, .int (nI (cB (cmB V w (decide (nI c = nI 1))) g))), (4, .int (nI g))]) (st' := [.int (τ1 81 (nI (50 * w + g)).toNatClampNeg), .int (nI (cB (cmB V w (decide (nI c = nI 1))) g))]) (σ' := τ1) rfl (vp_in_nI (by omega) (by omega)) ?_
              rw [show (τ1 81 (nI (50 * w + g)).toNatClampNeg) = bz (CM V (50 * w + g)) from (by rw [nI_clamp (by omega), hok.2])]
              refine rw_if hX (tgt := 89) (cnd := .eq) (off := 26) (by decide +kernel) (by decide) (fun h63 => ?_) (fun h63 => ?_)
              · replace h63 := zb_eqT h63
                have hup : cmB V w (decide (nI c = nI 1)) g = false := by unfold cmB; rw [h63, Bool.and_false]
                refine rw_go hX [(89, .iconst 0), (90, .iadd)] (by decide +kernel) (Ps := []) (pc' := 91) (lv' := [(0, .ref 66), (1, .int (nI w)), (2, .int (nI c)), (3, .int (nI (cB (cmB V w (decide (nI c = nI 1))) g))), (4, .int (nI g))]) (st' := [.int (nI (cB (cmB V w (decide (nI c = nI 1))) g) + nI 0)]) (σ' := τ1) rfl True.intro ?_
                rw [show (nI (cB (cmB V w (decide (nI c = nI 1))) g) + nI 0) = nI (cB (cmB V w (decide (nI c = nI 1))) g + 0) from nI_add _ _]
                refine rw_go hX [(91, .istore_n 3), (92, .iinc 4 1)] (by decide +kernel) (Ps := []) (pc' := 95) (lv' := [(0, .ref 66), (1, .int (nI w)), (2, .int (nI c)), (3, .int (nI (cB (cmB V w (decide (nI c = nI 1))) g + 0))), (4, .int (nI g + nI 1))]) (st' := []) (σ' := τ1) rfl True.intro ?_
                rw [show (nI g + nI 1) = nI (g + 1) from nI_add _ _]
                refine rw_go hX [(95, .goto (-55))] (by decide +kernel) (Ps := []) (pc' := 40) (lv' := [(0, .ref 66), (1, .int (nI w)), (2, .int (nI c)), (3, .int (nI (cB (cmB V w (decide (nI c = nI 1))) g + 0))), (4, .int (nI (g + 1)))]) (st' := []) (σ' := τ1) rfl True.intro ?_
                refine rw_lsub (ks := [0, 1, 2, 3, 4]) (lv' := [(0, .ref 66), (1, .int (nI w)), (2, .int (nI c)), (3, .int (nI (cB (cmB V w (decide (nI c = nI 1))) g + 0))), (4, .int (nI (g + 1)))]) rfl ?_
                have q := ih40 (gC V w - (g + 1)) (by omega) (g + 1) rfl (by omega)
                rw [cB_n (k := g) hup] at q
                exact q
              · replace h63 := zb_eqF h63
                refine rw_go hX [(66, .iload_n 2)] (by decide +kernel) (Ps := []) (pc' := 67) (lv' := [(0, .ref 66), (1, .int (nI w)), (2, .int (nI c)), (3, .int (nI (cB (cmB V w (decide (nI c = nI 1))) g))), (4, .int (nI g))]) (st' := [.int (nI c), .int (nI (cB (cmB V w (decide (nI c = nI 1))) g))]) (σ' := τ1) rfl True.intro ?_
                refine rw_if hX (tgt := 85) (cnd := .eq) (off := 18) (by decide +kernel) (by decide) (fun h67 => ?_) (fun h67 => ?_)
                · replace h67 := zn_eqT h67
                  have hup : cmB V w (decide (nI c = nI 1)) g = true := by unfold cmB; rw [h63, h67, decide_eq_false (by decide +kernel)]; rfl
                  refine rw_go hX [(85, .iconst 1), (86, .goto 4), (90, .iadd)] (by decide +kernel) (Ps := []) (pc' := 91) (lv' := [(0, .ref 66), (1, .int (nI w)), (2, .int (nI c)), (3, .int (nI (cB (cmB V w (decide (nI c = nI 1))) g))), (4, .int (nI g))]) (st' := [.int (nI (cB (cmB V w (decide (nI c = nI 1))) g) + nI 1)]) (σ' := τ1) rfl True.intro ?_
                  rw [show (nI (cB (cmB V w (decide (nI c = nI 1))) g) + nI 1) = nI (cB (cmB V w (decide (nI c = nI 1))) g + 1) from nI_add _ _]
                  refine rw_go hX [(91, .istore_n 3), (92, .iinc 4 1)] (by decide +kernel) (Ps := []) (pc' := 95) (lv' := [(0, .ref 66), (1, .int (nI w)), (2, .int (nI c)), (3, .int (nI (cB (cmB V w (decide (nI c = nI 1))) g + 1))), (4, .int (nI g + nI 1))]) (st' := []) (σ' := τ1) rfl True.intro ?_
                  rw [show (nI g + nI 1) = nI (g + 1) from nI_add _ _]
                  refine rw_go hX [(95, .goto (-55))] (by decide +kernel) (Ps := []) (pc' := 40) (lv' := [(0, .ref 66), (1, .int (nI w)), (2, .int (nI c)), (3, .int (nI (cB (cmB V w (decide (nI c = nI 1))) g + 1))), (4, .int (nI (g + 1)))]) (st' := []) (σ' := τ1) rfl True.intro ?_
                  refine rw_lsub (ks := [0, 1, 2, 3, 4]) (lv' := [(0, .ref 66), (1, .int (nI w)), (2, .int (nI c)), (3, .int (nI (cB (cmB V w (decide (nI c = nI 1))) g + 1))), (4, .int (nI (g + 1)))]) rfl ?_
                  have q := ih40 (gC V w - (g + 1)) (by omega) (g + 1) rfl (by omega)
                  rw [cB_y (k := g) hup] at q
                  exact q
                · replace h67 := zn_eqF h67
                  refine rw_go hX [(70, .aload_n 0), (71, .getfield 46), (74, .bipush 50), (76, .iload_n 1), (77, .imul)] (by decide +kernel) (Ps := []) (pc' := 78) (lv' := [(0, .ref 66), (1, .int (nI w)), (2, .int (nI c)), (3, .int (nI (cB (cmB V w (decide (nI c = nI 1))) g))), (4, .int (nI g))]) (st' := [.int (nI 50 * nI w), .ref 79, .int (nI (cB (cmB V w (decide (nI c = nI 1))) g))]) (σ' := τ1) rfl True.intro ?_
                  rw [show (nI 50 * nI w) = nI (50 * w) from pk_mul _ _]
                  refine rw_go hX [(78, .iload 4), (80, .iadd)] (by decide +kernel) (Ps := []) (pc' := 81) (lv' := [(0, .ref 66), (1, .int (nI w)), (2, .int (nI c)), (3, .int (nI (cB (cmB V w (decide (nI c = nI 1))) g))), (4, .int (nI g))]) (st' := [.int (nI (50 * w) + nI g), .ref 79, .int (nI (cB (cmB V w (decide (nI c = nI 1))) g))]) (σ' := τ1) rfl True.intro ?_
                  rw [show (nI (50 * w) + nI g) = nI (50 * w + g) from nI_add _ _]
                  refine rw_go hX [(81, .baload)] (by decide +kernel) (Ps := [vp_in (nI (50 * w + g)) 250]) (pc' := 82) (lv' := [(0, .ref 66), (1, .int (nI w)), (2, .int (nI c)), (3, .int (nI (cB (cmB V w (decide (nI c = nI 1))) g))), (4, .int (nI g))]) (st' := [.int (τ1 79 (nI (50 * w + g)).toNatClampNeg), .int (nI (cB (cmB V w (decide (nI c = nI 1))) g))]) (σ' := τ1) rfl (vp_in_nI (by omega) (by omega)) ?_
                  rw [show (τ1 79 (nI (50 * w + g)).toNatClampNeg) = τ1 79 (50 * w + g) from (by rw [nI_clamp (by omega)])]
                  refine rw_if hX (tgt := 89) (cnd := .eq) (off := 7) (by decide +kernel) (by decide) (fun h82 => ?_) (fun h82 => ?_)
                  · replace h82 : (τ1 79 (50 * w + g) = 0) := h82
                    have hup : cmB V w (decide (nI c = nI 1)) g = false := by unfold cmB; rw [show c = 1 by omega, decide_eq_true rfl, hP.1 h82]; rfl
                    refine rw_go hX [(89, .iconst 0), (90, .iadd)] (by decide +kernel) (Ps := []) (pc' := 91) (lv' := [(0, .ref 66), (1, .int (nI w)), (2, .int (nI c)), (3, .int (nI (cB (cmB V w (decide (nI c = nI 1))) g))), (4, .int (nI g))]) (st' := [.int (nI (cB (cmB V w (decide (nI c = nI 1))) g) + nI 0)]) (σ' := τ1) rfl True.intro ?_
                    rw [show (nI (cB (cmB V w (decide (nI c = nI 1))) g) + nI 0) = nI (cB (cmB V w (decide (nI c = nI 1))) g + 0) from nI_add _ _]
                    refine rw_go hX [(91, .istore_n 3), (92, .iinc 4 1)] (by decide +kernel) (Ps := []) (pc' := 95) (lv' := [(0, .ref 66), (1, .int (nI w)), (2, .int (nI c)), (3, .int (nI (cB (cmB V w (decide (nI c = nI 1))) g + 0))), (4, .int (nI g + nI 1))]) (st' := []) (σ' := τ1) rfl True.intro ?_
                    rw [show (nI g + nI 1) = nI (g + 1) from nI_add _ _]
                    refine rw_go hX [(95, .goto (-55))] (by decide +kernel) (Ps := []) (pc' := 40) (lv' := [(0, .ref 66), (1, .int (nI w)), (2, .int (nI c)), (3, .int (nI (cB (cmB V w (decide (nI c = nI 1))) g + 0))), (4, .int (nI (g + 1)))]) (st' := []) (σ' := τ1) rfl True.intro ?_
                    refine rw_lsub (ks := [0, 1, 2, 3, 4]) (lv' := [(0, .ref 66), (1, .int (nI w)), (2, .int (nI c)), (3, .int (nI (cB (cmB V w (decide (nI c = nI 1))) g + 0))), (4, .int (nI (g + 1)))]) rfl ?_
                    have q := ih40 (gC V w - (g + 1)) (by omega) (g + 1) rfl (by omega)
                    rw [cB_n (k := g) hup] at q
                    exact q
                  · replace h82 : ¬ (τ1 79 (50 * w + g) = 0) := h82
                    have hup : cmB V w (decide (nI c = nI 1)) g = true := by unfold cmB; rw [h63, hP.2 h82, Bool.or_true]; rfl
                    refine rw_go hX [(85, .iconst 1), (86, .goto 4), (90, .iadd)] (by decide +kernel) (Ps := []) (pc' := 91) (lv' := [(0, .ref 66), (1, .int (nI w)), (2, .int (nI c)), (3, .int (nI (cB (cmB V w (decide (nI c = nI 1))) g))), (4, .int (nI g))]) (st' := [.int (nI (cB (cmB V w (decide (nI c = nI 1))) g) + nI 1)]) (σ' := τ1) rfl True.intro ?_
                    rw [show (nI (cB (cmB V w (decide (nI c = nI 1))) g) + nI 1) = nI (cB (cmB V w (decide (nI c = nI 1))) g + 1) from nI_add _ _]
                    refine rw_go hX [(91, .istore_n 3), (92, .iinc 4 1)] (by decide +kernel) (Ps := []) (pc' := 95) (lv' := [(0, .ref 66), (1, .int (nI w)), (2, .int (nI c)), (3, .int (nI (cB (cmB V w (decide (nI c = nI 1))) g + 1))), (4, .int (nI g + nI 1))]) (st' := []) (σ' := τ1) rfl True.intro ?_
                    rw [show (nI g + nI 1) = nI (g + 1) from nI_add _ _]
                    refine rw_go hX [(95, .goto (-55))] (by decide +kernel) (Ps := []) (pc' := 40) (lv' := [(0, .ref 66), (1, .int (nI w)), (2, .int (nI c)), (3, .int (nI (cB (cmB V w (decide (nI c = nI 1))) g + 1))), (4, .int (nI (g + 1)))]) (st' := []) (σ' := τ1) rfl True.intro ?_
                    refine rw_lsub (ks := [0, 1, 2, 3, 4]) (lv' := [(0, .ref 66), (1, .int (nI w)), (2, .int (nI c)), (3, .int (nI (cB (cmB V w (decide (nI c = nI 1))) g + 1))), (4, .int (nI (g + 1)))]) rfl ?_
                    have q := ih40 (gC V w - (g + 1)) (by omega) (g + 1) rfl (by omega)
                    rw [cB_y (k := g) hup] at q
                    exact q
        refine rw_lsub (ks := [0, 1, 2, 3, 4]) (lv' := [(0, .ref 66), (1, .int (nI w)), (2, .int (nI c)), (3, .int (nI 0)), (4, .int (nI 0))]) rfl ?_
        exact L40 (gC V w) 0 rfl (by omega)
      · replace h25 := of_decide_eq_false (zb_neF h25)
        have hvsw : vS V w = 0 := by omega
        refine rw_go hX [(28, .bipush (-11))] (by decide +kernel) (Ps := []) (pc' := 30) (lv' := [(0, .ref 66), (1, .int (nI w)), (2, .int (nI c))]) (st' := [.int (-(nI 11))]) (σ' := σ) rfl True.intro ?_
        exact rw_iret hX (by decide +kernel) (⟨by simp only [aCommon, eq_true h4, hcw, eq_true h14, hcc, eq_false h25, eq_true hvsw, if_true, if_false, Bool.false_eq_true, and_self, and_true, true_and, and_false, false_and, oel_n, oel_s, decide_true, decide_false], MQu_rfl _⟩)
    · replace h14 := of_decide_eq_false (zb_neF h14)
      refine rw_go hX [(17, .bipush (-2))] (by decide +kernel) (Ps := []) (pc' := 19) (lv' := [(0, .ref 66), (1, .int (nI w)), (2, .int xq)]) (st' := [.int (-(nI 2))]) (σ' := σ) rfl True.intro ?_
      exact rw_iret hX (by decide +kernel) (⟨by simp only [aCommon, eq_true h4, hcw, eq_false h14, if_true, if_false, Bool.false_eq_true, and_self, and_true, true_and, and_false, false_and, oel_n, oel_s, decide_true, decide_false], MQu_rfl _⟩)
set_option maxRecDepth 20000 in
set_option maxHeartbeats 4000000 in
theorem g_match (l : Launch) (G : Gl) (σ : Mm) (V : Mm) (xw xo xk xq : Int32) (hV : vw σ 67 = V) (hv : wf V) : AMi l G 6 mX10_match [.ref 66, .int xw, .int xo, .int xk, .int xq] σ (fun r σ' => r = aMatch V xw xo xk xq ∧ MQu σ σ') := by
  refine rw_inI 10 (by decide +kernel) rfl rfl ?_
  intro E hE hX
  subst hE
  refine rw_go hX [(0, .iload_n 1)] (by decide +kernel) (Ps := []) (pc' := 1) (lv' := [(0, .ref 66), (1, .int xw), (2, .int xo), (3, .int xk), (4, .int xq)]) (st' := [.int xw]) (σ' := σ) rfl True.intro ?_
  refine rw_callSi hX (as := [.int xw]) (rest := []) (m_isWork _ _ _ (xw)) (by decide +kernel) msX10_isWork (Or.inl lk10_157) rfl (by decide) (Nat.le_of_ble_eq_true rfl) rfl ?_
  intro r1 σ1 hr
  rw [hr.1, show r1 = bz (decide (0 ≤ xw ∧ xw ≤ 4)) from hr.2]
  clear hr σ1 r1
  refine rw_if hX (tgt := 32) (cnd := .eq) (off := 28) (by decide +kernel) (by decide) (fun h4 => ?_) (fun h4 => ?_)
  · replace h4 := of_decide_eq_false (zb_eqT h4)
    have htw : ¬ tw xw xo := fun z => h4 ⟨z.1, z.2.1⟩
    refine rw_go hX [(32, .bipush (-2))] (by decide +kernel) (Ps := []) (pc' := 34) (lv' := [(0, .ref 66), (1, .int xw), (2, .int xo), (3, .int xk), (4, .int xq)]) (st' := [.int (-(nI 2))]) (σ' := σ) rfl True.intro ?_
    exact rw_iret hX (by decide +kernel) (⟨by simp only [aMatch, eq_false h4, eq_false htw, if_true, if_false, Bool.false_eq_true, and_self, and_true, true_and, and_false, false_and, oel_n, oel_s, decide_true, decide_false], MQu_rfl _⟩)
  · replace h4 := of_decide_eq_true (zb_eqF h4)
    refine rw_go hX [(7, .iload_n 2)] (by decide +kernel) (Ps := []) (pc' := 8) (lv' := [(0, .ref 66), (1, .int xw), (2, .int xo), (3, .int xk), (4, .int xq)]) (st' := [.int xo]) (σ' := σ) rfl True.intro ?_
    refine rw_callSi hX (as := [.int xo]) (rest := []) (m_isWork _ _ _ (xo)) (by decide +kernel) msX10_isWork (Or.inl lk10_157) rfl (by decide) (Nat.le_of_ble_eq_true rfl) rfl ?_
    intro r1 σ1 hr
    rw [hr.1, show r1 = bz (decide (0 ≤ xo ∧ xo ≤ 4)) from hr.2]
    clear hr σ1 r1
    refine rw_if hX (tgt := 32) (cnd := .eq) (off := 21) (by decide +kernel) (by decide) (fun h11 => ?_) (fun h11 => ?_)
    · replace h11 := of_decide_eq_false (zb_eqT h11)
      have htw : ¬ tw xw xo := fun z => h11 ⟨z.2.2.1, z.2.2.2.1⟩
      refine rw_go hX [(32, .bipush (-2))] (by decide +kernel) (Ps := []) (pc' := 34) (lv' := [(0, .ref 66), (1, .int xw), (2, .int xo), (3, .int xk), (4, .int xq)]) (st' := [.int (-(nI 2))]) (σ' := σ) rfl True.intro ?_
      exact rw_iret hX (by decide +kernel) (⟨by simp only [aMatch, eq_true h4, eq_false h11, eq_false htw, if_true, if_false, Bool.false_eq_true, and_self, and_true, true_and, and_false, false_and, oel_n, oel_s, decide_true, decide_false], MQu_rfl _⟩)
    · replace h11 := of_decide_eq_true (zb_eqF h11)
      refine rw_go hX [(14, .iload_n 1), (15, .iload_n 2)] (by decide +kernel) (Ps := []) (pc' := 16) (lv' := [(0, .ref 66), (1, .int xw), (2, .int xo), (3, .int xk), (4, .int xq)]) (st' := [.int xo, .int xw]) (σ' := σ) rfl True.intro ?_
      refine rw_icmp hX (tgt := 32) (cnd := .eq) (off := 16) (by decide +kernel) (by decide) (fun h16 => ?_) (fun h16 => ?_)
      · replace h16 : (xw = xo) := h16
        have htw : ¬ tw xw xo := fun z => z.2.2.2.2 h16
        refine rw_go hX [(32, .bipush (-2))] (by decide +kernel) (Ps := []) (pc' := 34) (lv' := [(0, .ref 66), (1, .int xw), (2, .int xo), (3, .int xk), (4, .int xq)]) (st' := [.int (-(nI 2))]) (σ' := σ) rfl True.intro ?_
        exact rw_iret hX (by decide +kernel) (⟨by simp only [aMatch, eq_true h4, eq_true h11, eq_true h16, eq_false htw, if_true, if_false, Bool.false_eq_true, and_self, and_true, true_and, and_false, false_and, oel_n, oel_s, decide_true, decide_false], MQu_rfl _⟩)
      · replace h16 : ¬ (xw = xo) := h16
        have htw0 : tw xw xo := ⟨h4.1, h4.2, h11.1, h11.2, h16⟩
        obtain ⟨w, u, ⟨hw, hu⟩, ⟨rfl, rfl⟩, hwu⟩ := tw_n htw0
        have htw : tw (nI w) (nI u) := htw0
        have hcw : (nI w).toNatClampNeg = w := nI_clamp (by omega)
        have hcu : (nI u).toNatClampNeg = u := nI_clamp (by omega)
        refine rw_go hX [(19, .iload 4), (21, .i2l), (22, .lconst 0), (23, .ldc2_w 238)] (by decide +kernel) (Ps := []) (pc' := 26) (lv' := [(0, .ref 66), (1, .int (nI w)), (2, .int (nI u)), (3, .int xk), (4, .int xq)]) (st' := [.long 3, .long (Int64.ofNat 0), .long (xq.toInt64)]) (σ' := σ) rfl True.intro ?_
        refine rw_callSi hX (as := [.long (xq.toInt64), .long (Int64.ofNat 0), .long 3]) (rest := []) (m_inI _ _ _ (xq) (0) (nI 3) _ _ _ rfl (by first | rfl | decide +kernel) (by first | rfl | decide +kernel)) (by decide +kernel) msX10_in (Or.inl lk10_105) rfl (by decide) (Nat.le_of_ble_eq_true rfl) rfl ?_
        intro r1 σ1 hr
        rw [hr.1, show r1 = bz (decide (0 ≤ xq ∧ xq < nI 4)) from hr.2.trans (by rw [decide_eq_decide.mpr (in_O (m := 3) (by omega))])]
        clear hr σ1 r1
        refine rw_if hX (tgt := 35) (cnd := .ne) (off := 6) (by decide +kernel) (by decide) (fun h29 => ?_) (fun h29 => ?_)
        · replace h29 := of_decide_eq_true (zb_neT h29)
          refine rw_go hX [(35, .aload_n 0), (36, .iload_n 1)] (by decide +kernel) (Ps := []) (pc' := 37) (lv' := [(0, .ref 66), (1, .int (nI w)), (2, .int (nI u)), (3, .int xk), (4, .int xq)]) (st' := [.int (nI w), .ref 66]) (σ' := σ) rfl True.intro ?_
          refine rw_callVi hX (as := [.int (nI w)]) (rest := []) (m_there _ _ _ V w hV hv hw) (by decide +kernel) mvX10_isThere lk10_132 (ci := 9) rfl rfl rfl (by decide) (Nat.le_of_ble_eq_true rfl) rfl ?_
          intro r1 σ1 hr
          rw [hr.1, show r1 = bz (decide (0 < vS V w)) from hr.2]
          clear hr σ1 r1
          refine rw_if hX (tgt := 51) (cnd := .eq) (off := 11) (by decide +kernel) (by decide) (fun h40 => ?_) (fun h40 => ?_)
          · replace h40 := of_decide_eq_false (zb_eqT h40)
            have hvsw : vS V w = 0 := by omega
            refine rw_go hX [(51, .bipush (-11))] (by decide +kernel) (Ps := []) (pc' := 53) (lv' := [(0, .ref 66), (1, .int (nI w)), (2, .int (nI u)), (3, .int xk), (4, .int xq)]) (st' := [.int (-(nI 11))]) (σ' := σ) rfl True.intro ?_
            exact rw_iret hX (by decide +kernel) (⟨by simp only [aMatch, eq_true h4, eq_true h11, eq_false h16, hcw, hcu, eq_true htw, eq_true h29, eq_false h40, eq_true hvsw, if_true, if_false, Bool.false_eq_true, and_self, and_true, true_and, and_false, false_and, oel_n, oel_s, decide_true, decide_false], MQu_rfl _⟩)
          · replace h40 := of_decide_eq_true (zb_eqF h40)
            have hvsw : ¬ vS V w = 0 := by omega
            refine rw_go hX [(43, .aload_n 0), (44, .iload_n 2)] (by decide +kernel) (Ps := []) (pc' := 45) (lv' := [(0, .ref 66), (1, .int (nI w)), (2, .int (nI u)), (3, .int xk), (4, .int xq)]) (st' := [.int (nI u), .ref 66]) (σ' := σ) rfl True.intro ?_
            refine rw_callVi hX (as := [.int (nI u)]) (rest := []) (m_there _ _ _ V u hV hv hu) (by decide +kernel) mvX10_isThere lk10_132 (ci := 9) rfl rfl rfl (by decide) (Nat.le_of_ble_eq_true rfl) rfl ?_
            intro r1 σ1 hr
            rw [hr.1, show r1 = bz (decide (0 < vS V u)) from hr.2]
            clear hr σ1 r1
            refine rw_if hX (tgt := 54) (cnd := .ne) (off := 6) (by decide +kernel) (by decide) (fun h48 => ?_) (fun h48 => ?_)
            · replace h48 := of_decide_eq_true (zb_neT h48)
              have hvsu : ¬ vS V u = 0 := by omega
              refine rw_go hX [(54, .aload_n 0)] (by decide +kernel) (Ps := []) (pc' := 55) (lv' := [(0, .ref 66), (1, .int (nI w)), (2, .int (nI u)), (3, .int xk), (4, .int xq)]) (st' := [.ref 66]) (σ' := σ) rfl True.intro ?_
              refine rw_callVv hX (as := []) (rest := []) (m_anew _ _ _ V hV hv) (by decide +kernel) mvX10_anew lk10_220 (ci := 9) rfl rfl rfl (by decide) (Nat.le_of_ble_eq_true rfl) rfl ?_
              intro τ1 ht1
              obtain ⟨hAN, hFN⟩ := ht1
              have hq1 := MQu_A hFN
              have hV1 : vw τ1 67 = V := (vw_of (fun j hj => hFN _ (by omega))).trans hV
              have h71 : τ1 71 = V 4 := vw_at hV1 4 (by omega)
              have hLs := wf_L hv
              refine rw_go hX [(58, .aload_n 0), (59, .iload_n 1), (60, .iload_n 2), (61, .aload_n 0), (62, .getfield 22), (65, .iconst 4), (66, .iaload)] (by decide +kernel) (Ps := [vp_in (nI 4) 6]) (pc' := 67) (lv' := [(0, .ref 66), (1, .int (nI w)), (2, .int (nI u)), (3, .int xk), (4, .int xq)]) (st' := [.int (τ1 71 (nI 4).toNatClampNeg), .int (nI u), .int (nI w), .ref 66]) (σ' := τ1) rfl (vp_in_nI (by omega) (by omega)) ?_
              rw [show (τ1 71 (nI 4).toNatClampNeg) = nI (vR V 4) from (by rw [nI_clamp (by omega), h71, hLs.1])]
              refine rw_callVv hX (as := [.int (nI w), .int (nI u), .int (nI (vR V 4))]) (rest := []) (m_matches _ _ _ V w u (vR V 4) hv hw hu h71 hAN (by omega)) (by decide +kernel) mvX10_matches lk10_240 (ci := 9) rfl rfl rfl (by decide) (Nat.le_of_ble_eq_true rfl) rfl ?_
              intro τ2 ht2
              obtain ⟨hM, hFM⟩ := ht2
              have hq2 := hq1.trans (MQu_M hFM)
              have hMb := ML_b (ls := vR V 4) hv hw hu
              have h833 := hMb.1
              refine rw_go hX [(70, .iload_n 3), (71, .iconst (-1))] (by decide +kernel) (Ps := []) (pc' := 72) (lv' := [(0, .ref 66), (1, .int (nI w)), (2, .int (nI u)), (3, .int xk), (4, .int xq)]) (st' := [.int (-(nI 1)), .int xk]) (σ' := τ2) rfl True.intro ?_
              refine rw_icmp hX (tgt := 80) (cnd := .ne) (off := 8) (by decide +kernel) (by decide) (fun h72 => ?_) (fun h72 => ?_)
              · replace h72 : (xk ≠ (-(nI 1))) := h72
                refine rw_go hX [(80, .iload_n 3), (81, .i2l), (82, .lconst 0), (83, .aload_n 0), (84, .getfield 232)] (by decide +kernel) (Ps := []) (pc' := 87) (lv' := [(0, .ref 66), (1, .int (nI w)), (2, .int (nI u)), (3, .int xk), (4, .int xq)]) (st' := [.int (τ2 66 20), .long (Int64.ofNat 0), .long (xk.toInt64)]) (σ' := τ2) rfl True.intro ?_
                rw [show (τ2 66 20) = nI ((ML V w u (vR V 4)).length) from (by rw [hM.1])]
                refine rw_go hX [(87, .iconst 1), (88, .isub), (89, .i2l)] (by decide +kernel) (Ps := []) (pc' := 90) (lv' := [(0, .ref 66), (1, .int (nI w)), (2, .int (nI u)), (3, .int xk), (4, .int xq)]) (st' := [.long ((nI ((ML V w u (vR V 4)).length) - nI 1).toInt64), .long (Int64.ofNat 0), .long (xk.toInt64)]) (σ' := τ2) rfl True.intro ?_
                refine rw_callSi hX (as := [.long (xk.toInt64), .long (Int64.ofNat 0), .long ((nI ((ML V w u (vR V 4)).length) - nI 1).toInt64)]) (rest := []) (m_inI _ _ _ (xk) (0) (nI ((ML V w u (vR V 4)).length) - nI 1) _ _ _ rfl (by first | rfl | decide +kernel) (by first | rfl | decide +kernel)) (by decide +kernel) msX10_in (Or.inl lk10_105) rfl (by decide) (Nat.le_of_ble_eq_true rfl) rfl ?_
                intro r1 σ1 hr
                rw [hr.1, show r1 = bz (decide (0 ≤ xk ∧ xk < nI ((ML V w u (vR V 4)).length))) from hr.2.trans (by rw [decide_eq_decide.mpr (in_C (by omega))])]
                clear hr σ1 r1
                refine rw_if hX (tgt := 99) (cnd := .ne) (off := 6) (by decide +kernel) (by decide) (fun h93 => ?_) (fun h93 => ?_)
                · replace h93 := of_decide_eq_true (zb_neT h93)
                  obtain ⟨i, hi, rfl⟩ := rngO (m := (ML V w u (vR V 4)).length) (by omega) h93
                  have hci : (nI i).toNatClampNeg = i := nI_clamp (by omega)
                  have hzi : ¬ nI i < 0 := nI_pos (by omega)
                  have hli : nI i < nI ((ML V w u (vR V 4)).length) := h93.2
                  refine rw_go hX [(99, .aload_n 0)] (by decide +kernel) (Ps := []) (pc' := 100) (lv' := [(0, .ref 66), (1, .int (nI w)), (2, .int (nI u)), (3, .int (nI i)), (4, .int xq)]) (st' := [.ref 66]) (σ' := τ2) rfl True.intro ?_
                  refine rw_callVi hX (as := []) (rest := []) (m_chains _ _ _ (ML V w u (vR V 4)) _ hM hMb rfl) (by decide +kernel) mvX10_chains lk10_244 (ci := 9) rfl rfl rfl (by decide) (Nat.le_of_ble_eq_true rfl) rfl ?_
                  intro r1 τ3 hr
                  obtain ⟨hr1, hch, hk3⟩ := hr
                  rw [hr1]
                  clear hr1 r1
                  have hq3 := hq2.trans (MQu_k hk3 (by decide))
                  have hM3 := MTm_k hM (NI_of hk3 (by decide))
                  refine rw_go hX [(103, .pop), (104, .iload 4)] (by decide +kernel) (Ps := []) (pc' := 106) (lv' := [(0, .ref 66), (1, .int (nI w)), (2, .int (nI u)), (3, .int (nI i)), (4, .int xq)]) (st' := [.int xq]) (σ' := τ3) rfl True.intro ?_
                  refine rw_if hX (tgt := 118) (cnd := .ne) (off := 12) (by decide +kernel) (by decide) (fun h106 => ?_) (fun h106 => ?_)
                  · replace h106 : (xq ≠ 0) := h106
                    refine rw_go hX [(118, .iload 4), (120, .iconst 1)] (by decide +kernel) (Ps := []) (pc' := 121) (lv' := [(0, .ref 66), (1, .int (nI w)), (2, .int (nI u)), (3, .int (nI i)), (4, .int xq)]) (st' := [.int (nI 1), .int xq]) (σ' := τ3) rfl True.intro ?_
                    refine rw_icmp hX (tgt := 133) (cnd := .ne) (off := 12) (by decide +kernel) (by decide) (fun h121 => ?_) (fun h121 => ?_)
                    · replace h121 : (xq ≠ nI 1) := h121
                      refine rw_go hX [(133, .iload 4), (135, .iconst 2)] (by decide +kernel) (Ps := []) (pc' := 136) (lv' := [(0, .ref 66), (1, .int (nI w)), (2, .int (nI u)), (3, .int (nI i)), (4, .int xq)]) (st' := [.int (nI 2), .int xq]) (σ' := τ3) rfl True.intro ?_
                      refine rw_icmp hX (tgt := 148) (cnd := .ne) (off := 12) (by decide +kernel) (by decide) (fun h136 => ?_) (fun h136 => ?_)
                      · replace h136 : (xq ≠ nI 2) := h136
                        have hq3b : True := trivial
                        refine rw_go hX [(148, .aload_n 0), (149, .getfield 68), (152, .iload_n 3), (153, .baload)] (by decide +kernel) (Ps := [vp_in (nI i) 1000]) (pc' := 154) (lv' := [(0, .ref 66), (1, .int (nI w)), (2, .int (nI u)), (3, .int (nI i)), (4, .int xq)]) (st' := [.int (τ3 86 (nI i).toNatClampNeg)]) (σ' := τ3) rfl (vp_in_nI (by omega) (by omega)) ?_
                        rw [show (τ3 86 (nI i).toNatClampNeg) = τ3 86 i from (by rw [nI_clamp (by omega)])]
                        refine rw_if hX (tgt := 161) (cnd := .eq) (off := 7) (by decide +kernel) (by decide) (fun h154 => ?_) (fun h154 => ?_)
                        · have hcc : chn (ML V w u (vR V 4)) i = false := by rw [← hch i hi]; exact decide_eq_false (fun z => z h154)
                          refine rw_go hX [(161, .iconst 0)] (by decide +kernel) (Ps := []) (pc' := 162) (lv' := [(0, .ref 66), (1, .int (nI w)), (2, .int (nI u)), (3, .int (nI i)), (4, .int xq)]) (st' := [.int (nI 0)]) (σ' := τ3) rfl True.intro ?_
                          exact rw_iret hX (by decide +kernel) (⟨by first | (simp only [aMatch, aMt, mtl, eq_true h4, eq_true h11, eq_false h16, hcw, hcu, eq_true htw, eq_true h29, eq_true h40, eq_false hvsw, eq_true h48, eq_false hvsu, eq_false h72, eq_true h93, hci, eq_false hzi, eq_true hli, eq_false h106, eq_false h121, eq_false h136, hcc, if_true, if_false, Bool.false_eq_true, and_self, and_true, true_and, and_false, false_and, oel_n, oel_s, decide_true, decide_false]; done) | (simp only [aMatch, aMt, mtl, eq_true h4, eq_true h11, eq_false h16, hcw, hcu, eq_true htw, eq_true h29, eq_true h40, eq_false hvsw, eq_true h48, eq_false hvsu, eq_false h72, eq_true h93, hci, eq_false hzi, eq_true hli, eq_false h106, eq_false h121, eq_false h136, hcc, if_true, if_false, Bool.false_eq_true, and_self, and_true, true_and, and_false, false_and, oel_n, oel_s, decide_true, decide_false]; rfl), hq3⟩)
                        · have hcc : chn (ML V w u (vR V 4)) i = true := by rw [← hch i hi]; exact decide_eq_true h154
                          refine rw_go hX [(157, .iconst 1), (158, .goto 4)] (by decide +kernel) (Ps := []) (pc' := 162) (lv' := [(0, .ref 66), (1, .int (nI w)), (2, .int (nI u)), (3, .int (nI i)), (4, .int xq)]) (st' := [.int (nI 1)]) (σ' := τ3) rfl True.intro ?_
                          exact rw_iret hX (by decide +kernel) (⟨by first | (simp only [aMatch, aMt, mtl, eq_true h4, eq_true h11, eq_false h16, hcw, hcu, eq_true htw, eq_true h29, eq_true h40, eq_false hvsw, eq_true h48, eq_false hvsu, eq_false h72, eq_true h93, hci, eq_false hzi, eq_true hli, eq_false h106, eq_false h121, eq_false h136, hcc, if_true, if_false, Bool.false_eq_true, and_self, and_true, true_and, and_false, false_and, oel_n, oel_s, decide_true, decide_false]; done) | (simp only [aMatch, aMt, mtl, eq_true h4, eq_true h11, eq_false h16, hcw, hcu, eq_true htw, eq_true h29, eq_true h40, eq_false hvsw, eq_true h48, eq_false hvsu, eq_false h72, eq_true h93, hci, eq_false hzi, eq_true hli, eq_false h106, eq_false h121, eq_false h136, hcc, if_true, if_false, Bool.false_eq_true, and_self, and_true, true_and, and_false, false_and, oel_n, oel_s, decide_true, decide_false]; rfl), hq3⟩)
                      · replace h136 : xq = nI 2 := Classical.not_not.mp h136
                        refine rw_go hX [(139, .aload_n 0), (140, .getfield 65), (143, .iload_n 3), (144, .iaload)] (by decide +kernel) (Ps := [vp_in (nI i) 1000]) (pc' := 145) (lv' := [(0, .ref 66), (1, .int (nI w)), (2, .int (nI u)), (3, .int (nI i)), (4, .int xq)]) (st' := [.int (τ3 85 (nI i).toNatClampNeg)]) (σ' := τ3) rfl (vp_in_nI (by omega) (by omega)) ?_
                        rw [show (τ3 85 (nI i).toNatClampNeg) = nI (mG (ML V w u (vR V 4)) i) from (by rw [nI_clamp (by omega), (hM3.2 i hi).2.2])]
                        refine rw_go hX [(145, .goto 17)] (by decide +kernel) (Ps := []) (pc' := 162) (lv' := [(0, .ref 66), (1, .int (nI w)), (2, .int (nI u)), (3, .int (nI i)), (4, .int xq)]) (st' := [.int (nI (mG (ML V w u (vR V 4)) i))]) (σ' := τ3) rfl True.intro ?_
                        exact rw_iret hX (by decide +kernel) (⟨by first | (simp only [aMatch, aMt, mtl, eq_true h4, eq_true h11, eq_false h16, hcw, hcu, eq_true htw, eq_true h29, eq_true h40, eq_false hvsw, eq_true h48, eq_false hvsu, eq_false h72, eq_true h93, hci, eq_false hzi, eq_true hli, eq_false h106, eq_false h121, eq_true h136, if_true, if_false, Bool.false_eq_true, and_self, and_true, true_and, and_false, false_and, oel_n, oel_s, decide_true, decide_false]; done) | (simp only [aMatch, aMt, mtl, eq_true h4, eq_true h11, eq_false h16, hcw, hcu, eq_true htw, eq_true h29, eq_true h40, eq_false hvsw, eq_true h48, eq_false hvsu, eq_false h72, eq_true h93, hci, eq_false hzi, eq_true hli, eq_false h106, eq_false h121, eq_true h136, if_true, if_false, Bool.false_eq_true, and_self, and_true, true_and, and_false, false_and, oel_n, oel_s, decide_true, decide_false]; rfl), hq3⟩)
                    · replace h121 : xq = nI 1 := Classical.not_not.mp h121
                      refine rw_go hX [(124, .aload_n 0), (125, .getfield 62), (128, .iload_n 3), (129, .iaload)] (by decide +kernel) (Ps := [vp_in (nI i) 1000]) (pc' := 130) (lv' := [(0, .ref 66), (1, .int (nI w)), (2, .int (nI u)), (3, .int (nI i)), (4, .int xq)]) (st' := [.int (τ3 84 (nI i).toNatClampNeg)]) (σ' := τ3) rfl (vp_in_nI (by omega) (by omega)) ?_
                      rw [show (τ3 84 (nI i).toNatClampNeg) = nI (mO (ML V w u (vR V 4)) i) from (by rw [nI_clamp (by omega), (hM3.2 i hi).2.1])]
                      refine rw_go hX [(130, .goto 32)] (by decide +kernel) (Ps := []) (pc' := 162) (lv' := [(0, .ref 66), (1, .int (nI w)), (2, .int (nI u)), (3, .int (nI i)), (4, .int xq)]) (st' := [.int (nI (mO (ML V w u (vR V 4)) i))]) (σ' := τ3) rfl True.intro ?_
                      exact rw_iret hX (by decide +kernel) (⟨by first | (simp only [aMatch, aMt, mtl, eq_true h4, eq_true h11, eq_false h16, hcw, hcu, eq_true htw, eq_true h29, eq_true h40, eq_false hvsw, eq_true h48, eq_false hvsu, eq_false h72, eq_true h93, hci, eq_false hzi, eq_true hli, eq_false h106, eq_true h121, if_true, if_false, Bool.false_eq_true, and_self, and_true, true_and, and_false, false_and, oel_n, oel_s, decide_true, decide_false]; done) | (simp only [aMatch, aMt, mtl, eq_true h4, eq_true h11, eq_false h16, hcw, hcu, eq_true htw, eq_true h29, eq_true h40, eq_false hvsw, eq_true h48, eq_false hvsu, eq_false h72, eq_true h93, hci, eq_false hzi, eq_true hli, eq_false h106, eq_true h121, if_true, if_false, Bool.false_eq_true, and_self, and_true, true_and, and_false, false_and, oel_n, oel_s, decide_true, decide_false]; rfl), hq3⟩)
                  · replace h106 : xq = 0 := Classical.not_not.mp h106
                    refine rw_go hX [(109, .aload_n 0), (110, .getfield 59), (113, .iload_n 3), (114, .iaload)] (by decide +kernel) (Ps := [vp_in (nI i) 1000]) (pc' := 115) (lv' := [(0, .ref 66), (1, .int (nI w)), (2, .int (nI u)), (3, .int (nI i)), (4, .int xq)]) (st' := [.int (τ3 83 (nI i).toNatClampNeg)]) (σ' := τ3) rfl (vp_in_nI (by omega) (by omega)) ?_
                    rw [show (τ3 83 (nI i).toNatClampNeg) = nI (mB (ML V w u (vR V 4)) i) from (by rw [nI_clamp (by omega), (hM3.2 i hi).1])]
                    refine rw_go hX [(115, .goto 47)] (by decide +kernel) (Ps := []) (pc' := 162) (lv' := [(0, .ref 66), (1, .int (nI w)), (2, .int (nI u)), (3, .int (nI i)), (4, .int xq)]) (st' := [.int (nI (mB (ML V w u (vR V 4)) i))]) (σ' := τ3) rfl True.intro ?_
                    exact rw_iret hX (by decide +kernel) (⟨by first | (simp only [aMatch, aMt, mtl, eq_true h4, eq_true h11, eq_false h16, hcw, hcu, eq_true htw, eq_true h29, eq_true h40, eq_false hvsw, eq_true h48, eq_false hvsu, eq_false h72, eq_true h93, hci, eq_false hzi, eq_true hli, eq_true h106, if_true, if_false, Bool.false_eq_true, and_self, and_true, true_and, and_false, false_and, oel_n, oel_s, decide_true, decide_false]; done) | (simp only [aMatch, aMt, mtl, eq_true h4, eq_true h11, eq_false h16, hcw, hcu, eq_true htw, eq_true h29, eq_true h40, eq_false hvsw, eq_true h48, eq_false hvsu, eq_false h72, eq_true h93, hci, eq_false hzi, eq_true hli, eq_true h106, if_true, if_false, Bool.false_eq_true, and_self, and_true, true_and, and_false, false_and, oel_n, oel_s, decide_true, decide_false]; rfl), hq3⟩)
                · replace h93 := of_decide_eq_false (zb_neF h93)
                  skip
                  refine rw_go hX [(96, .bipush (-12))] (by decide +kernel) (Ps := []) (pc' := 98) (lv' := [(0, .ref 66), (1, .int (nI w)), (2, .int (nI u)), (3, .int xk), (4, .int xq)]) (st' := [.int (-(nI 12))]) (σ' := τ2) rfl True.intro ?_
                  exact rw_iret hX (by decide +kernel) (⟨by simp only [aMatch, aMt, eq_true h4, eq_true h11, eq_false h16, hcw, hcu, eq_true htw, eq_true h29, eq_true h40, eq_false hvsw, eq_true h48, eq_false hvsu, eq_false h72, eq_false h93, ite2 h93, if_true, if_false, Bool.false_eq_true, and_self, and_true, true_and, and_false, false_and, oel_n, oel_s, decide_true, decide_false], hq2⟩)
              · replace h72 : xk = (-(nI 1)) := Classical.not_not.mp h72
                refine rw_go hX [(75, .aload_n 0), (76, .getfield 232)] (by decide +kernel) (Ps := []) (pc' := 79) (lv' := [(0, .ref 66), (1, .int (nI w)), (2, .int (nI u)), (3, .int xk), (4, .int xq)]) (st' := [.int (τ2 66 20)]) (σ' := τ2) rfl True.intro ?_
                rw [show (τ2 66 20) = nI ((ML V w u (vR V 4)).length) from (by rw [hM.1])]
                exact rw_iret hX (by decide +kernel) (⟨by simp only [aMatch, aMt, eq_true h4, eq_true h11, eq_false h16, hcw, hcu, eq_true htw, eq_true h29, eq_true h40, eq_false hvsw, eq_true h48, eq_false hvsu, eq_true h72, if_true, if_false, Bool.false_eq_true, and_self, and_true, true_and, and_false, false_and, oel_n, oel_s, decide_true, decide_false], hq2⟩)
            · replace h48 := of_decide_eq_false (zb_neF h48)
              have hvsu : vS V u = 0 := by omega
              refine rw_go hX [(51, .bipush (-11))] (by decide +kernel) (Ps := []) (pc' := 53) (lv' := [(0, .ref 66), (1, .int (nI w)), (2, .int (nI u)), (3, .int xk), (4, .int xq)]) (st' := [.int (-(nI 11))]) (σ' := σ) rfl True.intro ?_
              exact rw_iret hX (by decide +kernel) (⟨by simp only [aMatch, eq_true h4, eq_true h11, eq_false h16, hcw, hcu, eq_true htw, eq_true h29, eq_true h40, eq_false hvsw, eq_false h48, eq_true hvsu, if_true, if_false, Bool.false_eq_true, and_self, and_true, true_and, and_false, false_and, oel_n, oel_s, decide_true, decide_false], MQu_rfl _⟩)
        · replace h29 := of_decide_eq_false (zb_neF h29)
          refine rw_go hX [(32, .bipush (-2))] (by decide +kernel) (Ps := []) (pc' := 34) (lv' := [(0, .ref 66), (1, .int (nI w)), (2, .int (nI u)), (3, .int xk), (4, .int xq)]) (st' := [.int (-(nI 2))]) (σ' := σ) rfl True.intro ?_
          exact rw_iret hX (by decide +kernel) (⟨by simp only [aMatch, eq_true h4, eq_true h11, eq_false h16, hcw, hcu, eq_true htw, eq_false h29, if_true, if_false, Bool.false_eq_true, and_self, and_true, true_and, and_false, false_and, oel_n, oel_s, decide_true, decide_false], MQu_rfl _⟩)
theorem chn_sum {L : Ml} (h : MTb L) : sB (chn L) (mG L) L.length = mxS (mB L) (mO L) (mG L) L.length L.length := by
  have hl : ∀ x, x < L.length → 1 ≤ mG L x := fun x hx => by have := (h.2 x hx).2.2.2; omega
  have key : ∀ k, k ≤ L.length → ∃ left last S, GI (mB L) (mO L) (mG L) L.length k left last S := by
    intro k
    induction k with
    | zero => exact fun _ => ⟨_, _, _, GI_0 (fun _ => false)⟩
    | succ k ih =>
      intro hk
      obtain ⟨left, last, S, hG⟩ := ih (by omega)
      by_cases c : 0 < left ∧ Wf (mB L) (mO L) (mG L) L.length k = left ∧ (last = none ∨ ∃ y, last = some y ∧ fol (mB L) (mO L) (mG L) y k)
      · exact ⟨_, _, _, GI_y (S' := uN S k true) hl hG (by omega) c.1 c.2.1 c.2.2 (fun x hx => uN_n _ _ hx) (uN_s _ _ _)⟩
      · exact ⟨_, _, _, GI_n (S' := uN S k false) hl hG (by omega) c (fun x hx => uN_n _ _ hx) (uN_s _ _ _)⟩
  obtain ⟨left, last, S, hG⟩ := key L.length (Nat.le_refl _)
  exact (GI_end hG).2
theorem sB_tr (b : Nat → Bool) (f : Nat → Nat) (n : Nat) : sB (fun x => decide (b x = true)) f n = sB b f n := sB_congr fun x _ => by cases b x <;> rfl
set_option maxRecDepth 20000 in
set_option maxHeartbeats 4000000 in
theorem g_chain (l : Launch) (G : Gl) (σ : Mm) (V : Mm) (xw xo xq : Int32) (hV : vw σ 67 = V) (hv : wf V) : AMi l G 6 mX10_chain [.ref 66, .int xw, .int xo, .int xq] σ (fun r σ' => r = aChain V xw xo xq ∧ MQu σ σ') := by
  refine rw_inI 10 (by decide +kernel) rfl rfl ?_
  intro E hE hX
  subst hE
  refine rw_go hX [(0, .iload_n 1)] (by decide +kernel) (Ps := []) (pc' := 1) (lv' := [(0, .ref 66), (1, .int xw), (2, .int xo), (3, .int xq)]) (st' := [.int xw]) (σ' := σ) rfl True.intro ?_
  refine rw_callSi hX (as := [.int xw]) (rest := []) (m_isWork _ _ _ (xw)) (by decide +kernel) msX10_isWork (Or.inl lk10_157) rfl (by decide) (Nat.le_of_ble_eq_true rfl) rfl ?_
  intro r1 σ1 hr
  rw [hr.1, show r1 = bz (decide (0 ≤ xw ∧ xw ≤ 4)) from hr.2]
  clear hr σ1 r1
  refine rw_if hX (tgt := 31) (cnd := .eq) (off := 27) (by decide +kernel) (by decide) (fun h4 => ?_) (fun h4 => ?_)
  · replace h4 := of_decide_eq_false (zb_eqT h4)
    have htw : ¬ tw xw xo := fun z => h4 ⟨z.1, z.2.1⟩
    refine rw_go hX [(31, .bipush (-2))] (by decide +kernel) (Ps := []) (pc' := 33) (lv' := [(0, .ref 66), (1, .int xw), (2, .int xo), (3, .int xq)]) (st' := [.int (-(nI 2))]) (σ' := σ) rfl True.intro ?_
    exact rw_iret hX (by decide +kernel) (⟨by simp only [aChain, eq_false h4, eq_false htw, if_true, if_false, Bool.false_eq_true, and_self, and_true, true_and, and_false, false_and, oel_n, oel_s, decide_true, decide_false], MQu_rfl _⟩)
  · replace h4 := of_decide_eq_true (zb_eqF h4)
    refine rw_go hX [(7, .iload_n 2)] (by decide +kernel) (Ps := []) (pc' := 8) (lv' := [(0, .ref 66), (1, .int xw), (2, .int xo), (3, .int xq)]) (st' := [.int xo]) (σ' := σ) rfl True.intro ?_
    refine rw_callSi hX (as := [.int xo]) (rest := []) (m_isWork _ _ _ (xo)) (by decide +kernel) msX10_isWork (Or.inl lk10_157) rfl (by decide) (Nat.le_of_ble_eq_true rfl) rfl ?_
    intro r1 σ1 hr
    rw [hr.1, show r1 = bz (decide (0 ≤ xo ∧ xo ≤ 4)) from hr.2]
    clear hr σ1 r1
    refine rw_if hX (tgt := 31) (cnd := .eq) (off := 20) (by decide +kernel) (by decide) (fun h11 => ?_) (fun h11 => ?_)
    · replace h11 := of_decide_eq_false (zb_eqT h11)
      have htw : ¬ tw xw xo := fun z => h11 ⟨z.2.2.1, z.2.2.2.1⟩
      refine rw_go hX [(31, .bipush (-2))] (by decide +kernel) (Ps := []) (pc' := 33) (lv' := [(0, .ref 66), (1, .int xw), (2, .int xo), (3, .int xq)]) (st' := [.int (-(nI 2))]) (σ' := σ) rfl True.intro ?_
      exact rw_iret hX (by decide +kernel) (⟨by simp only [aChain, eq_true h4, eq_false h11, eq_false htw, if_true, if_false, Bool.false_eq_true, and_self, and_true, true_and, and_false, false_and, oel_n, oel_s, decide_true, decide_false], MQu_rfl _⟩)
    · replace h11 := of_decide_eq_true (zb_eqF h11)
      refine rw_go hX [(14, .iload_n 1), (15, .iload_n 2)] (by decide +kernel) (Ps := []) (pc' := 16) (lv' := [(0, .ref 66), (1, .int xw), (2, .int xo), (3, .int xq)]) (st' := [.int xo, .int xw]) (σ' := σ) rfl True.intro ?_
      refine rw_icmp hX (tgt := 31) (cnd := .eq) (off := 15) (by decide +kernel) (by decide) (fun h16 => ?_) (fun h16 => ?_)
      · replace h16 : (xw = xo) := h16
        have htw : ¬ tw xw xo := fun z => z.2.2.2.2 h16
        refine rw_go hX [(31, .bipush (-2))] (by decide +kernel) (Ps := []) (pc' := 33) (lv' := [(0, .ref 66), (1, .int xw), (2, .int xo), (3, .int xq)]) (st' := [.int (-(nI 2))]) (σ' := σ) rfl True.intro ?_
        exact rw_iret hX (by decide +kernel) (⟨by simp only [aChain, eq_true h4, eq_true h11, eq_true h16, eq_false htw, if_true, if_false, Bool.false_eq_true, and_self, and_true, true_and, and_false, false_and, oel_n, oel_s, decide_true, decide_false], MQu_rfl _⟩)
      · replace h16 : ¬ (xw = xo) := h16
        have htw0 : tw xw xo := ⟨h4.1, h4.2, h11.1, h11.2, h16⟩
        obtain ⟨w, u, ⟨hw, hu⟩, ⟨rfl, rfl⟩, hwu⟩ := tw_n htw0
        have htw : tw (nI w) (nI u) := htw0
        have hcw : (nI w).toNatClampNeg = w := nI_clamp (by omega)
        have hcu : (nI u).toNatClampNeg = u := nI_clamp (by omega)
        refine rw_go hX [(19, .iload_n 3), (20, .i2l), (21, .lconst 0), (22, .ldc2_w 205)] (by decide +kernel) (Ps := []) (pc' := 25) (lv' := [(0, .ref 66), (1, .int (nI w)), (2, .int (nI u)), (3, .int xq)]) (st' := [.long 2, .long (Int64.ofNat 0), .long (xq.toInt64)]) (σ' := σ) rfl True.intro ?_
        refine rw_callSi hX (as := [.long (xq.toInt64), .long (Int64.ofNat 0), .long 2]) (rest := []) (m_inI _ _ _ (xq) (0) (nI 2) _ _ _ rfl (by first | rfl | decide +kernel) (by first | rfl | decide +kernel)) (by decide +kernel) msX10_in (Or.inl lk10_105) rfl (by decide) (Nat.le_of_ble_eq_true rfl) rfl ?_
        intro r1 σ1 hr
        rw [hr.1, show r1 = bz (decide (0 ≤ xq ∧ xq < nI 3)) from hr.2.trans (by rw [decide_eq_decide.mpr (in_O (m := 2) (by omega))])]
        clear hr σ1 r1
        refine rw_if hX (tgt := 34) (cnd := .ne) (off := 6) (by decide +kernel) (by decide) (fun h28 => ?_) (fun h28 => ?_)
        · replace h28 := of_decide_eq_true (zb_neT h28)
          refine rw_go hX [(34, .aload_n 0), (35, .iload_n 1)] (by decide +kernel) (Ps := []) (pc' := 36) (lv' := [(0, .ref 66), (1, .int (nI w)), (2, .int (nI u)), (3, .int xq)]) (st' := [.int (nI w), .ref 66]) (σ' := σ) rfl True.intro ?_
          refine rw_callVi hX (as := [.int (nI w)]) (rest := []) (m_there _ _ _ V w hV hv hw) (by decide +kernel) mvX10_isThere lk10_132 (ci := 9) rfl rfl rfl (by decide) (Nat.le_of_ble_eq_true rfl) rfl ?_
          intro r1 σ1 hr
          rw [hr.1, show r1 = bz (decide (0 < vS V w)) from hr.2]
          clear hr σ1 r1
          refine rw_if hX (tgt := 50) (cnd := .eq) (off := 11) (by decide +kernel) (by decide) (fun h39 => ?_) (fun h39 => ?_)
          · replace h39 := of_decide_eq_false (zb_eqT h39)
            have hvsw : vS V w = 0 := by omega
            refine rw_go hX [(50, .bipush (-11))] (by decide +kernel) (Ps := []) (pc' := 52) (lv' := [(0, .ref 66), (1, .int (nI w)), (2, .int (nI u)), (3, .int xq)]) (st' := [.int (-(nI 11))]) (σ' := σ) rfl True.intro ?_
            exact rw_iret hX (by decide +kernel) (⟨by simp only [aChain, eq_true h4, eq_true h11, eq_false h16, hcw, hcu, eq_true htw, eq_true h28, eq_false h39, eq_true hvsw, if_true, if_false, Bool.false_eq_true, and_self, and_true, true_and, and_false, false_and, oel_n, oel_s, decide_true, decide_false], MQu_rfl _⟩)
          · replace h39 := of_decide_eq_true (zb_eqF h39)
            have hvsw : ¬ vS V w = 0 := by omega
            refine rw_go hX [(42, .aload_n 0), (43, .iload_n 2)] (by decide +kernel) (Ps := []) (pc' := 44) (lv' := [(0, .ref 66), (1, .int (nI w)), (2, .int (nI u)), (3, .int xq)]) (st' := [.int (nI u), .ref 66]) (σ' := σ) rfl True.intro ?_
            refine rw_callVi hX (as := [.int (nI u)]) (rest := []) (m_there _ _ _ V u hV hv hu) (by decide +kernel) mvX10_isThere lk10_132 (ci := 9) rfl rfl rfl (by decide) (Nat.le_of_ble_eq_true rfl) rfl ?_
            intro r1 σ1 hr
            rw [hr.1, show r1 = bz (decide (0 < vS V u)) from hr.2]
            clear hr σ1 r1
            refine rw_if hX (tgt := 53) (cnd := .ne) (off := 6) (by decide +kernel) (by decide) (fun h47 => ?_) (fun h47 => ?_)
            · replace h47 := of_decide_eq_true (zb_neT h47)
              have hvsu : ¬ vS V u = 0 := by omega
              refine rw_go hX [(53, .aload_n 0)] (by decide +kernel) (Ps := []) (pc' := 54) (lv' := [(0, .ref 66), (1, .int (nI w)), (2, .int (nI u)), (3, .int xq)]) (st' := [.ref 66]) (σ' := σ) rfl True.intro ?_
              refine rw_callVv hX (as := []) (rest := []) (m_anew _ _ _ V hV hv) (by decide +kernel) mvX10_anew lk10_220 (ci := 9) rfl rfl rfl (by decide) (Nat.le_of_ble_eq_true rfl) rfl ?_
              intro τ1 ht1
              obtain ⟨hAN, hFN⟩ := ht1
              have hq1 := MQu_A hFN
              have hV1 : vw τ1 67 = V := (vw_of (fun j hj => hFN _ (by omega))).trans hV
              have h71 : τ1 71 = V 4 := vw_at hV1 4 (by omega)
              have hLs := wf_L hv
              refine rw_go hX [(57, .aload_n 0), (58, .iload_n 1), (59, .iload_n 2), (60, .aload_n 0), (61, .getfield 22), (64, .iconst 4), (65, .iaload)] (by decide +kernel) (Ps := [vp_in (nI 4) 6]) (pc' := 66) (lv' := [(0, .ref 66), (1, .int (nI w)), (2, .int (nI u)), (3, .int xq)]) (st' := [.int (τ1 71 (nI 4).toNatClampNeg), .int (nI u), .int (nI w), .ref 66]) (σ' := τ1) rfl (vp_in_nI (by omega) (by omega)) ?_
              rw [show (τ1 71 (nI 4).toNatClampNeg) = nI (vR V 4) from (by rw [nI_clamp (by omega), h71, hLs.1])]
              refine rw_callVv hX (as := [.int (nI w), .int (nI u), .int (nI (vR V 4))]) (rest := []) (m_matches _ _ _ V w u (vR V 4) hv hw hu h71 hAN (by omega)) (by decide +kernel) mvX10_matches lk10_240 (ci := 9) rfl rfl rfl (by decide) (Nat.le_of_ble_eq_true rfl) rfl ?_
              intro τ2 ht2
              obtain ⟨hM, hFM⟩ := ht2
              have hq2 := hq1.trans (MQu_M hFM)
              have hMb := ML_b (ls := vR V 4) hv hw hu
              have h833 := hMb.1
              refine rw_go hX [(69, .aload_n 0)] (by decide +kernel) (Ps := []) (pc' := 70) (lv' := [(0, .ref 66), (1, .int (nI w)), (2, .int (nI u)), (3, .int xq)]) (st' := [.ref 66]) (σ' := τ2) rfl True.intro ?_
              refine rw_callVi hX (as := []) (rest := []) (m_chains _ _ _ (ML V w u (vR V 4)) _ hM hMb rfl) (by decide +kernel) mvX10_chains lk10_244 (ci := 9) rfl rfl rfl (by decide) (Nat.le_of_ble_eq_true rfl) rfl ?_
              intro r1 τ3 hr
              obtain ⟨hr1, hch, hk3⟩ := hr
              rw [hr1]
              clear hr1 r1
              have hq3 := hq2.trans (MQu_k hk3 (by decide))
              have hM3 := MTm_k hM (NI_of hk3 (by decide))
              refine rw_go hX [(73, .istore 4), (75, .iconst 0), (76, .istore 5), (78, .iconst 0), (79, .istore 6), (81, .iconst 0), (82, .istore 7)] (by decide +kernel) (Ps := []) (pc' := 84) (lv' := [(0, .ref 66), (1, .int (nI w)), (2, .int (nI u)), (3, .int xq), (4, .int (nI (mxS (mB (ML V w u (vR V 4))) (mO (ML V w u (vR V 4))) (mG (ML V w u (vR V 4))) (ML V w u (vR V 4)).length (ML V w u (vR V 4)).length))), (5, .int (nI 0)), (6, .int (nI 0)), (7, .int (nI 0))]) (st' := []) (σ' := τ3) rfl True.intro ?_
              have L84 : ∀ (μ84 : Nat) (k : Nat), μ84 = (ML V w u (vR V 4)).length - k → (k ≤ (ML V w u (vR V 4)).length) → RW E G 6 8 (QI E G (fun r σ' => r = aChain V (nI w) (nI u) xq ∧ MQu σ σ')) 84 [(0, .ref 66), (1, .int (nI w)), (2, .int (nI u)), (3, .int xq), (4, .int (nI (mxS (mB (ML V w u (vR V 4))) (mO (ML V w u (vR V 4))) (mG (ML V w u (vR V 4))) (ML V w u (vR V 4)).length (ML V w u (vR V 4)).length))), (5, .int (nI (cB (chn (ML V w u (vR V 4))) k))), (6, .int (nI (sN (mG (ML V w u (vR V 4))) k))), (7, .int (nI k))] [] τ3 := by
                intro μ84
                induction μ84 using Nat.strongRecOn with
                | ind μ84 ih84 =>
                  intro k hμ84 hk
                  refine rw_go hX [(84, .iload 7), (86, .aload_n 0), (87, .getfield 232)] (by decide +kernel) (Ps := []) (pc' := 90) (lv' := [(0, .ref 66), (1, .int (nI w)), (2, .int (nI u)), (3, .int xq), (4, .int (nI (mxS (mB (ML V w u (vR V 4))) (mO (ML V w u (vR V 4))) (mG (ML V w u (vR V 4))) (ML V w u (vR V 4)).length (ML V w u (vR V 4)).length))), (5, .int (nI (cB (chn (ML V w u (vR V 4))) k))), (6, .int (nI (sN (mG (ML V w u (vR V 4))) k))), (7, .int (nI k))]) (st' := [.int (τ3 66 20), .int (nI k)]) (σ' := τ3) rfl True.intro ?_
                  rw [show (τ3 66 20) = nI ((ML V w u (vR V 4)).length) from (by rw [hM3.1])]
                  refine rw_icmp hX (tgt := 131) (cnd := .ge) (off := 41) (by decide +kernel) (by decide) (fun h90 => ?_) (fun h90 => ?_)
                  · replace h90 := c2_geT h90
                    have ek : k = (ML V w u (vR V 4)).length := by omega
                    have hsum := sB_sum (chn (ML V w u (vR V 4))) (mG (ML V w u (vR V 4))) (ML V w u (vR V 4)).length
                    have htr := sB_tr (chn (ML V w u (vR V 4))) (mG (ML V w u (vR V 4))) (ML V w u (vR V 4)).length
                    have hmx := chn_sum hMb
                    refine rw_go hX [(131, .iload_n 3)] (by decide +kernel) (Ps := []) (pc' := 132) (lv' := [(0, .ref 66), (1, .int (nI w)), (2, .int (nI u)), (3, .int xq), (4, .int (nI (mxS (mB (ML V w u (vR V 4))) (mO (ML V w u (vR V 4))) (mG (ML V w u (vR V 4))) (ML V w u (vR V 4)).length (ML V w u (vR V 4)).length))), (5, .int (nI (cB (chn (ML V w u (vR V 4))) k))), (6, .int (nI (sN (mG (ML V w u (vR V 4))) k))), (7, .int (nI k))]) (st' := [.int xq]) (σ' := τ3) rfl True.intro ?_
                    refine rw_if hX (tgt := 140) (cnd := .ne) (off := 8) (by decide +kernel) (by decide) (fun h132 => ?_) (fun h132 => ?_)
                    · replace h132 : (xq ≠ 0) := h132
                      refine rw_go hX [(140, .iload_n 3), (141, .iconst 1)] (by decide +kernel) (Ps := []) (pc' := 142) (lv' := [(0, .ref 66), (1, .int (nI w)), (2, .int (nI u)), (3, .int xq), (4, .int (nI (mxS (mB (ML V w u (vR V 4))) (mO (ML V w u (vR V 4))) (mG (ML V w u (vR V 4))) (ML V w u (vR V 4)).length (ML V w u (vR V 4)).length))), (5, .int (nI (cB (chn (ML V w u (vR V 4))) k))), (6, .int (nI (sN (mG (ML V w u (vR V 4))) k))), (7, .int (nI k))]) (st' := [.int (nI 1), .int xq]) (σ' := τ3) rfl True.intro ?_
                      refine rw_icmp hX (tgt := 150) (cnd := .ne) (off := 8) (by decide +kernel) (by decide) (fun h142 => ?_) (fun h142 => ?_)
                      · replace h142 : (xq ≠ nI 1) := h142
                        refine rw_go hX [(150, .iload 6), (152, .iload 4), (154, .isub)] (by decide +kernel) (Ps := []) (pc' := 155) (lv' := [(0, .ref 66), (1, .int (nI w)), (2, .int (nI u)), (3, .int xq), (4, .int (nI (mxS (mB (ML V w u (vR V 4))) (mO (ML V w u (vR V 4))) (mG (ML V w u (vR V 4))) (ML V w u (vR V 4)).length (ML V w u (vR V 4)).length))), (5, .int (nI (cB (chn (ML V w u (vR V 4))) k))), (6, .int (nI (sN (mG (ML V w u (vR V 4))) k))), (7, .int (nI k))]) (st' := [.int (nI (sN (mG (ML V w u (vR V 4))) k) - nI (mxS (mB (ML V w u (vR V 4))) (mO (ML V w u (vR V 4))) (mG (ML V w u (vR V 4))) (ML V w u (vR V 4)).length (ML V w u (vR V 4)).length))]) (σ' := τ3) rfl True.intro ?_
                        exact rw_iret hX (by decide +kernel) (⟨by
  try rw [ek]
  first
  | (simp only [aChain, aCh, eq_true h4, eq_true h11, eq_false h16, hcw, hcu, eq_true htw, eq_true h28, eq_true h39, eq_false hvsw, eq_true h47, eq_false hvsu, eq_true h90, eq_false h132, eq_false h142, if_true, if_false, Bool.false_eq_true, and_self, and_true, true_and, and_false, false_and, oel_n, oel_s, decide_true, decide_false]; done)
  | (simp only [aChain, aCh, eq_true h4, eq_true h11, eq_false h16, hcw, hcu, eq_true htw, eq_true h28, eq_true h39, eq_false hvsw, eq_true h47, eq_false hvsu, eq_true h90, eq_false h132, eq_false h142, if_true, if_false, Bool.false_eq_true, and_self, and_true, true_and, and_false, false_and, oel_n, oel_s, decide_true, decide_false]; rw [htr, hmx]; done)
  | (have hne : xq ≠ nI 1 := by intro z; rw [z] at h132; exact absurd h132 (by decide +kernel)
     simp only [aChain, aCh, eq_true h4, eq_true h11, eq_false h16, hcw, hcu, eq_true htw, eq_true h28, eq_true h39, eq_false hvsw, eq_true h47, eq_false hvsu, eq_true h90, eq_false h132, eq_false h142, eq_false hne, if_true, if_false, Bool.false_eq_true, and_self, and_true, true_and, and_false, false_and, oel_n, oel_s, decide_true, decide_false]; rw [htr, hmx]; done)
  | (simp only [aChain, aCh, eq_true h4, eq_true h11, eq_false h16, hcw, hcu, eq_true htw, eq_true h28, eq_true h39, eq_false hvsw, eq_true h47, eq_false hvsu, eq_true h90, eq_false h132, eq_false h142, if_true, if_false, Bool.false_eq_true, and_self, and_true, true_and, and_false, false_and, oel_n, oel_s, decide_true, decide_false]; rw [pk_sub (by omega)]; congr 1; omega), hq3⟩)
                      · replace h142 : xq = nI 1 := Classical.not_not.mp h142
                        refine rw_go hX [(145, .iload 5), (147, .goto 8)] (by decide +kernel) (Ps := []) (pc' := 155) (lv' := [(0, .ref 66), (1, .int (nI w)), (2, .int (nI u)), (3, .int xq), (4, .int (nI (mxS (mB (ML V w u (vR V 4))) (mO (ML V w u (vR V 4))) (mG (ML V w u (vR V 4))) (ML V w u (vR V 4)).length (ML V w u (vR V 4)).length))), (5, .int (nI (cB (chn (ML V w u (vR V 4))) k))), (6, .int (nI (sN (mG (ML V w u (vR V 4))) k))), (7, .int (nI k))]) (st' := [.int (nI (cB (chn (ML V w u (vR V 4))) k))]) (σ' := τ3) rfl True.intro ?_
                        exact rw_iret hX (by decide +kernel) (⟨by
  try rw [ek]
  first
  | (simp only [aChain, aCh, eq_true h4, eq_true h11, eq_false h16, hcw, hcu, eq_true htw, eq_true h28, eq_true h39, eq_false hvsw, eq_true h47, eq_false hvsu, eq_true h90, eq_false h132, eq_true h142, if_true, if_false, Bool.false_eq_true, and_self, and_true, true_and, and_false, false_and, oel_n, oel_s, decide_true, decide_false]; done)
  | (simp only [aChain, aCh, eq_true h4, eq_true h11, eq_false h16, hcw, hcu, eq_true htw, eq_true h28, eq_true h39, eq_false hvsw, eq_true h47, eq_false hvsu, eq_true h90, eq_false h132, eq_true h142, if_true, if_false, Bool.false_eq_true, and_self, and_true, true_and, and_false, false_and, oel_n, oel_s, decide_true, decide_false]; rw [htr, hmx]; done)
  | (have hne : xq ≠ nI 1 := by intro z; rw [z] at h132; exact absurd h132 (by decide +kernel)
     simp only [aChain, aCh, eq_true h4, eq_true h11, eq_false h16, hcw, hcu, eq_true htw, eq_true h28, eq_true h39, eq_false hvsw, eq_true h47, eq_false hvsu, eq_true h90, eq_false h132, eq_true h142, eq_false hne, if_true, if_false, Bool.false_eq_true, and_self, and_true, true_and, and_false, false_and, oel_n, oel_s, decide_true, decide_false]; rw [htr, hmx]; done)
  | (simp only [aChain, aCh, eq_true h4, eq_true h11, eq_false h16, hcw, hcu, eq_true htw, eq_true h28, eq_true h39, eq_false hvsw, eq_true h47, eq_false hvsu, eq_true h90, eq_false h132, eq_true h142, if_true, if_false, Bool.false_eq_true, and_self, and_true, true_and, and_false, false_and, oel_n, oel_s, decide_true, decide_false]; rw [pk_sub (by omega)]; congr 1; omega), hq3⟩)
                    · replace h132 : xq = 0 := Classical.not_not.mp h132
                      refine rw_go hX [(135, .iload 4), (137, .goto 18)] (by decide +kernel) (Ps := []) (pc' := 155) (lv' := [(0, .ref 66), (1, .int (nI w)), (2, .int (nI u)), (3, .int xq), (4, .int (nI (mxS (mB (ML V w u (vR V 4))) (mO (ML V w u (vR V 4))) (mG (ML V w u (vR V 4))) (ML V w u (vR V 4)).length (ML V w u (vR V 4)).length))), (5, .int (nI (cB (chn (ML V w u (vR V 4))) k))), (6, .int (nI (sN (mG (ML V w u (vR V 4))) k))), (7, .int (nI k))]) (st' := [.int (nI (mxS (mB (ML V w u (vR V 4))) (mO (ML V w u (vR V 4))) (mG (ML V w u (vR V 4))) (ML V w u (vR V 4)).length (ML V w u (vR V 4)).length))]) (σ' := τ3) rfl True.intro ?_
                      exact rw_iret hX (by decide +kernel) (⟨by
  try rw [ek]
  first
  | (simp only [aChain, aCh, eq_true h4, eq_true h11, eq_false h16, hcw, hcu, eq_true htw, eq_true h28, eq_true h39, eq_false hvsw, eq_true h47, eq_false hvsu, eq_true h90, eq_true h132, if_true, if_false, Bool.false_eq_true, and_self, and_true, true_and, and_false, false_and, oel_n, oel_s, decide_true, decide_false]; done)
  | (simp only [aChain, aCh, eq_true h4, eq_true h11, eq_false h16, hcw, hcu, eq_true htw, eq_true h28, eq_true h39, eq_false hvsw, eq_true h47, eq_false hvsu, eq_true h90, eq_true h132, if_true, if_false, Bool.false_eq_true, and_self, and_true, true_and, and_false, false_and, oel_n, oel_s, decide_true, decide_false]; rw [htr, hmx]; done)
  | (have hne : xq ≠ nI 1 := by intro z; rw [z] at h132; exact absurd h132 (by decide +kernel)
     simp only [aChain, aCh, eq_true h4, eq_true h11, eq_false h16, hcw, hcu, eq_true htw, eq_true h28, eq_true h39, eq_false hvsw, eq_true h47, eq_false hvsu, eq_true h90, eq_true h132, eq_false hne, if_true, if_false, Bool.false_eq_true, and_self, and_true, true_and, and_false, false_and, oel_n, oel_s, decide_true, decide_false]; rw [htr, hmx]; done)
  | (simp only [aChain, aCh, eq_true h4, eq_true h11, eq_false h16, hcw, hcu, eq_true htw, eq_true h28, eq_true h39, eq_false hvsw, eq_true h47, eq_false hvsu, eq_true h90, eq_true h132, if_true, if_false, Bool.false_eq_true, and_self, and_true, true_and, and_false, false_and, oel_n, oel_s, decide_true, decide_false]; rw [pk_sub (by omega)]; congr 1; omega), hq3⟩)
                  · replace h90 := c2_geF h90
                    refine rw_go hX [(93, .iload 5), (95, .aload_n 0), (96, .getfield 68), (99, .iload 7), (101, .baload)] (by decide +kernel) (Ps := [vp_in (nI k) 1000]) (pc' := 102) (lv' := [(0, .ref 66), (1, .int (nI w)), (2, .int (nI u)), (3, .int xq), (4, .int (nI (mxS (mB (ML V w u (vR V 4))) (mO (ML V w u (vR V 4))) (mG (ML V w u (vR V 4))) (ML V w u (vR V 4)).length (ML V w u (vR V 4)).length))), (5, .int (nI (cB (chn (ML V w u (vR V 4))) k))), (6, .int (nI (sN (mG (ML V w u (vR V 4))) k))), (7, .int (nI k))]) (st' := [.int (τ3 86 (nI k).toNatClampNeg), .int (nI (cB (chn (ML V w u (vR V 4))) k))]) (σ' := τ3) rfl (vp_in_nI (by omega) (by omega)) ?_
                    rw [show (τ3 86 (nI k).toNatClampNeg) = τ3 86 k from (by rw [nI_clamp (by omega)])]
                    refine rw_if hX (tgt := 109) (cnd := .eq) (off := 7) (by decide +kernel) (by decide) (fun h102 => ?_) (fun h102 => ?_)
                    · have hcc : chn (ML V w u (vR V 4)) k = false := by rw [← hch k h90]; exact decide_eq_false (fun z => z h102)
                      refine rw_go hX [(109, .iconst 0), (110, .iadd)] (by decide +kernel) (Ps := []) (pc' := 111) (lv' := [(0, .ref 66), (1, .int (nI w)), (2, .int (nI u)), (3, .int xq), (4, .int (nI (mxS (mB (ML V w u (vR V 4))) (mO (ML V w u (vR V 4))) (mG (ML V w u (vR V 4))) (ML V w u (vR V 4)).length (ML V w u (vR V 4)).length))), (5, .int (nI (cB (chn (ML V w u (vR V 4))) k))), (6, .int (nI (sN (mG (ML V w u (vR V 4))) k))), (7, .int (nI k))]) (st' := [.int (nI (cB (chn (ML V w u (vR V 4))) k) + nI 0)]) (σ' := τ3) rfl True.intro ?_
                      rw [show (nI (cB (chn (ML V w u (vR V 4))) k) + nI 0) = nI (cB (chn (ML V w u (vR V 4))) k + 0) from nI_add _ _]
                      refine rw_go hX [(111, .istore 5), (113, .iload 6), (115, .aload_n 0), (116, .getfield 65), (119, .iload 7), (121, .iaload)] (by decide +kernel) (Ps := [vp_in (nI k) 1000]) (pc' := 122) (lv' := [(0, .ref 66), (1, .int (nI w)), (2, .int (nI u)), (3, .int xq), (4, .int (nI (mxS (mB (ML V w u (vR V 4))) (mO (ML V w u (vR V 4))) (mG (ML V w u (vR V 4))) (ML V w u (vR V 4)).length (ML V w u (vR V 4)).length))), (5, .int (nI (cB (chn (ML V w u (vR V 4))) k + 0))), (6, .int (nI (sN (mG (ML V w u (vR V 4))) k))), (7, .int (nI k))]) (st' := [.int (τ3 85 (nI k).toNatClampNeg), .int (nI (sN (mG (ML V w u (vR V 4))) k))]) (σ' := τ3) rfl (vp_in_nI (by omega) (by omega)) ?_
                      rw [show (τ3 85 (nI k).toNatClampNeg) = nI (mG (ML V w u (vR V 4)) k) from (by rw [nI_clamp (by omega), (hM3.2 k h90).2.2])]
                      refine rw_go hX [(122, .iadd)] (by decide +kernel) (Ps := []) (pc' := 123) (lv' := [(0, .ref 66), (1, .int (nI w)), (2, .int (nI u)), (3, .int xq), (4, .int (nI (mxS (mB (ML V w u (vR V 4))) (mO (ML V w u (vR V 4))) (mG (ML V w u (vR V 4))) (ML V w u (vR V 4)).length (ML V w u (vR V 4)).length))), (5, .int (nI (cB (chn (ML V w u (vR V 4))) k + 0))), (6, .int (nI (sN (mG (ML V w u (vR V 4))) k))), (7, .int (nI k))]) (st' := [.int (nI (sN (mG (ML V w u (vR V 4))) k) + nI (mG (ML V w u (vR V 4)) k))]) (σ' := τ3) rfl True.intro ?_
                      rw [show (nI (sN (mG (ML V w u (vR V 4))) k) + nI (mG (ML V w u (vR V 4)) k)) = nI (sN (mG (ML V w u (vR V 4))) k + mG (ML V w u (vR V 4)) k) from nI_add _ _]
                      refine rw_go hX [(123, .istore 6), (125, .iinc 7 1)] (by decide +kernel) (Ps := []) (pc' := 128) (lv' := [(0, .ref 66), (1, .int (nI w)), (2, .int (nI u)), (3, .int xq), (4, .int (nI (mxS (mB (ML V w u (vR V 4))) (mO (ML V w u (vR V 4))) (mG (ML V w u (vR V 4))) (ML V w u (vR V 4)).length (ML V w u (vR V 4)).length))), (5, .int (nI (cB (chn (ML V w u (vR V 4))) k + 0))), (6, .int (nI (sN (mG (ML V w u (vR V 4))) k + mG (ML V w u (vR V 4)) k))), (7, .int (nI k + nI 1))]) (st' := []) (σ' := τ3) rfl True.intro ?_
                      rw [show (nI k + nI 1) = nI (k + 1) from nI_add _ _]
                      refine rw_go hX [(128, .goto (-44))] (by decide +kernel) (Ps := []) (pc' := 84) (lv' := [(0, .ref 66), (1, .int (nI w)), (2, .int (nI u)), (3, .int xq), (4, .int (nI (mxS (mB (ML V w u (vR V 4))) (mO (ML V w u (vR V 4))) (mG (ML V w u (vR V 4))) (ML V w u (vR V 4)).length (ML V w u (vR V 4)).length))), (5, .int (nI (cB (chn (ML V w u (vR V 4))) k + 0))), (6, .int (nI (sN (mG (ML V w u (vR V 4))) k + mG (ML V w u (vR V 4)) k))), (7, .int (nI (k + 1)))]) (st' := []) (σ' := τ3) rfl True.intro ?_
                      refine rw_lsub (ks := [0, 1, 2, 3, 4, 5, 6, 7]) (lv' := [(0, .ref 66), (1, .int (nI w)), (2, .int (nI u)), (3, .int xq), (4, .int (nI (mxS (mB (ML V w u (vR V 4))) (mO (ML V w u (vR V 4))) (mG (ML V w u (vR V 4))) (ML V w u (vR V 4)).length (ML V w u (vR V 4)).length))), (5, .int (nI (cB (chn (ML V w u (vR V 4))) k + 0))), (6, .int (nI (sN (mG (ML V w u (vR V 4))) k + mG (ML V w u (vR V 4)) k))), (7, .int (nI (k + 1)))]) rfl ?_
                      have q := ih84 ((ML V w u (vR V 4)).length - (k + 1)) (by omega) (k + 1) rfl (by omega)
                      rw [cB_n (k := k) hcc, sN_1] at q
                      exact q
                    · have hcc : chn (ML V w u (vR V 4)) k = true := by rw [← hch k h90]; exact decide_eq_true h102
                      refine rw_go hX [(105, .iconst 1), (106, .goto 4), (110, .iadd)] (by decide +kernel) (Ps := []) (pc' := 111) (lv' := [(0, .ref 66), (1, .int (nI w)), (2, .int (nI u)), (3, .int xq), (4, .int (nI (mxS (mB (ML V w u (vR V 4))) (mO (ML V w u (vR V 4))) (mG (ML V w u (vR V 4))) (ML V w u (vR V 4)).length (ML V w u (vR V 4)).length))), (5, .int (nI (cB (chn (ML V w u (vR V 4))) k))), (6, .int (nI (sN (mG (ML V w u (vR V 4))) k))), (7, .int (nI k))]) (st' := [.int (nI (cB (chn (ML V w u (vR V 4))) k) + nI 1)]) (σ' := τ3) rfl True.intro ?_
                      rw [show (nI (cB (chn (ML V w u (vR V 4))) k) + nI 1) = nI (cB (chn (ML V w u (vR V 4))) k + 1) from nI_add _ _]
                      refine rw_go hX [(111, .istore 5), (113, .iload 6), (115, .aload_n 0), (116, .getfield 65), (119, .iload 7), (121, .iaload)] (by decide +kernel) (Ps := [vp_in (nI k) 1000]) (pc' := 122) (lv' := [(0, .ref 66), (1, .int (nI w)), (2, .int (nI u)), (3, .int xq), (4, .int (nI (mxS (mB (ML V w u (vR V 4))) (mO (ML V w u (vR V 4))) (mG (ML V w u (vR V 4))) (ML V w u (vR V 4)).length (ML V w u (vR V 4)).length))), (5, .int (nI (cB (chn (ML V w u (vR V 4))) k + 1))), (6, .int (nI (sN (mG (ML V w u (vR V 4))) k))), (7, .int (nI k))]) (st' := [.int (τ3 85 (nI k).toNatClampNeg), .int (nI (sN (mG (ML V w u (vR V 4))) k))]) (σ' := τ3) rfl (vp_in_nI (by omega) (by omega)) ?_
                      rw [show (τ3 85 (nI k).toNatClampNeg) = nI (mG (ML V w u (vR V 4)) k) from (by rw [nI_clamp (by omega), (hM3.2 k h90).2.2])]
                      refine rw_go hX [(122, .iadd)] (by decide +kernel) (Ps := []) (pc' := 123) (lv' := [(0, .ref 66), (1, .int (nI w)), (2, .int (nI u)), (3, .int xq), (4, .int (nI (mxS (mB (ML V w u (vR V 4))) (mO (ML V w u (vR V 4))) (mG (ML V w u (vR V 4))) (ML V w u (vR V 4)).length (ML V w u (vR V 4)).length))), (5, .int (nI (cB (chn (ML V w u (vR V 4))) k + 1))), (6, .int (nI (sN (mG (ML V w u (vR V 4))) k))), (7, .int (nI k))]) (st' := [.int (nI (sN (mG (ML V w u (vR V 4))) k) + nI (mG (ML V w u (vR V 4)) k))]) (σ' := τ3) rfl True.intro ?_
                      rw [show (nI (sN (mG (ML V w u (vR V 4))) k) + nI (mG (ML V w u (vR V 4)) k)) = nI (sN (mG (ML V w u (vR V 4))) k + mG (ML V w u (vR V 4)) k) from nI_add _ _]
                      refine rw_go hX [(123, .istore 6), (125, .iinc 7 1)] (by decide +kernel) (Ps := []) (pc' := 128) (lv' := [(0, .ref 66), (1, .int (nI w)), (2, .int (nI u)), (3, .int xq), (4, .int (nI (mxS (mB (ML V w u (vR V 4))) (mO (ML V w u (vR V 4))) (mG (ML V w u (vR V 4))) (ML V w u (vR V 4)).length (ML V w u (vR V 4)).length))), (5, .int (nI (cB (chn (ML V w u (vR V 4))) k + 1))), (6, .int (nI (sN (mG (ML V w u (vR V 4))) k + mG (ML V w u (vR V 4)) k))), (7, .int (nI k + nI 1))]) (st' := []) (σ' := τ3) rfl True.intro ?_
                      rw [show (nI k + nI 1) = nI (k + 1) from nI_add _ _]
                      refine rw_go hX [(128, .goto (-44))] (by decide +kernel) (Ps := []) (pc' := 84) (lv' := [(0, .ref 66), (1, .int (nI w)), (2, .int (nI u)), (3, .int xq), (4, .int (nI (mxS (mB (ML V w u (vR V 4))) (mO (ML V w u (vR V 4))) (mG (ML V w u (vR V 4))) (ML V w u (vR V 4)).length (ML V w u (vR V 4)).length))), (5, .int (nI (cB (chn (ML V w u (vR V 4))) k + 1))), (6, .int (nI (sN (mG (ML V w u (vR V 4))) k + mG (ML V w u (vR V 4)) k))), (7, .int (nI (k + 1)))]) (st' := []) (σ' := τ3) rfl True.intro ?_
                      refine rw_lsub (ks := [0, 1, 2, 3, 4, 5, 6, 7]) (lv' := [(0, .ref 66), (1, .int (nI w)), (2, .int (nI u)), (3, .int xq), (4, .int (nI (mxS (mB (ML V w u (vR V 4))) (mO (ML V w u (vR V 4))) (mG (ML V w u (vR V 4))) (ML V w u (vR V 4)).length (ML V w u (vR V 4)).length))), (5, .int (nI (cB (chn (ML V w u (vR V 4))) k + 1))), (6, .int (nI (sN (mG (ML V w u (vR V 4))) k + mG (ML V w u (vR V 4)) k))), (7, .int (nI (k + 1)))]) rfl ?_
                      have q := ih84 ((ML V w u (vR V 4)).length - (k + 1)) (by omega) (k + 1) rfl (by omega)
                      rw [cB_y (k := k) hcc, sN_1] at q
                      exact q
              refine rw_lsub (ks := [0, 1, 2, 3, 4, 5, 6, 7]) (lv' := [(0, .ref 66), (1, .int (nI w)), (2, .int (nI u)), (3, .int xq), (4, .int (nI (mxS (mB (ML V w u (vR V 4))) (mO (ML V w u (vR V 4))) (mG (ML V w u (vR V 4))) (ML V w u (vR V 4)).length (ML V w u (vR V 4)).length))), (5, .int (nI 0)), (6, .int (nI 0)), (7, .int (nI 0))]) rfl ?_
              exact L84 (ML V w u (vR V 4)).length 0 rfl (by omega)
            · replace h47 := of_decide_eq_false (zb_neF h47)
              have hvsu : vS V u = 0 := by omega
              refine rw_go hX [(50, .bipush (-11))] (by decide +kernel) (Ps := []) (pc' := 52) (lv' := [(0, .ref 66), (1, .int (nI w)), (2, .int (nI u)), (3, .int xq)]) (st' := [.int (-(nI 11))]) (σ' := σ) rfl True.intro ?_
              exact rw_iret hX (by decide +kernel) (⟨by simp only [aChain, eq_true h4, eq_true h11, eq_false h16, hcw, hcu, eq_true htw, eq_true h28, eq_true h39, eq_false hvsw, eq_false h47, eq_true hvsu, if_true, if_false, Bool.false_eq_true, and_self, and_true, true_and, and_false, false_and, oel_n, oel_s, decide_true, decide_false], MQu_rfl _⟩)
        · replace h28 := of_decide_eq_false (zb_neF h28)
          refine rw_go hX [(31, .bipush (-2))] (by decide +kernel) (Ps := []) (pc' := 33) (lv' := [(0, .ref 66), (1, .int (nI w)), (2, .int (nI u)), (3, .int xq)]) (st' := [.int (-(nI 2))]) (σ' := σ) rfl True.intro ?_
          exact rw_iret hX (by decide +kernel) (⟨by simp only [aChain, eq_true h4, eq_true h11, eq_false h16, hcw, hcu, eq_true htw, eq_false h28, if_true, if_false, Bool.false_eq_true, and_self, and_true, true_and, and_false, false_and, oel_n, oel_s, decide_true, decide_false], MQu_rfl _⟩)
