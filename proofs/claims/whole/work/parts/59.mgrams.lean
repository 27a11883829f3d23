/-! the model: letters spelt, grams, likeness, marks, prints -/
theorem upd_2 (f : Nat → Int32) (k : Nat) (x y : Int32) : upd (upd f k x) k y = upd f k y := by
  funext j
  by_cases h : j = k
  · subst h; rw [upd_s, upd_s]
  · rw [upd_n _ _ h, upd_n _ _ h, upd_n _ _ h]
theorem sw_3 (σ : Mm) {k1 k2 k3 : Nat} (h12 : k1 ≠ k2) (h13 : k1 ≠ k3) (h23 : k2 ≠ k3) {a b c : Nat → Int32} {p q r : Nat} {x y z : Int32} : sw (sw (sw (sr (sr (sr σ k1 a) k2 b) k3 c) k1 p x) k2 q y) k3 r z = sr (sr (sr σ k1 (upd a p x)) k2 (upd b q y)) k3 (upd c r z) := by
  funext k
  by_cases g3 : k = k3
  · subst g3
    rw [sw_row, sw_ne _ _ _ (Ne.symm h23), sw_ne _ _ _ (Ne.symm h13), sr_s, sr_s]
  · by_cases g2 : k = k2
    · subst g2
      rw [sw_ne _ _ _ g3, sw_row, sw_ne _ _ _ (Ne.symm h12), sr_n _ _ g3, sr_s, sr_n _ _ g3, sr_s]
    · by_cases g1 : k = k1
      · subst g1
        rw [sw_ne _ _ _ g3, sw_ne _ _ _ g2, sw_row, sr_n _ _ g3, sr_n _ _ g2, sr_s, sr_n _ _ g3, sr_n _ _ g2, sr_s]
      · rw [sw_ne _ _ _ g3, sw_ne _ _ _ g2, sw_ne _ _ _ g1, sr_n _ _ g3, sr_n _ _ g2, sr_n _ _ g1, sr_n _ _ g3, sr_n _ _ g2, sr_n _ _ g1]
theorem bz_x1 (q : Bool) : bz q ^^^ nI 1 = bz (!q) := by cases q <;> decide +kernel
theorem bz_x0 (q : Bool) : bz q ^^^ nI 0 = bz q := by cases q <;> decide +kernel
set_option maxRecDepth 20000 in
set_option maxHeartbeats 4000000 in
theorem m_spells (l : Launch) (G : Gl) (σ : Mm) (V : Mm) (w : Nat) (hV : vw σ 67 = V) (hv : wf V) (hw : w < 5) : AMv l G 4 mX10_spells [.ref 66, .int (nI w)] σ (fun σ' => σ' = rdL 75 76 77 V w σ) := by
  refine rw_inV 10 (by decide +kernel) rfl rfl ?_
  intro E hE hX
  subst hE
  have h50 := wf_s50 hv hw
  refine rw_go hX [(0, .aload_n 0), (1, .getfield 40), (4, .iload_n 1), (5, .iconst 0), (6, .iastore)] (by decide +kernel) (Ps := [vp_in (nI w) 5]) (pc' := 7) (lv' := [(0, .ref 66), (1, .int (nI w))]) (st' := []) (σ' := sw σ 77 (nI w).toNatClampNeg (nI 0)) rfl (vp_in_nI (by omega) (by omega)) ?_
  rw [show (sw σ 77 (nI w).toNatClampNeg (nI 0)) = sw σ 77 w (nI 0) from (by rw [nI_clamp (by omega)])]
  refine rw_go hX [(7, .iconst 0), (8, .istore_n 2), (9, .iconst 0), (10, .istore_n 3)] (by decide +kernel) (Ps := []) (pc' := 11) (lv' := [(0, .ref 66), (1, .int (nI w)), (2, .int (nI 0)), (3, .int (nI 0))]) (st' := []) (σ' := sw σ 77 w (nI 0)) rfl True.intro ?_
  have L11 : ∀ (μ11 : Nat) (i : Nat), μ11 = vS V w - i → (i ≤ vS V w) → RW E G 4 5 (QV E G (fun σ' => σ' = rdL 75 76 77 V w σ)) 11 [(0, .ref 66), (1, .int (nI w)), (2, .int (bz (qd V w i))), (3, .int (nI i))] [] (sr (sr (sr σ 75 (tR (σ 75) V w i)) 76 (pR (σ 76) V w i)) 77 (upd (σ 77) w (nI (ltN V w i)))) := by
    intro μ11
    induction μ11 using Nat.strongRecOn with
    | ind μ11 ih11 =>
      intro i hμ11 hi
      have hl := ltN_le V w i
      have hv2 : vw (sr (sr (sr σ 75 (tR (σ 75) V w i)) 76 (pR (σ 76) V w i)) 77 (upd (σ 77) w (nI (ltN V w i)))) 67 = V := by rw [vw_sr _ _ (by decide), vw_sr _ _ (by decide), vw_sr _ _ (by decide)]; exact hV
      refine rw_go hX [(11, .iload_n 3), (12, .aload_n 0), (13, .getfield 13), (16, .iload_n 1), (17, .iaload)] (by decide +kernel) (Ps := [vp_in (nI w) 5]) (pc' := 18) (lv' := [(0, .ref 66), (1, .int (nI w)), (2, .int (bz (qd V w i))), (3, .int (nI i))]) (st' := [.int ((sr (sr (sr σ 75 (tR (σ 75) V w i)) 76 (pR (σ 76) V w i)) 77 (upd (σ 77) w (nI (ltN V w i)))) 68 (nI w).toNatClampNeg), .int (nI i)]) (σ' := sr (sr (sr σ 75 (tR (σ 75) V w i)) 76 (pR (σ 76) V w i)) 77 (upd (σ 77) w (nI (ltN V w i)))) rfl (vp_in_nI (by omega) (by omega)) ?_
      rw [show ((sr (sr (sr σ 75 (tR (σ 75) V w i)) 76 (pR (σ 76) V w i)) 77 (upd (σ 77) w (nI (ltN V w i)))) 68 (nI w).toNatClampNeg) = nI (vS V w) from (by rw [nI_clamp (by omega), (vw_at hv2 1 (by omega)), wf_s hv hw])]
      refine rw_icmp hX (tgt := 116) (cnd := .ge) (off := 98) (by decide +kernel) (by decide) (fun h18 => ?_) (fun h18 => ?_)
      · replace h18 := c2_geT h18
        have e : i = vS V w := by omega
        exact rw_vret hX (by decide +kernel) (by rw [e]; rfl)
      · replace h18 := c2_geF h18
        refine rw_go hX [(21, .aload_n 0), (22, .iload_n 1), (23, .iload_n 3), (24, .aload_n 0), (25, .getfield 16), (28, .iload_n 1), (29, .iaload)] (by decide +kernel) (Ps := [vp_in (nI w) 5]) (pc' := 30) (lv' := [(0, .ref 66), (1, .int (nI w)), (2, .int (bz (qd V w i))), (3, .int (nI i))]) (st' := [.int ((sr (sr (sr σ 75 (tR (σ 75) V w i)) 76 (pR (σ 76) V w i)) 77 (upd (σ 77) w (nI (ltN V w i)))) 69 (nI w).toNatClampNeg), .int (nI i), .int (nI w), .ref 66]) (σ' := sr (sr (sr σ 75 (tR (σ 75) V w i)) 76 (pR (σ 76) V w i)) 77 (upd (σ 77) w (nI (ltN V w i)))) rfl (vp_in_nI (by omega) (by omega)) ?_
        rw [show ((sr (sr (sr σ 75 (tR (σ 75) V w i)) 76 (pR (σ 76) V w i)) 77 (upd (σ 77) w (nI (ltN V w i)))) 69 (nI w).toNatClampNeg) = nI (vK V w) from (by rw [nI_clamp (by omega), (vw_at hv2 2 (by omega)), wf_k hv hw])]
        refine rw_go hX [(30, .iload_n 2)] (by decide +kernel) (Ps := []) (pc' := 31) (lv' := [(0, .ref 66), (1, .int (nI w)), (2, .int (bz (qd V w i))), (3, .int (nI i))]) (st' := [.int (bz (qd V w i)), .int (nI (vK V w)), .int (nI i), .int (nI w), .ref 66]) (σ' := sr (sr (sr σ 75 (tR (σ 75) V w i)) 76 (pR (σ 76) V w i)) 77 (upd (σ 77) w (nI (ltN V w i)))) rfl True.intro ?_
        refine rw_callVi hX (as := [.int (nI w), .int (nI i), .int (nI (vK V w)), .int (bz (qd V w i))]) (rest := []) (m_asTold _ _ _ V w i (vK V w) (qd V w i) hv2 hv hw h18 (wf_k6 hv hw)) (by decide +kernel) mvX10_asTold lk10_170 (ci := 9) rfl rfl rfl (by decide) (Nat.le_of_ble_eq_true rfl) rfl ?_
        intro r1 σ1 hr
        rw [hr.1, show r1 = tl V w i from hr.2]
        clear hr σ1 r1
        refine rw_go hX [(34, .istore 4), (36, .iload 4)] (by decide +kernel) (Ps := []) (pc' := 38) (lv' := [(0, .ref 66), (1, .int (nI w)), (2, .int (bz (qd V w i))), (3, .int (nI i)), (4, .int (tl V w i))]) (st' := [.int (tl V w i)]) (σ' := sr (sr (sr σ 75 (tR (σ 75) V w i)) 76 (pR (σ 76) V w i)) 77 (upd (σ 77) w (nI (ltN V w i)))) rfl True.intro ?_
        refine rw_if hX (tgt := 86) (cnd := .eq) (off := 48) (by decide +kernel) (by decide) (fun h38 => ?_) (fun h38 => ?_)
        · replace h38 : (tl V w i = 0) := h38
          refine rw_go hX [(86, .iload_n 2), (87, .aload_n 0), (88, .getfield 9), (91, .bipush 50), (93, .iload_n 1), (94, .imul)] (by decide +kernel) (Ps := []) (pc' := 95) (lv' := [(0, .ref 66), (1, .int (nI w)), (2, .int (bz (qd V w i))), (3, .int (nI i)), (4, .int (tl V w i))]) (st' := [.int (nI 50 * nI w), .ref 67, .int (bz (qd V w i))]) (σ' := sr (sr (sr σ 75 (tR (σ 75) V w i)) 76 (pR (σ 76) V w i)) 77 (upd (σ 77) w (nI (ltN V w i)))) rfl True.intro ?_
          rw [show (nI 50 * nI w) = nI (50 * w) from pk_mul _ _]
          refine rw_go hX [(95, .iload_n 3), (96, .iadd)] (by decide +kernel) (Ps := []) (pc' := 97) (lv' := [(0, .ref 66), (1, .int (nI w)), (2, .int (bz (qd V w i))), (3, .int (nI i)), (4, .int (tl V w i))]) (st' := [.int (nI (50 * w) + nI i), .ref 67, .int (bz (qd V w i))]) (σ' := sr (sr (sr σ 75 (tR (σ 75) V w i)) 76 (pR (σ 76) V w i)) 77 (upd (σ 77) w (nI (ltN V w i)))) rfl True.intro ?_
          rw [show (nI (50 * w) + nI i) = nI (50 * w + i) from nI_add _ _]
          refine rw_go hX [(97, .iaload)] (by decide +kernel) (Ps := [vp_in (nI (50 * w + i)) 250]) (pc' := 98) (lv' := [(0, .ref 66), (1, .int (nI w)), (2, .int (bz (qd V w i))), (3, .int (nI i)), (4, .int (tl V w i))]) (st' := [.int ((sr (sr (sr σ 75 (tR (σ 75) V w i)) 76 (pR (σ 76) V w i)) 77 (upd (σ 77) w (nI (ltN V w i)))) 67 (nI (50 * w + i)).toNatClampNeg), .int (bz (qd V w i))]) (σ' := sr (sr (sr σ 75 (tR (σ 75) V w i)) 76 (pR (σ 76) V w i)) 77 (upd (σ 77) w (nI (ltN V w i)))) rfl (vp_in_nI (by omega) (by omega)) ?_
          rw [show ((sr (sr (sr σ 75 (tR (σ 75) V w i)) 76 (pR (σ 76) V w i)) 77 (upd (σ 77) w (nI (ltN V w i)))) 67 (nI (50 * w + i)).toNatClampNeg) = V 0 (50 * w + i) from (by rw [nI_clamp (by omega), (vw_at hv2 0 (by omega))])]
          refine rw_go hX [(98, .bipush 34)] (by decide +kernel) (Ps := []) (pc' := 100) (lv' := [(0, .ref 66), (1, .int (nI w)), (2, .int (bz (qd V w i))), (3, .int (nI i)), (4, .int (tl V w i))]) (st' := [.int (nI 34), .int (V 0 (50 * w + i)), .int (bz (qd V w i))]) (σ' := sr (sr (sr σ 75 (tR (σ 75) V w i)) 76 (pR (σ 76) V w i)) 77 (upd (σ 77) w (nI (ltN V w i)))) rfl True.intro ?_
          refine rw_icmp hX (tgt := 107) (cnd := .ne) (off := 7) (by decide +kernel) (by decide) (fun h100 => ?_) (fun h100 => ?_)
          · replace h100 : (V 0 (50 * w + i) ≠ nI 34) := h100
            refine rw_go hX [(107, .iconst 0), (108, .ixor)] (by decide +kernel) (Ps := []) (pc' := 109) (lv' := [(0, .ref 66), (1, .int (nI w)), (2, .int (bz (qd V w i))), (3, .int (nI i)), (4, .int (tl V w i))]) (st' := [.int (bz (qd V w i) ^^^ nI 0)]) (σ' := sr (sr (sr σ 75 (tR (σ 75) V w i)) 76 (pR (σ 76) V w i)) 77 (upd (σ 77) w (nI (ltN V w i)))) rfl True.intro ?_
            first | rw [bz_x1] | rw [bz_x0]
            refine rw_go hX [(109, .istore_n 2), (110, .iinc 3 1)] (by decide +kernel) (Ps := []) (pc' := 113) (lv' := [(0, .ref 66), (1, .int (nI w)), (2, .int (bz (qd V w i))), (3, .int (nI i + nI 1)), (4, .int (tl V w i))]) (st' := []) (σ' := sr (sr (sr σ 75 (tR (σ 75) V w i)) 76 (pR (σ 76) V w i)) 77 (upd (σ 77) w (nI (ltN V w i)))) rfl True.intro ?_
            rw [show (nI i + nI 1) = nI (i + 1) from nI_add _ _]
            refine rw_go hX [(113, .goto (-102))] (by decide +kernel) (Ps := []) (pc' := 11) (lv' := [(0, .ref 66), (1, .int (nI w)), (2, .int (bz (qd V w i))), (3, .int (nI (i + 1))), (4, .int (tl V w i))]) (st' := []) (σ' := sr (sr (sr σ 75 (tR (σ 75) V w i)) 76 (pR (σ 76) V w i)) 77 (upd (σ 77) w (nI (ltN V w i)))) rfl True.intro ?_
            refine rw_lsub (ks := [0, 1, 2, 3]) (lv' := [(0, .ref 66), (1, .int (nI w)), (2, .int (bz (qd V w i))), (3, .int (nI (i + 1)))]) rfl ?_
            have q := ih11 (vS V w - (i + 1)) (by omega) (i + 1) rfl (by omega)
            rw [ltN_0 h38, tR_0 h38, pR_0 h38] at q
            rw [qd_n h100] at q
            exact q
          · replace h100 : V 0 (50 * w + i) = nI 34 := Classical.not_not.mp h100
            refine rw_go hX [(103, .iconst 1), (104, .goto 4), (108, .ixor)] (by decide +kernel) (Ps := []) (pc' := 109) (lv' := [(0, .ref 66), (1, .int (nI w)), (2, .int (bz (qd V w i))), (3, .int (nI i)), (4, .int (tl V w i))]) (st' := [.int (bz (qd V w i) ^^^ nI 1)]) (σ' := sr (sr (sr σ 75 (tR (σ 75) V w i)) 76 (pR (σ 76) V w i)) 77 (upd (σ 77) w (nI (ltN V w i)))) rfl True.intro ?_
            first | rw [bz_x1] | rw [bz_x0]
            refine rw_go hX [(109, .istore_n 2), (110, .iinc 3 1)] (by decide +kernel) (Ps := []) (pc' := 113) (lv' := [(0, .ref 66), (1, .int (nI w)), (2, .int (bz (!qd V w i))), (3, .int (nI i + nI 1)), (4, .int (tl V w i))]) (st' := []) (σ' := sr (sr (sr σ 75 (tR (σ 75) V w i)) 76 (pR (σ 76) V w i)) 77 (upd (σ 77) w (nI (ltN V w i)))) rfl True.intro ?_
            rw [show (nI i + nI 1) = nI (i + 1) from nI_add _ _]
            refine rw_go hX [(113, .goto (-102))] (by decide +kernel) (Ps := []) (pc' := 11) (lv' := [(0, .ref 66), (1, .int (nI w)), (2, .int (bz (!qd V w i))), (3, .int (nI (i + 1))), (4, .int (tl V w i))]) (st' := []) (σ' := sr (sr (sr σ 75 (tR (σ 75) V w i)) 76 (pR (σ 76) V w i)) 77 (upd (σ 77) w (nI (ltN V w i)))) rfl True.intro ?_
            refine rw_lsub (ks := [0, 1, 2, 3]) (lv' := [(0, .ref 66), (1, .int (nI w)), (2, .int (bz (!qd V w i))), (3, .int (nI (i + 1)))]) rfl ?_
            have q := ih11 (vS V w - (i + 1)) (by omega) (i + 1) rfl (by omega)
            rw [ltN_0 h38, tR_0 h38, pR_0 h38] at q
            rw [qd_e h100] at q
            exact q
        · replace h38 : ¬ (tl V w i = 0) := h38
          refine rw_go hX [(41, .aload_n 0), (42, .getfield 34), (45, .bipush 50), (47, .iload_n 1), (48, .imul)] (by decide +kernel) (Ps := []) (pc' := 49) (lv' := [(0, .ref 66), (1, .int (nI w)), (2, .int (bz (qd V w i))), (3, .int (nI i)), (4, .int (tl V w i))]) (st' := [.int (nI 50 * nI w), .ref 75]) (σ' := sr (sr (sr σ 75 (tR (σ 75) V w i)) 76 (pR (σ 76) V w i)) 77 (upd (σ 77) w (nI (ltN V w i)))) rfl True.intro ?_
          rw [show (nI 50 * nI w) = nI (50 * w) from pk_mul _ _]
          refine rw_go hX [(49, .aload_n 0), (50, .getfield 40), (53, .iload_n 1), (54, .iaload)] (by decide +kernel) (Ps := [vp_in (nI w) 5]) (pc' := 55) (lv' := [(0, .ref 66), (1, .int (nI w)), (2, .int (bz (qd V w i))), (3, .int (nI i)), (4, .int (tl V w i))]) (st' := [.int ((sr (sr (sr σ 75 (tR (σ 75) V w i)) 76 (pR (σ 76) V w i)) 77 (upd (σ 77) w (nI (ltN V w i)))) 77 (nI w).toNatClampNeg), .int (nI (50 * w)), .ref 75]) (σ' := sr (sr (sr σ 75 (tR (σ 75) V w i)) 76 (pR (σ 76) V w i)) 77 (upd (σ 77) w (nI (ltN V w i)))) rfl (vp_in_nI (by omega) (by omega)) ?_
          rw [show ((sr (sr (sr σ 75 (tR (σ 75) V w i)) 76 (pR (σ 76) V w i)) 77 (upd (σ 77) w (nI (ltN V w i)))) 77 (nI w).toNatClampNeg) = nI (ltN V w i) from (by rw [nI_clamp (by omega), sr_s, upd_s])]
          refine rw_go hX [(55, .iadd)] (by decide +kernel) (Ps := []) (pc' := 56) (lv' := [(0, .ref 66), (1, .int (nI w)), (2, .int (bz (qd V w i))), (3, .int (nI i)), (4, .int (tl V w i))]) (st' := [.int (nI (50 * w) + nI (ltN V w i)), .ref 75]) (σ' := sr (sr (sr σ 75 (tR (σ 75) V w i)) 76 (pR (σ 76) V w i)) 77 (upd (σ 77) w (nI (ltN V w i)))) rfl True.intro ?_
          rw [show (nI (50 * w) + nI (ltN V w i)) = nI (50 * w + ltN V w i) from nI_add _ _]
          refine rw_go hX [(56, .iload 4), (58, .iastore)] (by decide +kernel) (Ps := [vp_in (nI (50 * w + ltN V w i)) 250]) (pc' := 59) (lv' := [(0, .ref 66), (1, .int (nI w)), (2, .int (bz (qd V w i))), (3, .int (nI i)), (4, .int (tl V w i))]) (st' := []) (σ' := sw (sr (sr (sr σ 75 (tR (σ 75) V w i)) 76 (pR (σ 76) V w i)) 77 (upd (σ 77) w (nI (ltN V w i)))) 75 (nI (50 * w + ltN V w i)).toNatClampNeg (tl V w i)) rfl (vp_in_nI (by omega) (by omega)) ?_
          rw [show (sw (sr (sr (sr σ 75 (tR (σ 75) V w i)) 76 (pR (σ 76) V w i)) 77 (upd (σ 77) w (nI (ltN V w i)))) 75 (nI (50 * w + ltN V w i)).toNatClampNeg (tl V w i)) = sw (sr (sr (sr σ 75 (tR (σ 75) V w i)) 76 (pR (σ 76) V w i)) 77 (upd (σ 77) w (nI (ltN V w i)))) 75 (50 * w + ltN V w i) (tl V w i) from (by rw [nI_clamp (by omega)])]
          refine rw_go hX [(59, .aload_n 0), (60, .getfield 37), (63, .bipush 50), (65, .iload_n 1), (66, .imul)] (by decide +kernel) (Ps := []) (pc' := 67) (lv' := [(0, .ref 66), (1, .int (nI w)), (2, .int (bz (qd V w i))), (3, .int (nI i)), (4, .int (tl V w i))]) (st' := [.int (nI 50 * nI w), .ref 76]) (σ' := sw (sr (sr (sr σ 75 (tR (σ 75) V w i)) 76 (pR (σ 76) V w i)) 77 (upd (σ 77) w (nI (ltN V w i)))) 75 (50 * w + ltN V w i) (tl V w i)) rfl True.intro ?_
          rw [show (nI 50 * nI w) = nI (50 * w) from pk_mul _ _]
          refine rw_go hX [(67, .aload_n 0), (68, .getfield 40), (71, .iload_n 1), (72, .iaload)] (by decide +kernel) (Ps := [vp_in (nI w) 5]) (pc' := 73) (lv' := [(0, .ref 66), (1, .int (nI w)), (2, .int (bz (qd V w i))), (3, .int (nI i)), (4, .int (tl V w i))]) (st' := [.int ((sw (sr (sr (sr σ 75 (tR (σ 75) V w i)) 76 (pR (σ 76) V w i)) 77 (upd (σ 77) w (nI (ltN V w i)))) 75 (50 * w + ltN V w i) (tl V w i)) 77 (nI w).toNatClampNeg), .int (nI (50 * w)), .ref 76]) (σ' := sw (sr (sr (sr σ 75 (tR (σ 75) V w i)) 76 (pR (σ 76) V w i)) 77 (upd (σ 77) w (nI (ltN V w i)))) 75 (50 * w + ltN V w i) (tl V w i)) rfl (vp_in_nI (by omega) (by omega)) ?_
          rw [show ((sw (sr (sr (sr σ 75 (tR (σ 75) V w i)) 76 (pR (σ 76) V w i)) 77 (upd (σ 77) w (nI (ltN V w i)))) 75 (50 * w + ltN V w i) (tl V w i)) 77 (nI w).toNatClampNeg) = nI (ltN V w i) from (by rw [nI_clamp (by omega), sw_ne _ _ _ (by decide), sr_s, upd_s])]
          refine rw_go hX [(73, .iadd)] (by decide +kernel) (Ps := []) (pc' := 74) (lv' := [(0, .ref 66), (1, .int (nI w)), (2, .int (bz (qd V w i))), (3, .int (nI i)), (4, .int (tl V w i))]) (st' := [.int (nI (50 * w) + nI (ltN V w i)), .ref 76]) (σ' := sw (sr (sr (sr σ 75 (tR (σ 75) V w i)) 76 (pR (σ 76) V w i)) 77 (upd (σ 77) w (nI (ltN V w i)))) 75 (50 * w + ltN V w i) (tl V w i)) rfl True.intro ?_
          rw [show (nI (50 * w) + nI (ltN V w i)) = nI (50 * w + ltN V w i) from nI_add _ _]
          refine rw_go hX [(74, .iload_n 3), (75, .iastore)] (by decide +kernel) (Ps := [vp_in (nI (50 * w + ltN V w i)) 250]) (pc' := 76) (lv' := [(0, .ref 66), (1, .int (nI w)), (2, .int (bz (qd V w i))), (3, .int (nI i)), (4, .int (tl V w i))]) (st' := []) (σ' := sw (sw (sr (sr (sr σ 75 (tR (σ 75) V w i)) 76 (pR (σ 76) V w i)) 77 (upd (σ 77) w (nI (ltN V w i)))) 75 (50 * w + ltN V w i) (tl V w i)) 76 (nI (50 * w + ltN V w i)).toNatClampNeg (nI i)) rfl (vp_in_nI (by omega) (by omega)) ?_
          rw [show (sw (sw (sr (sr (sr σ 75 (tR (σ 75) V w i)) 76 (pR (σ 76) V w i)) 77 (upd (σ 77) w (nI (ltN V w i)))) 75 (50 * w + ltN V w i) (tl V w i)) 76 (nI (50 * w + ltN V w i)).toNatClampNeg (nI i)) = sw (sw (sr (sr (sr σ 75 (tR (σ 75) V w i)) 76 (pR (σ 76) V w i)) 77 (upd (σ 77) w (nI (ltN V w i)))) 75 (50 * w + ltN V w i) (tl V w i)) 76 (50 * w + ltN V w i) (nI i) from (by rw [nI_clamp (by omega)])]
          refine rw_go hX [(76, .aload_n 0), (77, .getfield 40), (80, .iload_n 1), (81, .dup2), (82, .iaload)] (by decide +kernel) (Ps := [vp_in (nI w) 5]) (pc' := 83) (lv' := [(0, .ref 66), (1, .int (nI w)), (2, .int (bz (qd V w i))), (3, .int (nI i)), (4, .int (tl V w i))]) (st' := [.int ((sw (sw (sr (sr (sr σ 75 (tR (σ 75) V w i)) 76 (pR (σ 76) V w i)) 77 (upd (σ 77) w (nI (ltN V w i)))) 75 (50 * w + ltN V w i) (tl V w i)) 76 (50 * w + ltN V w i) (nI i)) 77 (nI w).toNatClampNeg), .int (nI w), .ref 77]) (σ' := sw (sw (sr (sr (sr σ 75 (tR (σ 75) V w i)) 76 (pR (σ 76) V w i)) 77 (upd (σ 77) w (nI (ltN V w i)))) 75 (50 * w + ltN V w i) (tl V w i)) 76 (50 * w + ltN V w i) (nI i)) rfl (vp_in_nI (by omega) (by omega)) ?_
          rw [show ((sw (sw (sr (sr (sr σ 75 (tR (σ 75) V w i)) 76 (pR (σ 76) V w i)) 77 (upd (σ 77) w (nI (ltN V w i)))) 75 (50 * w + ltN V w i) (tl V w i)) 76 (50 * w + ltN V w i) (nI i)) 77 (nI w).toNatClampNeg) = nI (ltN V w i) from (by rw [nI_clamp (by omega), sw_ne _ _ _ (by decide), sw_ne _ _ _ (by decide), sr_s, upd_s])]
          refine rw_go hX [(83, .iconst 1), (84, .iadd)] (by decide +kernel) (Ps := []) (pc' := 85) (lv' := [(0, .ref 66), (1, .int (nI w)), (2, .int (bz (qd V w i))), (3, .int (nI i)), (4, .int (tl V w i))]) (st' := [.int (nI (ltN V w i) + nI 1), .int (nI w), .ref 77]) (σ' := sw (sw (sr (sr (sr σ 75 (tR (σ 75) V w i)) 76 (pR (σ 76) V w i)) 77 (upd (σ 77) w (nI (ltN V w i)))) 75 (50 * w + ltN V w i) (tl V w i)) 76 (50 * w + ltN V w i) (nI i)) rfl True.intro ?_
          rw [show (nI (ltN V w i) + nI 1) = nI (ltN V w i + 1) from nI_add _ _]
          refine rw_go hX [(85, .iastore)] (by decide +kernel) (Ps := [vp_in (nI w) 5]) (pc' := 86) (lv' := [(0, .ref 66), (1, .int (nI w)), (2, .int (bz (qd V w i))), (3, .int (nI i)), (4, .int (tl V w i))]) (st' := []) (σ' := sw (sw (sw (sr (sr (sr σ 75 (tR (σ 75) V w i)) 76 (pR (σ 76) V w i)) 77 (upd (σ 77) w (nI (ltN V w i)))) 75 (50 * w + ltN V w i) (tl V w i)) 76 (50 * w + ltN V w i) (nI i)) 77 (nI w).toNatClampNeg (nI (ltN V w i + 1))) rfl (vp_in_nI (by omega) (by omega)) ?_
          rw [show (sw (sw (sw (sr (sr (sr σ 75 (tR (σ 75) V w i)) 76 (pR (σ 76) V w i)) 77 (upd (σ 77) w (nI (ltN V w i)))) 75 (50 * w + ltN V w i) (tl V w i)) 76 (50 * w + ltN V w i) (nI i)) 77 (nI w).toNatClampNeg (nI (ltN V w i + 1))) = sw (sw (sw (sr (sr (sr σ 75 (tR (σ 75) V w i)) 76 (pR (σ 76) V w i)) 77 (upd (σ 77) w (nI (ltN V w i)))) 75 (50 * w + ltN V w i) (tl V w i)) 76 (50 * w + ltN V w i) (nI i)) 77 w (nI (ltN V w i + 1)) from (by rw [nI_clamp (by omega)])]
          refine rw_go hX [(86, .iload_n 2), (87, .aload_n 0), (88, .getfield 9), (91, .bipush 50), (93, .iload_n 1), (94, .imul)] (by decide +kernel) (Ps := []) (pc' := 95) (lv' := [(0, .ref 66), (1, .int (nI w)), (2, .int (bz (qd V w i))), (3, .int (nI i)), (4, .int (tl V w i))]) (st' := [.int (nI 50 * nI w), .ref 67, .int (bz (qd V w i))]) (σ' := sw (sw (sw (sr (sr (sr σ 75 (tR (σ 75) V w i)) 76 (pR (σ 76) V w i)) 77 (upd (σ 77) w (nI (ltN V w i)))) 75 (50 * w + ltN V w i) (tl V w i)) 76 (50 * w + ltN V w i) (nI i)) 77 w (nI (ltN V w i + 1))) rfl True.intro ?_
          rw [show (nI 50 * nI w) = nI (50 * w) from pk_mul _ _]
          refine rw_go hX [(95, .iload_n 3), (96, .iadd)] (by decide +kernel) (Ps := []) (pc' := 97) (lv' := [(0, .ref 66), (1, .int (nI w)), (2, .int (bz (qd V w i))), (3, .int (nI i)), (4, .int (tl V w i))]) (st' := [.int (nI (50 * w) + nI i), .ref 67, .int (bz (qd V w i))]) (σ' := sw (sw (sw (sr (sr (sr σ 75 (tR (σ 75) V w i)) 76 (pR (σ 76) V w i)) 77 (upd (σ 77) w (nI (ltN V w i)))) 75 (50 * w + ltN V w i) (tl V w i)) 76 (50 * w + ltN V w i) (nI i)) 77 w (nI (ltN V w i + 1))) rfl True.intro ?_
          rw [show (nI (50 * w) + nI i) = nI (50 * w + i) from nI_add _ _]
          refine rw_go hX [(97, .iaload)] (by decide +kernel) (Ps := [vp_in (nI (50 * w + i)) 250]) (pc' := 98) (lv' := [(0, .ref 66), (1, .int (nI w)), (2, .int (bz (qd V w i))), (3, .int (nI i)), (4, .int (tl V w i))]) (st' := [.int ((sw (sw (sw (sr (sr (sr σ 75 (tR (σ 75) V w i)) 76 (pR (σ 76) V w i)) 77 (upd (σ 77) w (nI (ltN V w i)))) 75 (50 * w + ltN V w i) (tl V w i)) 76 (50 * w + ltN V w i) (nI i)) 77 w (nI (ltN V w i + 1))) 67 (nI (50 * w + i)).toNatClampNeg), .int (bz (qd V w i))]) (σ' := sw (sw (sw (sr (sr (sr σ 75 (tR (σ 75) V w i)) 76 (pR (σ 76) V w i)) 77 (upd (σ 77) w (nI (ltN V w i)))) 75 (50 * w + ltN V w i) (tl V w i)) 76 (50 * w + ltN V w i) (nI i)) 77 w (nI (ltN V w i + 1))) rfl (vp_in_nI (by omega) (by omega)) ?_
          rw [show ((sw (sw (sw (sr (sr (sr σ 75 (tR (σ 75) V w i)) 76 (pR (σ 76) V w i)) 77 (upd (σ 77) w (nI (ltN V w i)))) 75 (50 * w + ltN V w i) (tl V w i)) 76 (50 * w + ltN V w i) (nI i)) 77 w (nI (ltN V w i + 1))) 67 (nI (50 * w + i)).toNatClampNeg) = V 0 (50 * w + i) from (by rw [nI_clamp (by omega), sw_ne _ _ _ (by decide), sw_ne _ _ _ (by decide), sw_ne _ _ _ (by decide), (vw_at hv2 0 (by omega))])]
          refine rw_go hX [(98, .bipush 34)] (by decide +kernel) (Ps := []) (pc' := 100) (lv' := [(0, .ref 66), (1, .int (nI w)), (2, .int (bz (qd V w i))), (3, .int (nI i)), (4, .int (tl V w i))]) (st' := [.int (nI 34), .int (V 0 (50 * w + i)), .int (bz (qd V w i))]) (σ' := sw (sw (sw (sr (sr (sr σ 75 (tR (σ 75) V w i)) 76 (pR (σ 76) V w i)) 77 (upd (σ 77) w (nI (ltN V w i)))) 75 (50 * w + ltN V w i) (tl V w i)) 76 (50 * w + ltN V w i) (nI i)) 77 w (nI (ltN V w i + 1))) rfl True.intro ?_
          refine rw_icmp hX (tgt := 107) (cnd := .ne) (off := 7) (by decide +kernel) (by decide) (fun h100 => ?_) (fun h100 => ?_)
          · replace h100 : (V 0 (50 * w + i) ≠ nI 34) := h100
            refine rw_go hX [(107, .iconst 0), (108, .ixor)] (by decide +kernel) (Ps := []) (pc' := 109) (lv' := [(0, .ref 66), (1, .int (nI w)), (2, .int (bz (qd V w i))), (3, .int (nI i)), (4, .int (tl V w i))]) (st' := [.int (bz (qd V w i) ^^^ nI 0)]) (σ' := sw (sw (sw (sr (sr (sr σ 75 (tR (σ 75) V w i)) 76 (pR (σ 76) V w i)) 77 (upd (σ 77) w (nI (ltN V w i)))) 75 (50 * w + ltN V w i) (tl V w i)) 76 (50 * w + ltN V w i) (nI i)) 77 w (nI (ltN V w i + 1))) rfl True.intro ?_
            first | rw [bz_x1] | rw [bz_x0]
            refine rw_go hX [(109, .istore_n 2), (110, .iinc 3 1)] (by decide +kernel) (Ps := []) (pc' := 113) (lv' := [(0, .ref 66), (1, .int (nI w)), (2, .int (bz (qd V w i))), (3, .int (nI i + nI 1)), (4, .int (tl V w i))]) (st' := []) (σ' := sw (sw (sw (sr (sr (sr σ 75 (tR (σ 75) V w i)) 76 (pR (σ 76) V w i)) 77 (upd (σ 77) w (nI (ltN V w i)))) 75 (50 * w + ltN V w i) (tl V w i)) 76 (50 * w + ltN V w i) (nI i)) 77 w (nI (ltN V w i + 1))) rfl True.intro ?_
            rw [show (nI i + nI 1) = nI (i + 1) from nI_add _ _]
            refine rw_go hX [(113, .goto (-102))] (by decide +kernel) (Ps := []) (pc' := 11) (lv' := [(0, .ref 66), (1, .int (nI w)), (2, .int (bz (qd V w i))), (3, .int (nI (i + 1))), (4, .int (tl V w i))]) (st' := []) (σ' := sw (sw (sw (sr (sr (sr σ 75 (tR (σ 75) V w i)) 76 (pR (σ 76) V w i)) 77 (upd (σ 77) w (nI (ltN V w i)))) 75 (50 * w + ltN V w i) (tl V w i)) 76 (50 * w + ltN V w i) (nI i)) 77 w (nI (ltN V w i + 1))) rfl True.intro ?_
            refine rw_lsub (ks := [0, 1, 2, 3]) (lv' := [(0, .ref 66), (1, .int (nI w)), (2, .int (bz (qd V w i))), (3, .int (nI (i + 1)))]) rfl ?_
            have q := ih11 (vS V w - (i + 1)) (by omega) (i + 1) rfl (by omega)
            rw [ltN_1 h38, tR_1 h38, pR_1 h38, ← upd_2 (σ 77) w (nI (ltN V w i)) (nI (ltN V w i + 1)), ← sw_3 _ (by decide) (by decide) (by decide)] at q
            rw [qd_n h100] at q
            exact q
          · replace h100 : V 0 (50 * w + i) = nI 34 := Classical.not_not.mp h100
            refine rw_go hX [(103, .iconst 1), (104, .goto 4), (108, .ixor)] (by decide +kernel) (Ps := []) (pc' := 109) (lv' := [(0, .ref 66), (1, .int (nI w)), (2, .int (bz (qd V w i))), (3, .int (nI i)), (4, .int (tl V w i))]) (st' := [.int (bz (qd V w i) ^^^ nI 1)]) (σ' := sw (sw (sw (sr (sr (sr σ 75 (tR (σ 75) V w i)) 76 (pR (σ 76) V w i)) 77 (upd (σ 77) w (nI (ltN V w i)))) 75 (50 * w + ltN V w i) (tl V w i)) 76 (50 * w + ltN V w i) (nI i)) 77 w (nI (ltN V w i + 1))) rfl True.intro ?_
            first | rw [bz_x1] | rw [bz_x0]
            refine rw_go hX [(109, .istore_n 2), (110, .iinc 3 1)] (by decide +kernel) (Ps := []) (pc' := 113) (lv' := [(0, .ref 66), (1, .int (nI w)), (2, .int (bz (!qd V w i))), (3, .int (nI i + nI 1)), (4, .int (tl V w i))]) (st' := []) (σ' := sw (sw (sw (sr (sr (sr σ 75 (tR (σ 75) V w i)) 76 (pR (σ 76) V w i)) 77 (upd (σ 77) w (nI (ltN V w i)))) 75 (50 * w + ltN V w i) (tl V w i)) 76 (50 * w + ltN V w i) (nI i)) 77 w (nI (ltN V w i + 1))) rfl True.intro ?_
            rw [show (nI i + nI 1) = nI (i + 1) from nI_add _ _]
            refine rw_go hX [(113, .goto (-102))] (by decide +kernel) (Ps := []) (pc' := 11) (lv' := [(0, .ref 66), (1, .int (nI w)), (2, .int (bz (!qd V w i))), (3, .int (nI (i + 1))), (4, .int (tl V w i))]) (st' := []) (σ' := sw (sw (sw (sr (sr (sr σ 75 (tR (σ 75) V w i)) 76 (pR (σ 76) V w i)) 77 (upd (σ 77) w (nI (ltN V w i)))) 75 (50 * w + ltN V w i) (tl V w i)) 76 (50 * w + ltN V w i) (nI i)) 77 w (nI (ltN V w i + 1))) rfl True.intro ?_
            refine rw_lsub (ks := [0, 1, 2, 3]) (lv' := [(0, .ref 66), (1, .int (nI w)), (2, .int (bz (!qd V w i))), (3, .int (nI (i + 1)))]) rfl ?_
            have q := ih11 (vS V w - (i + 1)) (by omega) (i + 1) rfl (by omega)
            rw [ltN_1 h38, tR_1 h38, pR_1 h38, ← upd_2 (σ 77) w (nI (ltN V w i)) (nI (ltN V w i + 1)), ← sw_3 _ (by decide) (by decide) (by decide)] at q
            rw [qd_e h100] at q
            exact q
  refine rw_lsub (ks := [0, 1, 2, 3]) (lv' := [(0, .ref 66), (1, .int (nI w)), (2, .int (nI 0)), (3, .int (nI 0))]) rfl ?_
  have q := L11 (vS V w) 0 (by omega) (by omega)
  rw [show tR (σ 75) V w 0 = σ 75 from rfl, show pR (σ 76) V w 0 = σ 76 from rfl, sr_id, sr_id] at q
  exact q
set_option maxRecDepth 20000 in
set_option maxHeartbeats 4000000 in
theorem m_grams (l : Launch) (G : Gl) (σ : Mm) (V : Mm) (w : Nat) (hv : wf V) (hw : w < 5) (h71 : σ 71 = V 4) (h77 : σ 77 w = nI (lC V w)) : AMi l G 0 mX10_grams [.ref 66, .int (nI w)] σ (fun r σ' => σ' = σ ∧ r = nI (gC V w)) := by
  refine rw_inI 10 (by decide +kernel) rfl rfl ?_
  intro E hE hX
  subst hE
  have hL5 := lC_50 hv hw
  have hK := wf_K hv
  refine rw_go hX [(0, .iconst 0), (1, .aload_n 0), (2, .getfield 40), (5, .iload_n 1), (6, .iaload)] (by decide +kernel) (Ps := [vp_in (nI w) 5]) (pc' := 7) (lv' := [(0, .ref 66), (1, .int (nI w))]) (st' := [.int (σ 77 (nI w).toNatClampNeg), .int (nI 0)]) (σ' := σ) rfl (vp_in_nI (by omega) (by omega)) ?_
  rw [show (σ 77 (nI w).toNatClampNeg) = nI (lC V w) from (by rw [nI_clamp (by omega), h77])]
  refine rw_go hX [(7, .aload_n 0), (8, .getfield 22), (11, .iconst 0), (12, .iaload)] (by decide +kernel) (Ps := [vp_in (nI 0) 6]) (pc' := 13) (lv' := [(0, .ref 66), (1, .int (nI w))]) (st' := [.int (σ 71 (nI 0).toNatClampNeg), .int (nI (lC V w)), .int (nI 0)]) (σ' := σ) rfl (vp_in_nI (by omega) (by omega)) ?_
  rw [show (σ 71 (nI 0).toNatClampNeg) = nI (vR V 0) from (by rw [nI_clamp (by omega), h71, hK.1])]
  refine rw_go hX [(13, .isub), (14, .iconst 1), (15, .iadd)] (by decide +kernel) (Ps := []) (pc' := 16) (lv' := [(0, .ref 66), (1, .int (nI w))]) (st' := [.int ((nI (lC V w) - nI (vR V 0)) + nI 1), .int (nI 0)]) (σ' := σ) rfl True.intro ?_
  refine rw_max hX (by decide +kernel) lk10_182 (Nat.le_of_ble_eq_true rfl) ?_
  rw [show (if nI 0 < ((nI (lC V w) - nI (vR V 0)) + nI 1) then ((nI (lC V w) - nI (vR V 0)) + nI 1) else nI 0) = nI (gC V w) from gN_max hL5 (by omega)]
  exact rw_iret hX (by decide +kernel) (⟨rfl, rfl⟩)
set_option maxRecDepth 20000 in
set_option maxHeartbeats 4000000 in
theorem m_isLike0 (l : Launch) (G : Gl) (σ : Mm) (w g v h K : Nat) (hp : 50 * w + g + K ≤ 250) (hq : 50 * v + h + K ≤ 250) (hK : σ 71 0 = nI K) (hK1 : 1 ≤ K) : AMi l G 0 mX10_isLike [.ref 66, .int (nI w), .int (nI g), .int (nI v), .int (nI h)] σ (fun r σ' => σ' = σ ∧ r = bz (decide (σ 78 (50 * w + g) = σ 78 (50 * v + h)) && lkC (σ 75) (50 * w + g) (50 * v + h) K)) := by
  refine rw_inI 10 (by decide +kernel) rfl rfl ?_
  intro E hE hX
  subst hE
  refine rw_go hX [(0, .aload_n 0), (1, .getfield 43), (4, .bipush 50), (6, .iload_n 1), (7, .imul)] (by decide +kernel) (Ps := []) (pc' := 8) (lv' := [(0, .ref 66), (1, .int (nI w)), (2, .int (nI g)), (3, .int (nI v)), (4, .int (nI h))]) (st' := [.int (nI 50 * nI w), .ref 78]) (σ' := σ) rfl True.intro ?_
  rw [show (nI 50 * nI w) = nI (50 * w) from pk_mul _ _]
  refine rw_go hX [(8, .iload_n 2), (9, .iadd)] (by decide +kernel) (Ps := []) (pc' := 10) (lv' := [(0, .ref 66), (1, .int (nI w)), (2, .int (nI g)), (3, .int (nI v)), (4, .int (nI h))]) (st' := [.int (nI (50 * w) + nI g), .ref 78]) (σ' := σ) rfl True.intro ?_
  rw [show (nI (50 * w) + nI g) = nI (50 * w + g) from nI_add _ _]
  refine rw_go hX [(10, .iaload)] (by decide +kernel) (Ps := [vp_in (nI (50 * w + g)) 250]) (pc' := 11) (lv' := [(0, .ref 66), (1, .int (nI w)), (2, .int (nI g)), (3, .int (nI v)), (4, .int (nI h))]) (st' := [.int (σ 78 (nI (50 * w + g)).toNatClampNeg)]) (σ' := σ) rfl (vp_in_nI (by omega) (by omega)) ?_
  rw [show (σ 78 (nI (50 * w + g)).toNatClampNeg) = σ 78 (50 * w + g) from (by rw [nI_clamp (by omega)])]
  refine rw_go hX [(11, .aload_n 0), (12, .getfield 43), (15, .bipush 50), (17, .iload_n 3), (18, .imul)] (by decide +kernel) (Ps := []) (pc' := 19) (lv' := [(0, .ref 66), (1, .int (nI w)), (2, .int (nI g)), (3, .int (nI v)), (4, .int (nI h))]) (st' := [.int (nI 50 * nI v), .ref 78, .int (σ 78 (50 * w + g))]) (σ' := σ) rfl True.intro ?_
  rw [show (nI 50 * nI v) = nI (50 * v) from pk_mul _ _]
  refine rw_go hX [(19, .iload 4), (21, .iadd)] (by decide +kernel) (Ps := []) (pc' := 22) (lv' := [(0, .ref 66), (1, .int (nI w)), (2, .int (nI g)), (3, .int (nI v)), (4, .int (nI h))]) (st' := [.int (nI (50 * v) + nI h), .ref 78, .int (σ 78 (50 * w + g))]) (σ' := σ) rfl True.intro ?_
  rw [show (nI (50 * v) + nI h) = nI (50 * v + h) from nI_add _ _]
  refine rw_go hX [(22, .iaload)] (by decide +kernel) (Ps := [vp_in (nI (50 * v + h)) 250]) (pc' := 23) (lv' := [(0, .ref 66), (1, .int (nI w)), (2, .int (nI g)), (3, .int (nI v)), (4, .int (nI h))]) (st' := [.int (σ 78 (nI (50 * v + h)).toNatClampNeg), .int (σ 78 (50 * w + g))]) (σ' := σ) rfl (vp_in_nI (by omega) (by omega)) ?_
  rw [show (σ 78 (nI (50 * v + h)).toNatClampNeg) = σ 78 (50 * v + h) from (by rw [nI_clamp (by omega)])]
  refine rw_icmp hX (tgt := 28) (cnd := .eq) (off := 5) (by decide +kernel) (by decide) (fun h23 => ?_) (fun h23 => ?_)
  · replace h23 : (σ 78 (50 * w + g) = σ 78 (50 * v + h)) := h23
    refine rw_go hX [(28, .iconst 0), (29, .istore 5)] (by decide +kernel) (Ps := []) (pc' := 31) (lv' := [(0, .ref 66), (1, .int (nI w)), (2, .int (nI g)), (3, .int (nI v)), (4, .int (nI h)), (5, .int (nI 0))]) (st' := []) (σ' := σ) rfl True.intro ?_
    have L31 : ∀ (μ31 : Nat) (k : Nat), μ31 = K - k → (k ≤ K) → (∀ t, t < k → σ 75 (50 * w + g + t) = σ 75 (50 * v + h + t)) → RW E G 0 6 (QI E G (fun r σ' => σ' = σ ∧ r = bz (decide (σ 78 (50 * w + g) = σ 78 (50 * v + h)) && lkC (σ 75) (50 * w + g) (50 * v + h) K))) 31 [(0, .ref 66), (1, .int (nI w)), (2, .int (nI g)), (3, .int (nI v)), (4, .int (nI h)), (5, .int (nI k))] [] σ := by
      intro μ31
      induction μ31 using Nat.strongRecOn with
      | ind μ31 ih31 =>
        intro k hμ31 hk hA
        refine rw_go hX [(31, .iload 5), (33, .aload_n 0), (34, .getfield 22), (37, .iconst 0), (38, .iaload)] (by decide +kernel) (Ps := [vp_in (nI 0) 6]) (pc' := 39) (lv' := [(0, .ref 66), (1, .int (nI w)), (2, .int (nI g)), (3, .int (nI v)), (4, .int (nI h)), (5, .int (nI k))]) (st' := [.int (σ 71 (nI 0).toNatClampNeg), .int (nI k)]) (σ' := σ) rfl (vp_in_nI (by omega) (by omega)) ?_
        rw [show (σ 71 (nI 0).toNatClampNeg) = nI K from (by rw [nI_clamp (by omega), hK])]
        refine rw_icmp hX (tgt := 82) (cnd := .ge) (off := 43) (by decide +kernel) (by decide) (fun h39 => ?_) (fun h39 => ?_)
        · replace h39 := c2_geT h39
          have ek : k = K := by omega
          have e2 : lkC (σ 75) (50 * w + g) (50 * v + h) K = true := (lkC_iff _ _ _ _).mpr (by rw [← ek]; exact hA)
          refine rw_go hX [(82, .iconst 1)] (by decide +kernel) (Ps := []) (pc' := 83) (lv' := [(0, .ref 66), (1, .int (nI w)), (2, .int (nI g)), (3, .int (nI v)), (4, .int (nI h)), (5, .int (nI k))]) (st' := [.int (nI 1)]) (σ' := σ) rfl True.intro ?_
          exact rw_zret hX (by decide +kernel) (Or.inr rfl) (⟨rfl, by rw [e2, decide_eq_true h23]; rfl⟩)
        · replace h39 := c2_geF h39
          refine rw_go hX [(42, .aload_n 0), (43, .getfield 34), (46, .bipush 50), (48, .iload_n 1), (49, .imul)] (by decide +kernel) (Ps := []) (pc' := 50) (lv' := [(0, .ref 66), (1, .int (nI w)), (2, .int (nI g)), (3, .int (nI v)), (4, .int (nI h)), (5, .int (nI k))]) (st' := [.int (nI 50 * nI w), .ref 75]) (σ' := σ) rfl True.intro ?_
          rw [show (nI 50 * nI w) = nI (50 * w) from pk_mul _ _]
          refine rw_go hX [(50, .iload_n 2), (51, .iadd)] (by decide +kernel) (Ps := []) (pc' := 52) (lv' := [(0, .ref 66), (1, .int (nI w)), (2, .int (nI g)), (3, .int (nI v)), (4, .int (nI h)), (5, .int (nI k))]) (st' := [.int (nI (50 * w) + nI g), .ref 75]) (σ' := σ) rfl True.intro ?_
          rw [show (nI (50 * w) + nI g) = nI (50 * w + g) from nI_add _ _]
          refine rw_go hX [(52, .iload 5), (54, .iadd)] (by decide +kernel) (Ps := []) (pc' := 55) (lv' := [(0, .ref 66), (1, .int (nI w)), (2, .int (nI g)), (3, .int (nI v)), (4, .int (nI h)), (5, .int (nI k))]) (st' := [.int (nI (50 * w + g) + nI k), .ref 75]) (σ' := σ) rfl True.intro ?_
          rw [show (nI (50 * w + g) + nI k) = nI (50 * w + g + k) from nI_add _ _]
          refine rw_go hX [(55, .iaload)] (by decide +kernel) (Ps := [vp_in (nI (50 * w + g + k)) 250]) (pc' := 56) (lv' := [(0, .ref 66), (1, .int (nI w)), (2, .int (nI g)), (3, .int (nI v)), (4, .int (nI h)), (5, .int (nI k))]) (st' := [.int (σ 75 (nI (50 * w + g + k)).toNatClampNeg)]) (σ' := σ) rfl (vp_in_nI (by omega) (by omega)) ?_
          rw [show (σ 75 (nI (50 * w + g + k)).toNatClampNeg) = σ 75 (50 * w + g + k) from (by rw [nI_clamp (by omega)])]
          refine rw_go hX [(56, .aload_n 0), (57, .getfield 34), (60, .bipush 50), (62, .iload_n 3), (63, .imul)] (by decide +kernel) (Ps := []) (pc' := 64) (lv' := [(0, .ref 66), (1, .int (nI w)), (2, .int (nI g)), (3, .int (nI v)), (4, .int (nI h)), (5, .int (nI k))]) (st' := [.int (nI 50 * nI v), .ref 75, .int (σ 75 (50 * w + g + k))]) (σ' := σ) rfl True.intro ?_
          rw [show (nI 50 * nI v) = nI (50 * v) from pk_mul _ _]
          refine rw_go hX [(64, .iload 4), (66, .iadd)] (by decide +kernel) (Ps := []) (pc' := 67) (lv' := [(0, .ref 66), (1, .int (nI w)), (2, .int (nI g)), (3, .int (nI v)), (4, .int (nI h)), (5, .int (nI k))]) (st' := [.int (nI (50 * v) + nI h), .ref 75, .int (σ 75 (50 * w + g + k))]) (σ' := σ) rfl True.intro ?_
          rw [show (nI (50 * v) + nI h) = nI (50 * v + h) from nI_add _ _]
          refine rw_go hX [(67, .iload 5), (69, .iadd)] (by decide +kernel) (Ps := []) (pc' := 70) (lv' := [(0, .ref 66), (1, .int (nI w)), (2, .int (nI g)), (3, .int (nI v)), (4, .int (nI h)), (5, .int (nI k))]) (st' := [.int (nI (50 * v + h) + nI k), .ref 75, .int (σ 75 (50 * w + g + k))]) (σ' := σ) rfl True.intro ?_
          rw [show (nI (50 * v + h) + nI k) = nI (50 * v + h + k) from nI_add _ _]
          refine rw_go hX [(70, .iaload)] (by decide +kernel) (Ps := [vp_in (nI (50 * v + h + k)) 250]) (pc' := 71) (lv' := [(0, .ref 66), (1, .int (nI w)), (2, .int (nI g)), (3, .int (nI v)), (4, .int (nI h)), (5, .int (nI k))]) (st' := [.int (σ 75 (nI (50 * v + h + k)).toNatClampNeg), .int (σ 75 (50 * w + g + k))]) (σ' := σ) rfl (vp_in_nI (by omega) (by omega)) ?_
          rw [show (σ 75 (nI (50 * v + h + k)).toNatClampNeg) = σ 75 (50 * v + h + k) from (by rw [nI_clamp (by omega)])]
          refine rw_icmp hX (tgt := 76) (cnd := .eq) (off := 5) (by decide +kernel) (by decide) (fun h71 => ?_) (fun h71 => ?_)
          · replace h71 : (σ 75 (50 * w + g + k) = σ 75 (50 * v + h + k)) := h71
            refine rw_go hX [(76, .iinc 5 1)] (by decide +kernel) (Ps := []) (pc' := 79) (lv' := [(0, .ref 66), (1, .int (nI w)), (2, .int (nI g)), (3, .int (nI v)), (4, .int (nI h)), (5, .int (nI k + nI 1))]) (st' := []) (σ' := σ) rfl True.intro ?_
            rw [show (nI k + nI 1) = nI (k + 1) from nI_add _ _]
            refine rw_go hX [(79, .goto (-48))] (by decide +kernel) (Ps := []) (pc' := 31) (lv' := [(0, .ref 66), (1, .int (nI w)), (2, .int (nI g)), (3, .int (nI v)), (4, .int (nI h)), (5, .int (nI (k + 1)))]) (st' := []) (σ' := σ) rfl True.intro ?_
            refine rw_lsub (ks := [0, 1, 2, 3, 4, 5]) (lv' := [(0, .ref 66), (1, .int (nI w)), (2, .int (nI g)), (3, .int (nI v)), (4, .int (nI h)), (5, .int (nI (k + 1)))]) rfl ?_
            exact ih31 (K - (k + 1)) (by omega) (k + 1) rfl (by omega) (fun t ht => by
              rcases Nat.lt_or_ge t k with q | q
              · exact hA t q
              · rw [show t = k by omega]; exact h71)
          · replace h71 : ¬ (σ 75 (50 * w + g + k) = σ 75 (50 * v + h + k)) := h71
            have e2 : lkC (σ 75) (50 * w + g) (50 * v + h) K = false := by
              cases z : lkC (σ 75) (50 * w + g) (50 * v + h) K with
              | false => rfl
              | true => exact absurd ((lkC_iff _ _ _ _).mp z k h39) h71
            refine rw_go hX [(74, .iconst 0)] (by decide +kernel) (Ps := []) (pc' := 75) (lv' := [(0, .ref 66), (1, .int (nI w)), (2, .int (nI g)), (3, .int (nI v)), (4, .int (nI h)), (5, .int (nI k))]) (st' := [.int (nI 0)]) (σ' := σ) rfl True.intro ?_
            exact rw_zret hX (by decide +kernel) (Or.inl rfl) (⟨rfl, by rw [e2, Bool.and_false]; rfl⟩)
    refine rw_lsub (ks := [0, 1, 2, 3, 4, 5]) (lv' := [(0, .ref 66), (1, .int (nI w)), (2, .int (nI g)), (3, .int (nI v)), (4, .int (nI h)), (5, .int (nI 0))]) rfl ?_
    exact L31 K 0 rfl (by omega) (fun t ht => by omega)
  · replace h23 : ¬ (σ 78 (50 * w + g) = σ 78 (50 * v + h)) := h23
    have e : decide (σ 78 (50 * w + g) = σ 78 (50 * v + h)) = false := decide_eq_false h23
    refine rw_go hX [(26, .iconst 0)] (by decide +kernel) (Ps := []) (pc' := 27) (lv' := [(0, .ref 66), (1, .int (nI w)), (2, .int (nI g)), (3, .int (nI v)), (4, .int (nI h))]) (st' := [.int (nI 0)]) (σ' := σ) rfl True.intro ?_
    exact rw_zret hX (by decide +kernel) (Or.inl rfl) (⟨rfl, by rw [e]; rfl⟩)
theorem fl_1z (f : Nat → Int32) {a k : Nat} (v : Int32) : upd (fl f a (a + k) v) (a + k) v = fl f a (a + (k + 1)) v := fl_1 f v (by omega)
theorem sw_2 (σ : Mm) {k1 k2 : Nat} (h12 : k1 ≠ k2) {a b : Nat → Int32} {p q : Nat} {x y : Int32} : sw (sw (sr (sr σ k1 a) k2 b) k2 q y) k1 p x = sr (sr σ k1 (upd a p x)) k2 (upd b q y) := by
  funext k
  by_cases g2 : k = k2
  · subst g2
    rw [sw_ne _ _ _ (Ne.symm h12), sw_row, sr_s, sr_s]
  · by_cases g1 : k = k1
    · subst g1
      rw [sw_row, sw_ne _ _ _ g2, sr_n _ _ g2, sr_s, sr_n _ _ g2, sr_s]
    · rw [sw_ne _ _ _ g1, sw_ne _ _ _ g2, sr_n _ _ g2, sr_n _ _ g1, sr_n _ _ g2, sr_n _ _ g1]
theorem llS_k {f : Nat → Int32} {b fr k : Nat} (h : fr ≤ k) (g : f (b + k) ≤ f (b + llS f b fr (k - fr - 1))) : llS f b fr (k + 1 - fr - 1) = k := by
  rcases Nat.lt_or_ge fr k with e | e
  · have e2 : k + 1 - fr - 1 = (k - fr - 1) + 1 := by omega
    rw [e2]
    simp only [llS]
    rw [show fr + (k - fr - 1) + 1 = k by omega, if_pos g]
  · rw [show k + 1 - fr - 1 = 0 by omega]
    simp only [llS]
    omega
theorem llS_l {f : Nat → Int32} {b fr k : Nat} (h : fr ≤ k) (g : f (b + k) > f (b + llS f b fr (k - fr - 1))) : llS f b fr (k + 1 - fr - 1) = llS f b fr (k - fr - 1) := by
  rcases Nat.lt_or_ge fr k with e | e
  · have e2 : k + 1 - fr - 1 = (k - fr - 1) + 1 := by omega
    rw [e2]
    simp only [llS]
    rw [show fr + (k - fr - 1) + 1 = k by omega, if_neg (Int32.not_le.mpr g)]
  · rw [show k + 1 - fr - 1 = k - fr - 1 by omega]
set_option maxRecDepth 20000 in
set_option maxHeartbeats 4000000 in
theorem m_prints (l : Launch) (G : Gl) (σ : Mm) (V : Mm) (w : Nat) (hv : wf V) (hw : w < 5) (h71 : σ 71 = V 4) (h77 : σ 77 w = nI (lC V w)) : AMv l G 2 mX10_prints [.ref 66, .int (nI w)] σ (fun σ' => σ' = rdP 78 79 w (vR V 1) (gC V w) (sr σ 78 (mR (σ 78) (σ 75) w (vR V 0) (gC V w)))) := by
  refine rw_inV 10 (by decide +kernel) rfl rfl ?_
  intro E hE hX
  subst hE
  have hL5 := lC_50 hv hw
  have hg5 := gC_50 hv hw
  have hK := wf_K hv
  have hN := wf_N hv
  refine rw_go hX [(0, .aload_n 0), (1, .iload_n 1)] (by decide +kernel) (Ps := []) (pc' := 2) (lv' := [(0, .ref 66), (1, .int (nI w))]) (st' := [.int (nI w), .ref 66]) (σ' := σ) rfl True.intro ?_
  refine rw_callVi hX (as := [.int (nI w)]) (rest := []) (m_grams _ _ _ V w hv hw h71 h77) (by decide +kernel) mvX10_grams lk10_187 (ci := 9) rfl rfl rfl (by decide) (Nat.le_of_ble_eq_true rfl) rfl ?_
  intro r1 σ1 hr
  rw [hr.1, show r1 = nI (gC V w) from hr.2]
  clear hr σ1 r1
  refine rw_go hX [(5, .istore_n 2), (6, .iconst 0), (7, .istore_n 3)] (by decide +kernel) (Ps := []) (pc' := 8) (lv' := [(0, .ref 66), (1, .int (nI w)), (2, .int (nI (gC V w))), (3, .int (nI 0))]) (st' := []) (σ' := σ) rfl True.intro ?_
  have L8 : ∀ (μ8 : Nat) (k : Nat), μ8 = gC V w - k → (k ≤ gC V w) → RW E G 2 7 (QV E G (fun σ' => σ' = rdP 78 79 w (vR V 1) (gC V w) (sr σ 78 (mR (σ 78) (σ 75) w (vR V 0) (gC V w))))) 8 [(0, .ref 66), (1, .int (nI w)), (2, .int (nI (gC V w))), (3, .int (nI k))] [] (sr (sr σ 78 (mR (σ 78) (σ 75) w (vR V 0) k)) 79 (fl (σ 79) (50 * w) (50 * w + k) (nI 0))) := by
    intro μ8
    induction μ8 using Nat.strongRecOn with
    | ind μ8 ih8 =>
      intro k hμ8 hk
      refine rw_go hX [(8, .iload_n 3), (9, .iload_n 2)] (by decide +kernel) (Ps := []) (pc' := 10) (lv' := [(0, .ref 66), (1, .int (nI w)), (2, .int (nI (gC V w))), (3, .int (nI k))]) (st' := [.int (nI (gC V w)), .int (nI k)]) (σ' := sr (sr σ 78 (mR (σ 78) (σ 75) w (vR V 0) k)) 79 (fl (σ 79) (50 * w) (50 * w + k) (nI 0))) rfl True.intro ?_
      refine rw_icmp hX (tgt := 89) (cnd := .ge) (off := 79) (by decide +kernel) (by decide) (fun h10 => ?_) (fun h10 => ?_)
      · replace h10 := c2_geT h10
        have ek : k = gC V w := by omega
        refine rw_go hX [(89, .aload_n 0), (90, .getfield 22), (93, .iconst 1), (94, .iaload)] (by decide +kernel) (Ps := [vp_in (nI 1) 6]) (pc' := 95) (lv' := [(0, .ref 66), (1, .int (nI w)), (2, .int (nI (gC V w))), (3, .int (nI k))]) (st' := [.int ((sr (sr σ 78 (mR (σ 78) (σ 75) w (vR V 0) k)) 79 (fl (σ 79) (50 * w) (50 * w + k) (nI 0))) 71 (nI 1).toNatClampNeg)]) (σ' := sr (sr σ 78 (mR (σ 78) (σ 75) w (vR V 0) k)) 79 (fl (σ 79) (50 * w) (50 * w + k) (nI 0))) rfl (vp_in_nI (by omega) (by omega)) ?_
        rw [show ((sr (sr σ 78 (mR (σ 78) (σ 75) w (vR V 0) k)) 79 (fl (σ 79) (50 * w) (50 * w + k) (nI 0))) 71 (nI 1).toNatClampNeg) = nI (vR V 1) from (by rw [nI_clamp (by omega), sr_n _ _ (by decide), sr_n _ _ (by decide), h71, hN.1])]
        refine rw_go hX [(95, .iload_n 2)] (by decide +kernel) (Ps := []) (pc' := 96) (lv' := [(0, .ref 66), (1, .int (nI w)), (2, .int (nI (gC V w))), (3, .int (nI k))]) (st' := [.int (nI (gC V w)), .int (nI (vR V 1))]) (σ' := sr (sr σ 78 (mR (σ 78) (σ 75) w (vR V 0) k)) 79 (fl (σ 79) (50 * w) (50 * w + k) (nI 0))) rfl True.intro ?_
        refine rw_min hX (by decide +kernel) lk10_195 (Nat.le_of_ble_eq_true rfl) ?_
        rw [show (if nI (gC V w) < nI (vR V 1) then nI (gC V w) else nI (vR V 1)) = nI (min (vR V 1) (gC V w)) from mn_min (by omega) (by omega)]
        refine rw_go hX [(99, .istore_n 3), (100, .iconst 0), (101, .istore 4)] (by decide +kernel) (Ps := []) (pc' := 103) (lv' := [(0, .ref 66), (1, .int (nI w)), (2, .int (nI (gC V w))), (3, .int (nI (min (vR V 1) (gC V w)))), (4, .int (nI 0))]) (st' := []) (σ' := sr (sr σ 78 (mR (σ 78) (σ 75) w (vR V 0) k)) 79 (fl (σ 79) (50 * w) (50 * w + k) (nI 0))) rfl True.intro ?_
        have L103 : ∀ (μ103 : Nat) (fr : Nat), μ103 = gC V w + 1 - min (vR V 1) (gC V w) - fr → (fr ≤ gC V w + 1 - min (vR V 1) (gC V w)) → (gC V w = 0 → fr = 0) → RW E G 2 7 (QV E G (fun σ' => σ' = rdP 78 79 w (vR V 1) (gC V w) (sr σ 78 (mR (σ 78) (σ 75) w (vR V 0) (gC V w))))) 103 [(0, .ref 66), (1, .int (nI w)), (2, .int (nI (gC V w))), (3, .int (nI (min (vR V 1) (gC V w)))), (4, .int (nI fr))] [] (sr (sr σ 78 (mR (σ 78) (σ 75) w (vR V 0) (gC V w))) 79 (pP (fl (σ 79) (50 * w) (50 * w + gC V w) (nI 0)) (mR (σ 78) (σ 75) w (vR V 0) (gC V w)) w (min (vR V 1) (gC V w)) fr)) := by
          intro μ103
          induction μ103 using Nat.strongRecOn with
          | ind μ103 ih103 =>
            intro fr hμ103 hfr hfr0
            refine rw_go hX [(103, .iload_n 2)] (by decide +kernel) (Ps := []) (pc' := 104) (lv' := [(0, .ref 66), (1, .int (nI w)), (2, .int (nI (gC V w))), (3, .int (nI (min (vR V 1) (gC V w)))), (4, .int (nI fr))]) (st' := [.int (nI (gC V w))]) (σ' := sr (sr σ 78 (mR (σ 78) (σ 75) w (vR V 0) (gC V w))) 79 (pP (fl (σ 79) (50 * w) (50 * w + gC V w) (nI 0)) (mR (σ 78) (σ 75) w (vR V 0) (gC V w)) w (min (vR V 1) (gC V w)) fr)) rfl True.intro ?_
            refine rw_if hX (tgt := 193) (cnd := .le) (off := 89) (by decide +kernel) (by decide) (fun h104 => ?_) (fun h104 => ?_)
            · replace h104 := zn_leT h104
              have e0 : gC V w = 0 := h104
              have ef := hfr0 e0
              exact rw_vret hX (by decide +kernel) (by
  unfold rdP
  first
  | (rw [if_pos e0, ef, e0, Nat.add_zero, fl_0]
     funext k9
     by_cases z : k9 = 79
     · subst z; rw [sr_s, sr_n _ _ (by decide)]; rfl
     · rw [sr_n _ _ z])
  | (rw [if_neg (show ¬ gC V w = 0 by omega), sr_n _ _ (show 79 ≠ 78 by decide), sr_s, e, show gC V w - min (vR V 1) (gC V w) + 1 = gC V w + 1 - min (vR V 1) (gC V w) by omega]))
            · replace h104 := zn_leF h104
              have hmn : 1 ≤ min (vR V 1) (gC V w) := by omega
              refine rw_go hX [(107, .iload 4), (109, .iload_n 3), (110, .iadd)] (by decide +kernel) (Ps := []) (pc' := 111) (lv' := [(0, .ref 66), (1, .int (nI w)), (2, .int (nI (gC V w))), (3, .int (nI (min (vR V 1) (gC V w)))), (4, .int (nI fr))]) (st' := [.int (nI fr + nI (min (vR V 1) (gC V w)))]) (σ' := sr (sr σ 78 (mR (σ 78) (σ 75) w (vR V 0) (gC V w))) 79 (pP (fl (σ 79) (50 * w) (50 * w + gC V w) (nI 0)) (mR (σ 78) (σ 75) w (vR V 0) (gC V w)) w (min (vR V 1) (gC V w)) fr)) rfl True.intro ?_
              rw [show (nI fr + nI (min (vR V 1) (gC V w))) = nI (fr + min (vR V 1) (gC V w)) from nI_add _ _]
              refine rw_go hX [(111, .iload_n 2)] (by decide +kernel) (Ps := []) (pc' := 112) (lv' := [(0, .ref 66), (1, .int (nI w)), (2, .int (nI (gC V w))), (3, .int (nI (min (vR V 1) (gC V w)))), (4, .int (nI fr))]) (st' := [.int (nI (gC V w)), .int (nI (fr + min (vR V 1) (gC V w)))]) (σ' := sr (sr σ 78 (mR (σ 78) (σ 75) w (vR V 0) (gC V w))) 79 (pP (fl (σ 79) (50 * w) (50 * w + gC V w) (nI 0)) (mR (σ 78) (σ 75) w (vR V 0) (gC V w)) w (min (vR V 1) (gC V w)) fr)) rfl True.intro ?_
              refine rw_icmp hX (tgt := 193) (cnd := .gt) (off := 81) (by decide +kernel) (by decide) (fun h112 => ?_) (fun h112 => ?_)
              · replace h112 := c2_gtT h112
                have e : fr = gC V w + 1 - min (vR V 1) (gC V w) := by omega
                exact rw_vret hX (by decide +kernel) (by
  unfold rdP
  first
  | (rw [if_pos e0, ef, e0, Nat.add_zero, fl_0]
     funext k9
     by_cases z : k9 = 79
     · subst z; rw [sr_s, sr_n _ _ (by decide)]; rfl
     · rw [sr_n _ _ z])
  | (rw [if_neg (show ¬ gC V w = 0 by omega), sr_n _ _ (show 79 ≠ 78 by decide), sr_s, e, show gC V w - min (vR V 1) (gC V w) + 1 = gC V w + 1 - min (vR V 1) (gC V w) by omega]))
              · replace h112 := c2_gtF h112
                refine rw_go hX [(115, .iload 4), (117, .istore 5), (119, .iload 4), (121, .istore 6)] (by decide +kernel) (Ps := []) (pc' := 123) (lv' := [(0, .ref 66), (1, .int (nI w)), (2, .int (nI (gC V w))), (3, .int (nI (min (vR V 1) (gC V w)))), (4, .int (nI fr)), (5, .int (nI fr)), (6, .int (nI fr))]) (st' := []) (σ' := sr (sr σ 78 (mR (σ 78) (σ 75) w (vR V 0) (gC V w))) 79 (pP (fl (σ 79) (50 * w) (50 * w + gC V w) (nI 0)) (mR (σ 78) (σ 75) w (vR V 0) (gC V w)) w (min (vR V 1) (gC V w)) fr)) rfl True.intro ?_
                have L123 : ∀ (μ123 : Nat) (k : Nat), μ123 = fr + min (vR V 1) (gC V w) - k → (fr ≤ k) → (k ≤ fr + min (vR V 1) (gC V w)) → RW E G 2 7 (QV E G (fun σ' => σ' = rdP 78 79 w (vR V 1) (gC V w) (sr σ 78 (mR (σ 78) (σ 75) w (vR V 0) (gC V w))))) 123 [(0, .ref 66), (1, .int (nI w)), (2, .int (nI (gC V w))), (3, .int (nI (min (vR V 1) (gC V w)))), (4, .int (nI fr)), (5, .int (nI (llS (mR (σ 78) (σ 75) w (vR V 0) (gC V w)) (50 * w) fr (k - fr - 1)))), (6, .int (nI k))] [] (sr (sr σ 78 (mR (σ 78) (σ 75) w (vR V 0) (gC V w))) 79 (pP (fl (σ 79) (50 * w) (50 * w + gC V w) (nI 0)) (mR (σ 78) (σ 75) w (vR V 0) (gC V w)) w (min (vR V 1) (gC V w)) fr)) := by
                  intro μ123
                  induction μ123 using Nat.strongRecOn with
                  | ind μ123 ih123 =>
                    intro k hμ123 hk1 hk2
                    have hll := llS_in (mR (σ 78) (σ 75) w (vR V 0) (gC V w)) (50 * w) fr (k - fr - 1)
                    refine rw_go hX [(123, .iload 6), (125, .iload 4), (127, .iload_n 3), (128, .iadd)] (by decide +kernel) (Ps := []) (pc' := 129) (lv' := [(0, .ref 66), (1, .int (nI w)), (2, .int (nI (gC V w))), (3, .int (nI (min (vR V 1) (gC V w)))), (4, .int (nI fr)), (5, .int (nI (llS (mR (σ 78) (σ 75) w (vR V 0) (gC V w)) (50 * w) fr (k - fr - 1)))), (6, .int (nI k))]) (st' := [.int (nI fr + nI (min (vR V 1) (gC V w))), .int (nI k)]) (σ' := sr (sr σ 78 (mR (σ 78) (σ 75) w (vR V 0) (gC V w))) 79 (pP (fl (σ 79) (50 * w) (50 * w + gC V w) (nI 0)) (mR (σ 78) (σ 75) w (vR V 0) (gC V w)) w (min (vR V 1) (gC V w)) fr)) rfl True.intro ?_
                    rw [show (nI fr + nI (min (vR V 1) (gC V w))) = nI (fr + min (vR V 1) (gC V w)) from nI_add _ _]
                    refine rw_icmp hX (tgt := 174) (cnd := .ge) (off := 45) (by decide +kernel) (by decide) (fun h129 => ?_) (fun h129 => ?_)
                    · replace h129 := c2_geT h129
                      have e2 : k = fr + min (vR V 1) (gC V w) := by omega
                      refine rw_go hX [(174, .aload_n 0), (175, .getfield 46), (178, .bipush 50), (180, .iload_n 1), (181, .imul)] (by decide +kernel) (Ps := []) (pc' := 182) (lv' := [(0, .ref 66), (1, .int (nI w)), (2, .int (nI (gC V w))), (3, .int (nI (min (vR V 1) (gC V w)))), (4, .int (nI fr)), (5, .int (nI (llS (mR (σ 78) (σ 75) w (vR V 0) (gC V w)) (50 * w) fr (k - fr - 1)))), (6, .int (nI k))]) (st' := [.int (nI 50 * nI w), .ref 79]) (σ' := sr (sr σ 78 (mR (σ 78) (σ 75) w (vR V 0) (gC V w))) 79 (pP (fl (σ 79) (50 * w) (50 * w + gC V w) (nI 0)) (mR (σ 78) (σ 75) w (vR V 0) (gC V w)) w (min (vR V 1) (gC V w)) fr)) rfl True.intro ?_
                      rw [show (nI 50 * nI w) = nI (50 * w) from pk_mul _ _]
                      refine rw_go hX [(182, .iload 5), (184, .iadd)] (by decide +kernel) (Ps := []) (pc' := 185) (lv' := [(0, .ref 66), (1, .int (nI w)), (2, .int (nI (gC V w))), (3, .int (nI (min (vR V 1) (gC V w)))), (4, .int (nI fr)), (5, .int (nI (llS (mR (σ 78) (σ 75) w (vR V 0) (gC V w)) (50 * w) fr (k - fr - 1)))), (6, .int (nI k))]) (st' := [.int (nI (50 * w) + nI (llS (mR (σ 78) (σ 75) w (vR V 0) (gC V w)) (50 * w) fr (k - fr - 1))), .ref 79]) (σ' := sr (sr σ 78 (mR (σ 78) (σ 75) w (vR V 0) (gC V w))) 79 (pP (fl (σ 79) (50 * w) (50 * w + gC V w) (nI 0)) (mR (σ 78) (σ 75) w (vR V 0) (gC V w)) w (min (vR V 1) (gC V w)) fr)) rfl True.intro ?_
                      rw [show (nI (50 * w) + nI (llS (mR (σ 78) (σ 75) w (vR V 0) (gC V w)) (50 * w) fr (k - fr - 1))) = nI (50 * w + llS (mR (σ 78) (σ 75) w (vR V 0) (gC V w)) (50 * w) fr (k - fr - 1)) from nI_add _ _]
                      refine rw_go hX [(185, .iconst 1), (186, .bastore)] (by decide +kernel) (Ps := [vp_in (nI (50 * w + llS (mR (σ 78) (σ 75) w (vR V 0) (gC V w)) (50 * w) fr (k - fr - 1))) 250, (nI 1) = 0 ∨ (nI 1) = 1]) (pc' := 187) (lv' := [(0, .ref 66), (1, .int (nI w)), (2, .int (nI (gC V w))), (3, .int (nI (min (vR V 1) (gC V w)))), (4, .int (nI fr)), (5, .int (nI (llS (mR (σ 78) (σ 75) w (vR V 0) (gC V w)) (50 * w) fr (k - fr - 1)))), (6, .int (nI k))]) (st' := []) (σ' := sw (sr (sr σ 78 (mR (σ 78) (σ 75) w (vR V 0) (gC V w))) 79 (pP (fl (σ 79) (50 * w) (50 * w + gC V w) (nI 0)) (mR (σ 78) (σ 75) w (vR V 0) (gC V w)) w (min (vR V 1) (gC V w)) fr)) 79 (nI (50 * w + llS (mR (σ 78) (σ 75) w (vR V 0) (gC V w)) (50 * w) fr (k - fr - 1))).toNatClampNeg (nI 1)) rfl (⟨vp_in_nI (by omega) (by omega), Or.inr rfl⟩) ?_
                      rw [show (sw (sr (sr σ 78 (mR (σ 78) (σ 75) w (vR V 0) (gC V w))) 79 (pP (fl (σ 79) (50 * w) (50 * w + gC V w) (nI 0)) (mR (σ 78) (σ 75) w (vR V 0) (gC V w)) w (min (vR V 1) (gC V w)) fr)) 79 (nI (50 * w + llS (mR (σ 78) (σ 75) w (vR V 0) (gC V w)) (50 * w) fr (k - fr - 1))).toNatClampNeg (nI 1)) = sw (sr (sr σ 78 (mR (σ 78) (σ 75) w (vR V 0) (gC V w))) 79 (pP (fl (σ 79) (50 * w) (50 * w + gC V w) (nI 0)) (mR (σ 78) (σ 75) w (vR V 0) (gC V w)) w (min (vR V 1) (gC V w)) fr)) 79 (50 * w + llS (mR (σ 78) (σ 75) w (vR V 0) (gC V w)) (50 * w) fr (k - fr - 1)) (nI 1) from (by rw [nI_clamp (by omega)])]
                      refine rw_go hX [(187, .iinc 4 1)] (by decide +kernel) (Ps := []) (pc' := 190) (lv' := [(0, .ref 66), (1, .int (nI w)), (2, .int (nI (gC V w))), (3, .int (nI (min (vR V 1) (gC V w)))), (4, .int (nI fr + nI 1)), (5, .int (nI (llS (mR (σ 78) (σ 75) w (vR V 0) (gC V w)) (50 * w) fr (k - fr - 1)))), (6, .int (nI k))]) (st' := []) (σ' := sw (sr (sr σ 78 (mR (σ 78) (σ 75) w (vR V 0) (gC V w))) 79 (pP (fl (σ 79) (50 * w) (50 * w + gC V w) (nI 0)) (mR (σ 78) (σ 75) w (vR V 0) (gC V w)) w (min (vR V 1) (gC V w)) fr)) 79 (50 * w + llS (mR (σ 78) (σ 75) w (vR V 0) (gC V w)) (50 * w) fr (k - fr - 1)) (nI 1)) rfl True.intro ?_
                      rw [show (nI fr + nI 1) = nI (fr + 1) from nI_add _ _]
                      refine rw_go hX [(190, .goto (-87))] (by decide +kernel) (Ps := []) (pc' := 103) (lv' := [(0, .ref 66), (1, .int (nI w)), (2, .int (nI (gC V w))), (3, .int (nI (min (vR V 1) (gC V w)))), (4, .int (nI (fr + 1))), (5, .int (nI (llS (mR (σ 78) (σ 75) w (vR V 0) (gC V w)) (50 * w) fr (k - fr - 1)))), (6, .int (nI k))]) (st' := []) (σ' := sw (sr (sr σ 78 (mR (σ 78) (σ 75) w (vR V 0) (gC V w))) 79 (pP (fl (σ 79) (50 * w) (50 * w + gC V w) (nI 0)) (mR (σ 78) (σ 75) w (vR V 0) (gC V w)) w (min (vR V 1) (gC V w)) fr)) 79 (50 * w + llS (mR (σ 78) (σ 75) w (vR V 0) (gC V w)) (50 * w) fr (k - fr - 1)) (nI 1)) rfl True.intro ?_
                      refine rw_lsub (ks := [0, 1, 2, 3, 4]) (lv' := [(0, .ref 66), (1, .int (nI w)), (2, .int (nI (gC V w))), (3, .int (nI (min (vR V 1) (gC V w)))), (4, .int (nI (fr + 1)))]) rfl ?_
                      have q := ih103 (gC V w + 1 - min (vR V 1) (gC V w) - (fr + 1)) (by omega) (fr + 1) rfl (by omega) (fun z => by omega)
                      rw [pP_1] at q
                      rw [sw_sr, show llS (mR (σ 78) (σ 75) w (vR V 0) (gC V w)) (50 * w) fr (k - fr - 1) = llS (mR (σ 78) (σ 75) w (vR V 0) (gC V w)) (50 * w) fr (min (vR V 1) (gC V w) - 1) from by rw [show k - fr - 1 = min (vR V 1) (gC V w) - 1 by omega]]
                      exact q
                    · replace h129 := c2_geF h129
                      refine rw_go hX [(132, .aload_n 0), (133, .getfield 43), (136, .bipush 50), (138, .iload_n 1), (139, .imul)] (by decide +kernel) (Ps := []) (pc' := 140) (lv' := [(0, .ref 66), (1, .int (nI w)), (2, .int (nI (gC V w))), (3, .int (nI (min (vR V 1) (gC V w)))), (4, .int (nI fr)), (5, .int (nI (llS (mR (σ 78) (σ 75) w (vR V 0) (gC V w)) (50 * w) fr (k - fr - 1)))), (6, .int (nI k))]) (st' := [.int (nI 50 * nI w), .ref 78]) (σ' := sr (sr σ 78 (mR (σ 78) (σ 75) w (vR V 0) (gC V w))) 79 (pP (fl (σ 79) (50 * w) (50 * w + gC V w) (nI 0)) (mR (σ 78) (σ 75) w (vR V 0) (gC V w)) w (min (vR V 1) (gC V w)) fr)) rfl True.intro ?_
                      rw [show (nI 50 * nI w) = nI (50 * w) from pk_mul _ _]
                      refine rw_go hX [(140, .iload 6), (142, .iadd)] (by decide +kernel) (Ps := []) (pc' := 143) (lv' := [(0, .ref 66), (1, .int (nI w)), (2, .int (nI (gC V w))), (3, .int (nI (min (vR V 1) (gC V w)))), (4, .int (nI fr)), (5, .int (nI (llS (mR (σ 78) (σ 75) w (vR V 0) (gC V w)) (50 * w) fr (k - fr - 1)))), (6, .int (nI k))]) (st' := [.int (nI (50 * w) + nI k), .ref 78]) (σ' := sr (sr σ 78 (mR (σ 78) (σ 75) w (vR V 0) (gC V w))) 79 (pP (fl (σ 79) (50 * w) (50 * w + gC V w) (nI 0)) (mR (σ 78) (σ 75) w (vR V 0) (gC V w)) w (min (vR V 1) (gC V w)) fr)) rfl True.intro ?_
                      rw [show (nI (50 * w) + nI k) = nI (50 * w + k) from nI_add _ _]
                      refine rw_go hX [(143, .iaload)] (by decide +kernel) (Ps := [vp_in (nI (50 * w + k)) 250]) (pc' := 144) (lv' := [(0, .ref 66), (1, .int (nI w)), (2, .int (nI (gC V w))), (3, .int (nI (min (vR V 1) (gC V w)))), (4, .int (nI fr)), (5, .int (nI (llS (mR (σ 78) (σ 75) w (vR V 0) (gC V w)) (50 * w) fr (k - fr - 1)))), (6, .int (nI k))]) (st' := [.int ((sr (sr σ 78 (mR (σ 78) (σ 75) w (vR V 0) (gC V w))) 79 (pP (fl (σ 79) (50 * w) (50 * w + gC V w) (nI 0)) (mR (σ 78) (σ 75) w (vR V 0) (gC V w)) w (min (vR V 1) (gC V w)) fr)) 78 (nI (50 * w + k)).toNatClampNeg)]) (σ' := sr (sr σ 78 (mR (σ 78) (σ 75) w (vR V 0) (gC V w))) 79 (pP (fl (σ 79) (50 * w) (50 * w + gC V w) (nI 0)) (mR (σ 78) (σ 75) w (vR V 0) (gC V w)) w (min (vR V 1) (gC V w)) fr)) rfl (vp_in_nI (by omega) (by omega)) ?_
                      rw [show ((sr (sr σ 78 (mR (σ 78) (σ 75) w (vR V 0) (gC V w))) 79 (pP (fl (σ 79) (50 * w) (50 * w + gC V w) (nI 0)) (mR (σ 78) (σ 75) w (vR V 0) (gC V w)) w (min (vR V 1) (gC V w)) fr)) 78 (nI (50 * w + k)).toNatClampNeg) = (mR (σ 78) (σ 75) w (vR V 0) (gC V w)) (50 * w + k) from (by rw [nI_clamp (by omega), sr_n _ _ (by decide), sr_s])]
                      refine rw_go hX [(144, .aload_n 0), (145, .getfield 43), (148, .bipush 50), (150, .iload_n 1), (151, .imul)] (by decide +kernel) (Ps := []) (pc' := 152) (lv' := [(0, .ref 66), (1, .int (nI w)), (2, .int (nI (gC V w))), (3, .int (nI (min (vR V 1) (gC V w)))), (4, .int (nI fr)), (5, .int (nI (llS (mR (σ 78) (σ 75) w (vR V 0) (gC V w)) (50 * w) fr (k - fr - 1)))), (6, .int (nI k))]) (st' := [.int (nI 50 * nI w), .ref 78, .int ((mR (σ 78) (σ 75) w (vR V 0) (gC V w)) (50 * w + k))]) (σ' := sr (sr σ 78 (mR (σ 78) (σ 75) w (vR V 0) (gC V w))) 79 (pP (fl (σ 79) (50 * w) (50 * w + gC V w) (nI 0)) (mR (σ 78) (σ 75) w (vR V 0) (gC V w)) w (min (vR V 1) (gC V w)) fr)) rfl True.intro ?_
                      rw [show (nI 50 * nI w) = nI (50 * w) from pk_mul _ _]
                      refine rw_go hX [(152, .iload 5), (154, .iadd)] (by decide +kernel) (Ps := []) (pc' := 155) (lv' := [(0, .ref 66), (1, .int (nI w)), (2, .int (nI (gC V w))), (3, .int (nI (min (vR V 1) (gC V w)))), (4, .int (nI fr)), (5, .int (nI (llS (mR (σ 78) (σ 75) w (vR V 0) (gC V w)) (50 * w) fr (k - fr - 1)))), (6, .int (nI k))]) (st' := [.int (nI (50 * w) + nI (llS (mR (σ 78) (σ 75) w (vR V 0) (gC V w)) (50 * w) fr (k - fr - 1))), .ref 78, .int ((mR (σ 78) (σ 75) w (vR V 0) (gC V w)) (50 * w + k))]) (σ' := sr (sr σ 78 (mR (σ 78) (σ 75) w (vR V 0) (gC V w))) 79 (pP (fl (σ 79) (50 * w) (50 * w + gC V w) (nI 0)) (mR (σ 78) (σ 75) w (vR V 0) (gC V w)) w (min (vR V 1) (gC V w)) fr)) rfl True.intro ?_
                      rw [show (nI (50 * w) + nI (llS (mR (σ 78) (σ 75) w (vR V 0) (gC V w)) (50 * w) fr (k - fr - 1))) = nI (50 * w + llS (mR (σ 78) (σ 75) w (vR V 0) (gC V w)) (50 * w) fr (k - fr - 1)) from nI_add _ _]
                      refine rw_go hX [(155, .iaload)] (by decide +kernel) (Ps := [vp_in (nI (50 * w + llS (mR (σ 78) (σ 75) w (vR V 0) (gC V w)) (50 * w) fr (k - fr - 1))) 250]) (pc' := 156) (lv' := [(0, .ref 66), (1, .int (nI w)), (2, .int (nI (gC V w))), (3, .int (nI (min (vR V 1) (gC V w)))), (4, .int (nI fr)), (5, .int (nI (llS (mR (σ 78) (σ 75) w (vR V 0) (gC V w)) (50 * w) fr (k - fr - 1)))), (6, .int (nI k))]) (st' := [.int ((sr (sr σ 78 (mR (σ 78) (σ 75) w (vR V 0) (gC V w))) 79 (pP (fl (σ 79) (50 * w) (50 * w + gC V w) (nI 0)) (mR (σ 78) (σ 75) w (vR V 0) (gC V w)) w (min (vR V 1) (gC V w)) fr)) 78 (nI (50 * w + llS (mR (σ 78) (σ 75) w (vR V 0) (gC V w)) (50 * w) fr (k - fr - 1))).toNatClampNeg), .int ((mR (σ 78) (σ 75) w (vR V 0) (gC V w)) (50 * w + k))]) (σ' := sr (sr σ 78 (mR (σ 78) (σ 75) w (vR V 0) (gC V w))) 79 (pP (fl (σ 79) (50 * w) (50 * w + gC V w) (nI 0)) (mR (σ 78) (σ 75) w (vR V 0) (gC V w)) w (min (vR V 1) (gC V w)) fr)) rfl (vp_in_nI (by omega) (by omega)) ?_
                      rw [show ((sr (sr σ 78 (mR (σ 78) (σ 75) w (vR V 0) (gC V w))) 79 (pP (fl (σ 79) (50 * w) (50 * w + gC V w) (nI 0)) (mR (σ 78) (σ 75) w (vR V 0) (gC V w)) w (min (vR V 1) (gC V w)) fr)) 78 (nI (50 * w + llS (mR (σ 78) (σ 75) w (vR V 0) (gC V w)) (50 * w) fr (k - fr - 1))).toNatClampNeg) = (mR (σ 78) (σ 75) w (vR V 0) (gC V w)) (50 * w + llS (mR (σ 78) (σ 75) w (vR V 0) (gC V w)) (50 * w) fr (k - fr - 1)) from (by rw [nI_clamp (by omega), sr_n _ _ (by decide), sr_s])]
                      refine rw_icmp hX (tgt := 164) (cnd := .gt) (off := 8) (by decide +kernel) (by decide) (fun h156 => ?_) (fun h156 => ?_)
                      · replace h156 : ((mR (σ 78) (σ 75) w (vR V 0) (gC V w)) (50 * w + k) > (mR (σ 78) (σ 75) w (vR V 0) (gC V w)) (50 * w + llS (mR (σ 78) (σ 75) w (vR V 0) (gC V w)) (50 * w) fr (k - fr - 1))) := h156
                        refine rw_go hX [(164, .iload 5), (166, .istore 5), (168, .iinc 6 1)] (by decide +kernel) (Ps := []) (pc' := 171) (lv' := [(0, .ref 66), (1, .int (nI w)), (2, .int (nI (gC V w))), (3, .int (nI (min (vR V 1) (gC V w)))), (4, .int (nI fr)), (5, .int (nI (llS (mR (σ 78) (σ 75) w (vR V 0) (gC V w)) (50 * w) fr (k - fr - 1)))), (6, .int (nI k + nI 1))]) (st' := []) (σ' := sr (sr σ 78 (mR (σ 78) (σ 75) w (vR V 0) (gC V w))) 79 (pP (fl (σ 79) (50 * w) (50 * w + gC V w) (nI 0)) (mR (σ 78) (σ 75) w (vR V 0) (gC V w)) w (min (vR V 1) (gC V w)) fr)) rfl True.intro ?_
                        rw [show (nI k + nI 1) = nI (k + 1) from nI_add _ _]
                        refine rw_go hX [(171, .goto (-48))] (by decide +kernel) (Ps := []) (pc' := 123) (lv' := [(0, .ref 66), (1, .int (nI w)), (2, .int (nI (gC V w))), (3, .int (nI (min (vR V 1) (gC V w)))), (4, .int (nI fr)), (5, .int (nI (llS (mR (σ 78) (σ 75) w (vR V 0) (gC V w)) (50 * w) fr (k - fr - 1)))), (6, .int (nI (k + 1)))]) (st' := []) (σ' := sr (sr σ 78 (mR (σ 78) (σ 75) w (vR V 0) (gC V w))) 79 (pP (fl (σ 79) (50 * w) (50 * w + gC V w) (nI 0)) (mR (σ 78) (σ 75) w (vR V 0) (gC V w)) w (min (vR V 1) (gC V w)) fr)) rfl True.intro ?_
                        refine rw_lsub (ks := [0, 1, 2, 3, 4, 5, 6]) (lv' := [(0, .ref 66), (1, .int (nI w)), (2, .int (nI (gC V w))), (3, .int (nI (min (vR V 1) (gC V w)))), (4, .int (nI fr)), (5, .int (nI (llS (mR (σ 78) (σ 75) w (vR V 0) (gC V w)) (50 * w) fr (k - fr - 1)))), (6, .int (nI (k + 1)))]) rfl ?_
                        have q := ih123 (fr + min (vR V 1) (gC V w) - (k + 1)) (by omega) (k + 1) rfl (by omega) (by omega)
                        rw [show llS (mR (σ 78) (σ 75) w (vR V 0) (gC V w)) (50 * w) fr (k + 1 - fr - 1) = llS (mR (σ 78) (σ 75) w (vR V 0) (gC V w)) (50 * w) fr (k - fr - 1) from llS_l hk1 h156] at q
                        exact q
                      · replace h156 : ¬ ((mR (σ 78) (σ 75) w (vR V 0) (gC V w)) (50 * w + k) > (mR (σ 78) (σ 75) w (vR V 0) (gC V w)) (50 * w + llS (mR (σ 78) (σ 75) w (vR V 0) (gC V w)) (50 * w) fr (k - fr - 1))) := h156
                        refine rw_go hX [(159, .iload 6), (161, .goto 5), (166, .istore 5), (168, .iinc 6 1)] (by decide +kernel) (Ps := []) (pc' := 171) (lv' := [(0, .ref 66), (1, .int (nI w)), (2, .int (nI (gC V w))), (3, .int (nI (min (vR V 1) (gC V w)))), (4, .int (nI fr)), (5, .int (nI k)), (6, .int (nI k + nI 1))]) (st' := []) (σ' := sr (sr σ 78 (mR (σ 78) (σ 75) w (vR V 0) (gC V w))) 79 (pP (fl (σ 79) (50 * w) (50 * w + gC V w) (nI 0)) (mR (σ 78) (σ 75) w (vR V 0) (gC V w)) w (min (vR V 1) (gC V w)) fr)) rfl True.intro ?_
                        rw [show (nI k + nI 1) = nI (k + 1) from nI_add _ _]
                        refine rw_go hX [(171, .goto (-48))] (by decide +kernel) (Ps := []) (pc' := 123) (lv' := [(0, .ref 66), (1, .int (nI w)), (2, .int (nI (gC V w))), (3, .int (nI (min (vR V 1) (gC V w)))), (4, .int (nI fr)), (5, .int (nI k)), (6, .int (nI (k + 1)))]) (st' := []) (σ' := sr (sr σ 78 (mR (σ 78) (σ 75) w (vR V 0) (gC V w))) 79 (pP (fl (σ 79) (50 * w) (50 * w + gC V w) (nI 0)) (mR (σ 78) (σ 75) w (vR V 0) (gC V w)) w (min (vR V 1) (gC V w)) fr)) rfl True.intro ?_
                        refine rw_lsub (ks := [0, 1, 2, 3, 4, 5, 6]) (lv' := [(0, .ref 66), (1, .int (nI w)), (2, .int (nI (gC V w))), (3, .int (nI (min (vR V 1) (gC V w)))), (4, .int (nI fr)), (5, .int (nI k)), (6, .int (nI (k + 1)))]) rfl ?_
                        have q := ih123 (fr + min (vR V 1) (gC V w) - (k + 1)) (by omega) (k + 1) rfl (by omega) (by omega)
                        rw [show llS (mR (σ 78) (σ 75) w (vR V 0) (gC V w)) (50 * w) fr (k + 1 - fr - 1) = k from llS_k hk1 (Int32.not_lt.mp h156)] at q
                        exact q
                refine rw_lsub (ks := [0, 1, 2, 3, 4, 5, 6]) (lv' := [(0, .ref 66), (1, .int (nI w)), (2, .int (nI (gC V w))), (3, .int (nI (min (vR V 1) (gC V w)))), (4, .int (nI fr)), (5, .int (nI fr)), (6, .int (nI fr))]) rfl ?_
                have q := L123 (fr + min (vR V 1) (gC V w) - fr) fr rfl (Nat.le_refl _) (by omega)
                rw [show fr - fr - 1 = 0 by omega] at q
                exact q
        refine rw_lsub (ks := [0, 1, 2, 3, 4]) (lv' := [(0, .ref 66), (1, .int (nI w)), (2, .int (nI (gC V w))), (3, .int (nI (min (vR V 1) (gC V w)))), (4, .int (nI 0))]) rfl ?_
        rw [ek]
        exact L103 (gC V w + 1 - min (vR V 1) (gC V w)) 0 (by omega) (by omega) (fun _ => rfl)
      · replace h10 := c2_geF h10
        refine rw_go hX [(13, .aload_n 0), (14, .getfield 46), (17, .bipush 50), (19, .iload_n 1), (20, .imul)] (by decide +kernel) (Ps := []) (pc' := 21) (lv' := [(0, .ref 66), (1, .int (nI w)), (2, .int (nI (gC V w))), (3, .int (nI k))]) (st' := [.int (nI 50 * nI w), .ref 79]) (σ' := sr (sr σ 78 (mR (σ 78) (σ 75) w (vR V 0) k)) 79 (fl (σ 79) (50 * w) (50 * w + k) (nI 0))) rfl True.intro ?_
        rw [show (nI 50 * nI w) = nI (50 * w) from pk_mul _ _]
        refine rw_go hX [(21, .iload_n 3), (22, .iadd)] (by decide +kernel) (Ps := []) (pc' := 23) (lv' := [(0, .ref 66), (1, .int (nI w)), (2, .int (nI (gC V w))), (3, .int (nI k))]) (st' := [.int (nI (50 * w) + nI k), .ref 79]) (σ' := sr (sr σ 78 (mR (σ 78) (σ 75) w (vR V 0) k)) 79 (fl (σ 79) (50 * w) (50 * w + k) (nI 0))) rfl True.intro ?_
        rw [show (nI (50 * w) + nI k) = nI (50 * w + k) from nI_add _ _]
        refine rw_go hX [(23, .iconst 0), (24, .bastore)] (by decide +kernel) (Ps := [vp_in (nI (50 * w + k)) 250, (nI 0) = 0 ∨ (nI 0) = 1]) (pc' := 25) (lv' := [(0, .ref 66), (1, .int (nI w)), (2, .int (nI (gC V w))), (3, .int (nI k))]) (st' := []) (σ' := sw (sr (sr σ 78 (mR (σ 78) (σ 75) w (vR V 0) k)) 79 (fl (σ 79) (50 * w) (50 * w + k) (nI 0))) 79 (nI (50 * w + k)).toNatClampNeg (nI 0)) rfl (⟨vp_in_nI (by omega) (by omega), Or.inl rfl⟩) ?_
        rw [show (sw (sr (sr σ 78 (mR (σ 78) (σ 75) w (vR V 0) k)) 79 (fl (σ 79) (50 * w) (50 * w + k) (nI 0))) 79 (nI (50 * w + k)).toNatClampNeg (nI 0)) = sw (sr (sr σ 78 (mR (σ 78) (σ 75) w (vR V 0) k)) 79 (fl (σ 79) (50 * w) (50 * w + k) (nI 0))) 79 (50 * w + k) (nI 0) from (by rw [nI_clamp (by omega)])]
        refine rw_go hX [(25, .iconst 0), (26, .istore 4), (28, .iconst 0), (29, .istore 5)] (by decide +kernel) (Ps := []) (pc' := 31) (lv' := [(0, .ref 66), (1, .int (nI w)), (2, .int (nI (gC V w))), (3, .int (nI k)), (4, .int (nI 0)), (5, .int (nI 0))]) (st' := []) (σ' := sw (sr (sr σ 78 (mR (σ 78) (σ 75) w (vR V 0) k)) 79 (fl (σ 79) (50 * w) (50 * w + k) (nI 0))) 79 (50 * w + k) (nI 0)) rfl True.intro ?_
        have L31 : ∀ (μ31 : Nat) (t : Nat), μ31 = vR V 0 - t → (t ≤ vR V 0) → RW E G 2 7 (QV E G (fun σ' => σ' = rdP 78 79 w (vR V 1) (gC V w) (sr σ 78 (mR (σ 78) (σ 75) w (vR V 0) (gC V w))))) 31 [(0, .ref 66), (1, .int (nI w)), (2, .int (nI (gC V w))), (3, .int (nI k)), (4, .int (mkF (σ 75) (50 * w + k) t)), (5, .int (nI t))] [] (sw (sr (sr σ 78 (mR (σ 78) (σ 75) w (vR V 0) k)) 79 (fl (σ 79) (50 * w) (50 * w + k) (nI 0))) 79 (50 * w + k) (nI 0)) := by
          intro μ31
          induction μ31 using Nat.strongRecOn with
          | ind μ31 ih31 =>
            intro t hμ31 ht
            refine rw_go hX [(31, .iload 5), (33, .aload_n 0), (34, .getfield 22), (37, .iconst 0), (38, .iaload)] (by decide +kernel) (Ps := [vp_in (nI 0) 6]) (pc' := 39) (lv' := [(0, .ref 66), (1, .int (nI w)), (2, .int (nI (gC V w))), (3, .int (nI k)), (4, .int (mkF (σ 75) (50 * w + k) t)), (5, .int (nI t))]) (st' := [.int ((sw (sr (sr σ 78 (mR (σ 78) (σ 75) w (vR V 0) k)) 79 (fl (σ 79) (50 * w) (50 * w + k) (nI 0))) 79 (50 * w + k) (nI 0)) 71 (nI 0).toNatClampNeg), .int (nI t)]) (σ' := sw (sr (sr σ 78 (mR (σ 78) (σ 75) w (vR V 0) k)) 79 (fl (σ 79) (50 * w) (50 * w + k) (nI 0))) 79 (50 * w + k) (nI 0)) rfl (vp_in_nI (by omega) (by omega)) ?_
            rw [show ((sw (sr (sr σ 78 (mR (σ 78) (σ 75) w (vR V 0) k)) 79 (fl (σ 79) (50 * w) (50 * w + k) (nI 0))) 79 (50 * w + k) (nI 0)) 71 (nI 0).toNatClampNeg) = nI (vR V 0) from (by rw [nI_clamp (by omega), sw_ne _ _ _ (by decide), sr_n _ _ (by decide), sr_n _ _ (by decide), h71, hK.1])]
            refine rw_icmp hX (tgt := 70) (cnd := .ge) (off := 31) (by decide +kernel) (by decide) (fun h39 => ?_) (fun h39 => ?_)
            · replace h39 := c2_geT h39
              have et : mkF (σ 75) (50 * w + k) t = mkF (σ 75) (50 * w + k) (vR V 0) := by rw [show t = vR V 0 by omega]
              refine rw_go hX [(70, .aload_n 0), (71, .getfield 43), (74, .bipush 50), (76, .iload_n 1), (77, .imul)] (by decide +kernel) (Ps := []) (pc' := 78) (lv' := [(0, .ref 66), (1, .int (nI w)), (2, .int (nI (gC V w))), (3, .int (nI k)), (4, .int (mkF (σ 75) (50 * w + k) t)), (5, .int (nI t))]) (st' := [.int (nI 50 * nI w), .ref 78]) (σ' := sw (sr (sr σ 78 (mR (σ 78) (σ 75) w (vR V 0) k)) 79 (fl (σ 79) (50 * w) (50 * w + k) (nI 0))) 79 (50 * w + k) (nI 0)) rfl True.intro ?_
              rw [show (nI 50 * nI w) = nI (50 * w) from pk_mul _ _]
              refine rw_go hX [(78, .iload_n 3), (79, .iadd)] (by decide +kernel) (Ps := []) (pc' := 80) (lv' := [(0, .ref 66), (1, .int (nI w)), (2, .int (nI (gC V w))), (3, .int (nI k)), (4, .int (mkF (σ 75) (50 * w + k) t)), (5, .int (nI t))]) (st' := [.int (nI (50 * w) + nI k), .ref 78]) (σ' := sw (sr (sr σ 78 (mR (σ 78) (σ 75) w (vR V 0) k)) 79 (fl (σ 79) (50 * w) (50 * w + k) (nI 0))) 79 (50 * w + k) (nI 0)) rfl True.intro ?_
              rw [show (nI (50 * w) + nI k) = nI (50 * w + k) from nI_add _ _]
              refine rw_go hX [(80, .iload 4), (82, .iastore)] (by decide +kernel) (Ps := [vp_in (nI (50 * w + k)) 250]) (pc' := 83) (lv' := [(0, .ref 66), (1, .int (nI w)), (2, .int (nI (gC V w))), (3, .int (nI k)), (4, .int (mkF (σ 75) (50 * w + k) t)), (5, .int (nI t))]) (st' := []) (σ' := sw (sw (sr (sr σ 78 (mR (σ 78) (σ 75) w (vR V 0) k)) 79 (fl (σ 79) (50 * w) (50 * w + k) (nI 0))) 79 (50 * w + k) (nI 0)) 78 (nI (50 * w + k)).toNatClampNeg (mkF (σ 75) (50 * w + k) t)) rfl (vp_in_nI (by omega) (by omega)) ?_
              rw [show (sw (sw (sr (sr σ 78 (mR (σ 78) (σ 75) w (vR V 0) k)) 79 (fl (σ 79) (50 * w) (50 * w + k) (nI 0))) 79 (50 * w + k) (nI 0)) 78 (nI (50 * w + k)).toNatClampNeg (mkF (σ 75) (50 * w + k) t)) = sw (sw (sr (sr σ 78 (mR (σ 78) (σ 75) w (vR V 0) k)) 79 (fl (σ 79) (50 * w) (50 * w + k) (nI 0))) 79 (50 * w + k) (nI 0)) 78 (50 * w + k) (mkF (σ 75) (50 * w + k) t) from (by rw [nI_clamp (by omega)])]
              refine rw_go hX [(83, .iinc 3 1)] (by decide +kernel) (Ps := []) (pc' := 86) (lv' := [(0, .ref 66), (1, .int (nI w)), (2, .int (nI (gC V w))), (3, .int (nI k + nI 1)), (4, .int (mkF (σ 75) (50 * w + k) t)), (5, .int (nI t))]) (st' := []) (σ' := sw (sw (sr (sr σ 78 (mR (σ 78) (σ 75) w (vR V 0) k)) 79 (fl (σ 79) (50 * w) (50 * w + k) (nI 0))) 79 (50 * w + k) (nI 0)) 78 (50 * w + k) (mkF (σ 75) (50 * w + k) t)) rfl True.intro ?_
              rw [show (nI k + nI 1) = nI (k + 1) from nI_add _ _]
              refine rw_go hX [(86, .goto (-78))] (by decide +kernel) (Ps := []) (pc' := 8) (lv' := [(0, .ref 66), (1, .int (nI w)), (2, .int (nI (gC V w))), (3, .int (nI (k + 1))), (4, .int (mkF (σ 75) (50 * w + k) t)), (5, .int (nI t))]) (st' := []) (σ' := sw (sw (sr (sr σ 78 (mR (σ 78) (σ 75) w (vR V 0) k)) 79 (fl (σ 79) (50 * w) (50 * w + k) (nI 0))) 79 (50 * w + k) (nI 0)) 78 (50 * w + k) (mkF (σ 75) (50 * w + k) t)) rfl True.intro ?_
              refine rw_lsub (ks := [0, 1, 2, 3]) (lv' := [(0, .ref 66), (1, .int (nI w)), (2, .int (nI (gC V w))), (3, .int (nI (k + 1)))]) rfl ?_
              have q := ih8 (gC V w - (k + 1)) (by omega) (k + 1) rfl (by omega)
              rw [mR_1, ← fl_1z, ← sw_2 _ (by decide), ← et] at q
              exact q
            · replace h39 := c2_geF h39
              refine rw_go hX [(42, .bipush 31), (44, .iload 4), (46, .imul), (47, .aload_n 0), (48, .getfield 34), (51, .bipush 50), (53, .iload_n 1), (54, .imul)] (by decide +kernel) (Ps := []) (pc' := 55) (lv' := [(0, .ref 66), (1, .int (nI w)), (2, .int (nI (gC V w))), (3, .int (nI k)), (4, .int (mkF (σ 75) (50 * w + k) t)), (5, .int (nI t))]) (st' := [.int (nI 50 * nI w), .ref 75, .int (nI 31 * mkF (σ 75) (50 * w + k) t)]) (σ' := sw (sr (sr σ 78 (mR (σ 78) (σ 75) w (vR V 0) k)) 79 (fl (σ 79) (50 * w) (50 * w + k) (nI 0))) 79 (50 * w + k) (nI 0)) rfl True.intro ?_
              rw [show (nI 50 * nI w) = nI (50 * w) from pk_mul _ _]
              refine rw_go hX [(55, .iload_n 3), (56, .iadd)] (by decide +kernel) (Ps := []) (pc' := 57) (lv' := [(0, .ref 66), (1, .int (nI w)), (2, .int (nI (gC V w))), (3, .int (nI k)), (4, .int (mkF (σ 75) (50 * w + k) t)), (5, .int (nI t))]) (st' := [.int (nI (50 * w) + nI k), .ref 75, .int (nI 31 * mkF (σ 75) (50 * w + k) t)]) (σ' := sw (sr (sr σ 78 (mR (σ 78) (σ 75) w (vR V 0) k)) 79 (fl (σ 79) (50 * w) (50 * w + k) (nI 0))) 79 (50 * w + k) (nI 0)) rfl True.intro ?_
              rw [show (nI (50 * w) + nI k) = nI (50 * w + k) from nI_add _ _]
              refine rw_go hX [(57, .iload 5), (59, .iadd)] (by decide +kernel) (Ps := []) (pc' := 60) (lv' := [(0, .ref 66), (1, .int (nI w)), (2, .int (nI (gC V w))), (3, .int (nI k)), (4, .int (mkF (σ 75) (50 * w + k) t)), (5, .int (nI t))]) (st' := [.int (nI (50 * w + k) + nI t), .ref 75, .int (nI 31 * mkF (σ 75) (50 * w + k) t)]) (σ' := sw (sr (sr σ 78 (mR (σ 78) (σ 75) w (vR V 0) k)) 79 (fl (σ 79) (50 * w) (50 * w + k) (nI 0))) 79 (50 * w + k) (nI 0)) rfl True.intro ?_
              rw [show (nI (50 * w + k) + nI t) = nI (50 * w + k + t) from nI_add _ _]
              refine rw_go hX [(60, .iaload)] (by decide +kernel) (Ps := [vp_in (nI (50 * w + k + t)) 250]) (pc' := 61) (lv' := [(0, .ref 66), (1, .int (nI w)), (2, .int (nI (gC V w))), (3, .int (nI k)), (4, .int (mkF (σ 75) (50 * w + k) t)), (5, .int (nI t))]) (st' := [.int ((sw (sr (sr σ 78 (mR (σ 78) (σ 75) w (vR V 0) k)) 79 (fl (σ 79) (50 * w) (50 * w + k) (nI 0))) 79 (50 * w + k) (nI 0)) 75 (nI (50 * w + k + t)).toNatClampNeg), .int (nI 31 * mkF (σ 75) (50 * w + k) t)]) (σ' := sw (sr (sr σ 78 (mR (σ 78) (σ 75) w (vR V 0) k)) 79 (fl (σ 79) (50 * w) (50 * w + k) (nI 0))) 79 (50 * w + k) (nI 0)) rfl (vp_in_nI (by omega) (by omega)) ?_
              rw [show ((sw (sr (sr σ 78 (mR (σ 78) (σ 75) w (vR V 0) k)) 79 (fl (σ 79) (50 * w) (50 * w + k) (nI 0))) 79 (50 * w + k) (nI 0)) 75 (nI (50 * w + k + t)).toNatClampNeg) = σ 75 (50 * w + k + t) from (by rw [nI_clamp (by omega), sw_ne _ _ _ (by decide), sr_n _ _ (by decide), sr_n _ _ (by decide)])]
              refine rw_go hX [(61, .iadd), (62, .istore 4), (64, .iinc 5 1)] (by decide +kernel) (Ps := []) (pc' := 67) (lv' := [(0, .ref 66), (1, .int (nI w)), (2, .int (nI (gC V w))), (3, .int (nI k)), (4, .int ((nI 31 * mkF (σ 75) (50 * w + k) t) + σ 75 (50 * w + k + t))), (5, .int (nI t + nI 1))]) (st' := []) (σ' := sw (sr (sr σ 78 (mR (σ 78) (σ 75) w (vR V 0) k)) 79 (fl (σ 79) (50 * w) (50 * w + k) (nI 0))) 79 (50 * w + k) (nI 0)) rfl True.intro ?_
              rw [show (nI t + nI 1) = nI (t + 1) from nI_add _ _]
              refine rw_go hX [(67, .goto (-36))] (by decide +kernel) (Ps := []) (pc' := 31) (lv' := [(0, .ref 66), (1, .int (nI w)), (2, .int (nI (gC V w))), (3, .int (nI k)), (4, .int ((nI 31 * mkF (σ 75) (50 * w + k) t) + σ 75 (50 * w + k + t))), (5, .int (nI (t + 1)))]) (st' := []) (σ' := sw (sr (sr σ 78 (mR (σ 78) (σ 75) w (vR V 0) k)) 79 (fl (σ 79) (50 * w) (50 * w + k) (nI 0))) 79 (50 * w + k) (nI 0)) rfl True.intro ?_
              refine rw_lsub (ks := [0, 1, 2, 3, 4, 5]) (lv' := [(0, .ref 66), (1, .int (nI w)), (2, .int (nI (gC V w))), (3, .int (nI k)), (4, .int ((nI 31 * mkF (σ 75) (50 * w + k) t) + σ 75 (50 * w + k + t))), (5, .int (nI (t + 1)))]) rfl ?_
              have q := ih31 (vR V 0 - (t + 1)) (by omega) (t + 1) rfl (by omega)
              rw [mkF_1] at q
              exact q
        refine rw_lsub (ks := [0, 1, 2, 3, 4, 5]) (lv' := [(0, .ref 66), (1, .int (nI w)), (2, .int (nI (gC V w))), (3, .int (nI k)), (4, .int (nI 0)), (5, .int (nI 0))]) rfl ?_
        exact L31 (vR V 0) 0 (by omega) (by omega)
  refine rw_lsub (ks := [0, 1, 2, 3]) (lv' := [(0, .ref 66), (1, .int (nI w)), (2, .int (nI (gC V w))), (3, .int (nI 0))]) rfl ?_
  have q := L8 (gC V w) 0 (by omega) (by omega)
  rw [show mR (σ 78) (σ 75) w (vR V 0) 0 = σ 78 from rfl, Nat.add_zero, fl_0, sr_id, sr_id] at q
  exact q
