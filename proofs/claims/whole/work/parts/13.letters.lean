/-! reading the letters -/
set_option maxRecDepth 20000 in
set_option maxHeartbeats 4000000 in
theorem c_readLetters_1 (l : Launch) (G : Gl) (σ : Mm) (V : Mm) (w : Nat) (hV : vw σ 2 = V) (hv : wf V) (hw : w < 5) : AMv l G 3 mX3_readLetters [.ref 23, .ref 1, .int (nI w)] σ (fun σ' => σ' = rdL 26 27 24 V w σ) := by
  refine rw_inV 3 (by decide +kernel) rfl rfl ?_
  intro E hE hX
  subst hE
  have h50 := wf_s50 hv hw
  have hk6 := wf_k6 hv hw
  refine rw_go hX [(0, .iload_n 2)] (by decide +kernel) (Ps := []) (pc' := 1) (lv' := [(0, .ref 23), (1, .ref 1), (2, .int (nI w))]) (st' := [.int (nI w)]) (σ' := σ) rfl True.intro ?_
  refine rw_callSi hX (as := [.int (nI w)]) (rest := []) (c_isWork _ _ _ w hw) (by decide +kernel) msX9_isWork (Or.inr lk3_34) rfl (by decide) (Nat.le_of_ble_eq_true rfl) rfl ?_
  intro r1 σ1 hr
  rw [hr.1, hr.2]
  clear hr σ1 r1
  refine rw_if hX (tgt := 8) (cnd := .ne) (off := 4) (by decide +kernel) (by decide) (fun h4 => ?_) (fun h4 => ?_)
  · skip
    refine rw_go hX [(8, .aload_n 1), (9, .getfield 38), (12, .iload_n 2), (13, .iaload)] (by decide +kernel) (Ps := [vp_in (nI w) 5]) (pc' := 14) (lv' := [(0, .ref 23), (1, .ref 1), (2, .int (nI w))]) (st' := [.int (σ 4 (nI w).toNatClampNeg)]) (σ' := σ) rfl (vp_in_nI hw (by omega)) ?_
    rw [show (σ 4 (nI w).toNatClampNeg) = nI (vK V w) from (by rw [nI_clamp (by omega), ← wf_k hv hw]; exact congrFun (vw_at hV 2 (by omega)) w)]
    refine rw_go hX [(14, .istore_n 3), (15, .bipush 50), (17, .aload_n 1), (18, .iload_n 2)] (by decide +kernel) (Ps := []) (pc' := 19) (lv' := [(0, .ref 23), (1, .ref 1), (2, .int (nI w)), (3, .int (nI (vK V w)))]) (st' := [.int (nI w), .ref 1, .int (nI 50)]) (σ' := σ) rfl True.intro ?_
    refine rw_callVi hX (as := [.int (nI w)]) (rest := [.int (nI 50)]) (c_size _ _ _ 1 (Or.inl rfl) V hV hv w hw) (by decide +kernel) mvX5_sizeOf lk3_43 (ci := 4) rfl rfl rfl (by decide) (Nat.le_of_ble_eq_true rfl) rfl ?_
    intro r1 σ1 hr
    rw [hr.1, hr.2]
    clear hr σ1 r1
    refine rw_min hX (by decide +kernel) lk3_47 (Nat.le_of_ble_eq_true rfl) ?_
    rw [show (if nI (vS V w) < nI 50 then nI (vS V w) else nI 50) = nI (vS V w) from mn_l h50 (by omega)]
    refine rw_go hX [(25, .istore 4), (27, .iconst 0), (28, .istore 5), (30, .iconst 0), (31, .istore 6), (33, .iconst 0), (34, .istore 7)] (by decide +kernel) (Ps := []) (pc' := 36) (lv' := [(0, .ref 23), (1, .ref 1), (2, .int (nI w)), (3, .int (nI (vK V w))), (4, .int (nI (vS V w))), (5, .int (nI 0)), (6, .int (nI 0)), (7, .int (nI 0))]) (st' := []) (σ' := σ) rfl True.intro ?_
    have L36 : ∀ (μ36 : Nat) (i : Nat), μ36 = vS V w - i → (i ≤ vS V w) → RW E G 3 10 (QV E G (fun σ' => σ' = rdL 26 27 24 V w σ)) 36 [(0, .ref 23), (1, .ref 1), (2, .int (nI w)), (3, .int (nI (vK V w))), (4, .int (nI (vS V w))), (5, .int (bz (qd V w i))), (6, .int (nI (ltN V w i))), (7, .int (nI i))] [] (sr (sr σ 26 (tR (σ 26) V w i)) 27 (pR (σ 27) V w i)) := by
      intro μ36
      induction μ36 using Nat.strongRecOn with
      | ind μ36 ih36 =>
        intro i hμ36 hi
        have hl := ltN_le V w i
        have hv2 : vw (sr (sr σ 26 (tR (σ 26) V w i)) 27 (pR (σ 27) V w i)) 2 = V := (by rw [vw_sr _ _ (by decide), vw_sr _ _ (by decide)]; exact hV)
        refine rw_go hX [(36, .iload 7), (38, .iload 4)] (by decide +kernel) (Ps := []) (pc' := 40) (lv' := [(0, .ref 23), (1, .ref 1), (2, .int (nI w)), (3, .int (nI (vK V w))), (4, .int (nI (vS V w))), (5, .int (bz (qd V w i))), (6, .int (nI (ltN V w i))), (7, .int (nI i))]) (st' := [.int (nI (vS V w)), .int (nI i)]) (σ' := sr (sr σ 26 (tR (σ 26) V w i)) 27 (pR (σ 27) V w i)) rfl True.intro ?_
        refine rw_icmp hX (tgt := 149) (cnd := .ge) (off := 109) (by decide +kernel) (by decide) (fun h40 => ?_) (fun h40 => ?_)
        · replace h40 := c2_geT h40
          have e : i = vS V w := by omega
          refine rw_go hX [(149, .aload_n 0), (150, .getfield 9), (153, .iload_n 2), (154, .iload 6), (156, .iastore)] (by decide +kernel) (Ps := [vp_in (nI w) 5]) (pc' := 157) (lv' := [(0, .ref 23), (1, .ref 1), (2, .int (nI w)), (3, .int (nI (vK V w))), (4, .int (nI (vS V w))), (5, .int (bz (qd V w i))), (6, .int (nI (ltN V w i))), (7, .int (nI i))]) (st' := []) (σ' := sw (sr (sr σ 26 (tR (σ 26) V w i)) 27 (pR (σ 27) V w i)) 24 (nI w).toNatClampNeg (nI (ltN V w i))) rfl (vp_in_nI hw (by omega)) ?_
          exact rw_vret hX (by decide +kernel) (by subst e; rw [nI_clamp (by omega)]; rfl)
        · replace h40 := c2_geF h40
          refine rw_go hX [(43, .aload_n 1), (44, .iload_n 2), (45, .iload 7)] (by decide +kernel) (Ps := []) (pc' := 47) (lv' := [(0, .ref 23), (1, .ref 1), (2, .int (nI w)), (3, .int (nI (vK V w))), (4, .int (nI (vS V w))), (5, .int (bz (qd V w i))), (6, .int (nI (ltN V w i))), (7, .int (nI i))]) (st' := [.int (nI i), .int (nI w), .ref 1]) (σ' := sr (sr σ 26 (tR (σ 26) V w i)) 27 (pR (σ 27) V w i)) rfl True.intro ?_
          refine rw_callVi hX (as := [.int (nI w), .int (nI i)]) (rest := []) (c_byteAt _ _ _ 1 (Or.inl rfl) V hv2 hv w i hw h40) (by decide +kernel) mvX5_byteAt lk3_53 (ci := 4) rfl rfl rfl (by decide) (Nat.le_of_ble_eq_true rfl) rfl ?_
          intro r1 σ1 hr
          rw [hr.1, hr.2]
          clear hr σ1 r1
          refine rw_go hX [(50, .istore 8), (52, .aload_n 1), (53, .iload_n 2), (54, .iload 7), (56, .iconst 1), (57, .isub)] (by decide +kernel) (Ps := []) (pc' := 58) (lv' := [(0, .ref 23), (1, .ref 1), (2, .int (nI w)), (3, .int (nI (vK V w))), (4, .int (nI (vS V w))), (5, .int (bz (qd V w i))), (6, .int (nI (ltN V w i))), (7, .int (nI i)), (8, .int (V 0 (50 * w + i)))]) (st' := [.int (nI i - nI 1), .int (nI w), .ref 1]) (σ' := sr (sr σ 26 (tR (σ 26) V w i)) 27 (pR (σ 27) V w i)) rfl True.intro ?_
          refine rw_callVi hX (as := [.int (nI w), .int (nI i - nI 1)]) (rest := []) (c_byteAtP _ _ _ 1 (Or.inl rfl) V hv2 hv w i hw h40) (by decide +kernel) mvX5_byteAt lk3_53 (ci := 4) rfl rfl rfl (by decide) (Nat.le_of_ble_eq_true rfl) rfl ?_
          intro r1 σ1 hr
          rw [hr.1, hr.2]
          clear hr σ1 r1
          refine rw_go hX [(61, .istore 9), (63, .iload_n 3), (64, .iload 9), (66, .iload 8), (68, .iload 5)] (by decide +kernel) (Ps := []) (pc' := 70) (lv' := [(0, .ref 23), (1, .ref 1), (2, .int (nI w)), (3, .int (nI (vK V w))), (4, .int (nI (vS V w))), (5, .int (bz (qd V w i))), (6, .int (nI (ltN V w i))), (7, .int (nI i)), (8, .int (V 0 (50 * w + i))), (9, .int (ahV V w i))]) (st' := [.int (bz (qd V w i)), .int (V 0 (50 * w + i)), .int (ahV V w i), .int (nI (vK V w))]) (σ' := sr (sr σ 26 (tR (σ 26) V w i)) 27 (pR (σ 27) V w i)) rfl True.intro ?_
          refine rw_callSi hX (as := [.int (nI (vK V w)), .int (ahV V w i), .int (V 0 (50 * w + i)), .int (bz (qd V w i))]) (rest := []) (c_X1_counts _ _ _ (vK V w) (ahV V w i) (V 0 (50 * w + i)) (qd V w i) hk6) (by decide +kernel) msX1_counts (Or.inl lk3_56) rfl (by decide) (Nat.le_of_ble_eq_true rfl) rfl ?_
          intro r1 σ1 hr
          rw [hr.1, hr.2]
          clear hr σ1 r1
          refine rw_if hX (tgt := 124) (cnd := .eq) (off := 51) (by decide +kernel) (by decide) (fun h73 => ?_) (fun h73 => ?_)
          · replace h73 := zb_eqT h73
            have ht : tl V w i = 0 := by rw [cntK_tellK (b := bhV V w i)] at h73; exact Classical.not_not.mp (of_decide_eq_false h73)
            refine rw_go hX [(124, .iload 8), (126, .bipush 34)] (by decide +kernel) (Ps := []) (pc' := 128) (lv' := [(0, .ref 23), (1, .ref 1), (2, .int (nI w)), (3, .int (nI (vK V w))), (4, .int (nI (vS V w))), (5, .int (bz (qd V w i))), (6, .int (nI (ltN V w i))), (7, .int (nI i)), (8, .int (V 0 (50 * w + i))), (9, .int (ahV V w i))]) (st' := [.int (nI 34), .int (V 0 (50 * w + i))]) (σ' := sr (sr σ 26 (tR (σ 26) V w i)) 27 (pR (σ 27) V w i)) rfl True.intro ?_
            refine rw_icmp hX (tgt := 143) (cnd := .ne) (off := 15) (by decide +kernel) (by decide) (fun h128 => ?_) (fun h128 => ?_)
            · skip
              refine rw_go hX [(143, .iinc 7 1), (146, .goto (-110))] (by decide +kernel) (Ps := []) (pc' := 36) (lv' := [(0, .ref 23), (1, .ref 1), (2, .int (nI w)), (3, .int (nI (vK V w))), (4, .int (nI (vS V w))), (5, .int (bz (qd V w i))), (6, .int (nI (ltN V w i))), (7, .int (nI i + nI 1)), (8, .int (V 0 (50 * w + i))), (9, .int (ahV V w i))]) (st' := []) (σ' := sr (sr σ 26 (tR (σ 26) V w i)) 27 (pR (σ 27) V w i)) rfl True.intro ?_
              refine rw_lsub (ks := [0, 1, 2, 3, 4, 5, 6, 7]) (lv' := [(0, .ref 23), (1, .ref 1), (2, .int (nI w)), (3, .int (nI (vK V w))), (4, .int (nI (vS V w))), (5, .int (bz (qd V w i))), (6, .int (nI (ltN V w i))), (7, .int (nI i + nI 1))]) rfl ?_
              have q := ih36 (vS V w - (i + 1)) (by omega) (i + 1) rfl (by omega)
              rw [ltN_0 ht, tR_0 ht, pR_0 ht] at q
              rw [nI_add]
              rw [qd_n h128] at q
              exact q
            · skip
              refine rw_go hX [(131, .iload 5)] (by decide +kernel) (Ps := []) (pc' := 133) (lv' := [(0, .ref 23), (1, .ref 1), (2, .int (nI w)), (3, .int (nI (vK V w))), (4, .int (nI (vS V w))), (5, .int (bz (qd V w i))), (6, .int (nI (ltN V w i))), (7, .int (nI i)), (8, .int (V 0 (50 * w + i))), (9, .int (ahV V w i))]) (st' := [.int (bz (qd V w i))]) (σ' := sr (sr σ 26 (tR (σ 26) V w i)) 27 (pR (σ 27) V w i)) rfl True.intro ?_
              refine rw_if hX (tgt := 140) (cnd := .ne) (off := 7) (by decide +kernel) (by decide) (fun h133 => ?_) (fun h133 => ?_)
              · replace h133 := zb_neT h133
                refine rw_go hX [(140, .iconst 0), (141, .istore 5), (143, .iinc 7 1), (146, .goto (-110))] (by decide +kernel) (Ps := []) (pc' := 36) (lv' := [(0, .ref 23), (1, .ref 1), (2, .int (nI w)), (3, .int (nI (vK V w))), (4, .int (nI (vS V w))), (5, .int (nI 0)), (6, .int (nI (ltN V w i))), (7, .int (nI i + nI 1)), (8, .int (V 0 (50 * w + i))), (9, .int (ahV V w i))]) (st' := []) (σ' := sr (sr σ 26 (tR (σ 26) V w i)) 27 (pR (σ 27) V w i)) rfl True.intro ?_
                refine rw_lsub (ks := [0, 1, 2, 3, 4, 5, 6, 7]) (lv' := [(0, .ref 23), (1, .ref 1), (2, .int (nI w)), (3, .int (nI (vK V w))), (4, .int (nI (vS V w))), (5, .int (nI 0)), (6, .int (nI (ltN V w i))), (7, .int (nI i + nI 1))]) rfl ?_
                have q := ih36 (vS V w - (i + 1)) (by omega) (i + 1) rfl (by omega)
                rw [ltN_0 ht, tR_0 ht, pR_0 ht] at q
                rw [nI_add]
                rw [qd_e (Classical.not_not.mp h128), h133] at q
                exact q
              · replace h133 := zb_neF h133
                refine rw_go hX [(136, .iconst 1), (137, .goto 4), (141, .istore 5), (143, .iinc 7 1), (146, .goto (-110))] (by decide +kernel) (Ps := []) (pc' := 36) (lv' := [(0, .ref 23), (1, .ref 1), (2, .int (nI w)), (3, .int (nI (vK V w))), (4, .int (nI (vS V w))), (5, .int (nI 1)), (6, .int (nI (ltN V w i))), (7, .int (nI i + nI 1)), (8, .int (V 0 (50 * w + i))), (9, .int (ahV V w i))]) (st' := []) (σ' := sr (sr σ 26 (tR (σ 26) V w i)) 27 (pR (σ 27) V w i)) rfl True.intro ?_
                refine rw_lsub (ks := [0, 1, 2, 3, 4, 5, 6, 7]) (lv' := [(0, .ref 23), (1, .ref 1), (2, .int (nI w)), (3, .int (nI (vK V w))), (4, .int (nI (vS V w))), (5, .int (nI 1)), (6, .int (nI (ltN V w i))), (7, .int (nI i + nI 1))]) rfl ?_
                have q := ih36 (vS V w - (i + 1)) (by omega) (i + 1) rfl (by omega)
                rw [ltN_0 ht, tR_0 ht, pR_0 ht] at q
                rw [nI_add]
                rw [qd_e (Classical.not_not.mp h128), h133] at q
                exact q
          · replace h73 := zb_eqF h73
            have ht : tl V w i ≠ 0 := by have h9 := h73; rw [cntK_tellK (b := bhV V w i)] at h9; exact of_decide_eq_true h9
            refine rw_go hX [(76, .aload_n 0), (77, .getfield 18), (80, .iload_n 2), (81, .iload 6)] (by decide +kernel) (Ps := []) (pc' := 83) (lv' := [(0, .ref 23), (1, .ref 1), (2, .int (nI w)), (3, .int (nI (vK V w))), (4, .int (nI (vS V w))), (5, .int (bz (qd V w i))), (6, .int (nI (ltN V w i))), (7, .int (nI i)), (8, .int (V 0 (50 * w + i))), (9, .int (ahV V w i))]) (st' := [.int (nI (ltN V w i)), .int (nI w), .ref 26]) (σ' := sr (sr σ 26 (tR (σ 26) V w i)) 27 (pR (σ 27) V w i)) rfl True.intro ?_
            refine rw_callSi hX (as := [.int (nI w), .int (nI (ltN V w i))]) (rest := [.ref 26]) (c_cellOf _ _ _ w (ltN V w i) hw (by omega)) (by decide +kernel) msX9_cellOf (Or.inr lk3_62) rfl (by decide) (Nat.le_of_ble_eq_true rfl) rfl ?_
            intro r1 σ1 hr
            rw [hr.1, hr.2]
            clear hr σ1 r1
            refine rw_go hX [(86, .iload_n 3), (87, .iload 9), (89, .iload 8), (91, .aload_n 1), (92, .iload_n 2), (93, .iload 7), (95, .iconst 1), (96, .iadd)] (by decide +kernel) (Ps := []) (pc' := 97) (lv' := [(0, .ref 23), (1, .ref 1), (2, .int (nI w)), (3, .int (nI (vK V w))), (4, .int (nI (vS V w))), (5, .int (bz (qd V w i))), (6, .int (nI (ltN V w i))), (7, .int (nI i)), (8, .int (V 0 (50 * w + i))), (9, .int (ahV V w i))]) (st' := [.int (nI i + nI 1), .int (nI w), .ref 1, .int (V 0 (50 * w + i)), .int (ahV V w i), .int (nI (vK V w)), .int (nI (50 * w + ltN V w i)), .ref 26]) (σ' := sr (sr σ 26 (tR (σ 26) V w i)) 27 (pR (σ 27) V w i)) rfl True.intro ?_
            refine rw_callVi hX (as := [.int (nI w), .int (nI i + nI 1)]) (rest := [.int (V 0 (50 * w + i)), .int (ahV V w i), .int (nI (vK V w)), .int (nI (50 * w + ltN V w i)), .ref 26]) (c_byteAtB _ _ _ 1 (Or.inl rfl) V hv2 hv w i hw h40) (by decide +kernel) mvX5_byteAt lk3_53 (ci := 4) rfl rfl rfl (by decide) (Nat.le_of_ble_eq_true rfl) rfl ?_
            intro r1 σ1 hr
            rw [hr.1, hr.2]
            clear hr σ1 r1
            refine rw_callSi hX (as := [.int (nI (vK V w)), .int (ahV V w i), .int (V 0 (50 * w + i)), .int (bhV V w i)]) (rest := [.int (nI (50 * w + ltN V w i)), .ref 26]) (c_X1_toldAs _ _ _ (vK V w) (ahV V w i) (V 0 (50 * w + i)) (bhV V w i) (qd V w i) hk6 h73) (by decide +kernel) msX1_toldAs (Or.inl lk3_65) rfl (by decide) (Nat.le_of_ble_eq_true rfl) rfl ?_
            intro r1 σ1 hr
            rw [hr.1, show r1 = tl V w i from hr.2]
            clear hr σ1 r1
            refine rw_callSv hX (as := [.ref 26, .int (nI (50 * w + ltN V w i)), .int (tl V w i)]) (rest := []) (c_place _ _ _ 26 250 (50 * w + ltN V w i) (tl V w i) (by decide +kernel) (by omega) (by omega)) (by decide +kernel) msX9_place (Or.inr lk3_69) rfl (by decide) (Nat.le_of_ble_eq_true rfl) rfl ?_
            intro σ1 hr
            rw [hr]
            clear hr σ1
            refine rw_go hX [(106, .aload_n 0), (107, .getfield 21), (110, .iload_n 2), (111, .iload 6)] (by decide +kernel) (Ps := []) (pc' := 113) (lv' := [(0, .ref 23), (1, .ref 1), (2, .int (nI w)), (3, .int (nI (vK V w))), (4, .int (nI (vS V w))), (5, .int (bz (qd V w i))), (6, .int (nI (ltN V w i))), (7, .int (nI i)), (8, .int (V 0 (50 * w + i))), (9, .int (ahV V w i))]) (st' := [.int (nI (ltN V w i)), .int (nI w), .ref 27]) (σ' := sw (sr (sr σ 26 (tR (σ 26) V w i)) 27 (pR (σ 27) V w i)) 26 (50 * w + ltN V w i) (tl V w i)) rfl True.intro ?_
            refine rw_callSi hX (as := [.int (nI w), .int (nI (ltN V w i))]) (rest := [.ref 27]) (c_cellOf _ _ _ w (ltN V w i) hw (by omega)) (by decide +kernel) msX9_cellOf (Or.inr lk3_62) rfl (by decide) (Nat.le_of_ble_eq_true rfl) rfl ?_
            intro r1 σ1 hr
            rw [hr.1, hr.2]
            clear hr σ1 r1
            refine rw_go hX [(116, .iload 7)] (by decide +kernel) (Ps := []) (pc' := 118) (lv' := [(0, .ref 23), (1, .ref 1), (2, .int (nI w)), (3, .int (nI (vK V w))), (4, .int (nI (vS V w))), (5, .int (bz (qd V w i))), (6, .int (nI (ltN V w i))), (7, .int (nI i)), (8, .int (V 0 (50 * w + i))), (9, .int (ahV V w i))]) (st' := [.int (nI i), .int (nI (50 * w + ltN V w i)), .ref 27]) (σ' := sw (sr (sr σ 26 (tR (σ 26) V w i)) 27 (pR (σ 27) V w i)) 26 (50 * w + ltN V w i) (tl V w i)) rfl True.intro ?_
            refine rw_callSv hX (as := [.ref 27, .int (nI (50 * w + ltN V w i)), .int (nI i)]) (rest := []) (c_place _ _ _ 27 250 (50 * w + ltN V w i) (nI i) (by decide +kernel) (by omega) (by omega)) (by decide +kernel) msX9_place (Or.inr lk3_69) rfl (by decide) (Nat.le_of_ble_eq_true rfl) rfl ?_
            intro σ1 hr
            rw [hr]
            clear hr σ1
            refine rw_go hX [(121, .iinc 6 1), (124, .iload 8), (126, .bipush 34)] (by decide +kernel) (Ps := []) (pc' := 128) (lv' := [(0, .ref 23), (1, .ref 1), (2, .int (nI w)), (3, .int (nI (vK V w))), (4, .int (nI (vS V w))), (5, .int (bz (qd V w i))), (6, .int (nI (ltN V w i) + nI 1)), (7, .int (nI i)), (8, .int (V 0 (50 * w + i))), (9, .int (ahV V w i))]) (st' := [.int (nI 34), .int (V 0 (50 * w + i))]) (σ' := sw (sw (sr (sr σ 26 (tR (σ 26) V w i)) 27 (pR (σ 27) V w i)) 26 (50 * w + ltN V w i) (tl V w i)) 27 (50 * w + ltN V w i) (nI i)) rfl True.intro ?_
            refine rw_icmp hX (tgt := 143) (cnd := .ne) (off := 15) (by decide +kernel) (by decide) (fun h128 => ?_) (fun h128 => ?_)
            · skip
              refine rw_go hX [(143, .iinc 7 1), (146, .goto (-110))] (by decide +kernel) (Ps := []) (pc' := 36) (lv' := [(0, .ref 23), (1, .ref 1), (2, .int (nI w)), (3, .int (nI (vK V w))), (4, .int (nI (vS V w))), (5, .int (bz (qd V w i))), (6, .int (nI (ltN V w i) + nI 1)), (7, .int (nI i + nI 1)), (8, .int (V 0 (50 * w + i))), (9, .int (ahV V w i))]) (st' := []) (σ' := sw (sw (sr (sr σ 26 (tR (σ 26) V w i)) 27 (pR (σ 27) V w i)) 26 (50 * w + ltN V w i) (tl V w i)) 27 (50 * w + ltN V w i) (nI i)) rfl True.intro ?_
              refine rw_lsub (ks := [0, 1, 2, 3, 4, 5, 6, 7]) (lv' := [(0, .ref 23), (1, .ref 1), (2, .int (nI w)), (3, .int (nI (vK V w))), (4, .int (nI (vS V w))), (5, .int (bz (qd V w i))), (6, .int (nI (ltN V w i) + nI 1)), (7, .int (nI i + nI 1))]) rfl ?_
              have q := ih36 (vS V w - (i + 1)) (by omega) (i + 1) rfl (by omega)
              rw [ltN_1 ht, tR_1 ht, pR_1 ht] at q
              rw [sw_sr2 _ _ _ _ _ (by decide), sw_sr, nI_add, nI_add]
              rw [qd_n h128] at q
              exact q
            · skip
              refine rw_go hX [(131, .iload 5)] (by decide +kernel) (Ps := []) (pc' := 133) (lv' := [(0, .ref 23), (1, .ref 1), (2, .int (nI w)), (3, .int (nI (vK V w))), (4, .int (nI (vS V w))), (5, .int (bz (qd V w i))), (6, .int (nI (ltN V w i) + nI 1)), (7, .int (nI i)), (8, .int (V 0 (50 * w + i))), (9, .int (ahV V w i))]) (st' := [.int (bz (qd V w i))]) (σ' := sw (sw (sr (sr σ 26 (tR (σ 26) V w i)) 27 (pR (σ 27) V w i)) 26 (50 * w + ltN V w i) (tl V w i)) 27 (50 * w + ltN V w i) (nI i)) rfl True.intro ?_
              refine rw_if hX (tgt := 140) (cnd := .ne) (off := 7) (by decide +kernel) (by decide) (fun h133 => ?_) (fun h133 => ?_)
              · replace h133 := zb_neT h133
                refine rw_go hX [(140, .iconst 0), (141, .istore 5), (143, .iinc 7 1), (146, .goto (-110))] (by decide +kernel) (Ps := []) (pc' := 36) (lv' := [(0, .ref 23), (1, .ref 1), (2, .int (nI w)), (3, .int (nI (vK V w))), (4, .int (nI (vS V w))), (5, .int (nI 0)), (6, .int (nI (ltN V w i) + nI 1)), (7, .int (nI i + nI 1)), (8, .int (V 0 (50 * w + i))), (9, .int (ahV V w i))]) (st' := []) (σ' := sw (sw (sr (sr σ 26 (tR (σ 26) V w i)) 27 (pR (σ 27) V w i)) 26 (50 * w + ltN V w i) (tl V w i)) 27 (50 * w + ltN V w i) (nI i)) rfl True.intro ?_
                refine rw_lsub (ks := [0, 1, 2, 3, 4, 5, 6, 7]) (lv' := [(0, .ref 23), (1, .ref 1), (2, .int (nI w)), (3, .int (nI (vK V w))), (4, .int (nI (vS V w))), (5, .int (nI 0)), (6, .int (nI (ltN V w i) + nI 1)), (7, .int (nI i + nI 1))]) rfl ?_
                have q := ih36 (vS V w - (i + 1)) (by omega) (i + 1) rfl (by omega)
                rw [ltN_1 ht, tR_1 ht, pR_1 ht] at q
                rw [sw_sr2 _ _ _ _ _ (by decide), sw_sr, nI_add, nI_add]
                rw [qd_e (Classical.not_not.mp h128), h133] at q
                exact q
              · replace h133 := zb_neF h133
                refine rw_go hX [(136, .iconst 1), (137, .goto 4), (141, .istore 5), (143, .iinc 7 1), (146, .goto (-110))] (by decide +kernel) (Ps := []) (pc' := 36) (lv' := [(0, .ref 23), (1, .ref 1), (2, .int (nI w)), (3, .int (nI (vK V w))), (4, .int (nI (vS V w))), (5, .int (nI 1)), (6, .int (nI (ltN V w i) + nI 1)), (7, .int (nI i + nI 1)), (8, .int (V 0 (50 * w + i))), (9, .int (ahV V w i))]) (st' := []) (σ' := sw (sw (sr (sr σ 26 (tR (σ 26) V w i)) 27 (pR (σ 27) V w i)) 26 (50 * w + ltN V w i) (tl V w i)) 27 (50 * w + ltN V w i) (nI i)) rfl True.intro ?_
                refine rw_lsub (ks := [0, 1, 2, 3, 4, 5, 6, 7]) (lv' := [(0, .ref 23), (1, .ref 1), (2, .int (nI w)), (3, .int (nI (vK V w))), (4, .int (nI (vS V w))), (5, .int (nI 1)), (6, .int (nI (ltN V w i) + nI 1)), (7, .int (nI i + nI 1))]) rfl ?_
                have q := ih36 (vS V w - (i + 1)) (by omega) (i + 1) rfl (by omega)
                rw [ltN_1 ht, tR_1 ht, pR_1 ht] at q
                rw [sw_sr2 _ _ _ _ _ (by decide), sw_sr, nI_add, nI_add]
                rw [qd_e (Classical.not_not.mp h128), h133] at q
                exact q
    refine rw_lsub (ks := [0, 1, 2, 3, 4, 5, 6, 7]) (lv' := [(0, .ref 23), (1, .ref 1), (2, .int (nI w)), (3, .int (nI (vK V w))), (4, .int (nI (vS V w))), (5, .int (nI 0)), (6, .int (nI 0)), (7, .int (nI 0))]) rfl ?_
    have q := L36 (vS V w) 0 (by omega) (by omega)
    simp only [tR, pR, sr_id] at q
    exact q
  · exact absurd (by simp only [cz, cc2]; decide +kernel) h4
set_option maxRecDepth 20000 in
set_option maxHeartbeats 4000000 in
theorem c_readLetters_8 (l : Launch) (G : Gl) (σ : Mm) (V : Mm) (w : Nat) (hV : vw σ 9 = V) (hv : wf V) (hw : w < 5) : AMv l G 3 mX3_readLetters [.ref 23, .ref 8, .int (nI w)] σ (fun σ' => σ' = rdL 26 27 24 V w σ) := by
  refine rw_inV 3 (by decide +kernel) rfl rfl ?_
  intro E hE hX
  subst hE
  have h50 := wf_s50 hv hw
  have hk6 := wf_k6 hv hw
  refine rw_go hX [(0, .iload_n 2)] (by decide +kernel) (Ps := []) (pc' := 1) (lv' := [(0, .ref 23), (1, .ref 8), (2, .int (nI w))]) (st' := [.int (nI w)]) (σ' := σ) rfl True.intro ?_
  refine rw_callSi hX (as := [.int (nI w)]) (rest := []) (c_isWork _ _ _ w hw) (by decide +kernel) msX9_isWork (Or.inr lk3_34) rfl (by decide) (Nat.le_of_ble_eq_true rfl) rfl ?_
  intro r1 σ1 hr
  rw [hr.1, hr.2]
  clear hr σ1 r1
  refine rw_if hX (tgt := 8) (cnd := .ne) (off := 4) (by decide +kernel) (by decide) (fun h4 => ?_) (fun h4 => ?_)
  · skip
    refine rw_go hX [(8, .aload_n 1), (9, .getfield 38), (12, .iload_n 2), (13, .iaload)] (by decide +kernel) (Ps := [vp_in (nI w) 5]) (pc' := 14) (lv' := [(0, .ref 23), (1, .ref 8), (2, .int (nI w))]) (st' := [.int (σ 11 (nI w).toNatClampNeg)]) (σ' := σ) rfl (vp_in_nI hw (by omega)) ?_
    rw [show (σ 11 (nI w).toNatClampNeg) = nI (vK V w) from (by rw [nI_clamp (by omega), ← wf_k hv hw]; exact congrFun (vw_at hV 2 (by omega)) w)]
    refine rw_go hX [(14, .istore_n 3), (15, .bipush 50), (17, .aload_n 1), (18, .iload_n 2)] (by decide +kernel) (Ps := []) (pc' := 19) (lv' := [(0, .ref 23), (1, .ref 8), (2, .int (nI w)), (3, .int (nI (vK V w)))]) (st' := [.int (nI w), .ref 8, .int (nI 50)]) (σ' := σ) rfl True.intro ?_
    refine rw_callVi hX (as := [.int (nI w)]) (rest := [.int (nI 50)]) (c_size _ _ _ 8 (Or.inr (Or.inl rfl)) V hV hv w hw) (by decide +kernel) mvX5_sizeOf lk3_43 (ci := 4) rfl rfl rfl (by decide) (Nat.le_of_ble_eq_true rfl) rfl ?_
    intro r1 σ1 hr
    rw [hr.1, hr.2]
    clear hr σ1 r1
    refine rw_min hX (by decide +kernel) lk3_47 (Nat.le_of_ble_eq_true rfl) ?_
    rw [show (if nI (vS V w) < nI 50 then nI (vS V w) else nI 50) = nI (vS V w) from mn_l h50 (by omega)]
    refine rw_go hX [(25, .istore 4), (27, .iconst 0), (28, .istore 5), (30, .iconst 0), (31, .istore 6), (33, .iconst 0), (34, .istore 7)] (by decide +kernel) (Ps := []) (pc' := 36) (lv' := [(0, .ref 23), (1, .ref 8), (2, .int (nI w)), (3, .int (nI (vK V w))), (4, .int (nI (vS V w))), (5, .int (nI 0)), (6, .int (nI 0)), (7, .int (nI 0))]) (st' := []) (σ' := σ) rfl True.intro ?_
    have L36 : ∀ (μ36 : Nat) (i : Nat), μ36 = vS V w - i → (i ≤ vS V w) → RW E G 3 10 (QV E G (fun σ' => σ' = rdL 26 27 24 V w σ)) 36 [(0, .ref 23), (1, .ref 8), (2, .int (nI w)), (3, .int (nI (vK V w))), (4, .int (nI (vS V w))), (5, .int (bz (qd V w i))), (6, .int (nI (ltN V w i))), (7, .int (nI i))] [] (sr (sr σ 26 (tR (σ 26) V w i)) 27 (pR (σ 27) V w i)) := by
      intro μ36
      induction μ36 using Nat.strongRecOn with
      | ind μ36 ih36 =>
        intro i hμ36 hi
        have hl := ltN_le V w i
        have hv2 : vw (sr (sr σ 26 (tR (σ 26) V w i)) 27 (pR (σ 27) V w i)) 9 = V := (by rw [vw_sr _ _ (by decide), vw_sr _ _ (by decide)]; exact hV)
        refine rw_go hX [(36, .iload 7), (38, .iload 4)] (by decide +kernel) (Ps := []) (pc' := 40) (lv' := [(0, .ref 23), (1, .ref 8), (2, .int (nI w)), (3, .int (nI (vK V w))), (4, .int (nI (vS V w))), (5, .int (bz (qd V w i))), (6, .int (nI (ltN V w i))), (7, .int (nI i))]) (st' := [.int (nI (vS V w)), .int (nI i)]) (σ' := sr (sr σ 26 (tR (σ 26) V w i)) 27 (pR (σ 27) V w i)) rfl True.intro ?_
        refine rw_icmp hX (tgt := 149) (cnd := .ge) (off := 109) (by decide +kernel) (by decide) (fun h40 => ?_) (fun h40 => ?_)
        · replace h40 := c2_geT h40
          have e : i = vS V w := by omega
          refine rw_go hX [(149, .aload_n 0), (150, .getfield 9), (153, .iload_n 2), (154, .iload 6), (156, .iastore)] (by decide +kernel) (Ps := [vp_in (nI w) 5]) (pc' := 157) (lv' := [(0, .ref 23), (1, .ref 8), (2, .int (nI w)), (3, .int (nI (vK V w))), (4, .int (nI (vS V w))), (5, .int (bz (qd V w i))), (6, .int (nI (ltN V w i))), (7, .int (nI i))]) (st' := []) (σ' := sw (sr (sr σ 26 (tR (σ 26) V w i)) 27 (pR (σ 27) V w i)) 24 (nI w).toNatClampNeg (nI (ltN V w i))) rfl (vp_in_nI hw (by omega)) ?_
          exact rw_vret hX (by decide +kernel) (by subst e; rw [nI_clamp (by omega)]; rfl)
        · replace h40 := c2_geF h40
          refine rw_go hX [(43, .aload_n 1), (44, .iload_n 2), (45, .iload 7)] (by decide +kernel) (Ps := []) (pc' := 47) (lv' := [(0, .ref 23), (1, .ref 8), (2, .int (nI w)), (3, .int (nI (vK V w))), (4, .int (nI (vS V w))), (5, .int (bz (qd V w i))), (6, .int (nI (ltN V w i))), (7, .int (nI i))]) (st' := [.int (nI i), .int (nI w), .ref 8]) (σ' := sr (sr σ 26 (tR (σ 26) V w i)) 27 (pR (σ 27) V w i)) rfl True.intro ?_
          refine rw_callVi hX (as := [.int (nI w), .int (nI i)]) (rest := []) (c_byteAt _ _ _ 8 (Or.inr (Or.inl rfl)) V hv2 hv w i hw h40) (by decide +kernel) mvX5_byteAt lk3_53 (ci := 4) rfl rfl rfl (by decide) (Nat.le_of_ble_eq_true rfl) rfl ?_
          intro r1 σ1 hr
          rw [hr.1, hr.2]
          clear hr σ1 r1
          refine rw_go hX [(50, .istore 8), (52, .aload_n 1), (53, .iload_n 2), (54, .iload 7), (56, .iconst 1), (57, .isub)] (by decide +kernel) (Ps := []) (pc' := 58) (lv' := [(0, .ref 23), (1, .ref 8), (2, .int (nI w)), (3, .int (nI (vK V w))), (4, .int (nI (vS V w))), (5, .int (bz (qd V w i))), (6, .int (nI (ltN V w i))), (7, .int (nI i)), (8, .int (V 0 (50 * w + i)))]) (st' := [.int (nI i - nI 1), .int (nI w), .ref 8]) (σ' := sr (sr σ 26 (tR (σ 26) V w i)) 27 (pR (σ 27) V w i)) rfl True.intro ?_
          refine rw_callVi hX (as := [.int (nI w), .int (nI i - nI 1)]) (rest := []) (c_byteAtP _ _ _ 8 (Or.inr (Or.inl rfl)) V hv2 hv w i hw h40) (by decide +kernel) mvX5_byteAt lk3_53 (ci := 4) rfl rfl rfl (by decide) (Nat.le_of_ble_eq_true rfl) rfl ?_
          intro r1 σ1 hr
          rw [hr.1, hr.2]
          clear hr σ1 r1
          refine rw_go hX [(61, .istore 9), (63, .iload_n 3), (64, .iload 9), (66, .iload 8), (68, .iload 5)] (by decide +kernel) (Ps := []) (pc' := 70) (lv' := [(0, .ref 23), (1, .ref 8), (2, .int (nI w)), (3, .int (nI (vK V w))), (4, .int (nI (vS V w))), (5, .int (bz (qd V w i))), (6, .int (nI (ltN V w i))), (7, .int (nI i)), (8, .int (V 0 (50 * w + i))), (9, .int (ahV V w i))]) (st' := [.int (bz (qd V w i)), .int (V 0 (50 * w + i)), .int (ahV V w i), .int (nI (vK V w))]) (σ' := sr (sr σ 26 (tR (σ 26) V w i)) 27 (pR (σ 27) V w i)) rfl True.intro ?_
          refine rw_callSi hX (as := [.int (nI (vK V w)), .int (ahV V w i), .int (V 0 (50 * w + i)), .int (bz (qd V w i))]) (rest := []) (c_X1_counts _ _ _ (vK V w) (ahV V w i) (V 0 (50 * w + i)) (qd V w i) hk6) (by decide +kernel) msX1_counts (Or.inl lk3_56) rfl (by decide) (Nat.le_of_ble_eq_true rfl) rfl ?_
          intro r1 σ1 hr
          rw [hr.1, hr.2]
          clear hr σ1 r1
          refine rw_if hX (tgt := 124) (cnd := .eq) (off := 51) (by decide +kernel) (by decide) (fun h73 => ?_) (fun h73 => ?_)
          · replace h73 := zb_eqT h73
            have ht : tl V w i = 0 := by rw [cntK_tellK (b := bhV V w i)] at h73; exact Classical.not_not.mp (of_decide_eq_false h73)
            refine rw_go hX [(124, .iload 8), (126, .bipush 34)] (by decide +kernel) (Ps := []) (pc' := 128) (lv' := [(0, .ref 23), (1, .ref 8), (2, .int (nI w)), (3, .int (nI (vK V w))), (4, .int (nI (vS V w))), (5, .int (bz (qd V w i))), (6, .int (nI (ltN V w i))), (7, .int (nI i)), (8, .int (V 0 (50 * w + i))), (9, .int (ahV V w i))]) (st' := [.int (nI 34), .int (V 0 (50 * w + i))]) (σ' := sr (sr σ 26 (tR (σ 26) V w i)) 27 (pR (σ 27) V w i)) rfl True.intro ?_
            refine rw_icmp hX (tgt := 143) (cnd := .ne) (off := 15) (by decide +kernel) (by decide) (fun h128 => ?_) (fun h128 => ?_)
            · skip
              refine rw_go hX [(143, .iinc 7 1), (146, .goto (-110))] (by decide +kernel) (Ps := []) (pc' := 36) (lv' := [(0, .ref 23), (1, .ref 8), (2, .int (nI w)), (3, .int (nI (vK V w))), (4, .int (nI (vS V w))), (5, .int (bz (qd V w i))), (6, .int (nI (ltN V w i))), (7, .int (nI i + nI 1)), (8, .int (V 0 (50 * w + i))), (9, .int (ahV V w i))]) (st' := []) (σ' := sr (sr σ 26 (tR (σ 26) V w i)) 27 (pR (σ 27) V w i)) rfl True.intro ?_
              refine rw_lsub (ks := [0, 1, 2, 3, 4, 5, 6, 7]) (lv' := [(0, .ref 23), (1, .ref 8), (2, .int (nI w)), (3, .int (nI (vK V w))), (4, .int (nI (vS V w))), (5, .int (bz (qd V w i))), (6, .int (nI (ltN V w i))), (7, .int (nI i + nI 1))]) rfl ?_
              have q := ih36 (vS V w - (i + 1)) (by omega) (i + 1) rfl (by omega)
              rw [ltN_0 ht, tR_0 ht, pR_0 ht] at q
              rw [nI_add]
              rw [qd_n h128] at q
              exact q
            · skip
              refine rw_go hX [(131, .iload 5)] (by decide +kernel) (Ps := []) (pc' := 133) (lv' := [(0, .ref 23), (1, .ref 8), (2, .int (nI w)), (3, .int (nI (vK V w))), (4, .int (nI (vS V w))), (5, .int (bz (qd V w i))), (6, .int (nI (ltN V w i))), (7, .int (nI i)), (8, .int (V 0 (50 * w + i))), (9, .int (ahV V w i))]) (st' := [.int (bz (qd V w i))]) (σ' := sr (sr σ 26 (tR (σ 26) V w i)) 27 (pR (σ 27) V w i)) rfl True.intro ?_
              refine rw_if hX (tgt := 140) (cnd := .ne) (off := 7) (by decide +kernel) (by decide) (fun h133 => ?_) (fun h133 => ?_)
              · replace h133 := zb_neT h133
                refine rw_go hX [(140, .iconst 0), (141, .istore 5), (143, .iinc 7 1), (146, .goto (-110))] (by decide +kernel) (Ps := []) (pc' := 36) (lv' := [(0, .ref 23), (1, .ref 8), (2, .int (nI w)), (3, .int (nI (vK V w))), (4, .int (nI (vS V w))), (5, .int (nI 0)), (6, .int (nI (ltN V w i))), (7, .int (nI i + nI 1)), (8, .int (V 0 (50 * w + i))), (9, .int (ahV V w i))]) (st' := []) (σ' := sr (sr σ 26 (tR (σ 26) V w i)) 27 (pR (σ 27) V w i)) rfl True.intro ?_
                refine rw_lsub (ks := [0, 1, 2, 3, 4, 5, 6, 7]) (lv' := [(0, .ref 23), (1, .ref 8), (2, .int (nI w)), (3, .int (nI (vK V w))), (4, .int (nI (vS V w))), (5, .int (nI 0)), (6, .int (nI (ltN V w i))), (7, .int (nI i + nI 1))]) rfl ?_
                have q := ih36 (vS V w - (i + 1)) (by omega) (i + 1) rfl (by omega)
                rw [ltN_0 ht, tR_0 ht, pR_0 ht] at q
                rw [nI_add]
                rw [qd_e (Classical.not_not.mp h128), h133] at q
                exact q
              · replace h133 := zb_neF h133
                refine rw_go hX [(136, .iconst 1), (137, .goto 4), (141, .istore 5), (143, .iinc 7 1), (146, .goto (-110))] (by decide +kernel) (Ps := []) (pc' := 36) (lv' := [(0, .ref 23), (1, .ref 8), (2, .int (nI w)), (3, .int (nI (vK V w))), (4, .int (nI (vS V w))), (5, .int (nI 1)), (6, .int (nI (ltN V w i))), (7, .int (nI i + nI 1)), (8, .int (V 0 (50 * w + i))), (9, .int (ahV V w i))]) (st' := []) (σ' := sr (sr σ 26 (tR (σ 26) V w i)) 27 (pR (σ 27) V w i)) rfl True.intro ?_
                refine rw_lsub (ks := [0, 1, 2, 3, 4, 5, 6, 7]) (lv' := [(0, .ref 23), (1, .ref 8), (2, .int (nI w)), (3, .int (nI (vK V w))), (4, .int (nI (vS V w))), (5, .int (nI 1)), (6, .int (nI (ltN V w i))), (7, .int (nI i + nI 1))]) rfl ?_
                have q := ih36 (vS V w - (i + 1)) (by omega) (i + 1) rfl (by omega)
                rw [ltN_0 ht, tR_0 ht, pR_0 ht] at q
                rw [nI_add]
                rw [qd_e (Classical.not_not.mp h128), h133] at q
                exact q
          · replace h73 := zb_eqF h73
            have ht : tl V w i ≠ 0 := by have h9 := h73; rw [cntK_tellK (b := bhV V w i)] at h9; exact of_decide_eq_true h9
            refine rw_go hX [(76, .aload_n 0), (77, .getfield 18), (80, .iload_n 2), (81, .iload 6)] (by decide +kernel) (Ps := []) (pc' := 83) (lv' := [(0, .ref 23), (1, .ref 8), (2, .int (nI w)), (3, .int (nI (vK V w))), (4, .int (nI (vS V w))), (5, .int (bz (qd V w i))), (6, .int (nI (ltN V w i))), (7, .int (nI i)), (8, .int (V 0 (50 * w + i))), (9, .int (ahV V w i))]) (st' := [.int (nI (ltN V w i)), .int (nI w), .ref 26]) (σ' := sr (sr σ 26 (tR (σ 26) V w i)) 27 (pR (σ 27) V w i)) rfl True.intro ?_
            refine rw_callSi hX (as := [.int (nI w), .int (nI (ltN V w i))]) (rest := [.ref 26]) (c_cellOf _ _ _ w (ltN V w i) hw (by omega)) (by decide +kernel) msX9_cellOf (Or.inr lk3_62) rfl (by decide) (Nat.le_of_ble_eq_true rfl) rfl ?_
            intro r1 σ1 hr
            rw [hr.1, hr.2]
            clear hr σ1 r1
            refine rw_go hX [(86, .iload_n 3), (87, .iload 9), (89, .iload 8), (91, .aload_n 1), (92, .iload_n 2), (93, .iload 7), (95, .iconst 1), (96, .iadd)] (by decide +kernel) (Ps := []) (pc' := 97) (lv' := [(0, .ref 23), (1, .ref 8), (2, .int (nI w)), (3, .int (nI (vK V w))), (4, .int (nI (vS V w))), (5, .int (bz (qd V w i))), (6, .int (nI (ltN V w i))), (7, .int (nI i)), (8, .int (V 0 (50 * w + i))), (9, .int (ahV V w i))]) (st' := [.int (nI i + nI 1), .int (nI w), .ref 8, .int (V 0 (50 * w + i)), .int (ahV V w i), .int (nI (vK V w)), .int (nI (50 * w + ltN V w i)), .ref 26]) (σ' := sr (sr σ 26 (tR (σ 26) V w i)) 27 (pR (σ 27) V w i)) rfl True.intro ?_
            refine rw_callVi hX (as := [.int (nI w), .int (nI i + nI 1)]) (rest := [.int (V 0 (50 * w + i)), .int (ahV V w i), .int (nI (vK V w)), .int (nI (50 * w + ltN V w i)), .ref 26]) (c_byteAtB _ _ _ 8 (Or.inr (Or.inl rfl)) V hv2 hv w i hw h40) (by decide +kernel) mvX5_byteAt lk3_53 (ci := 4) rfl rfl rfl (by decide) (Nat.le_of_ble_eq_true rfl) rfl ?_
            intro r1 σ1 hr
            rw [hr.1, hr.2]
            clear hr σ1 r1
            refine rw_callSi hX (as := [.int (nI (vK V w)), .int (ahV V w i), .int (V 0 (50 * w + i)), .int (bhV V w i)]) (rest := [.int (nI (50 * w + ltN V w i)), .ref 26]) (c_X1_toldAs _ _ _ (vK V w) (ahV V w i) (V 0 (50 * w + i)) (bhV V w i) (qd V w i) hk6 h73) (by decide +kernel) msX1_toldAs (Or.inl lk3_65) rfl (by decide) (Nat.le_of_ble_eq_true rfl) rfl ?_
            intro r1 σ1 hr
            rw [hr.1, show r1 = tl V w i from hr.2]
            clear hr σ1 r1
            refine rw_callSv hX (as := [.ref 26, .int (nI (50 * w + ltN V w i)), .int (tl V w i)]) (rest := []) (c_place _ _ _ 26 250 (50 * w + ltN V w i) (tl V w i) (by decide +kernel) (by omega) (by omega)) (by decide +kernel) msX9_place (Or.inr lk3_69) rfl (by decide) (Nat.le_of_ble_eq_true rfl) rfl ?_
            intro σ1 hr
            rw [hr]
            clear hr σ1
            refine rw_go hX [(106, .aload_n 0), (107, .getfield 21), (110, .iload_n 2), (111, .iload 6)] (by decide +kernel) (Ps := []) (pc' := 113) (lv' := [(0, .ref 23), (1, .ref 8), (2, .int (nI w)), (3, .int (nI (vK V w))), (4, .int (nI (vS V w))), (5, .int (bz (qd V w i))), (6, .int (nI (ltN V w i))), (7, .int (nI i)), (8, .int (V 0 (50 * w + i))), (9, .int (ahV V w i))]) (st' := [.int (nI (ltN V w i)), .int (nI w), .ref 27]) (σ' := sw (sr (sr σ 26 (tR (σ 26) V w i)) 27 (pR (σ 27) V w i)) 26 (50 * w + ltN V w i) (tl V w i)) rfl True.intro ?_
            refine rw_callSi hX (as := [.int (nI w), .int (nI (ltN V w i))]) (rest := [.ref 27]) (c_cellOf _ _ _ w (ltN V w i) hw (by omega)) (by decide +kernel) msX9_cellOf (Or.inr lk3_62) rfl (by decide) (Nat.le_of_ble_eq_true rfl) rfl ?_
            intro r1 σ1 hr
            rw [hr.1, hr.2]
            clear hr σ1 r1
            refine rw_go hX [(116, .iload 7)] (by decide +kernel) (Ps := []) (pc' := 118) (lv' := [(0, .ref 23), (1, .ref 8), (2, .int (nI w)), (3, .int (nI (vK V w))), (4, .int (nI (vS V w))), (5, .int (bz (qd V w i))), (6, .int (nI (ltN V w i))), (7, .int (nI i)), (8, .int (V 0 (50 * w + i))), (9, .int (ahV V w i))]) (st' := [.int (nI i), .int (nI (50 * w + ltN V w i)), .ref 27]) (σ' := sw (sr (sr σ 26 (tR (σ 26) V w i)) 27 (pR (σ 27) V w i)) 26 (50 * w + ltN V w i) (tl V w i)) rfl True.intro ?_
            refine rw_callSv hX (as := [.ref 27, .int (nI (50 * w + ltN V w i)), .int (nI i)]) (rest := []) (c_place _ _ _ 27 250 (50 * w + ltN V w i) (nI i) (by decide +kernel) (by omega) (by omega)) (by decide +kernel) msX9_place (Or.inr lk3_69) rfl (by decide) (Nat.le_of_ble_eq_true rfl) rfl ?_
            intro σ1 hr
            rw [hr]
            clear hr σ1
            refine rw_go hX [(121, .iinc 6 1), (124, .iload 8), (126, .bipush 34)] (by decide +kernel) (Ps := []) (pc' := 128) (lv' := [(0, .ref 23), (1, .ref 8), (2, .int (nI w)), (3, .int (nI (vK V w))), (4, .int (nI (vS V w))), (5, .int (bz (qd V w i))), (6, .int (nI (ltN V w i) + nI 1)), (7, .int (nI i)), (8, .int (V 0 (50 * w + i))), (9, .int (ahV V w i))]) (st' := [.int (nI 34), .int (V 0 (50 * w + i))]) (σ' := sw (sw (sr (sr σ 26 (tR (σ 26) V w i)) 27 (pR (σ 27) V w i)) 26 (50 * w + ltN V w i) (tl V w i)) 27 (50 * w + ltN V w i) (nI i)) rfl True.intro ?_
            refine rw_icmp hX (tgt := 143) (cnd := .ne) (off := 15) (by decide +kernel) (by decide) (fun h128 => ?_) (fun h128 => ?_)
            · skip
              refine rw_go hX [(143, .iinc 7 1), (146, .goto (-110))] (by decide +kernel) (Ps := []) (pc' := 36) (lv' := [(0, .ref 23), (1, .ref 8), (2, .int (nI w)), (3, .int (nI (vK V w))), (4, .int (nI (vS V w))), (5, .int (bz (qd V w i))), (6, .int (nI (ltN V w i) + nI 1)), (7, .int (nI i + nI 1)), (8, .int (V 0 (50 * w + i))), (9, .int (ahV V w i))]) (st' := []) (σ' := sw (sw (sr (sr σ 26 (tR (σ 26) V w i)) 27 (pR (σ 27) V w i)) 26 (50 * w + ltN V w i) (tl V w i)) 27 (50 * w + ltN V w i) (nI i)) rfl True.intro ?_
              refine rw_lsub (ks := [0, 1, 2, 3, 4, 5, 6, 7]) (lv' := [(0, .ref 23), (1, .ref 8), (2, .int (nI w)), (3, .int (nI (vK V w))), (4, .int (nI (vS V w))), (5, .int (bz (qd V w i))), (6, .int (nI (ltN V w i) + nI 1)), (7, .int (nI i + nI 1))]) rfl ?_
              have q := ih36 (vS V w - (i + 1)) (by omega) (i + 1) rfl (by omega)
              rw [ltN_1 ht, tR_1 ht, pR_1 ht] at q
              rw [sw_sr2 _ _ _ _ _ (by decide), sw_sr, nI_add, nI_add]
              rw [qd_n h128] at q
              exact q
            · skip
              refine rw_go hX [(131, .iload 5)] (by decide +kernel) (Ps := []) (pc' := 133) (lv' := [(0, .ref 23), (1, .ref 8), (2, .int (nI w)), (3, .int (nI (vK V w))), (4, .int (nI (vS V w))), (5, .int (bz (qd V w i))), (6, .int (nI (ltN V w i) + nI 1)), (7, .int (nI i)), (8, .int (V 0 (50 * w + i))), (9, .int (ahV V w i))]) (st' := [.int (bz (qd V w i))]) (σ' := sw (sw (sr (sr σ 26 (tR (σ 26) V w i)) 27 (pR (σ 27) V w i)) 26 (50 * w + ltN V w i) (tl V w i)) 27 (50 * w + ltN V w i) (nI i)) rfl True.intro ?_
              refine rw_if hX (tgt := 140) (cnd := .ne) (off := 7) (by decide +kernel) (by decide) (fun h133 => ?_) (fun h133 => ?_)
              · replace h133 := zb_neT h133
                refine rw_go hX [(140, .iconst 0), (141, .istore 5), (143, .iinc 7 1), (146, .goto (-110))] (by decide +kernel) (Ps := []) (pc' := 36) (lv' := [(0, .ref 23), (1, .ref 8), (2, .int (nI w)), (3, .int (nI (vK V w))), (4, .int (nI (vS V w))), (5, .int (nI 0)), (6, .int (nI (ltN V w i) + nI 1)), (7, .int (nI i + nI 1)), (8, .int (V 0 (50 * w + i))), (9, .int (ahV V w i))]) (st' := []) (σ' := sw (sw (sr (sr σ 26 (tR (σ 26) V w i)) 27 (pR (σ 27) V w i)) 26 (50 * w + ltN V w i) (tl V w i)) 27 (50 * w + ltN V w i) (nI i)) rfl True.intro ?_
                refine rw_lsub (ks := [0, 1, 2, 3, 4, 5, 6, 7]) (lv' := [(0, .ref 23), (1, .ref 8), (2, .int (nI w)), (3, .int (nI (vK V w))), (4, .int (nI (vS V w))), (5, .int (nI 0)), (6, .int (nI (ltN V w i) + nI 1)), (7, .int (nI i + nI 1))]) rfl ?_
                have q := ih36 (vS V w - (i + 1)) (by omega) (i + 1) rfl (by omega)
                rw [ltN_1 ht, tR_1 ht, pR_1 ht] at q
                rw [sw_sr2 _ _ _ _ _ (by decide), sw_sr, nI_add, nI_add]
                rw [qd_e (Classical.not_not.mp h128), h133] at q
                exact q
              · replace h133 := zb_neF h133
                refine rw_go hX [(136, .iconst 1), (137, .goto 4), (141, .istore 5), (143, .iinc 7 1), (146, .goto (-110))] (by decide +kernel) (Ps := []) (pc' := 36) (lv' := [(0, .ref 23), (1, .ref 8), (2, .int (nI w)), (3, .int (nI (vK V w))), (4, .int (nI (vS V w))), (5, .int (nI 1)), (6, .int (nI (ltN V w i) + nI 1)), (7, .int (nI i + nI 1)), (8, .int (V 0 (50 * w + i))), (9, .int (ahV V w i))]) (st' := []) (σ' := sw (sw (sr (sr σ 26 (tR (σ 26) V w i)) 27 (pR (σ 27) V w i)) 26 (50 * w + ltN V w i) (tl V w i)) 27 (50 * w + ltN V w i) (nI i)) rfl True.intro ?_
                refine rw_lsub (ks := [0, 1, 2, 3, 4, 5, 6, 7]) (lv' := [(0, .ref 23), (1, .ref 8), (2, .int (nI w)), (3, .int (nI (vK V w))), (4, .int (nI (vS V w))), (5, .int (nI 1)), (6, .int (nI (ltN V w i) + nI 1)), (7, .int (nI i + nI 1))]) rfl ?_
                have q := ih36 (vS V w - (i + 1)) (by omega) (i + 1) rfl (by omega)
                rw [ltN_1 ht, tR_1 ht, pR_1 ht] at q
                rw [sw_sr2 _ _ _ _ _ (by decide), sw_sr, nI_add, nI_add]
                rw [qd_e (Classical.not_not.mp h128), h133] at q
                exact q
    refine rw_lsub (ks := [0, 1, 2, 3, 4, 5, 6, 7]) (lv' := [(0, .ref 23), (1, .ref 8), (2, .int (nI w)), (3, .int (nI (vK V w))), (4, .int (nI (vS V w))), (5, .int (nI 0)), (6, .int (nI 0)), (7, .int (nI 0))]) rfl ?_
    have q := L36 (vS V w) 0 (by omega) (by omega)
    simp only [tR, pR, sr_id] at q
    exact q
  · exact absurd (by simp only [cz, cc2]; decide +kernel) h4
set_option maxRecDepth 20000 in
set_option maxHeartbeats 4000000 in
theorem c_readLetters_15 (l : Launch) (G : Gl) (σ : Mm) (V : Mm) (w : Nat) (hV : vw σ 16 = V) (hv : wf V) (hw : w < 5) : AMv l G 3 mX3_readLetters [.ref 23, .ref 15, .int (nI w)] σ (fun σ' => σ' = rdL 26 27 24 V w σ) := by
  refine rw_inV 3 (by decide +kernel) rfl rfl ?_
  intro E hE hX
  subst hE
  have h50 := wf_s50 hv hw
  have hk6 := wf_k6 hv hw
  refine rw_go hX [(0, .iload_n 2)] (by decide +kernel) (Ps := []) (pc' := 1) (lv' := [(0, .ref 23), (1, .ref 15), (2, .int (nI w))]) (st' := [.int (nI w)]) (σ' := σ) rfl True.intro ?_
  refine rw_callSi hX (as := [.int (nI w)]) (rest := []) (c_isWork _ _ _ w hw) (by decide +kernel) msX9_isWork (Or.inr lk3_34) rfl (by decide) (Nat.le_of_ble_eq_true rfl) rfl ?_
  intro r1 σ1 hr
  rw [hr.1, hr.2]
  clear hr σ1 r1
  refine rw_if hX (tgt := 8) (cnd := .ne) (off := 4) (by decide +kernel) (by decide) (fun h4 => ?_) (fun h4 => ?_)
  · skip
    refine rw_go hX [(8, .aload_n 1), (9, .getfield 38), (12, .iload_n 2), (13, .iaload)] (by decide +kernel) (Ps := [vp_in (nI w) 5]) (pc' := 14) (lv' := [(0, .ref 23), (1, .ref 15), (2, .int (nI w))]) (st' := [.int (σ 18 (nI w).toNatClampNeg)]) (σ' := σ) rfl (vp_in_nI hw (by omega)) ?_
    rw [show (σ 18 (nI w).toNatClampNeg) = nI (vK V w) from (by rw [nI_clamp (by omega), ← wf_k hv hw]; exact congrFun (vw_at hV 2 (by omega)) w)]
    refine rw_go hX [(14, .istore_n 3), (15, .bipush 50), (17, .aload_n 1), (18, .iload_n 2)] (by decide +kernel) (Ps := []) (pc' := 19) (lv' := [(0, .ref 23), (1, .ref 15), (2, .int (nI w)), (3, .int (nI (vK V w)))]) (st' := [.int (nI w), .ref 15, .int (nI 50)]) (σ' := σ) rfl True.intro ?_
    refine rw_callVi hX (as := [.int (nI w)]) (rest := [.int (nI 50)]) (c_size _ _ _ 15 (Or.inr (Or.inr rfl)) V hV hv w hw) (by decide +kernel) mvX5_sizeOf lk3_43 (ci := 4) rfl rfl rfl (by decide) (Nat.le_of_ble_eq_true rfl) rfl ?_
    intro r1 σ1 hr
    rw [hr.1, hr.2]
    clear hr σ1 r1
    refine rw_min hX (by decide +kernel) lk3_47 (Nat.le_of_ble_eq_true rfl) ?_
    rw [show (if nI (vS V w) < nI 50 then nI (vS V w) else nI 50) = nI (vS V w) from mn_l h50 (by omega)]
    refine rw_go hX [(25, .istore 4), (27, .iconst 0), (28, .istore 5), (30, .iconst 0), (31, .istore 6), (33, .iconst 0), (34, .istore 7)] (by decide +kernel) (Ps := []) (pc' := 36) (lv' := [(0, .ref 23), (1, .ref 15), (2, .int (nI w)), (3, .int (nI (vK V w))), (4, .int (nI (vS V w))), (5, .int (nI 0)), (6, .int (nI 0)), (7, .int (nI 0))]) (st' := []) (σ' := σ) rfl True.intro ?_
    have L36 : ∀ (μ36 : Nat) (i : Nat), μ36 = vS V w - i → (i ≤ vS V w) → RW E G 3 10 (QV E G (fun σ' => σ' = rdL 26 27 24 V w σ)) 36 [(0, .ref 23), (1, .ref 15), (2, .int (nI w)), (3, .int (nI (vK V w))), (4, .int (nI (vS V w))), (5, .int (bz (qd V w i))), (6, .int (nI (ltN V w i))), (7, .int (nI i))] [] (sr (sr σ 26 (tR (σ 26) V w i)) 27 (pR (σ 27) V w i)) := by
      intro μ36
      induction μ36 using Nat.strongRecOn with
      | ind μ36 ih36 =>
        intro i hμ36 hi
        have hl := ltN_le V w i
        have hv2 : vw (sr (sr σ 26 (tR (σ 26) V w i)) 27 (pR (σ 27) V w i)) 16 = V := (by rw [vw_sr _ _ (by decide), vw_sr _ _ (by decide)]; exact hV)
        refine rw_go hX [(36, .iload 7), (38, .iload 4)] (by decide +kernel) (Ps := []) (pc' := 40) (lv' := [(0, .ref 23), (1, .ref 15), (2, .int (nI w)), (3, .int (nI (vK V w))), (4, .int (nI (vS V w))), (5, .int (bz (qd V w i))), (6, .int (nI (ltN V w i))), (7, .int (nI i))]) (st' := [.int (nI (vS V w)), .int (nI i)]) (σ' := sr (sr σ 26 (tR (σ 26) V w i)) 27 (pR (σ 27) V w i)) rfl True.intro ?_
        refine rw_icmp hX (tgt := 149) (cnd := .ge) (off := 109) (by decide +kernel) (by decide) (fun h40 => ?_) (fun h40 => ?_)
        · replace h40 := c2_geT h40
          have e : i = vS V w := by omega
          refine rw_go hX [(149, .aload_n 0), (150, .getfield 9), (153, .iload_n 2), (154, .iload 6), (156, .iastore)] (by decide +kernel) (Ps := [vp_in (nI w) 5]) (pc' := 157) (lv' := [(0, .ref 23), (1, .ref 15), (2, .int (nI w)), (3, .int (nI (vK V w))), (4, .int (nI (vS V w))), (5, .int (bz (qd V w i))), (6, .int (nI (ltN V w i))), (7, .int (nI i))]) (st' := []) (σ' := sw (sr (sr σ 26 (tR (σ 26) V w i)) 27 (pR (σ 27) V w i)) 24 (nI w).toNatClampNeg (nI (ltN V w i))) rfl (vp_in_nI hw (by omega)) ?_
          exact rw_vret hX (by decide +kernel) (by subst e; rw [nI_clamp (by omega)]; rfl)
        · replace h40 := c2_geF h40
          refine rw_go hX [(43, .aload_n 1), (44, .iload_n 2), (45, .iload 7)] (by decide +kernel) (Ps := []) (pc' := 47) (lv' := [(0, .ref 23), (1, .ref 15), (2, .int (nI w)), (3, .int (nI (vK V w))), (4, .int (nI (vS V w))), (5, .int (bz (qd V w i))), (6, .int (nI (ltN V w i))), (7, .int (nI i))]) (st' := [.int (nI i), .int (nI w), .ref 15]) (σ' := sr (sr σ 26 (tR (σ 26) V w i)) 27 (pR (σ 27) V w i)) rfl True.intro ?_
          refine rw_callVi hX (as := [.int (nI w), .int (nI i)]) (rest := []) (c_byteAt _ _ _ 15 (Or.inr (Or.inr rfl)) V hv2 hv w i hw h40) (by decide +kernel) mvX5_byteAt lk3_53 (ci := 4) rfl rfl rfl (by decide) (Nat.le_of_ble_eq_true rfl) rfl ?_
          intro r1 σ1 hr
          rw [hr.1, hr.2]
          clear hr σ1 r1
          refine rw_go hX [(50, .istore 8), (52, .aload_n 1), (53, .iload_n 2), (54, .iload 7), (56, .iconst 1), (57, .isub)] (by decide +kernel) (Ps := []) (pc' := 58) (lv' := [(0, .ref 23), (1, .ref 15), (2, .int (nI w)), (3, .int (nI (vK V w))), (4, .int (nI (vS V w))), (5, .int (bz (qd V w i))), (6, .int (nI (ltN V w i))), (7, .int (nI i)), (8, .int (V 0 (50 * w + i)))]) (st' := [.int (nI i - nI 1), .int (nI w), .ref 15]) (σ' := sr (sr σ 26 (tR (σ 26) V w i)) 27 (pR (σ 27) V w i)) rfl True.intro ?_
          refine rw_callVi hX (as := [.int (nI w), .int (nI i - nI 1)]) (rest := []) (c_byteAtP _ _ _ 15 (Or.inr (Or.inr rfl)) V hv2 hv w i hw h40) (by decide +kernel) mvX5_byteAt lk3_53 (ci := 4) rfl rfl rfl (by decide) (Nat.le_of_ble_eq_true rfl) rfl ?_
          intro r1 σ1 hr
          rw [hr.1, hr.2]
          clear hr σ1 r1
          refine rw_go hX [(61, .istore 9), (63, .iload_n 3), (64, .iload 9), (66, .iload 8), (68, .iload 5)] (by decide +kernel) (Ps := []) (pc' := 70) (lv' := [(0, .ref 23), (1, .ref 15), (2, .int (nI w)), (3, .int (nI (vK V w))), (4, .int (nI (vS V w))), (5, .int (bz (qd V w i))), (6, .int (nI (ltN V w i))), (7, .int (nI i)), (8, .int (V 0 (50 * w + i))), (9, .int (ahV V w i))]) (st' := [.int (bz (qd V w i)), .int (V 0 (50 * w + i)), .int (ahV V w i), .int (nI (vK V w))]) (σ' := sr (sr σ 26 (tR (σ 26) V w i)) 27 (pR (σ 27) V w i)) rfl True.intro ?_
          refine rw_callSi hX (as := [.int (nI (vK V w)), .int (ahV V w i), .int (V 0 (50 * w + i)), .int (bz (qd V w i))]) (rest := []) (c_X1_counts _ _ _ (vK V w) (ahV V w i) (V 0 (50 * w + i)) (qd V w i) hk6) (by decide +kernel) msX1_counts (Or.inl lk3_56) rfl (by decide) (Nat.le_of_ble_eq_true rfl) rfl ?_
          intro r1 σ1 hr
          rw [hr.1, hr.2]
          clear hr σ1 r1
          refine rw_if hX (tgt := 124) (cnd := .eq) (off := 51) (by decide +kernel) (by decide) (fun h73 => ?_) (fun h73 => ?_)
          · replace h73 := zb_eqT h73
            have ht : tl V w i = 0 := by rw [cntK_tellK (b := bhV V w i)] at h73; exact Classical.not_not.mp (of_decide_eq_false h73)
            refine rw_go hX [(124, .iload 8), (126, .bipush 34)] (by decide +kernel) (Ps := []) (pc' := 128) (lv' := [(0, .ref 23), (1, .ref 15), (2, .int (nI w)), (3, .int (nI (vK V w))), (4, .int (nI (vS V w))), (5, .int (bz (qd V w i))), (6, .int (nI (ltN V w i))), (7, .int (nI i)), (8, .int (V 0 (50 * w + i))), (9, .int (ahV V w i))]) (st' := [.int (nI 34), .int (V 0 (50 * w + i))]) (σ' := sr (sr σ 26 (tR (σ 26) V w i)) 27 (pR (σ 27) V w i)) rfl True.intro ?_
            refine rw_icmp hX (tgt := 143) (cnd := .ne) (off := 15) (by decide +kernel) (by decide) (fun h128 => ?_) (fun h128 => ?_)
            · skip
              refine rw_go hX [(143, .iinc 7 1), (146, .goto (-110))] (by decide +kernel) (Ps := []) (pc' := 36) (lv' := [(0, .ref 23), (1, .ref 15), (2, .int (nI w)), (3, .int (nI (vK V w))), (4, .int (nI (vS V w))), (5, .int (bz (qd V w i))), (6, .int (nI (ltN V w i))), (7, .int (nI i + nI 1)), (8, .int (V 0 (50 * w + i))), (9, .int (ahV V w i))]) (st' := []) (σ' := sr (sr σ 26 (tR (σ 26) V w i)) 27 (pR (σ 27) V w i)) rfl True.intro ?_
              refine rw_lsub (ks := [0, 1, 2, 3, 4, 5, 6, 7]) (lv' := [(0, .ref 23), (1, .ref 15), (2, .int (nI w)), (3, .int (nI (vK V w))), (4, .int (nI (vS V w))), (5, .int (bz (qd V w i))), (6, .int (nI (ltN V w i))), (7, .int (nI i + nI 1))]) rfl ?_
              have q := ih36 (vS V w - (i + 1)) (by omega) (i + 1) rfl (by omega)
              rw [ltN_0 ht, tR_0 ht, pR_0 ht] at q
              rw [nI_add]
              rw [qd_n h128] at q
              exact q
            · skip
              refine rw_go hX [(131, .iload 5)] (by decide +kernel) (Ps := []) (pc' := 133) (lv' := [(0, .ref 23), (1, .ref 15), (2, .int (nI w)), (3, .int (nI (vK V w))), (4, .int (nI (vS V w))), (5, .int (bz (qd V w i))), (6, .int (nI (ltN V w i))), (7, .int (nI i)), (8, .int (V 0 (50 * w + i))), (9, .int (ahV V w i))]) (st' := [.int (bz (qd V w i))]) (σ' := sr (sr σ 26 (tR (σ 26) V w i)) 27 (pR (σ 27) V w i)) rfl True.intro ?_
              refine rw_if hX (tgt := 140) (cnd := .ne) (off := 7) (by decide +kernel) (by decide) (fun h133 => ?_) (fun h133 => ?_)
              · replace h133 := zb_neT h133
                refine rw_go hX [(140, .iconst 0), (141, .istore 5), (143, .iinc 7 1), (146, .goto (-110))] (by decide +kernel) (Ps := []) (pc' := 36) (lv' := [(0, .ref 23), (1, .ref 15), (2, .int (nI w)), (3, .int (nI (vK V w))), (4, .int (nI (vS V w))), (5, .int (nI 0)), (6, .int (nI (ltN V w i))), (7, .int (nI i + nI 1)), (8, .int (V 0 (50 * w + i))), (9, .int (ahV V w i))]) (st' := []) (σ' := sr (sr σ 26 (tR (σ 26) V w i)) 27 (pR (σ 27) V w i)) rfl True.intro ?_
                refine rw_lsub (ks := [0, 1, 2, 3, 4, 5, 6, 7]) (lv' := [(0, .ref 23), (1, .ref 15), (2, .int (nI w)), (3, .int (nI (vK V w))), (4, .int (nI (vS V w))), (5, .int (nI 0)), (6, .int (nI (ltN V w i))), (7, .int (nI i + nI 1))]) rfl ?_
                have q := ih36 (vS V w - (i + 1)) (by omega) (i + 1) rfl (by omega)
                rw [ltN_0 ht, tR_0 ht, pR_0 ht] at q
                rw [nI_add]
                rw [qd_e (Classical.not_not.mp h128), h133] at q
                exact q
              · replace h133 := zb_neF h133
                refine rw_go hX [(136, .iconst 1), (137, .goto 4), (141, .istore 5), (143, .iinc 7 1), (146, .goto (-110))] (by decide +kernel) (Ps := []) (pc' := 36) (lv' := [(0, .ref 23), (1, .ref 15), (2, .int (nI w)), (3, .int (nI (vK V w))), (4, .int (nI (vS V w))), (5, .int (nI 1)), (6, .int (nI (ltN V w i))), (7, .int (nI i + nI 1)), (8, .int (V 0 (50 * w + i))), (9, .int (ahV V w i))]) (st' := []) (σ' := sr (sr σ 26 (tR (σ 26) V w i)) 27 (pR (σ 27) V w i)) rfl True.intro ?_
                refine rw_lsub (ks := [0, 1, 2, 3, 4, 5, 6, 7]) (lv' := [(0, .ref 23), (1, .ref 15), (2, .int (nI w)), (3, .int (nI (vK V w))), (4, .int (nI (vS V w))), (5, .int (nI 1)), (6, .int (nI (ltN V w i))), (7, .int (nI i + nI 1))]) rfl ?_
                have q := ih36 (vS V w - (i + 1)) (by omega) (i + 1) rfl (by omega)
                rw [ltN_0 ht, tR_0 ht, pR_0 ht] at q
                rw [nI_add]
                rw [qd_e (Classical.not_not.mp h128), h133] at q
                exact q
          · replace h73 := zb_eqF h73
            have ht : tl V w i ≠ 0 := by have h9 := h73; rw [cntK_tellK (b := bhV V w i)] at h9; exact of_decide_eq_true h9
            refine rw_go hX [(76, .aload_n 0), (77, .getfield 18), (80, .iload_n 2), (81, .iload 6)] (by decide +kernel) (Ps := []) (pc' := 83) (lv' := [(0, .ref 23), (1, .ref 15), (2, .int (nI w)), (3, .int (nI (vK V w))), (4, .int (nI (vS V w))), (5, .int (bz (qd V w i))), (6, .int (nI (ltN V w i))), (7, .int (nI i)), (8, .int (V 0 (50 * w + i))), (9, .int (ahV V w i))]) (st' := [.int (nI (ltN V w i)), .int (nI w), .ref 26]) (σ' := sr (sr σ 26 (tR (σ 26) V w i)) 27 (pR (σ 27) V w i)) rfl True.intro ?_
            refine rw_callSi hX (as := [.int (nI w), .int (nI (ltN V w i))]) (rest := [.ref 26]) (c_cellOf _ _ _ w (ltN V w i) hw (by omega)) (by decide +kernel) msX9_cellOf (Or.inr lk3_62) rfl (by decide) (Nat.le_of_ble_eq_true rfl) rfl ?_
            intro r1 σ1 hr
            rw [hr.1, hr.2]
            clear hr σ1 r1
            refine rw_go hX [(86, .iload_n 3), (87, .iload 9), (89, .iload 8), (91, .aload_n 1), (92, .iload_n 2), (93, .iload 7), (95, .iconst 1), (96, .iadd)] (by decide +kernel) (Ps := []) (pc' := 97) (lv' := [(0, .ref 23), (1, .ref 15), (2, .int (nI w)), (3, .int (nI (vK V w))), (4, .int (nI (vS V w))), (5, .int (bz (qd V w i))), (6, .int (nI (ltN V w i))), (7, .int (nI i)), (8, .int (V 0 (50 * w + i))), (9, .int (ahV V w i))]) (st' := [.int (nI i + nI 1), .int (nI w), .ref 15, .int (V 0 (50 * w + i)), .int (ahV V w i), .int (nI (vK V w)), .int (nI (50 * w + ltN V w i)), .ref 26]) (σ' := sr (sr σ 26 (tR (σ 26) V w i)) 27 (pR (σ 27) V w i)) rfl True.intro ?_
            refine rw_callVi hX (as := [.int (nI w), .int (nI i + nI 1)]) (rest := [.int (V 0 (50 * w + i)), .int (ahV V w i), .int (nI (vK V w)), .int (nI (50 * w + ltN V w i)), .ref 26]) (c_byteAtB _ _ _ 15 (Or.inr (Or.inr rfl)) V hv2 hv w i hw h40) (by decide +kernel) mvX5_byteAt lk3_53 (ci := 4) rfl rfl rfl (by decide) (Nat.le_of_ble_eq_true rfl) rfl ?_
            intro r1 σ1 hr
            rw [hr.1, hr.2]
            clear hr σ1 r1
            refine rw_callSi hX (as := [.int (nI (vK V w)), .int (ahV V w i), .int (V 0 (50 * w + i)), .int (bhV V w i)]) (rest := [.int (nI (50 * w + ltN V w i)), .ref 26]) (c_X1_toldAs _ _ _ (vK V w) (ahV V w i) (V 0 (50 * w + i)) (bhV V w i) (qd V w i) hk6 h73) (by decide +kernel) msX1_toldAs (Or.inl lk3_65) rfl (by decide) (Nat.le_of_ble_eq_true rfl) rfl ?_
            intro r1 σ1 hr
            rw [hr.1, show r1 = tl V w i from hr.2]
            clear hr σ1 r1
            refine rw_callSv hX (as := [.ref 26, .int (nI (50 * w + ltN V w i)), .int (tl V w i)]) (rest := []) (c_place _ _ _ 26 250 (50 * w + ltN V w i) (tl V w i) (by decide +kernel) (by omega) (by omega)) (by decide +kernel) msX9_place (Or.inr lk3_69) rfl (by decide) (Nat.le_of_ble_eq_true rfl) rfl ?_
            intro σ1 hr
            rw [hr]
            clear hr σ1
            refine rw_go hX [(106, .aload_n 0), (107, .getfield 21), (110, .iload_n 2), (111, .iload 6)] (by decide +kernel) (Ps := []) (pc' := 113) (lv' := [(0, .ref 23), (1, .ref 15), (2, .int (nI w)), (3, .int (nI (vK V w))), (4, .int (nI (vS V w))), (5, .int (bz (qd V w i))), (6, .int (nI (ltN V w i))), (7, .int (nI i)), (8, .int (V 0 (50 * w + i))), (9, .int (ahV V w i))]) (st' := [.int (nI (ltN V w i)), .int (nI w), .ref 27]) (σ' := sw (sr (sr σ 26 (tR (σ 26) V w i)) 27 (pR (σ 27) V w i)) 26 (50 * w + ltN V w i) (tl V w i)) rfl True.intro ?_
            refine rw_callSi hX (as := [.int (nI w), .int (nI (ltN V w i))]) (rest := [.ref 27]) (c_cellOf _ _ _ w (ltN V w i) hw (by omega)) (by decide +kernel) msX9_cellOf (Or.inr lk3_62) rfl (by decide) (Nat.le_of_ble_eq_true rfl) rfl ?_
            intro r1 σ1 hr
            rw [hr.1, hr.2]
            clear hr σ1 r1
            refine rw_go hX [(116, .iload 7)] (by decide +kernel) (Ps := []) (pc' := 118) (lv' := [(0, .ref 23), (1, .ref 15), (2, .int (nI w)), (3, .int (nI (vK V w))), (4, .int (nI (vS V w))), (5, .int (bz (qd V w i))), (6, .int (nI (ltN V w i))), (7, .int (nI i)), (8, .int (V 0 (50 * w + i))), (9, .int (ahV V w i))]) (st' := [.int (nI i), .int (nI (50 * w + ltN V w i)), .ref 27]) (σ' := sw (sr (sr σ 26 (tR (σ 26) V w i)) 27 (pR (σ 27) V w i)) 26 (50 * w + ltN V w i) (tl V w i)) rfl True.intro ?_
            refine rw_callSv hX (as := [.ref 27, .int (nI (50 * w + ltN V w i)), .int (nI i)]) (rest := []) (c_place _ _ _ 27 250 (50 * w + ltN V w i) (nI i) (by decide +kernel) (by omega) (by omega)) (by decide +kernel) msX9_place (Or.inr lk3_69) rfl (by decide) (Nat.le_of_ble_eq_true rfl) rfl ?_
            intro σ1 hr
            rw [hr]
            clear hr σ1
            refine rw_go hX [(121, .iinc 6 1), (124, .iload 8), (126, .bipush 34)] (by decide +kernel) (Ps := []) (pc' := 128) (lv' := [(0, .ref 23), (1, .ref 15), (2, .int (nI w)), (3, .int (nI (vK V w))), (4, .int (nI (vS V w))), (5, .int (bz (qd V w i))), (6, .int (nI (ltN V w i) + nI 1)), (7, .int (nI i)), (8, .int (V 0 (50 * w + i))), (9, .int (ahV V w i))]) (st' := [.int (nI 34), .int (V 0 (50 * w + i))]) (σ' := sw (sw (sr (sr σ 26 (tR (σ 26) V w i)) 27 (pR (σ 27) V w i)) 26 (50 * w + ltN V w i) (tl V w i)) 27 (50 * w + ltN V w i) (nI i)) rfl True.intro ?_
            refine rw_icmp hX (tgt := 143) (cnd := .ne) (off := 15) (by decide +kernel) (by decide) (fun h128 => ?_) (fun h128 => ?_)
            · skip
              refine rw_go hX [(143, .iinc 7 1), (146, .goto (-110))] (by decide +kernel) (Ps := []) (pc' := 36) (lv' := [(0, .ref 23), (1, .ref 15), (2, .int (nI w)), (3, .int (nI (vK V w))), (4, .int (nI (vS V w))), (5, .int (bz (qd V w i))), (6, .int (nI (ltN V w i) + nI 1)), (7, .int (nI i + nI 1)), (8, .int (V 0 (50 * w + i))), (9, .int (ahV V w i))]) (st' := []) (σ' := sw (sw (sr (sr σ 26 (tR (σ 26) V w i)) 27 (pR (σ 27) V w i)) 26 (50 * w + ltN V w i) (tl V w i)) 27 (50 * w + ltN V w i) (nI i)) rfl True.intro ?_
              refine rw_lsub (ks := [0, 1, 2, 3, 4, 5, 6, 7]) (lv' := [(0, .ref 23), (1, .ref 15), (2, .int (nI w)), (3, .int (nI (vK V w))), (4, .int (nI (vS V w))), (5, .int (bz (qd V w i))), (6, .int (nI (ltN V w i) + nI 1)), (7, .int (nI i + nI 1))]) rfl ?_
              have q := ih36 (vS V w - (i + 1)) (by omega) (i + 1) rfl (by omega)
              rw [ltN_1 ht, tR_1 ht, pR_1 ht] at q
              rw [sw_sr2 _ _ _ _ _ (by decide), sw_sr, nI_add, nI_add]
              rw [qd_n h128] at q
              exact q
            · skip
              refine rw_go hX [(131, .iload 5)] (by decide +kernel) (Ps := []) (pc' := 133) (lv' := [(0, .ref 23), (1, .ref 15), (2, .int (nI w)), (3, .int (nI (vK V w))), (4, .int (nI (vS V w))), (5, .int (bz (qd V w i))), (6, .int (nI (ltN V w i) + nI 1)), (7, .int (nI i)), (8, .int (V 0 (50 * w + i))), (9, .int (ahV V w i))]) (st' := [.int (bz (qd V w i))]) (σ' := sw (sw (sr (sr σ 26 (tR (σ 26) V w i)) 27 (pR (σ 27) V w i)) 26 (50 * w + ltN V w i) (tl V w i)) 27 (50 * w + ltN V w i) (nI i)) rfl True.intro ?_
              refine rw_if hX (tgt := 140) (cnd := .ne) (off := 7) (by decide +kernel) (by decide) (fun h133 => ?_) (fun h133 => ?_)
              · replace h133 := zb_neT h133
                refine rw_go hX [(140, .iconst 0), (141, .istore 5), (143, .iinc 7 1), (146, .goto (-110))] (by decide +kernel) (Ps := []) (pc' := 36) (lv' := [(0, .ref 23), (1, .ref 15), (2, .int (nI w)), (3, .int (nI (vK V w))), (4, .int (nI (vS V w))), (5, .int (nI 0)), (6, .int (nI (ltN V w i) + nI 1)), (7, .int (nI i + nI 1)), (8, .int (V 0 (50 * w + i))), (9, .int (ahV V w i))]) (st' := []) (σ' := sw (sw (sr (sr σ 26 (tR (σ 26) V w i)) 27 (pR (σ 27) V w i)) 26 (50 * w + ltN V w i) (tl V w i)) 27 (50 * w + ltN V w i) (nI i)) rfl True.intro ?_
                refine rw_lsub (ks := [0, 1, 2, 3, 4, 5, 6, 7]) (lv' := [(0, .ref 23), (1, .ref 15), (2, .int (nI w)), (3, .int (nI (vK V w))), (4, .int (nI (vS V w))), (5, .int (nI 0)), (6, .int (nI (ltN V w i) + nI 1)), (7, .int (nI i + nI 1))]) rfl ?_
                have q := ih36 (vS V w - (i + 1)) (by omega) (i + 1) rfl (by omega)
                rw [ltN_1 ht, tR_1 ht, pR_1 ht] at q
                rw [sw_sr2 _ _ _ _ _ (by decide), sw_sr, nI_add, nI_add]
                rw [qd_e (Classical.not_not.mp h128), h133] at q
                exact q
              · replace h133 := zb_neF h133
                refine rw_go hX [(136, .iconst 1), (137, .goto 4), (141, .istore 5), (143, .iinc 7 1), (146, .goto (-110))] (by decide +kernel) (Ps := []) (pc' := 36) (lv' := [(0, .ref 23), (1, .ref 15), (2, .int (nI w)), (3, .int (nI (vK V w))), (4, .int (nI (vS V w))), (5, .int (nI 1)), (6, .int (nI (ltN V w i) + nI 1)), (7, .int (nI i + nI 1)), (8, .int (V 0 (50 * w + i))), (9, .int (ahV V w i))]) (st' := []) (σ' := sw (sw (sr (sr σ 26 (tR (σ 26) V w i)) 27 (pR (σ 27) V w i)) 26 (50 * w + ltN V w i) (tl V w i)) 27 (50 * w + ltN V w i) (nI i)) rfl True.intro ?_
                refine rw_lsub (ks := [0, 1, 2, 3, 4, 5, 6, 7]) (lv' := [(0, .ref 23), (1, .ref 15), (2, .int (nI w)), (3, .int (nI (vK V w))), (4, .int (nI (vS V w))), (5, .int (nI 1)), (6, .int (nI (ltN V w i) + nI 1)), (7, .int (nI i + nI 1))]) rfl ?_
                have q := ih36 (vS V w - (i + 1)) (by omega) (i + 1) rfl (by omega)
                rw [ltN_1 ht, tR_1 ht, pR_1 ht] at q
                rw [sw_sr2 _ _ _ _ _ (by decide), sw_sr, nI_add, nI_add]
                rw [qd_e (Classical.not_not.mp h128), h133] at q
                exact q
    refine rw_lsub (ks := [0, 1, 2, 3, 4, 5, 6, 7]) (lv' := [(0, .ref 23), (1, .ref 15), (2, .int (nI w)), (3, .int (nI (vK V w))), (4, .int (nI (vS V w))), (5, .int (nI 0)), (6, .int (nI 0)), (7, .int (nI 0))]) rfl ?_
    have q := L36 (vS V w) 0 (by omega) (by omega)
    simp only [tR, pR, sr_id] at q
    exact q
  · exact absurd (by simp only [cz, cc2]; decide +kernel) h4
theorem c_readLetters (l : Launch) (G : Gl) (σ : Mm) (o : Nat) (ho : isO o) (V : Mm) (w : Nat) (hV : vw σ (o + 1) = V) (hv : wf V) (hw : w < 5) : AMv l G 3 mX3_readLetters [.ref 23, .ref (o), .int (nI w)] σ (fun σ' => σ' = rdL 26 27 24 V w σ) := by
  rcases ho with rfl | rfl | rfl
  · exact c_readLetters_1 l G σ V w hV hv hw
  · exact c_readLetters_8 l G σ V w hV hv hw
  · exact c_readLetters_15 l G σ V w hV hv hw
