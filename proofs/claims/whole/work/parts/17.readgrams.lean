set_option maxRecDepth 20000 in
set_option maxHeartbeats 4000000 in
theorem c_readGrams (l : Launch) (G : Gl) (σ : Mm) (w k L : Nat) (hw : w < 5) (hL : σ 24 w = nI L) (hL5 : L ≤ 50) (hk : 1 ≤ k) (hk6 : k ≤ 6) : AMv l G 2 mX3_readGrams [.ref 23, .int (nI w), .int (nI k)] σ (fun σ' => σ' = rdG 26 24 28 25 w k L σ) := by
  refine rw_inV 3 (by decide +kernel) rfl rfl ?_
  intro E hE hX
  subst hE
  refine rw_go hX [(0, .iload_n 1)] (by decide +kernel) (Ps := []) (pc' := 1) (lv' := [(0, .ref 23), (1, .int (nI w)), (2, .int (nI k))]) (st' := [.int (nI w)]) (σ' := σ) rfl True.intro ?_
  refine rw_callSi hX (as := [.int (nI w)]) (rest := []) (c_isWork _ _ _ w hw) (by decide +kernel) msX9_isWork (Or.inr lk3_34) rfl (by decide) (Nat.le_of_ble_eq_true rfl) rfl ?_
  intro r1 σ1 hr
  rw [hr.1, hr.2]
  clear hr σ1 r1
  refine rw_if hX (tgt := 8) (cnd := .ne) (off := 4) (by decide +kernel) (by decide) (fun h4 => ?_) (fun h4 => ?_)
  · skip
    refine rw_go hX [(8, .iconst 0), (9, .aload_n 0), (10, .getfield 9), (13, .iload_n 1), (14, .iaload)] (by decide +kernel) (Ps := [vp_in (nI w) 5]) (pc' := 15) (lv' := [(0, .ref 23), (1, .int (nI w)), (2, .int (nI k))]) (st' := [.int (σ 24 (nI w).toNatClampNeg), .int (nI 0)]) (σ' := σ) rfl (vp_in_nI hw (by omega)) ?_
    rw [show (σ 24 (nI w).toNatClampNeg) = nI L from (by rw [nI_clamp (by omega), hL])]
    refine rw_go hX [(15, .iload_n 2), (16, .isub), (17, .iconst 1), (18, .iadd)] (by decide +kernel) (Ps := []) (pc' := 19) (lv' := [(0, .ref 23), (1, .int (nI w)), (2, .int (nI k))]) (st' := [.int ((nI L - nI k) + nI 1), .int (nI 0)]) (σ' := σ) rfl True.intro ?_
    refine rw_max hX (by decide +kernel) lk3_73 (Nat.le_of_ble_eq_true rfl) ?_
    rw [show (if nI 0 < ((nI L - nI k) + nI 1) then ((nI L - nI k) + nI 1) else nI 0) = nI (L + 1 - k) from gN_max hL5 (by omega)]
    refine rw_go hX [(22, .istore_n 3), (23, .iconst 0), (24, .istore 4)] (by decide +kernel) (Ps := []) (pc' := 26) (lv' := [(0, .ref 23), (1, .int (nI w)), (2, .int (nI k)), (3, .int (nI (L + 1 - k))), (4, .int (nI 0))]) (st' := []) (σ' := σ) rfl True.intro ?_
    have L26 : ∀ (μ26 : Nat) (g : Nat), μ26 = L + 1 - k - g → (g ≤ L + 1 - k) → RW E G 2 7 (QV E G (fun σ' => σ' = rdG 26 24 28 25 w k L σ)) 26 [(0, .ref 23), (1, .int (nI w)), (2, .int (nI k)), (3, .int (nI (L + 1 - k))), (4, .int (nI g))] [] (sr σ 28 (mR (σ 28) (σ 26) w k g)) := by
      intro μ26
      induction μ26 using Nat.strongRecOn with
      | ind μ26 ih26 =>
        intro g hμ26 hg
        refine rw_go hX [(26, .iload 4), (28, .iload_n 3)] (by decide +kernel) (Ps := []) (pc' := 29) (lv' := [(0, .ref 23), (1, .int (nI w)), (2, .int (nI k)), (3, .int (nI (L + 1 - k))), (4, .int (nI g))]) (st' := [.int (nI (L + 1 - k)), .int (nI g)]) (σ' := sr σ 28 (mR (σ 28) (σ 26) w k g)) rfl True.intro ?_
        refine rw_icmp hX (tgt := 89) (cnd := .ge) (off := 60) (by decide +kernel) (by decide) (fun h29 => ?_) (fun h29 => ?_)
        · replace h29 := c2_geT h29
          have e : g = L + 1 - k := by omega
          refine rw_go hX [(89, .aload_n 0), (90, .getfield 15), (93, .iload_n 1), (94, .iload_n 3), (95, .iastore)] (by decide +kernel) (Ps := [vp_in (nI w) 5]) (pc' := 96) (lv' := [(0, .ref 23), (1, .int (nI w)), (2, .int (nI k)), (3, .int (nI (L + 1 - k))), (4, .int (nI g))]) (st' := []) (σ' := sw (sr σ 28 (mR (σ 28) (σ 26) w k g)) 25 (nI w).toNatClampNeg (nI (L + 1 - k))) rfl (vp_in_nI hw (by omega)) ?_
          exact rw_vret hX (by decide +kernel) (by rw [e, nI_clamp (by omega), sw_def, sr_n _ _ (by decide)]; rfl)
        · replace h29 := c2_geF h29
          refine rw_go hX [(32, .iconst 0), (33, .istore 5), (35, .iconst 0), (36, .istore 6)] (by decide +kernel) (Ps := []) (pc' := 38) (lv' := [(0, .ref 23), (1, .int (nI w)), (2, .int (nI k)), (3, .int (nI (L + 1 - k))), (4, .int (nI g)), (5, .int (nI 0)), (6, .int (nI 0))]) (st' := []) (σ' := sr σ 28 (mR (σ 28) (σ 26) w k g)) rfl True.intro ?_
          have L38 : ∀ (μ38 : Nat) (t : Nat), μ38 = k - t → (t ≤ k) → RW E G 2 7 (QV E G (fun σ' => σ' = rdG 26 24 28 25 w k L σ)) 38 [(0, .ref 23), (1, .int (nI w)), (2, .int (nI k)), (3, .int (nI (L + 1 - k))), (4, .int (nI g)), (5, .int (mkF (σ 26) (50 * w + g) t)), (6, .int (nI t))] [] (sr σ 28 (mR (σ 28) (σ 26) w k g)) := by
            intro μ38
            induction μ38 using Nat.strongRecOn with
            | ind μ38 ih38 =>
              intro t hμ38 ht
              refine rw_go hX [(38, .iload 6), (40, .iload_n 2)] (by decide +kernel) (Ps := []) (pc' := 41) (lv' := [(0, .ref 23), (1, .int (nI w)), (2, .int (nI k)), (3, .int (nI (L + 1 - k))), (4, .int (nI g)), (5, .int (mkF (σ 26) (50 * w + g) t)), (6, .int (nI t))]) (st' := [.int (nI k), .int (nI t)]) (σ' := sr σ 28 (mR (σ 28) (σ 26) w k g)) rfl True.intro ?_
              refine rw_icmp hX (tgt := 68) (cnd := .ge) (off := 27) (by decide +kernel) (by decide) (fun h41 => ?_) (fun h41 => ?_)
              · replace h41 := c2_geT h41
                have e : t = k := by omega
                rw [show (mkF (σ 26) (50 * w + g) t) = mkF (σ 26) (50 * w + g) k from (by rw [e])]
                refine rw_go hX [(68, .aload_n 0), (69, .getfield 24), (72, .iload_n 1), (73, .iload 4)] (by decide +kernel) (Ps := []) (pc' := 75) (lv' := [(0, .ref 23), (1, .int (nI w)), (2, .int (nI k)), (3, .int (nI (L + 1 - k))), (4, .int (nI g)), (5, .int (mkF (σ 26) (50 * w + g) k)), (6, .int (nI t))]) (st' := [.int (nI g), .int (nI w), .ref 28]) (σ' := sr σ 28 (mR (σ 28) (σ 26) w k g)) rfl True.intro ?_
                refine rw_callSi hX (as := [.int (nI w), .int (nI g)]) (rest := [.ref 28]) (c_cellOf _ _ _ w g hw (by omega)) (by decide +kernel) msX9_cellOf (Or.inr lk3_62) rfl (by decide) (Nat.le_of_ble_eq_true rfl) rfl ?_
                intro r1 σ1 hr
                rw [hr.1, hr.2]
                clear hr σ1 r1
                refine rw_go hX [(78, .iload 5)] (by decide +kernel) (Ps := []) (pc' := 80) (lv' := [(0, .ref 23), (1, .int (nI w)), (2, .int (nI k)), (3, .int (nI (L + 1 - k))), (4, .int (nI g)), (5, .int (mkF (σ 26) (50 * w + g) k)), (6, .int (nI t))]) (st' := [.int (mkF (σ 26) (50 * w + g) k), .int (nI (50 * w + g)), .ref 28]) (σ' := sr σ 28 (mR (σ 28) (σ 26) w k g)) rfl True.intro ?_
                refine rw_callSv hX (as := [.ref 28, .int (nI (50 * w + g)), .int (mkF (σ 26) (50 * w + g) k)]) (rest := []) (c_place _ _ _ 28 250 (50 * w + g) _ (by decide +kernel) (by omega) (by omega)) (by decide +kernel) msX9_place (Or.inr lk3_69) rfl (by decide) (Nat.le_of_ble_eq_true rfl) rfl ?_
                intro σ1 hr
                rw [hr]
                clear hr σ1
                refine rw_go hX [(83, .iinc 4 1), (86, .goto (-60))] (by decide +kernel) (Ps := []) (pc' := 26) (lv' := [(0, .ref 23), (1, .int (nI w)), (2, .int (nI k)), (3, .int (nI (L + 1 - k))), (4, .int (nI g + nI 1)), (5, .int (mkF (σ 26) (50 * w + g) k)), (6, .int (nI t))]) (st' := []) (σ' := sw (sr σ 28 (mR (σ 28) (σ 26) w k g)) 28 (50 * w + g) (mkF (σ 26) (50 * w + g) k)) rfl True.intro ?_
                refine rw_lsub (ks := [0, 1, 2, 3, 4]) (lv' := [(0, .ref 23), (1, .int (nI w)), (2, .int (nI k)), (3, .int (nI (L + 1 - k))), (4, .int (nI g + nI 1))]) rfl ?_
                have q := ih26 (L + 1 - k - (g + 1)) (by omega) (g + 1) rfl (by omega)
                rw [mR_1] at q
                rw [nI_add, sw_sr]
                exact q
              · replace h41 := c2_geF h41
                refine rw_go hX [(44, .bipush 31), (46, .iload 5), (48, .imul), (49, .aload_n 0), (50, .iload_n 1), (51, .iload 4), (53, .iload 6), (55, .iadd)] (by decide +kernel) (Ps := []) (pc' := 56) (lv' := [(0, .ref 23), (1, .int (nI w)), (2, .int (nI k)), (3, .int (nI (L + 1 - k))), (4, .int (nI g)), (5, .int (mkF (σ 26) (50 * w + g) t)), (6, .int (nI t))]) (st' := [.int (nI g + nI t), .int (nI w), .ref 23, .int (nI 31 * mkF (σ 26) (50 * w + g) t)]) (σ' := sr σ 28 (mR (σ 28) (σ 26) w k g)) rfl True.intro ?_
                rw [show (nI g + nI t) = nI (g + t) from nI_add g t]
                refine rw_callVi hX (as := [.int (nI w), .int (nI (g + t))]) (rest := [.int (nI 31 * mkF (σ 26) (50 * w + g) t)]) (c_tellAt _ _ _ w (g + t) hw (by omega)) (by decide +kernel) mvX3_tellAt lk3_76 (ci := 2) rfl rfl rfl (by decide) (Nat.le_of_ble_eq_true rfl) rfl ?_
                intro r1 σ1 hr
                rw [hr.1, hr.2]
                clear hr σ1 r1
                refine rw_go hX [(59, .iadd), (60, .istore 5), (62, .iinc 6 1), (65, .goto (-27))] (by decide +kernel) (Ps := []) (pc' := 38) (lv' := [(0, .ref 23), (1, .int (nI w)), (2, .int (nI k)), (3, .int (nI (L + 1 - k))), (4, .int (nI g)), (5, .int ((nI 31 * mkF (σ 26) (50 * w + g) t) + (sr σ 28 (mR (σ 28) (σ 26) w k g)) 26 (50 * w + (g + t)))), (6, .int (nI t + nI 1))]) (st' := []) (σ' := sr σ 28 (mR (σ 28) (σ 26) w k g)) rfl True.intro ?_
                refine rw_lsub (ks := [0, 1, 2, 3, 4, 5, 6]) (lv' := [(0, .ref 23), (1, .int (nI w)), (2, .int (nI k)), (3, .int (nI (L + 1 - k))), (4, .int (nI g)), (5, .int ((nI 31 * mkF (σ 26) (50 * w + g) t) + (sr σ 28 (mR (σ 28) (σ 26) w k g)) 26 (50 * w + (g + t)))), (6, .int (nI t + nI 1))]) rfl ?_
                have q := ih38 (k - (t + 1)) (by omega) (t + 1) rfl (by omega)
                rw [mkF_1] at q
                rw [nI_add, sr_n _ _ (by decide), ← Nat.add_assoc]
                exact q
          refine rw_lsub (ks := [0, 1, 2, 3, 4, 5, 6]) (lv' := [(0, .ref 23), (1, .int (nI w)), (2, .int (nI k)), (3, .int (nI (L + 1 - k))), (4, .int (nI g)), (5, .int (nI 0)), (6, .int (nI 0))]) rfl ?_
          have q := L38 k 0 rfl (by omega)
          rw [show mkF (σ 26) (50 * w + g) 0 = nI 0 from rfl] at q
          exact q
    refine rw_lsub (ks := [0, 1, 2, 3, 4]) (lv' := [(0, .ref 23), (1, .int (nI w)), (2, .int (nI k)), (3, .int (nI (L + 1 - k))), (4, .int (nI 0))]) rfl ?_
    have q := L26 (L + 1 - k) 0 rfl (by omega)
    simp only [mR, sr_id] at q
    exact q
  · exact absurd (by simp only [cz, cc2]; decide +kernel) h4
