set_option maxRecDepth 20000 in
set_option maxHeartbeats 4000000 in
theorem c_divide (l : Launch) (G : Gl) (σ : Mm) (L ls : Nat) (lg : Nat → Nat) (x s : Nat → Option Nat) (hL : σ 53 2 = nI L) (hL5 : L ≤ 50) (hls : ls ≤ 50) (hl : ∀ i, i < L → σ 54 i = nI (lg i) ∧ lg i ≤ 50 ∧ σ 55 i = en (x i)) (hs5 : ∀ i w, s i = some w → w < 5) (hs : ∀ i, i < L → s i = if ls ≤ lg i then x i else none) : AMv l G 2 mX7_divide [.ref 53, .int (nI ls)] σ (fun σ' => σ' = dvS s L σ) := by
  refine rw_inV 7 (by decide +kernel) rfl rfl ?_
  intro E hE hX
  subst hE
  refine rw_go hX [(0, .iconst (-1)), (1, .istore_n 2), (2, .aload_n 0), (3, .iconst 0), (4, .putfield 9), (7, .aload_n 0), (8, .iconst 0), (9, .putfield 15), (12, .aload_n 0), (13, .getfield 37), (16, .iconst 0)] (by decide +kernel) (Ps := []) (pc' := 17) (lv' := [(0, .ref 53), (1, .int (nI ls)), (2, .int (-(nI 1)))]) (st' := [.int (nI 0), .ref 59]) (σ' := sw (sw σ 53 0 (nI 0)) 53 1 (nI 0)) rfl True.intro ?_
  refine rw_callSv hX (as := [.ref 59, .int (nI 0)]) (rest := []) (c_J7_fill_53178 _ _ _ 59 5 (nI 0) (by decide +kernel) (by omega)) (by decide +kernel) msJ7_fill_53178 (Or.inl lk7_46) rfl (by decide) (Nat.le_of_ble_eq_true rfl) rfl ?_
  intro σ1 hr
  rw [hr]
  clear hr σ1
  refine rw_go hX [(20, .iconst 0), (21, .istore_n 3)] (by decide +kernel) (Ps := []) (pc' := 22) (lv' := [(0, .ref 53), (1, .int (nI ls)), (2, .int (-(nI 1))), (3, .int (nI 0))]) (st' := []) (σ' := sr (sw (sw σ 53 0 (nI 0)) 53 1 (nI 0)) 59 (fl ((sw (sw σ 53 0 (nI 0)) 53 1 (nI 0)) 59) 0 5 (nI 0))) rfl True.intro ?_
  have L22 : ∀ (μ22 : Nat) (i : Nat), μ22 = L - i → (i ≤ L) → RW E G 2 5 (QV E G (fun σ' => σ' = dvS s L σ)) 22 [(0, .ref 53), (1, .int (nI ls)), (2, .int (en (ahd s i))), (3, .int (nI i))] [] (dvS s i σ) := by
    intro μ22
    induction μ22 using Nat.strongRecOn with
    | ind μ22 ih22 =>
      intro i hμ22 hi
      have hf := dvS_f s σ hs5 i
      have hsp := spN_le s i
      have hcv := cvN_le s i
      refine rw_go hX [(22, .iload_n 3), (23, .aload_n 0), (24, .getfield 18)] (by decide +kernel) (Ps := []) (pc' := 27) (lv' := [(0, .ref 53), (1, .int (nI ls)), (2, .int (en (ahd s i))), (3, .int (nI i))]) (st' := [.int ((dvS s i σ) 53 2), .int (nI i)]) (σ' := dvS s i σ) rfl True.intro ?_
      rw [show ((dvS s i σ) 53 2) = nI L from (by rw [hf.1.2.2, hL])]
      refine rw_icmp hX (tgt := 94) (cnd := .ge) (off := 67) (by decide +kernel) (by decide) (fun h27 => ?_) (fun h27 => ?_)
      · replace h27 := c2_geT h27
        have e : i = L := by omega
        exact rw_vret hX (by decide +kernel) (by rw [e])
      · replace h27 := c2_geF h27
        have hli := hl i h27
        have h54 : dvS s i σ 54 i = nI (lg i) := (congrFun (hf.2.2 54 (by decide)) i).trans hli.1
        have h55 : dvS s i σ 55 i = en (x i) := (congrFun (hf.2.2 55 (by decide)) i).trans hli.2.2
        refine rw_go hX [(30, .aload_n 0), (31, .iload_n 3), (32, .iload_n 1)] (by decide +kernel) (Ps := []) (pc' := 33) (lv' := [(0, .ref 53), (1, .int (nI ls)), (2, .int (en (ahd s i))), (3, .int (nI i))]) (st' := [.int (nI ls), .int (nI i), .ref 53]) (σ' := dvS s i σ) rfl True.intro ?_
        refine rw_callVi hX (as := [.int (nI i), .int (nI ls)]) (rest := []) (c_sourceAt _ _ _ i L (lg i) ls (by omega) (hf.1.2.2.trans hL) hL5 h54 hli.2.1 hls) (by decide +kernel) mvX7_sourceAt lk7_73 (ci := 6) rfl rfl rfl (by decide) (Nat.le_of_ble_eq_true rfl) rfl ?_
        intro r1 σ1 hr
        rw [hr.1, show r1 = en (s i) from hr.2.trans (by
          rw [hs i h27, h55]
          by_cases g : ls ≤ lg i
          · rw [if_pos g, if_pos ⟨h27, g⟩]
          · rw [if_neg g, if_neg (fun z => g z.2)]; rfl)]
        clear hr σ1 r1
        refine rw_go hX [(36, .istore 4), (38, .iload 4)] (by decide +kernel) (Ps := []) (pc' := 40) (lv' := [(0, .ref 53), (1, .int (nI ls)), (2, .int (en (ahd s i))), (3, .int (nI i)), (4, .int (en (s i)))]) (st' := [.int (en (s i))]) (σ' := dvS s i σ) rfl True.intro ?_
        refine rw_callSi hX (as := [.int (en (s i))]) (rest := []) (c_X9_isWork _ _ _ (en (s i))) (by decide +kernel) msX9_isWork (Or.inr lk7_76) rfl (by decide) (Nat.le_of_ble_eq_true rfl) rfl ?_
        intro r1 σ1 hr
        rw [hr.1, show r1 = bz ((s i).isSome) from hr.2.trans (by rw [isW_en (hs5 i)])]
        clear hr σ1 r1
        refine rw_if hX (tgt := 85) (cnd := .eq) (off := 42) (by decide +kernel) (by decide) (fun h43 => ?_) (fun h43 => ?_)
        · replace h43 := zb_eqT h43
          have hsi : s i = none := by
            cases hz : s i with
            | none => rfl
            | some w => rw [hz] at h43; cases h43
          refine rw_go hX [(85, .iload 4), (87, .istore_n 2), (88, .iinc 3 1), (91, .goto (-69))] (by decide +kernel) (Ps := []) (pc' := 22) (lv' := [(0, .ref 53), (1, .int (nI ls)), (2, .int (en (s i))), (3, .int (nI i + nI 1)), (4, .int (en (s i)))]) (st' := []) (σ' := dvS s i σ) rfl True.intro ?_
          refine rw_lsub (ks := [0, 1, 2, 3]) (lv' := [(0, .ref 53), (1, .int (nI ls)), (2, .int (en (s i))), (3, .int (nI i + nI 1))]) rfl ?_
          have q := ih22 (L - (i + 1)) (by omega) (i + 1) rfl (by omega)
          rw [dvS_n σ hsi] at q
          rw [nI_add]
          exact q
        · replace h43 := zb_eqF h43
          obtain ⟨w, hsi⟩ : ∃ w, s i = some w := by
            cases hz : s i with
            | none => rw [hz] at h43; cases h43
            | some w => exact ⟨w, rfl⟩
          have hw5 := hs5 i w hsi
          have hty := tyN_le s w i
          rw [show en (s i) = nI w from by rw [hsi]; rfl]
          refine rw_go hX [(46, .aload_n 0), (47, .dup), (48, .getfield 15)] (by decide +kernel) (Ps := []) (pc' := 51) (lv' := [(0, .ref 53), (1, .int (nI ls)), (2, .int (en (ahd s i))), (3, .int (nI i)), (4, .int (nI w))]) (st' := [.int ((dvS s i σ) 53 1), .ref 53]) (σ' := dvS s i σ) rfl True.intro ?_
          rw [show ((dvS s i σ) 53 1) = nI (cvN s i) from (by rw [hf.1.2.1])]
          refine rw_go hX [(51, .iconst 1), (52, .iadd)] (by decide +kernel) (Ps := []) (pc' := 53) (lv' := [(0, .ref 53), (1, .int (nI ls)), (2, .int (en (ahd s i))), (3, .int (nI i)), (4, .int (nI w))]) (st' := [.int (nI (cvN s i) + nI 1), .ref 53]) (σ' := dvS s i σ) rfl True.intro ?_
          rw [show (nI (cvN s i) + nI 1) = nI (cvN s i + 1) from nI_add _ _]
          refine rw_go hX [(53, .putfield 15), (56, .aload_n 0), (57, .getfield 37), (60, .iload 4), (62, .dup2), (63, .iaload)] (by decide +kernel) (Ps := [vp_in (nI w) 5]) (pc' := 64) (lv' := [(0, .ref 53), (1, .int (nI ls)), (2, .int (en (ahd s i))), (3, .int (nI i)), (4, .int (nI w))]) (st' := [.int ((sw (dvS s i σ) 53 1 (nI (cvN s i + 1))) 59 (nI w).toNatClampNeg), .int (nI w), .ref 59]) (σ' := sw (dvS s i σ) 53 1 (nI (cvN s i + 1))) rfl (vp_in_nI (by omega) (by omega)) ?_
          rw [show ((sw (dvS s i σ) 53 1 (nI (cvN s i + 1))) 59 (nI w).toNatClampNeg) = nI (tyN s w i) from (by rw [nI_clamp (by omega), sw_ne _ _ _ (by decide), hf.2.1 w hw5])]
          refine rw_go hX [(64, .iconst 1), (65, .iadd)] (by decide +kernel) (Ps := []) (pc' := 66) (lv' := [(0, .ref 53), (1, .int (nI ls)), (2, .int (en (ahd s i))), (3, .int (nI i)), (4, .int (nI w))]) (st' := [.int (nI (tyN s w i) + nI 1), .int (nI w), .ref 59]) (σ' := sw (dvS s i σ) 53 1 (nI (cvN s i + 1))) rfl True.intro ?_
          rw [show (nI (tyN s w i) + nI 1) = nI (tyN s w i + 1) from nI_add _ _]
          refine rw_go hX [(66, .iastore)] (by decide +kernel) (Ps := [vp_in (nI w) 5]) (pc' := 67) (lv' := [(0, .ref 53), (1, .int (nI ls)), (2, .int (en (ahd s i))), (3, .int (nI i)), (4, .int (nI w))]) (st' := []) (σ' := sw (sw (dvS s i σ) 53 1 (nI (cvN s i + 1))) 59 (nI w).toNatClampNeg (nI (tyN s w i + 1))) rfl (vp_in_nI (by omega) (by omega)) ?_
          rw [show (sw (sw (dvS s i σ) 53 1 (nI (cvN s i + 1))) 59 (nI w).toNatClampNeg (nI (tyN s w i + 1))) = sw (sw (dvS s i σ) 53 1 (nI (cvN s i + 1))) 59 w (nI (tyN s w i + 1)) from (by rw [nI_clamp (by omega)])]
          refine rw_go hX [(67, .aload_n 0), (68, .iload_n 3), (69, .iload 4), (71, .iload 4), (73, .iload_n 2)] (by decide +kernel) (Ps := []) (pc' := 74) (lv' := [(0, .ref 53), (1, .int (nI ls)), (2, .int (en (ahd s i))), (3, .int (nI i)), (4, .int (nI w))]) (st' := [.int (en (ahd s i)), .int (nI w), .int (nI w), .int (nI i), .ref 53]) (σ' := sw (sw (dvS s i σ) 53 1 (nI (cvN s i + 1))) 59 w (nI (tyN s w i + 1))) rfl True.intro ?_
          refine rw_icmp hX (tgt := 81) (cnd := .ne) (off := 7) (by decide +kernel) (by decide) (fun h74 => ?_) (fun h74 => ?_)
          · replace h74 : (nI w ≠ en (ahd s i)) := h74
            have hgs : gs s i = false := decide_eq_false (fun z => h74 (by rw [← z, hsi]; rfl))
            refine rw_go hX [(81, .iconst 0)] (by decide +kernel) (Ps := []) (pc' := 82) (lv' := [(0, .ref 53), (1, .int (nI ls)), (2, .int (en (ahd s i))), (3, .int (nI i)), (4, .int (nI w))]) (st' := [.int (nI 0), .int (nI w), .int (nI i), .ref 53]) (σ' := sw (sw (dvS s i σ) 53 1 (nI (cvN s i + 1))) 59 w (nI (tyN s w i + 1))) rfl True.intro ?_
            refine rw_callVv hX (as := [.int (nI i), .int (nI w), .int (nI 0)]) (rest := []) (c_extend _ _ _ i (spN s i) (nI w) false (by rw [sw_ne _ _ _ (by decide), show sw (dvS s i σ) 53 1 (nI (cvN s i + 1)) 53 0 = dvS s i σ 53 0 from by simp [sw, sr, upd]]; exact hf.1.1) (by omega) (fun z => by cases z) (by omega) (fun _ => by omega)) (by decide +kernel) mvX7_extend lk7_80 (ci := 6) rfl rfl rfl (by decide) (Nat.le_of_ble_eq_true rfl) rfl ?_
            intro σ1 hr
            rw [hr]
            clear hr σ1
            refine rw_go hX [(85, .iload 4), (87, .istore_n 2), (88, .iinc 3 1), (91, .goto (-69))] (by decide +kernel) (Ps := []) (pc' := 22) (lv' := [(0, .ref 53), (1, .int (nI ls)), (2, .int (nI w)), (3, .int (nI i + nI 1)), (4, .int (nI w))]) (st' := []) (σ' := spE (spN s i) i (nI w) false (sw (sw (dvS s i σ) 53 1 (nI (cvN s i + 1))) 59 w (nI (tyN s w i + 1)))) rfl True.intro ?_
            refine rw_lsub (ks := [0, 1, 2, 3]) (lv' := [(0, .ref 53), (1, .int (nI ls)), (2, .int (nI w)), (3, .int (nI i + nI 1))]) rfl ?_
            have q := ih22 (L - (i + 1)) (by omega) (i + 1) rfl (by omega)
            rw [dvS_y σ hsi, show en (ahd s (i + 1)) = nI w from by show en (s i) = nI w; rw [hsi]; rfl] at q
            unfold dv1 at q
            rw [hgs] at q
            rw [nI_add]
            exact q
          · replace h74 : ¬ (nI w ≠ en (ahd s i)) := h74
            have hgs : gs s i = true := decide_eq_true (by
              have h9 : nI w = en (ahd s i) := Classical.not_not.mp h74
              cases hz : ahd s i with
              | none =>
                rw [hz] at h9
                have h8 := nI_pos' (n := w) (by omega)
                rw [h9] at h8
                exact absurd h8 (by decide +kernel)
              | some v =>
                rw [hz] at h9
                have hv5 : v < 5 := by
                  cases i with
                  | zero => cases hz
                  | succ i => exact hs5 i v hz
                rw [hsi, nI_inj5 hw5 hv5 h9])
            refine rw_go hX [(77, .iconst 1), (78, .goto 4)] (by decide +kernel) (Ps := []) (pc' := 82) (lv' := [(0, .ref 53), (1, .int (nI ls)), (2, .int (en (ahd s i))), (3, .int (nI i)), (4, .int (nI w))]) (st' := [.int (nI 1), .int (nI w), .int (nI i), .ref 53]) (σ' := sw (sw (dvS s i σ) 53 1 (nI (cvN s i + 1))) 59 w (nI (tyN s w i + 1))) rfl True.intro ?_
            refine rw_callVv hX (as := [.int (nI i), .int (nI w), .int (nI 1)]) (rest := []) (c_extend _ _ _ i (spN s i) (nI w) true (by rw [sw_ne _ _ _ (by decide), show sw (dvS s i σ) 53 1 (nI (cvN s i + 1)) 53 0 = dvS s i σ 53 0 from by simp [sw, sr, upd]]; exact hf.1.1) (by omega) (fun z => spN_pos i w ((of_decide_eq_true hgs).symm.trans hsi)) (by omega) (fun _ => by omega)) (by decide +kernel) mvX7_extend lk7_80 (ci := 6) rfl rfl rfl (by decide) (Nat.le_of_ble_eq_true rfl) rfl ?_
            intro σ1 hr
            rw [hr]
            clear hr σ1
            refine rw_go hX [(85, .iload 4), (87, .istore_n 2), (88, .iinc 3 1), (91, .goto (-69))] (by decide +kernel) (Ps := []) (pc' := 22) (lv' := [(0, .ref 53), (1, .int (nI ls)), (2, .int (nI w)), (3, .int (nI i + nI 1)), (4, .int (nI w))]) (st' := []) (σ' := spE (spN s i) i (nI w) true (sw (sw (dvS s i σ) 53 1 (nI (cvN s i + 1))) 59 w (nI (tyN s w i + 1)))) rfl True.intro ?_
            refine rw_lsub (ks := [0, 1, 2, 3]) (lv' := [(0, .ref 53), (1, .int (nI ls)), (2, .int (nI w)), (3, .int (nI i + nI 1))]) rfl ?_
            have q := ih22 (L - (i + 1)) (by omega) (i + 1) rfl (by omega)
            rw [dvS_y σ hsi, show en (ahd s (i + 1)) = nI w from by show en (s i) = nI w; rw [hsi]; rfl] at q
            unfold dv1 at q
            rw [hgs] at q
            rw [nI_add]
            exact q
  refine rw_lsub (ks := [0, 1, 2, 3]) (lv' := [(0, .ref 53), (1, .int (nI ls)), (2, .int (-(nI 1))), (3, .int (nI 0))]) rfl ?_
  have q := L22 L 0 rfl (by omega)
  rw [sw_ne _ _ _ (by decide), sw_ne _ _ _ (by decide)]
  exact q
