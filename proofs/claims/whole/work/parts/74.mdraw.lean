/-! the model: drawn, without, groups -/
theorem drR_out (f : Nat → Int32) (w s : Nat) (z : Int32) {p : Nat} (hw : w < 5) (hs : 1 ≤ s) (hs5 : s ≤ 50) (hp : 250 ≤ p) : ∀ n, drR f w s z n p = f p
  | 0 => rfl
  | n + 1 => by
    have hm1 := Nat.mod_lt (u9 (nz (zs z n))) hs
    rw [← drR_1, upd_n _ _ (by omega)]
    exact drR_out f w s z hw hs hs5 hp n
theorem cpy_in {f g : Nat → Int32} {n p : Nat} (h : p < n) : va_cpy f g 0 0 n p = f p := by
  unfold va_cpy
  rw [if_pos (by omega)]
  congr 1
  omega
theorem cpy_ou {f g : Nat → Int32} {n p : Nat} (h : n ≤ p) : va_cpy f g 0 0 n p = g p := by
  unfold va_cpy
  rw [if_neg (by omega)]
theorem back67 (f g : Nat → Int32) (w s : Nat) (z : Int32) (n : Nat) (hw : w < 5) (hs : 1 ≤ s) (hs5 : s ≤ 50) : va_cpy (va_cpy f g 0 0 250) (drR f w s z n) 0 0 250 = f := by
  funext p
  rcases Nat.lt_or_ge p 250 with q | q
  · rw [cpy_in q, cpy_in q]
  · rw [cpy_ou q, drR_out f w s z hw hs hs5 q]
theorem vR_dr (V : Mm) (w : Nat) (z : Int32) (n j : Nat) : vR (drV V w z n) j = vR V j := rfl
theorem vS_dr (V : Mm) (w : Nat) (z : Int32) (n j : Nat) : vS (drV V w z n) j = vS V j := rfl
theorem dr_vw {σ V : Mm} (hV : vw σ 67 = V) (w : Nat) (z : Int32) (n : Nat) (g : Nat → Int32) : vw (sr (sr σ 91 g) 67 (drR (σ 67) w (vS V w) z n)) 67 = drV V w z n := by
  funext j
  unfold vw
  by_cases h : j < 5
  · rw [if_pos h]
    by_cases e : j = 0
    · subst e
      rw [Nat.add_zero, sr_s]
      show drR (σ 67) w (vS V w) z n = drR (V 0) w (vS V w) z n
      rw [← vw_at hV 0 (by decide)]
    · rw [drV_n V w z n e, sr_n _ _ (by omega), sr_n _ _ (by omega)]
      exact vw_at hV j h
  · have e : ¬ j = 0 := by omega
    rw [if_neg h, drV_n V w z n e, ← hV]
    unfold vw
    rw [if_neg h]
theorem MQu_r {σ τ τ1 : Mm} {g f : Nat → Int32} (hF : FAN (sr (sr σ 91 g) 67 f) τ1) (h : MQu τ1 τ) : MQu σ (sr τ 67 (σ 67)) := by
  have e : ∀ k, k < 75 ∨ 91 < k → k ≠ 67 → τ1 k = σ k := fun k h1 h2 => (hF k (by omega)).trans (by rw [sr_n _ _ h2, sr_n _ _ (by omega)])
  refine ⟨fun k h1 h2 h3 => ?_, ?_, ?_⟩
  · by_cases q : k = 67
    · subst q; rw [sr_s]
    · rw [sr_n _ _ q]; exact (h.1 k h1 h2 h3).trans (e k h1 q)
  · rw [sr_n _ _ (by decide)]; exact h.2.1.trans (congrFun (e 66 (by omega) (by omega)) 6)
  · rw [sr_n _ _ (by decide)]; exact h.2.2.trans (congrFun (e 66 (by omega) (by omega)) 8)
set_option maxRecDepth 20000 in
set_option maxHeartbeats 800000 in
theorem m_drawnBy (l : Launch) (G : Gl) (σ : Mm) (V : Mm) (w n c : Nat) (z : Int32) (hV : vw σ 67 = V) (hv : wf V) (hw : w < 5) (hs1 : 1 ≤ vS V w) (hn : n ≤ 20) (hc : c < 2) : AMi l G 6 mX10_drawnBy [.ref 66, .int (nI w), .int z, .int (nI n), .int (nI c)] σ (fun r σ' => r = nI (shV (drV V w z n) w c) ∧ MQu σ σ') := by
  refine rw_inI 10 (by decide +kernel) rfl rfl ?_
  intro E hE hX
  subst hE
  have hs50 := wf_s50 hv hw
  have hLs := wf_L hv
  have h68 : σ 68 = V 1 := vw_at hV 1 (by omega)
  refine rw_go hX [(0, .iconst 0), (1, .istore 5)] (by decide +kernel) (Ps := []) (pc' := 3) (lv' := [(0, .ref 66), (1, .int (nI w)), (2, .int z), (3, .int (nI n)), (4, .int (nI c)), (5, .int (nI 0))]) (st' := []) (σ' := σ) rfl True.intro ?_
  have L3 : ∀ (μ3 : Nat) (i : Nat), μ3 = 250 - i → (i ≤ 250) → RW E G 6 8 (QI E G (fun r σ' => r = nI (shV (drV V w z n) w c) ∧ MQu σ σ')) 3 [(0, .ref 66), (1, .int (nI w)), (2, .int z), (3, .int (nI n)), (4, .int (nI c)), (5, .int (nI i))] [] (sr σ 91 (va_cpy (σ 67) (σ 91) 0 0 i)) := by
    intro μ3
    induction μ3 using Nat.strongRecOn with
    | ind μ3 ih3 =>
      intro i hμ3 hi
      refine rw_go hX [(3, .iload 5), (5, .sipush 250)] (by decide +kernel) (Ps := []) (pc' := 8) (lv' := [(0, .ref 66), (1, .int (nI w)), (2, .int z), (3, .int (nI n)), (4, .int (nI c)), (5, .int (nI i))]) (st' := [.int (nI 250), .int (nI i)]) (σ' := sr σ 91 (va_cpy (σ 67) (σ 91) 0 0 i)) rfl True.intro ?_
      refine rw_icmp hX (tgt := 31) (cnd := .ge) (off := 23) (by decide +kernel) (by decide) (fun h8 => ?_) (fun h8 => ?_)
      · replace h8 := c2_geT h8
        have ei : i = 250 := by omega
        rw [ei]
        refine rw_go hX [(31, .iload_n 2), (32, .istore 5), (34, .iconst 0), (35, .istore 6)] (by decide +kernel) (Ps := []) (pc' := 37) (lv' := [(0, .ref 66), (1, .int (nI w)), (2, .int z), (3, .int (nI n)), (4, .int (nI c)), (5, .int z), (6, .int (nI 0))]) (st' := []) (σ' := sr σ 91 (va_cpy (σ 67) (σ 91) 0 0 250)) rfl True.intro ?_
        have L37 : ∀ (μ37 : Nat) (i : Nat), μ37 = n - i → (i ≤ n) → RW E G 6 8 (QI E G (fun r σ' => r = nI (shV (drV V w z n) w c) ∧ MQu σ σ')) 37 [(0, .ref 66), (1, .int (nI w)), (2, .int z), (3, .int (nI n)), (4, .int (nI c)), (5, .int (zs z i)), (6, .int (nI i))] [] (sr (sr σ 91 (va_cpy (σ 67) (σ 91) 0 0 250)) 67 (drR (σ 67) w (vS V w) z i)) := by
          intro μ37
          induction μ37 using Nat.strongRecOn with
          | ind μ37 ih37 =>
            intro i hμ37 hin
            refine rw_go hX [(37, .iload 6), (39, .iload_n 3)] (by decide +kernel) (Ps := []) (pc' := 40) (lv' := [(0, .ref 66), (1, .int (nI w)), (2, .int z), (3, .int (nI n)), (4, .int (nI c)), (5, .int (zs z i)), (6, .int (nI i))]) (st' := [.int (nI n), .int (nI i)]) (σ' := sr (sr σ 91 (va_cpy (σ 67) (σ 91) 0 0 250)) 67 (drR (σ 67) w (vS V w) z i)) rfl True.intro ?_
            refine rw_icmp hX (tgt := 110) (cnd := .ge) (off := 70) (by decide +kernel) (by decide) (fun h40 => ?_) (fun h40 => ?_)
            · replace h40 := c2_geT h40
              have e : i = n := by omega
              rw [e]
              refine rw_go hX [(110, .aload_n 0)] (by decide +kernel) (Ps := []) (pc' := 111) (lv' := [(0, .ref 66), (1, .int (nI w)), (2, .int z), (3, .int (nI n)), (4, .int (nI c)), (5, .int (zs z n)), (6, .int (nI n))]) (st' := [.ref 66]) (σ' := sr (sr σ 91 (va_cpy (σ 67) (σ 91) 0 0 250)) 67 (drR (σ 67) w (vS V w) z n)) rfl True.intro ?_
              refine rw_callVv hX (as := []) (rest := []) (m_anew _ _ _ (drV V w z n) (dr_vw hV w z n _) (wf_dr hv w z n)) (by decide +kernel) mvX10_anew lk10_220 (ci := 9) rfl rfl rfl (by decide) (Nat.le_of_ble_eq_true rfl) rfl ?_
              intro τ1 ht1
              obtain ⟨hAN, hFN⟩ := ht1
              have hvW := wf_dr hv w z n
              have hV1 : vw τ1 67 = (drV V w z n) := (vw_of (fun j hj => hFN _ (by omega))).trans (dr_vw hV w z n _)
              have h71 : τ1 71 = V 4 := (vw_at hV1 4 (by omega)).trans (drV_n V w z n (by decide))
              refine rw_go hX [(114, .aload_n 0), (115, .iload_n 1), (116, .aload_n 0), (117, .getfield 22), (120, .iconst 4), (121, .iaload)] (by decide +kernel) (Ps := [vp_in (nI 4) 6]) (pc' := 122) (lv' := [(0, .ref 66), (1, .int (nI w)), (2, .int z), (3, .int (nI n)), (4, .int (nI c)), (5, .int (zs z n)), (6, .int (nI n))]) (st' := [.int (τ1 71 (nI 4).toNatClampNeg), .int (nI w), .ref 66]) (σ' := τ1) rfl (vp_in_nI (by omega) (by omega)) ?_
              rw [show (τ1 71 (nI 4).toNatClampNeg) = nI (vR V 4) from (by rw [nI_clamp (by omega), h71, hLs.1])]
              refine rw_callVv hX (as := [.int (nI w), .int (nI (vR V 4))]) (rest := []) (m_sources9 _ _ _ (drV V w z n) w (vR V 4) hV1 hvW hw hAN (by omega) (by omega)) (by decide +kernel) mvX10_sources lk10_267 (ci := 9) rfl rfl rfl (by decide) (Nat.le_of_ble_eq_true rfl) rfl ?_
              intro τ2 ht2
              obtain ⟨hSr, hAN2, hM9⟩ := ht2
              have h91 : τ2 91 = va_cpy (σ 67) (σ 91) 0 0 250 := hM9.2.trans ((hFN 91 (by omega)).trans (by rw [sr_n _ _ (by decide), sr_s]))
              have h67 : τ2 67 = drR (σ 67) w (vS V w) z n := (hM9.1.1 67 (by omega) (by omega) (by omega)).trans ((hFN 67 (by omega)).trans (by rw [sr_s]))
              have hqz := MQu_r hFN hM9.1
              have hL5 := lC_50 hvW hw
              have hs5 := sT_5 hvW hw (vR V 4)
              have hR := hAN2.1 w hw
              have hR1 : (sr τ2 67 (σ 67)) 77 w = nI (lC (drV V w z n) w) := by rw [sr_n _ _ (by decide)]; exact hR.1.1
              have hS1 : ∀ i, i < 50 → (sr τ2 67 (σ 67)) 88 i = en (sT (drV V w z n) w (vR V 4) i) := fun i hi => by rw [sr_n _ _ (by decide)]; exact hSr i hi
              refine rw_go hX [(125, .iconst 0), (126, .istore 6)] (by decide +kernel) (Ps := []) (pc' := 128) (lv' := [(0, .ref 66), (1, .int (nI w)), (2, .int z), (3, .int (nI n)), (4, .int (nI c)), (5, .int (zs z n)), (6, .int (nI 0))]) (st' := []) (σ' := τ2) rfl True.intro ?_
              have L128 : ∀ (μ128 : Nat) (j : Nat), μ128 = 250 - j → (j ≤ 250) → RW E G 6 8 (QI E G (fun r σ' => r = nI (shV (drV V w z n) w c) ∧ MQu σ σ')) 128 [(0, .ref 66), (1, .int (nI w)), (2, .int z), (3, .int (nI n)), (4, .int (nI c)), (5, .int (zs z n)), (6, .int (nI j))] [] (sr τ2 67 (va_cpy (τ2 91) (τ2 67) 0 0 j)) := by
                intro μ128
                induction μ128 using Nat.strongRecOn with
                | ind μ128 ih128 =>
                  intro j hμ128 hj
                  refine rw_go hX [(128, .iload 6), (130, .sipush 250)] (by decide +kernel) (Ps := []) (pc' := 133) (lv' := [(0, .ref 66), (1, .int (nI w)), (2, .int z), (3, .int (nI n)), (4, .int (nI c)), (5, .int (zs z n)), (6, .int (nI j))]) (st' := [.int (nI 250), .int (nI j)]) (σ' := sr τ2 67 (va_cpy (τ2 91) (τ2 67) 0 0 j)) rfl True.intro ?_
                  refine rw_icmp hX (tgt := 156) (cnd := .ge) (off := 23) (by decide +kernel) (by decide) (fun h133 => ?_) (fun h133 => ?_)
                  · replace h133 := c2_geT h133
                    have ej : j = 250 := by omega
                    rw [show sr τ2 67 (va_cpy (τ2 91) (τ2 67) 0 0 j) = sr τ2 67 (σ 67) from by rw [ej, h91, h67, back67 _ _ w (vS V w) z n hw hs1 hs50]]
                    refine rw_go hX [(156, .iload 4)] (by decide +kernel) (Ps := []) (pc' := 158) (lv' := [(0, .ref 66), (1, .int (nI w)), (2, .int z), (3, .int (nI n)), (4, .int (nI c)), (5, .int (zs z n)), (6, .int (nI j))]) (st' := [.int (nI c)]) (σ' := sr τ2 67 (σ 67)) rfl True.intro ?_
                    refine rw_if hX (tgt := 169) (cnd := .ne) (off := 11) (by decide +kernel) (by decide) (fun h158 => ?_) (fun h158 => ?_)
                    · replace h158 := zn_neT h158
                      have hc1 : c = 1 := by omega
                      refine rw_go hX [(169, .aload_n 0), (170, .iload_n 1)] (by decide +kernel) (Ps := []) (pc' := 171) (lv' := [(0, .ref 66), (1, .int (nI w)), (2, .int z), (3, .int (nI n)), (4, .int (nI c)), (5, .int (zs z n)), (6, .int (nI j))]) (st' := [.int (nI w), .ref 66]) (σ' := sr τ2 67 (σ 67)) rfl True.intro ?_
                      refine rw_callVi hX (as := [.int (nI w)]) (rest := []) (m_inHundred _ _ _ (sT (drV V w z n) w (vR V 4)) (lC (drV V w z n) w) w hw hR1 hL5 hS1 hs5) (by decide +kernel) mvX10_inHundred lk10_279 (ci := 9) rfl rfl rfl (by decide) (Nat.le_of_ble_eq_true rfl) rfl ?_
                      intro r1 σ1 hr
                      rw [hr.1, show r1 = nI (shN (cvV (drV V w z n) w) (lC (drV V w z n) w) 1) from hr.2]
                      clear hr σ1 r1
                      exact rw_iret hX (by decide +kernel) (⟨by
  first
  | (rw [hc0]; unfold shV; rw [shN_0]; done)
  | (rw [hc1]; rfl), hqz⟩)
                    · replace h158 := zn_neF h158
                      have hc0 : c = 0 := h158
                      refine rw_go hX [(161, .aload_n 0), (162, .iload_n 1)] (by decide +kernel) (Ps := []) (pc' := 163) (lv' := [(0, .ref 66), (1, .int (nI w)), (2, .int z), (3, .int (nI n)), (4, .int (nI c)), (5, .int (zs z n)), (6, .int (nI j))]) (st' := [.int (nI w), .ref 66]) (σ' := sr τ2 67 (σ 67)) rfl True.intro ?_
                      refine rw_callVi hX (as := [.int (nI w)]) (rest := []) (m_covered _ _ _ (sT (drV V w z n) w (vR V 4)) (lC (drV V w z n) w) w hw hR1 hL5 hS1 hs5) (by decide +kernel) mvX10_covered lk10_261 (ci := 9) rfl rfl rfl (by decide) (Nat.le_of_ble_eq_true rfl) rfl ?_
                      intro r1 σ1 hr
                      rw [hr.1, show r1 = nI (cvV (drV V w z n) w) from hr.2]
                      clear hr σ1 r1
                      refine rw_go hX [(166, .goto 8)] (by decide +kernel) (Ps := []) (pc' := 174) (lv' := [(0, .ref 66), (1, .int (nI w)), (2, .int z), (3, .int (nI n)), (4, .int (nI c)), (5, .int (zs z n)), (6, .int (nI j))]) (st' := [.int (nI (cvV (drV V w z n) w))]) (σ' := sr τ2 67 (σ 67)) rfl True.intro ?_
                      exact rw_iret hX (by decide +kernel) (⟨by
  first
  | (rw [hc0]; unfold shV; rw [shN_0]; done)
  | (rw [hc1]; rfl), hqz⟩)
                  · replace h133 := c2_geF h133
                    refine rw_go hX [(136, .aload_n 0), (137, .getfield 9), (140, .iload 6), (142, .aload_n 0), (143, .getfield 83), (146, .iload 6), (148, .iaload)] (by decide +kernel) (Ps := [vp_in (nI j) 250]) (pc' := 149) (lv' := [(0, .ref 66), (1, .int (nI w)), (2, .int z), (3, .int (nI n)), (4, .int (nI c)), (5, .int (zs z n)), (6, .int (nI j))]) (st' := [.int ((sr τ2 67 (va_cpy (τ2 91) (τ2 67) 0 0 j)) 91 (nI j).toNatClampNeg), .int (nI j), .ref 67]) (σ' := sr τ2 67 (va_cpy (τ2 91) (τ2 67) 0 0 j)) rfl (vp_in_nI (by omega) (by omega)) ?_
                    rw [show ((sr τ2 67 (va_cpy (τ2 91) (τ2 67) 0 0 j)) 91 (nI j).toNatClampNeg) = τ2 91 j from (by rw [nI_clamp (by omega), sr_n _ _ (by decide)])]
                    refine rw_go hX [(149, .iastore)] (by decide +kernel) (Ps := [vp_in (nI j) 250]) (pc' := 150) (lv' := [(0, .ref 66), (1, .int (nI w)), (2, .int z), (3, .int (nI n)), (4, .int (nI c)), (5, .int (zs z n)), (6, .int (nI j))]) (st' := []) (σ' := sw (sr τ2 67 (va_cpy (τ2 91) (τ2 67) 0 0 j)) 67 (nI j).toNatClampNeg (τ2 91 j)) rfl (vp_in_nI (by omega) (by omega)) ?_
                    rw [show (sw (sr τ2 67 (va_cpy (τ2 91) (τ2 67) 0 0 j)) 67 (nI j).toNatClampNeg (τ2 91 j)) = sw (sr τ2 67 (va_cpy (τ2 91) (τ2 67) 0 0 j)) 67 j (τ2 91 j) from (by rw [nI_clamp (by omega)])]
                    refine rw_go hX [(150, .iinc 6 1)] (by decide +kernel) (Ps := []) (pc' := 153) (lv' := [(0, .ref 66), (1, .int (nI w)), (2, .int z), (3, .int (nI n)), (4, .int (nI c)), (5, .int (zs z n)), (6, .int (nI j + nI 1))]) (st' := []) (σ' := sw (sr τ2 67 (va_cpy (τ2 91) (τ2 67) 0 0 j)) 67 j (τ2 91 j)) rfl True.intro ?_
                    rw [show (nI j + nI 1) = nI (j + 1) from nI_add _ _]
                    refine rw_go hX [(153, .goto (-25))] (by decide +kernel) (Ps := []) (pc' := 128) (lv' := [(0, .ref 66), (1, .int (nI w)), (2, .int z), (3, .int (nI n)), (4, .int (nI c)), (5, .int (zs z n)), (6, .int (nI (j + 1)))]) (st' := []) (σ' := sw (sr τ2 67 (va_cpy (τ2 91) (τ2 67) 0 0 j)) 67 j (τ2 91 j)) rfl True.intro ?_
                    refine rw_lsub (ks := [0, 1, 2, 3, 4, 5, 6]) (lv' := [(0, .ref 66), (1, .int (nI w)), (2, .int z), (3, .int (nI n)), (4, .int (nI c)), (5, .int (zs z n)), (6, .int (nI (j + 1)))]) rfl ?_
                    have q := ih128 (250 - (j + 1)) (by omega) (j + 1) rfl (by omega)
                    rw [← cpy_1, Nat.zero_add] at q
                    rw [sw_sr]
                    exact q
              refine rw_lsub (ks := [0, 1, 2, 3, 4, 5, 6]) (lv' := [(0, .ref 66), (1, .int (nI w)), (2, .int z), (3, .int (nI n)), (4, .int (nI c)), (5, .int (zs z n)), (6, .int (nI 0))]) rfl ?_
              have q := L128 250 0 rfl (by omega)
              rw [cpy_0, sr_id] at q
              exact q
            · replace h40 := c2_geF h40
              have hu1 := u9_lt (nz (zs z i))
              have hu2 := u9_lt (nz (nz (zs z i)))
              have hm1 := Nat.mod_lt (u9 (nz (zs z i))) hs1
              refine rw_go hX [(43, .iload 5), (45, .ldc_w 288), (48, .imul), (49, .sipush 12345), (52, .iadd)] (by decide +kernel) (Ps := []) (pc' := 53) (lv' := [(0, .ref 66), (1, .int (nI w)), (2, .int z), (3, .int (nI n)), (4, .int (nI c)), (5, .int (zs z i)), (6, .int (nI i))]) (st' := [.int ((zs z i * 1103515245) + nI 12345)]) (σ' := sr (sr σ 91 (va_cpy (σ 67) (σ 91) 0 0 250)) 67 (drR (σ 67) w (vS V w) z i)) rfl True.intro ?_
              rw [show ((zs z i * 1103515245) + nI 12345) = nz (zs z i) from rfl]
              refine rw_go hX [(53, .istore 5), (55, .iload 5), (57, .bipush 9), (59, .iushr)] (by decide +kernel) (Ps := []) (pc' := 60) (lv' := [(0, .ref 66), (1, .int (nI w)), (2, .int z), (3, .int (nI n)), (4, .int (nI c)), (5, .int (nz (zs z i))), (6, .int (nI i))]) (st' := [.int (((nz (zs z i)).toUInt32 >>> ((nI 9).toUInt32 &&& Int32.toUInt32 31)).toInt32)]) (σ' := sr (sr σ 91 (va_cpy (σ 67) (σ 91) 0 0 250)) 67 (drR (σ 67) w (vS V w) z i)) rfl True.intro ?_
              rw [show (((nz (zs z i)).toUInt32 >>> ((nI 9).toUInt32 &&& Int32.toUInt32 31)).toInt32) = nI (u9 (nz (zs z i))) from u9_eq _]
              refine rw_go hX [(60, .aload_n 0), (61, .getfield 13), (64, .iload_n 1), (65, .iaload)] (by decide +kernel) (Ps := [vp_in (nI w) 5]) (pc' := 66) (lv' := [(0, .ref 66), (1, .int (nI w)), (2, .int z), (3, .int (nI n)), (4, .int (nI c)), (5, .int (nz (zs z i))), (6, .int (nI i))]) (st' := [.int ((sr (sr σ 91 (va_cpy (σ 67) (σ 91) 0 0 250)) 67 (drR (σ 67) w (vS V w) z i)) 68 (nI w).toNatClampNeg), .int (nI (u9 (nz (zs z i))))]) (σ' := sr (sr σ 91 (va_cpy (σ 67) (σ 91) 0 0 250)) 67 (drR (σ 67) w (vS V w) z i)) rfl (vp_in_nI (by omega) (by omega)) ?_
              rw [show ((sr (sr σ 91 (va_cpy (σ 67) (σ 91) 0 0 250)) 67 (drR (σ 67) w (vS V w) z i)) 68 (nI w).toNatClampNeg) = nI (vS V w) from (by rw [nI_clamp (by omega), sr_n _ _ (by decide), sr_n _ _ (by decide), h68, wf_s hv hw])]
              refine rw_go hX [(66, .irem)] (by decide +kernel) (Ps := [¬ (nI (vS V w)) = 0]) (pc' := 67) (lv' := [(0, .ref 66), (1, .int (nI w)), (2, .int z), (3, .int (nI n)), (4, .int (nI c)), (5, .int (nz (zs z i))), (6, .int (nI i))]) (st' := [.int (nI (u9 (nz (zs z i))) - nI (u9 (nz (zs z i))) / nI (vS V w) * nI (vS V w))]) (σ' := sr (sr σ 91 (va_cpy (σ 67) (σ 91) 0 0 250)) 67 (drR (σ 67) w (vS V w) z i)) rfl (fun z9 => by have := zn_eqT z9; omega) ?_
              rw [show (nI (u9 (nz (zs z i))) - nI (u9 (nz (zs z i))) / nI (vS V w) * nI (vS V w)) = nI (u9 (nz (zs z i)) % vS V w) from pk_rem (by omega) (by omega) (by omega)]
              refine rw_go hX [(67, .istore 7), (69, .iload 5), (71, .ldc_w 288), (74, .imul), (75, .sipush 12345), (78, .iadd)] (by decide +kernel) (Ps := []) (pc' := 79) (lv' := [(0, .ref 66), (1, .int (nI w)), (2, .int z), (3, .int (nI n)), (4, .int (nI c)), (5, .int (nz (zs z i))), (6, .int (nI i)), (7, .int (nI (u9 (nz (zs z i)) % vS V w)))]) (st' := [.int ((nz (zs z i) * 1103515245) + nI 12345)]) (σ' := sr (sr σ 91 (va_cpy (σ 67) (σ 91) 0 0 250)) 67 (drR (σ 67) w (vS V w) z i)) rfl True.intro ?_
              rw [show ((nz (zs z i) * 1103515245) + nI 12345) = nz (nz (zs z i)) from rfl]
              refine rw_go hX [(79, .istore 5), (81, .aload_n 0), (82, .getfield 9), (85, .bipush 50), (87, .iload_n 1), (88, .imul)] (by decide +kernel) (Ps := []) (pc' := 89) (lv' := [(0, .ref 66), (1, .int (nI w)), (2, .int z), (3, .int (nI n)), (4, .int (nI c)), (5, .int (nz (nz (zs z i)))), (6, .int (nI i)), (7, .int (nI (u9 (nz (zs z i)) % vS V w)))]) (st' := [.int (nI 50 * nI w), .ref 67]) (σ' := sr (sr σ 91 (va_cpy (σ 67) (σ 91) 0 0 250)) 67 (drR (σ 67) w (vS V w) z i)) rfl True.intro ?_
              rw [show (nI 50 * nI w) = nI (50 * w) from pk_mul _ _]
              refine rw_go hX [(89, .iload 7), (91, .iadd)] (by decide +kernel) (Ps := []) (pc' := 92) (lv' := [(0, .ref 66), (1, .int (nI w)), (2, .int z), (3, .int (nI n)), (4, .int (nI c)), (5, .int (nz (nz (zs z i)))), (6, .int (nI i)), (7, .int (nI (u9 (nz (zs z i)) % vS V w)))]) (st' := [.int (nI (50 * w) + nI (u9 (nz (zs z i)) % vS V w)), .ref 67]) (σ' := sr (sr σ 91 (va_cpy (σ 67) (σ 91) 0 0 250)) 67 (drR (σ 67) w (vS V w) z i)) rfl True.intro ?_
              rw [show (nI (50 * w) + nI (u9 (nz (zs z i)) % vS V w)) = nI (50 * w + u9 (nz (zs z i)) % vS V w) from nI_add _ _]
              refine rw_go hX [(92, .bipush 97), (94, .iload 5), (96, .bipush 9), (98, .iushr)] (by decide +kernel) (Ps := []) (pc' := 99) (lv' := [(0, .ref 66), (1, .int (nI w)), (2, .int z), (3, .int (nI n)), (4, .int (nI c)), (5, .int (nz (nz (zs z i)))), (6, .int (nI i)), (7, .int (nI (u9 (nz (zs z i)) % vS V w)))]) (st' := [.int (((nz (nz (zs z i))).toUInt32 >>> ((nI 9).toUInt32 &&& Int32.toUInt32 31)).toInt32), .int (nI 97), .int (nI (50 * w + u9 (nz (zs z i)) % vS V w)), .ref 67]) (σ' := sr (sr σ 91 (va_cpy (σ 67) (σ 91) 0 0 250)) 67 (drR (σ 67) w (vS V w) z i)) rfl True.intro ?_
              rw [show (((nz (nz (zs z i))).toUInt32 >>> ((nI 9).toUInt32 &&& Int32.toUInt32 31)).toInt32) = nI (u9 (nz (nz (zs z i)))) from u9_eq _]
              refine rw_go hX [(99, .bipush 26), (101, .irem)] (by decide +kernel) (Ps := [¬ (nI 26) = 0]) (pc' := 102) (lv' := [(0, .ref 66), (1, .int (nI w)), (2, .int z), (3, .int (nI n)), (4, .int (nI c)), (5, .int (nz (nz (zs z i)))), (6, .int (nI i)), (7, .int (nI (u9 (nz (zs z i)) % vS V w)))]) (st' := [.int (nI (u9 (nz (nz (zs z i)))) - nI (u9 (nz (nz (zs z i)))) / nI 26 * nI 26), .int (nI 97), .int (nI (50 * w + u9 (nz (zs z i)) % vS V w)), .ref 67]) (σ' := sr (sr σ 91 (va_cpy (σ 67) (σ 91) 0 0 250)) 67 (drR (σ 67) w (vS V w) z i)) rfl (show ¬ nI 26 = 0 from by decide +kernel) ?_
              rw [show (nI (u9 (nz (nz (zs z i)))) - nI (u9 (nz (nz (zs z i)))) / nI 26 * nI 26) = nI (u9 (nz (nz (zs z i))) % 26) from pk_rem (by omega) (by omega) (by omega)]
              refine rw_go hX [(102, .iadd)] (by decide +kernel) (Ps := []) (pc' := 103) (lv' := [(0, .ref 66), (1, .int (nI w)), (2, .int z), (3, .int (nI n)), (4, .int (nI c)), (5, .int (nz (nz (zs z i)))), (6, .int (nI i)), (7, .int (nI (u9 (nz (zs z i)) % vS V w)))]) (st' := [.int (nI 97 + nI (u9 (nz (nz (zs z i))) % 26)), .int (nI (50 * w + u9 (nz (zs z i)) % vS V w)), .ref 67]) (σ' := sr (sr σ 91 (va_cpy (σ 67) (σ 91) 0 0 250)) 67 (drR (σ 67) w (vS V w) z i)) rfl True.intro ?_
              rw [show (nI 97 + nI (u9 (nz (nz (zs z i))) % 26)) = nI (97 + u9 (nz (nz (zs z i))) % 26) from nI_add _ _]
              refine rw_go hX [(103, .iastore)] (by decide +kernel) (Ps := [vp_in (nI (50 * w + u9 (nz (zs z i)) % vS V w)) 250]) (pc' := 104) (lv' := [(0, .ref 66), (1, .int (nI w)), (2, .int z), (3, .int (nI n)), (4, .int (nI c)), (5, .int (nz (nz (zs z i)))), (6, .int (nI i)), (7, .int (nI (u9 (nz (zs z i)) % vS V w)))]) (st' := []) (σ' := sw (sr (sr σ 91 (va_cpy (σ 67) (σ 91) 0 0 250)) 67 (drR (σ 67) w (vS V w) z i)) 67 (nI (50 * w + u9 (nz (zs z i)) % vS V w)).toNatClampNeg (nI (97 + u9 (nz (nz (zs z i))) % 26))) rfl (vp_in_nI (by omega) (by omega)) ?_
              rw [show (sw (sr (sr σ 91 (va_cpy (σ 67) (σ 91) 0 0 250)) 67 (drR (σ 67) w (vS V w) z i)) 67 (nI (50 * w + u9 (nz (zs z i)) % vS V w)).toNatClampNeg (nI (97 + u9 (nz (nz (zs z i))) % 26))) = sw (sr (sr σ 91 (va_cpy (σ 67) (σ 91) 0 0 250)) 67 (drR (σ 67) w (vS V w) z i)) 67 (50 * w + u9 (nz (zs z i)) % vS V w) (nI (97 + u9 (nz (nz (zs z i))) % 26)) from (by rw [nI_clamp (by omega)])]
              refine rw_go hX [(104, .iinc 6 1)] (by decide +kernel) (Ps := []) (pc' := 107) (lv' := [(0, .ref 66), (1, .int (nI w)), (2, .int z), (3, .int (nI n)), (4, .int (nI c)), (5, .int (nz (nz (zs z i)))), (6, .int (nI i + nI 1)), (7, .int (nI (u9 (nz (zs z i)) % vS V w)))]) (st' := []) (σ' := sw (sr (sr σ 91 (va_cpy (σ 67) (σ 91) 0 0 250)) 67 (drR (σ 67) w (vS V w) z i)) 67 (50 * w + u9 (nz (zs z i)) % vS V w) (nI (97 + u9 (nz (nz (zs z i))) % 26))) rfl True.intro ?_
              rw [show (nI i + nI 1) = nI (i + 1) from nI_add _ _]
              refine rw_go hX [(107, .goto (-70))] (by decide +kernel) (Ps := []) (pc' := 37) (lv' := [(0, .ref 66), (1, .int (nI w)), (2, .int z), (3, .int (nI n)), (4, .int (nI c)), (5, .int (nz (nz (zs z i)))), (6, .int (nI (i + 1))), (7, .int (nI (u9 (nz (zs z i)) % vS V w)))]) (st' := []) (σ' := sw (sr (sr σ 91 (va_cpy (σ 67) (σ 91) 0 0 250)) 67 (drR (σ 67) w (vS V w) z i)) 67 (50 * w + u9 (nz (zs z i)) % vS V w) (nI (97 + u9 (nz (nz (zs z i))) % 26))) rfl True.intro ?_
              refine rw_lsub (ks := [0, 1, 2, 3, 4, 5, 6]) (lv' := [(0, .ref 66), (1, .int (nI w)), (2, .int z), (3, .int (nI n)), (4, .int (nI c)), (5, .int (nz (nz (zs z i)))), (6, .int (nI (i + 1)))]) rfl ?_
              have q := ih37 (n - (i + 1)) (by omega) (i + 1) rfl (by omega)
              rw [← drR_1, ← zs_1] at q
              rw [sw_sr]
              exact q
        refine rw_lsub (ks := [0, 1, 2, 3, 4, 5, 6]) (lv' := [(0, .ref 66), (1, .int (nI w)), (2, .int z), (3, .int (nI n)), (4, .int (nI c)), (5, .int z), (6, .int (nI 0))]) rfl ?_
        have q := L37 n 0 rfl (by omega)
        rw [show (drR (σ 67) w (vS V w) z 0) = σ 67 from rfl, show sr (sr σ 91 (va_cpy (σ 67) (σ 91) 0 0 250)) 67 (σ 67) = (sr σ 91 (va_cpy (σ 67) (σ 91) 0 0 250)) from by
          funext k
          by_cases e : k = 67
          · subst e; rw [sr_s, sr_n _ _ (by decide)]
          · rw [sr_n _ _ e], show zs z 0 = z from rfl] at q
        exact q
      · replace h8 := c2_geF h8
        refine rw_go hX [(11, .aload_n 0), (12, .getfield 83), (15, .iload 5), (17, .aload_n 0), (18, .getfield 9), (21, .iload 5), (23, .iaload)] (by decide +kernel) (Ps := [vp_in (nI i) 250]) (pc' := 24) (lv' := [(0, .ref 66), (1, .int (nI w)), (2, .int z), (3, .int (nI n)), (4, .int (nI c)), (5, .int (nI i))]) (st' := [.int ((sr σ 91 (va_cpy (σ 67) (σ 91) 0 0 i)) 67 (nI i).toNatClampNeg), .int (nI i), .ref 91]) (σ' := sr σ 91 (va_cpy (σ 67) (σ 91) 0 0 i)) rfl (vp_in_nI (by omega) (by omega)) ?_
        rw [show ((sr σ 91 (va_cpy (σ 67) (σ 91) 0 0 i)) 67 (nI i).toNatClampNeg) = σ 67 i from (by rw [nI_clamp (by omega), sr_n _ _ (by decide)])]
        refine rw_go hX [(24, .iastore)] (by decide +kernel) (Ps := [vp_in (nI i) 250]) (pc' := 25) (lv' := [(0, .ref 66), (1, .int (nI w)), (2, .int z), (3, .int (nI n)), (4, .int (nI c)), (5, .int (nI i))]) (st' := []) (σ' := sw (sr σ 91 (va_cpy (σ 67) (σ 91) 0 0 i)) 91 (nI i).toNatClampNeg (σ 67 i)) rfl (vp_in_nI (by omega) (by omega)) ?_
        rw [show (sw (sr σ 91 (va_cpy (σ 67) (σ 91) 0 0 i)) 91 (nI i).toNatClampNeg (σ 67 i)) = sw (sr σ 91 (va_cpy (σ 67) (σ 91) 0 0 i)) 91 i (σ 67 i) from (by rw [nI_clamp (by omega)])]
        refine rw_go hX [(25, .iinc 5 1)] (by decide +kernel) (Ps := []) (pc' := 28) (lv' := [(0, .ref 66), (1, .int (nI w)), (2, .int z), (3, .int (nI n)), (4, .int (nI c)), (5, .int (nI i + nI 1))]) (st' := []) (σ' := sw (sr σ 91 (va_cpy (σ 67) (σ 91) 0 0 i)) 91 i (σ 67 i)) rfl True.intro ?_
        rw [show (nI i + nI 1) = nI (i + 1) from nI_add _ _]
        refine rw_go hX [(28, .goto (-25))] (by decide +kernel) (Ps := []) (pc' := 3) (lv' := [(0, .ref 66), (1, .int (nI w)), (2, .int z), (3, .int (nI n)), (4, .int (nI c)), (5, .int (nI (i + 1)))]) (st' := []) (σ' := sw (sr σ 91 (va_cpy (σ 67) (σ 91) 0 0 i)) 91 i (σ 67 i)) rfl True.intro ?_
        refine rw_lsub (ks := [0, 1, 2, 3, 4, 5]) (lv' := [(0, .ref 66), (1, .int (nI w)), (2, .int z), (3, .int (nI n)), (4, .int (nI c)), (5, .int (nI (i + 1)))]) rfl ?_
        have q := ih3 (250 - (i + 1)) (by omega) (i + 1) rfl (by omega)
        rw [← cpy_1, Nat.zero_add] at q
        rw [sw_sr]
        exact q
  refine rw_lsub (ks := [0, 1, 2, 3, 4, 5]) (lv' := [(0, .ref 66), (1, .int (nI w)), (2, .int z), (3, .int (nI n)), (4, .int (nI c)), (5, .int (nI 0))]) rfl ?_
  have q := L3 250 0 rfl (by omega)
  rw [cpy_0, sr_id] at q
  exact q
theorem ite3 {x n : Int32} (h : ¬ (0 ≤ x ∧ x ≤ n)) {α : Type} {b f : α} : (if x < 0 then b else if x > n then b else f) = b := by
  by_cases g : x < 0
  · rw [if_pos g]
  · rw [if_neg g, if_pos (show x > n from Int32.not_le.mp fun z => h ⟨Int32.not_lt.mp g, z⟩)]
theorem ite4 {x m n : Int32} (h : ¬ (m ≤ x ∧ x ≤ n)) {α : Type} {b f : α} : (if x < m then b else if x > n then b else f) = b := by
  by_cases g : x < m
  · rw [if_pos g]
  · rw [if_neg g, if_pos (show x > n from Int32.not_le.mp fun z => h ⟨Int32.not_lt.mp g, z⟩)]
set_option maxRecDepth 20000 in
set_option maxHeartbeats 800000 in
theorem g_drawn (l : Launch) (G : Gl) (σ : Mm) (V : Mm) (xw xz xn xq : Int32) (hV : vw σ 67 = V) (hv : wf V) : AMi l G 7 mX10_drawn [.ref 66, .int xw, .int xz, .int xn, .int xq] σ (fun r σ' => r = aDrawn V xw xz xn xq ∧ MQu σ σ') := by
  refine rw_inI 10 (by decide +kernel) rfl rfl ?_
  intro E hE hX
  subst hE
  refine rw_go hX [(0, .iload_n 1)] (by decide +kernel) (Ps := []) (pc' := 1) (lv' := [(0, .ref 66), (1, .int xw), (2, .int xz), (3, .int xn), (4, .int xq)]) (st' := [.int xw]) (σ' := σ) rfl True.intro ?_
  refine rw_callSi hX (as := [.int xw]) (rest := []) (m_isWork _ _ _ (xw)) (by decide +kernel) msX10_isWork (Or.inl lk10_157) rfl (by decide) (Nat.le_of_ble_eq_true rfl) rfl ?_
  intro r1 σ1 hr
  rw [hr.1, show r1 = bz (decide (0 ≤ xw ∧ xw ≤ 4)) from hr.2]
  clear hr σ1 r1
  refine rw_if hX (tgt := 30) (cnd := .eq) (off := 26) (by decide +kernel) (by decide) (fun h4 => ?_) (fun h4 => ?_)
  · replace h4 := of_decide_eq_false (zb_eqT h4)
    refine rw_go hX [(30, .bipush (-2))] (by decide +kernel) (Ps := []) (pc' := 32) (lv' := [(0, .ref 66), (1, .int xw), (2, .int xz), (3, .int xn), (4, .int xq)]) (st' := [.int (-(nI 2))]) (σ' := σ) rfl True.intro ?_
    exact rw_iret hX (by decide +kernel) (⟨by simp only [aDrawn, eq_false h4, if_true, if_false, Bool.false_eq_true, and_self, and_true, true_and, and_false, false_and, oel_n, oel_s, decide_true, decide_false], MQu_rfl _⟩)
  · replace h4 := of_decide_eq_true (zb_eqF h4)
    obtain ⟨w, hw, rfl⟩ := rng (m := 4) (by omega) h4
    have hw : w < 5 := hw
    have hcw : (nI w).toNatClampNeg = w := nI_clamp (by omega)
    refine rw_go hX [(7, .iload_n 3), (8, .i2l), (9, .lconst 0), (10, .ldc2_w 289)] (by decide +kernel) (Ps := []) (pc' := 13) (lv' := [(0, .ref 66), (1, .int (nI w)), (2, .int xz), (3, .int xn), (4, .int xq)]) (st' := [.long 20, .long (Int64.ofNat 0), .long (xn.toInt64)]) (σ' := σ) rfl True.intro ?_
    refine rw_callSi hX (as := [.long (xn.toInt64), .long (Int64.ofNat 0), .long 20]) (rest := []) (m_inI _ _ _ (xn) (0) (nI 20) _ _ _ rfl (by first | rfl | decide +kernel) (by first | rfl | decide +kernel)) (by decide +kernel) msX10_in (Or.inl lk10_105) rfl (by decide) (Nat.le_of_ble_eq_true rfl) rfl ?_
    intro r1 σ1 hr
    rw [hr.1, show r1 = bz (decide (0 ≤ xn ∧ xn ≤ nI 20)) from hr.2]
    clear hr σ1 r1
    refine rw_if hX (tgt := 30) (cnd := .eq) (off := 14) (by decide +kernel) (by decide) (fun h16 => ?_) (fun h16 => ?_)
    · replace h16 := of_decide_eq_false (zb_eqT h16)
      skip
      refine rw_go hX [(30, .bipush (-2))] (by decide +kernel) (Ps := []) (pc' := 32) (lv' := [(0, .ref 66), (1, .int (nI w)), (2, .int xz), (3, .int xn), (4, .int xq)]) (st' := [.int (-(nI 2))]) (σ' := σ) rfl True.intro ?_
      exact rw_iret hX (by decide +kernel) (⟨by simp only [aDrawn, eq_true h4, hcw, eq_false h16, ite3 h16, if_true, if_false, Bool.false_eq_true, and_self, and_true, true_and, and_false, false_and, oel_n, oel_s, decide_true, decide_false], MQu_rfl _⟩)
    · replace h16 := of_decide_eq_true (zb_eqF h16)
      have hn0 : ¬ xn < 0 := Int32.not_lt.mpr h16.1
      have hn20 : ¬ xn > nI 20 := Int32.not_lt.mpr h16.2
      obtain ⟨n, hn, rfl⟩ := rng (m := 20) (by omega) h16
      have hcn : (nI n).toNatClampNeg = n := nI_clamp (by omega)
      refine rw_go hX [(19, .iload 4), (21, .i2l), (22, .lconst 0), (23, .lconst 1)] (by decide +kernel) (Ps := []) (pc' := 24) (lv' := [(0, .ref 66), (1, .int (nI w)), (2, .int xz), (3, .int (nI n)), (4, .int xq)]) (st' := [.long (Int64.ofNat 1), .long (Int64.ofNat 0), .long (xq.toInt64)]) (σ' := σ) rfl True.intro ?_
      refine rw_callSi hX (as := [.long (xq.toInt64), .long (Int64.ofNat 0), .long (Int64.ofNat 1)]) (rest := []) (m_inI _ _ _ (xq) (0) (nI 1) _ _ _ rfl (by first | rfl | decide +kernel) (by first | rfl | decide +kernel)) (by decide +kernel) msX10_in (Or.inl lk10_105) rfl (by decide) (Nat.le_of_ble_eq_true rfl) rfl ?_
      intro r1 σ1 hr
      rw [hr.1, show r1 = bz (decide (0 ≤ xq ∧ xq < nI 2)) from hr.2.trans (by rw [decide_eq_decide.mpr (in_O (m := 1) (by omega))])]
      clear hr σ1 r1
      refine rw_if hX (tgt := 33) (cnd := .ne) (off := 6) (by decide +kernel) (by decide) (fun h27 => ?_) (fun h27 => ?_)
      · replace h27 := of_decide_eq_true (zb_neT h27)
        obtain ⟨c, hc, rfl⟩ := rngO (m := 2) (by omega) h27
        have hcc : (nI c).toNatClampNeg = c := nI_clamp (by omega)
        refine rw_go hX [(33, .aload_n 0), (34, .iload_n 1)] (by decide +kernel) (Ps := []) (pc' := 35) (lv' := [(0, .ref 66), (1, .int (nI w)), (2, .int xz), (3, .int (nI n)), (4, .int (nI c))]) (st' := [.int (nI w), .ref 66]) (σ' := σ) rfl True.intro ?_
        refine rw_callVi hX (as := [.int (nI w)]) (rest := []) (m_there _ _ _ V w hV hv hw) (by decide +kernel) mvX10_isThere lk10_132 (ci := 9) rfl rfl rfl (by decide) (Nat.le_of_ble_eq_true rfl) rfl ?_
        intro r1 σ1 hr
        rw [hr.1, show r1 = bz (decide (0 < vS V w)) from hr.2]
        clear hr σ1 r1
        refine rw_if hX (tgt := 53) (cnd := .eq) (off := 15) (by decide +kernel) (by decide) (fun h38 => ?_) (fun h38 => ?_)
        · replace h38 := of_decide_eq_false (zb_eqT h38)
          have hvsw : vS V w = 0 := by omega
          refine rw_go hX [(53, .bipush (-11))] (by decide +kernel) (Ps := []) (pc' := 55) (lv' := [(0, .ref 66), (1, .int (nI w)), (2, .int xz), (3, .int (nI n)), (4, .int (nI c))]) (st' := [.int (-(nI 11))]) (σ' := σ) rfl True.intro ?_
          exact rw_iret hX (by decide +kernel) (⟨by simp only [aDrawn, eq_true h4, hcw, eq_true h16, hcn, eq_false hn0, eq_false hn20, eq_true h27, hcc, eq_false h38, eq_true hvsw, if_true, if_false, Bool.false_eq_true, and_self, and_true, true_and, and_false, false_and, oel_n, oel_s, decide_true, decide_false], (by first | exact hq9 | exact MQu_rfl _)⟩)
        · replace h38 := of_decide_eq_true (zb_eqF h38)
          have hvsw : ¬ vS V w = 0 := by omega
          refine rw_go hX [(41, .aload_n 0), (42, .iload_n 1), (43, .iload_n 2), (44, .iload_n 3), (45, .iload 4)] (by decide +kernel) (Ps := []) (pc' := 47) (lv' := [(0, .ref 66), (1, .int (nI w)), (2, .int xz), (3, .int (nI n)), (4, .int (nI c))]) (st' := [.int (nI c), .int (nI n), .int xz, .int (nI w), .ref 66]) (σ' := σ) rfl True.intro ?_
          refine rw_callVi hX (as := [.int (nI w), .int xz, .int (nI n), .int (nI c)]) (rest := []) (m_drawnBy _ _ _ V w n c xz hV hv hw (by omega) (by omega) hc) (by decide +kernel) mvX10_drawnBy lk10_291 (ci := 9) rfl rfl rfl (by decide) (Nat.le_of_ble_eq_true rfl) rfl ?_
          intro r1 τ9 hr
          rw [hr.1]
          have hq9 := hr.2
          refine rw_go hX [(50, .goto 5)] (by decide +kernel) (Ps := []) (pc' := 55) (lv' := [(0, .ref 66), (1, .int (nI w)), (2, .int xz), (3, .int (nI n)), (4, .int (nI c))]) (st' := [.int (nI (shV (drV V w xz n) w c))]) (σ' := τ9) rfl True.intro ?_
          exact rw_iret hX (by decide +kernel) (⟨by simp only [aDrawn, eq_true h4, hcw, eq_true h16, hcn, eq_false hn0, eq_false hn20, eq_true h27, hcc, eq_true h38, eq_false hvsw, if_true, if_false, Bool.false_eq_true, and_self, and_true, true_and, and_false, false_and, oel_n, oel_s, decide_true, decide_false], (by first | exact hq9 | exact MQu_rfl _)⟩)
      · replace h27 := of_decide_eq_false (zb_neF h27)
        refine rw_go hX [(30, .bipush (-2))] (by decide +kernel) (Ps := []) (pc' := 32) (lv' := [(0, .ref 66), (1, .int (nI w)), (2, .int xz), (3, .int (nI n)), (4, .int xq)]) (st' := [.int (-(nI 2))]) (σ' := σ) rfl True.intro ?_
        exact rw_iret hX (by decide +kernel) (⟨by simp only [aDrawn, eq_true h4, hcw, eq_true h16, hcn, eq_false hn0, eq_false hn20, eq_false h27, if_true, if_false, Bool.false_eq_true, and_self, and_true, true_and, and_false, false_and, oel_n, oel_s, decide_true, decide_false], MQu_rfl _⟩)
set_option maxRecDepth 20000 in
set_option maxHeartbeats 800000 in
theorem g_chance (l : Launch) (G : Gl) (σ : Mm) (V : Mm) (xw xz xm xs xp : Int32) (hV : vw σ 67 = V) (hv : wf V) : AMi l G 7 mX10_chance [.ref 66, .int xw, .int xz, .int xm, .int xs, .int xp] σ (fun r σ' => r = aChance V xw xz xm xs xp ∧ MQu σ σ') := by
  refine rw_inI 10 (by decide +kernel) rfl rfl ?_
  intro E hE hX
  subst hE
  refine rw_go hX [(0, .iload_n 1)] (by decide +kernel) (Ps := []) (pc' := 1) (lv' := [(0, .ref 66), (1, .int xw), (2, .int xz), (3, .int xm), (4, .int xs), (5, .int xp)]) (st' := [.int xw]) (σ' := σ) rfl True.intro ?_
  refine rw_callSi hX (as := [.int xw]) (rest := []) (m_isWork _ _ _ (xw)) (by decide +kernel) msX10_isWork (Or.inl lk10_157) rfl (by decide) (Nat.le_of_ble_eq_true rfl) rfl ?_
  intro r1 σ1 hr
  rw [hr.1, show r1 = bz (decide (0 ≤ xw ∧ xw ≤ 4)) from hr.2]
  clear hr σ1 r1
  refine rw_if hX (tgt := 43) (cnd := .eq) (off := 39) (by decide +kernel) (by decide) (fun h4 => ?_) (fun h4 => ?_)
  · replace h4 := of_decide_eq_false (zb_eqT h4)
    refine rw_go hX [(43, .bipush (-2))] (by decide +kernel) (Ps := []) (pc' := 45) (lv' := [(0, .ref 66), (1, .int xw), (2, .int xz), (3, .int xm), (4, .int xs), (5, .int xp)]) (st' := [.int (-(nI 2))]) (σ' := σ) rfl True.intro ?_
    exact rw_iret hX (by decide +kernel) (⟨by simp only [aChance, eq_false h4, if_true, if_false, Bool.false_eq_true, and_self, and_true, true_and, and_false, false_and, oel_n, oel_s, decide_true, decide_false], MQu_rfl _⟩)
  · replace h4 := of_decide_eq_true (zb_eqF h4)
    obtain ⟨w, hw, rfl⟩ := rng (m := 4) (by omega) h4
    have hw : w < 5 := hw
    have hcw : (nI w).toNatClampNeg = w := nI_clamp (by omega)
    refine rw_go hX [(7, .iload_n 3), (8, .i2l), (9, .lconst 1), (10, .ldc2_w 238)] (by decide +kernel) (Ps := []) (pc' := 13) (lv' := [(0, .ref 66), (1, .int (nI w)), (2, .int xz), (3, .int xm), (4, .int xs), (5, .int xp)]) (st' := [.long 3, .long (Int64.ofNat 1), .long (xm.toInt64)]) (σ' := σ) rfl True.intro ?_
    refine rw_callSi hX (as := [.long (xm.toInt64), .long (Int64.ofNat 1), .long 3]) (rest := []) (m_inI _ _ _ (xm) (nI 1) (nI 3) _ _ _ rfl (by first | rfl | decide +kernel) (by first | rfl | decide +kernel)) (by decide +kernel) msX10_in (Or.inl lk10_105) rfl (by decide) (Nat.le_of_ble_eq_true rfl) rfl ?_
    intro r1 σ1 hr
    rw [hr.1, show r1 = bz (decide (nI 1 ≤ xm ∧ xm ≤ nI 3)) from hr.2]
    clear hr σ1 r1
    refine rw_if hX (tgt := 43) (cnd := .eq) (off := 27) (by decide +kernel) (by decide) (fun h16 => ?_) (fun h16 => ?_)
    · replace h16 := of_decide_eq_false (zb_eqT h16)
      skip
      refine rw_go hX [(43, .bipush (-2))] (by decide +kernel) (Ps := []) (pc' := 45) (lv' := [(0, .ref 66), (1, .int (nI w)), (2, .int xz), (3, .int xm), (4, .int xs), (5, .int xp)]) (st' := [.int (-(nI 2))]) (σ' := σ) rfl True.intro ?_
      exact rw_iret hX (by decide +kernel) (⟨by simp only [aChance, eq_true h4, hcw, eq_false h16, ite4 h16, if_true, if_false, Bool.false_eq_true, and_self, and_true, true_and, and_false, false_and, oel_n, oel_s, decide_true, decide_false], MQu_rfl _⟩)
    · replace h16 := of_decide_eq_true (zb_eqF h16)
      have hm0 : ¬ xm < nI 1 := Int32.not_lt.mpr h16.1
      have hm3 : ¬ xm > nI 3 := Int32.not_lt.mpr h16.2
      obtain ⟨m, hm, rfl⟩ := rng (m := 3) (by omega) ⟨Int32.le_trans (nI_pos' (by omega)) h16.1, h16.2⟩
      have hcm : (nI m).toNatClampNeg = m := nI_clamp (by omega)
      have hm1 : 1 ≤ m := Nat.not_lt.mp fun z => hm0 (nI_lt z (by omega))
      refine rw_go hX [(19, .iload 4), (21, .i2l), (22, .lconst 0), (23, .ldc2_w 213)] (by decide +kernel) (Ps := []) (pc' := 26) (lv' := [(0, .ref 66), (1, .int (nI w)), (2, .int xz), (3, .int (nI m)), (4, .int xs), (5, .int xp)]) (st' := [.long 100, .long (Int64.ofNat 0), .long (xs.toInt64)]) (σ' := σ) rfl True.intro ?_
      refine rw_callSi hX (as := [.long (xs.toInt64), .long (Int64.ofNat 0), .long 100]) (rest := []) (m_inI _ _ _ (xs) (0) (nI 100) _ _ _ rfl (by first | rfl | decide +kernel) (by first | rfl | decide +kernel)) (by decide +kernel) msX10_in (Or.inl lk10_105) rfl (by decide) (Nat.le_of_ble_eq_true rfl) rfl ?_
      intro r1 σ1 hr
      rw [hr.1, show r1 = bz (decide (0 ≤ xs ∧ xs ≤ nI 100)) from hr.2]
      clear hr σ1 r1
      refine rw_if hX (tgt := 43) (cnd := .eq) (off := 14) (by decide +kernel) (by decide) (fun h29 => ?_) (fun h29 => ?_)
      · replace h29 := of_decide_eq_false (zb_eqT h29)
        skip
        refine rw_go hX [(43, .bipush (-2))] (by decide +kernel) (Ps := []) (pc' := 45) (lv' := [(0, .ref 66), (1, .int (nI w)), (2, .int xz), (3, .int (nI m)), (4, .int xs), (5, .int xp)]) (st' := [.int (-(nI 2))]) (σ' := σ) rfl True.intro ?_
        exact rw_iret hX (by decide +kernel) (⟨by simp only [aChance, eq_true h4, hcw, eq_true h16, hcm, eq_false hm0, eq_false hm3, eq_false h29, ite3 h29, if_true, if_false, Bool.false_eq_true, and_self, and_true, true_and, and_false, false_and, oel_n, oel_s, decide_true, decide_false], MQu_rfl _⟩)
      · replace h29 := of_decide_eq_true (zb_eqF h29)
        have hs0 : ¬ xs < 0 := Int32.not_lt.mpr h29.1
        have hs9 : ¬ xs > nI 100 := Int32.not_lt.mpr h29.2
        refine rw_go hX [(32, .iload 5), (34, .i2l), (35, .lconst 0), (36, .lconst 1)] (by decide +kernel) (Ps := []) (pc' := 37) (lv' := [(0, .ref 66), (1, .int (nI w)), (2, .int xz), (3, .int (nI m)), (4, .int xs), (5, .int xp)]) (st' := [.long (Int64.ofNat 1), .long (Int64.ofNat 0), .long (xp.toInt64)]) (σ' := σ) rfl True.intro ?_
        refine rw_callSi hX (as := [.long (xp.toInt64), .long (Int64.ofNat 0), .long (Int64.ofNat 1)]) (rest := []) (m_inI _ _ _ (xp) (0) (nI 1) _ _ _ rfl (by first | rfl | decide +kernel) (by first | rfl | decide +kernel)) (by decide +kernel) msX10_in (Or.inl lk10_105) rfl (by decide) (Nat.le_of_ble_eq_true rfl) rfl ?_
        intro r1 σ1 hr
        rw [hr.1, show r1 = bz (decide (0 ≤ xp ∧ xp < nI 2)) from hr.2.trans (by rw [decide_eq_decide.mpr (in_O (m := 1) (by omega))])]
        clear hr σ1 r1
        refine rw_if hX (tgt := 46) (cnd := .ne) (off := 6) (by decide +kernel) (by decide) (fun h40 => ?_) (fun h40 => ?_)
        · replace h40 := of_decide_eq_true (zb_neT h40)
          obtain ⟨p, hp, rfl⟩ := rngO (m := 2) (by omega) h40
          have hcp : (nI p).toNatClampNeg = p := nI_clamp (by omega)
          refine rw_go hX [(46, .aload_n 0), (47, .iload_n 1)] (by decide +kernel) (Ps := []) (pc' := 48) (lv' := [(0, .ref 66), (1, .int (nI w)), (2, .int xz), (3, .int (nI m)), (4, .int xs), (5, .int (nI p))]) (st' := [.int (nI w), .ref 66]) (σ' := σ) rfl True.intro ?_
          refine rw_callVi hX (as := [.int (nI w)]) (rest := []) (m_there _ _ _ V w hV hv hw) (by decide +kernel) mvX10_isThere lk10_132 (ci := 9) rfl rfl rfl (by decide) (Nat.le_of_ble_eq_true rfl) rfl ?_
          intro r1 σ1 hr
          rw [hr.1, show r1 = bz (decide (0 < vS V w)) from hr.2]
          clear hr σ1 r1
          refine rw_if hX (tgt := 57) (cnd := .ne) (off := 6) (by decide +kernel) (by decide) (fun h51 => ?_) (fun h51 => ?_)
          · replace h51 := of_decide_eq_true (zb_neT h51)
            have hvsw : ¬ vS V w = 0 := by omega
            refine rw_go hX [(57, .iconst 0), (58, .istore 6), (60, .iconst 0), (61, .istore 7)] (by decide +kernel) (Ps := []) (pc' := 63) (lv' := [(0, .ref 66), (1, .int (nI w)), (2, .int xz), (3, .int (nI m)), (4, .int xs), (5, .int (nI p)), (6, .int (nI 0)), (7, .int (nI 0))]) (st' := []) (σ' := σ) rfl True.intro ?_
            have L63 : ∀ (μ63 : Nat) (i : Nat) (τ : Mm), μ63 = m - i → (i ≤ m) → (MQu σ τ) → RW E G 7 8 (QI E G (fun r σ' => r = aChance V (nI w) xz (nI m) xs (nI p) ∧ MQu σ σ')) 63 [(0, .ref 66), (1, .int (nI w)), (2, .int xz), (3, .int (nI m)), (4, .int xs), (5, .int (nI p)), (6, .int (nI (cB (chB V w xz xs) i))), (7, .int (nI i))] [] τ := by
              intro μ63
              induction μ63 using Nat.strongRecOn with
              | ind μ63 ih63 =>
                intro i τ hμ63 hi hqt
                have hVt : vw τ 67 = V := (vw_of (fun j hj => hqt.1 _ (by omega) (by omega) (by omega))).trans hV
                refine rw_go hX [(63, .iload 7), (65, .iload_n 3)] (by decide +kernel) (Ps := []) (pc' := 66) (lv' := [(0, .ref 66), (1, .int (nI w)), (2, .int xz), (3, .int (nI m)), (4, .int xs), (5, .int (nI p)), (6, .int (nI (cB (chB V w xz xs) i))), (7, .int (nI i))]) (st' := [.int (nI m), .int (nI i)]) (σ' := τ) rfl True.intro ?_
                refine rw_icmp hX (tgt := 101) (cnd := .ge) (off := 35) (by decide +kernel) (by decide) (fun h66 => ?_) (fun h66 => ?_)
                · replace h66 := c2_geT h66
                  have e : i = m := by omega
                  refine rw_go hX [(101, .iload 6), (103, .iload_n 3), (104, .iload 5)] (by decide +kernel) (Ps := []) (pc' := 106) (lv' := [(0, .ref 66), (1, .int (nI w)), (2, .int xz), (3, .int (nI m)), (4, .int xs), (5, .int (nI p)), (6, .int (nI (cB (chB V w xz xs) i))), (7, .int (nI i))]) (st' := [.int (nI p), .int (nI m), .int (nI (cB (chB V w xz xs) i))]) (σ' := τ) rfl True.intro ?_
                  refine rw_callSi hX (as := [.int (nI (cB (chB V w xz xs) i)), .int (nI m), .int (nI p)]) (rest := []) (m_lowest _ _ _ (cB (chB V w xz xs) i) m p (by have := cB_le (chB V w xz xs) i; omega) (by omega) (by omega) hp) (by decide +kernel) msX10_lowest (Or.inl lk10_253) rfl (by decide) (Nat.le_of_ble_eq_true rfl) rfl ?_
                  intro r1 σ1 hr
                  rw [hr.1, show r1 = nI (lowT (cB (chB V w xz xs) m) m p) from hr.2.trans (by rw [e])]
                  clear hr σ1 r1
                  exact rw_iret hX (by decide +kernel) (⟨by simp only [aChance, eq_true h4, hcw, eq_true h16, hcm, eq_false hm0, eq_false hm3, eq_true h29, eq_false hs0, eq_false hs9, eq_true h40, hcp, eq_true h51, eq_false hvsw, eq_true h66, if_true, if_false, Bool.false_eq_true, and_self, and_true, true_and, and_false, false_and, oel_n, oel_s, decide_true, decide_false], hqt⟩)
                · replace h66 := c2_geF h66
                  refine rw_go hX [(69, .iload 6), (71, .aload_n 0), (72, .iload_n 1), (73, .iload_n 2), (74, .iload 7), (76, .iadd), (77, .iconst 3), (78, .iconst 1)] (by decide +kernel) (Ps := []) (pc' := 79) (lv' := [(0, .ref 66), (1, .int (nI w)), (2, .int xz), (3, .int (nI m)), (4, .int xs), (5, .int (nI p)), (6, .int (nI (cB (chB V w xz xs) i))), (7, .int (nI i))]) (st' := [.int (nI 1), .int (nI 3), .int (xz + nI i), .int (nI w), .ref 66, .int (nI (cB (chB V w xz xs) i))]) (σ' := τ) rfl True.intro ?_
                  refine rw_callVi hX (as := [.int (nI w), .int (xz + nI i), .int (nI 3), .int (nI 1)]) (rest := [.int (nI (cB (chB V w xz xs) i))]) (m_drawnBy _ _ _ V w 3 1 (xz + nI i) hVt hv hw (by omega) (by omega) (by omega)) (by decide +kernel) mvX10_drawnBy lk10_291 (ci := 9) rfl rfl rfl (by decide) (Nat.le_of_ble_eq_true rfl) rfl ?_
                  intro r1 τ9 hr
                  rw [hr.1]
                  have hq9 := hr.2
                  refine rw_go hX [(82, .iload 4)] (by decide +kernel) (Ps := []) (pc' := 84) (lv' := [(0, .ref 66), (1, .int (nI w)), (2, .int xz), (3, .int (nI m)), (4, .int xs), (5, .int (nI p)), (6, .int (nI (cB (chB V w xz xs) i))), (7, .int (nI i))]) (st' := [.int xs, .int (nI (shV (drV V w (xz + nI i) 3) w 1)), .int (nI (cB (chB V w xz xs) i))]) (σ' := τ9) rfl True.intro ?_
                  refine rw_icmp hX (tgt := 91) (cnd := .lt) (off := 7) (by decide +kernel) (by decide) (fun h84 => ?_) (fun h84 => ?_)
                  · replace h84 : (nI (shV (drV V w (xz + nI i) 3) w 1) < xs) := h84
                    have hup : chB V w xz xs i = false := decide_eq_false (Int32.not_le.mpr h84)
                    refine rw_go hX [(91, .iconst 0), (92, .iadd)] (by decide +kernel) (Ps := []) (pc' := 93) (lv' := [(0, .ref 66), (1, .int (nI w)), (2, .int xz), (3, .int (nI m)), (4, .int xs), (5, .int (nI p)), (6, .int (nI (cB (chB V w xz xs) i))), (7, .int (nI i))]) (st' := [.int (nI (cB (chB V w xz xs) i) + nI 0)]) (σ' := τ9) rfl True.intro ?_
                    rw [show (nI (cB (chB V w xz xs) i) + nI 0) = nI (cB (chB V w xz xs) i + 0) from nI_add _ _]
                    refine rw_go hX [(93, .istore 6), (95, .iinc 7 1)] (by decide +kernel) (Ps := []) (pc' := 98) (lv' := [(0, .ref 66), (1, .int (nI w)), (2, .int xz), (3, .int (nI m)), (4, .int xs), (5, .int (nI p)), (6, .int (nI (cB (chB V w xz xs) i + 0))), (7, .int (nI i + nI 1))]) (st' := []) (σ' := τ9) rfl True.intro ?_
                    rw [show (nI i + nI 1) = nI (i + 1) from nI_add _ _]
                    refine rw_go hX [(98, .goto (-35))] (by decide +kernel) (Ps := []) (pc' := 63) (lv' := [(0, .ref 66), (1, .int (nI w)), (2, .int xz), (3, .int (nI m)), (4, .int xs), (5, .int (nI p)), (6, .int (nI (cB (chB V w xz xs) i + 0))), (7, .int (nI (i + 1)))]) (st' := []) (σ' := τ9) rfl True.intro ?_
                    refine rw_lsub (ks := [0, 1, 2, 3, 4, 5, 6, 7]) (lv' := [(0, .ref 66), (1, .int (nI w)), (2, .int xz), (3, .int (nI m)), (4, .int xs), (5, .int (nI p)), (6, .int (nI (cB (chB V w xz xs) i + 0))), (7, .int (nI (i + 1)))]) rfl ?_
                    have q := ih63 (m - (i + 1)) (by omega) (i + 1) _ rfl (by omega) (hqt.trans hq9)
                    rw [cB_n (k := i) hup] at q
                    exact q
                  · replace h84 : ¬ (nI (shV (drV V w (xz + nI i) 3) w 1) < xs) := h84
                    have hup : chB V w xz xs i = true := decide_eq_true (Int32.not_lt.mp h84)
                    refine rw_go hX [(87, .iconst 1), (88, .goto 4), (92, .iadd)] (by decide +kernel) (Ps := []) (pc' := 93) (lv' := [(0, .ref 66), (1, .int (nI w)), (2, .int xz), (3, .int (nI m)), (4, .int xs), (5, .int (nI p)), (6, .int (nI (cB (chB V w xz xs) i))), (7, .int (nI i))]) (st' := [.int (nI (cB (chB V w xz xs) i) + nI 1)]) (σ' := τ9) rfl True.intro ?_
                    rw [show (nI (cB (chB V w xz xs) i) + nI 1) = nI (cB (chB V w xz xs) i + 1) from nI_add _ _]
                    refine rw_go hX [(93, .istore 6), (95, .iinc 7 1)] (by decide +kernel) (Ps := []) (pc' := 98) (lv' := [(0, .ref 66), (1, .int (nI w)), (2, .int xz), (3, .int (nI m)), (4, .int xs), (5, .int (nI p)), (6, .int (nI (cB (chB V w xz xs) i + 1))), (7, .int (nI i + nI 1))]) (st' := []) (σ' := τ9) rfl True.intro ?_
                    rw [show (nI i + nI 1) = nI (i + 1) from nI_add _ _]
                    refine rw_go hX [(98, .goto (-35))] (by decide +kernel) (Ps := []) (pc' := 63) (lv' := [(0, .ref 66), (1, .int (nI w)), (2, .int xz), (3, .int (nI m)), (4, .int xs), (5, .int (nI p)), (6, .int (nI (cB (chB V w xz xs) i + 1))), (7, .int (nI (i + 1)))]) (st' := []) (σ' := τ9) rfl True.intro ?_
                    refine rw_lsub (ks := [0, 1, 2, 3, 4, 5, 6, 7]) (lv' := [(0, .ref 66), (1, .int (nI w)), (2, .int xz), (3, .int (nI m)), (4, .int xs), (5, .int (nI p)), (6, .int (nI (cB (chB V w xz xs) i + 1))), (7, .int (nI (i + 1)))]) rfl ?_
                    have q := ih63 (m - (i + 1)) (by omega) (i + 1) _ rfl (by omega) (hqt.trans hq9)
                    rw [cB_y (k := i) hup] at q
                    exact q
            refine rw_lsub (ks := [0, 1, 2, 3, 4, 5, 6, 7]) (lv' := [(0, .ref 66), (1, .int (nI w)), (2, .int xz), (3, .int (nI m)), (4, .int xs), (5, .int (nI p)), (6, .int (nI 0)), (7, .int (nI 0))]) rfl ?_
            exact L63 m 0 σ rfl (by omega) (MQu_rfl σ)
          · replace h51 := of_decide_eq_false (zb_neF h51)
            have hvsw : vS V w = 0 := by omega
            refine rw_go hX [(54, .bipush (-11))] (by decide +kernel) (Ps := []) (pc' := 56) (lv' := [(0, .ref 66), (1, .int (nI w)), (2, .int xz), (3, .int (nI m)), (4, .int xs), (5, .int (nI p))]) (st' := [.int (-(nI 11))]) (σ' := σ) rfl True.intro ?_
            exact rw_iret hX (by decide +kernel) (⟨by simp only [aChance, eq_true h4, hcw, eq_true h16, hcm, eq_false hm0, eq_false hm3, eq_true h29, eq_false hs0, eq_false hs9, eq_true h40, hcp, eq_false h51, eq_true hvsw, if_true, if_false, Bool.false_eq_true, and_self, and_true, true_and, and_false, false_and, oel_n, oel_s, decide_true, decide_false], MQu_rfl _⟩)
        · replace h40 := of_decide_eq_false (zb_neF h40)
          refine rw_go hX [(43, .bipush (-2))] (by decide +kernel) (Ps := []) (pc' := 45) (lv' := [(0, .ref 66), (1, .int (nI w)), (2, .int xz), (3, .int (nI m)), (4, .int xs), (5, .int xp)]) (st' := [.int (-(nI 2))]) (σ' := σ) rfl True.intro ?_
          exact rw_iret hX (by decide +kernel) (⟨by simp only [aChance, eq_true h4, hcw, eq_true h16, hcm, eq_false hm0, eq_false hm3, eq_true h29, eq_false hs0, eq_false hs9, eq_false h40, if_true, if_false, Bool.false_eq_true, and_self, and_true, true_and, and_false, false_and, oel_n, oel_s, decide_true, decide_false], MQu_rfl _⟩)
theorem lt_vw {σ V : Mm} (hV : vw σ 67 = V) (u : Nat) : vw (sw σ 68 u (nI 0)) 67 = ltV V u := by
  funext j
  unfold vw
  by_cases h : j < 5
  · rw [if_pos h]
    by_cases e : j = 1
    · subst e
      rw [show 67 + 1 = 68 from rfl, sw_row]
      show upd (σ 68) u (nI 0) = upd (V 1) u (nI 0)
      rw [← vw_at hV 1 (by decide)]
    · rw [ltV_n V u e, sw_ne _ _ _ (by omega)]
      exact vw_at hV j h
  · have e : ¬ j = 1 := by omega
    rw [if_neg h, ltV_n V u e, ← hV]
    unfold vw
    rw [if_neg h]
theorem MQu_w {σ τ τ1 : Mm} {u : Nat} (hF : FAN (sw σ 68 u (nI 0)) τ1) (h : MQu τ1 τ) : MQu σ (sw τ 68 u (σ 68 u)) := by
  have e : ∀ k, k < 75 ∨ 91 < k → k ≠ 68 → τ1 k = σ k := fun k h1 h2 => (hF k (by omega)).trans (sw_ne _ _ _ h2)
  refine ⟨fun k h1 h2 h3 => ?_, ?_, ?_⟩
  · by_cases q : k = 68
    · subst q
      rw [sw_row, h.1 68 h1 h2 h3, hF 68 (by omega), sw_row]
      funext p
      by_cases g : p = u
      · subst g; rw [upd_s]
      · rw [upd_n _ _ g, upd_n _ _ g]
    · rw [sw_ne _ _ _ q]; exact (h.1 k h1 h2 h3).trans (e k h1 q)
  · rw [sw_ne _ _ _ (by decide)]; exact h.2.1.trans (congrFun (e 66 (by omega) (by omega)) 6)
  · rw [sw_ne _ _ _ (by decide)]; exact h.2.2.trans (congrFun (e 66 (by omega) (by omega)) 8)
set_option maxRecDepth 20000 in
set_option maxHeartbeats 800000 in
theorem g_without (l : Launch) (G : Gl) (σ : Mm) (V : Mm) (xw xo : Int32) (hV : vw σ 67 = V) (hv : wf V) : AMi l G 6 mX10_without [.ref 66, .int xw, .int xo] σ (fun r σ' => r = aWithout V xw xo ∧ MQu σ σ') := by
  refine rw_inI 10 (by decide +kernel) rfl rfl ?_
  intro E hE hX
  subst hE
  have hLs := wf_L hv
  refine rw_go hX [(0, .iload_n 1)] (by decide +kernel) (Ps := []) (pc' := 1) (lv' := [(0, .ref 66), (1, .int xw), (2, .int xo)]) (st' := [.int xw]) (σ' := σ) rfl True.intro ?_
  refine rw_callSi hX (as := [.int xw]) (rest := []) (m_isWork _ _ _ (xw)) (by decide +kernel) msX10_isWork (Or.inl lk10_157) rfl (by decide) (Nat.le_of_ble_eq_true rfl) rfl ?_
  intro r1 σ1 hr
  rw [hr.1, show r1 = bz (decide (0 ≤ xw ∧ xw ≤ 4)) from hr.2]
  clear hr σ1 r1
  refine rw_if hX (tgt := 19) (cnd := .eq) (off := 15) (by decide +kernel) (by decide) (fun h4 => ?_) (fun h4 => ?_)
  · replace h4 := of_decide_eq_false (zb_eqT h4)
    have htw : ¬ tw xw xo := fun z => h4 ⟨z.1, z.2.1⟩
    refine rw_go hX [(19, .bipush (-2))] (by decide +kernel) (Ps := []) (pc' := 21) (lv' := [(0, .ref 66), (1, .int xw), (2, .int xo)]) (st' := [.int (-(nI 2))]) (σ' := σ) rfl True.intro ?_
    exact rw_iret hX (by decide +kernel) (⟨by simp only [aWithout, eq_false h4, eq_false htw, if_true, if_false, Bool.false_eq_true, and_self, and_true, true_and, and_false, false_and, oel_n, oel_s, decide_true, decide_false], MQu_rfl _⟩)
  · replace h4 := of_decide_eq_true (zb_eqF h4)
    refine rw_go hX [(7, .iload_n 2)] (by decide +kernel) (Ps := []) (pc' := 8) (lv' := [(0, .ref 66), (1, .int xw), (2, .int xo)]) (st' := [.int xo]) (σ' := σ) rfl True.intro ?_
    refine rw_callSi hX (as := [.int xo]) (rest := []) (m_isWork _ _ _ (xo)) (by decide +kernel) msX10_isWork (Or.inl lk10_157) rfl (by decide) (Nat.le_of_ble_eq_true rfl) rfl ?_
    intro r1 σ1 hr
    rw [hr.1, show r1 = bz (decide (0 ≤ xo ∧ xo ≤ 4)) from hr.2]
    clear hr σ1 r1
    refine rw_if hX (tgt := 19) (cnd := .eq) (off := 8) (by decide +kernel) (by decide) (fun h11 => ?_) (fun h11 => ?_)
    · replace h11 := of_decide_eq_false (zb_eqT h11)
      have htw : ¬ tw xw xo := fun z => h11 ⟨z.2.2.1, z.2.2.2.1⟩
      refine rw_go hX [(19, .bipush (-2))] (by decide +kernel) (Ps := []) (pc' := 21) (lv' := [(0, .ref 66), (1, .int xw), (2, .int xo)]) (st' := [.int (-(nI 2))]) (σ' := σ) rfl True.intro ?_
      exact rw_iret hX (by decide +kernel) (⟨by simp only [aWithout, eq_true h4, eq_false h11, eq_false htw, if_true, if_false, Bool.false_eq_true, and_self, and_true, true_and, and_false, false_and, oel_n, oel_s, decide_true, decide_false], MQu_rfl _⟩)
    · replace h11 := of_decide_eq_true (zb_eqF h11)
      refine rw_go hX [(14, .iload_n 1), (15, .iload_n 2)] (by decide +kernel) (Ps := []) (pc' := 16) (lv' := [(0, .ref 66), (1, .int xw), (2, .int xo)]) (st' := [.int xo, .int xw]) (σ' := σ) rfl True.intro ?_
      refine rw_icmp hX (tgt := 22) (cnd := .ne) (off := 6) (by decide +kernel) (by decide) (fun h16 => ?_) (fun h16 => ?_)
      · replace h16 : (xw ≠ xo) := h16
        have htw0 : tw xw xo := ⟨h4.1, h4.2, h11.1, h11.2, h16⟩
        obtain ⟨w, u, ⟨hw, hu⟩, ⟨rfl, rfl⟩, hwu⟩ := tw_n htw0
        have htw : tw (nI w) (nI u) := htw0
        have hcw : (nI w).toNatClampNeg = w := nI_clamp (by omega)
        have hcu : (nI u).toNatClampNeg = u := nI_clamp (by omega)
        refine rw_go hX [(22, .aload_n 0), (23, .iload_n 1)] (by decide +kernel) (Ps := []) (pc' := 24) (lv' := [(0, .ref 66), (1, .int (nI w)), (2, .int (nI u))]) (st' := [.int (nI w), .ref 66]) (σ' := σ) rfl True.intro ?_
        refine rw_callVi hX (as := [.int (nI w)]) (rest := []) (m_there _ _ _ V w hV hv hw) (by decide +kernel) mvX10_isThere lk10_132 (ci := 9) rfl rfl rfl (by decide) (Nat.le_of_ble_eq_true rfl) rfl ?_
        intro r1 σ1 hr
        rw [hr.1, show r1 = bz (decide (0 < vS V w)) from hr.2]
        clear hr σ1 r1
        refine rw_if hX (tgt := 38) (cnd := .eq) (off := 11) (by decide +kernel) (by decide) (fun h27 => ?_) (fun h27 => ?_)
        · replace h27 := of_decide_eq_false (zb_eqT h27)
          have hvsw : vS V w = 0 := by omega
          refine rw_go hX [(38, .bipush (-11))] (by decide +kernel) (Ps := []) (pc' := 40) (lv' := [(0, .ref 66), (1, .int (nI w)), (2, .int (nI u))]) (st' := [.int (-(nI 11))]) (σ' := σ) rfl True.intro ?_
          exact rw_iret hX (by decide +kernel) (⟨by simp only [aWithout, eq_true h4, eq_true h11, eq_false h16, hcw, hcu, eq_true htw, eq_false h27, eq_true hvsw, if_true, if_false, Bool.false_eq_true, and_self, and_true, true_and, and_false, false_and, oel_n, oel_s, decide_true, decide_false], MQu_rfl _⟩)
        · replace h27 := of_decide_eq_true (zb_eqF h27)
          have hvsw : ¬ vS V w = 0 := by omega
          refine rw_go hX [(30, .aload_n 0), (31, .iload_n 2)] (by decide +kernel) (Ps := []) (pc' := 32) (lv' := [(0, .ref 66), (1, .int (nI w)), (2, .int (nI u))]) (st' := [.int (nI u), .ref 66]) (σ' := σ) rfl True.intro ?_
          refine rw_callVi hX (as := [.int (nI u)]) (rest := []) (m_there _ _ _ V u hV hv hu) (by decide +kernel) mvX10_isThere lk10_132 (ci := 9) rfl rfl rfl (by decide) (Nat.le_of_ble_eq_true rfl) rfl ?_
          intro r1 σ1 hr
          rw [hr.1, show r1 = bz (decide (0 < vS V u)) from hr.2]
          clear hr σ1 r1
          refine rw_if hX (tgt := 41) (cnd := .ne) (off := 6) (by decide +kernel) (by decide) (fun h35 => ?_) (fun h35 => ?_)
          · replace h35 := of_decide_eq_true (zb_neT h35)
            have hvsu : ¬ vS V u = 0 := by omega
            refine rw_go hX [(41, .aload_n 0), (42, .getfield 13), (45, .iload_n 2), (46, .iaload)] (by decide +kernel) (Ps := [vp_in (nI u) 5]) (pc' := 47) (lv' := [(0, .ref 66), (1, .int (nI w)), (2, .int (nI u))]) (st' := [.int (σ 68 (nI u).toNatClampNeg)]) (σ' := σ) rfl (vp_in_nI (by omega) (by omega)) ?_
            rw [show (σ 68 (nI u).toNatClampNeg) = σ 68 u from (by rw [nI_clamp (by omega)])]
            refine rw_go hX [(47, .istore_n 3), (48, .aload_n 0), (49, .getfield 13), (52, .iload_n 2), (53, .iconst 0), (54, .iastore)] (by decide +kernel) (Ps := [vp_in (nI u) 5]) (pc' := 55) (lv' := [(0, .ref 66), (1, .int (nI w)), (2, .int (nI u)), (3, .int (σ 68 u))]) (st' := []) (σ' := sw σ 68 (nI u).toNatClampNeg (nI 0)) rfl (vp_in_nI (by omega) (by omega)) ?_
            rw [show (sw σ 68 (nI u).toNatClampNeg (nI 0)) = sw σ 68 u (nI 0) from (by rw [nI_clamp (by omega)])]
            refine rw_go hX [(55, .aload_n 0)] (by decide +kernel) (Ps := []) (pc' := 56) (lv' := [(0, .ref 66), (1, .int (nI w)), (2, .int (nI u)), (3, .int (σ 68 u))]) (st' := [.ref 66]) (σ' := sw σ 68 u (nI 0)) rfl True.intro ?_
            refine rw_callVv hX (as := []) (rest := []) (m_anew _ _ _ (ltV V u) (lt_vw hV u) (wf_lt hv u)) (by decide +kernel) mvX10_anew lk10_220 (ci := 9) rfl rfl rfl (by decide) (Nat.le_of_ble_eq_true rfl) rfl ?_
            intro τ1 ht1
            obtain ⟨hAN, hFN⟩ := ht1
            have hvW := wf_lt hv u
            have hV1 : vw τ1 67 = (ltV V u) := (vw_of (fun j hj => hFN _ (by omega))).trans (lt_vw hV u)
            have h71 : τ1 71 = V 4 := (vw_at hV1 4 (by omega)).trans (ltV_n V u (by decide))
            refine rw_go hX [(59, .aload_n 0), (60, .iload_n 1), (61, .aload_n 0), (62, .getfield 22), (65, .iconst 4), (66, .iaload)] (by decide +kernel) (Ps := [vp_in (nI 4) 6]) (pc' := 67) (lv' := [(0, .ref 66), (1, .int (nI w)), (2, .int (nI u)), (3, .int (σ 68 u))]) (st' := [.int (τ1 71 (nI 4).toNatClampNeg), .int (nI w), .ref 66]) (σ' := τ1) rfl (vp_in_nI (by omega) (by omega)) ?_
            rw [show (τ1 71 (nI 4).toNatClampNeg) = nI (vR V 4) from (by rw [nI_clamp (by omega), h71, hLs.1])]
            refine rw_callVv hX (as := [.int (nI w), .int (nI (vR V 4))]) (rest := []) (m_sources _ _ _ (ltV V u) w (vR V 4) hV1 hvW hw hAN (by omega) (by omega)) (by decide +kernel) mvX10_sources lk10_267 (ci := 9) rfl rfl rfl (by decide) (Nat.le_of_ble_eq_true rfl) rfl ?_
            intro τ2 ht2
            obtain ⟨hSr, hAN2, hM9⟩ := ht2
            have hqz := MQu_w hFN hM9
            have hL5 := lC_50 hvW hw
            have hs5 := sT_5 hvW hw (vR V 4)
            have hR := hAN2.1 w hw
            have hR1 : (sw τ2 68 u (σ 68 u)) 77 w = nI (lC (ltV V u) w) := by rw [sw_ne _ _ _ (by decide)]; exact hR.1.1
            have hS1 : ∀ i, i < 50 → (sw τ2 68 u (σ 68 u)) 88 i = en (sT (ltV V u) w (vR V 4) i) := fun i hi => by rw [sw_ne _ _ _ (by decide)]; exact hSr i hi
            refine rw_go hX [(70, .aload_n 0), (71, .getfield 13), (74, .iload_n 2), (75, .iload_n 3), (76, .iastore)] (by decide +kernel) (Ps := [vp_in (nI u) 5]) (pc' := 77) (lv' := [(0, .ref 66), (1, .int (nI w)), (2, .int (nI u)), (3, .int (σ 68 u))]) (st' := []) (σ' := sw τ2 68 (nI u).toNatClampNeg (σ 68 u)) rfl (vp_in_nI (by omega) (by omega)) ?_
            rw [show (sw τ2 68 (nI u).toNatClampNeg (σ 68 u)) = sw τ2 68 u (σ 68 u) from (by rw [nI_clamp (by omega)])]
            refine rw_go hX [(77, .aload_n 0), (78, .iload_n 1)] (by decide +kernel) (Ps := []) (pc' := 79) (lv' := [(0, .ref 66), (1, .int (nI w)), (2, .int (nI u)), (3, .int (σ 68 u))]) (st' := [.int (nI w), .ref 66]) (σ' := sw τ2 68 u (σ 68 u)) rfl True.intro ?_
            refine rw_callVi hX (as := [.int (nI w)]) (rest := []) (m_covered _ _ _ (sT (ltV V u) w (vR V 4)) (lC (ltV V u) w) w hw hR1 hL5 hS1 hs5) (by decide +kernel) mvX10_covered lk10_261 (ci := 9) rfl rfl rfl (by decide) (Nat.le_of_ble_eq_true rfl) rfl ?_
            intro r1 σ1 hr
            rw [hr.1, show r1 = nI (cvV (ltV V u) w) from hr.2]
            clear hr σ1 r1
            exact rw_iret hX (by decide +kernel) (⟨by simp only [aWithout, eq_true h4, eq_true h11, eq_false h16, hcw, hcu, eq_true htw, eq_true h27, eq_false hvsw, eq_true h35, eq_false hvsu, if_true, if_false, Bool.false_eq_true, and_self, and_true, true_and, and_false, false_and, oel_n, oel_s, decide_true, decide_false], hqz⟩)
          · replace h35 := of_decide_eq_false (zb_neF h35)
            have hvsu : vS V u = 0 := by omega
            refine rw_go hX [(38, .bipush (-11))] (by decide +kernel) (Ps := []) (pc' := 40) (lv' := [(0, .ref 66), (1, .int (nI w)), (2, .int (nI u))]) (st' := [.int (-(nI 11))]) (σ' := σ) rfl True.intro ?_
            exact rw_iret hX (by decide +kernel) (⟨by simp only [aWithout, eq_true h4, eq_true h11, eq_false h16, hcw, hcu, eq_true htw, eq_true h27, eq_false hvsw, eq_false h35, eq_true hvsu, if_true, if_false, Bool.false_eq_true, and_self, and_true, true_and, and_false, false_and, oel_n, oel_s, decide_true, decide_false], MQu_rfl _⟩)
      · replace h16 : xw = xo := Classical.not_not.mp h16
        have htw : ¬ tw xw xo := fun z => z.2.2.2.2 h16
        refine rw_go hX [(19, .bipush (-2))] (by decide +kernel) (Ps := []) (pc' := 21) (lv' := [(0, .ref 66), (1, .int xw), (2, .int xo)]) (st' := [.int (-(nI 2))]) (σ' := σ) rfl True.intro ?_
        exact rw_iret hX (by decide +kernel) (⟨by simp only [aWithout, eq_true h4, eq_true h11, eq_true h16, eq_false htw, if_true, if_false, Bool.false_eq_true, and_self, and_true, true_and, and_false, false_and, oel_n, oel_s, decide_true, decide_false], MQu_rfl _⟩)
