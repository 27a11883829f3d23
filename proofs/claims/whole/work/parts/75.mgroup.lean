/-! the model: groups -/
set_option maxRecDepth 20000 in
set_option maxHeartbeats 800000 in
theorem g_group (l : Launch) (G : Gl) (σ : Mm) (V : Mm) (xw : Int32) (hV : vw σ 67 = V) (hv : wf V) : AMi l G 6 mX10_group [.ref 66, .int xw] σ (fun r σ' => pGroup V xw r ∧ MQu σ σ') := by
  refine rw_inI 10 (by decide +kernel) rfl rfl ?_
  intro E hE hX
  subst hE
  refine rw_go hX [(0, .iload_n 1)] (by decide +kernel) (Ps := []) (pc' := 1) (lv' := [(0, .ref 66), (1, .int xw)]) (st' := [.int xw]) (σ' := σ) rfl True.intro ?_
  refine rw_callSi hX (as := [.int xw]) (rest := []) (m_isWork _ _ _ (xw)) (by decide +kernel) msX10_isWork (Or.inl lk10_157) rfl (by decide) (Nat.le_of_ble_eq_true rfl) rfl ?_
  intro r1 σ1 hr
  rw [hr.1, show r1 = bz (decide (0 ≤ xw ∧ xw ≤ 4)) from hr.2]
  clear hr σ1 r1
  refine rw_if hX (tgt := 10) (cnd := .ne) (off := 6) (by decide +kernel) (by decide) (fun h4 => ?_) (fun h4 => ?_)
  · replace h4 := of_decide_eq_true (zb_neT h4)
    obtain ⟨w, hw, rfl⟩ := rng (m := 4) (by omega) h4
    have hw : w < 5 := hw
    have hcw : (nI w).toNatClampNeg = w := nI_clamp (by omega)
    refine rw_go hX [(10, .aload_n 0), (11, .iload_n 1)] (by decide +kernel) (Ps := []) (pc' := 12) (lv' := [(0, .ref 66), (1, .int (nI w))]) (st' := [.int (nI w), .ref 66]) (σ' := σ) rfl True.intro ?_
    refine rw_callVi hX (as := [.int (nI w)]) (rest := []) (m_there _ _ _ V w hV hv hw) (by decide +kernel) mvX10_isThere lk10_132 (ci := 9) rfl rfl rfl (by decide) (Nat.le_of_ble_eq_true rfl) rfl ?_
    intro r1 σ1 hr
    rw [hr.1, show r1 = bz (decide (0 < vS V w)) from hr.2]
    clear hr σ1 r1
    refine rw_if hX (tgt := 21) (cnd := .ne) (off := 6) (by decide +kernel) (by decide) (fun h15 => ?_) (fun h15 => ?_)
    · replace h15 := of_decide_eq_true (zb_neT h15)
      have hvsw : ¬ vS V w = 0 := by omega
      refine rw_go hX [(21, .aload_n 0)] (by decide +kernel) (Ps := []) (pc' := 22) (lv' := [(0, .ref 66), (1, .int (nI w))]) (st' := [.ref 66]) (σ' := σ) rfl True.intro ?_
      refine rw_callVv hX (as := []) (rest := []) (m_anew _ _ _ V hV hv) (by decide +kernel) mvX10_anew lk10_220 (ci := 9) rfl rfl rfl (by decide) (Nat.le_of_ble_eq_true rfl) rfl ?_
      intro τ1 ht1
      obtain ⟨hAN, hFN⟩ := ht1
      have hq1 := MQu_A hFN
      have hV1 : vw τ1 67 = V := (vw_of (fun j hj => hFN _ (by omega))).trans hV
      have h71 : τ1 71 = V 4 := vw_at hV1 4 (by omega)
      refine rw_go hX [(25, .iconst 1), (26, .iload_n 1), (27, .ishl)] (by decide +kernel) (Ps := []) (pc' := 28) (lv' := [(0, .ref 66), (1, .int (nI w))]) (st' := [.int ((nI 1) <<< ((nI w) &&& 31))]) (σ' := τ1) rfl True.intro ?_
      rw [show ((nI 1) <<< ((nI w) &&& 31)) = nI (2 ^ w) from shl_nI hw]
      refine rw_go hX [(28, .istore_n 2), (29, .iconst 0), (30, .istore_n 3)] (by decide +kernel) (Ps := []) (pc' := 31) (lv' := [(0, .ref 66), (1, .int (nI w)), (2, .int (nI (2 ^ w))), (3, .int (nI 0))]) (st' := []) (σ' := τ1) rfl True.intro ?_
      have L31 : ∀ (μ31 : Nat) (S W : Nat) (τ : Mm), μ31 = 6 - pop W → (S < 32) → (W < 32) → (GRm (bd V) w S) → (∀ b, b < 5 → W.testBit b = true → S.testBit b = true) → (S = W → GRc (bd V) S) → (AN V τ) → (MQu σ τ) → RW E G 6 7 (QI E G (fun r σ' => pGroup V (nI w) r ∧ MQu σ σ')) 31 [(0, .ref 66), (1, .int (nI w)), (2, .int (nI S)), (3, .int (nI W))] [] τ := by
        intro μ31
        induction μ31 using Nat.strongRecOn with
        | ind μ31 ih31 =>
          intro S W τ hμ31 hS32 hW32 hG hWS hcl hANs hqs
          refine rw_go hX [(31, .iload_n 2), (32, .iload_n 3)] (by decide +kernel) (Ps := []) (pc' := 33) (lv' := [(0, .ref 66), (1, .int (nI w)), (2, .int (nI S)), (3, .int (nI W))]) (st' := [.int (nI W), .int (nI S)]) (σ' := τ) rfl True.intro ?_
          refine rw_icmp hX (tgt := 126) (cnd := .eq) (off := 93) (by decide +kernel) (by decide) (fun h33 => ?_) (fun h33 => ?_)
          · replace h33 := c2_eqT h33
            refine rw_go hX [(126, .iload_n 2)] (by decide +kernel) (Ps := []) (pc' := 127) (lv' := [(0, .ref 66), (1, .int (nI w)), (2, .int (nI S)), (3, .int (nI W))]) (st' := [.int (nI S)]) (σ' := τ) rfl True.intro ?_
            exact rw_iret hX (by decide +kernel) (⟨by simp only [pGroup, eq_true h4, hcw, eq_false hvsw, if_true, if_false, Bool.false_eq_true, and_self, and_true, true_and, and_false, false_and, oel_n, oel_s, decide_true, decide_false]; exact ⟨S, ⟨hG, hcl h33⟩, rfl⟩, hqs⟩)
          · replace h33 := c2_eqF h33
            refine rw_go hX [(36, .iload_n 2), (37, .istore_n 3), (38, .iconst 0), (39, .istore 4)] (by decide +kernel) (Ps := []) (pc' := 41) (lv' := [(0, .ref 66), (1, .int (nI w)), (2, .int (nI S)), (3, .int (nI S)), (4, .int (nI 0))]) (st' := []) (σ' := τ) rfl True.intro ?_
            have L41 : ∀ (μ41 : Nat) (c T : Nat) (τ : Mm), μ41 = 25 - c → (c ≤ 25) → (T < 32) → (GRm (bd V) w T) → (∀ b, b < 5 → S.testBit b = true → T.testBit b = true) → (T = S → ∀ k, k < c → S.testBit (k / 5) = true → bd V (k / 5) (k % 5) = true → S.testBit (k % 5) = true) → (AN V τ) → (MQu σ τ) → RW E G 6 7 (QI E G (fun r σ' => pGroup V (nI w) r ∧ MQu σ σ')) 41 [(0, .ref 66), (1, .int (nI w)), (2, .int (nI T)), (3, .int (nI S)), (4, .int (nI c))] [] τ := by
              intro μ41
              induction μ41 using Nat.strongRecOn with
              | ind μ41 ih41 =>
                intro c T τ hμ41 hc hT32 hGT hsub hin hANt hqt
                have hVt : vw τ 67 = V := (vw_of (fun j hj => hqt.1 _ (by omega) (by omega) (by omega))).trans hV
                have hANz := hANt
                have hqz := hqt
                refine rw_go hX [(41, .iload 4), (43, .bipush 25)] (by decide +kernel) (Ps := []) (pc' := 45) (lv' := [(0, .ref 66), (1, .int (nI w)), (2, .int (nI T)), (3, .int (nI S)), (4, .int (nI c))]) (st' := [.int (nI 25), .int (nI c)]) (σ' := τ) rfl True.intro ?_
                refine rw_icmp hX (tgt := 123) (cnd := .ge) (off := 78) (by decide +kernel) (by decide) (fun h45 => ?_) (fun h45 => ?_)
                · replace h45 := c2_geT h45
                  have ec : c = 25 := by omega
                  rw [ec] at hin
                  refine rw_go hX [(123, .goto (-92))] (by decide +kernel) (Ps := []) (pc' := 31) (lv' := [(0, .ref 66), (1, .int (nI w)), (2, .int (nI T)), (3, .int (nI S)), (4, .int (nI c))]) (st' := []) (σ' := τ) rfl True.intro ?_
                  refine rw_lsub (ks := [0, 1, 2, 3]) (lv' := [(0, .ref 66), (1, .int (nI w)), (2, .int (nI T)), (3, .int (nI S))]) rfl ?_
                  have hlt := pop_lt hW32 hS32 hWS (fun z => h33 z.symm)
                  have h5 : pop S ≤ 5 := cB_le _ 5
                  refine ih31 (6 - pop S) (by omega) T S _ rfl hT32 hS32 hGT hsub (fun z a b ha hb g1 g2 => ?_) hANt hqt
                  have g := hin z (5 * a + b) (by omega)
                  rw [show (5 * a + b) / 5 = a by omega, show (5 * a + b) % 5 = b by omega] at g
                  rw [z] at g1 ⊢
                  exact g g1 g2
                · replace h45 := c2_geF h45
                  refine rw_go hX [(48, .iload 4), (50, .iconst 5), (51, .idiv)] (by decide +kernel) (Ps := [¬ (nI 5) = 0]) (pc' := 52) (lv' := [(0, .ref 66), (1, .int (nI w)), (2, .int (nI T)), (3, .int (nI S)), (4, .int (nI c))]) (st' := [.int (nI c / nI 5)]) (σ' := τ) rfl (show ¬ nI 5 = 0 from by decide +kernel) ?_
                  rw [show (nI c / nI 5) = nI (c / 5) from pk_div (by omega) (by omega) (by omega)]
                  refine rw_go hX [(52, .istore 5), (54, .iload 4), (56, .iconst 5), (57, .irem)] (by decide +kernel) (Ps := [¬ (nI 5) = 0]) (pc' := 58) (lv' := [(0, .ref 66), (1, .int (nI w)), (2, .int (nI T)), (3, .int (nI S)), (4, .int (nI c)), (5, .int (nI (c / 5)))]) (st' := [.int (nI c - nI c / nI 5 * nI 5)]) (σ' := τ) rfl (show ¬ nI 5 = 0 from by decide +kernel) ?_
                  rw [show (nI c - nI c / nI 5 * nI 5) = nI (c % 5) from pk_rem (by omega) (by omega) (by omega)]
                  refine rw_go hX [(58, .istore 6), (60, .iload_n 2), (61, .iload 5), (63, .ishr), (64, .iconst 1), (65, .iand)] (by decide +kernel) (Ps := []) (pc' := 66) (lv' := [(0, .ref 66), (1, .int (nI w)), (2, .int (nI T)), (3, .int (nI S)), (4, .int (nI c)), (5, .int (nI (c / 5))), (6, .int (nI (c % 5)))]) (st' := [.int (((nI T) >>> ((nI (c / 5)) &&& 31)) &&& nI 1)]) (σ' := τ) rfl True.intro ?_
                  rw [show (((nI T) >>> ((nI (c / 5)) &&& 31)) &&& nI 1) = nI (b1N (T.testBit (c / 5))) from bit_nI hT32 (by omega)]
                  refine rw_go hX [(66, .iconst 1)] (by decide +kernel) (Ps := []) (pc' := 67) (lv' := [(0, .ref 66), (1, .int (nI w)), (2, .int (nI T)), (3, .int (nI S)), (4, .int (nI c)), (5, .int (nI (c / 5))), (6, .int (nI (c % 5)))]) (st' := [.int (nI 1), .int (nI (b1N (T.testBit (c / 5))))]) (σ' := τ) rfl True.intro ?_
                  refine rw_icmp hX (tgt := 117) (cnd := .ne) (off := 50) (by decide +kernel) (by decide) (fun h67 => ?_) (fun h67 => ?_)
                  · have hba : T.testBit (c / 5) = false := by
                      cases z : T.testBit (c / 5) with
                      | false => rfl
                      | true =>
                        rw [z] at h67
                        exact absurd rfl h67
                    have hno : T.testBit (c / 5) = true → bd V (c / 5) (c % 5) = true → T.testBit (c % 5) = true := fun z _ => by rw [hba] at z; cases z
                    refine rw_go hX [(117, .iinc 4 1)] (by decide +kernel) (Ps := []) (pc' := 120) (lv' := [(0, .ref 66), (1, .int (nI w)), (2, .int (nI T)), (3, .int (nI S)), (4, .int (nI c + nI 1)), (5, .int (nI (c / 5))), (6, .int (nI (c % 5)))]) (st' := []) (σ' := τ) rfl True.intro ?_
                    rw [show (nI c + nI 1) = nI (c + 1) from nI_add _ _]
                    refine rw_go hX [(120, .goto (-79))] (by decide +kernel) (Ps := []) (pc' := 41) (lv' := [(0, .ref 66), (1, .int (nI w)), (2, .int (nI T)), (3, .int (nI S)), (4, .int (nI (c + 1))), (5, .int (nI (c / 5))), (6, .int (nI (c % 5)))]) (st' := []) (σ' := τ) rfl True.intro ?_
                    refine rw_lsub (ks := [0, 1, 2, 3, 4]) (lv' := [(0, .ref 66), (1, .int (nI w)), (2, .int (nI T)), (3, .int (nI S)), (4, .int (nI (c + 1)))]) rfl ?_
                    refine ih41 (25 - (c + 1)) (by omega) (c + 1) T _ rfl (by omega) hT32 hGT hsub (fun z k hk g1 g2 => ?_) hANz hqz
                    rcases Nat.lt_or_ge k c with q | q
                    · exact hin z k q g1 g2
                    · have ek : k = c := by omega
                      rw [ek] at g1 g2 ⊢
                      rw [← z] at g1 ⊢
                      exact hno g1 g2
                  · have hba : T.testBit (c / 5) = true := by
                      cases z : T.testBit (c / 5) with
                      | true => rfl
                      | false =>
                        rw [z] at h67
                        exact absurd (show (nI (b1N false) : Int32) ≠ nI 1 by decide +kernel) h67
                    refine rw_go hX [(70, .iload_n 2), (71, .iload 6), (73, .ishr), (74, .iconst 1), (75, .iand)] (by decide +kernel) (Ps := []) (pc' := 76) (lv' := [(0, .ref 66), (1, .int (nI w)), (2, .int (nI T)), (3, .int (nI S)), (4, .int (nI c)), (5, .int (nI (c / 5))), (6, .int (nI (c % 5)))]) (st' := [.int (((nI T) >>> ((nI (c % 5)) &&& 31)) &&& nI 1)]) (σ' := τ) rfl True.intro ?_
                    rw [show (((nI T) >>> ((nI (c % 5)) &&& 31)) &&& nI 1) = nI (b1N (T.testBit (c % 5))) from bit_nI hT32 (by omega)]
                    refine rw_if hX (tgt := 117) (cnd := .ne) (off := 41) (by decide +kernel) (by decide) (fun h76 => ?_) (fun h76 => ?_)
                    · have hbb : T.testBit (c % 5) = true := by
                        cases z : T.testBit (c % 5) with
                        | true => rfl
                        | false =>
                          rw [z] at h76
                          exact absurd (show (nI (b1N false) : Int32) = 0 by decide +kernel) h76
                      have hno : T.testBit (c / 5) = true → bd V (c / 5) (c % 5) = true → T.testBit (c % 5) = true := fun _ _ => hbb
                      refine rw_go hX [(117, .iinc 4 1)] (by decide +kernel) (Ps := []) (pc' := 120) (lv' := [(0, .ref 66), (1, .int (nI w)), (2, .int (nI T)), (3, .int (nI S)), (4, .int (nI c + nI 1)), (5, .int (nI (c / 5))), (6, .int (nI (c % 5)))]) (st' := []) (σ' := τ) rfl True.intro ?_
                      rw [show (nI c + nI 1) = nI (c + 1) from nI_add _ _]
                      refine rw_go hX [(120, .goto (-79))] (by decide +kernel) (Ps := []) (pc' := 41) (lv' := [(0, .ref 66), (1, .int (nI w)), (2, .int (nI T)), (3, .int (nI S)), (4, .int (nI (c + 1))), (5, .int (nI (c / 5))), (6, .int (nI (c % 5)))]) (st' := []) (σ' := τ) rfl True.intro ?_
                      refine rw_lsub (ks := [0, 1, 2, 3, 4]) (lv' := [(0, .ref 66), (1, .int (nI w)), (2, .int (nI T)), (3, .int (nI S)), (4, .int (nI (c + 1)))]) rfl ?_
                      refine ih41 (25 - (c + 1)) (by omega) (c + 1) T _ rfl (by omega) hT32 hGT hsub (fun z k hk g1 g2 => ?_) hANz hqz
                      rcases Nat.lt_or_ge k c with q | q
                      · exact hin z k q g1 g2
                      · have ek : k = c := by omega
                        rw [ek] at g1 g2 ⊢
                        rw [← z] at g1 ⊢
                        exact hno g1 g2
                    · have hbb : T.testBit (c % 5) = false := by
                        cases z : T.testBit (c % 5) with
                        | false => rfl
                        | true =>
                          rw [z] at h76
                          exact absurd (show (nI (b1N true) : Int32) ≠ 0 by decide +kernel) h76
                      have hne : c / 5 ≠ c % 5 := fun z => by rw [z, hbb] at hba; cases hba
                      refine rw_go hX [(79, .aload_n 0), (80, .iload 6)] (by decide +kernel) (Ps := []) (pc' := 82) (lv' := [(0, .ref 66), (1, .int (nI w)), (2, .int (nI T)), (3, .int (nI S)), (4, .int (nI c)), (5, .int (nI (c / 5))), (6, .int (nI (c % 5)))]) (st' := [.int (nI (c % 5)), .ref 66]) (σ' := τ) rfl True.intro ?_
                      refine rw_callVi hX (as := [.int (nI (c % 5))]) (rest := []) (m_there _ _ _ V (c % 5) hVt hv (by omega)) (by decide +kernel) mvX10_isThere lk10_132 (ci := 9) rfl rfl rfl (by decide) (Nat.le_of_ble_eq_true rfl) rfl ?_
                      intro r1 σ1 hr
                      rw [hr.1, show r1 = bz (decide (0 < vS V (c % 5))) from hr.2]
                      clear hr σ1 r1
                      refine rw_if hX (tgt := 117) (cnd := .eq) (off := 32) (by decide +kernel) (by decide) (fun h85 => ?_) (fun h85 => ?_)
                      · replace h85 := of_decide_eq_false (zb_eqT h85)
                        have hno : T.testBit (c / 5) = true → bd V (c / 5) (c % 5) = true → T.testBit (c % 5) = true := fun _ z => by rw [bd_0 (by omega)] at z; cases z
                        refine rw_go hX [(117, .iinc 4 1)] (by decide +kernel) (Ps := []) (pc' := 120) (lv' := [(0, .ref 66), (1, .int (nI w)), (2, .int (nI T)), (3, .int (nI S)), (4, .int (nI c + nI 1)), (5, .int (nI (c / 5))), (6, .int (nI (c % 5)))]) (st' := []) (σ' := τ) rfl True.intro ?_
                        rw [show (nI c + nI 1) = nI (c + 1) from nI_add _ _]
                        refine rw_go hX [(120, .goto (-79))] (by decide +kernel) (Ps := []) (pc' := 41) (lv' := [(0, .ref 66), (1, .int (nI w)), (2, .int (nI T)), (3, .int (nI S)), (4, .int (nI (c + 1))), (5, .int (nI (c / 5))), (6, .int (nI (c % 5)))]) (st' := []) (σ' := τ) rfl True.intro ?_
                        refine rw_lsub (ks := [0, 1, 2, 3, 4]) (lv' := [(0, .ref 66), (1, .int (nI w)), (2, .int (nI T)), (3, .int (nI S)), (4, .int (nI (c + 1)))]) rfl ?_
                        refine ih41 (25 - (c + 1)) (by omega) (c + 1) T _ rfl (by omega) hT32 hGT hsub (fun z k hk g1 g2 => ?_) hANz hqz
                        rcases Nat.lt_or_ge k c with q | q
                        · exact hin z k q g1 g2
                        · have ek : k = c := by omega
                          rw [ek] at g1 g2 ⊢
                          rw [← z] at g1 ⊢
                          exact hno g1 g2
                      · replace h85 := of_decide_eq_true (zb_eqF h85)
                        refine rw_go hX [(88, .aload_n 0), (89, .iload 5), (91, .iload 6)] (by decide +kernel) (Ps := []) (pc' := 93) (lv' := [(0, .ref 66), (1, .int (nI w)), (2, .int (nI T)), (3, .int (nI S)), (4, .int (nI c)), (5, .int (nI (c / 5))), (6, .int (nI (c % 5)))]) (st' := [.int (nI (c % 5)), .int (nI (c / 5)), .ref 66]) (σ' := τ) rfl True.intro ?_
                        refine rw_callVi hX (as := [.int (nI (c / 5)), .int (nI (c % 5))]) (rest := []) (m_isHeld _ _ _ V (c / 5) (c % 5) hVt hv (by omega) (by omega) hANt) (by decide +kernel) mvX10_isHeld lk10_285 (ci := 9) rfl rfl rfl (by decide) (Nat.le_of_ble_eq_true rfl) rfl ?_
                        intro r1 τ2 hr
                        obtain ⟨hAN2, hqq2, hr2⟩ := hr
                        rw [hr2]
                        clear hr2 r1
                        have hq2 := hqt.trans hqq2
                        have hV2 : vw τ2 67 = V := (vw_of (fun j hj => hq2.1 _ (by omega) (by omega) (by omega))).trans hV
                        refine rw_if hX (tgt := 110) (cnd := .ne) (off := 14) (by decide +kernel) (by decide) (fun h96 => ?_) (fun h96 => ?_)
                        · replace h96 := zb_neT h96
                          have hbd : bd V (c / 5) (c % 5) = true := by rw [bd_hld hne, h96]; rfl
                          have hANz := hAN2
                          have hqz := hq2
                          refine rw_go hX [(110, .iload_n 2), (111, .iconst 1), (112, .iload 6), (114, .ishl)] (by decide +kernel) (Ps := []) (pc' := 115) (lv' := [(0, .ref 66), (1, .int (nI w)), (2, .int (nI T)), (3, .int (nI S)), (4, .int (nI c)), (5, .int (nI (c / 5))), (6, .int (nI (c % 5)))]) (st' := [.int ((nI 1) <<< ((nI (c % 5)) &&& 31)), .int (nI T)]) (σ' := τ2) rfl True.intro ?_
                          rw [show ((nI 1) <<< ((nI (c % 5)) &&& 31)) = nI (2 ^ (c % 5)) from shl_nI (by omega)]
                          refine rw_go hX [(115, .ior)] (by decide +kernel) (Ps := []) (pc' := 116) (lv' := [(0, .ref 66), (1, .int (nI w)), (2, .int (nI T)), (3, .int (nI S)), (4, .int (nI c)), (5, .int (nI (c / 5))), (6, .int (nI (c % 5)))]) (st' := [.int (nI T ||| nI (2 ^ (c % 5)))]) (σ' := τ2) rfl True.intro ?_
                          rw [show (nI T ||| nI (2 ^ (c % 5))) = nI (T ||| 2 ^ (c % 5)) from or_nI hT32 (pow5 (by omega))]
                          refine rw_go hX [(116, .istore_n 2), (117, .iinc 4 1)] (by decide +kernel) (Ps := []) (pc' := 120) (lv' := [(0, .ref 66), (1, .int (nI w)), (2, .int (nI (T ||| 2 ^ (c % 5)))), (3, .int (nI S)), (4, .int (nI c + nI 1)), (5, .int (nI (c / 5))), (6, .int (nI (c % 5)))]) (st' := []) (σ' := τ2) rfl True.intro ?_
                          rw [show (nI c + nI 1) = nI (c + 1) from nI_add _ _]
                          refine rw_go hX [(120, .goto (-79))] (by decide +kernel) (Ps := []) (pc' := 41) (lv' := [(0, .ref 66), (1, .int (nI w)), (2, .int (nI (T ||| 2 ^ (c % 5)))), (3, .int (nI S)), (4, .int (nI (c + 1))), (5, .int (nI (c / 5))), (6, .int (nI (c % 5)))]) (st' := []) (σ' := τ2) rfl True.intro ?_
                          refine rw_lsub (ks := [0, 1, 2, 3, 4]) (lv' := [(0, .ref 66), (1, .int (nI w)), (2, .int (nI (T ||| 2 ^ (c % 5)))), (3, .int (nI S)), (4, .int (nI (c + 1)))]) rfl ?_
                          refine ih41 (25 - (c + 1)) (by omega) (c + 1) (T ||| 2 ^ (c % 5)) _ rfl (by omega) (or32 hT32 (pow5 (by omega))) (GRm_or hGT (show c / 5 < 5 by omega) hba (pow5 (by omega)) (fun b hb z => by rw [Nat.testBit_two_pow, decide_eq_true_eq] at z; rw [← z]; exact hbd)) (fun b hb z => by rw [Nat.testBit_or, hsub b hb z]; rfl) (fun z => ?_) hANz hqz
                          exfalso
                          have e1 : S.testBit (c % 5) = true := by rw [← z, Nat.testBit_or, Nat.testBit_two_pow_self, Bool.or_true]
                          have e2 := hsub (c % 5) (by omega) e1
                          rw [hbb] at e2
                          cases e2
                        · replace h96 := zb_neF h96
                          refine rw_go hX [(99, .aload_n 0), (100, .iload 6), (102, .iload 5)] (by decide +kernel) (Ps := []) (pc' := 104) (lv' := [(0, .ref 66), (1, .int (nI w)), (2, .int (nI T)), (3, .int (nI S)), (4, .int (nI c)), (5, .int (nI (c / 5))), (6, .int (nI (c % 5)))]) (st' := [.int (nI (c / 5)), .int (nI (c % 5)), .ref 66]) (σ' := τ2) rfl True.intro ?_
                          refine rw_callVi hX (as := [.int (nI (c % 5)), .int (nI (c / 5))]) (rest := []) (m_isHeld _ _ _ V (c % 5) (c / 5) hV2 hv (by omega) (by omega) hAN2) (by decide +kernel) mvX10_isHeld lk10_285 (ci := 9) rfl rfl rfl (by decide) (Nat.le_of_ble_eq_true rfl) rfl ?_
                          intro r1 τ3 hr
                          obtain ⟨hAN3, hqq3, hr2⟩ := hr
                          rw [hr2]
                          clear hr2 r1
                          have hq3 := hq2.trans hqq3
                          have hV3 : vw τ3 67 = V := (vw_of (fun j hj => hq3.1 _ (by omega) (by omega) (by omega))).trans hV
                          refine rw_if hX (tgt := 117) (cnd := .eq) (off := 10) (by decide +kernel) (by decide) (fun h107 => ?_) (fun h107 => ?_)
                          · replace h107 := zb_eqT h107
                            have hno : T.testBit (c / 5) = true → bd V (c / 5) (c % 5) = true → T.testBit (c % 5) = true := fun _ z => by rw [bd_hld hne, h96, h107] at z; cases z
                            have hANz := hAN3
                            have hqz := hq3
                            refine rw_go hX [(117, .iinc 4 1)] (by decide +kernel) (Ps := []) (pc' := 120) (lv' := [(0, .ref 66), (1, .int (nI w)), (2, .int (nI T)), (3, .int (nI S)), (4, .int (nI c + nI 1)), (5, .int (nI (c / 5))), (6, .int (nI (c % 5)))]) (st' := []) (σ' := τ3) rfl True.intro ?_
                            rw [show (nI c + nI 1) = nI (c + 1) from nI_add _ _]
                            refine rw_go hX [(120, .goto (-79))] (by decide +kernel) (Ps := []) (pc' := 41) (lv' := [(0, .ref 66), (1, .int (nI w)), (2, .int (nI T)), (3, .int (nI S)), (4, .int (nI (c + 1))), (5, .int (nI (c / 5))), (6, .int (nI (c % 5)))]) (st' := []) (σ' := τ3) rfl True.intro ?_
                            refine rw_lsub (ks := [0, 1, 2, 3, 4]) (lv' := [(0, .ref 66), (1, .int (nI w)), (2, .int (nI T)), (3, .int (nI S)), (4, .int (nI (c + 1)))]) rfl ?_
                            refine ih41 (25 - (c + 1)) (by omega) (c + 1) T _ rfl (by omega) hT32 hGT hsub (fun z k hk g1 g2 => ?_) hANz hqz
                            rcases Nat.lt_or_ge k c with q | q
                            · exact hin z k q g1 g2
                            · have ek : k = c := by omega
                              rw [ek] at g1 g2 ⊢
                              rw [← z] at g1 ⊢
                              exact hno g1 g2
                          · replace h107 := zb_eqF h107
                            have hbd : bd V (c / 5) (c % 5) = true := by rw [bd_hld hne, h107, Bool.or_true]
                            have hANz := hAN3
                            have hqz := hq3
                            refine rw_go hX [(110, .iload_n 2), (111, .iconst 1), (112, .iload 6), (114, .ishl)] (by decide +kernel) (Ps := []) (pc' := 115) (lv' := [(0, .ref 66), (1, .int (nI w)), (2, .int (nI T)), (3, .int (nI S)), (4, .int (nI c)), (5, .int (nI (c / 5))), (6, .int (nI (c % 5)))]) (st' := [.int ((nI 1) <<< ((nI (c % 5)) &&& 31)), .int (nI T)]) (σ' := τ3) rfl True.intro ?_
                            rw [show ((nI 1) <<< ((nI (c % 5)) &&& 31)) = nI (2 ^ (c % 5)) from shl_nI (by omega)]
                            refine rw_go hX [(115, .ior)] (by decide +kernel) (Ps := []) (pc' := 116) (lv' := [(0, .ref 66), (1, .int (nI w)), (2, .int (nI T)), (3, .int (nI S)), (4, .int (nI c)), (5, .int (nI (c / 5))), (6, .int (nI (c % 5)))]) (st' := [.int (nI T ||| nI (2 ^ (c % 5)))]) (σ' := τ3) rfl True.intro ?_
                            rw [show (nI T ||| nI (2 ^ (c % 5))) = nI (T ||| 2 ^ (c % 5)) from or_nI hT32 (pow5 (by omega))]
                            refine rw_go hX [(116, .istore_n 2), (117, .iinc 4 1)] (by decide +kernel) (Ps := []) (pc' := 120) (lv' := [(0, .ref 66), (1, .int (nI w)), (2, .int (nI (T ||| 2 ^ (c % 5)))), (3, .int (nI S)), (4, .int (nI c + nI 1)), (5, .int (nI (c / 5))), (6, .int (nI (c % 5)))]) (st' := []) (σ' := τ3) rfl True.intro ?_
                            rw [show (nI c + nI 1) = nI (c + 1) from nI_add _ _]
                            refine rw_go hX [(120, .goto (-79))] (by decide +kernel) (Ps := []) (pc' := 41) (lv' := [(0, .ref 66), (1, .int (nI w)), (2, .int (nI (T ||| 2 ^ (c % 5)))), (3, .int (nI S)), (4, .int (nI (c + 1))), (5, .int (nI (c / 5))), (6, .int (nI (c % 5)))]) (st' := []) (σ' := τ3) rfl True.intro ?_
                            refine rw_lsub (ks := [0, 1, 2, 3, 4]) (lv' := [(0, .ref 66), (1, .int (nI w)), (2, .int (nI (T ||| 2 ^ (c % 5)))), (3, .int (nI S)), (4, .int (nI (c + 1)))]) rfl ?_
                            refine ih41 (25 - (c + 1)) (by omega) (c + 1) (T ||| 2 ^ (c % 5)) _ rfl (by omega) (or32 hT32 (pow5 (by omega))) (GRm_or hGT (show c / 5 < 5 by omega) hba (pow5 (by omega)) (fun b hb z => by rw [Nat.testBit_two_pow, decide_eq_true_eq] at z; rw [← z]; exact hbd)) (fun b hb z => by rw [Nat.testBit_or, hsub b hb z]; rfl) (fun z => ?_) hANz hqz
                            exfalso
                            have e1 : S.testBit (c % 5) = true := by rw [← z, Nat.testBit_or, Nat.testBit_two_pow_self, Bool.or_true]
                            have e2 := hsub (c % 5) (by omega) e1
                            rw [hbb] at e2
                            cases e2
            refine rw_lsub (ks := [0, 1, 2, 3, 4]) (lv' := [(0, .ref 66), (1, .int (nI w)), (2, .int (nI S)), (3, .int (nI S)), (4, .int (nI 0))]) rfl ?_
            exact L41 25 0 S τ rfl (by omega) hS32 hG (fun _ _ z => z) (fun _ k hk => by omega) hANs hqs
      refine rw_lsub (ks := [0, 1, 2, 3]) (lv' := [(0, .ref 66), (1, .int (nI w)), (2, .int (nI (2 ^ w))), (3, .int (nI 0))]) rfl ?_
      exact L31 (6 - pop 0) (2 ^ w) 0 τ1 rfl (pow5 hw) (by omega) (GRm_0 (bd V) hw) (fun b hb z => by rw [Nat.zero_testBit] at z; cases z) (fun z => absurd z (by have := Nat.two_pow_pos w; omega)) hAN hq1
    · replace h15 := of_decide_eq_false (zb_neF h15)
      have hvsw : vS V w = 0 := by omega
      refine rw_go hX [(18, .bipush (-11))] (by decide +kernel) (Ps := []) (pc' := 20) (lv' := [(0, .ref 66), (1, .int (nI w))]) (st' := [.int (-(nI 11))]) (σ' := σ) rfl True.intro ?_
      exact rw_iret hX (by decide +kernel) (⟨by simp only [pGroup, eq_true h4, hcw, eq_false h15, eq_true hvsw, if_true, if_false, Bool.false_eq_true, and_self, and_true, true_and, and_false, false_and, oel_n, oel_s, decide_true, decide_false], MQu_rfl _⟩)
  · replace h4 := of_decide_eq_false (zb_neF h4)
    refine rw_go hX [(7, .bipush (-2))] (by decide +kernel) (Ps := []) (pc' := 9) (lv' := [(0, .ref 66), (1, .int xw)]) (st' := [.int (-(nI 2))]) (σ' := σ) rfl True.intro ?_
    exact rw_iret hX (by decide +kernel) (⟨by simp only [pGroup, eq_false h4, if_true, if_false, Bool.false_eq_true, and_self, and_true, true_and, and_false, false_and, oel_n, oel_s, decide_true, decide_false], MQu_rfl _⟩)
