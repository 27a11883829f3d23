set_option maxRecDepth 20000 in
set_option maxHeartbeats 4000000 in
theorem c_isPrint (l : Launch) (G : Gl) (σ : Mm) (w i n : Nat) (hw : w < 5) (hi : i < 50) (hg : σ 25 w = nI n) (hn : n ≤ 50) : AMi l G 2 mX3_isPrint [.ref 23, .int (nI w), .int (nI i)] σ (fun r σ' => σ' = σ ∧ r = bz (decide (i < n) && decide (σ 30 (50 * w + i) ≠ 0))) := by
  refine rw_inI 3 (by decide +kernel) rfl rfl ?_
  intro E hE hX
  subst hE
  refine rw_go hX [(0, .iload_n 2), (1, .aload_n 0), (2, .iload_n 1)] (by decide +kernel) (Ps := []) (pc' := 3) (lv' := [(0, .ref 23), (1, .int (nI w)), (2, .int (nI i))]) (st' := [.int (nI w), .ref 23, .int (nI i)]) (σ' := σ) rfl True.intro ?_
  refine rw_callVi hX (as := [.int (nI w)]) (rest := [.int (nI i)]) (c_gramCount _ _ _ w hw) (by decide +kernel) mvX3_gramCount lk3_79 (ci := 2) rfl rfl rfl (by decide) (Nat.le_of_ble_eq_true rfl) rfl ?_
  intro r1 σ1 hr
  rw [hr.1, hr.2, hg]
  clear hr σ1 r1
  refine rw_icmp hX (tgt := 17) (cnd := .ge) (off := 11) (by decide +kernel) (by decide) (fun h6 => ?_) (fun h6 => ?_)
  · replace h6 := c2_geT h6
    refine rw_go hX [(17, .iconst (-1)), (18, .istore_n 3), (19, .iload_n 3)] (by decide +kernel) (Ps := []) (pc' := 20) (lv' := [(0, .ref 23), (1, .int (nI w)), (2, .int (nI i)), (3, .int (-(nI 1)))]) (st' := [.int (-(nI 1))]) (σ' := σ) rfl True.intro ?_
    refine rw_if hX (tgt := 45) (cnd := .lt) (off := 25) (by decide +kernel) (by decide) (fun h20 => ?_) (fun h20 => ?_)
    · skip
      refine rw_go hX [(45, .iconst 0)] (by decide +kernel) (Ps := []) (pc' := 46) (lv' := [(0, .ref 23), (1, .int (nI w)), (2, .int (nI i)), (3, .int (-(nI 1)))]) (st' := [.int (nI 0)]) (σ' := σ) rfl True.intro ?_
      exact rw_zret hX (by decide +kernel) (Or.inl rfl) (⟨rfl, by clear hX; first | (rw [decide_eq_false (show ¬ i < n by omega)]; rfl) | (rw [decide_eq_true (show i < n by omega), decide_eq_true (show σ 30 (50 * w + i) ≠ 0 from h38)]; rfl) | (rw [decide_eq_true (show i < n by omega), decide_eq_false (fun z => z h38)]; rfl)⟩)
    · exact absurd (by simp only [cz, cc2]; decide +kernel) h20
  · replace h6 := c2_geF h6
    refine rw_go hX [(9, .iload_n 1), (10, .iload_n 2)] (by decide +kernel) (Ps := []) (pc' := 11) (lv' := [(0, .ref 23), (1, .int (nI w)), (2, .int (nI i))]) (st' := [.int (nI i), .int (nI w)]) (σ' := σ) rfl True.intro ?_
    refine rw_callSi hX (as := [.int (nI w), .int (nI i)]) (rest := []) (c_cellOf _ _ _ w i hw hi) (by decide +kernel) msX9_cellOf (Or.inr lk3_62) rfl (by decide) (Nat.le_of_ble_eq_true rfl) rfl ?_
    intro r1 σ1 hr
    rw [hr.1, hr.2]
    clear hr σ1 r1
    refine rw_go hX [(14, .goto 4), (18, .istore_n 3), (19, .iload_n 3)] (by decide +kernel) (Ps := []) (pc' := 20) (lv' := [(0, .ref 23), (1, .int (nI w)), (2, .int (nI i)), (3, .int (nI (50 * w + i)))]) (st' := [.int (nI (50 * w + i))]) (σ' := σ) rfl True.intro ?_
    refine rw_if hX (tgt := 45) (cnd := .lt) (off := 25) (by decide +kernel) (by decide) (fun h20 => ?_) (fun h20 => ?_)
    · exact zn_ltT h20
    · clear h20
      skip
      refine rw_go hX [(23, .iload_n 3), (24, .aload_n 0), (25, .getfield 30), (28, .arraylength)] (by decide +kernel) (Ps := []) (pc' := 29) (lv' := [(0, .ref 23), (1, .int (nI w)), (2, .int (nI i)), (3, .int (nI (50 * w + i)))]) (st' := [.int (nI 250), .int (nI (50 * w + i))]) (σ' := σ) rfl True.intro ?_
      refine rw_icmp hX (tgt := 45) (cnd := .ge) (off := 16) (by decide +kernel) (by decide) (fun h29 => ?_) (fun h29 => ?_)
      · replace h29 := c2_geT h29
        skip
        refine rw_go hX [(45, .iconst 0)] (by decide +kernel) (Ps := []) (pc' := 46) (lv' := [(0, .ref 23), (1, .int (nI w)), (2, .int (nI i)), (3, .int (nI (50 * w + i)))]) (st' := [.int (nI 0)]) (σ' := σ) rfl True.intro ?_
        exact rw_zret hX (by decide +kernel) (Or.inl rfl) (⟨rfl, by clear hX; first | (rw [decide_eq_false (show ¬ i < n by omega)]; rfl) | (rw [decide_eq_true (show i < n by omega), decide_eq_true (show σ 30 (50 * w + i) ≠ 0 from h38)]; rfl) | (rw [decide_eq_true (show i < n by omega), decide_eq_false (fun z => z h38)]; rfl)⟩)
      · replace h29 := c2_geF h29
        refine rw_go hX [(32, .aload_n 0), (33, .getfield 30), (36, .iload_n 3), (37, .baload)] (by decide +kernel) (Ps := [vp_in (nI (50 * w + i)) 250]) (pc' := 38) (lv' := [(0, .ref 23), (1, .int (nI w)), (2, .int (nI i)), (3, .int (nI (50 * w + i)))]) (st' := [.int (σ 30 (nI (50 * w + i)).toNatClampNeg)]) (σ' := σ) rfl (vp_in_nI (by omega) (by omega)) ?_
        rw [show (σ 30 (nI (50 * w + i)).toNatClampNeg) = σ 30 (50 * w + i) from (by rw [nI_clamp (by omega)])]
        refine rw_if hX (tgt := 45) (cnd := .eq) (off := 7) (by decide +kernel) (by decide) (fun h38 => ?_) (fun h38 => ?_)
        · replace h38 : (σ 30 (50 * w + i) = 0) := h38
          refine rw_go hX [(45, .iconst 0)] (by decide +kernel) (Ps := []) (pc' := 46) (lv' := [(0, .ref 23), (1, .int (nI w)), (2, .int (nI i)), (3, .int (nI (50 * w + i)))]) (st' := [.int (nI 0)]) (σ' := σ) rfl True.intro ?_
          exact rw_zret hX (by decide +kernel) (Or.inl rfl) (⟨rfl, by clear hX; first | (rw [decide_eq_false (show ¬ i < n by omega)]; rfl) | (rw [decide_eq_true (show i < n by omega), decide_eq_true (show σ 30 (50 * w + i) ≠ 0 from h38)]; rfl) | (rw [decide_eq_true (show i < n by omega), decide_eq_false (fun z => z h38)]; rfl)⟩)
        · replace h38 : ¬ (σ 30 (50 * w + i) = 0) := h38
          refine rw_go hX [(41, .iconst 1), (42, .goto 4)] (by decide +kernel) (Ps := []) (pc' := 46) (lv' := [(0, .ref 23), (1, .int (nI w)), (2, .int (nI i)), (3, .int (nI (50 * w + i)))]) (st' := [.int (nI 1)]) (σ' := σ) rfl True.intro ?_
          exact rw_zret hX (by decide +kernel) (Or.inr rfl) (⟨rfl, by clear hX; first | (rw [decide_eq_false (show ¬ i < n by omega)]; rfl) | (rw [decide_eq_true (show i < n by omega), decide_eq_true (show σ 30 (50 * w + i) ≠ 0 from h38)]; rfl) | (rw [decide_eq_true (show i < n by omega), decide_eq_false (fun z => z h38)]; rfl)⟩)
set_option maxRecDepth 20000 in
set_option maxHeartbeats 4000000 in
theorem c_printCount (l : Launch) (G : Gl) (σ : Mm) (w n : Nat) (hw : w < 5) (hg : σ 25 w = nI n) (hn : n ≤ 50) : AMi l G 3 mX3_printCount [.ref 23, .int (nI w)] σ (fun r σ' => σ' = σ ∧ r = nI (pC (σ 30) w n)) := by
  refine rw_inI 3 (by decide +kernel) rfl rfl ?_
  intro E hE hX
  subst hE
  refine rw_go hX [(0, .iconst 0), (1, .istore_n 2), (2, .iconst 0), (3, .istore_n 3)] (by decide +kernel) (Ps := []) (pc' := 4) (lv' := [(0, .ref 23), (1, .int (nI w)), (2, .int (nI 0)), (3, .int (nI 0))]) (st' := []) (σ' := σ) rfl True.intro ?_
  have L4 : ∀ (μ4 : Nat) (i : Nat), μ4 = n - i → (i ≤ n) → RW E G 3 4 (QI E G (fun r σ' => σ' = σ ∧ r = nI (pC (σ 30) w n))) 4 [(0, .ref 23), (1, .int (nI w)), (2, .int (nI (pC (σ 30) w i))), (3, .int (nI i))] [] σ := by
    intro μ4
    induction μ4 using Nat.strongRecOn with
    | ind μ4 ih4 =>
      intro i hμ4 hi
      refine rw_go hX [(4, .iload_n 3), (5, .aload_n 0), (6, .iload_n 1)] (by decide +kernel) (Ps := []) (pc' := 7) (lv' := [(0, .ref 23), (1, .int (nI w)), (2, .int (nI (pC (σ 30) w i))), (3, .int (nI i))]) (st' := [.int (nI w), .ref 23, .int (nI i)]) (σ' := σ) rfl True.intro ?_
      refine rw_callVi hX (as := [.int (nI w)]) (rest := [.int (nI i)]) (c_gramCount _ _ _ w hw) (by decide +kernel) mvX3_gramCount lk3_79 (ci := 2) rfl rfl rfl (by decide) (Nat.le_of_ble_eq_true rfl) rfl ?_
      intro r1 σ1 hr
      rw [hr.1, hr.2, hg]
      clear hr σ1 r1
      refine rw_icmp hX (tgt := 31) (cnd := .ge) (off := 21) (by decide +kernel) (by decide) (fun h10 => ?_) (fun h10 => ?_)
      · replace h10 := c2_geT h10
        have e : i = n := by omega
        refine rw_go hX [(31, .iload_n 2)] (by decide +kernel) (Ps := []) (pc' := 32) (lv' := [(0, .ref 23), (1, .int (nI w)), (2, .int (nI (pC (σ 30) w i))), (3, .int (nI i))]) (st' := [.int (nI (pC (σ 30) w i))]) (σ' := σ) rfl True.intro ?_
        exact rw_iret hX (by decide +kernel) (⟨rfl, by rw [e]⟩)
      · replace h10 := c2_geF h10
        refine rw_go hX [(13, .iload_n 2), (14, .aload_n 0), (15, .iload_n 1), (16, .iload_n 3)] (by decide +kernel) (Ps := []) (pc' := 17) (lv' := [(0, .ref 23), (1, .int (nI w)), (2, .int (nI (pC (σ 30) w i))), (3, .int (nI i))]) (st' := [.int (nI i), .int (nI w), .ref 23, .int (nI (pC (σ 30) w i))]) (σ' := σ) rfl True.intro ?_
        refine rw_callVi hX (as := [.int (nI w), .int (nI i)]) (rest := [.int (nI (pC (σ 30) w i))]) (c_isPrint _ _ _ w i n hw (by omega) hg hn) (by decide +kernel) mvX3_isPrint lk3_97 (ci := 2) rfl rfl rfl (by decide) (Nat.le_of_ble_eq_true rfl) rfl ?_
        intro r1 σ1 hr
        rw [hr.1, hr.2]
        clear hr σ1 r1
        refine rw_callSi hX (as := [.int (bz (decide (i < n) && decide (σ 30 (50 * w + i) ≠ 0)))]) (rest := [.int (nI (pC (σ 30) w i))]) (c_X9_asNumber _ _ _ (decide (i < n) && decide (σ 30 (50 * w + i) ≠ 0))) (by decide +kernel) msX9_asNumber (Or.inr lk3_101) rfl (by decide) (Nat.le_of_ble_eq_true rfl) rfl ?_
        intro r1 σ1 hr
        rw [hr.1, hr.2]
        clear hr σ1 r1
        refine rw_go hX [(23, .iadd), (24, .istore_n 2), (25, .iinc 3 1), (28, .goto (-24))] (by decide +kernel) (Ps := []) (pc' := 4) (lv' := [(0, .ref 23), (1, .int (nI w)), (2, .int (nI (pC (σ 30) w i) + bz (decide (i < n) && decide (σ 30 (50 * w + i) ≠ 0)))), (3, .int (nI i + nI 1))]) (st' := []) (σ' := σ) rfl True.intro ?_
        refine rw_lsub (ks := [0, 1, 2, 3]) (lv' := [(0, .ref 23), (1, .int (nI w)), (2, .int (nI (pC (σ 30) w i) + bz (decide (i < n) && decide (σ 30 (50 * w + i) ≠ 0)))), (3, .int (nI i + nI 1))]) rfl ?_
        have q := ih4 (n - (i + 1)) (by omega) (i + 1) rfl (by omega)
        rw [nI_add i 1]
        have e2 : nI (pC (σ 30) w i) + bz (decide (i < n) && decide (σ 30 (50 * w + i) ≠ 0)) = nI (pC (σ 30) w (i + 1)) := by
          rw [decide_eq_true (show i < n by omega), Bool.true_and]
          simp only [pC]
          by_cases g : σ 30 (50 * w + i) ≠ 0
          · rw [decide_eq_true g, if_pos g]; exact nI_add _ 1
          · rw [decide_eq_false g, if_neg g]; exact nI_add _ 0
        rw [e2]
        exact q
  refine rw_lsub (ks := [0, 1, 2, 3]) (lv' := [(0, .ref 23), (1, .int (nI w)), (2, .int (nI 0)), (3, .int (nI 0))]) rfl ?_
  exact L4 n 0 rfl (by omega)
set_option maxRecDepth 20000 in
set_option maxHeartbeats 4000000 in
theorem c_printAt (l : Launch) (G : Gl) (σ : Mm) (w n : Nat) (k : Int32) (hw : w < 5) (hg : σ 25 w = nI n) (hn : n ≤ 50) : AMi l G 3 mX3_printAt [.ref 23, .int (nI w), .int k] σ (fun r σ' => σ' = σ ∧ ((∃ g, g < n ∧ σ 30 (50 * w + g) ≠ 0 ∧ nI (pC (σ 30) w g) = k ∧ r = nI g) ∨ ((∀ g, g < n → σ 30 (50 * w + g) ≠ 0 → nI (pC (σ 30) w g) ≠ k) ∧ r = -(nI 1)))) := by
  refine rw_inI 3 (by decide +kernel) rfl rfl ?_
  intro E hE hX
  subst hE
  refine rw_go hX [(0, .iconst 0), (1, .istore_n 3), (2, .iconst 0), (3, .istore 4)] (by decide +kernel) (Ps := []) (pc' := 5) (lv' := [(0, .ref 23), (1, .int (nI w)), (2, .int k), (3, .int (nI 0)), (4, .int (nI 0))]) (st' := []) (σ' := σ) rfl True.intro ?_
  have L5 : ∀ (μ5 : Nat) (i : Nat), μ5 = n - i → (i ≤ n) → (∀ g, g < i → σ 30 (50 * w + g) ≠ 0 → nI (pC (σ 30) w g) ≠ k) → RW E G 3 5 (QI E G (fun r σ' => σ' = σ ∧ ((∃ g, g < n ∧ σ 30 (50 * w + g) ≠ 0 ∧ nI (pC (σ 30) w g) = k ∧ r = nI g) ∨ ((∀ g, g < n → σ 30 (50 * w + g) ≠ 0 → nI (pC (σ 30) w g) ≠ k) ∧ r = -(nI 1))))) 5 [(0, .ref 23), (1, .int (nI w)), (2, .int k), (3, .int (nI (pC (σ 30) w i))), (4, .int (nI i))] [] σ := by
    intro μ5
    induction μ5 using Nat.strongRecOn with
    | ind μ5 ih5 =>
      intro i hμ5 hi hno
      refine rw_go hX [(5, .iload 4), (7, .aload_n 0), (8, .iload_n 1)] (by decide +kernel) (Ps := []) (pc' := 9) (lv' := [(0, .ref 23), (1, .int (nI w)), (2, .int k), (3, .int (nI (pC (σ 30) w i))), (4, .int (nI i))]) (st' := [.int (nI w), .ref 23, .int (nI i)]) (σ' := σ) rfl True.intro ?_
      refine rw_callVi hX (as := [.int (nI w)]) (rest := [.int (nI i)]) (c_gramCount _ _ _ w hw) (by decide +kernel) mvX3_gramCount lk3_79 (ci := 2) rfl rfl rfl (by decide) (Nat.le_of_ble_eq_true rfl) rfl ?_
      intro r1 σ1 hr
      rw [hr.1, hr.2, hg]
      clear hr σ1 r1
      refine rw_icmp hX (tgt := 42) (cnd := .ge) (off := 30) (by decide +kernel) (by decide) (fun h12 => ?_) (fun h12 => ?_)
      · replace h12 := c2_geT h12
        have e : i = n := by omega
        refine rw_go hX [(42, .iconst (-1))] (by decide +kernel) (Ps := []) (pc' := 43) (lv' := [(0, .ref 23), (1, .int (nI w)), (2, .int k), (3, .int (nI (pC (σ 30) w i))), (4, .int (nI i))]) (st' := [.int (-(nI 1))]) (σ' := σ) rfl True.intro ?_
        exact rw_iret hX (by decide +kernel) (⟨rfl, Or.inr ⟨fun g hg => hno g (by omega), rfl⟩⟩)
      · replace h12 := c2_geF h12
        refine rw_go hX [(15, .aload_n 0), (16, .iload_n 1), (17, .iload 4)] (by decide +kernel) (Ps := []) (pc' := 19) (lv' := [(0, .ref 23), (1, .int (nI w)), (2, .int k), (3, .int (nI (pC (σ 30) w i))), (4, .int (nI i))]) (st' := [.int (nI i), .int (nI w), .ref 23]) (σ' := σ) rfl True.intro ?_
        refine rw_callVi hX (as := [.int (nI w), .int (nI i)]) (rest := []) (c_isPrint _ _ _ w i n hw (by omega) hg hn) (by decide +kernel) mvX3_isPrint lk3_97 (ci := 2) rfl rfl rfl (by decide) (Nat.le_of_ble_eq_true rfl) rfl ?_
        intro r1 σ1 hr
        rw [hr.1, hr.2]
        clear hr σ1 r1
        refine rw_if hX (tgt := 36) (cnd := .eq) (off := 14) (by decide +kernel) (by decide) (fun h22 => ?_) (fun h22 => ?_)
        · replace h22 := zb_eqT h22
          rw [decide_eq_true (show i < n by omega), Bool.true_and] at h22
          replace h22 := of_decide_eq_false h22
          refine rw_go hX [(36, .iinc 4 1), (39, .goto (-34))] (by decide +kernel) (Ps := []) (pc' := 5) (lv' := [(0, .ref 23), (1, .int (nI w)), (2, .int k), (3, .int (nI (pC (σ 30) w i))), (4, .int (nI i + nI 1))]) (st' := []) (σ' := σ) rfl True.intro ?_
          refine rw_lsub (ks := [0, 1, 2, 3, 4]) (lv' := [(0, .ref 23), (1, .int (nI w)), (2, .int k), (3, .int (nI (pC (σ 30) w i))), (4, .int (nI i + nI 1))]) rfl ?_
          have q := ih5 (n - (i + 1)) (by omega) (i + 1) rfl (by omega) (lt_s hno (fun z => absurd z h22))
          rw [show pC (σ 30) w (i + 1) = pC (σ 30) w i from if_neg h22] at q
          rw [nI_add]
          exact q
        · replace h22 := zb_eqF h22
          rw [decide_eq_true (show i < n by omega), Bool.true_and] at h22
          replace h22 := of_decide_eq_true h22
          refine rw_go hX [(25, .iload_n 3), (26, .iload_n 2)] (by decide +kernel) (Ps := []) (pc' := 27) (lv' := [(0, .ref 23), (1, .int (nI w)), (2, .int k), (3, .int (nI (pC (σ 30) w i))), (4, .int (nI i))]) (st' := [.int k, .int (nI (pC (σ 30) w i))]) (σ' := σ) rfl True.intro ?_
          refine rw_icmp hX (tgt := 33) (cnd := .ne) (off := 6) (by decide +kernel) (by decide) (fun h27 => ?_) (fun h27 => ?_)
          · replace h27 : (nI (pC (σ 30) w i) ≠ k) := h27
            skip
            refine rw_go hX [(33, .iinc 3 1), (36, .iinc 4 1), (39, .goto (-34))] (by decide +kernel) (Ps := []) (pc' := 5) (lv' := [(0, .ref 23), (1, .int (nI w)), (2, .int k), (3, .int (nI (pC (σ 30) w i) + nI 1)), (4, .int (nI i + nI 1))]) (st' := []) (σ' := σ) rfl True.intro ?_
            refine rw_lsub (ks := [0, 1, 2, 3, 4]) (lv' := [(0, .ref 23), (1, .int (nI w)), (2, .int k), (3, .int (nI (pC (σ 30) w i) + nI 1)), (4, .int (nI i + nI 1))]) rfl ?_
            have q := ih5 (n - (i + 1)) (by omega) (i + 1) rfl (by omega) (lt_s hno (fun z => h27))
            rw [show pC (σ 30) w (i + 1) = pC (σ 30) w i + 1 from if_pos h22] at q
            rw [nI_add, nI_add]
            exact q
          · replace h27 : ¬ (nI (pC (σ 30) w i) ≠ k) := h27
            skip
            refine rw_go hX [(30, .iload 4)] (by decide +kernel) (Ps := []) (pc' := 32) (lv' := [(0, .ref 23), (1, .int (nI w)), (2, .int k), (3, .int (nI (pC (σ 30) w i))), (4, .int (nI i))]) (st' := [.int (nI i)]) (σ' := σ) rfl True.intro ?_
            exact rw_iret hX (by decide +kernel) (⟨rfl, Or.inl ⟨i, h12, h22, Classical.not_not.mp h27, rfl⟩⟩)
  refine rw_lsub (ks := [0, 1, 2, 3, 4]) (lv' := [(0, .ref 23), (1, .int (nI w)), (2, .int k), (3, .int (nI 0)), (4, .int (nI 0))]) rfl ?_
  exact L5 n 0 rfl (by omega) (fun g hg => absurd hg (Nat.not_lt_zero g))
