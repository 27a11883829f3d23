set_option maxRecDepth 20000 in
set_option maxHeartbeats 4000000 in
theorem c_areLikeCells (l : Launch) (G : Gl) (σ : Mm) (a b k : Nat) (ha : a + k ≤ 250) (hb : b + k ≤ 250) : AMi l G 1 mX3_areLikeCells [.ref 23, .int (nI a), .int (nI b), .int (nI k)] σ (fun r σ' => σ' = σ ∧ r = bz (lkC (σ 26) a b k)) := by
  refine rw_inI 3 (by decide +kernel) rfl rfl ?_
  intro E hE hX
  subst hE
  refine rw_go hX [(0, .iconst 0), (1, .istore 4)] (by decide +kernel) (Ps := []) (pc' := 3) (lv' := [(0, .ref 23), (1, .int (nI a)), (2, .int (nI b)), (3, .int (nI k)), (4, .int (nI 0))]) (st' := []) (σ' := σ) rfl True.intro ?_
  have L3 : ∀ (μ3 : Nat) (t : Nat), μ3 = k - t → (t ≤ k) → (lkC (σ 26) a b t = true) → RW E G 1 5 (QI E G (fun r σ' => σ' = σ ∧ r = bz (lkC (σ 26) a b k))) 3 [(0, .ref 23), (1, .int (nI a)), (2, .int (nI b)), (3, .int (nI k)), (4, .int (nI t))] [] σ := by
    intro μ3
    induction μ3 using Nat.strongRecOn with
    | ind μ3 ih3 =>
      intro t hμ3 ht hs
      refine rw_go hX [(3, .iload 4), (5, .iload_n 3)] (by decide +kernel) (Ps := []) (pc' := 6) (lv' := [(0, .ref 23), (1, .int (nI a)), (2, .int (nI b)), (3, .int (nI k)), (4, .int (nI t))]) (st' := [.int (nI k), .int (nI t)]) (σ' := σ) rfl True.intro ?_
      refine rw_icmp hX (tgt := 42) (cnd := .ge) (off := 36) (by decide +kernel) (by decide) (fun h6 => ?_) (fun h6 => ?_)
      · replace h6 := c2_geT h6
        have e : t = k := by omega
        refine rw_go hX [(42, .iconst 1)] (by decide +kernel) (Ps := []) (pc' := 43) (lv' := [(0, .ref 23), (1, .int (nI a)), (2, .int (nI b)), (3, .int (nI k)), (4, .int (nI t))]) (st' := [.int (nI 1)]) (σ' := σ) rfl True.intro ?_
        exact rw_zret hX (by decide +kernel) (Or.inr rfl) (⟨rfl, by rw [← e, hs]; rfl⟩)
      · replace h6 := c2_geF h6
        refine rw_go hX [(9, .aload_n 0), (10, .getfield 18), (13, .iload_n 1), (14, .iload 4), (16, .iadd)] (by decide +kernel) (Ps := []) (pc' := 17) (lv' := [(0, .ref 23), (1, .int (nI a)), (2, .int (nI b)), (3, .int (nI k)), (4, .int (nI t))]) (st' := [.int (nI a + nI t), .ref 26]) (σ' := σ) rfl True.intro ?_
        rw [show (nI a + nI t) = nI (a + t) from nI_add a t]
        refine rw_callSi hX (as := [.ref 26, .int (nI (a + t))]) (rest := []) (c_pick _ _ _ 26 250 (a + t) (by decide +kernel) (by omega) (by omega)) (by decide +kernel) msX9_pick (Or.inr lk3_93) rfl (by decide) (Nat.le_of_ble_eq_true rfl) rfl ?_
        intro r1 σ1 hr
        rw [hr.1, hr.2]
        clear hr σ1 r1
        refine rw_go hX [(20, .aload_n 0), (21, .getfield 18), (24, .iload_n 2), (25, .iload 4), (27, .iadd)] (by decide +kernel) (Ps := []) (pc' := 28) (lv' := [(0, .ref 23), (1, .int (nI a)), (2, .int (nI b)), (3, .int (nI k)), (4, .int (nI t))]) (st' := [.int (nI b + nI t), .ref 26, .int (σ 26 (a + t))]) (σ' := σ) rfl True.intro ?_
        rw [show (nI b + nI t) = nI (b + t) from nI_add b t]
        refine rw_callSi hX (as := [.ref 26, .int (nI (b + t))]) (rest := [.int (σ 26 (a + t))]) (c_pick _ _ _ 26 250 (b + t) (by decide +kernel) (by omega) (by omega)) (by decide +kernel) msX9_pick (Or.inr lk3_93) rfl (by decide) (Nat.le_of_ble_eq_true rfl) rfl ?_
        intro r1 σ1 hr
        rw [hr.1, hr.2]
        clear hr σ1 r1
        refine rw_icmp hX (tgt := 36) (cnd := .eq) (off := 5) (by decide +kernel) (by decide) (fun h31 => ?_) (fun h31 => ?_)
        · replace h31 : (σ 26 (a + t) = σ 26 (b + t)) := h31
          refine rw_go hX [(36, .iinc 4 1), (39, .goto (-36))] (by decide +kernel) (Ps := []) (pc' := 3) (lv' := [(0, .ref 23), (1, .int (nI a)), (2, .int (nI b)), (3, .int (nI k)), (4, .int (nI t + nI 1))]) (st' := []) (σ' := σ) rfl True.intro ?_
          refine rw_lsub (ks := [0, 1, 2, 3, 4]) (lv' := [(0, .ref 23), (1, .int (nI a)), (2, .int (nI b)), (3, .int (nI k)), (4, .int (nI t + nI 1))]) rfl ?_
          rw [nI_add]
          exact ih3 (k - (t + 1)) (by omega) (t + 1) rfl (by omega) (by simp only [lkC, hs, Bool.true_and]; exact decide_eq_true h31)
        · replace h31 : ¬ (σ 26 (a + t) = σ 26 (b + t)) := h31
          refine rw_go hX [(34, .iconst 0)] (by decide +kernel) (Ps := []) (pc' := 35) (lv' := [(0, .ref 23), (1, .int (nI a)), (2, .int (nI b)), (3, .int (nI k)), (4, .int (nI t))]) (st' := [.int (nI 0)]) (σ' := σ) rfl True.intro ?_
          exact rw_zret hX (by decide +kernel) (Or.inl rfl) (⟨rfl, by
  have e : lkC (σ 26) a b k = false := by
    rw [Bool.eq_false_iff]
    intro z
    exact h31 ((lkC_iff _ _ _ _).mp z t h6)
  rw [e]; rfl⟩)
  refine rw_lsub (ks := [0, 1, 2, 3, 4]) (lv' := [(0, .ref 23), (1, .int (nI a)), (2, .int (nI b)), (3, .int (nI k)), (4, .int (nI 0))]) rfl ?_
  exact L3 k 0 rfl (by omega) rfl
set_option maxRecDepth 20000 in
set_option maxHeartbeats 4000000 in
theorem c_lastOfLeast (l : Launch) (G : Gl) (σ : Mm) (w fr wide : Nat) (hw : w < 5) (h1 : 1 ≤ wide) (h2 : fr + wide ≤ 50) : AMi l G 2 mX3_lastOfLeast [.ref 23, .int (nI w), .int (nI fr), .int (nI wide)] σ (fun r σ' => σ' = σ ∧ r = nI (llS (σ 28) (50 * w) fr (wide - 1))) := by
  refine rw_inI 3 (by decide +kernel) rfl rfl ?_
  intro E hE hX
  subst hE
  refine rw_go hX [(0, .iload_n 2), (1, .istore 4), (3, .iload_n 2), (4, .iconst 1), (5, .iadd), (6, .istore 5)] (by decide +kernel) (Ps := []) (pc' := 8) (lv' := [(0, .ref 23), (1, .int (nI w)), (2, .int (nI fr)), (3, .int (nI wide)), (4, .int (nI fr)), (5, .int (nI fr + nI 1))]) (st' := []) (σ' := σ) rfl True.intro ?_
  have L8 : ∀ (μ8 : Nat) (j : Nat), μ8 = wide - j → (j + 1 ≤ wide) → RW E G 2 6 (QI E G (fun r σ' => σ' = σ ∧ r = nI (llS (σ 28) (50 * w) fr (wide - 1)))) 8 [(0, .ref 23), (1, .int (nI w)), (2, .int (nI fr)), (3, .int (nI wide)), (4, .int (nI (llS (σ 28) (50 * w) fr j))), (5, .int (nI (fr + j + 1)))] [] σ := by
    intro μ8
    induction μ8 using Nat.strongRecOn with
    | ind μ8 ih8 =>
      intro j hμ8 hj
      have hlj := llS_in (σ 28) (50 * w) fr j
      refine rw_go hX [(8, .iload 5), (10, .iload_n 2), (11, .iload_n 3), (12, .iadd)] (by decide +kernel) (Ps := []) (pc' := 13) (lv' := [(0, .ref 23), (1, .int (nI w)), (2, .int (nI fr)), (3, .int (nI wide)), (4, .int (nI (llS (σ 28) (50 * w) fr j))), (5, .int (nI (fr + j + 1)))]) (st' := [.int (nI fr + nI wide), .int (nI (fr + j + 1))]) (σ' := σ) rfl True.intro ?_
      rw [show (nI fr + nI wide) = nI (fr + wide) from nI_add fr wide]
      refine rw_icmp hX (tgt := 43) (cnd := .ge) (off := 30) (by decide +kernel) (by decide) (fun h13 => ?_) (fun h13 => ?_)
      · replace h13 := c2_geT h13
        have e : j = wide - 1 := by omega
        refine rw_go hX [(43, .iload 4)] (by decide +kernel) (Ps := []) (pc' := 45) (lv' := [(0, .ref 23), (1, .int (nI w)), (2, .int (nI fr)), (3, .int (nI wide)), (4, .int (nI (llS (σ 28) (50 * w) fr j))), (5, .int (nI (fr + j + 1)))]) (st' := [.int (nI (llS (σ 28) (50 * w) fr j))]) (σ' := σ) rfl True.intro ?_
        exact rw_iret hX (by decide +kernel) (⟨rfl, by rw [e]⟩)
      · replace h13 := c2_geF h13
        refine rw_go hX [(16, .aload_n 0), (17, .iload_n 1), (18, .iload 5)] (by decide +kernel) (Ps := []) (pc' := 20) (lv' := [(0, .ref 23), (1, .int (nI w)), (2, .int (nI fr)), (3, .int (nI wide)), (4, .int (nI (llS (σ 28) (50 * w) fr j))), (5, .int (nI (fr + j + 1)))]) (st' := [.int (nI (fr + j + 1)), .int (nI w), .ref 23]) (σ' := σ) rfl True.intro ?_
        refine rw_callVi hX (as := [.int (nI w), .int (nI (fr + j + 1))]) (rest := []) (c_markAt _ _ _ w (fr + j + 1) hw (by omega)) (by decide +kernel) mvX3_markAt lk3_90 (ci := 2) rfl rfl rfl (by decide) (Nat.le_of_ble_eq_true rfl) rfl ?_
        intro r1 σ1 hr
        rw [hr.1, hr.2]
        clear hr σ1 r1
        refine rw_go hX [(23, .aload_n 0), (24, .iload_n 1), (25, .iload 4)] (by decide +kernel) (Ps := []) (pc' := 27) (lv' := [(0, .ref 23), (1, .int (nI w)), (2, .int (nI fr)), (3, .int (nI wide)), (4, .int (nI (llS (σ 28) (50 * w) fr j))), (5, .int (nI (fr + j + 1)))]) (st' := [.int (nI (llS (σ 28) (50 * w) fr j)), .int (nI w), .ref 23, .int (σ 28 (50 * w + (fr + j + 1)))]) (σ' := σ) rfl True.intro ?_
        refine rw_callVi hX (as := [.int (nI w), .int (nI (llS (σ 28) (50 * w) fr j))]) (rest := [.int (σ 28 (50 * w + (fr + j + 1)))]) (c_markAt _ _ _ w (llS (σ 28) (50 * w) fr j) hw (by omega)) (by decide +kernel) mvX3_markAt lk3_90 (ci := 2) rfl rfl rfl (by decide) (Nat.le_of_ble_eq_true rfl) rfl ?_
        intro r1 σ1 hr
        rw [hr.1, hr.2]
        clear hr σ1 r1
        refine rw_icmp hX (tgt := 37) (cnd := .gt) (off := 7) (by decide +kernel) (by decide) (fun h30 => ?_) (fun h30 => ?_)
        · replace h30 : (σ 28 (50 * w + (fr + j + 1)) > σ 28 (50 * w + llS (σ 28) (50 * w) fr j)) := h30
          refine rw_go hX [(37, .iinc 5 1), (40, .goto (-32))] (by decide +kernel) (Ps := []) (pc' := 8) (lv' := [(0, .ref 23), (1, .int (nI w)), (2, .int (nI fr)), (3, .int (nI wide)), (4, .int (nI (llS (σ 28) (50 * w) fr j))), (5, .int (nI (fr + j + 1) + nI 1))]) (st' := []) (σ' := σ) rfl True.intro ?_
          refine rw_lsub (ks := [0, 1, 2, 3, 4, 5]) (lv' := [(0, .ref 23), (1, .int (nI w)), (2, .int (nI fr)), (3, .int (nI wide)), (4, .int (nI (llS (σ 28) (50 * w) fr j))), (5, .int (nI (fr + j + 1) + nI 1))]) rfl ?_
          have q := ih8 (wide - (j + 1)) (by omega) (j + 1) rfl (by omega)
          rw [show llS (σ 28) (50 * w) fr (j + 1) = llS (σ 28) (50 * w) fr j from if_neg (Int32.not_le.mpr h30)] at q
          rw [nI_add]
          exact q
        · replace h30 : ¬ (σ 28 (50 * w + (fr + j + 1)) > σ 28 (50 * w + llS (σ 28) (50 * w) fr j)) := h30
          refine rw_go hX [(33, .iload 5), (35, .istore 4), (37, .iinc 5 1), (40, .goto (-32))] (by decide +kernel) (Ps := []) (pc' := 8) (lv' := [(0, .ref 23), (1, .int (nI w)), (2, .int (nI fr)), (3, .int (nI wide)), (4, .int (nI (fr + j + 1))), (5, .int (nI (fr + j + 1) + nI 1))]) (st' := []) (σ' := σ) rfl True.intro ?_
          refine rw_lsub (ks := [0, 1, 2, 3, 4, 5]) (lv' := [(0, .ref 23), (1, .int (nI w)), (2, .int (nI fr)), (3, .int (nI wide)), (4, .int (nI (fr + j + 1))), (5, .int (nI (fr + j + 1) + nI 1))]) rfl ?_
          have q := ih8 (wide - (j + 1)) (by omega) (j + 1) rfl (by omega)
          rw [show llS (σ 28) (50 * w) fr (j + 1) = fr + j + 1 from if_pos (Int32.not_lt.mp h30)] at q
          rw [nI_add]
          exact q
  refine rw_lsub (ks := [0, 1, 2, 3, 4, 5]) (lv' := [(0, .ref 23), (1, .int (nI w)), (2, .int (nI fr)), (3, .int (nI wide)), (4, .int (nI fr)), (5, .int (nI fr + nI 1))]) rfl ?_
  rw [nI_add]
  exact L8 wide 0 rfl (by omega)
