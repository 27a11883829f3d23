/-! the model: rule, mark, image, back, count -/
set_option maxRecDepth 20000 in
set_option maxHeartbeats 800000 in
theorem m_isRule_0 (l : Launch) (G : Gl) (σ : Mm) (xv : Int32) : AMi l G 1 mX10_isRule [.int (nI 0), .int xv] σ (fun r σ' => σ' = σ ∧ r = bz (decide (rlo 0 ≤ xv ∧ xv ≤ rhi 0))) := by
  refine rw_inI 10 (by decide +kernel) rfl rfl ?_
  intro E hE hX
  subst hE
  refine rw_go hX [(0, .iload_n 0)] (by decide +kernel) (Ps := []) (pc' := 1) (lv' := [(0, .int (nI 0)), (1, .int xv)]) (st' := [.int (nI 0)]) (σ' := σ) rfl True.intro ?_
  · skip
    refine rw_tabIn hX (tgt := 36) (df := 79) (lo := 0) (hi := 4) (offs := #[35, 47, 35, 57, 69]) (len := 35) (off := 35) (by decide +kernel) (by decide +kernel) (by decide +kernel) (by decide +kernel) (by decide) ?_
    refine rw_go hX [(36, .iload_n 1), (37, .i2l), (38, .ldc2_w 205), (41, .ldc2_w 207)] (by decide +kernel) (Ps := []) (pc' := 44) (lv' := [(0, .int (nI 0)), (1, .int xv)]) (st' := [.long 6, .long 2, .long (xv.toInt64)]) (σ' := σ) rfl True.intro ?_
    refine rw_callSi hX (as := [.long (xv.toInt64), .long 2, .long 6]) (rest := []) (m_inI _ _ _ (xv) (nI 2) (nI 6) _ _ _ rfl (by first | rfl | decide +kernel) (by first | rfl | decide +kernel)) (by decide +kernel) msX10_in (Or.inl lk10_105) rfl (by decide) (Nat.le_of_ble_eq_true rfl) rfl ?_
    intro r1 σ1 hr
    rw [hr.1, show r1 = bz (decide (nI 2 ≤ xv ∧ xv ≤ nI 6)) from hr.2]
    clear hr σ1 r1
    exact rw_zret hX (by decide +kernel) (bz_01 _) (⟨rfl, by rw [show rlo 0 = nI 2 from by decide +kernel, show rhi 0 = nI 6 from by decide +kernel]⟩)
set_option maxRecDepth 20000 in
set_option maxHeartbeats 800000 in
theorem m_isRule_1 (l : Launch) (G : Gl) (σ : Mm) (xv : Int32) : AMi l G 1 mX10_isRule [.int (nI 1), .int xv] σ (fun r σ' => σ' = σ ∧ r = bz (decide (rlo 1 ≤ xv ∧ xv ≤ rhi 1))) := by
  refine rw_inI 10 (by decide +kernel) rfl rfl ?_
  intro E hE hX
  subst hE
  refine rw_go hX [(0, .iload_n 0)] (by decide +kernel) (Ps := []) (pc' := 1) (lv' := [(0, .int (nI 1)), (1, .int xv)]) (st' := [.int (nI 1)]) (σ' := σ) rfl True.intro ?_
  · skip
    refine rw_tabIn hX (tgt := 48) (df := 79) (lo := 0) (hi := 4) (offs := #[35, 47, 35, 57, 69]) (len := 35) (off := 47) (by decide +kernel) (by decide +kernel) (by decide +kernel) (by decide +kernel) (by decide) ?_
    refine rw_go hX [(48, .iload_n 1), (49, .i2l), (50, .lconst 1), (51, .ldc2_w 207)] (by decide +kernel) (Ps := []) (pc' := 54) (lv' := [(0, .int (nI 1)), (1, .int xv)]) (st' := [.long 6, .long (Int64.ofNat 1), .long (xv.toInt64)]) (σ' := σ) rfl True.intro ?_
    refine rw_callSi hX (as := [.long (xv.toInt64), .long (Int64.ofNat 1), .long 6]) (rest := []) (m_inI _ _ _ (xv) (nI 1) (nI 6) _ _ _ rfl (by first | rfl | decide +kernel) (by first | rfl | decide +kernel)) (by decide +kernel) msX10_in (Or.inl lk10_105) rfl (by decide) (Nat.le_of_ble_eq_true rfl) rfl ?_
    intro r1 σ1 hr
    rw [hr.1, show r1 = bz (decide (nI 1 ≤ xv ∧ xv ≤ nI 6)) from hr.2]
    clear hr σ1 r1
    exact rw_zret hX (by decide +kernel) (bz_01 _) (⟨rfl, by rw [show rlo 1 = nI 1 from by decide +kernel, show rhi 1 = nI 6 from by decide +kernel]⟩)
set_option maxRecDepth 20000 in
set_option maxHeartbeats 800000 in
theorem m_isRule_2 (l : Launch) (G : Gl) (σ : Mm) (xv : Int32) : AMi l G 1 mX10_isRule [.int (nI 2), .int xv] σ (fun r σ' => σ' = σ ∧ r = bz (decide (rlo 2 ≤ xv ∧ xv ≤ rhi 2))) := by
  refine rw_inI 10 (by decide +kernel) rfl rfl ?_
  intro E hE hX
  subst hE
  refine rw_go hX [(0, .iload_n 0)] (by decide +kernel) (Ps := []) (pc' := 1) (lv' := [(0, .int (nI 2)), (1, .int xv)]) (st' := [.int (nI 2)]) (σ' := σ) rfl True.intro ?_
  · skip
    refine rw_tabIn hX (tgt := 36) (df := 79) (lo := 0) (hi := 4) (offs := #[35, 47, 35, 57, 69]) (len := 35) (off := 35) (by decide +kernel) (by decide +kernel) (by decide +kernel) (by decide +kernel) (by decide) ?_
    refine rw_go hX [(36, .iload_n 1), (37, .i2l), (38, .ldc2_w 205), (41, .ldc2_w 207)] (by decide +kernel) (Ps := []) (pc' := 44) (lv' := [(0, .int (nI 2)), (1, .int xv)]) (st' := [.long 6, .long 2, .long (xv.toInt64)]) (σ' := σ) rfl True.intro ?_
    refine rw_callSi hX (as := [.long (xv.toInt64), .long 2, .long 6]) (rest := []) (m_inI _ _ _ (xv) (nI 2) (nI 6) _ _ _ rfl (by first | rfl | decide +kernel) (by first | rfl | decide +kernel)) (by decide +kernel) msX10_in (Or.inl lk10_105) rfl (by decide) (Nat.le_of_ble_eq_true rfl) rfl ?_
    intro r1 σ1 hr
    rw [hr.1, show r1 = bz (decide (nI 2 ≤ xv ∧ xv ≤ nI 6)) from hr.2]
    clear hr σ1 r1
    exact rw_zret hX (by decide +kernel) (bz_01 _) (⟨rfl, by rw [show rlo 2 = nI 2 from by decide +kernel, show rhi 2 = nI 6 from by decide +kernel]⟩)
set_option maxRecDepth 20000 in
set_option maxHeartbeats 800000 in
theorem m_isRule_3 (l : Launch) (G : Gl) (σ : Mm) (xv : Int32) : AMi l G 1 mX10_isRule [.int (nI 3), .int xv] σ (fun r σ' => σ' = σ ∧ r = bz (decide (rlo 3 ≤ xv ∧ xv ≤ rhi 3))) := by
  refine rw_inI 10 (by decide +kernel) rfl rfl ?_
  intro E hE hX
  subst hE
  refine rw_go hX [(0, .iload_n 0)] (by decide +kernel) (Ps := []) (pc' := 1) (lv' := [(0, .int (nI 3)), (1, .int xv)]) (st' := [.int (nI 3)]) (σ' := σ) rfl True.intro ?_
  · skip
    refine rw_tabIn hX (tgt := 58) (df := 79) (lo := 0) (hi := 4) (offs := #[35, 47, 35, 57, 69]) (len := 35) (off := 57) (by decide +kernel) (by decide +kernel) (by decide +kernel) (by decide +kernel) (by decide) ?_
    refine rw_go hX [(58, .iload_n 1), (59, .i2l), (60, .ldc2_w 209), (63, .ldc2_w 103)] (by decide +kernel) (Ps := []) (pc' := 66) (lv' := [(0, .int (nI 3)), (1, .int xv)]) (st' := [.long 4, .long (-1), .long (xv.toInt64)]) (σ' := σ) rfl True.intro ?_
    refine rw_callSi hX (as := [.long (xv.toInt64), .long (-1), .long 4]) (rest := []) (m_inI _ _ _ (xv) (-(nI 1)) (nI 4) _ _ _ rfl (by first | rfl | decide +kernel) (by first | rfl | decide +kernel)) (by decide +kernel) msX10_in (Or.inl lk10_105) rfl (by decide) (Nat.le_of_ble_eq_true rfl) rfl ?_
    intro r1 σ1 hr
    rw [hr.1, show r1 = bz (decide (-(nI 1) ≤ xv ∧ xv ≤ nI 4)) from hr.2]
    clear hr σ1 r1
    exact rw_zret hX (by decide +kernel) (bz_01 _) (⟨rfl, by rw [show rlo 3 = -(nI 1) from by decide +kernel, show rhi 3 = nI 4 from by decide +kernel]⟩)
set_option maxRecDepth 20000 in
set_option maxHeartbeats 800000 in
theorem m_isRule_4 (l : Launch) (G : Gl) (σ : Mm) (xv : Int32) : AMi l G 1 mX10_isRule [.int (nI 4), .int xv] σ (fun r σ' => σ' = σ ∧ r = bz (decide (rlo 4 ≤ xv ∧ xv ≤ rhi 4))) := by
  refine rw_inI 10 (by decide +kernel) rfl rfl ?_
  intro E hE hX
  subst hE
  refine rw_go hX [(0, .iload_n 0)] (by decide +kernel) (Ps := []) (pc' := 1) (lv' := [(0, .int (nI 4)), (1, .int xv)]) (st' := [.int (nI 4)]) (σ' := σ) rfl True.intro ?_
  · skip
    refine rw_tabIn hX (tgt := 70) (df := 79) (lo := 0) (hi := 4) (offs := #[35, 47, 35, 57, 69]) (len := 35) (off := 69) (by decide +kernel) (by decide +kernel) (by decide +kernel) (by decide +kernel) (by decide) ?_
    refine rw_go hX [(70, .iload_n 1), (71, .i2l), (72, .lconst 1), (73, .ldc2_w 211)] (by decide +kernel) (Ps := []) (pc' := 76) (lv' := [(0, .int (nI 4)), (1, .int xv)]) (st' := [.long 50, .long (Int64.ofNat 1), .long (xv.toInt64)]) (σ' := σ) rfl True.intro ?_
    refine rw_callSi hX (as := [.long (xv.toInt64), .long (Int64.ofNat 1), .long 50]) (rest := []) (m_inI _ _ _ (xv) (nI 1) (nI 50) _ _ _ rfl (by first | rfl | decide +kernel) (by first | rfl | decide +kernel)) (by decide +kernel) msX10_in (Or.inl lk10_105) rfl (by decide) (Nat.le_of_ble_eq_true rfl) rfl ?_
    intro r1 σ1 hr
    rw [hr.1, show r1 = bz (decide (nI 1 ≤ xv ∧ xv ≤ nI 50)) from hr.2]
    clear hr σ1 r1
    exact rw_zret hX (by decide +kernel) (bz_01 _) (⟨rfl, by rw [show rlo 4 = nI 1 from by decide +kernel, show rhi 4 = nI 50 from by decide +kernel]⟩)
set_option maxRecDepth 20000 in
set_option maxHeartbeats 800000 in
theorem m_isRule_5 (l : Launch) (G : Gl) (σ : Mm) (xv : Int32) : AMi l G 1 mX10_isRule [.int (nI 5), .int xv] σ (fun r σ' => σ' = σ ∧ r = bz (decide (rlo 5 ≤ xv ∧ xv ≤ rhi 5))) := by
  refine rw_inI 10 (by decide +kernel) rfl rfl ?_
  intro E hE hX
  subst hE
  refine rw_go hX [(0, .iload_n 0)] (by decide +kernel) (Ps := []) (pc' := 1) (lv' := [(0, .int (nI 5)), (1, .int xv)]) (st' := [.int (nI 5)]) (σ' := σ) rfl True.intro ?_
  · skip
    refine rw_tabOut hX (tgt := 80) (df := 79) (lo := 0) (hi := 4) (offs := #[35, 47, 35, 57, 69]) (len := 35) (by decide +kernel) (Or.inr (by decide +kernel)) (by decide) ?_
    refine rw_go hX [(80, .iload_n 1), (81, .i2l), (82, .lconst 0), (83, .ldc2_w 213)] (by decide +kernel) (Ps := []) (pc' := 86) (lv' := [(0, .int (nI 5)), (1, .int xv)]) (st' := [.long 100, .long (Int64.ofNat 0), .long (xv.toInt64)]) (σ' := σ) rfl True.intro ?_
    refine rw_callSi hX (as := [.long (xv.toInt64), .long (Int64.ofNat 0), .long 100]) (rest := []) (m_inI _ _ _ (xv) (0) (nI 100) _ _ _ rfl (by first | rfl | decide +kernel) (by first | rfl | decide +kernel)) (by decide +kernel) msX10_in (Or.inl lk10_105) rfl (by decide) (Nat.le_of_ble_eq_true rfl) rfl ?_
    intro r1 σ1 hr
    rw [hr.1, show r1 = bz (decide (0 ≤ xv ∧ xv ≤ nI 100)) from hr.2]
    clear hr σ1 r1
    exact rw_zret hX (by decide +kernel) (bz_01 _) (⟨rfl, by rw [show rlo 5 = 0 from by decide +kernel, show rhi 5 = nI 100 from by decide +kernel]⟩)
theorem m_isRule (l : Launch) (G : Gl) (σ : Mm) (c : Nat) (xv : Int32) (hc : c < 6) : AMi l G 1 mX10_isRule [.int (nI c), .int xv] σ (fun r σ' => σ' = σ ∧ r = bz (decide (rlo c ≤ xv ∧ xv ≤ rhi c))) := by
  rcases (show c = 0 ∨ c = 1 ∨ c = 2 ∨ c = 3 ∨ c = 4 ∨ c = 5 by omega) with rfl | rfl | rfl | rfl | rfl | rfl
  · exact m_isRule_0 l G σ xv
  · exact m_isRule_1 l G σ xv
  · exact m_isRule_2 l G σ xv
  · exact m_isRule_3 l G σ xv
  · exact m_isRule_4 l G σ xv
  · exact m_isRule_5 l G σ xv
set_option maxRecDepth 20000 in
set_option maxHeartbeats 800000 in
theorem g_rule (l : Launch) (G : Gl) (σ : Mm) (V : Mm) (xq xv : Int32) (hV : vw σ 67 = V) : AMi l G 2 mX10_rule [.ref 66, .int xq, .int xv] σ (fun r σ' => r = aRule V xq xv ∧ σ' = sRule 71 σ xq xv) := by
  refine rw_inI 10 (by decide +kernel) rfl rfl ?_
  intro E hE hX
  subst hE
  refine rw_go hX [(0, .iload_n 1), (1, .i2l), (2, .lconst 0), (3, .ldc2_w 136)] (by decide +kernel) (Ps := []) (pc' := 6) (lv' := [(0, .ref 66), (1, .int xq), (2, .int xv)]) (st' := [.long 5, .long (Int64.ofNat 0), .long (xq.toInt64)]) (σ' := σ) rfl True.intro ?_
  refine rw_callSi hX (as := [.long (xq.toInt64), .long (Int64.ofNat 0), .long 5]) (rest := []) (m_inI _ _ _ (xq) (0) (nI 5) _ _ _ rfl (by first | rfl | decide +kernel) (by first | rfl | decide +kernel)) (by decide +kernel) msX10_in (Or.inl lk10_105) rfl (by decide) (Nat.le_of_ble_eq_true rfl) rfl ?_
  intro r1 σ1 hr
  rw [hr.1, show r1 = bz (decide (0 ≤ xq ∧ xq < nI 6)) from hr.2.trans (by rw [decide_eq_decide.mpr (in_O (m := 5) (by omega))])]
  clear hr σ1 r1
  refine rw_if hX (tgt := 20) (cnd := .eq) (off := 11) (by decide +kernel) (by decide) (fun h9 => ?_) (fun h9 => ?_)
  · replace h9 := of_decide_eq_false (zb_eqT h9)
    refine rw_go hX [(20, .bipush (-2))] (by decide +kernel) (Ps := []) (pc' := 22) (lv' := [(0, .ref 66), (1, .int xq), (2, .int xv)]) (st' := [.int (-(nI 2))]) (σ' := σ) rfl True.intro ?_
    exact rw_iret hX (by decide +kernel) (⟨by simp only [aRule, eq_false h9, if_true, if_false, Bool.false_eq_true, and_self, and_true, true_and, and_false, false_and, oel_n, oel_s, decide_true, decide_false], by simp only [sRule, eq_false h9, if_true, if_false, Bool.false_eq_true, and_self, and_true, true_and, and_false, false_and, oel_n, oel_s, decide_true, decide_false]⟩)
  · replace h9 := of_decide_eq_true (zb_eqF h9)
    obtain ⟨c, hc, rfl⟩ := rngO (m := 6) (by omega) h9
    have hcc : (nI c).toNatClampNeg = c := nI_clamp (by omega)
    refine rw_go hX [(12, .iload_n 1), (13, .iload_n 2)] (by decide +kernel) (Ps := []) (pc' := 14) (lv' := [(0, .ref 66), (1, .int (nI c)), (2, .int xv)]) (st' := [.int xv, .int (nI c)]) (σ' := σ) rfl True.intro ?_
    refine rw_callSi hX (as := [.int (nI c), .int xv]) (rest := []) (m_isRule _ _ _ c xv hc) (by decide +kernel) msX10_isRule (Or.inl lk10_215) rfl (by decide) (Nat.le_of_ble_eq_true rfl) rfl ?_
    intro r1 σ1 hr
    rw [hr.1, show r1 = bz (decide (rlo c ≤ xv ∧ xv ≤ rhi c)) from hr.2]
    clear hr σ1 r1
    refine rw_if hX (tgt := 23) (cnd := .ne) (off := 6) (by decide +kernel) (by decide) (fun h17 => ?_) (fun h17 => ?_)
    · replace h17 := of_decide_eq_true (zb_neT h17)
      have hq1 : ¬ xv < rlo c := Int32.not_lt.mpr h17.1
      have hq2 : xv ≤ rhi c := h17.2
      refine rw_go hX [(23, .aload_n 0), (24, .getfield 22), (27, .iload_n 1), (28, .iaload)] (by decide +kernel) (Ps := [vp_in (nI c) 6]) (pc' := 29) (lv' := [(0, .ref 66), (1, .int (nI c)), (2, .int xv)]) (st' := [.int (σ 71 (nI c).toNatClampNeg)]) (σ' := σ) rfl (vp_in_nI (by omega) (by omega)) ?_
      rw [show (σ 71 (nI c).toNatClampNeg) = V 4 c from (by rw [nI_clamp (by omega), vw_at hV 4 (by omega)])]
      refine rw_go hX [(29, .istore_n 3), (30, .aload_n 0), (31, .getfield 22), (34, .iload_n 1), (35, .iload_n 2), (36, .iastore)] (by decide +kernel) (Ps := [vp_in (nI c) 6]) (pc' := 37) (lv' := [(0, .ref 66), (1, .int (nI c)), (2, .int xv), (3, .int (V 4 c))]) (st' := []) (σ' := sw σ 71 (nI c).toNatClampNeg xv) rfl (vp_in_nI (by omega) (by omega)) ?_
      rw [show (sw σ 71 (nI c).toNatClampNeg xv) = sw σ 71 c xv from (by rw [nI_clamp (by omega)])]
      refine rw_go hX [(37, .iload_n 3)] (by decide +kernel) (Ps := []) (pc' := 38) (lv' := [(0, .ref 66), (1, .int (nI c)), (2, .int xv), (3, .int (V 4 c))]) (st' := [.int (V 4 c)]) (σ' := sw σ 71 c xv) rfl True.intro ?_
      exact rw_iret hX (by decide +kernel) (⟨by simp only [aRule, eq_true h9, hcc, eq_true h17, eq_false hq1, eq_true hq2, if_true, if_false, Bool.false_eq_true, and_self, and_true, true_and, and_false, false_and, oel_n, oel_s, decide_true, decide_false], by simp only [sRule, eq_true h9, hcc, eq_true h17, eq_false hq1, eq_true hq2, if_true, if_false, Bool.false_eq_true, and_self, and_true, true_and, and_false, false_and, oel_n, oel_s, decide_true, decide_false]⟩)
    · replace h17 := of_decide_eq_false (zb_neF h17)
      skip
      refine rw_go hX [(20, .bipush (-2))] (by decide +kernel) (Ps := []) (pc' := 22) (lv' := [(0, .ref 66), (1, .int (nI c)), (2, .int xv)]) (st' := [.int (-(nI 2))]) (σ' := σ) rfl True.intro ?_
      exact rw_iret hX (by decide +kernel) (⟨by simp only [aRule, eq_true h9, hcc, eq_false h17, ite5 h17, if_true, if_false, Bool.false_eq_true, and_self, and_true, true_and, and_false, false_and, oel_n, oel_s, decide_true, decide_false], by simp only [sRule, eq_true h9, hcc, eq_false h17, ite5 h17, if_true, if_false, Bool.false_eq_true, and_self, and_true, true_and, and_false, false_and, oel_n, oel_s, decide_true, decide_false]⟩)
set_option maxRecDepth 20000 in
set_option maxHeartbeats 800000 in
theorem g_mark (l : Launch) (G : Gl) (σ : Mm) (V : Mm) (xw xi : Int32) (hV : vw σ 67 = V) (hv : wf V) : AMl l G 5 mX10_mark [.ref 66, .int xw, .int xi] σ (fun r σ' => r = aMark V xw xi ∧ MQu σ σ') := by
  refine rw_inL 10 (by decide +kernel) rfl rfl ?_
  intro E hE hX
  subst hE
  refine rw_go hX [(0, .iload_n 1)] (by decide +kernel) (Ps := []) (pc' := 1) (lv' := [(0, .ref 66), (1, .int xw), (2, .int xi)]) (st' := [.int xw]) (σ' := σ) rfl True.intro ?_
  refine rw_callSi hX (as := [.int xw]) (rest := []) (m_isWork _ _ _ (xw)) (by decide +kernel) msX10_isWork (Or.inl lk10_157) rfl (by decide) (Nat.le_of_ble_eq_true rfl) rfl ?_
  intro r1 σ1 hr
  rw [hr.1, show r1 = bz (decide (0 ≤ xw ∧ xw ≤ 4)) from hr.2]
  clear hr σ1 r1
  refine rw_if hX (tgt := 15) (cnd := .eq) (off := 11) (by decide +kernel) (by decide) (fun h4 => ?_) (fun h4 => ?_)
  · replace h4 := of_decide_eq_false (zb_eqT h4)
    refine rw_go hX [(15, .ldc2_w 218)] (by decide +kernel) (Ps := []) (pc' := 18) (lv' := [(0, .ref 66), (1, .int xw), (2, .int xi)]) (st' := [.long (-4611686018427387904)]) (σ' := σ) rfl True.intro ?_
    exact rw_lret hX (by decide +kernel) (⟨by simp only [aMark, eq_false h4, if_true, if_false, Bool.false_eq_true, and_self, and_true, true_and, and_false, false_and, oel_n, oel_s, decide_true, decide_false], MQu_rfl _⟩)
  · replace h4 := of_decide_eq_true (zb_eqF h4)
    obtain ⟨w, hw, rfl⟩ := rng (m := 4) (by omega) h4
    have hw : w < 5 := hw
    have hcw : (nI w).toNatClampNeg = w := nI_clamp (by omega)
    refine rw_go hX [(7, .aload_n 0), (8, .iload_n 1)] (by decide +kernel) (Ps := []) (pc' := 9) (lv' := [(0, .ref 66), (1, .int (nI w)), (2, .int xi)]) (st' := [.int (nI w), .ref 66]) (σ' := σ) rfl True.intro ?_
    refine rw_callVi hX (as := [.int (nI w)]) (rest := []) (m_there _ _ _ V w hV hv hw) (by decide +kernel) mvX10_isThere lk10_132 (ci := 9) rfl rfl rfl (by decide) (Nat.le_of_ble_eq_true rfl) rfl ?_
    intro r1 σ1 hr
    rw [hr.1, show r1 = bz (decide (0 < vS V w)) from hr.2]
    clear hr σ1 r1
    refine rw_if hX (tgt := 19) (cnd := .ne) (off := 7) (by decide +kernel) (by decide) (fun h12 => ?_) (fun h12 => ?_)
    · replace h12 := of_decide_eq_true (zb_neT h12)
      have hvsw : ¬ vS V w = 0 := by omega
      refine rw_go hX [(19, .aload_n 0), (20, .iload_n 1)] (by decide +kernel) (Ps := []) (pc' := 21) (lv' := [(0, .ref 66), (1, .int (nI w)), (2, .int xi)]) (st' := [.int (nI w), .ref 66]) (σ' := σ) rfl True.intro ?_
      refine rw_callVv hX (as := [.int (nI w)]) (rest := []) (m_spells _ _ _ V w hV hv hw) (by decide +kernel) mvX10_spells lk10_174 (ci := 9) rfl rfl rfl (by decide) (Nat.le_of_ble_eq_true rfl) rfl ?_
      intro σ1 hr
      rw [hr]
      clear hr σ1
      refine rw_go hX [(24, .aload_n 0), (25, .iload_n 1)] (by decide +kernel) (Ps := []) (pc' := 26) (lv' := [(0, .ref 66), (1, .int (nI w)), (2, .int xi)]) (st' := [.int (nI w), .ref 66]) (σ' := rdL 75 76 77 V w σ) rfl True.intro ?_
      refine rw_callVv hX (as := [.int (nI w)]) (rest := []) (m_prints _ _ _ V w hv hw (by rw [rdL_n _ (by decide) (by decide) (by decide)]; exact vw_at hV 4 (by omega)) (RLe_mk (rt := 75) (rp := 76) (rn := 77) σ (by decide) (by decide) (by decide) hv hw).1) (by decide +kernel) mvX10_prints lk10_198 (ci := 9) rfl rfl rfl (by decide) (Nat.le_of_ble_eq_true rfl) rfl ?_
      intro σ1 hr
      rw [show σ1 = rd2 V w σ from hr]
      clear hr σ1
      have hR := rd2_mk hv hw σ
      have h71 : rd2 V w σ 71 = V 4 := by rw [rd2_n V w σ (by decide)]; exact vw_at hV 4 (by omega)
      have hq2 : MQu σ (rd2 V w σ) := MQu_k (ks := [75, 76, 77, 78, 79]) (fun q hq => rd2_n V w σ hq) (by decide)
      have hg5 := gC_50 hv hw
      refine rw_go hX [(29, .iload_n 2), (30, .i2l), (31, .lconst 0), (32, .aload_n 0), (33, .iload_n 1)] (by decide +kernel) (Ps := []) (pc' := 34) (lv' := [(0, .ref 66), (1, .int (nI w)), (2, .int xi)]) (st' := [.int (nI w), .ref 66, .long (Int64.ofNat 0), .long (xi.toInt64)]) (σ' := rd2 V w σ) rfl True.intro ?_
      refine rw_callVi hX (as := [.int (nI w)]) (rest := [.long (Int64.ofNat 0), .long (xi.toInt64)]) (m_gramsV _ _ _ V w hv hw h71 hR) (by decide +kernel) mvX10_grams lk10_187 (ci := 9) rfl rfl rfl (by decide) (Nat.le_of_ble_eq_true rfl) rfl ?_
      intro r1 σ1 hr
      rw [hr.1, show r1 = nI (gC V w) from hr.2]
      clear hr σ1 r1
      refine rw_go hX [(37, .iconst 1), (38, .isub), (39, .i2l)] (by decide +kernel) (Ps := []) (pc' := 40) (lv' := [(0, .ref 66), (1, .int (nI w)), (2, .int xi)]) (st' := [.long ((nI (gC V w) - nI 1).toInt64), .long (Int64.ofNat 0), .long (xi.toInt64)]) (σ' := rd2 V w σ) rfl True.intro ?_
      refine rw_callSi hX (as := [.long (xi.toInt64), .long (Int64.ofNat 0), .long ((nI (gC V w) - nI 1).toInt64)]) (rest := []) (m_inI _ _ _ (xi) (0) (nI (gC V w) - nI 1) _ _ _ rfl (by first | rfl | decide +kernel) (by first | rfl | decide +kernel)) (by decide +kernel) msX10_in (Or.inl lk10_105) rfl (by decide) (Nat.le_of_ble_eq_true rfl) rfl ?_
      intro r1 σ1 hr
      rw [hr.1, show r1 = bz (decide (0 ≤ xi ∧ xi < nI (gC V w))) from hr.2.trans (by rw [decide_eq_decide.mpr (in_C (by omega))])]
      clear hr σ1 r1
      refine rw_if hX (tgt := 61) (cnd := .eq) (off := 18) (by decide +kernel) (by decide) (fun h43 => ?_) (fun h43 => ?_)
      · replace h43 := of_decide_eq_false (zb_eqT h43)
        skip
        refine rw_go hX [(61, .ldc2_w 218)] (by decide +kernel) (Ps := []) (pc' := 64) (lv' := [(0, .ref 66), (1, .int (nI w)), (2, .int xi)]) (st' := [.long (-4611686018427387904)]) (σ' := rd2 V w σ) rfl True.intro ?_
        exact rw_lret hX (by decide +kernel) (⟨by simp only [aMark, eq_true h4, hcw, eq_true h12, eq_false hvsw, eq_false h43, ite2 h43, if_true, if_false, Bool.false_eq_true, and_self, and_true, true_and, and_false, false_and, oel_n, oel_s, decide_true, decide_false], hq2⟩)
      · replace h43 := of_decide_eq_true (zb_eqF h43)
        obtain ⟨i, hi, rfl⟩ := rngO (m := gC V w) (by omega) h43
        have hci : (nI i).toNatClampNeg = i := nI_clamp (by omega)
        have hzi : ¬ nI i < 0 := nI_pos (by omega)
        have hli : nI i < nI (gC V w) := h43.2
        refine rw_go hX [(46, .aload_n 0), (47, .getfield 43), (50, .bipush 50), (52, .iload_n 1), (53, .imul)] (by decide +kernel) (Ps := []) (pc' := 54) (lv' := [(0, .ref 66), (1, .int (nI w)), (2, .int (nI i))]) (st' := [.int (nI 50 * nI w), .ref 78]) (σ' := rd2 V w σ) rfl True.intro ?_
        rw [show (nI 50 * nI w) = nI (50 * w) from pk_mul _ _]
        refine rw_go hX [(54, .iload_n 2), (55, .iadd)] (by decide +kernel) (Ps := []) (pc' := 56) (lv' := [(0, .ref 66), (1, .int (nI w)), (2, .int (nI i))]) (st' := [.int (nI (50 * w) + nI i), .ref 78]) (σ' := rd2 V w σ) rfl True.intro ?_
        rw [show (nI (50 * w) + nI i) = nI (50 * w + i) from nI_add _ _]
        refine rw_go hX [(56, .iaload)] (by decide +kernel) (Ps := [vp_in (nI (50 * w + i)) 250]) (pc' := 57) (lv' := [(0, .ref 66), (1, .int (nI w)), (2, .int (nI i))]) (st' := [.int ((rd2 V w σ) 78 (nI (50 * w + i)).toNatClampNeg)]) (σ' := rd2 V w σ) rfl (vp_in_nI (by omega) (by omega)) ?_
        rw [show ((rd2 V w σ) 78 (nI (50 * w + i)).toNatClampNeg) = MK V (50 * w + i) from (by rw [nI_clamp (by omega), (hR.2 i hi).1])]
        refine rw_go hX [(57, .i2l), (58, .goto 6)] (by decide +kernel) (Ps := []) (pc' := 64) (lv' := [(0, .ref 66), (1, .int (nI w)), (2, .int (nI i))]) (st' := [.long ((MK V (50 * w + i)).toInt64)]) (σ' := rd2 V w σ) rfl True.intro ?_
        exact rw_lret hX (by decide +kernel) (⟨by simp only [aMark, eq_true h4, hcw, eq_true h12, eq_false hvsw, eq_true h43, hci, eq_false hzi, eq_true hli, if_true, if_false, Bool.false_eq_true, and_self, and_true, true_and, and_false, false_and, oel_n, oel_s, decide_true, decide_false], hq2⟩)
    · replace h12 := of_decide_eq_false (zb_neF h12)
      have hvsw : vS V w = 0 := by omega
      refine rw_go hX [(15, .ldc2_w 218)] (by decide +kernel) (Ps := []) (pc' := 18) (lv' := [(0, .ref 66), (1, .int (nI w)), (2, .int xi)]) (st' := [.long (-4611686018427387904)]) (σ' := σ) rfl True.intro ?_
      exact rw_lret hX (by decide +kernel) (⟨by simp only [aMark, eq_true h4, hcw, eq_false h12, eq_true hvsw, if_true, if_false, Bool.false_eq_true, and_self, and_true, true_and, and_false, false_and, oel_n, oel_s, decide_true, decide_false], MQu_rfl _⟩)
set_option maxRecDepth 20000 in
set_option maxHeartbeats 800000 in
theorem g_image (l : Launch) (G : Gl) (σ : Mm) (V : Mm) (hV : vw σ 67 = V) (hv : wf V) : AMi l G 3 mX10_image [.ref 66] σ (fun r σ' => r = nI (thN V) ∧ IMw V σ' ∧ (∀ k, k ≠ 66 → k ≠ 73 → σ' k = σ k) ∧ σ' 66 6 = σ 66 6 ∧ σ' 66 8 = nI 1) := by
  refine rw_inI 10 (by decide +kernel) rfl rfl ?_
  intro E hE hX
  subst hE
  refine rw_go hX [(0, .aload_n 0), (1, .iconst 1), (2, .putfield 125), (5, .aload_n 0), (6, .iconst 1)] (by decide +kernel) (Ps := [(nI 1) = 0 ∨ (nI 1) = 1]) (pc' := 7) (lv' := [(0, .ref 66)]) (st' := [.int (nI 1), .ref 66]) (σ' := sw σ 66 8 (nI 1)) rfl (Or.inr rfl) ?_
  refine rw_callVi hX (as := [.int (nI 1)]) (rest := []) (m_keep _ _ _ V ((vw_of (fun j hj => sw_ne _ _ _ (by omega))).trans hV) hv) (by decide +kernel) mvX10_passesAll lk10_128 (ci := 9) rfl rfl rfl (by decide) (Nat.le_of_ble_eq_true rfl) rfl ?_
  intro r1 τ1 hr
  obtain ⟨hr1, hI, hf, hg⟩ := hr
  rw [hr1]
  exact rw_iret hX (by decide +kernel) (⟨rfl, hI, fun k h1 h2 => (hf k h1 h2).trans (sw_ne _ _ _ h1), (hg 6 (by decide) (by decide)).trans (sw_o (by decide)), (hg 8 (by decide) (by decide)).trans sw_eq⟩)
set_option maxRecDepth 20000 in
set_option maxHeartbeats 800000 in
theorem g_back (l : Launch) (G : Gl) (σ : Mm) (W : Mm) (b : Bool) (hI : b = true → IMw W σ) (hv : b = true → wf W) (hb : σ 66 8 = bz b) : AMi l G 3 mX10_back [.ref 66] σ (fun r σ' => r = (if b = true then nI (thN W) else -(nI 3)) ∧ (b = true → SHw W σ') ∧ (∀ k, k ≠ 66 → (k < 67 ∨ 71 < k ∨ b = false) → σ' k = σ k) ∧ ∀ j, j ≠ 9 → j ≠ 10 → σ' 66 j = σ 66 j) := by
  refine rw_inI 10 (by decide +kernel) rfl rfl ?_
  intro E hE hX
  subst hE
  refine rw_go hX [(0, .aload_n 0), (1, .getfield 125)] (by decide +kernel) (Ps := []) (pc' := 4) (lv' := [(0, .ref 66)]) (st' := [.int (σ 66 8)]) (σ' := σ) rfl True.intro ?_
  rw [show (σ 66 8) = bz b from (by rw [hb])]
  refine rw_if hX (tgt := 15) (cnd := .eq) (off := 11) (by decide +kernel) (by decide) (fun h4 => ?_) (fun h4 => ?_)
  · replace h4 := zb_eqT h4
    refine rw_go hX [(15, .bipush (-3))] (by decide +kernel) (Ps := []) (pc' := 17) (lv' := [(0, .ref 66)]) (st' := [.int (-(nI 3))]) (σ' := σ) rfl True.intro ?_
    exact rw_iret hX (by decide +kernel) (by
  first
  | exact ⟨by rw [h4]; rfl, fun _ => hS, fun k h1 h2 => hf k h1 (h2.elim Or.inl fun z => z.elim Or.inr fun z => by rw [h4] at z; cases z), hg⟩
  | exact ⟨by rw [h4]; rfl, (fun z => by rw [h4] at z; cases z), fun _ _ _ => rfl, fun _ _ _ => rfl⟩)
  · replace h4 := zb_eqF h4
    refine rw_go hX [(7, .aload_n 0), (8, .iconst 0)] (by decide +kernel) (Ps := []) (pc' := 9) (lv' := [(0, .ref 66)]) (st' := [.int (nI 0), .ref 66]) (σ' := σ) rfl True.intro ?_
    refine rw_callVi hX (as := [.int (nI 0)]) (rest := []) (m_laid _ _ _ W (hI h4) (hv h4)) (by decide +kernel) mvX10_passesAll lk10_128 (ci := 9) rfl rfl rfl (by decide) (Nat.le_of_ble_eq_true rfl) rfl ?_
    intro r1 τ1 hr
    obtain ⟨hr1, hS, hf, hg⟩ := hr
    rw [hr1]
    refine rw_go hX [(12, .goto 5)] (by decide +kernel) (Ps := []) (pc' := 17) (lv' := [(0, .ref 66)]) (st' := [.int (nI (thN W))]) (σ' := τ1) rfl True.intro ?_
    exact rw_iret hX (by decide +kernel) (by
  first
  | exact ⟨by rw [h4]; rfl, fun _ => hS, fun k h1 h2 => hf k h1 (h2.elim Or.inl fun z => z.elim Or.inr fun z => by rw [h4] at z; cases z), hg⟩
  | exact ⟨by rw [h4]; rfl, (fun z => by rw [h4] at z; cases z), fun _ _ _ => rfl, fun _ _ _ => rfl⟩)
def NWq (V : Mm) (p n : Nat) : Prop := ∀ q, q < n → okc (gC V) q → ¬ lkP (LT V) (vR V 0) q p
def NB (V : Mm) (p : Nat) (b : Bool) (n : Nat) : Prop := (b = true ∧ NWq V p n) ∨ (b = false ∧ ¬ NWq V p p)
theorem NB_f {V : Mm} {p n m : Nat} {b : Bool} (h : NB V p b n) (hb : b = false) : NB V p b m := by
  rcases h with ⟨h1, _⟩ | h
  · rw [hb] at h1; cases h1
  · exact Or.inr h
theorem NB_up {V : Mm} {p n m : Nat} {b : Bool} (h : NB V p b n) (e : ∀ q, n ≤ q → q < m → ¬ okc (gC V) q) : NB V p b m := by
  rcases h with ⟨h1, h2⟩ | h
  · refine Or.inl ⟨h1, fun q hq ho => ?_⟩
    rcases Nat.lt_or_ge q n with g | g
    · exact h2 q g ho
    · exact absurd ho (e q g hq)
  · exact Or.inr h
theorem NB_1 {V : Mm} {p n : Nat} {b : Bool} (h : NB V p b n) (hb : b = true) (e : ¬ lkP (LT V) (vR V 0) n p) : NB V p true (n + 1) := by
  rcases h with ⟨h1, h2⟩ | ⟨h, _⟩
  · refine Or.inl ⟨rfl, fun q hq ho => ?_⟩
    by_cases g : q = n
    · rw [g]; exact e
    · exact h2 q (by omega) ho
  · rw [hb] at h; cases h
theorem NB_end {V : Mm} {p : Nat} {b : Bool} (h : NB V p b p) (ho : okc (gC V) p) : fst1 V p = b := by
  rcases h with ⟨h1, h2⟩ | ⟨h1, h2⟩
  · rw [h1]; exact pz_t ⟨ho, h2⟩
  · rw [h1]; exact pz_f fun z => h2 z.2
theorem cB_skip {b : Nat → Bool} {a : Nat} : ∀ {n : Nat}, a ≤ n → (∀ k, a ≤ k → k < n → b k = false) → cB b n = cB b a
  | 0, h, _ => by rw [show a = 0 by omega]
  | n + 1, h, e => by
    by_cases q : a = n + 1
    · rw [q]
    · rw [cB_n (e n (by omega) (by omega)), cB_skip (by omega) fun k h1 h2 => e k h1 (by omega)]
theorem nok {V : Mm} {v q : Nat} (h1 : 50 * v + gC V v ≤ q) (h2 : q < 50 * (v + 1)) : ¬ okc (gC V) q := fun z => by
  have e : q / 50 = v := by omega
  have := z.2
  rw [e] at this
  omega
set_option maxRecDepth 20000 in
set_option maxHeartbeats 800000 in
theorem m_unlike (l : Launch) (G : Gl) (σ : Mm) (V : Mm) (hv : wf V) (h71 : σ 71 = V 4) (hA : ∀ w, w < 5 → RDm V w σ) : AMi l G 1 mX10_unlikeGrams [.ref 66] σ (fun r σ' => σ' = σ ∧ r = nI (UG V)) := by
  refine rw_inI 10 (by decide +kernel) rfl rfl ?_
  intro E hE hX
  subst hE
  refine rw_go hX [(0, .iconst 0), (1, .istore_n 1), (2, .iconst 0), (3, .istore_n 2)] (by decide +kernel) (Ps := []) (pc' := 4) (lv' := [(0, .ref 66), (1, .int (nI 0)), (2, .int (nI 0))]) (st' := []) (σ' := σ) rfl True.intro ?_
  have L4 : ∀ (μ4 : Nat) (w : Nat), μ4 = 5 - w → (w ≤ 5) → RW E G 1 7 (QI E G (fun r σ' => σ' = σ ∧ r = nI (UG V))) 4 [(0, .ref 66), (1, .int (nI (cB (fst1 V) (50 * w)))), (2, .int (nI w))] [] σ := by
    intro μ4
    induction μ4 using Nat.strongRecOn with
    | ind μ4 ih4 =>
      intro w hμ4 hw5
      refine rw_go hX [(4, .iload_n 2), (5, .iconst 5)] (by decide +kernel) (Ps := []) (pc' := 6) (lv' := [(0, .ref 66), (1, .int (nI (cB (fst1 V) (50 * w)))), (2, .int (nI w))]) (st' := [.int (nI 5), .int (nI w)]) (σ' := σ) rfl True.intro ?_
      refine rw_icmp hX (tgt := 123) (cnd := .ge) (off := 117) (by decide +kernel) (by decide) (fun h6 => ?_) (fun h6 => ?_)
      · replace h6 := c2_geT h6
        have e5 : w = 5 := by omega
        refine rw_go hX [(123, .iload_n 1)] (by decide +kernel) (Ps := []) (pc' := 124) (lv' := [(0, .ref 66), (1, .int (nI (cB (fst1 V) (50 * w)))), (2, .int (nI w))]) (st' := [.int (nI (cB (fst1 V) (50 * w)))]) (σ' := σ) rfl True.intro ?_
        exact rw_iret hX (by decide +kernel) (⟨rfl, by rw [e5]; rfl⟩)
      · replace h6 := c2_geF h6
        have hg5 := gC_50 hv h6
        refine rw_go hX [(9, .iconst 0), (10, .istore_n 3)] (by decide +kernel) (Ps := []) (pc' := 11) (lv' := [(0, .ref 66), (1, .int (nI (cB (fst1 V) (50 * w)))), (2, .int (nI w)), (3, .int (nI 0))]) (st' := []) (σ' := σ) rfl True.intro ?_
        have L11 : ∀ (μ11 : Nat) (g : Nat), μ11 = gC V w - g → (g ≤ gC V w) → RW E G 1 7 (QI E G (fun r σ' => σ' = σ ∧ r = nI (UG V))) 11 [(0, .ref 66), (1, .int (nI (cB (fst1 V) (50 * w + g)))), (2, .int (nI w)), (3, .int (nI g))] [] σ := by
          intro μ11
          induction μ11 using Nat.strongRecOn with
          | ind μ11 ih11 =>
            intro g hμ11 hgg
            refine rw_go hX [(11, .iload_n 3), (12, .aload_n 0), (13, .iload_n 2)] (by decide +kernel) (Ps := []) (pc' := 14) (lv' := [(0, .ref 66), (1, .int (nI (cB (fst1 V) (50 * w + g)))), (2, .int (nI w)), (3, .int (nI g))]) (st' := [.int (nI w), .ref 66, .int (nI g)]) (σ' := σ) rfl True.intro ?_
            refine rw_callVi hX (as := [.int (nI w)]) (rest := [.int (nI g)]) (m_gramsV _ _ _ V w hv h6 h71 (hA w h6)) (by decide +kernel) mvX10_grams lk10_187 (ci := 9) rfl rfl rfl (by decide) (Nat.le_of_ble_eq_true rfl) rfl ?_
            intro r1 σ1 hr
            rw [hr.1, show r1 = nI (gC V w) from hr.2]
            clear hr σ1 r1
            refine rw_icmp hX (tgt := 117) (cnd := .ge) (off := 100) (by decide +kernel) (by decide) (fun h17 => ?_) (fun h17 => ?_)
            · replace h17 := c2_geT h17
              have eg : g = gC V w := by omega
              refine rw_go hX [(117, .iinc 2 1)] (by decide +kernel) (Ps := []) (pc' := 120) (lv' := [(0, .ref 66), (1, .int (nI (cB (fst1 V) (50 * w + g)))), (2, .int (nI w + nI 1)), (3, .int (nI g))]) (st' := []) (σ' := σ) rfl True.intro ?_
              rw [show (nI w + nI 1) = nI (w + 1) from nI_add _ _]
              refine rw_go hX [(120, .goto (-116))] (by decide +kernel) (Ps := []) (pc' := 4) (lv' := [(0, .ref 66), (1, .int (nI (cB (fst1 V) (50 * w + g)))), (2, .int (nI (w + 1))), (3, .int (nI g))]) (st' := []) (σ' := σ) rfl True.intro ?_
              refine rw_lsub (ks := [0, 1, 2]) (lv' := [(0, .ref 66), (1, .int (nI (cB (fst1 V) (50 * w + g)))), (2, .int (nI (w + 1)))]) rfl ?_
              have q := ih4 (5 - (w + 1)) (by omega) (w + 1) rfl (by omega)
              rw [cB_skip (b := fst1 V) (a := 50 * w + g) (by omega) (fun k h1 h2 => pz_f fun z => nok (v := w) (by omega) h2 z.1)] at q
              exact q
            · replace h17 := c2_geF h17
              refine rw_go hX [(20, .iconst 1), (21, .istore 4), (23, .iconst 0), (24, .istore 5)] (by decide +kernel) (Ps := []) (pc' := 26) (lv' := [(0, .ref 66), (1, .int (nI (cB (fst1 V) (50 * w + g)))), (2, .int (nI w)), (3, .int (nI g)), (4, .int (nI 1)), (5, .int (nI 0))]) (st' := []) (σ' := σ) rfl True.intro ?_
              have L26 : ∀ (μ26 : Nat) (v : Nat) (b : Bool), μ26 = 6 - v → (v ≤ w + 1) → (NB V (50 * w + g) b (min (50 * v) (50 * w + g))) → RW E G 1 7 (QI E G (fun r σ' => σ' = σ ∧ r = nI (UG V))) 26 [(0, .ref 66), (1, .int (nI (cB (fst1 V) (50 * w + g)))), (2, .int (nI w)), (3, .int (nI g)), (4, .int (bz b)), (5, .int (nI v))] [] σ := by
                intro μ26
                induction μ26 using Nat.strongRecOn with
                | ind μ26 ih26 =>
                  intro v b hμ26 hvw hb
                  refine rw_go hX [(26, .iload 5), (28, .iload_n 2)] (by decide +kernel) (Ps := []) (pc' := 29) (lv' := [(0, .ref 66), (1, .int (nI (cB (fst1 V) (50 * w + g)))), (2, .int (nI w)), (3, .int (nI g)), (4, .int (bz b)), (5, .int (nI v))]) (st' := [.int (nI w), .int (nI v)]) (σ' := σ) rfl True.intro ?_
                  refine rw_icmp hX (tgt := 98) (cnd := .gt) (off := 69) (by decide +kernel) (by decide) (fun h29 => ?_) (fun h29 => ?_)
                  · replace h29 := c2_gtT h29
                    have hf1 : fst1 V (50 * w + g) = b := NB_end (by rw [show min (50 * v) (50 * w + g) = (50 * w + g) by omega] at hb; exact hb) (okc_i hv h6 h17)
                    refine rw_go hX [(98, .iload_n 1), (99, .iload 4)] (by decide +kernel) (Ps := []) (pc' := 101) (lv' := [(0, .ref 66), (1, .int (nI (cB (fst1 V) (50 * w + g)))), (2, .int (nI w)), (3, .int (nI g)), (4, .int (bz b)), (5, .int (nI v))]) (st' := [.int (bz b), .int (nI (cB (fst1 V) (50 * w + g)))]) (σ' := σ) rfl True.intro ?_
                    refine rw_if hX (tgt := 108) (cnd := .eq) (off := 7) (by decide +kernel) (by decide) (fun h101 => ?_) (fun h101 => ?_)
                    · replace h101 := zb_eqT h101
                      refine rw_go hX [(108, .iconst 0), (109, .iadd)] (by decide +kernel) (Ps := []) (pc' := 110) (lv' := [(0, .ref 66), (1, .int (nI (cB (fst1 V) (50 * w + g)))), (2, .int (nI w)), (3, .int (nI g)), (4, .int (bz b)), (5, .int (nI v))]) (st' := [.int (nI (cB (fst1 V) (50 * w + g)) + nI 0)]) (σ' := σ) rfl True.intro ?_
                      rw [show (nI (cB (fst1 V) (50 * w + g)) + nI 0) = nI (cB (fst1 V) (50 * w + g) + 0) from nI_add _ _]
                      refine rw_go hX [(110, .istore_n 1), (111, .iinc 3 1)] (by decide +kernel) (Ps := []) (pc' := 114) (lv' := [(0, .ref 66), (1, .int (nI (cB (fst1 V) (50 * w + g) + 0))), (2, .int (nI w)), (3, .int (nI g + nI 1)), (4, .int (bz b)), (5, .int (nI v))]) (st' := []) (σ' := σ) rfl True.intro ?_
                      rw [show (nI g + nI 1) = nI (g + 1) from nI_add _ _]
                      refine rw_go hX [(114, .goto (-103))] (by decide +kernel) (Ps := []) (pc' := 11) (lv' := [(0, .ref 66), (1, .int (nI (cB (fst1 V) (50 * w + g) + 0))), (2, .int (nI w)), (3, .int (nI (g + 1))), (4, .int (bz b)), (5, .int (nI v))]) (st' := []) (σ' := σ) rfl True.intro ?_
                      refine rw_lsub (ks := [0, 1, 2, 3]) (lv' := [(0, .ref 66), (1, .int (nI (cB (fst1 V) (50 * w + g) + 0))), (2, .int (nI w)), (3, .int (nI (g + 1)))]) rfl ?_
                      have q := ih11 (gC V w - (g + 1)) (by omega) (g + 1) rfl (by omega)
                      rw [← Nat.add_assoc, cB_n (hf1.trans h101)] at q
                      exact q
                    · replace h101 := zb_eqF h101
                      refine rw_go hX [(104, .iconst 1), (105, .goto 4), (109, .iadd)] (by decide +kernel) (Ps := []) (pc' := 110) (lv' := [(0, .ref 66), (1, .int (nI (cB (fst1 V) (50 * w + g)))), (2, .int (nI w)), (3, .int (nI g)), (4, .int (bz b)), (5, .int (nI v))]) (st' := [.int (nI (cB (fst1 V) (50 * w + g)) + nI 1)]) (σ' := σ) rfl True.intro ?_
                      rw [show (nI (cB (fst1 V) (50 * w + g)) + nI 1) = nI (cB (fst1 V) (50 * w + g) + 1) from nI_add _ _]
                      refine rw_go hX [(110, .istore_n 1), (111, .iinc 3 1)] (by decide +kernel) (Ps := []) (pc' := 114) (lv' := [(0, .ref 66), (1, .int (nI (cB (fst1 V) (50 * w + g) + 1))), (2, .int (nI w)), (3, .int (nI g + nI 1)), (4, .int (bz b)), (5, .int (nI v))]) (st' := []) (σ' := σ) rfl True.intro ?_
                      rw [show (nI g + nI 1) = nI (g + 1) from nI_add _ _]
                      refine rw_go hX [(114, .goto (-103))] (by decide +kernel) (Ps := []) (pc' := 11) (lv' := [(0, .ref 66), (1, .int (nI (cB (fst1 V) (50 * w + g) + 1))), (2, .int (nI w)), (3, .int (nI (g + 1))), (4, .int (bz b)), (5, .int (nI v))]) (st' := []) (σ' := σ) rfl True.intro ?_
                      refine rw_lsub (ks := [0, 1, 2, 3]) (lv' := [(0, .ref 66), (1, .int (nI (cB (fst1 V) (50 * w + g) + 1))), (2, .int (nI w)), (3, .int (nI (g + 1)))]) rfl ?_
                      have q := ih11 (gC V w - (g + 1)) (by omega) (g + 1) rfl (by omega)
                      rw [← Nat.add_assoc, cB_y (hf1.trans h101)] at q
                      exact q
                  · replace h29 := c2_gtF h29
                    refine rw_go hX [(32, .iload 4)] (by decide +kernel) (Ps := []) (pc' := 34) (lv' := [(0, .ref 66), (1, .int (nI (cB (fst1 V) (50 * w + g)))), (2, .int (nI w)), (3, .int (nI g)), (4, .int (bz b)), (5, .int (nI v))]) (st' := [.int (bz b)]) (σ' := σ) rfl True.intro ?_
                    refine rw_if hX (tgt := 98) (cnd := .eq) (off := 64) (by decide +kernel) (by decide) (fun h34 => ?_) (fun h34 => ?_)
                    · replace h34 := zb_eqT h34
                      have hf1 : fst1 V (50 * w + g) = b := NB_end (NB_f hb h34) (okc_i hv h6 h17)
                      refine rw_go hX [(98, .iload_n 1), (99, .iload 4)] (by decide +kernel) (Ps := []) (pc' := 101) (lv' := [(0, .ref 66), (1, .int (nI (cB (fst1 V) (50 * w + g)))), (2, .int (nI w)), (3, .int (nI g)), (4, .int (bz b)), (5, .int (nI v))]) (st' := [.int (bz b), .int (nI (cB (fst1 V) (50 * w + g)))]) (σ' := σ) rfl True.intro ?_
                      refine rw_if hX (tgt := 108) (cnd := .eq) (off := 7) (by decide +kernel) (by decide) (fun h101 => ?_) (fun h101 => ?_)
                      · replace h101 := zb_eqT h101
                        refine rw_go hX [(108, .iconst 0), (109, .iadd)] (by decide +kernel) (Ps := []) (pc' := 110) (lv' := [(0, .ref 66), (1, .int (nI (cB (fst1 V) (50 * w + g)))), (2, .int (nI w)), (3, .int (nI g)), (4, .int (bz b)), (5, .int (nI v))]) (st' := [.int (nI (cB (fst1 V) (50 * w + g)) + nI 0)]) (σ' := σ) rfl True.intro ?_
                        rw [show (nI (cB (fst1 V) (50 * w + g)) + nI 0) = nI (cB (fst1 V) (50 * w + g) + 0) from nI_add _ _]
                        refine rw_go hX [(110, .istore_n 1), (111, .iinc 3 1)] (by decide +kernel) (Ps := []) (pc' := 114) (lv' := [(0, .ref 66), (1, .int (nI (cB (fst1 V) (50 * w + g) + 0))), (2, .int (nI w)), (3, .int (nI g + nI 1)), (4, .int (bz b)), (5, .int (nI v))]) (st' := []) (σ' := σ) rfl True.intro ?_
                        rw [show (nI g + nI 1) = nI (g + 1) from nI_add _ _]
                        refine rw_go hX [(114, .goto (-103))] (by decide +kernel) (Ps := []) (pc' := 11) (lv' := [(0, .ref 66), (1, .int (nI (cB (fst1 V) (50 * w + g) + 0))), (2, .int (nI w)), (3, .int (nI (g + 1))), (4, .int (bz b)), (5, .int (nI v))]) (st' := []) (σ' := σ) rfl True.intro ?_
                        refine rw_lsub (ks := [0, 1, 2, 3]) (lv' := [(0, .ref 66), (1, .int (nI (cB (fst1 V) (50 * w + g) + 0))), (2, .int (nI w)), (3, .int (nI (g + 1)))]) rfl ?_
                        have q := ih11 (gC V w - (g + 1)) (by omega) (g + 1) rfl (by omega)
                        rw [← Nat.add_assoc, cB_n (hf1.trans h101)] at q
                        exact q
                      · replace h101 := zb_eqF h101
                        refine rw_go hX [(104, .iconst 1), (105, .goto 4), (109, .iadd)] (by decide +kernel) (Ps := []) (pc' := 110) (lv' := [(0, .ref 66), (1, .int (nI (cB (fst1 V) (50 * w + g)))), (2, .int (nI w)), (3, .int (nI g)), (4, .int (bz b)), (5, .int (nI v))]) (st' := [.int (nI (cB (fst1 V) (50 * w + g)) + nI 1)]) (σ' := σ) rfl True.intro ?_
                        rw [show (nI (cB (fst1 V) (50 * w + g)) + nI 1) = nI (cB (fst1 V) (50 * w + g) + 1) from nI_add _ _]
                        refine rw_go hX [(110, .istore_n 1), (111, .iinc 3 1)] (by decide +kernel) (Ps := []) (pc' := 114) (lv' := [(0, .ref 66), (1, .int (nI (cB (fst1 V) (50 * w + g) + 1))), (2, .int (nI w)), (3, .int (nI g + nI 1)), (4, .int (bz b)), (5, .int (nI v))]) (st' := []) (σ' := σ) rfl True.intro ?_
                        rw [show (nI g + nI 1) = nI (g + 1) from nI_add _ _]
                        refine rw_go hX [(114, .goto (-103))] (by decide +kernel) (Ps := []) (pc' := 11) (lv' := [(0, .ref 66), (1, .int (nI (cB (fst1 V) (50 * w + g) + 1))), (2, .int (nI w)), (3, .int (nI (g + 1))), (4, .int (bz b)), (5, .int (nI v))]) (st' := []) (σ' := σ) rfl True.intro ?_
                        refine rw_lsub (ks := [0, 1, 2, 3]) (lv' := [(0, .ref 66), (1, .int (nI (cB (fst1 V) (50 * w + g) + 1))), (2, .int (nI w)), (3, .int (nI (g + 1)))]) rfl ?_
                        have q := ih11 (gC V w - (g + 1)) (by omega) (g + 1) rfl (by omega)
                        rw [← Nat.add_assoc, cB_y (hf1.trans h101)] at q
                        exact q
                    · replace h34 := zb_eqF h34
                      refine rw_go hX [(37, .iconst 0), (38, .istore 6)] (by decide +kernel) (Ps := []) (pc' := 40) (lv' := [(0, .ref 66), (1, .int (nI (cB (fst1 V) (50 * w + g)))), (2, .int (nI w)), (3, .int (nI g)), (4, .int (bz b)), (5, .int (nI v)), (6, .int (nI 0))]) (st' := []) (σ' := σ) rfl True.intro ?_
                      have L40 : ∀ (μ40 : Nat) (h : Nat) (b : Bool), μ40 = 50 - h → (h ≤ 50) → (v = w → h ≤ g) → (NB V (50 * w + g) b (50 * v + h)) → RW E G 1 7 (QI E G (fun r σ' => σ' = σ ∧ r = nI (UG V))) 40 [(0, .ref 66), (1, .int (nI (cB (fst1 V) (50 * w + g)))), (2, .int (nI w)), (3, .int (nI g)), (4, .int (bz b)), (5, .int (nI v)), (6, .int (nI h))] [] σ := by
                        intro μ40
                        induction μ40 using Nat.strongRecOn with
                        | ind μ40 ih40 =>
                          intro h b hμ40 hh50 hhg hb
                          have hv5 : v < 5 := by omega
                          have hgv := gC_50 hv hv5
                          refine rw_go hX [(40, .iload 6), (42, .iload 5), (44, .iload_n 2)] (by decide +kernel) (Ps := []) (pc' := 45) (lv' := [(0, .ref 66), (1, .int (nI (cB (fst1 V) (50 * w + g)))), (2, .int (nI w)), (3, .int (nI g)), (4, .int (bz b)), (5, .int (nI v)), (6, .int (nI h))]) (st' := [.int (nI w), .int (nI v), .int (nI h)]) (σ' := σ) rfl True.intro ?_
                          refine rw_icmp hX (tgt := 52) (cnd := .ne) (off := 7) (by decide +kernel) (by decide) (fun h45 => ?_) (fun h45 => ?_)
                          · replace h45 := c2_neT h45
                            refine rw_go hX [(52, .aload_n 0), (53, .iload 5)] (by decide +kernel) (Ps := []) (pc' := 55) (lv' := [(0, .ref 66), (1, .int (nI (cB (fst1 V) (50 * w + g)))), (2, .int (nI w)), (3, .int (nI g)), (4, .int (bz b)), (5, .int (nI v)), (6, .int (nI h))]) (st' := [.int (nI v), .ref 66, .int (nI h)]) (σ' := σ) rfl True.intro ?_
                            refine rw_callVi hX (as := [.int (nI v)]) (rest := [.int (nI h)]) (m_gramsV _ _ _ V v hv hv5 h71 (hA v hv5)) (by decide +kernel) mvX10_grams lk10_187 (ci := 9) rfl rfl rfl (by decide) (Nat.le_of_ble_eq_true rfl) rfl ?_
                            intro r1 σ1 hr
                            rw [hr.1, show r1 = nI (gC V v) from hr.2]
                            clear hr σ1 r1
                            refine rw_icmp hX (tgt := 92) (cnd := .ge) (off := 34) (by decide +kernel) (by decide) (fun h58 => ?_) (fun h58 => ?_)
                            · replace h58 := c2_geT h58
                              have hnext : NB V (50 * w + g) b (min (50 * (v + 1)) (50 * w + g)) := NB_up hb fun q h1 h2 => by
                                rcases Nat.lt_or_ge v w with z | z
                                · have h45b : v ≠ w := by omega
                                  exact nok (v := v) (by omega) (by omega)
                                · omega
                              refine rw_go hX [(92, .iinc 5 1)] (by decide +kernel) (Ps := []) (pc' := 95) (lv' := [(0, .ref 66), (1, .int (nI (cB (fst1 V) (50 * w + g)))), (2, .int (nI w)), (3, .int (nI g)), (4, .int (bz b)), (5, .int (nI v + nI 1)), (6, .int (nI h))]) (st' := []) (σ' := σ) rfl True.intro ?_
                              rw [show (nI v + nI 1) = nI (v + 1) from nI_add _ _]
                              refine rw_go hX [(95, .goto (-69))] (by decide +kernel) (Ps := []) (pc' := 26) (lv' := [(0, .ref 66), (1, .int (nI (cB (fst1 V) (50 * w + g)))), (2, .int (nI w)), (3, .int (nI g)), (4, .int (bz b)), (5, .int (nI (v + 1))), (6, .int (nI h))]) (st' := []) (σ' := σ) rfl True.intro ?_
                              refine rw_lsub (ks := [0, 1, 2, 3, 4, 5]) (lv' := [(0, .ref 66), (1, .int (nI (cB (fst1 V) (50 * w + g)))), (2, .int (nI w)), (3, .int (nI g)), (4, .int (bz b)), (5, .int (nI (v + 1)))]) rfl ?_
                              exact ih26 (6 - (v + 1)) (by omega) (v + 1) b rfl (by omega) hnext
                            · replace h58 := c2_geF h58
                              have hh : h < gC V v := by
                                rcases Nat.lt_or_ge v w with z | z
                                · omega
                                · have e9 : v = w := by omega
                                  rw [e9]
                                  omega
                              refine rw_go hX [(61, .iload 4)] (by decide +kernel) (Ps := []) (pc' := 63) (lv' := [(0, .ref 66), (1, .int (nI (cB (fst1 V) (50 * w + g)))), (2, .int (nI w)), (3, .int (nI g)), (4, .int (bz b)), (5, .int (nI v)), (6, .int (nI h))]) (st' := [.int (bz b)]) (σ' := σ) rfl True.intro ?_
                              refine rw_if hX (tgt := 92) (cnd := .eq) (off := 29) (by decide +kernel) (by decide) (fun h63 => ?_) (fun h63 => ?_)
                              · replace h63 := zb_eqT h63
                                have hnext : NB V (50 * w + g) b (min (50 * (v + 1)) (50 * w + g)) := NB_f hb h63
                                refine rw_go hX [(92, .iinc 5 1)] (by decide +kernel) (Ps := []) (pc' := 95) (lv' := [(0, .ref 66), (1, .int (nI (cB (fst1 V) (50 * w + g)))), (2, .int (nI w)), (3, .int (nI g)), (4, .int (bz b)), (5, .int (nI v + nI 1)), (6, .int (nI h))]) (st' := []) (σ' := σ) rfl True.intro ?_
                                rw [show (nI v + nI 1) = nI (v + 1) from nI_add _ _]
                                refine rw_go hX [(95, .goto (-69))] (by decide +kernel) (Ps := []) (pc' := 26) (lv' := [(0, .ref 66), (1, .int (nI (cB (fst1 V) (50 * w + g)))), (2, .int (nI w)), (3, .int (nI g)), (4, .int (bz b)), (5, .int (nI (v + 1))), (6, .int (nI h))]) (st' := []) (σ' := σ) rfl True.intro ?_
                                refine rw_lsub (ks := [0, 1, 2, 3, 4, 5]) (lv' := [(0, .ref 66), (1, .int (nI (cB (fst1 V) (50 * w + g)))), (2, .int (nI w)), (3, .int (nI g)), (4, .int (bz b)), (5, .int (nI (v + 1)))]) rfl ?_
                                exact ih26 (6 - (v + 1)) (by omega) (v + 1) b rfl (by omega) hnext
                              · replace h63 := zb_eqF h63
                                refine rw_go hX [(66, .aload_n 0), (67, .iload_n 2), (68, .iload_n 3), (69, .iload 5), (71, .iload 6)] (by decide +kernel) (Ps := []) (pc' := 73) (lv' := [(0, .ref 66), (1, .int (nI (cB (fst1 V) (50 * w + g)))), (2, .int (nI w)), (3, .int (nI g)), (4, .int (bz b)), (5, .int (nI v)), (6, .int (nI h))]) (st' := [.int (nI h), .int (nI v), .int (nI g), .int (nI w), .ref 66]) (σ' := σ) rfl True.intro ?_
                                refine rw_callVi hX (as := [.int (nI w), .int (nI g), .int (nI v), .int (nI h)]) (rest := []) (m_isLike _ _ _ V w g v h hv h6 hv5 h71 (hA w h6) (hA v hv5) h17 hh) (by decide +kernel) mvX10_isLike lk10_191 (ci := 9) rfl rfl rfl (by decide) (Nat.le_of_ble_eq_true rfl) rfl ?_
                                intro r1 σ1 hr
                                rw [hr.1, show r1 = bz (lkC (LT V) (50 * w + g) (50 * v + h) (vR V 0)) from hr.2]
                                clear hr σ1 r1
                                refine rw_if hX (tgt := 83) (cnd := .ne) (off := 7) (by decide +kernel) (by decide) (fun h76 => ?_) (fun h76 => ?_)
                                · replace h76 := zb_neT h76
                                  refine rw_go hX [(83, .iconst 0), (84, .istore 4), (86, .iinc 6 1)] (by decide +kernel) (Ps := []) (pc' := 89) (lv' := [(0, .ref 66), (1, .int (nI (cB (fst1 V) (50 * w + g)))), (2, .int (nI w)), (3, .int (nI g)), (4, .int (nI 0)), (5, .int (nI v)), (6, .int (nI h + nI 1))]) (st' := []) (σ' := σ) rfl True.intro ?_
                                  rw [show (nI h + nI 1) = nI (h + 1) from nI_add _ _]
                                  refine rw_go hX [(89, .goto (-49))] (by decide +kernel) (Ps := []) (pc' := 40) (lv' := [(0, .ref 66), (1, .int (nI (cB (fst1 V) (50 * w + g)))), (2, .int (nI w)), (3, .int (nI g)), (4, .int (nI 0)), (5, .int (nI v)), (6, .int (nI (h + 1)))]) (st' := []) (σ' := σ) rfl True.intro ?_
                                  refine rw_lsub (ks := [0, 1, 2, 3, 4, 5, 6]) (lv' := [(0, .ref 66), (1, .int (nI (cB (fst1 V) (50 * w + g)))), (2, .int (nI w)), (3, .int (nI g)), (4, .int (nI 0)), (5, .int (nI v)), (6, .int (nI (h + 1)))]) rfl ?_
                                  exact ih40 (50 - (h + 1)) (by omega) (h + 1) false rfl (by omega) (by omega) (Or.inr ⟨rfl, fun z => z (50 * v + h) (by omega) (okc_i hv hv5 hh) (lkP_s h76)⟩)
                                · replace h76 := zb_neF h76
                                  refine rw_go hX [(79, .iconst 1), (80, .goto 4), (84, .istore 4), (86, .iinc 6 1)] (by decide +kernel) (Ps := []) (pc' := 89) (lv' := [(0, .ref 66), (1, .int (nI (cB (fst1 V) (50 * w + g)))), (2, .int (nI w)), (3, .int (nI g)), (4, .int (nI 1)), (5, .int (nI v)), (6, .int (nI h + nI 1))]) (st' := []) (σ' := σ) rfl True.intro ?_
                                  rw [show (nI h + nI 1) = nI (h + 1) from nI_add _ _]
                                  refine rw_go hX [(89, .goto (-49))] (by decide +kernel) (Ps := []) (pc' := 40) (lv' := [(0, .ref 66), (1, .int (nI (cB (fst1 V) (50 * w + g)))), (2, .int (nI w)), (3, .int (nI g)), (4, .int (nI 1)), (5, .int (nI v)), (6, .int (nI (h + 1)))]) (st' := []) (σ' := σ) rfl True.intro ?_
                                  refine rw_lsub (ks := [0, 1, 2, 3, 4, 5, 6]) (lv' := [(0, .ref 66), (1, .int (nI (cB (fst1 V) (50 * w + g)))), (2, .int (nI w)), (3, .int (nI g)), (4, .int (nI 1)), (5, .int (nI v)), (6, .int (nI (h + 1)))]) rfl ?_
                                  exact ih40 (50 - (h + 1)) (by omega) (h + 1) true rfl (by omega) (by omega) (NB_1 (n := 50 * v + h) hb h63 fun z => by have h2 : lkC (LT V) (50 * w + g) (50 * v + h) (vR V 0) = true := lkP_s z; rw [h76] at h2; cases h2)
                          · replace h45 := c2_neF h45
                            refine rw_go hX [(48, .iload_n 3), (49, .goto 9)] (by decide +kernel) (Ps := []) (pc' := 58) (lv' := [(0, .ref 66), (1, .int (nI (cB (fst1 V) (50 * w + g)))), (2, .int (nI w)), (3, .int (nI g)), (4, .int (bz b)), (5, .int (nI v)), (6, .int (nI h))]) (st' := [.int (nI g), .int (nI h)]) (σ' := σ) rfl True.intro ?_
                            refine rw_icmp hX (tgt := 92) (cnd := .ge) (off := 34) (by decide +kernel) (by decide) (fun h58 => ?_) (fun h58 => ?_)
                            · replace h58 := c2_geT h58
                              have hnext : NB V (50 * w + g) b (min (50 * (v + 1)) (50 * w + g)) := NB_up hb fun q h1 h2 => by
                                rcases Nat.lt_or_ge v w with z | z
                                · have h45b : v ≠ w := by omega
                                  exact nok (v := v) (by omega) (by omega)
                                · omega
                              refine rw_go hX [(92, .iinc 5 1)] (by decide +kernel) (Ps := []) (pc' := 95) (lv' := [(0, .ref 66), (1, .int (nI (cB (fst1 V) (50 * w + g)))), (2, .int (nI w)), (3, .int (nI g)), (4, .int (bz b)), (5, .int (nI v + nI 1)), (6, .int (nI h))]) (st' := []) (σ' := σ) rfl True.intro ?_
                              rw [show (nI v + nI 1) = nI (v + 1) from nI_add _ _]
                              refine rw_go hX [(95, .goto (-69))] (by decide +kernel) (Ps := []) (pc' := 26) (lv' := [(0, .ref 66), (1, .int (nI (cB (fst1 V) (50 * w + g)))), (2, .int (nI w)), (3, .int (nI g)), (4, .int (bz b)), (5, .int (nI (v + 1))), (6, .int (nI h))]) (st' := []) (σ' := σ) rfl True.intro ?_
                              refine rw_lsub (ks := [0, 1, 2, 3, 4, 5]) (lv' := [(0, .ref 66), (1, .int (nI (cB (fst1 V) (50 * w + g)))), (2, .int (nI w)), (3, .int (nI g)), (4, .int (bz b)), (5, .int (nI (v + 1)))]) rfl ?_
                              exact ih26 (6 - (v + 1)) (by omega) (v + 1) b rfl (by omega) hnext
                            · replace h58 := c2_geF h58
                              have hh : h < gC V v := by
                                rcases Nat.lt_or_ge v w with z | z
                                · omega
                                · have e9 : v = w := by omega
                                  rw [e9]
                                  omega
                              refine rw_go hX [(61, .iload 4)] (by decide +kernel) (Ps := []) (pc' := 63) (lv' := [(0, .ref 66), (1, .int (nI (cB (fst1 V) (50 * w + g)))), (2, .int (nI w)), (3, .int (nI g)), (4, .int (bz b)), (5, .int (nI v)), (6, .int (nI h))]) (st' := [.int (bz b)]) (σ' := σ) rfl True.intro ?_
                              refine rw_if hX (tgt := 92) (cnd := .eq) (off := 29) (by decide +kernel) (by decide) (fun h63 => ?_) (fun h63 => ?_)
                              · replace h63 := zb_eqT h63
                                have hnext : NB V (50 * w + g) b (min (50 * (v + 1)) (50 * w + g)) := NB_f hb h63
                                refine rw_go hX [(92, .iinc 5 1)] (by decide +kernel) (Ps := []) (pc' := 95) (lv' := [(0, .ref 66), (1, .int (nI (cB (fst1 V) (50 * w + g)))), (2, .int (nI w)), (3, .int (nI g)), (4, .int (bz b)), (5, .int (nI v + nI 1)), (6, .int (nI h))]) (st' := []) (σ' := σ) rfl True.intro ?_
                                rw [show (nI v + nI 1) = nI (v + 1) from nI_add _ _]
                                refine rw_go hX [(95, .goto (-69))] (by decide +kernel) (Ps := []) (pc' := 26) (lv' := [(0, .ref 66), (1, .int (nI (cB (fst1 V) (50 * w + g)))), (2, .int (nI w)), (3, .int (nI g)), (4, .int (bz b)), (5, .int (nI (v + 1))), (6, .int (nI h))]) (st' := []) (σ' := σ) rfl True.intro ?_
                                refine rw_lsub (ks := [0, 1, 2, 3, 4, 5]) (lv' := [(0, .ref 66), (1, .int (nI (cB (fst1 V) (50 * w + g)))), (2, .int (nI w)), (3, .int (nI g)), (4, .int (bz b)), (5, .int (nI (v + 1)))]) rfl ?_
                                exact ih26 (6 - (v + 1)) (by omega) (v + 1) b rfl (by omega) hnext
                              · replace h63 := zb_eqF h63
                                refine rw_go hX [(66, .aload_n 0), (67, .iload_n 2), (68, .iload_n 3), (69, .iload 5), (71, .iload 6)] (by decide +kernel) (Ps := []) (pc' := 73) (lv' := [(0, .ref 66), (1, .int (nI (cB (fst1 V) (50 * w + g)))), (2, .int (nI w)), (3, .int (nI g)), (4, .int (bz b)), (5, .int (nI v)), (6, .int (nI h))]) (st' := [.int (nI h), .int (nI v), .int (nI g), .int (nI w), .ref 66]) (σ' := σ) rfl True.intro ?_
                                refine rw_callVi hX (as := [.int (nI w), .int (nI g), .int (nI v), .int (nI h)]) (rest := []) (m_isLike _ _ _ V w g v h hv h6 hv5 h71 (hA w h6) (hA v hv5) h17 hh) (by decide +kernel) mvX10_isLike lk10_191 (ci := 9) rfl rfl rfl (by decide) (Nat.le_of_ble_eq_true rfl) rfl ?_
                                intro r1 σ1 hr
                                rw [hr.1, show r1 = bz (lkC (LT V) (50 * w + g) (50 * v + h) (vR V 0)) from hr.2]
                                clear hr σ1 r1
                                refine rw_if hX (tgt := 83) (cnd := .ne) (off := 7) (by decide +kernel) (by decide) (fun h76 => ?_) (fun h76 => ?_)
                                · replace h76 := zb_neT h76
                                  refine rw_go hX [(83, .iconst 0), (84, .istore 4), (86, .iinc 6 1)] (by decide +kernel) (Ps := []) (pc' := 89) (lv' := [(0, .ref 66), (1, .int (nI (cB (fst1 V) (50 * w + g)))), (2, .int (nI w)), (3, .int (nI g)), (4, .int (nI 0)), (5, .int (nI v)), (6, .int (nI h + nI 1))]) (st' := []) (σ' := σ) rfl True.intro ?_
                                  rw [show (nI h + nI 1) = nI (h + 1) from nI_add _ _]
                                  refine rw_go hX [(89, .goto (-49))] (by decide +kernel) (Ps := []) (pc' := 40) (lv' := [(0, .ref 66), (1, .int (nI (cB (fst1 V) (50 * w + g)))), (2, .int (nI w)), (3, .int (nI g)), (4, .int (nI 0)), (5, .int (nI v)), (6, .int (nI (h + 1)))]) (st' := []) (σ' := σ) rfl True.intro ?_
                                  refine rw_lsub (ks := [0, 1, 2, 3, 4, 5, 6]) (lv' := [(0, .ref 66), (1, .int (nI (cB (fst1 V) (50 * w + g)))), (2, .int (nI w)), (3, .int (nI g)), (4, .int (nI 0)), (5, .int (nI v)), (6, .int (nI (h + 1)))]) rfl ?_
                                  exact ih40 (50 - (h + 1)) (by omega) (h + 1) false rfl (by omega) (by omega) (Or.inr ⟨rfl, fun z => z (50 * v + h) (by omega) (okc_i hv hv5 hh) (lkP_s h76)⟩)
                                · replace h76 := zb_neF h76
                                  refine rw_go hX [(79, .iconst 1), (80, .goto 4), (84, .istore 4), (86, .iinc 6 1)] (by decide +kernel) (Ps := []) (pc' := 89) (lv' := [(0, .ref 66), (1, .int (nI (cB (fst1 V) (50 * w + g)))), (2, .int (nI w)), (3, .int (nI g)), (4, .int (nI 1)), (5, .int (nI v)), (6, .int (nI h + nI 1))]) (st' := []) (σ' := σ) rfl True.intro ?_
                                  rw [show (nI h + nI 1) = nI (h + 1) from nI_add _ _]
                                  refine rw_go hX [(89, .goto (-49))] (by decide +kernel) (Ps := []) (pc' := 40) (lv' := [(0, .ref 66), (1, .int (nI (cB (fst1 V) (50 * w + g)))), (2, .int (nI w)), (3, .int (nI g)), (4, .int (nI 1)), (5, .int (nI v)), (6, .int (nI (h + 1)))]) (st' := []) (σ' := σ) rfl True.intro ?_
                                  refine rw_lsub (ks := [0, 1, 2, 3, 4, 5, 6]) (lv' := [(0, .ref 66), (1, .int (nI (cB (fst1 V) (50 * w + g)))), (2, .int (nI w)), (3, .int (nI g)), (4, .int (nI 1)), (5, .int (nI v)), (6, .int (nI (h + 1)))]) rfl ?_
                                  exact ih40 (50 - (h + 1)) (by omega) (h + 1) true rfl (by omega) (by omega) (NB_1 (n := 50 * v + h) hb h63 fun z => by have h2 : lkC (LT V) (50 * w + g) (50 * v + h) (vR V 0) = true := lkP_s z; rw [h76] at h2; cases h2)
                      refine rw_lsub (ks := [0, 1, 2, 3, 4, 5, 6]) (lv' := [(0, .ref 66), (1, .int (nI (cB (fst1 V) (50 * w + g)))), (2, .int (nI w)), (3, .int (nI g)), (4, .int (bz b)), (5, .int (nI v)), (6, .int (nI 0))]) rfl ?_
                      exact L40 50 0 b rfl (by omega) (by omega) (by rw [show min (50 * v) (50 * w + g) = 50 * v + 0 by omega] at hb; exact hb)
              refine rw_lsub (ks := [0, 1, 2, 3, 4, 5]) (lv' := [(0, .ref 66), (1, .int (nI (cB (fst1 V) (50 * w + g)))), (2, .int (nI w)), (3, .int (nI g)), (4, .int (nI 1)), (5, .int (nI 0))]) rfl ?_
              exact L26 6 0 true rfl (by omega) (Or.inl ⟨rfl, fun q hq => by omega⟩)
        refine rw_lsub (ks := [0, 1, 2, 3]) (lv' := [(0, .ref 66), (1, .int (nI (cB (fst1 V) (50 * w)))), (2, .int (nI w)), (3, .int (nI 0))]) rfl ?_
        exact L11 (gC V w) 0 rfl (by omega)
  refine rw_lsub (ks := [0, 1, 2]) (lv' := [(0, .ref 66), (1, .int (nI 0)), (2, .int (nI 0))]) rfl ?_
  exact L4 5 0 rfl (by omega)
set_option maxRecDepth 20000 in
set_option maxHeartbeats 800000 in
theorem g_count_0 (l : Launch) (G : Gl) (σ : Mm) (V : Mm) (t : Nat) (hV : vw σ 67 = V) (hv : wf V) (ht : σ 66 6 = nI t) : AMi l G 6 mX10_count [.ref 66, .int (nI 0)] σ (fun r σ' => r = aCount V t (nI 0) ∧ MQu σ σ') := by
  refine rw_inI 10 (by decide +kernel) rfl rfl ?_
  intro E hE hX
  subst hE
  refine rw_go hX [(0, .iload_n 1), (1, .i2l), (2, .lconst 0), (3, .ldc2_w 136)] (by decide +kernel) (Ps := []) (pc' := 6) (lv' := [(0, .ref 66), (1, .int (nI 0))]) (st' := [.long 5, .long (Int64.ofNat 0), .long ((nI 0).toInt64)]) (σ' := σ) rfl True.intro ?_
  refine rw_callSi hX (as := [.long ((nI 0).toInt64), .long (Int64.ofNat 0), .long 5]) (rest := []) (m_inI _ _ _ (nI 0) 0 (nI 5) _ _ _ rfl (by first | rfl | decide +kernel) (by first | rfl | decide +kernel)) (by decide +kernel) msX10_in (Or.inl lk10_105) rfl (by decide) (Nat.le_of_ble_eq_true rfl) rfl ?_
  intro r1 σ1 hr
  rw [hr.1, show r1 = nI 1 from hr.2.trans (by decide +kernel)]
  clear hr σ1 r1
  refine rw_if hX (tgt := 15) (cnd := .ne) (off := 6) (by decide +kernel) (by decide) (fun h9 => ?_) (fun h9 => ?_)
  · skip
    refine rw_go hX [(15, .iload_n 1)] (by decide +kernel) (Ps := []) (pc' := 16) (lv' := [(0, .ref 66), (1, .int (nI 0))]) (st' := [.int (nI 0)]) (σ' := σ) rfl True.intro ?_
    refine rw_if hX (tgt := 24) (cnd := .eq) (off := 8) (by decide +kernel) (by decide) (fun h16 => ?_) (fun h16 => ?_)
    · skip
      refine rw_go hX [(24, .iload_n 1)] (by decide +kernel) (Ps := []) (pc' := 25) (lv' := [(0, .ref 66), (1, .int (nI 0))]) (st' := [.int (nI 0)]) (σ' := σ) rfl True.intro ?_
      refine rw_if hX (tgt := 35) (cnd := .ne) (off := 10) (by decide +kernel) (by decide) (fun h25 => ?_) (fun h25 => ?_)
      · exact absurd h25 (by simp only [cz, cc2]; decide +kernel)
      · skip
        refine rw_go hX [(28, .aload_n 0)] (by decide +kernel) (Ps := []) (pc' := 29) (lv' := [(0, .ref 66), (1, .int (nI 0))]) (st' := [.ref 66]) (σ' := σ) rfl True.intro ?_
        refine rw_callVi hX (as := []) (rest := []) (m_worksThere _ _ _ V hV hv) (by decide +kernel) mvX10_worksThere lk10_121 (ci := 9) rfl rfl rfl (by decide) (Nat.le_of_ble_eq_true rfl) rfl ?_
        intro r1 σ1 hr
        rw [hr.1, show r1 = nI (thN V) from hr.2]
        clear hr σ1 r1
        refine rw_go hX [(32, .goto 7)] (by decide +kernel) (Ps := []) (pc' := 39) (lv' := [(0, .ref 66), (1, .int (nI 0))]) (st' := [.int (nI (thN V))]) (σ' := σ) rfl True.intro ?_
        exact rw_iret hX (by decide +kernel) (⟨by unfold aCount; rw [if_pos rfl], MQu_rfl _⟩)
    · exact absurd (by simp only [cz, cc2]; decide +kernel) h16
  · exact absurd (by simp only [cz, cc2]; decide +kernel) h9
set_option maxRecDepth 20000 in
set_option maxHeartbeats 800000 in
theorem g_count_1 (l : Launch) (G : Gl) (σ : Mm) (V : Mm) (t : Nat) (hV : vw σ 67 = V) (hv : wf V) (ht : σ 66 6 = nI t) : AMi l G 6 mX10_count [.ref 66, .int (nI 1)] σ (fun r σ' => r = aCount V t (nI 1) ∧ MQu σ σ') := by
  refine rw_inI 10 (by decide +kernel) rfl rfl ?_
  intro E hE hX
  subst hE
  refine rw_go hX [(0, .iload_n 1), (1, .i2l), (2, .lconst 0), (3, .ldc2_w 136)] (by decide +kernel) (Ps := []) (pc' := 6) (lv' := [(0, .ref 66), (1, .int (nI 1))]) (st' := [.long 5, .long (Int64.ofNat 0), .long ((nI 1).toInt64)]) (σ' := σ) rfl True.intro ?_
  refine rw_callSi hX (as := [.long ((nI 1).toInt64), .long (Int64.ofNat 0), .long 5]) (rest := []) (m_inI _ _ _ (nI 1) 0 (nI 5) _ _ _ rfl (by first | rfl | decide +kernel) (by first | rfl | decide +kernel)) (by decide +kernel) msX10_in (Or.inl lk10_105) rfl (by decide) (Nat.le_of_ble_eq_true rfl) rfl ?_
  intro r1 σ1 hr
  rw [hr.1, show r1 = nI 1 from hr.2.trans (by decide +kernel)]
  clear hr σ1 r1
  refine rw_if hX (tgt := 15) (cnd := .ne) (off := 6) (by decide +kernel) (by decide) (fun h9 => ?_) (fun h9 => ?_)
  · skip
    refine rw_go hX [(15, .iload_n 1)] (by decide +kernel) (Ps := []) (pc' := 16) (lv' := [(0, .ref 66), (1, .int (nI 1))]) (st' := [.int (nI 1)]) (σ' := σ) rfl True.intro ?_
    refine rw_if hX (tgt := 24) (cnd := .eq) (off := 8) (by decide +kernel) (by decide) (fun h16 => ?_) (fun h16 => ?_)
    · exact absurd h16 (by simp only [cz, cc2]; decide +kernel)
    · skip
      refine rw_go hX [(19, .iload_n 1), (20, .iconst 5)] (by decide +kernel) (Ps := []) (pc' := 21) (lv' := [(0, .ref 66), (1, .int (nI 1))]) (st' := [.int (nI 5), .int (nI 1)]) (σ' := σ) rfl True.intro ?_
      refine rw_icmp hX (tgt := 40) (cnd := .ne) (off := 19) (by decide +kernel) (by decide) (fun h21 => ?_) (fun h21 => ?_)
      · skip
        refine rw_go hX [(40, .iload_n 1), (41, .iconst 4)] (by decide +kernel) (Ps := []) (pc' := 42) (lv' := [(0, .ref 66), (1, .int (nI 1))]) (st' := [.int (nI 4), .int (nI 1)]) (σ' := σ) rfl True.intro ?_
        refine rw_icmp hX (tgt := 54) (cnd := .ne) (off := 12) (by decide +kernel) (by decide) (fun h42 => ?_) (fun h42 => ?_)
        · skip
          refine rw_go hX [(54, .iconst 0), (55, .istore_n 2), (56, .aload_n 0)] (by decide +kernel) (Ps := []) (pc' := 57) (lv' := [(0, .ref 66), (1, .int (nI 1)), (2, .int (nI 0))]) (st' := [.ref 66]) (σ' := σ) rfl True.intro ?_
          refine rw_callVv hX (as := []) (rest := []) (m_anew _ _ _ V hV hv) (by decide +kernel) mvX10_anew lk10_220 (ci := 9) rfl rfl rfl (by decide) (Nat.le_of_ble_eq_true rfl) rfl ?_
          intro τ1 ht1
          obtain ⟨hAN, hFN⟩ := ht1
          have hq1 := MQu_A hFN
          have hV1 : vw τ1 67 = V := (vw_of (fun j hj => hFN _ (by omega))).trans hV
          have h71 : τ1 71 = V 4 := vw_at hV1 4 (by omega)
          refine rw_go hX [(60, .iconst 0), (61, .istore_n 3)] (by decide +kernel) (Ps := []) (pc' := 62) (lv' := [(0, .ref 66), (1, .int (nI 1)), (2, .int (nI 0)), (3, .int (nI 0))]) (st' := []) (σ' := τ1) rfl True.intro ?_
          have L62 : ∀ (μ62 : Nat) (w : Nat), μ62 = 5 - w → (w ≤ 5) → RW E G 6 4 (QI E G (fun r σ' => r = aCount V t (nI 1) ∧ MQu σ σ')) 62 [(0, .ref 66), (1, .int (nI 1)), (2, .int (nI (sN (vS V) w))), (3, .int (nI w))] [] τ1 := by
            intro μ62
            induction μ62 using Nat.strongRecOn with
            | ind μ62 ih62 =>
              intro w hμ62 hw5
              refine rw_go hX [(62, .iload_n 3), (63, .iconst 5)] (by decide +kernel) (Ps := []) (pc' := 64) (lv' := [(0, .ref 66), (1, .int (nI 1)), (2, .int (nI (sN (vS V) w))), (3, .int (nI w))]) (st' := [.int (nI 5), .int (nI w)]) (σ' := τ1) rfl True.intro ?_
              refine rw_icmp hX (tgt := 109) (cnd := .ge) (off := 45) (by decide +kernel) (by decide) (fun h64 => ?_) (fun h64 => ?_)
              · replace h64 := c2_geT h64
                have e5 : w = 5 := by omega
                refine rw_go hX [(109, .iload_n 2)] (by decide +kernel) (Ps := []) (pc' := 110) (lv' := [(0, .ref 66), (1, .int (nI 1)), (2, .int (nI (sN (vS V) w))), (3, .int (nI w))]) (st' := [.int (nI (sN (vS V) w))]) (σ' := τ1) rfl True.intro ?_
                exact rw_iret hX (by decide +kernel) (⟨by rw [e5]; unfold aCount; rw [if_neg (by decide +kernel), if_pos rfl], hq1⟩)
              · replace h64 := c2_geF h64
                have hw : w < 5 := h64
                refine rw_go hX [(67, .iload_n 2), (68, .iload_n 1), (69, .iconst 1)] (by decide +kernel) (Ps := []) (pc' := 70) (lv' := [(0, .ref 66), (1, .int (nI 1)), (2, .int (nI (sN (vS V) w))), (3, .int (nI w))]) (st' := [.int (nI 1), .int (nI 1), .int (nI (sN (vS V) w))]) (σ' := τ1) rfl True.intro ?_
                refine rw_icmp hX (tgt := 82) (cnd := .ne) (off := 12) (by decide +kernel) (by decide) (fun h70 => ?_) (fun h70 => ?_)
                · exact absurd h70 (by simp only [cz, cc2]; decide +kernel)
                · skip
                  refine rw_go hX [(73, .aload_n 0), (74, .getfield 13), (77, .iload_n 3), (78, .iaload)] (by decide +kernel) (Ps := [vp_in (nI w) 5]) (pc' := 79) (lv' := [(0, .ref 66), (1, .int (nI 1)), (2, .int (nI (sN (vS V) w))), (3, .int (nI w))]) (st' := [.int (τ1 68 (nI w).toNatClampNeg), .int (nI (sN (vS V) w))]) (σ' := τ1) rfl (vp_in_nI (by omega) (by omega)) ?_
                  rw [show (τ1 68 (nI w).toNatClampNeg) = nI (vS V w) from (by rw [nI_clamp (by omega), vw_at hV1 1 (by omega), wf_s hv hw])]
                  refine rw_go hX [(79, .goto 22), (101, .iadd)] (by decide +kernel) (Ps := []) (pc' := 102) (lv' := [(0, .ref 66), (1, .int (nI 1)), (2, .int (nI (sN (vS V) w))), (3, .int (nI w))]) (st' := [.int (nI (sN (vS V) w) + nI (vS V w))]) (σ' := τ1) rfl True.intro ?_
                  rw [show (nI (sN (vS V) w) + nI (vS V w)) = nI (sN (vS V) w + vS V w) from nI_add _ _]
                  refine rw_go hX [(102, .istore_n 2), (103, .iinc 3 1)] (by decide +kernel) (Ps := []) (pc' := 106) (lv' := [(0, .ref 66), (1, .int (nI 1)), (2, .int (nI (sN (vS V) w + vS V w))), (3, .int (nI w + nI 1))]) (st' := []) (σ' := τ1) rfl True.intro ?_
                  rw [show (nI w + nI 1) = nI (w + 1) from nI_add _ _]
                  refine rw_go hX [(106, .goto (-44))] (by decide +kernel) (Ps := []) (pc' := 62) (lv' := [(0, .ref 66), (1, .int (nI 1)), (2, .int (nI (sN (vS V) w + vS V w))), (3, .int (nI (w + 1)))]) (st' := []) (σ' := τ1) rfl True.intro ?_
                  refine rw_lsub (ks := [0, 1, 2, 3]) (lv' := [(0, .ref 66), (1, .int (nI 1)), (2, .int (nI (sN (vS V) w + vS V w))), (3, .int (nI (w + 1)))]) rfl ?_
                  have q := ih62 (5 - (w + 1)) (by omega) (w + 1) rfl (by omega)
                  rw [sN_1] at q
                  exact q
          refine rw_lsub (ks := [0, 1, 2, 3]) (lv' := [(0, .ref 66), (1, .int (nI 1)), (2, .int (nI 0)), (3, .int (nI 0))]) rfl ?_
          exact L62 5 0 rfl (by omega)
        · exact absurd (by simp only [cz, cc2]; decide +kernel) h42
      · exact absurd (by simp only [cz, cc2]; decide +kernel) h21
  · exact absurd (by simp only [cz, cc2]; decide +kernel) h9
set_option maxRecDepth 20000 in
set_option maxHeartbeats 800000 in
theorem g_count_2 (l : Launch) (G : Gl) (σ : Mm) (V : Mm) (t : Nat) (hV : vw σ 67 = V) (hv : wf V) (ht : σ 66 6 = nI t) : AMi l G 6 mX10_count [.ref 66, .int (nI 2)] σ (fun r σ' => r = aCount V t (nI 2) ∧ MQu σ σ') := by
  refine rw_inI 10 (by decide +kernel) rfl rfl ?_
  intro E hE hX
  subst hE
  refine rw_go hX [(0, .iload_n 1), (1, .i2l), (2, .lconst 0), (3, .ldc2_w 136)] (by decide +kernel) (Ps := []) (pc' := 6) (lv' := [(0, .ref 66), (1, .int (nI 2))]) (st' := [.long 5, .long (Int64.ofNat 0), .long ((nI 2).toInt64)]) (σ' := σ) rfl True.intro ?_
  refine rw_callSi hX (as := [.long ((nI 2).toInt64), .long (Int64.ofNat 0), .long 5]) (rest := []) (m_inI _ _ _ (nI 2) 0 (nI 5) _ _ _ rfl (by first | rfl | decide +kernel) (by first | rfl | decide +kernel)) (by decide +kernel) msX10_in (Or.inl lk10_105) rfl (by decide) (Nat.le_of_ble_eq_true rfl) rfl ?_
  intro r1 σ1 hr
  rw [hr.1, show r1 = nI 1 from hr.2.trans (by decide +kernel)]
  clear hr σ1 r1
  refine rw_if hX (tgt := 15) (cnd := .ne) (off := 6) (by decide +kernel) (by decide) (fun h9 => ?_) (fun h9 => ?_)
  · skip
    refine rw_go hX [(15, .iload_n 1)] (by decide +kernel) (Ps := []) (pc' := 16) (lv' := [(0, .ref 66), (1, .int (nI 2))]) (st' := [.int (nI 2)]) (σ' := σ) rfl True.intro ?_
    refine rw_if hX (tgt := 24) (cnd := .eq) (off := 8) (by decide +kernel) (by decide) (fun h16 => ?_) (fun h16 => ?_)
    · exact absurd h16 (by simp only [cz, cc2]; decide +kernel)
    · skip
      refine rw_go hX [(19, .iload_n 1), (20, .iconst 5)] (by decide +kernel) (Ps := []) (pc' := 21) (lv' := [(0, .ref 66), (1, .int (nI 2))]) (st' := [.int (nI 5), .int (nI 2)]) (σ' := σ) rfl True.intro ?_
      refine rw_icmp hX (tgt := 40) (cnd := .ne) (off := 19) (by decide +kernel) (by decide) (fun h21 => ?_) (fun h21 => ?_)
      · skip
        refine rw_go hX [(40, .iload_n 1), (41, .iconst 4)] (by decide +kernel) (Ps := []) (pc' := 42) (lv' := [(0, .ref 66), (1, .int (nI 2))]) (st' := [.int (nI 4), .int (nI 2)]) (σ' := σ) rfl True.intro ?_
        refine rw_icmp hX (tgt := 54) (cnd := .ne) (off := 12) (by decide +kernel) (by decide) (fun h42 => ?_) (fun h42 => ?_)
        · skip
          refine rw_go hX [(54, .iconst 0), (55, .istore_n 2), (56, .aload_n 0)] (by decide +kernel) (Ps := []) (pc' := 57) (lv' := [(0, .ref 66), (1, .int (nI 2)), (2, .int (nI 0))]) (st' := [.ref 66]) (σ' := σ) rfl True.intro ?_
          refine rw_callVv hX (as := []) (rest := []) (m_anew _ _ _ V hV hv) (by decide +kernel) mvX10_anew lk10_220 (ci := 9) rfl rfl rfl (by decide) (Nat.le_of_ble_eq_true rfl) rfl ?_
          intro τ1 ht1
          obtain ⟨hAN, hFN⟩ := ht1
          have hq1 := MQu_A hFN
          have hV1 : vw τ1 67 = V := (vw_of (fun j hj => hFN _ (by omega))).trans hV
          have h71 : τ1 71 = V 4 := vw_at hV1 4 (by omega)
          refine rw_go hX [(60, .iconst 0), (61, .istore_n 3)] (by decide +kernel) (Ps := []) (pc' := 62) (lv' := [(0, .ref 66), (1, .int (nI 2)), (2, .int (nI 0)), (3, .int (nI 0))]) (st' := []) (σ' := τ1) rfl True.intro ?_
          have L62 : ∀ (μ62 : Nat) (w : Nat), μ62 = 5 - w → (w ≤ 5) → RW E G 6 4 (QI E G (fun r σ' => r = aCount V t (nI 2) ∧ MQu σ σ')) 62 [(0, .ref 66), (1, .int (nI 2)), (2, .int (nI (sN (lC V) w))), (3, .int (nI w))] [] τ1 := by
            intro μ62
            induction μ62 using Nat.strongRecOn with
            | ind μ62 ih62 =>
              intro w hμ62 hw5
              refine rw_go hX [(62, .iload_n 3), (63, .iconst 5)] (by decide +kernel) (Ps := []) (pc' := 64) (lv' := [(0, .ref 66), (1, .int (nI 2)), (2, .int (nI (sN (lC V) w))), (3, .int (nI w))]) (st' := [.int (nI 5), .int (nI w)]) (σ' := τ1) rfl True.intro ?_
              refine rw_icmp hX (tgt := 109) (cnd := .ge) (off := 45) (by decide +kernel) (by decide) (fun h64 => ?_) (fun h64 => ?_)
              · replace h64 := c2_geT h64
                have e5 : w = 5 := by omega
                refine rw_go hX [(109, .iload_n 2)] (by decide +kernel) (Ps := []) (pc' := 110) (lv' := [(0, .ref 66), (1, .int (nI 2)), (2, .int (nI (sN (lC V) w))), (3, .int (nI w))]) (st' := [.int (nI (sN (lC V) w))]) (σ' := τ1) rfl True.intro ?_
                exact rw_iret hX (by decide +kernel) (⟨by rw [e5]; unfold aCount; rw [if_neg (by decide +kernel), if_neg (by decide +kernel), if_pos rfl], hq1⟩)
              · replace h64 := c2_geF h64
                have hw : w < 5 := h64
                refine rw_go hX [(67, .iload_n 2), (68, .iload_n 1), (69, .iconst 1)] (by decide +kernel) (Ps := []) (pc' := 70) (lv' := [(0, .ref 66), (1, .int (nI 2)), (2, .int (nI (sN (lC V) w))), (3, .int (nI w))]) (st' := [.int (nI 1), .int (nI 2), .int (nI (sN (lC V) w))]) (σ' := τ1) rfl True.intro ?_
                refine rw_icmp hX (tgt := 82) (cnd := .ne) (off := 12) (by decide +kernel) (by decide) (fun h70 => ?_) (fun h70 => ?_)
                · skip
                  refine rw_go hX [(82, .iload_n 1), (83, .iconst 2)] (by decide +kernel) (Ps := []) (pc' := 84) (lv' := [(0, .ref 66), (1, .int (nI 2)), (2, .int (nI (sN (lC V) w))), (3, .int (nI w))]) (st' := [.int (nI 2), .int (nI 2), .int (nI (sN (lC V) w))]) (σ' := τ1) rfl True.intro ?_
                  refine rw_icmp hX (tgt := 96) (cnd := .ne) (off := 12) (by decide +kernel) (by decide) (fun h84 => ?_) (fun h84 => ?_)
                  · exact absurd h84 (by simp only [cz, cc2]; decide +kernel)
                  · skip
                    refine rw_go hX [(87, .aload_n 0), (88, .getfield 40), (91, .iload_n 3), (92, .iaload)] (by decide +kernel) (Ps := [vp_in (nI w) 5]) (pc' := 93) (lv' := [(0, .ref 66), (1, .int (nI 2)), (2, .int (nI (sN (lC V) w))), (3, .int (nI w))]) (st' := [.int (τ1 77 (nI w).toNatClampNeg), .int (nI (sN (lC V) w))]) (σ' := τ1) rfl (vp_in_nI (by omega) (by omega)) ?_
                    rw [show (τ1 77 (nI w).toNatClampNeg) = nI (lC V w) from (by rw [nI_clamp (by omega), (hAN.1 w hw).1.1])]
                    refine rw_go hX [(93, .goto 8), (101, .iadd)] (by decide +kernel) (Ps := []) (pc' := 102) (lv' := [(0, .ref 66), (1, .int (nI 2)), (2, .int (nI (sN (lC V) w))), (3, .int (nI w))]) (st' := [.int (nI (sN (lC V) w) + nI (lC V w))]) (σ' := τ1) rfl True.intro ?_
                    rw [show (nI (sN (lC V) w) + nI (lC V w)) = nI (sN (lC V) w + lC V w) from nI_add _ _]
                    refine rw_go hX [(102, .istore_n 2), (103, .iinc 3 1)] (by decide +kernel) (Ps := []) (pc' := 106) (lv' := [(0, .ref 66), (1, .int (nI 2)), (2, .int (nI (sN (lC V) w + lC V w))), (3, .int (nI w + nI 1))]) (st' := []) (σ' := τ1) rfl True.intro ?_
                    rw [show (nI w + nI 1) = nI (w + 1) from nI_add _ _]
                    refine rw_go hX [(106, .goto (-44))] (by decide +kernel) (Ps := []) (pc' := 62) (lv' := [(0, .ref 66), (1, .int (nI 2)), (2, .int (nI (sN (lC V) w + lC V w))), (3, .int (nI (w + 1)))]) (st' := []) (σ' := τ1) rfl True.intro ?_
                    refine rw_lsub (ks := [0, 1, 2, 3]) (lv' := [(0, .ref 66), (1, .int (nI 2)), (2, .int (nI (sN (lC V) w + lC V w))), (3, .int (nI (w + 1)))]) rfl ?_
                    have q := ih62 (5 - (w + 1)) (by omega) (w + 1) rfl (by omega)
                    rw [sN_1] at q
                    exact q
                · exact absurd (by simp only [cz, cc2]; decide +kernel) h70
          refine rw_lsub (ks := [0, 1, 2, 3]) (lv' := [(0, .ref 66), (1, .int (nI 2)), (2, .int (nI 0)), (3, .int (nI 0))]) rfl ?_
          exact L62 5 0 rfl (by omega)
        · exact absurd (by simp only [cz, cc2]; decide +kernel) h42
      · exact absurd (by simp only [cz, cc2]; decide +kernel) h21
  · exact absurd (by simp only [cz, cc2]; decide +kernel) h9
set_option maxRecDepth 20000 in
set_option maxHeartbeats 800000 in
theorem g_count_3 (l : Launch) (G : Gl) (σ : Mm) (V : Mm) (t : Nat) (hV : vw σ 67 = V) (hv : wf V) (ht : σ 66 6 = nI t) : AMi l G 6 mX10_count [.ref 66, .int (nI 3)] σ (fun r σ' => r = aCount V t (nI 3) ∧ MQu σ σ') := by
  refine rw_inI 10 (by decide +kernel) rfl rfl ?_
  intro E hE hX
  subst hE
  refine rw_go hX [(0, .iload_n 1), (1, .i2l), (2, .lconst 0), (3, .ldc2_w 136)] (by decide +kernel) (Ps := []) (pc' := 6) (lv' := [(0, .ref 66), (1, .int (nI 3))]) (st' := [.long 5, .long (Int64.ofNat 0), .long ((nI 3).toInt64)]) (σ' := σ) rfl True.intro ?_
  refine rw_callSi hX (as := [.long ((nI 3).toInt64), .long (Int64.ofNat 0), .long 5]) (rest := []) (m_inI _ _ _ (nI 3) 0 (nI 5) _ _ _ rfl (by first | rfl | decide +kernel) (by first | rfl | decide +kernel)) (by decide +kernel) msX10_in (Or.inl lk10_105) rfl (by decide) (Nat.le_of_ble_eq_true rfl) rfl ?_
  intro r1 σ1 hr
  rw [hr.1, show r1 = nI 1 from hr.2.trans (by decide +kernel)]
  clear hr σ1 r1
  refine rw_if hX (tgt := 15) (cnd := .ne) (off := 6) (by decide +kernel) (by decide) (fun h9 => ?_) (fun h9 => ?_)
  · skip
    refine rw_go hX [(15, .iload_n 1)] (by decide +kernel) (Ps := []) (pc' := 16) (lv' := [(0, .ref 66), (1, .int (nI 3))]) (st' := [.int (nI 3)]) (σ' := σ) rfl True.intro ?_
    refine rw_if hX (tgt := 24) (cnd := .eq) (off := 8) (by decide +kernel) (by decide) (fun h16 => ?_) (fun h16 => ?_)
    · exact absurd h16 (by simp only [cz, cc2]; decide +kernel)
    · skip
      refine rw_go hX [(19, .iload_n 1), (20, .iconst 5)] (by decide +kernel) (Ps := []) (pc' := 21) (lv' := [(0, .ref 66), (1, .int (nI 3))]) (st' := [.int (nI 5), .int (nI 3)]) (σ' := σ) rfl True.intro ?_
      refine rw_icmp hX (tgt := 40) (cnd := .ne) (off := 19) (by decide +kernel) (by decide) (fun h21 => ?_) (fun h21 => ?_)
      · skip
        refine rw_go hX [(40, .iload_n 1), (41, .iconst 4)] (by decide +kernel) (Ps := []) (pc' := 42) (lv' := [(0, .ref 66), (1, .int (nI 3))]) (st' := [.int (nI 4), .int (nI 3)]) (σ' := σ) rfl True.intro ?_
        refine rw_icmp hX (tgt := 54) (cnd := .ne) (off := 12) (by decide +kernel) (by decide) (fun h42 => ?_) (fun h42 => ?_)
        · skip
          refine rw_go hX [(54, .iconst 0), (55, .istore_n 2), (56, .aload_n 0)] (by decide +kernel) (Ps := []) (pc' := 57) (lv' := [(0, .ref 66), (1, .int (nI 3)), (2, .int (nI 0))]) (st' := [.ref 66]) (σ' := σ) rfl True.intro ?_
          refine rw_callVv hX (as := []) (rest := []) (m_anew _ _ _ V hV hv) (by decide +kernel) mvX10_anew lk10_220 (ci := 9) rfl rfl rfl (by decide) (Nat.le_of_ble_eq_true rfl) rfl ?_
          intro τ1 ht1
          obtain ⟨hAN, hFN⟩ := ht1
          have hq1 := MQu_A hFN
          have hV1 : vw τ1 67 = V := (vw_of (fun j hj => hFN _ (by omega))).trans hV
          have h71 : τ1 71 = V 4 := vw_at hV1 4 (by omega)
          refine rw_go hX [(60, .iconst 0), (61, .istore_n 3)] (by decide +kernel) (Ps := []) (pc' := 62) (lv' := [(0, .ref 66), (1, .int (nI 3)), (2, .int (nI 0)), (3, .int (nI 0))]) (st' := []) (σ' := τ1) rfl True.intro ?_
          have L62 : ∀ (μ62 : Nat) (w : Nat), μ62 = 5 - w → (w ≤ 5) → RW E G 6 4 (QI E G (fun r σ' => r = aCount V t (nI 3) ∧ MQu σ σ')) 62 [(0, .ref 66), (1, .int (nI 3)), (2, .int (nI (sN (fun w => pNs V w (gC V w)) w))), (3, .int (nI w))] [] τ1 := by
            intro μ62
            induction μ62 using Nat.strongRecOn with
            | ind μ62 ih62 =>
              intro w hμ62 hw5
              refine rw_go hX [(62, .iload_n 3), (63, .iconst 5)] (by decide +kernel) (Ps := []) (pc' := 64) (lv' := [(0, .ref 66), (1, .int (nI 3)), (2, .int (nI (sN (fun w => pNs V w (gC V w)) w))), (3, .int (nI w))]) (st' := [.int (nI 5), .int (nI w)]) (σ' := τ1) rfl True.intro ?_
              refine rw_icmp hX (tgt := 109) (cnd := .ge) (off := 45) (by decide +kernel) (by decide) (fun h64 => ?_) (fun h64 => ?_)
              · replace h64 := c2_geT h64
                have e5 : w = 5 := by omega
                refine rw_go hX [(109, .iload_n 2)] (by decide +kernel) (Ps := []) (pc' := 110) (lv' := [(0, .ref 66), (1, .int (nI 3)), (2, .int (nI (sN (fun w => pNs V w (gC V w)) w))), (3, .int (nI w))]) (st' := [.int (nI (sN (fun w => pNs V w (gC V w)) w))]) (σ' := τ1) rfl True.intro ?_
                exact rw_iret hX (by decide +kernel) (⟨by rw [e5]; unfold aCount; rw [if_neg (by decide +kernel), if_neg (by decide +kernel), if_neg (by decide +kernel), if_pos rfl], hq1⟩)
              · replace h64 := c2_geF h64
                have hw : w < 5 := h64
                refine rw_go hX [(67, .iload_n 2), (68, .iload_n 1), (69, .iconst 1)] (by decide +kernel) (Ps := []) (pc' := 70) (lv' := [(0, .ref 66), (1, .int (nI 3)), (2, .int (nI (sN (fun w => pNs V w (gC V w)) w))), (3, .int (nI w))]) (st' := [.int (nI 1), .int (nI 3), .int (nI (sN (fun w => pNs V w (gC V w)) w))]) (σ' := τ1) rfl True.intro ?_
                refine rw_icmp hX (tgt := 82) (cnd := .ne) (off := 12) (by decide +kernel) (by decide) (fun h70 => ?_) (fun h70 => ?_)
                · skip
                  refine rw_go hX [(82, .iload_n 1), (83, .iconst 2)] (by decide +kernel) (Ps := []) (pc' := 84) (lv' := [(0, .ref 66), (1, .int (nI 3)), (2, .int (nI (sN (fun w => pNs V w (gC V w)) w))), (3, .int (nI w))]) (st' := [.int (nI 2), .int (nI 3), .int (nI (sN (fun w => pNs V w (gC V w)) w))]) (σ' := τ1) rfl True.intro ?_
                  refine rw_icmp hX (tgt := 96) (cnd := .ne) (off := 12) (by decide +kernel) (by decide) (fun h84 => ?_) (fun h84 => ?_)
                  · skip
                    refine rw_go hX [(96, .aload_n 0), (97, .iload_n 3)] (by decide +kernel) (Ps := []) (pc' := 98) (lv' := [(0, .ref 66), (1, .int (nI 3)), (2, .int (nI (sN (fun w => pNs V w (gC V w)) w))), (3, .int (nI w))]) (st' := [.int (nI w), .ref 66, .int (nI (sN (fun w => pNs V w (gC V w)) w))]) (σ' := τ1) rfl True.intro ?_
                    refine rw_callVi hX (as := [.int (nI w)]) (rest := [.int (nI (sN (fun w => pNs V w (gC V w)) w))]) (m_printsOf _ _ _ V w hv hw h71 (hAN.1 w hw)) (by decide +kernel) mvX10_printsOf lk10_223 (ci := 9) rfl rfl rfl (by decide) (Nat.le_of_ble_eq_true rfl) rfl ?_
                    intro r1 σ1 hr
                    rw [hr.1, show r1 = nI (pNs V w (gC V w)) from hr.2]
                    clear hr σ1 r1
                    refine rw_go hX [(101, .iadd)] (by decide +kernel) (Ps := []) (pc' := 102) (lv' := [(0, .ref 66), (1, .int (nI 3)), (2, .int (nI (sN (fun w => pNs V w (gC V w)) w))), (3, .int (nI w))]) (st' := [.int (nI (sN (fun w => pNs V w (gC V w)) w) + nI (pNs V w (gC V w)))]) (σ' := τ1) rfl True.intro ?_
                    rw [show (nI (sN (fun w => pNs V w (gC V w)) w) + nI (pNs V w (gC V w))) = nI (sN (fun w => pNs V w (gC V w)) w + pNs V w (gC V w)) from nI_add _ _]
                    refine rw_go hX [(102, .istore_n 2), (103, .iinc 3 1)] (by decide +kernel) (Ps := []) (pc' := 106) (lv' := [(0, .ref 66), (1, .int (nI 3)), (2, .int (nI (sN (fun w => pNs V w (gC V w)) w + pNs V w (gC V w)))), (3, .int (nI w + nI 1))]) (st' := []) (σ' := τ1) rfl True.intro ?_
                    rw [show (nI w + nI 1) = nI (w + 1) from nI_add _ _]
                    refine rw_go hX [(106, .goto (-44))] (by decide +kernel) (Ps := []) (pc' := 62) (lv' := [(0, .ref 66), (1, .int (nI 3)), (2, .int (nI (sN (fun w => pNs V w (gC V w)) w + pNs V w (gC V w)))), (3, .int (nI (w + 1)))]) (st' := []) (σ' := τ1) rfl True.intro ?_
                    refine rw_lsub (ks := [0, 1, 2, 3]) (lv' := [(0, .ref 66), (1, .int (nI 3)), (2, .int (nI (sN (fun w => pNs V w (gC V w)) w + pNs V w (gC V w)))), (3, .int (nI (w + 1)))]) rfl ?_
                    have q := ih62 (5 - (w + 1)) (by omega) (w + 1) rfl (by omega)
                    rw [sN_1] at q
                    exact q
                  · exact absurd (by simp only [cz, cc2]; decide +kernel) h84
                · exact absurd (by simp only [cz, cc2]; decide +kernel) h70
          refine rw_lsub (ks := [0, 1, 2, 3]) (lv' := [(0, .ref 66), (1, .int (nI 3)), (2, .int (nI 0)), (3, .int (nI 0))]) rfl ?_
          exact L62 5 0 rfl (by omega)
        · exact absurd (by simp only [cz, cc2]; decide +kernel) h42
      · exact absurd (by simp only [cz, cc2]; decide +kernel) h21
  · exact absurd (by simp only [cz, cc2]; decide +kernel) h9
set_option maxRecDepth 20000 in
set_option maxHeartbeats 800000 in
theorem g_count_4 (l : Launch) (G : Gl) (σ : Mm) (V : Mm) (t : Nat) (hV : vw σ 67 = V) (hv : wf V) (ht : σ 66 6 = nI t) : AMi l G 6 mX10_count [.ref 66, .int (nI 4)] σ (fun r σ' => r = aCount V t (nI 4) ∧ MQu σ σ') := by
  refine rw_inI 10 (by decide +kernel) rfl rfl ?_
  intro E hE hX
  subst hE
  refine rw_go hX [(0, .iload_n 1), (1, .i2l), (2, .lconst 0), (3, .ldc2_w 136)] (by decide +kernel) (Ps := []) (pc' := 6) (lv' := [(0, .ref 66), (1, .int (nI 4))]) (st' := [.long 5, .long (Int64.ofNat 0), .long ((nI 4).toInt64)]) (σ' := σ) rfl True.intro ?_
  refine rw_callSi hX (as := [.long ((nI 4).toInt64), .long (Int64.ofNat 0), .long 5]) (rest := []) (m_inI _ _ _ (nI 4) 0 (nI 5) _ _ _ rfl (by first | rfl | decide +kernel) (by first | rfl | decide +kernel)) (by decide +kernel) msX10_in (Or.inl lk10_105) rfl (by decide) (Nat.le_of_ble_eq_true rfl) rfl ?_
  intro r1 σ1 hr
  rw [hr.1, show r1 = nI 1 from hr.2.trans (by decide +kernel)]
  clear hr σ1 r1
  refine rw_if hX (tgt := 15) (cnd := .ne) (off := 6) (by decide +kernel) (by decide) (fun h9 => ?_) (fun h9 => ?_)
  · skip
    refine rw_go hX [(15, .iload_n 1)] (by decide +kernel) (Ps := []) (pc' := 16) (lv' := [(0, .ref 66), (1, .int (nI 4))]) (st' := [.int (nI 4)]) (σ' := σ) rfl True.intro ?_
    refine rw_if hX (tgt := 24) (cnd := .eq) (off := 8) (by decide +kernel) (by decide) (fun h16 => ?_) (fun h16 => ?_)
    · exact absurd h16 (by simp only [cz, cc2]; decide +kernel)
    · skip
      refine rw_go hX [(19, .iload_n 1), (20, .iconst 5)] (by decide +kernel) (Ps := []) (pc' := 21) (lv' := [(0, .ref 66), (1, .int (nI 4))]) (st' := [.int (nI 5), .int (nI 4)]) (σ' := σ) rfl True.intro ?_
      refine rw_icmp hX (tgt := 40) (cnd := .ne) (off := 19) (by decide +kernel) (by decide) (fun h21 => ?_) (fun h21 => ?_)
      · skip
        refine rw_go hX [(40, .iload_n 1), (41, .iconst 4)] (by decide +kernel) (Ps := []) (pc' := 42) (lv' := [(0, .ref 66), (1, .int (nI 4))]) (st' := [.int (nI 4), .int (nI 4)]) (σ' := σ) rfl True.intro ?_
        refine rw_icmp hX (tgt := 54) (cnd := .ne) (off := 12) (by decide +kernel) (by decide) (fun h42 => ?_) (fun h42 => ?_)
        · exact absurd h42 (by simp only [cz, cc2]; decide +kernel)
        · skip
          refine rw_go hX [(45, .aload_n 0)] (by decide +kernel) (Ps := []) (pc' := 46) (lv' := [(0, .ref 66), (1, .int (nI 4))]) (st' := [.ref 66]) (σ' := σ) rfl True.intro ?_
          refine rw_callVv hX (as := []) (rest := []) (m_anew _ _ _ V hV hv) (by decide +kernel) mvX10_anew lk10_220 (ci := 9) rfl rfl rfl (by decide) (Nat.le_of_ble_eq_true rfl) rfl ?_
          intro τ1 ht1
          obtain ⟨hAN, hFN⟩ := ht1
          have hq1 := MQu_A hFN
          have hV1 : vw τ1 67 = V := (vw_of (fun j hj => hFN _ (by omega))).trans hV
          have h71 : τ1 71 = V 4 := vw_at hV1 4 (by omega)
          refine rw_go hX [(49, .aload_n 0)] (by decide +kernel) (Ps := []) (pc' := 50) (lv' := [(0, .ref 66), (1, .int (nI 4))]) (st' := [.ref 66]) (σ' := τ1) rfl True.intro ?_
          refine rw_callVi hX (as := []) (rest := []) (m_unlike _ _ _ V hv h71 hAN.1) (by decide +kernel) mvX10_unlikeGrams lk10_304 (ci := 9) rfl rfl rfl (by decide) (Nat.le_of_ble_eq_true rfl) rfl ?_
          intro r1 σ1 hr
          rw [hr.1, show r1 = nI (UG V) from hr.2]
          clear hr σ1 r1
          exact rw_iret hX (by decide +kernel) (⟨by unfold aCount; rw [if_neg (by decide +kernel), if_neg (by decide +kernel), if_neg (by decide +kernel), if_neg (by decide +kernel), if_pos rfl], hq1⟩)
      · exact absurd (by simp only [cz, cc2]; decide +kernel) h21
  · exact absurd (by simp only [cz, cc2]; decide +kernel) h9
set_option maxRecDepth 20000 in
set_option maxHeartbeats 800000 in
theorem g_count_5 (l : Launch) (G : Gl) (σ : Mm) (V : Mm) (t : Nat) (hV : vw σ 67 = V) (hv : wf V) (ht : σ 66 6 = nI t) : AMi l G 6 mX10_count [.ref 66, .int (nI 5)] σ (fun r σ' => r = aCount V t (nI 5) ∧ MQu σ σ') := by
  refine rw_inI 10 (by decide +kernel) rfl rfl ?_
  intro E hE hX
  subst hE
  refine rw_go hX [(0, .iload_n 1), (1, .i2l), (2, .lconst 0), (3, .ldc2_w 136)] (by decide +kernel) (Ps := []) (pc' := 6) (lv' := [(0, .ref 66), (1, .int (nI 5))]) (st' := [.long 5, .long (Int64.ofNat 0), .long ((nI 5).toInt64)]) (σ' := σ) rfl True.intro ?_
  refine rw_callSi hX (as := [.long ((nI 5).toInt64), .long (Int64.ofNat 0), .long 5]) (rest := []) (m_inI _ _ _ (nI 5) 0 (nI 5) _ _ _ rfl (by first | rfl | decide +kernel) (by first | rfl | decide +kernel)) (by decide +kernel) msX10_in (Or.inl lk10_105) rfl (by decide) (Nat.le_of_ble_eq_true rfl) rfl ?_
  intro r1 σ1 hr
  rw [hr.1, show r1 = nI 1 from hr.2.trans (by decide +kernel)]
  clear hr σ1 r1
  refine rw_if hX (tgt := 15) (cnd := .ne) (off := 6) (by decide +kernel) (by decide) (fun h9 => ?_) (fun h9 => ?_)
  · skip
    refine rw_go hX [(15, .iload_n 1)] (by decide +kernel) (Ps := []) (pc' := 16) (lv' := [(0, .ref 66), (1, .int (nI 5))]) (st' := [.int (nI 5)]) (σ' := σ) rfl True.intro ?_
    refine rw_if hX (tgt := 24) (cnd := .eq) (off := 8) (by decide +kernel) (by decide) (fun h16 => ?_) (fun h16 => ?_)
    · exact absurd h16 (by simp only [cz, cc2]; decide +kernel)
    · skip
      refine rw_go hX [(19, .iload_n 1), (20, .iconst 5)] (by decide +kernel) (Ps := []) (pc' := 21) (lv' := [(0, .ref 66), (1, .int (nI 5))]) (st' := [.int (nI 5), .int (nI 5)]) (σ' := σ) rfl True.intro ?_
      refine rw_icmp hX (tgt := 40) (cnd := .ne) (off := 19) (by decide +kernel) (by decide) (fun h21 => ?_) (fun h21 => ?_)
      · exact absurd h21 (by simp only [cz, cc2]; decide +kernel)
      · skip
        refine rw_go hX [(24, .iload_n 1)] (by decide +kernel) (Ps := []) (pc' := 25) (lv' := [(0, .ref 66), (1, .int (nI 5))]) (st' := [.int (nI 5)]) (σ' := σ) rfl True.intro ?_
        refine rw_if hX (tgt := 35) (cnd := .ne) (off := 10) (by decide +kernel) (by decide) (fun h25 => ?_) (fun h25 => ?_)
        · skip
          refine rw_go hX [(35, .aload_n 0), (36, .getfield 140)] (by decide +kernel) (Ps := []) (pc' := 39) (lv' := [(0, .ref 66), (1, .int (nI 5))]) (st' := [.int (σ 66 6)]) (σ' := σ) rfl True.intro ?_
          rw [show (σ 66 6) = nI t from (by rw [ht])]
          exact rw_iret hX (by decide +kernel) (⟨by unfold aCount; rw [if_neg (by decide +kernel), if_neg (by decide +kernel), if_neg (by decide +kernel), if_neg (by decide +kernel), if_neg (by decide +kernel), if_pos rfl], MQu_rfl _⟩)
        · exact absurd (by simp only [cz, cc2]; decide +kernel) h25
  · exact absurd (by simp only [cz, cc2]; decide +kernel) h9
set_option maxRecDepth 20000 in
set_option maxHeartbeats 800000 in
theorem g_countO (l : Launch) (G : Gl) (σ : Mm) (V : Mm) (t : Nat) (xq : Int32) (hout : xq.toInt < 0 ∨ 5 < xq.toInt) : AMi l G 6 mX10_count [.ref 66, .int xq] σ (fun r σ' => r = aCount V t xq ∧ MQu σ σ') := by
  refine rw_inI 10 (by decide +kernel) rfl rfl ?_
  intro E hE hX
  subst hE
  have hq9 : ¬ (0 ≤ xq ∧ xq ≤ nI 5) := fun z => by
    have a := Int32.le_iff_toInt_le.mp z.1
    have b := Int32.le_iff_toInt_le.mp z.2
    have c : (0 : Int32).toInt = 0 := by decide +kernel
    have d : (nI 5 : Int32).toInt = 5 := by decide +kernel
    omega
  refine rw_go hX [(0, .iload_n 1), (1, .i2l), (2, .lconst 0), (3, .ldc2_w 136)] (by decide +kernel) (Ps := []) (pc' := 6) (lv' := [(0, .ref 66), (1, .int xq)]) (st' := [.long 5, .long (Int64.ofNat 0), .long (xq.toInt64)]) (σ' := σ) rfl True.intro ?_
  refine rw_callSi hX (as := [.long (xq.toInt64), .long (Int64.ofNat 0), .long 5]) (rest := []) (m_inI _ _ _ xq 0 (nI 5) _ _ _ rfl (by first | rfl | decide +kernel) (by first | rfl | decide +kernel)) (by decide +kernel) msX10_in (Or.inl lk10_105) rfl (by decide) (Nat.le_of_ble_eq_true rfl) rfl ?_
  intro r1 σ1 hr
  rw [hr.1, show r1 = nI 0 from hr.2.trans (by rw [decide_eq_false hq9]; rfl)]
  clear hr σ1 r1
  refine rw_if hX (tgt := 15) (cnd := .ne) (off := 6) (by decide +kernel) (by decide) (fun h9 => ?_) (fun h9 => ?_)
  · exact absurd h9 (by simp only [cz, cc2]; decide +kernel)
  · skip
    refine rw_go hX [(12, .bipush (-2))] (by decide +kernel) (Ps := []) (pc' := 14) (lv' := [(0, .ref 66), (1, .int xq)]) (st' := [.int (-(nI 2))]) (σ' := σ) rfl True.intro ?_
    exact rw_iret hX (by decide +kernel) (⟨by unfold aCount; rw [if_neg (cnt6n hout (show 0 < 6 by omega)), if_neg (cnt6n hout (show 1 < 6 by omega)), if_neg (cnt6n hout (show 2 < 6 by omega)), if_neg (cnt6n hout (show 3 < 6 by omega)), if_neg (cnt6n hout (show 4 < 6 by omega)), if_neg (cnt6n hout (show 5 < 6 by omega))], MQu_rfl _⟩)
theorem g_count (l : Launch) (G : Gl) (σ V : Mm) (t : Nat) (xq : Int32) (hV : vw σ 67 = V) (hv : wf V) (ht : σ 66 6 = nI t) : AMi l G 6 mX10_count [.ref 66, .int xq] σ (fun r σ' => r = aCount V t xq ∧ MQu σ σ') := by
  rcases cnt6 xq with rfl | rfl | rfl | rfl | rfl | rfl | hout
  · exact g_count_0 l G σ V t hV hv ht
  · exact g_count_1 l G σ V t hV hv ht
  · exact g_count_2 l G σ V t hV hv ht
  · exact g_count_3 l G σ V t hV hv ht
  · exact g_count_4 l G σ V t hV hv ht
  · exact g_count_5 l G σ V t hV hv ht
  · exact g_countO l G σ V t xq hout
