/-! forms: the small methods -/
theorem or_01 {x y : Int32} (hx : x = 0 ∨ x = 1) (hy : y = 0 ∨ y = 1) : (x ||| y) = 0 ∨ (x ||| y) = 1 := by
  rcases hx with rfl | rfl <;> rcases hy with rfl | rfl <;> decide
theorem see_T {x : Int32} (b : Bool) (hx : x = 0 ∨ x = 1) (h : x ≠ 0) : (x ||| bz b) = nI 1 := by
  rcases hx with rfl | rfl
  · exact absurd rfl h
  · cases b <;> decide +kernel
theorem see_F {x : Int32} (b : Bool) (h : ¬ x ≠ 0) : (x ||| bz b) = bz b := by
  rw [Classical.not_not.mp h]
  cases b <;> decide +kernel
set_option maxRecDepth 20000 in
set_option maxHeartbeats 4000000 in
theorem c_isForm (l : Launch) (G : Gl) (σ : Mm) (f F : Nat) (hF : σ 31 0 = nI F) (hF2 : F ≤ 250) (hf : f < F) : AMi l G 0 mX0_isForm [.ref 31, .int (nI f)] σ (fun r σ' => σ' = σ ∧ r = nI 1) := by
  refine rw_inI 0 (by decide +kernel) rfl rfl ?_
  intro E hE hX
  subst hE
  refine rw_go hX [(0, .iload_n 1)] (by decide +kernel) (Ps := []) (pc' := 1) (lv' := [(0, .ref 31), (1, .int (nI f))]) (st' := [.int (nI f)]) (σ' := σ) rfl True.intro ?_
  refine rw_if hX (tgt := 23) (cnd := .lt) (off := 22) (by decide +kernel) (by decide) (fun h1 => ?_) (fun h1 => ?_)
  · exact zn_ltT h1
  · clear h1
    refine rw_go hX [(4, .iload_n 1), (5, .aload_n 0), (6, .getfield 9)] (by decide +kernel) (Ps := []) (pc' := 9) (lv' := [(0, .ref 31), (1, .int (nI f))]) (st' := [.int (σ 31 0), .int (nI f)]) (σ' := σ) rfl True.intro ?_
    rw [show (σ 31 0) = nI F from (by rw [hF])]
    refine rw_icmp hX (tgt := 23) (cnd := .ge) (off := 14) (by decide +kernel) (by decide) (fun h9 => ?_) (fun h9 => ?_)
    · replace h9 := c2_geT h9
      omega
    · replace h9 := c2_geF h9
      refine rw_go hX [(12, .iload_n 1), (13, .sipush 250)] (by decide +kernel) (Ps := []) (pc' := 16) (lv' := [(0, .ref 31), (1, .int (nI f))]) (st' := [.int (nI 250), .int (nI f)]) (σ' := σ) rfl True.intro ?_
      refine rw_icmp hX (tgt := 23) (cnd := .ge) (off := 7) (by decide +kernel) (by decide) (fun h16 => ?_) (fun h16 => ?_)
      · replace h16 := c2_geT h16
        omega
      · replace h16 := c2_geF h16
        refine rw_go hX [(19, .iconst 1), (20, .goto 4)] (by decide +kernel) (Ps := []) (pc' := 24) (lv' := [(0, .ref 31), (1, .int (nI f))]) (st' := [.int (nI 1)]) (σ' := σ) rfl True.intro ?_
        exact rw_zret hX (by decide +kernel) (Or.inr rfl) (⟨rfl, rfl⟩)
set_option maxRecDepth 20000 in
set_option maxHeartbeats 4000000 in
theorem c_isFormN (l : Launch) (G : Gl) (σ : Mm) : AMi l G 0 mX0_isForm [.ref 31, .int (-(nI 1))] σ (fun r σ' => σ' = σ ∧ r = nI 0) := by
  refine rw_inI 0 (by decide +kernel) rfl rfl ?_
  intro E hE hX
  subst hE
  refine rw_go hX [(0, .iload_n 1)] (by decide +kernel) (Ps := []) (pc' := 1) (lv' := [(0, .ref 31), (1, .int (-(nI 1)))]) (st' := [.int (-(nI 1))]) (σ' := σ) rfl True.intro ?_
  refine rw_if hX (tgt := 23) (cnd := .lt) (off := 22) (by decide +kernel) (by decide) (fun h1 => ?_) (fun h1 => ?_)
  · skip
    refine rw_go hX [(23, .iconst 0)] (by decide +kernel) (Ps := []) (pc' := 24) (lv' := [(0, .ref 31), (1, .int (-(nI 1)))]) (st' := [.int (nI 0)]) (σ' := σ) rfl True.intro ?_
    exact rw_zret hX (by decide +kernel) (Or.inl rfl) (⟨rfl, rfl⟩)
  · exact absurd (by simp only [cz, cc2]; decide +kernel) h1
set_option maxRecDepth 20000 in
set_option maxHeartbeats 4000000 in
theorem c_worksWith (l : Launch) (G : Gl) (σ : Mm) (f F : Nat) (hF : σ 31 0 = nI F) (hF2 : F ≤ 250) (hf : f < F) : AMi l G 1 mX0_worksWith [.ref 31, .int (nI f)] σ (fun r σ' => σ' = σ ∧ r = σ 35 f) := by
  refine rw_inI 0 (by decide +kernel) rfl rfl ?_
  intro E hE hX
  subst hE
  refine rw_go hX [(0, .aload_n 0), (1, .iload_n 1)] (by decide +kernel) (Ps := []) (pc' := 2) (lv' := [(0, .ref 31), (1, .int (nI f))]) (st' := [.int (nI f), .ref 31]) (σ' := σ) rfl True.intro ?_
  refine rw_callVi hX (as := [.int (nI f)]) (rest := []) (c_isForm _ _ _ f F hF hF2 hf) (by decide +kernel) mvX0_isForm lk0_82 (ci := 0) rfl rfl rfl (by decide) (Nat.le_of_ble_eq_true rfl) rfl ?_
  intro r1 σ1 hr
  rw [hr.1, hr.2]
  clear hr σ1 r1
  refine rw_if hX (tgt := 17) (cnd := .eq) (off := 12) (by decide +kernel) (by decide) (fun h5 => ?_) (fun h5 => ?_)
  · exact absurd h5 (by simp only [cz, cc2]; decide +kernel)
  · skip
    refine rw_go hX [(8, .aload_n 0), (9, .getfield 25), (12, .iload_n 1), (13, .iaload)] (by decide +kernel) (Ps := [vp_in (nI f) 250]) (pc' := 14) (lv' := [(0, .ref 31), (1, .int (nI f))]) (st' := [.int (σ 35 (nI f).toNatClampNeg)]) (σ' := σ) rfl (vp_in_nI (by omega) (by omega)) ?_
    rw [show (σ 35 (nI f).toNatClampNeg) = σ 35 f from (by rw [nI_clamp (by omega)])]
    refine rw_go hX [(14, .goto 4)] (by decide +kernel) (Ps := []) (pc' := 18) (lv' := [(0, .ref 31), (1, .int (nI f))]) (st' := [.int (σ 35 f)]) (σ' := σ) rfl True.intro ?_
    exact rw_iret hX (by decide +kernel) (⟨rfl, rfl⟩)
set_option maxRecDepth 20000 in
set_option maxHeartbeats 4000000 in
theorem c_isCommon (l : Launch) (G : Gl) (σ : Mm) (f F : Nat) (hF : σ 31 0 = nI F) (hF2 : F ≤ 250) (hf : f < F) : AMi l G 1 mX0_isCommon [.ref 31, .int (nI f)] σ (fun r σ' => σ' = σ ∧ r = bz (decide (σ 35 f ≥ σ 31 8) || decide (σ 38 f ≠ 0))) := by
  refine rw_inI 0 (by decide +kernel) rfl rfl ?_
  intro E hE hX
  subst hE
  refine rw_go hX [(0, .aload_n 0), (1, .iload_n 1)] (by decide +kernel) (Ps := []) (pc' := 2) (lv' := [(0, .ref 31), (1, .int (nI f))]) (st' := [.int (nI f), .ref 31]) (σ' := σ) rfl True.intro ?_
  refine rw_callVi hX (as := [.int (nI f)]) (rest := []) (c_isForm _ _ _ f F hF hF2 hf) (by decide +kernel) mvX0_isForm lk0_82 (ci := 0) rfl rfl rfl (by decide) (Nat.le_of_ble_eq_true rfl) rfl ?_
  intro r1 σ1 hr
  rw [hr.1, hr.2]
  clear hr σ1 r1
  refine rw_if hX (tgt := 34) (cnd := .eq) (off := 29) (by decide +kernel) (by decide) (fun h5 => ?_) (fun h5 => ?_)
  · exact absurd h5 (by simp only [cz, cc2]; decide +kernel)
  · skip
    refine rw_go hX [(8, .aload_n 0), (9, .getfield 25), (12, .iload_n 1), (13, .iaload)] (by decide +kernel) (Ps := [vp_in (nI f) 250]) (pc' := 14) (lv' := [(0, .ref 31), (1, .int (nI f))]) (st' := [.int (σ 35 (nI f).toNatClampNeg)]) (σ' := σ) rfl (vp_in_nI (by omega) (by omega)) ?_
    rw [show (σ 35 (nI f).toNatClampNeg) = σ 35 f from (by rw [nI_clamp (by omega)])]
    refine rw_go hX [(14, .aload_n 0), (15, .getfield 38)] (by decide +kernel) (Ps := []) (pc' := 18) (lv' := [(0, .ref 31), (1, .int (nI f))]) (st' := [.int (σ 31 8), .int (σ 35 f)]) (σ' := σ) rfl True.intro ?_
    refine rw_icmp hX (tgt := 30) (cnd := .ge) (off := 12) (by decide +kernel) (by decide) (fun h18 => ?_) (fun h18 => ?_)
    · replace h18 : (σ 35 f ≥ σ 31 8) := h18
      refine rw_go hX [(30, .iconst 1), (31, .goto 4)] (by decide +kernel) (Ps := []) (pc' := 35) (lv' := [(0, .ref 31), (1, .int (nI f))]) (st' := [.int (nI 1)]) (σ' := σ) rfl True.intro ?_
      exact rw_zret hX (by decide +kernel) (Or.inr rfl) (⟨rfl, by clear hX; first | (rw [decide_eq_true h18]; rfl) | (rw [decide_eq_false h18, decide_eq_false (fun z => z h27)]; rfl) | (rw [decide_eq_false h18, decide_eq_true (show σ 38 f ≠ 0 from h27)]; rfl)⟩)
    · replace h18 : ¬ (σ 35 f ≥ σ 31 8) := h18
      refine rw_go hX [(21, .aload_n 0), (22, .getfield 34), (25, .iload_n 1), (26, .baload)] (by decide +kernel) (Ps := [vp_in (nI f) 250]) (pc' := 27) (lv' := [(0, .ref 31), (1, .int (nI f))]) (st' := [.int (σ 38 (nI f).toNatClampNeg)]) (σ' := σ) rfl (vp_in_nI (by omega) (by omega)) ?_
      rw [show (σ 38 (nI f).toNatClampNeg) = σ 38 f from (by rw [nI_clamp (by omega)])]
      refine rw_if hX (tgt := 34) (cnd := .eq) (off := 7) (by decide +kernel) (by decide) (fun h27 => ?_) (fun h27 => ?_)
      · replace h27 : (σ 38 f = 0) := h27
        refine rw_go hX [(34, .iconst 0)] (by decide +kernel) (Ps := []) (pc' := 35) (lv' := [(0, .ref 31), (1, .int (nI f))]) (st' := [.int (nI 0)]) (σ' := σ) rfl True.intro ?_
        exact rw_zret hX (by decide +kernel) (Or.inl rfl) (⟨rfl, by clear hX; first | (rw [decide_eq_true h18]; rfl) | (rw [decide_eq_false h18, decide_eq_false (fun z => z h27)]; rfl) | (rw [decide_eq_false h18, decide_eq_true (show σ 38 f ≠ 0 from h27)]; rfl)⟩)
      · replace h27 : ¬ (σ 38 f = 0) := h27
        refine rw_go hX [(30, .iconst 1), (31, .goto 4)] (by decide +kernel) (Ps := []) (pc' := 35) (lv' := [(0, .ref 31), (1, .int (nI f))]) (st' := [.int (nI 1)]) (σ' := σ) rfl True.intro ?_
        exact rw_zret hX (by decide +kernel) (Or.inr rfl) (⟨rfl, by clear hX; first | (rw [decide_eq_true h18]; rfl) | (rw [decide_eq_false h18, decide_eq_false (fun z => z h27)]; rfl) | (rw [decide_eq_false h18, decide_eq_true (show σ 38 f ≠ 0 from h27)]; rfl)⟩)
set_option maxRecDepth 20000 in
set_option maxHeartbeats 4000000 in
theorem c_isCommonN (l : Launch) (G : Gl) (σ : Mm) : AMi l G 1 mX0_isCommon [.ref 31, .int (-(nI 1))] σ (fun r σ' => σ' = σ ∧ r = nI 0) := by
  refine rw_inI 0 (by decide +kernel) rfl rfl ?_
  intro E hE hX
  subst hE
  refine rw_go hX [(0, .aload_n 0), (1, .iload_n 1)] (by decide +kernel) (Ps := []) (pc' := 2) (lv' := [(0, .ref 31), (1, .int (-(nI 1)))]) (st' := [.int (-(nI 1)), .ref 31]) (σ' := σ) rfl True.intro ?_
  refine rw_callVi hX (as := [.int (-(nI 1))]) (rest := []) (c_isFormN _ _ _) (by decide +kernel) mvX0_isForm lk0_82 (ci := 0) rfl rfl rfl (by decide) (Nat.le_of_ble_eq_true rfl) rfl ?_
  intro r1 σ1 hr
  rw [hr.1, hr.2]
  clear hr σ1 r1
  refine rw_if hX (tgt := 34) (cnd := .eq) (off := 29) (by decide +kernel) (by decide) (fun h5 => ?_) (fun h5 => ?_)
  · skip
    refine rw_go hX [(34, .iconst 0)] (by decide +kernel) (Ps := []) (pc' := 35) (lv' := [(0, .ref 31), (1, .int (-(nI 1)))]) (st' := [.int (nI 0)]) (σ' := σ) rfl True.intro ?_
    exact rw_zret hX (by decide +kernel) (Or.inl rfl) (⟨rfl, rfl⟩)
  · exact absurd (by simp only [cz, cc2]; decide +kernel) h5
set_option maxRecDepth 20000 in
set_option maxHeartbeats 4000000 in
theorem c_flag (l : Launch) (G : Gl) (σ : Mm) (f F : Nat) (b : Int32) (hF : σ 31 0 = nI F) (hF2 : F ≤ 250) (hf : f < F) : AMv l G 1 mX0_flag [.ref 31, .int (nI f), .int b] σ (fun σ' => σ' = sw σ 37 f (σ 37 f ||| b)) := by
  refine rw_inV 0 (by decide +kernel) rfl rfl ?_
  intro E hE hX
  subst hE
  refine rw_go hX [(0, .aload_n 0), (1, .iload_n 1)] (by decide +kernel) (Ps := []) (pc' := 2) (lv' := [(0, .ref 31), (1, .int (nI f)), (2, .int b)]) (st' := [.int (nI f), .ref 31]) (σ' := σ) rfl True.intro ?_
  refine rw_callVi hX (as := [.int (nI f)]) (rest := []) (c_isForm _ _ _ f F hF hF2 hf) (by decide +kernel) mvX0_isForm lk0_82 (ci := 0) rfl rfl rfl (by decide) (Nat.le_of_ble_eq_true rfl) rfl ?_
  intro r1 σ1 hr
  rw [hr.1, hr.2]
  clear hr σ1 r1
  refine rw_if hX (tgt := 18) (cnd := .eq) (off := 13) (by decide +kernel) (by decide) (fun h5 => ?_) (fun h5 => ?_)
  · exact absurd h5 (by simp only [cz, cc2]; decide +kernel)
  · skip
    refine rw_go hX [(8, .aload_n 0), (9, .getfield 31), (12, .iload_n 1), (13, .dup2), (14, .iaload)] (by decide +kernel) (Ps := [vp_in (nI f) 250]) (pc' := 15) (lv' := [(0, .ref 31), (1, .int (nI f)), (2, .int b)]) (st' := [.int (σ 37 (nI f).toNatClampNeg), .int (nI f), .ref 37]) (σ' := σ) rfl (vp_in_nI (by omega) (by omega)) ?_
    rw [show (σ 37 (nI f).toNatClampNeg) = σ 37 f from (by rw [nI_clamp (by omega)])]
    refine rw_go hX [(15, .iload_n 2), (16, .ior), (17, .iastore)] (by decide +kernel) (Ps := [vp_in (nI f) 250]) (pc' := 18) (lv' := [(0, .ref 31), (1, .int (nI f)), (2, .int b)]) (st' := []) (σ' := sw σ 37 (nI f).toNatClampNeg (σ 37 f ||| b)) rfl (vp_in_nI (by omega) (by omega)) ?_
    rw [show (sw σ 37 (nI f).toNatClampNeg (σ 37 f ||| b)) = sw σ 37 f (σ 37 f ||| b) from (by rw [nI_clamp (by omega)])]
    exact rw_vret hX (by decide +kernel) (rfl)
/-- a new form F of head h, first cell c -/
def fAdd (F h c : Nat) (σ : Mm) : Mm := sw (sw (sw (sw (sw (sw (sw (sw σ 34 F (nI c)) 33 F (σ 32 h)) 35 F (nI 0)) 36 F (-(nI 1))) 37 F (nI 0)) 38 F (nI 0)) 32 h (nI F)) 31 0 (nI (F + 1))
set_option maxRecDepth 20000 in
set_option maxHeartbeats 4000000 in
theorem c_add (l : Launch) (G : Gl) (σ : Mm) (F h c : Nat) (hF : σ 31 0 = nI F) (hF2 : F < 250) (hh : h < 64) : AMi l G 0 mX0_add [.ref 31, .int (nI h), .int (nI c)] σ (fun r σ' => σ' = fAdd F h c σ ∧ r = nI F) := by
  refine rw_inI 0 (by decide +kernel) rfl rfl ?_
  intro E hE hX
  subst hE
  refine rw_go hX [(0, .aload_n 0), (1, .getfield 9)] (by decide +kernel) (Ps := []) (pc' := 4) (lv' := [(0, .ref 31), (1, .int (nI h)), (2, .int (nI c))]) (st' := [.int (σ 31 0)]) (σ' := σ) rfl True.intro ?_
  rw [show (σ 31 0) = nI F from (by rw [hF])]
  refine rw_if hX (tgt := 27) (cnd := .lt) (off := 23) (by decide +kernel) (by decide) (fun h4 => ?_) (fun h4 => ?_)
  · exact zn_ltT h4
  · clear h4
    refine rw_go hX [(7, .aload_n 0), (8, .getfield 9)] (by decide +kernel) (Ps := []) (pc' := 11) (lv' := [(0, .ref 31), (1, .int (nI h)), (2, .int (nI c))]) (st' := [.int (σ 31 0)]) (σ' := σ) rfl True.intro ?_
    rw [show (σ 31 0) = nI F from (by rw [hF])]
    refine rw_go hX [(11, .sipush 250)] (by decide +kernel) (Ps := []) (pc' := 14) (lv' := [(0, .ref 31), (1, .int (nI h)), (2, .int (nI c))]) (st' := [.int (nI 250), .int (nI F)]) (σ' := σ) rfl True.intro ?_
    refine rw_icmp hX (tgt := 27) (cnd := .ge) (off := 13) (by decide +kernel) (by decide) (fun h14 => ?_) (fun h14 => ?_)
    · replace h14 := c2_geT h14
      omega
    · replace h14 := c2_geF h14
      refine rw_go hX [(17, .iload_n 1)] (by decide +kernel) (Ps := []) (pc' := 18) (lv' := [(0, .ref 31), (1, .int (nI h)), (2, .int (nI c))]) (st' := [.int (nI h)]) (σ' := σ) rfl True.intro ?_
      refine rw_if hX (tgt := 27) (cnd := .lt) (off := 9) (by decide +kernel) (by decide) (fun h18 => ?_) (fun h18 => ?_)
      · exact zn_ltT h18
      · clear h18
        refine rw_go hX [(21, .iload_n 1), (22, .bipush 64)] (by decide +kernel) (Ps := []) (pc' := 24) (lv' := [(0, .ref 31), (1, .int (nI h)), (2, .int (nI c))]) (st' := [.int (nI 64), .int (nI h)]) (σ' := σ) rfl True.intro ?_
        refine rw_icmp hX (tgt := 29) (cnd := .lt) (off := 5) (by decide +kernel) (by decide) (fun h24 => ?_) (fun h24 => ?_)
        · replace h24 := c2_ltT h24
          refine rw_go hX [(29, .aload_n 0), (30, .getfield 22), (33, .aload_n 0), (34, .getfield 9)] (by decide +kernel) (Ps := []) (pc' := 37) (lv' := [(0, .ref 31), (1, .int (nI h)), (2, .int (nI c))]) (st' := [.int (σ 31 0), .ref 34]) (σ' := σ) rfl True.intro ?_
          rw [show (σ 31 0) = nI F from (by rw [hF])]
          refine rw_go hX [(37, .iload_n 2), (38, .iastore)] (by decide +kernel) (Ps := [vp_in (nI F) 250]) (pc' := 39) (lv' := [(0, .ref 31), (1, .int (nI h)), (2, .int (nI c))]) (st' := []) (σ' := sw σ 34 (nI F).toNatClampNeg (nI c)) rfl (vp_in_nI (by omega) (by omega)) ?_
          rw [show (sw σ 34 (nI F).toNatClampNeg (nI c)) = sw σ 34 F (nI c) from (by rw [nI_clamp (by omega)])]
          refine rw_go hX [(39, .aload_n 0), (40, .getfield 19), (43, .aload_n 0), (44, .getfield 9)] (by decide +kernel) (Ps := []) (pc' := 47) (lv' := [(0, .ref 31), (1, .int (nI h)), (2, .int (nI c))]) (st' := [.int ((sw σ 34 F (nI c)) 31 0), .ref 33]) (σ' := sw σ 34 F (nI c)) rfl True.intro ?_
          rw [show ((sw σ 34 F (nI c)) 31 0) = nI F from (by rw [sw_ne _ _ _ (by decide), hF])]
          refine rw_go hX [(47, .aload_n 0), (48, .getfield 15), (51, .iload_n 1), (52, .iaload)] (by decide +kernel) (Ps := [vp_in (nI h) 64]) (pc' := 53) (lv' := [(0, .ref 31), (1, .int (nI h)), (2, .int (nI c))]) (st' := [.int ((sw σ 34 F (nI c)) 32 (nI h).toNatClampNeg), .int (nI F), .ref 33]) (σ' := sw σ 34 F (nI c)) rfl (vp_in_nI (by omega) (by omega)) ?_
          rw [show ((sw σ 34 F (nI c)) 32 (nI h).toNatClampNeg) = σ 32 h from (by rw [nI_clamp (by omega), sw_ne _ _ _ (by decide)])]
          refine rw_go hX [(53, .iastore)] (by decide +kernel) (Ps := [vp_in (nI F) 250]) (pc' := 54) (lv' := [(0, .ref 31), (1, .int (nI h)), (2, .int (nI c))]) (st' := []) (σ' := sw (sw σ 34 F (nI c)) 33 (nI F).toNatClampNeg (σ 32 h)) rfl (vp_in_nI (by omega) (by omega)) ?_
          rw [show (sw (sw σ 34 F (nI c)) 33 (nI F).toNatClampNeg (σ 32 h)) = sw (sw σ 34 F (nI c)) 33 F (σ 32 h) from (by rw [nI_clamp (by omega)])]
          refine rw_go hX [(54, .aload_n 0), (55, .getfield 25), (58, .aload_n 0), (59, .getfield 9)] (by decide +kernel) (Ps := []) (pc' := 62) (lv' := [(0, .ref 31), (1, .int (nI h)), (2, .int (nI c))]) (st' := [.int ((sw (sw σ 34 F (nI c)) 33 F (σ 32 h)) 31 0), .ref 35]) (σ' := sw (sw σ 34 F (nI c)) 33 F (σ 32 h)) rfl True.intro ?_
          rw [show ((sw (sw σ 34 F (nI c)) 33 F (σ 32 h)) 31 0) = nI F from (by rw [sw_ne _ _ _ (by decide), sw_ne _ _ _ (by decide), hF])]
          refine rw_go hX [(62, .iconst 0), (63, .iastore)] (by decide +kernel) (Ps := [vp_in (nI F) 250]) (pc' := 64) (lv' := [(0, .ref 31), (1, .int (nI h)), (2, .int (nI c))]) (st' := []) (σ' := sw (sw (sw σ 34 F (nI c)) 33 F (σ 32 h)) 35 (nI F).toNatClampNeg (nI 0)) rfl (vp_in_nI (by omega) (by omega)) ?_
          rw [show (sw (sw (sw σ 34 F (nI c)) 33 F (σ 32 h)) 35 (nI F).toNatClampNeg (nI 0)) = sw (sw (sw σ 34 F (nI c)) 33 F (σ 32 h)) 35 F (nI 0) from (by rw [nI_clamp (by omega)])]
          refine rw_go hX [(64, .aload_n 0), (65, .getfield 28), (68, .aload_n 0), (69, .getfield 9)] (by decide +kernel) (Ps := []) (pc' := 72) (lv' := [(0, .ref 31), (1, .int (nI h)), (2, .int (nI c))]) (st' := [.int ((sw (sw (sw σ 34 F (nI c)) 33 F (σ 32 h)) 35 F (nI 0)) 31 0), .ref 36]) (σ' := sw (sw (sw σ 34 F (nI c)) 33 F (σ 32 h)) 35 F (nI 0)) rfl True.intro ?_
          rw [show ((sw (sw (sw σ 34 F (nI c)) 33 F (σ 32 h)) 35 F (nI 0)) 31 0) = nI F from (by rw [sw_ne _ _ _ (by decide), sw_ne _ _ _ (by decide), sw_ne _ _ _ (by decide), hF])]
          refine rw_go hX [(72, .iconst (-1)), (73, .iastore)] (by decide +kernel) (Ps := [vp_in (nI F) 250]) (pc' := 74) (lv' := [(0, .ref 31), (1, .int (nI h)), (2, .int (nI c))]) (st' := []) (σ' := sw (sw (sw (sw σ 34 F (nI c)) 33 F (σ 32 h)) 35 F (nI 0)) 36 (nI F).toNatClampNeg (-(nI 1))) rfl (vp_in_nI (by omega) (by omega)) ?_
          rw [show (sw (sw (sw (sw σ 34 F (nI c)) 33 F (σ 32 h)) 35 F (nI 0)) 36 (nI F).toNatClampNeg (-(nI 1))) = sw (sw (sw (sw σ 34 F (nI c)) 33 F (σ 32 h)) 35 F (nI 0)) 36 F (-(nI 1)) from (by rw [nI_clamp (by omega)])]
          refine rw_go hX [(74, .aload_n 0), (75, .getfield 31), (78, .aload_n 0), (79, .getfield 9)] (by decide +kernel) (Ps := []) (pc' := 82) (lv' := [(0, .ref 31), (1, .int (nI h)), (2, .int (nI c))]) (st' := [.int ((sw (sw (sw (sw σ 34 F (nI c)) 33 F (σ 32 h)) 35 F (nI 0)) 36 F (-(nI 1))) 31 0), .ref 37]) (σ' := sw (sw (sw (sw σ 34 F (nI c)) 33 F (σ 32 h)) 35 F (nI 0)) 36 F (-(nI 1))) rfl True.intro ?_
          rw [show ((sw (sw (sw (sw σ 34 F (nI c)) 33 F (σ 32 h)) 35 F (nI 0)) 36 F (-(nI 1))) 31 0) = nI F from (by rw [sw_ne _ _ _ (by decide), sw_ne _ _ _ (by decide), sw_ne _ _ _ (by decide), sw_ne _ _ _ (by decide), hF])]
          refine rw_go hX [(82, .iconst 0), (83, .iastore)] (by decide +kernel) (Ps := [vp_in (nI F) 250]) (pc' := 84) (lv' := [(0, .ref 31), (1, .int (nI h)), (2, .int (nI c))]) (st' := []) (σ' := sw (sw (sw (sw (sw σ 34 F (nI c)) 33 F (σ 32 h)) 35 F (nI 0)) 36 F (-(nI 1))) 37 (nI F).toNatClampNeg (nI 0)) rfl (vp_in_nI (by omega) (by omega)) ?_
          rw [show (sw (sw (sw (sw (sw σ 34 F (nI c)) 33 F (σ 32 h)) 35 F (nI 0)) 36 F (-(nI 1))) 37 (nI F).toNatClampNeg (nI 0)) = sw (sw (sw (sw (sw σ 34 F (nI c)) 33 F (σ 32 h)) 35 F (nI 0)) 36 F (-(nI 1))) 37 F (nI 0) from (by rw [nI_clamp (by omega)])]
          refine rw_go hX [(84, .aload_n 0), (85, .getfield 34), (88, .aload_n 0), (89, .getfield 9)] (by decide +kernel) (Ps := []) (pc' := 92) (lv' := [(0, .ref 31), (1, .int (nI h)), (2, .int (nI c))]) (st' := [.int ((sw (sw (sw (sw (sw σ 34 F (nI c)) 33 F (σ 32 h)) 35 F (nI 0)) 36 F (-(nI 1))) 37 F (nI 0)) 31 0), .ref 38]) (σ' := sw (sw (sw (sw (sw σ 34 F (nI c)) 33 F (σ 32 h)) 35 F (nI 0)) 36 F (-(nI 1))) 37 F (nI 0)) rfl True.intro ?_
          rw [show ((sw (sw (sw (sw (sw σ 34 F (nI c)) 33 F (σ 32 h)) 35 F (nI 0)) 36 F (-(nI 1))) 37 F (nI 0)) 31 0) = nI F from (by rw [sw_ne _ _ _ (by decide), sw_ne _ _ _ (by decide), sw_ne _ _ _ (by decide), sw_ne _ _ _ (by decide), sw_ne _ _ _ (by decide), hF])]
          refine rw_go hX [(92, .iconst 0), (93, .bastore)] (by decide +kernel) (Ps := [vp_in (nI F) 250, (nI 0) = 0 ∨ (nI 0) = 1]) (pc' := 94) (lv' := [(0, .ref 31), (1, .int (nI h)), (2, .int (nI c))]) (st' := []) (σ' := sw (sw (sw (sw (sw (sw σ 34 F (nI c)) 33 F (σ 32 h)) 35 F (nI 0)) 36 F (-(nI 1))) 37 F (nI 0)) 38 (nI F).toNatClampNeg (nI 0)) rfl (⟨vp_in_nI (by omega) (by omega), Or.inl rfl⟩) ?_
          rw [show (sw (sw (sw (sw (sw (sw σ 34 F (nI c)) 33 F (σ 32 h)) 35 F (nI 0)) 36 F (-(nI 1))) 37 F (nI 0)) 38 (nI F).toNatClampNeg (nI 0)) = sw (sw (sw (sw (sw (sw σ 34 F (nI c)) 33 F (σ 32 h)) 35 F (nI 0)) 36 F (-(nI 1))) 37 F (nI 0)) 38 F (nI 0) from (by rw [nI_clamp (by omega)])]
          refine rw_go hX [(94, .aload_n 0), (95, .getfield 15), (98, .iload_n 1), (99, .aload_n 0), (100, .getfield 9)] (by decide +kernel) (Ps := []) (pc' := 103) (lv' := [(0, .ref 31), (1, .int (nI h)), (2, .int (nI c))]) (st' := [.int ((sw (sw (sw (sw (sw (sw σ 34 F (nI c)) 33 F (σ 32 h)) 35 F (nI 0)) 36 F (-(nI 1))) 37 F (nI 0)) 38 F (nI 0)) 31 0), .int (nI h), .ref 32]) (σ' := sw (sw (sw (sw (sw (sw σ 34 F (nI c)) 33 F (σ 32 h)) 35 F (nI 0)) 36 F (-(nI 1))) 37 F (nI 0)) 38 F (nI 0)) rfl True.intro ?_
          rw [show ((sw (sw (sw (sw (sw (sw σ 34 F (nI c)) 33 F (σ 32 h)) 35 F (nI 0)) 36 F (-(nI 1))) 37 F (nI 0)) 38 F (nI 0)) 31 0) = nI F from (by rw [sw_ne _ _ _ (by decide), sw_ne _ _ _ (by decide), sw_ne _ _ _ (by decide), sw_ne _ _ _ (by decide), sw_ne _ _ _ (by decide), sw_ne _ _ _ (by decide), hF])]
          refine rw_go hX [(103, .iastore)] (by decide +kernel) (Ps := [vp_in (nI h) 64]) (pc' := 104) (lv' := [(0, .ref 31), (1, .int (nI h)), (2, .int (nI c))]) (st' := []) (σ' := sw (sw (sw (sw (sw (sw (sw σ 34 F (nI c)) 33 F (σ 32 h)) 35 F (nI 0)) 36 F (-(nI 1))) 37 F (nI 0)) 38 F (nI 0)) 32 (nI h).toNatClampNeg (nI F)) rfl (vp_in_nI (by omega) (by omega)) ?_
          rw [show (sw (sw (sw (sw (sw (sw (sw σ 34 F (nI c)) 33 F (σ 32 h)) 35 F (nI 0)) 36 F (-(nI 1))) 37 F (nI 0)) 38 F (nI 0)) 32 (nI h).toNatClampNeg (nI F)) = sw (sw (sw (sw (sw (sw (sw σ 34 F (nI c)) 33 F (σ 32 h)) 35 F (nI 0)) 36 F (-(nI 1))) 37 F (nI 0)) 38 F (nI 0)) 32 h (nI F) from (by rw [nI_clamp (by omega)])]
          refine rw_go hX [(104, .aload_n 0), (105, .dup), (106, .getfield 9)] (by decide +kernel) (Ps := []) (pc' := 109) (lv' := [(0, .ref 31), (1, .int (nI h)), (2, .int (nI c))]) (st' := [.int ((sw (sw (sw (sw (sw (sw (sw σ 34 F (nI c)) 33 F (σ 32 h)) 35 F (nI 0)) 36 F (-(nI 1))) 37 F (nI 0)) 38 F (nI 0)) 32 h (nI F)) 31 0), .ref 31]) (σ' := sw (sw (sw (sw (sw (sw (sw σ 34 F (nI c)) 33 F (σ 32 h)) 35 F (nI 0)) 36 F (-(nI 1))) 37 F (nI 0)) 38 F (nI 0)) 32 h (nI F)) rfl True.intro ?_
          rw [show ((sw (sw (sw (sw (sw (sw (sw σ 34 F (nI c)) 33 F (σ 32 h)) 35 F (nI 0)) 36 F (-(nI 1))) 37 F (nI 0)) 38 F (nI 0)) 32 h (nI F)) 31 0) = nI F from (by rw [sw_ne _ _ _ (by decide), sw_ne _ _ _ (by decide), sw_ne _ _ _ (by decide), sw_ne _ _ _ (by decide), sw_ne _ _ _ (by decide), sw_ne _ _ _ (by decide), sw_ne _ _ _ (by decide), hF])]
          refine rw_go hX [(109, .iconst 1), (110, .iadd)] (by decide +kernel) (Ps := []) (pc' := 111) (lv' := [(0, .ref 31), (1, .int (nI h)), (2, .int (nI c))]) (st' := [.int (nI F + nI 1), .ref 31]) (σ' := sw (sw (sw (sw (sw (sw (sw σ 34 F (nI c)) 33 F (σ 32 h)) 35 F (nI 0)) 36 F (-(nI 1))) 37 F (nI 0)) 38 F (nI 0)) 32 h (nI F)) rfl True.intro ?_
          rw [show (nI F + nI 1) = nI (F + 1) from nI_add F 1]
          refine rw_go hX [(111, .putfield 9), (114, .aload_n 0), (115, .getfield 9)] (by decide +kernel) (Ps := []) (pc' := 118) (lv' := [(0, .ref 31), (1, .int (nI h)), (2, .int (nI c))]) (st' := [.int ((sw (sw (sw (sw (sw (sw (sw (sw σ 34 F (nI c)) 33 F (σ 32 h)) 35 F (nI 0)) 36 F (-(nI 1))) 37 F (nI 0)) 38 F (nI 0)) 32 h (nI F)) 31 0 (nI (F + 1))) 31 0)]) (σ' := sw (sw (sw (sw (sw (sw (sw (sw σ 34 F (nI c)) 33 F (σ 32 h)) 35 F (nI 0)) 36 F (-(nI 1))) 37 F (nI 0)) 38 F (nI 0)) 32 h (nI F)) 31 0 (nI (F + 1))) rfl True.intro ?_
          rw [show ((sw (sw (sw (sw (sw (sw (sw (sw σ 34 F (nI c)) 33 F (σ 32 h)) 35 F (nI 0)) 36 F (-(nI 1))) 37 F (nI 0)) 38 F (nI 0)) 32 h (nI F)) 31 0 (nI (F + 1))) 31 0) = nI (F + 1) from (by rw [sw_eq])]
          refine rw_go hX [(118, .iconst 1), (119, .isub)] (by decide +kernel) (Ps := []) (pc' := 120) (lv' := [(0, .ref 31), (1, .int (nI h)), (2, .int (nI c))]) (st' := [.int (nI (F + 1) - nI 1)]) (σ' := sw (sw (sw (sw (sw (sw (sw (sw σ 34 F (nI c)) 33 F (σ 32 h)) 35 F (nI 0)) 36 F (-(nI 1))) 37 F (nI 0)) 38 F (nI 0)) 32 h (nI F)) 31 0 (nI (F + 1))) rfl True.intro ?_
          rw [show (nI (F + 1) - nI 1) = nI F from (by rw [pk_sub (by omega)]; rfl)]
          exact rw_iret hX (by decide +kernel) (⟨rfl, rfl⟩)
        · replace h24 := c2_ltF h24
          omega
/-- form f is seen in a work -/
def fSee (f w : Nat) (base : Int32) (σ : Mm) : Mm := if σ 36 f = nI w then σ else sw (sw (sw σ 36 f (nI w)) 35 f (σ 35 f + nI 1)) 38 f (σ 38 f ||| bz (decide (nI w = base)))
set_option maxRecDepth 20000 in
set_option maxHeartbeats 4000000 in
theorem c_seeIn (l : Launch) (G : Gl) (σ : Mm) (f F w : Nat) (base : Int32) (hF : σ 31 0 = nI F) (hF2 : F ≤ 250) (hf : f < F) (hw : w < 5) (hb : σ 38 f = 0 ∨ σ 38 f = 1) : AMv l G 1 mX0_seeIn [.ref 31, .int (nI f), .int (nI w), .int base] σ (fun σ' => σ' = fSee f w base σ) := by
  refine rw_inV 0 (by decide +kernel) rfl rfl ?_
  intro E hE hX
  subst hE
  refine rw_go hX [(0, .aload_n 0), (1, .iload_n 1)] (by decide +kernel) (Ps := []) (pc' := 2) (lv' := [(0, .ref 31), (1, .int (nI f)), (2, .int (nI w)), (3, .int base)]) (st' := [.int (nI f), .ref 31]) (σ' := σ) rfl True.intro ?_
  refine rw_callVi hX (as := [.int (nI f)]) (rest := []) (c_isForm _ _ _ f F hF hF2 hf) (by decide +kernel) mvX0_isForm lk0_82 (ci := 0) rfl rfl rfl (by decide) (Nat.le_of_ble_eq_true rfl) rfl ?_
  intro r1 σ1 hr
  rw [hr.1, hr.2]
  clear hr σ1 r1
  refine rw_if hX (tgt := 18) (cnd := .eq) (off := 13) (by decide +kernel) (by decide) (fun h5 => ?_) (fun h5 => ?_)
  · exact absurd h5 (by simp only [cz, cc2]; decide +kernel)
  · skip
    refine rw_go hX [(8, .aload_n 0), (9, .getfield 28), (12, .iload_n 1), (13, .iaload)] (by decide +kernel) (Ps := [vp_in (nI f) 250]) (pc' := 14) (lv' := [(0, .ref 31), (1, .int (nI f)), (2, .int (nI w)), (3, .int base)]) (st' := [.int (σ 36 (nI f).toNatClampNeg)]) (σ' := σ) rfl (vp_in_nI (by omega) (by omega)) ?_
    rw [show (σ 36 (nI f).toNatClampNeg) = σ 36 f from (by rw [nI_clamp (by omega)])]
    refine rw_go hX [(14, .iload_n 2)] (by decide +kernel) (Ps := []) (pc' := 15) (lv' := [(0, .ref 31), (1, .int (nI f)), (2, .int (nI w)), (3, .int base)]) (st' := [.int (nI w), .int (σ 36 f)]) (σ' := σ) rfl True.intro ?_
    refine rw_icmp hX (tgt := 19) (cnd := .ne) (off := 4) (by decide +kernel) (by decide) (fun h15 => ?_) (fun h15 => ?_)
    · replace h15 : (σ 36 f ≠ nI w) := h15
      refine rw_go hX [(19, .aload_n 0), (20, .getfield 28), (23, .iload_n 1), (24, .iload_n 2), (25, .iastore)] (by decide +kernel) (Ps := [vp_in (nI f) 250]) (pc' := 26) (lv' := [(0, .ref 31), (1, .int (nI f)), (2, .int (nI w)), (3, .int base)]) (st' := []) (σ' := sw σ 36 (nI f).toNatClampNeg (nI w)) rfl (vp_in_nI (by omega) (by omega)) ?_
      rw [show (sw σ 36 (nI f).toNatClampNeg (nI w)) = sw σ 36 f (nI w) from (by rw [nI_clamp (by omega)])]
      refine rw_go hX [(26, .aload_n 0), (27, .getfield 25), (30, .iload_n 1), (31, .dup2), (32, .iaload)] (by decide +kernel) (Ps := [vp_in (nI f) 250]) (pc' := 33) (lv' := [(0, .ref 31), (1, .int (nI f)), (2, .int (nI w)), (3, .int base)]) (st' := [.int ((sw σ 36 f (nI w)) 35 (nI f).toNatClampNeg), .int (nI f), .ref 35]) (σ' := sw σ 36 f (nI w)) rfl (vp_in_nI (by omega) (by omega)) ?_
      rw [show ((sw σ 36 f (nI w)) 35 (nI f).toNatClampNeg) = σ 35 f from (by rw [nI_clamp (by omega), sw_ne _ _ _ (by decide)])]
      refine rw_go hX [(33, .iconst 1), (34, .iadd), (35, .iastore)] (by decide +kernel) (Ps := [vp_in (nI f) 250]) (pc' := 36) (lv' := [(0, .ref 31), (1, .int (nI f)), (2, .int (nI w)), (3, .int base)]) (st' := []) (σ' := sw (sw σ 36 f (nI w)) 35 (nI f).toNatClampNeg (σ 35 f + nI 1)) rfl (vp_in_nI (by omega) (by omega)) ?_
      rw [show (sw (sw σ 36 f (nI w)) 35 (nI f).toNatClampNeg (σ 35 f + nI 1)) = sw (sw σ 36 f (nI w)) 35 f (σ 35 f + nI 1) from (by rw [nI_clamp (by omega)])]
      refine rw_go hX [(36, .aload_n 0), (37, .getfield 34), (40, .iload_n 1), (41, .aload_n 0), (42, .getfield 34), (45, .iload_n 1), (46, .baload)] (by decide +kernel) (Ps := [vp_in (nI f) 250]) (pc' := 47) (lv' := [(0, .ref 31), (1, .int (nI f)), (2, .int (nI w)), (3, .int base)]) (st' := [.int ((sw (sw σ 36 f (nI w)) 35 f (σ 35 f + nI 1)) 38 (nI f).toNatClampNeg), .int (nI f), .ref 38]) (σ' := sw (sw σ 36 f (nI w)) 35 f (σ 35 f + nI 1)) rfl (vp_in_nI (by omega) (by omega)) ?_
      rw [show ((sw (sw σ 36 f (nI w)) 35 f (σ 35 f + nI 1)) 38 (nI f).toNatClampNeg) = σ 38 f from (by rw [nI_clamp (by omega), sw_ne _ _ _ (by decide), sw_ne _ _ _ (by decide)])]
      refine rw_if hX (tgt := 55) (cnd := .ne) (off := 8) (by decide +kernel) (by decide) (fun h47 => ?_) (fun h47 => ?_)
      · replace h47 : (σ 38 f ≠ 0) := h47
        refine rw_go hX [(55, .iconst 1), (56, .goto 4), (60, .bastore)] (by decide +kernel) (Ps := [vp_in (nI f) 250, (nI 1) = 0 ∨ (nI 1) = 1]) (pc' := 61) (lv' := [(0, .ref 31), (1, .int (nI f)), (2, .int (nI w)), (3, .int base)]) (st' := []) (σ' := sw (sw (sw σ 36 f (nI w)) 35 f (σ 35 f + nI 1)) 38 (nI f).toNatClampNeg (nI 1)) rfl (⟨vp_in_nI (by omega) (by omega), by first | exact Or.inl rfl | exact Or.inr rfl⟩) ?_
        rw [show (sw (sw (sw σ 36 f (nI w)) 35 f (σ 35 f + nI 1)) 38 (nI f).toNatClampNeg (nI 1)) = sw (sw (sw σ 36 f (nI w)) 35 f (σ 35 f + nI 1)) 38 f (nI 1) from (by rw [nI_clamp (by omega)])]
        exact rw_vret hX (by decide +kernel) (by first | (unfold fSee; rw [if_neg h15, see_T _ hb h47]; done) | (unfold fSee; rw [if_neg h15, see_F _ h47, decide_eq_true (Classical.not_not.mp h52)]; rfl) | (unfold fSee; rw [if_neg h15, see_F _ h47, decide_eq_false h52]; rfl))
      · replace h47 : ¬ (σ 38 f ≠ 0) := h47
        refine rw_go hX [(50, .iload_n 2), (51, .iload_n 3)] (by decide +kernel) (Ps := []) (pc' := 52) (lv' := [(0, .ref 31), (1, .int (nI f)), (2, .int (nI w)), (3, .int base)]) (st' := [.int base, .int (nI w), .int (nI f), .ref 38]) (σ' := sw (sw σ 36 f (nI w)) 35 f (σ 35 f + nI 1)) rfl True.intro ?_
        refine rw_icmp hX (tgt := 59) (cnd := .ne) (off := 7) (by decide +kernel) (by decide) (fun h52 => ?_) (fun h52 => ?_)
        · replace h52 : (nI w ≠ base) := h52
          refine rw_go hX [(59, .iconst 0), (60, .bastore)] (by decide +kernel) (Ps := [vp_in (nI f) 250, (nI 0) = 0 ∨ (nI 0) = 1]) (pc' := 61) (lv' := [(0, .ref 31), (1, .int (nI f)), (2, .int (nI w)), (3, .int base)]) (st' := []) (σ' := sw (sw (sw σ 36 f (nI w)) 35 f (σ 35 f + nI 1)) 38 (nI f).toNatClampNeg (nI 0)) rfl (⟨vp_in_nI (by omega) (by omega), by first | exact Or.inl rfl | exact Or.inr rfl⟩) ?_
          rw [show (sw (sw (sw σ 36 f (nI w)) 35 f (σ 35 f + nI 1)) 38 (nI f).toNatClampNeg (nI 0)) = sw (sw (sw σ 36 f (nI w)) 35 f (σ 35 f + nI 1)) 38 f (nI 0) from (by rw [nI_clamp (by omega)])]
          exact rw_vret hX (by decide +kernel) (by first | (unfold fSee; rw [if_neg h15, see_T _ hb h47]; done) | (unfold fSee; rw [if_neg h15, see_F _ h47, decide_eq_true (Classical.not_not.mp h52)]; rfl) | (unfold fSee; rw [if_neg h15, see_F _ h47, decide_eq_false h52]; rfl))
        · replace h52 : ¬ (nI w ≠ base) := h52
          refine rw_go hX [(55, .iconst 1), (56, .goto 4), (60, .bastore)] (by decide +kernel) (Ps := [vp_in (nI f) 250, (nI 1) = 0 ∨ (nI 1) = 1]) (pc' := 61) (lv' := [(0, .ref 31), (1, .int (nI f)), (2, .int (nI w)), (3, .int base)]) (st' := []) (σ' := sw (sw (sw σ 36 f (nI w)) 35 f (σ 35 f + nI 1)) 38 (nI f).toNatClampNeg (nI 1)) rfl (⟨vp_in_nI (by omega) (by omega), by first | exact Or.inl rfl | exact Or.inr rfl⟩) ?_
          rw [show (sw (sw (sw σ 36 f (nI w)) 35 f (σ 35 f + nI 1)) 38 (nI f).toNatClampNeg (nI 1)) = sw (sw (sw σ 36 f (nI w)) 35 f (σ 35 f + nI 1)) 38 f (nI 1) from (by rw [nI_clamp (by omega)])]
          exact rw_vret hX (by decide +kernel) (by first | (unfold fSee; rw [if_neg h15, see_T _ hb h47]; done) | (unfold fSee; rw [if_neg h15, see_F _ h47, decide_eq_true (Classical.not_not.mp h52)]; rfl) | (unfold fSee; rw [if_neg h15, see_F _ h47, decide_eq_false h52]; rfl))
    · replace h15 : ¬ (σ 36 f ≠ nI w) := h15
      exact rw_vret hX (by decide +kernel) ((if_pos (Classical.not_not.mp h15)).symm)
