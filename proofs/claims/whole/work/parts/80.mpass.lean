/-! the model: rules, marks, images -/
def swpass (σ : Mm) : Prop := True
theorem pass_k (σ : Mm) {R p : Nat} (f : Nat → Int32) (a v b : Int32) (h : R ≠ 66) : sw (sw (sw (sr σ R f) 66 9 a) R p v) 66 9 b = sw (sr σ R (upd f p v)) 66 9 b := by
  funext k j
  by_cases h1 : k = 66
  · subst h1
    by_cases h2 : j = 9
    · subst h2; rw [sw_eq, sw_eq]
    · rw [sw_o h2, sw_ne _ _ _ (fun z => h z.symm), sw_o h2, sw_o h2, sr_n _ _ (fun z => h z.symm), sr_n _ _ (fun z => h z.symm)]
  · rw [sw_ne _ _ _ h1, sw_ne _ _ _ h1]
    by_cases h2 : k = R
    · subst h2
      rw [sw_row, sw_ne _ _ _ h1, sr_s, sr_s]
    · rw [sw_ne _ _ _ h2, sw_ne _ _ _ h1, sr_n _ _ h2, sr_n _ _ h2]
theorem pass_0 (σ : Mm) (R : Nat) {a : Int32} (h : σ 66 9 = a) : sw (sr σ R (σ R)) 66 9 a = σ := by rw [sr_id, ← h, sw_id]
set_option maxRecDepth 20000 in
set_option maxHeartbeats 800000 in
theorem m_there0 (l : Launch) (G : Gl) (σ : Mm) (w s : Nat) (hw : w < 5) (hs : σ 68 w = nI s) (hs5 : s ≤ 50) : AMi l G 0 mX10_isThere [.ref 66, .int (nI w)] σ (fun r σ' => σ' = σ ∧ r = bz (decide (0 < s))) := by
  refine rw_inI 10 (by decide +kernel) rfl rfl ?_
  intro E hE hX
  subst hE
  refine rw_go hX [(0, .aload_n 0), (1, .getfield 13), (4, .iload_n 1), (5, .iaload)] (by decide +kernel) (Ps := [vp_in (nI w) 5]) (pc' := 6) (lv' := [(0, .ref 66), (1, .int (nI w))]) (st' := [.int (σ 68 (nI w).toNatClampNeg)]) (σ' := σ) rfl (vp_in_nI (by omega) (by omega)) ?_
  rw [show (σ 68 (nI w).toNatClampNeg) = nI s from (by rw [nI_clamp (by omega), hs])]
  refine rw_if hX (tgt := 13) (cnd := .le) (off := 7) (by decide +kernel) (by decide) (fun h6 => ?_) (fun h6 => ?_)
  · replace h6 := zn_leT h6
    refine rw_go hX [(13, .iconst 0)] (by decide +kernel) (Ps := []) (pc' := 14) (lv' := [(0, .ref 66), (1, .int (nI w))]) (st' := [.int (nI 0)]) (σ' := σ) rfl True.intro ?_
    exact rw_zret hX (by decide +kernel) (Or.inl rfl) (⟨rfl, by first | (rw [decide_eq_true (by omega)]; rfl) | (rw [decide_eq_false (by omega)]; rfl)⟩)
  · replace h6 := zn_leF h6
    refine rw_go hX [(9, .iconst 1), (10, .goto 4)] (by decide +kernel) (Ps := []) (pc' := 14) (lv' := [(0, .ref 66), (1, .int (nI w))]) (st' := [.int (nI 1)]) (σ' := σ) rfl True.intro ?_
    exact rw_zret hX (by decide +kernel) (Or.inr rfl) (⟨rfl, by first | (rw [decide_eq_true (by omega)]; rfl) | (rw [decide_eq_false (by omega)]; rfl)⟩)
set_option maxRecDepth 20000 in
set_option maxHeartbeats 800000 in
theorem m_worksThere0 (l : Launch) (G : Gl) (σ : Mm) (s : Nat → Nat) (hs : ∀ w, w < 5 → σ 68 w = nI (s w) ∧ s w ≤ 50) : AMi l G 1 mX10_worksThere [.ref 66] σ (fun r σ' => σ' = σ ∧ r = nI (cB (fun w => decide (0 < s w)) 5)) := by
  refine rw_inI 10 (by decide +kernel) rfl rfl ?_
  intro E hE hX
  subst hE
  refine rw_go hX [(0, .iconst 0), (1, .istore_n 1), (2, .iconst 0), (3, .istore_n 2)] (by decide +kernel) (Ps := []) (pc' := 4) (lv' := [(0, .ref 66), (1, .int (nI 0)), (2, .int (nI 0))]) (st' := []) (σ' := σ) rfl True.intro ?_
  have L4 : ∀ (μ4 : Nat) (w : Nat), μ4 = 5 - w → (w ≤ 5) → RW E G 1 3 (QI E G (fun r σ' => σ' = σ ∧ r = nI (cB (fun w => decide (0 < s w)) 5))) 4 [(0, .ref 66), (1, .int (nI (cB (fun w => decide (0 < s w)) w))), (2, .int (nI w))] [] σ := by
    intro μ4
    induction μ4 using Nat.strongRecOn with
    | ind μ4 ih4 =>
      intro w hμ4 hwi
      refine rw_go hX [(4, .iload_n 2), (5, .iconst 5)] (by decide +kernel) (Ps := []) (pc' := 6) (lv' := [(0, .ref 66), (1, .int (nI (cB (fun w => decide (0 < s w)) w))), (2, .int (nI w))]) (st' := [.int (nI 5), .int (nI w)]) (σ' := σ) rfl True.intro ?_
      refine rw_icmp hX (tgt := 31) (cnd := .ge) (off := 25) (by decide +kernel) (by decide) (fun h6 => ?_) (fun h6 => ?_)
      · replace h6 := c2_geT h6
        have e : w = 5 := by omega
        refine rw_go hX [(31, .iload_n 1)] (by decide +kernel) (Ps := []) (pc' := 32) (lv' := [(0, .ref 66), (1, .int (nI (cB (fun w => decide (0 < s w)) w))), (2, .int (nI w))]) (st' := [.int (nI (cB (fun w => decide (0 < s w)) w))]) (σ' := σ) rfl True.intro ?_
        exact rw_iret hX (by decide +kernel) (⟨rfl, by rw [e]⟩)
      · replace h6 := c2_geF h6
        refine rw_go hX [(9, .iload_n 1), (10, .aload_n 0), (11, .iload_n 2)] (by decide +kernel) (Ps := []) (pc' := 12) (lv' := [(0, .ref 66), (1, .int (nI (cB (fun w => decide (0 < s w)) w))), (2, .int (nI w))]) (st' := [.int (nI w), .ref 66, .int (nI (cB (fun w => decide (0 < s w)) w))]) (σ' := σ) rfl True.intro ?_
        refine rw_callVi hX (as := [.int (nI w)]) (rest := [.int (nI (cB (fun w => decide (0 < s w)) w))]) (m_there0 _ _ _ w (s w) h6 (hs w h6).1 (hs w h6).2) (by decide +kernel) mvX10_isThere lk10_132 (ci := 9) rfl rfl rfl (by decide) (Nat.le_of_ble_eq_true rfl) rfl ?_
        intro r1 σ1 hr
        rw [hr.1, show r1 = bz (decide (0 < s w)) from hr.2]
        clear hr σ1 r1
        refine rw_if hX (tgt := 22) (cnd := .eq) (off := 7) (by decide +kernel) (by decide) (fun h15 => ?_) (fun h15 => ?_)
        · replace h15 := of_decide_eq_false (zb_eqT h15)
          refine rw_go hX [(22, .iconst 0), (23, .iadd)] (by decide +kernel) (Ps := []) (pc' := 24) (lv' := [(0, .ref 66), (1, .int (nI (cB (fun w => decide (0 < s w)) w))), (2, .int (nI w))]) (st' := [.int (nI (cB (fun w => decide (0 < s w)) w) + nI 0)]) (σ' := σ) rfl True.intro ?_
          rw [show (nI (cB (fun w => decide (0 < s w)) w) + nI 0) = nI (cB (fun w => decide (0 < s w)) w + 0) from nI_add _ _]
          refine rw_go hX [(24, .istore_n 1), (25, .iinc 2 1)] (by decide +kernel) (Ps := []) (pc' := 28) (lv' := [(0, .ref 66), (1, .int (nI (cB (fun w => decide (0 < s w)) w + 0))), (2, .int (nI w + nI 1))]) (st' := []) (σ' := σ) rfl True.intro ?_
          rw [show (nI w + nI 1) = nI (w + 1) from nI_add _ _]
          refine rw_go hX [(28, .goto (-24))] (by decide +kernel) (Ps := []) (pc' := 4) (lv' := [(0, .ref 66), (1, .int (nI (cB (fun w => decide (0 < s w)) w + 0))), (2, .int (nI (w + 1)))]) (st' := []) (σ' := σ) rfl True.intro ?_
          refine rw_lsub (ks := [0, 1, 2]) (lv' := [(0, .ref 66), (1, .int (nI (cB (fun w => decide (0 < s w)) w + 0))), (2, .int (nI (w + 1)))]) rfl ?_
          have q := ih4 (5 - (w + 1)) (by omega) (w + 1) rfl (by omega)
          rw [cB_n (k := w) (decide_eq_false h15)] at q
          rw [Nat.add_zero]
          exact q
        · replace h15 := of_decide_eq_true (zb_eqF h15)
          refine rw_go hX [(18, .iconst 1), (19, .goto 4), (23, .iadd)] (by decide +kernel) (Ps := []) (pc' := 24) (lv' := [(0, .ref 66), (1, .int (nI (cB (fun w => decide (0 < s w)) w))), (2, .int (nI w))]) (st' := [.int (nI (cB (fun w => decide (0 < s w)) w) + nI 1)]) (σ' := σ) rfl True.intro ?_
          rw [show (nI (cB (fun w => decide (0 < s w)) w) + nI 1) = nI (cB (fun w => decide (0 < s w)) w + 1) from nI_add _ _]
          refine rw_go hX [(24, .istore_n 1), (25, .iinc 2 1)] (by decide +kernel) (Ps := []) (pc' := 28) (lv' := [(0, .ref 66), (1, .int (nI (cB (fun w => decide (0 < s w)) w + 1))), (2, .int (nI w + nI 1))]) (st' := []) (σ' := σ) rfl True.intro ?_
          rw [show (nI w + nI 1) = nI (w + 1) from nI_add _ _]
          refine rw_go hX [(28, .goto (-24))] (by decide +kernel) (Ps := []) (pc' := 4) (lv' := [(0, .ref 66), (1, .int (nI (cB (fun w => decide (0 < s w)) w + 1))), (2, .int (nI (w + 1)))]) (st' := []) (σ' := σ) rfl True.intro ?_
          refine rw_lsub (ks := [0, 1, 2]) (lv' := [(0, .ref 66), (1, .int (nI (cB (fun w => decide (0 < s w)) w + 1))), (2, .int (nI (w + 1)))]) rfl ?_
          have q := ih4 (5 - (w + 1)) (by omega) (w + 1) rfl (by omega)
          rw [cB_y (k := w) (decide_eq_true h15)] at q
          exact q
  refine rw_lsub (ks := [0, 1, 2]) (lv' := [(0, .ref 66), (1, .int (nI 0)), (2, .int (nI 0))]) rfl ?_
  exact L4 5 0 rfl (by omega)
set_option maxRecDepth 20000 in
set_option maxHeartbeats 800000 in
theorem m_pass_67_1 (l : Launch) (G : Gl) (σ : Mm) (hk : σ 66 10 = nI 1) (hs : σ 66 9 = nI 0) : AMv l G 0 mX10_passesRow [.ref 66, .ref 67] σ (fun σ' => σ' = sw (sr σ 73 (va_cpy (σ 67) (σ 73) 0 0 250)) 66 9 (nI (250))) := by
  refine rw_inV 10 (by decide +kernel) rfl rfl ?_
  intro E hE hX
  subst hE
  refine rw_go hX [(0, .iconst 0), (1, .istore_n 2)] (by decide +kernel) (Ps := []) (pc' := 2) (lv' := [(0, .ref 66), (1, .ref 67), (2, .int (nI 0))]) (st' := []) (σ' := σ) rfl True.intro ?_
  have L2 : ∀ (μ2 : Nat) (i : Nat), μ2 = 250 - i → (i ≤ 250) → RW E G 0 3 (QV E G (fun σ' => σ' = sw (sr σ 73 (va_cpy (σ 67) (σ 73) 0 0 250)) 66 9 (nI (250)))) 2 [(0, .ref 66), (1, .ref 67), (2, .int (nI i))] [] (sw (sr σ 73 (va_cpy (σ 67) (σ 73) 0 0 i)) 66 9 (nI (i))) := by
    intro μ2
    induction μ2 using Nat.strongRecOn with
    | ind μ2 ih2 =>
      intro i hμ2 hi
      refine rw_go hX [(2, .iload_n 2), (3, .aload_n 1), (4, .arraylength)] (by decide +kernel) (Ps := []) (pc' := 5) (lv' := [(0, .ref 66), (1, .ref 67), (2, .int (nI i))]) (st' := [.int (nI 250), .int (nI i)]) (σ' := sw (sr σ 73 (va_cpy (σ 67) (σ 73) 0 0 i)) 66 9 (nI (i))) rfl True.intro ?_
      refine rw_icmp hX (tgt := 58) (cnd := .ge) (off := 53) (by decide +kernel) (by decide) (fun h5 => ?_) (fun h5 => ?_)
      · replace h5 := c2_geT h5
        have ei : i = 250 := by omega
        exact rw_vret hX (by decide +kernel) (by rw [ei])
      · replace h5 := c2_geF h5
        refine rw_go hX [(8, .aload_n 0), (9, .getfield 109)] (by decide +kernel) (Ps := []) (pc' := 12) (lv' := [(0, .ref 66), (1, .ref 67), (2, .int (nI i))]) (st' := [.int ((sw (sr σ 73 (va_cpy (σ 67) (σ 73) 0 0 i)) 66 9 (nI (i))) 66 10)]) (σ' := sw (sr σ 73 (va_cpy (σ 67) (σ 73) 0 0 i)) 66 9 (nI (i))) rfl True.intro ?_
        rw [show ((sw (sr σ 73 (va_cpy (σ 67) (σ 73) 0 0 i)) 66 9 (nI (i))) 66 10) = nI 1 from (by rw [sw_o (by decide), sr_n _ _ (by decide), hk])]
        refine rw_if hX (tgt := 30) (cnd := .eq) (off := 18) (by decide +kernel) (by decide) (fun h12 => ?_) (fun h12 => ?_)
        · exact absurd h12 (by simp only [cz, cc2]; decide +kernel)
        · skip
          refine rw_go hX [(15, .aload_n 0), (16, .getfield 28), (19, .aload_n 0), (20, .getfield 113)] (by decide +kernel) (Ps := []) (pc' := 23) (lv' := [(0, .ref 66), (1, .ref 67), (2, .int (nI i))]) (st' := [.int ((sw (sr σ 73 (va_cpy (σ 67) (σ 73) 0 0 i)) 66 9 (nI (i))) 66 9), .ref 73]) (σ' := sw (sr σ 73 (va_cpy (σ 67) (σ 73) 0 0 i)) 66 9 (nI (i))) rfl True.intro ?_
          rw [show ((sw (sr σ 73 (va_cpy (σ 67) (σ 73) 0 0 i)) 66 9 (nI (i))) 66 9) = nI (i) from (by rw [sw_eq])]
          refine rw_go hX [(23, .aload_n 1), (24, .iload_n 2), (25, .iaload)] (by decide +kernel) (Ps := [vp_in (nI i) 250]) (pc' := 26) (lv' := [(0, .ref 66), (1, .ref 67), (2, .int (nI i))]) (st' := [.int ((sw (sr σ 73 (va_cpy (σ 67) (σ 73) 0 0 i)) 66 9 (nI (i))) 67 (nI i).toNatClampNeg), .int (nI (i)), .ref 73]) (σ' := sw (sr σ 73 (va_cpy (σ 67) (σ 73) 0 0 i)) 66 9 (nI (i))) rfl (vp_in_nI (by omega) (by omega)) ?_
          rw [show ((sw (sr σ 73 (va_cpy (σ 67) (σ 73) 0 0 i)) 66 9 (nI (i))) 67 (nI i).toNatClampNeg) = σ 67 i from (by rw [nI_clamp (by omega), sw_ne _ _ _ (by decide), sr_n _ _ (by decide)])]
          refine rw_go hX [(26, .iastore)] (by decide +kernel) (Ps := [vp_in (nI (i)) 320]) (pc' := 27) (lv' := [(0, .ref 66), (1, .ref 67), (2, .int (nI i))]) (st' := []) (σ' := sw (sw (sr σ 73 (va_cpy (σ 67) (σ 73) 0 0 i)) 66 9 (nI (i))) 73 (nI (i)).toNatClampNeg (σ 67 i)) rfl (vp_in_nI (by omega) (by omega)) ?_
          rw [show (sw (sw (sr σ 73 (va_cpy (σ 67) (σ 73) 0 0 i)) 66 9 (nI (i))) 73 (nI (i)).toNatClampNeg (σ 67 i)) = sw (sw (sr σ 73 (va_cpy (σ 67) (σ 73) 0 0 i)) 66 9 (nI (i))) 73 (i) (σ 67 i) from (by rw [nI_clamp (by omega)])]
          refine rw_go hX [(27, .goto 15), (42, .aload_n 0), (43, .dup), (44, .getfield 113)] (by decide +kernel) (Ps := []) (pc' := 47) (lv' := [(0, .ref 66), (1, .ref 67), (2, .int (nI i))]) (st' := [.int ((sw (sw (sr σ 73 (va_cpy (σ 67) (σ 73) 0 0 i)) 66 9 (nI (i))) 73 (i) (σ 67 i)) 66 9), .ref 66]) (σ' := sw (sw (sr σ 73 (va_cpy (σ 67) (σ 73) 0 0 i)) 66 9 (nI (i))) 73 (i) (σ 67 i)) rfl True.intro ?_
          rw [show ((sw (sw (sr σ 73 (va_cpy (σ 67) (σ 73) 0 0 i)) 66 9 (nI (i))) 73 (i) (σ 67 i)) 66 9) = nI (i) from (by rw [sw_ne _ _ _ (by decide), sw_eq])]
          refine rw_go hX [(47, .iconst 1), (48, .iadd)] (by decide +kernel) (Ps := []) (pc' := 49) (lv' := [(0, .ref 66), (1, .ref 67), (2, .int (nI i))]) (st' := [.int (nI (i) + nI 1), .ref 66]) (σ' := sw (sw (sr σ 73 (va_cpy (σ 67) (σ 73) 0 0 i)) 66 9 (nI (i))) 73 (i) (σ 67 i)) rfl True.intro ?_
          rw [show (nI (i) + nI 1) = nI (i + 1) from nI_add _ _]
          refine rw_go hX [(49, .putfield 113), (52, .iinc 2 1)] (by decide +kernel) (Ps := []) (pc' := 55) (lv' := [(0, .ref 66), (1, .ref 67), (2, .int (nI i + nI 1))]) (st' := []) (σ' := sw (sw (sw (sr σ 73 (va_cpy (σ 67) (σ 73) 0 0 i)) 66 9 (nI (i))) 73 (i) (σ 67 i)) 66 9 (nI (i + 1))) rfl True.intro ?_
          rw [show (nI i + nI 1) = nI (i + 1) from nI_add _ _]
          refine rw_go hX [(55, .goto (-53))] (by decide +kernel) (Ps := []) (pc' := 2) (lv' := [(0, .ref 66), (1, .ref 67), (2, .int (nI (i + 1)))]) (st' := []) (σ' := sw (sw (sw (sr σ 73 (va_cpy (σ 67) (σ 73) 0 0 i)) 66 9 (nI (i))) 73 (i) (σ 67 i)) 66 9 (nI (i + 1))) rfl True.intro ?_
          refine rw_lsub (ks := [0, 1, 2]) (lv' := [(0, .ref 66), (1, .ref 67), (2, .int (nI (i + 1)))]) rfl ?_
          have q := ih2 (250 - (i + 1)) (by omega) (i + 1) rfl (by omega)
          rw [← cpy_1 _ _ _ _ i, Nat.zero_add i] at q
          rw [pass_k _ _ _ _ _ (by decide)]
          exact q
  refine rw_lsub (ks := [0, 1, 2]) (lv' := [(0, .ref 66), (1, .ref 67), (2, .int (nI 0))]) rfl ?_
  have q := L2 250 0 rfl (by omega)
  rw [cpy_0, pass_0 σ 73 hs] at q
  exact q
set_option maxRecDepth 20000 in
set_option maxHeartbeats 800000 in
theorem m_pass_67_0 (l : Launch) (G : Gl) (σ : Mm) (hk : σ 66 10 = nI 0) (hs : σ 66 9 = nI 0) : AMv l G 0 mX10_passesRow [.ref 66, .ref 67] σ (fun σ' => σ' = sw (sr σ 67 (va_cpy (σ 73) (σ 67) 0 0 250)) 66 9 (nI (250))) := by
  refine rw_inV 10 (by decide +kernel) rfl rfl ?_
  intro E hE hX
  subst hE
  refine rw_go hX [(0, .iconst 0), (1, .istore_n 2)] (by decide +kernel) (Ps := []) (pc' := 2) (lv' := [(0, .ref 66), (1, .ref 67), (2, .int (nI 0))]) (st' := []) (σ' := σ) rfl True.intro ?_
  have L2 : ∀ (μ2 : Nat) (i : Nat), μ2 = 250 - i → (i ≤ 250) → RW E G 0 3 (QV E G (fun σ' => σ' = sw (sr σ 67 (va_cpy (σ 73) (σ 67) 0 0 250)) 66 9 (nI (250)))) 2 [(0, .ref 66), (1, .ref 67), (2, .int (nI i))] [] (sw (sr σ 67 (va_cpy (σ 73) (σ 67) 0 0 i)) 66 9 (nI (i))) := by
    intro μ2
    induction μ2 using Nat.strongRecOn with
    | ind μ2 ih2 =>
      intro i hμ2 hi
      refine rw_go hX [(2, .iload_n 2), (3, .aload_n 1), (4, .arraylength)] (by decide +kernel) (Ps := []) (pc' := 5) (lv' := [(0, .ref 66), (1, .ref 67), (2, .int (nI i))]) (st' := [.int (nI 250), .int (nI i)]) (σ' := sw (sr σ 67 (va_cpy (σ 73) (σ 67) 0 0 i)) 66 9 (nI (i))) rfl True.intro ?_
      refine rw_icmp hX (tgt := 58) (cnd := .ge) (off := 53) (by decide +kernel) (by decide) (fun h5 => ?_) (fun h5 => ?_)
      · replace h5 := c2_geT h5
        have ei : i = 250 := by omega
        exact rw_vret hX (by decide +kernel) (by rw [ei])
      · replace h5 := c2_geF h5
        refine rw_go hX [(8, .aload_n 0), (9, .getfield 109)] (by decide +kernel) (Ps := []) (pc' := 12) (lv' := [(0, .ref 66), (1, .ref 67), (2, .int (nI i))]) (st' := [.int ((sw (sr σ 67 (va_cpy (σ 73) (σ 67) 0 0 i)) 66 9 (nI (i))) 66 10)]) (σ' := sw (sr σ 67 (va_cpy (σ 73) (σ 67) 0 0 i)) 66 9 (nI (i))) rfl True.intro ?_
        rw [show ((sw (sr σ 67 (va_cpy (σ 73) (σ 67) 0 0 i)) 66 9 (nI (i))) 66 10) = nI 0 from (by rw [sw_o (by decide), sr_n _ _ (by decide), hk])]
        refine rw_if hX (tgt := 30) (cnd := .eq) (off := 18) (by decide +kernel) (by decide) (fun h12 => ?_) (fun h12 => ?_)
        · skip
          refine rw_go hX [(30, .aload_n 1), (31, .iload_n 2), (32, .aload_n 0), (33, .getfield 28), (36, .aload_n 0), (37, .getfield 113)] (by decide +kernel) (Ps := []) (pc' := 40) (lv' := [(0, .ref 66), (1, .ref 67), (2, .int (nI i))]) (st' := [.int ((sw (sr σ 67 (va_cpy (σ 73) (σ 67) 0 0 i)) 66 9 (nI (i))) 66 9), .ref 73, .int (nI i), .ref 67]) (σ' := sw (sr σ 67 (va_cpy (σ 73) (σ 67) 0 0 i)) 66 9 (nI (i))) rfl True.intro ?_
          rw [show ((sw (sr σ 67 (va_cpy (σ 73) (σ 67) 0 0 i)) 66 9 (nI (i))) 66 9) = nI (i) from (by rw [sw_eq])]
          refine rw_go hX [(40, .iaload)] (by decide +kernel) (Ps := [vp_in (nI (i)) 320]) (pc' := 41) (lv' := [(0, .ref 66), (1, .ref 67), (2, .int (nI i))]) (st' := [.int ((sw (sr σ 67 (va_cpy (σ 73) (σ 67) 0 0 i)) 66 9 (nI (i))) 73 (nI (i)).toNatClampNeg), .int (nI i), .ref 67]) (σ' := sw (sr σ 67 (va_cpy (σ 73) (σ 67) 0 0 i)) 66 9 (nI (i))) rfl (vp_in_nI (by omega) (by omega)) ?_
          rw [show ((sw (sr σ 67 (va_cpy (σ 73) (σ 67) 0 0 i)) 66 9 (nI (i))) 73 (nI (i)).toNatClampNeg) = σ 73 (i) from (by rw [nI_clamp (by omega), sw_ne _ _ _ (by decide), sr_n _ _ (by decide)])]
          refine rw_go hX [(41, .iastore)] (by decide +kernel) (Ps := [vp_in (nI i) 250]) (pc' := 42) (lv' := [(0, .ref 66), (1, .ref 67), (2, .int (nI i))]) (st' := []) (σ' := sw (sw (sr σ 67 (va_cpy (σ 73) (σ 67) 0 0 i)) 66 9 (nI (i))) 67 (nI i).toNatClampNeg (σ 73 (i))) rfl (vp_in_nI (by omega) (by omega)) ?_
          rw [show (sw (sw (sr σ 67 (va_cpy (σ 73) (σ 67) 0 0 i)) 66 9 (nI (i))) 67 (nI i).toNatClampNeg (σ 73 (i))) = sw (sw (sr σ 67 (va_cpy (σ 73) (σ 67) 0 0 i)) 66 9 (nI (i))) 67 i (σ 73 (i)) from (by rw [nI_clamp (by omega)])]
          refine rw_go hX [(42, .aload_n 0), (43, .dup), (44, .getfield 113)] (by decide +kernel) (Ps := []) (pc' := 47) (lv' := [(0, .ref 66), (1, .ref 67), (2, .int (nI i))]) (st' := [.int ((sw (sw (sr σ 67 (va_cpy (σ 73) (σ 67) 0 0 i)) 66 9 (nI (i))) 67 i (σ 73 (i))) 66 9), .ref 66]) (σ' := sw (sw (sr σ 67 (va_cpy (σ 73) (σ 67) 0 0 i)) 66 9 (nI (i))) 67 i (σ 73 (i))) rfl True.intro ?_
          rw [show ((sw (sw (sr σ 67 (va_cpy (σ 73) (σ 67) 0 0 i)) 66 9 (nI (i))) 67 i (σ 73 (i))) 66 9) = nI (i) from (by rw [sw_ne _ _ _ (by decide), sw_eq])]
          refine rw_go hX [(47, .iconst 1), (48, .iadd)] (by decide +kernel) (Ps := []) (pc' := 49) (lv' := [(0, .ref 66), (1, .ref 67), (2, .int (nI i))]) (st' := [.int (nI (i) + nI 1), .ref 66]) (σ' := sw (sw (sr σ 67 (va_cpy (σ 73) (σ 67) 0 0 i)) 66 9 (nI (i))) 67 i (σ 73 (i))) rfl True.intro ?_
          rw [show (nI (i) + nI 1) = nI (i + 1) from nI_add _ _]
          refine rw_go hX [(49, .putfield 113), (52, .iinc 2 1)] (by decide +kernel) (Ps := []) (pc' := 55) (lv' := [(0, .ref 66), (1, .ref 67), (2, .int (nI i + nI 1))]) (st' := []) (σ' := sw (sw (sw (sr σ 67 (va_cpy (σ 73) (σ 67) 0 0 i)) 66 9 (nI (i))) 67 i (σ 73 (i))) 66 9 (nI (i + 1))) rfl True.intro ?_
          rw [show (nI i + nI 1) = nI (i + 1) from nI_add _ _]
          refine rw_go hX [(55, .goto (-53))] (by decide +kernel) (Ps := []) (pc' := 2) (lv' := [(0, .ref 66), (1, .ref 67), (2, .int (nI (i + 1)))]) (st' := []) (σ' := sw (sw (sw (sr σ 67 (va_cpy (σ 73) (σ 67) 0 0 i)) 66 9 (nI (i))) 67 i (σ 73 (i))) 66 9 (nI (i + 1))) rfl True.intro ?_
          refine rw_lsub (ks := [0, 1, 2]) (lv' := [(0, .ref 66), (1, .ref 67), (2, .int (nI (i + 1)))]) rfl ?_
          have q := ih2 (250 - (i + 1)) (by omega) (i + 1) rfl (by omega)
          rw [← cpy_1 _ _ _ _ i, Nat.zero_add i] at q
          rw [pass_k _ _ _ _ _ (by decide)]
          exact q
        · exact absurd (by simp only [cz, cc2]; decide +kernel) h12
  refine rw_lsub (ks := [0, 1, 2]) (lv' := [(0, .ref 66), (1, .ref 67), (2, .int (nI 0))]) rfl ?_
  have q := L2 250 0 rfl (by omega)
  rw [cpy_0, pass_0 σ 67 hs] at q
  exact q
set_option maxRecDepth 20000 in
set_option maxHeartbeats 800000 in
theorem m_pass_68_1 (l : Launch) (G : Gl) (σ : Mm) (hk : σ 66 10 = nI 1) (hs : σ 66 9 = nI 250) : AMv l G 0 mX10_passesRow [.ref 66, .ref 68] σ (fun σ' => σ' = sw (sr σ 73 (va_cpy (σ 68) (σ 73) 0 250 5)) 66 9 (nI (250 + 5))) := by
  refine rw_inV 10 (by decide +kernel) rfl rfl ?_
  intro E hE hX
  subst hE
  refine rw_go hX [(0, .iconst 0), (1, .istore_n 2)] (by decide +kernel) (Ps := []) (pc' := 2) (lv' := [(0, .ref 66), (1, .ref 68), (2, .int (nI 0))]) (st' := []) (σ' := σ) rfl True.intro ?_
  have L2 : ∀ (μ2 : Nat) (i : Nat), μ2 = 5 - i → (i ≤ 5) → RW E G 0 3 (QV E G (fun σ' => σ' = sw (sr σ 73 (va_cpy (σ 68) (σ 73) 0 250 5)) 66 9 (nI (250 + 5)))) 2 [(0, .ref 66), (1, .ref 68), (2, .int (nI i))] [] (sw (sr σ 73 (va_cpy (σ 68) (σ 73) 0 250 i)) 66 9 (nI (250 + i))) := by
    intro μ2
    induction μ2 using Nat.strongRecOn with
    | ind μ2 ih2 =>
      intro i hμ2 hi
      refine rw_go hX [(2, .iload_n 2), (3, .aload_n 1), (4, .arraylength)] (by decide +kernel) (Ps := []) (pc' := 5) (lv' := [(0, .ref 66), (1, .ref 68), (2, .int (nI i))]) (st' := [.int (nI 5), .int (nI i)]) (σ' := sw (sr σ 73 (va_cpy (σ 68) (σ 73) 0 250 i)) 66 9 (nI (250 + i))) rfl True.intro ?_
      refine rw_icmp hX (tgt := 58) (cnd := .ge) (off := 53) (by decide +kernel) (by decide) (fun h5 => ?_) (fun h5 => ?_)
      · replace h5 := c2_geT h5
        have ei : i = 5 := by omega
        exact rw_vret hX (by decide +kernel) (by rw [ei])
      · replace h5 := c2_geF h5
        refine rw_go hX [(8, .aload_n 0), (9, .getfield 109)] (by decide +kernel) (Ps := []) (pc' := 12) (lv' := [(0, .ref 66), (1, .ref 68), (2, .int (nI i))]) (st' := [.int ((sw (sr σ 73 (va_cpy (σ 68) (σ 73) 0 250 i)) 66 9 (nI (250 + i))) 66 10)]) (σ' := sw (sr σ 73 (va_cpy (σ 68) (σ 73) 0 250 i)) 66 9 (nI (250 + i))) rfl True.intro ?_
        rw [show ((sw (sr σ 73 (va_cpy (σ 68) (σ 73) 0 250 i)) 66 9 (nI (250 + i))) 66 10) = nI 1 from (by rw [sw_o (by decide), sr_n _ _ (by decide), hk])]
        refine rw_if hX (tgt := 30) (cnd := .eq) (off := 18) (by decide +kernel) (by decide) (fun h12 => ?_) (fun h12 => ?_)
        · exact absurd h12 (by simp only [cz, cc2]; decide +kernel)
        · skip
          refine rw_go hX [(15, .aload_n 0), (16, .getfield 28), (19, .aload_n 0), (20, .getfield 113)] (by decide +kernel) (Ps := []) (pc' := 23) (lv' := [(0, .ref 66), (1, .ref 68), (2, .int (nI i))]) (st' := [.int ((sw (sr σ 73 (va_cpy (σ 68) (σ 73) 0 250 i)) 66 9 (nI (250 + i))) 66 9), .ref 73]) (σ' := sw (sr σ 73 (va_cpy (σ 68) (σ 73) 0 250 i)) 66 9 (nI (250 + i))) rfl True.intro ?_
          rw [show ((sw (sr σ 73 (va_cpy (σ 68) (σ 73) 0 250 i)) 66 9 (nI (250 + i))) 66 9) = nI (250 + i) from (by rw [sw_eq])]
          refine rw_go hX [(23, .aload_n 1), (24, .iload_n 2), (25, .iaload)] (by decide +kernel) (Ps := [vp_in (nI i) 5]) (pc' := 26) (lv' := [(0, .ref 66), (1, .ref 68), (2, .int (nI i))]) (st' := [.int ((sw (sr σ 73 (va_cpy (σ 68) (σ 73) 0 250 i)) 66 9 (nI (250 + i))) 68 (nI i).toNatClampNeg), .int (nI (250 + i)), .ref 73]) (σ' := sw (sr σ 73 (va_cpy (σ 68) (σ 73) 0 250 i)) 66 9 (nI (250 + i))) rfl (vp_in_nI (by omega) (by omega)) ?_
          rw [show ((sw (sr σ 73 (va_cpy (σ 68) (σ 73) 0 250 i)) 66 9 (nI (250 + i))) 68 (nI i).toNatClampNeg) = σ 68 i from (by rw [nI_clamp (by omega), sw_ne _ _ _ (by decide), sr_n _ _ (by decide)])]
          refine rw_go hX [(26, .iastore)] (by decide +kernel) (Ps := [vp_in (nI (250 + i)) 320]) (pc' := 27) (lv' := [(0, .ref 66), (1, .ref 68), (2, .int (nI i))]) (st' := []) (σ' := sw (sw (sr σ 73 (va_cpy (σ 68) (σ 73) 0 250 i)) 66 9 (nI (250 + i))) 73 (nI (250 + i)).toNatClampNeg (σ 68 i)) rfl (vp_in_nI (by omega) (by omega)) ?_
          rw [show (sw (sw (sr σ 73 (va_cpy (σ 68) (σ 73) 0 250 i)) 66 9 (nI (250 + i))) 73 (nI (250 + i)).toNatClampNeg (σ 68 i)) = sw (sw (sr σ 73 (va_cpy (σ 68) (σ 73) 0 250 i)) 66 9 (nI (250 + i))) 73 (250 + i) (σ 68 i) from (by rw [nI_clamp (by omega)])]
          refine rw_go hX [(27, .goto 15), (42, .aload_n 0), (43, .dup), (44, .getfield 113)] (by decide +kernel) (Ps := []) (pc' := 47) (lv' := [(0, .ref 66), (1, .ref 68), (2, .int (nI i))]) (st' := [.int ((sw (sw (sr σ 73 (va_cpy (σ 68) (σ 73) 0 250 i)) 66 9 (nI (250 + i))) 73 (250 + i) (σ 68 i)) 66 9), .ref 66]) (σ' := sw (sw (sr σ 73 (va_cpy (σ 68) (σ 73) 0 250 i)) 66 9 (nI (250 + i))) 73 (250 + i) (σ 68 i)) rfl True.intro ?_
          rw [show ((sw (sw (sr σ 73 (va_cpy (σ 68) (σ 73) 0 250 i)) 66 9 (nI (250 + i))) 73 (250 + i) (σ 68 i)) 66 9) = nI (250 + i) from (by rw [sw_ne _ _ _ (by decide), sw_eq])]
          refine rw_go hX [(47, .iconst 1), (48, .iadd)] (by decide +kernel) (Ps := []) (pc' := 49) (lv' := [(0, .ref 66), (1, .ref 68), (2, .int (nI i))]) (st' := [.int (nI (250 + i) + nI 1), .ref 66]) (σ' := sw (sw (sr σ 73 (va_cpy (σ 68) (σ 73) 0 250 i)) 66 9 (nI (250 + i))) 73 (250 + i) (σ 68 i)) rfl True.intro ?_
          rw [show (nI (250 + i) + nI 1) = nI (250 + i + 1) from nI_add _ _]
          refine rw_go hX [(49, .putfield 113), (52, .iinc 2 1)] (by decide +kernel) (Ps := []) (pc' := 55) (lv' := [(0, .ref 66), (1, .ref 68), (2, .int (nI i + nI 1))]) (st' := []) (σ' := sw (sw (sw (sr σ 73 (va_cpy (σ 68) (σ 73) 0 250 i)) 66 9 (nI (250 + i))) 73 (250 + i) (σ 68 i)) 66 9 (nI (250 + i + 1))) rfl True.intro ?_
          rw [show (nI i + nI 1) = nI (i + 1) from nI_add _ _]
          refine rw_go hX [(55, .goto (-53))] (by decide +kernel) (Ps := []) (pc' := 2) (lv' := [(0, .ref 66), (1, .ref 68), (2, .int (nI (i + 1)))]) (st' := []) (σ' := sw (sw (sw (sr σ 73 (va_cpy (σ 68) (σ 73) 0 250 i)) 66 9 (nI (250 + i))) 73 (250 + i) (σ 68 i)) 66 9 (nI (250 + i + 1))) rfl True.intro ?_
          refine rw_lsub (ks := [0, 1, 2]) (lv' := [(0, .ref 66), (1, .ref 68), (2, .int (nI (i + 1)))]) rfl ?_
          have q := ih2 (5 - (i + 1)) (by omega) (i + 1) rfl (by omega)
          rw [← cpy_1 _ _ _ _ i, Nat.zero_add i] at q
          rw [pass_k _ _ _ _ _ (by decide), Nat.add_assoc 250 i 1]
          exact q
  refine rw_lsub (ks := [0, 1, 2]) (lv' := [(0, .ref 66), (1, .ref 68), (2, .int (nI 0))]) rfl ?_
  have q := L2 5 0 rfl (by omega)
  rw [cpy_0, Nat.add_zero, pass_0 σ 73 hs] at q
  exact q
set_option maxRecDepth 20000 in
set_option maxHeartbeats 800000 in
theorem m_pass_68_0 (l : Launch) (G : Gl) (σ : Mm) (hk : σ 66 10 = nI 0) (hs : σ 66 9 = nI 250) : AMv l G 0 mX10_passesRow [.ref 66, .ref 68] σ (fun σ' => σ' = sw (sr σ 68 (va_cpy (σ 73) (σ 68) 250 0 5)) 66 9 (nI (250 + 5))) := by
  refine rw_inV 10 (by decide +kernel) rfl rfl ?_
  intro E hE hX
  subst hE
  refine rw_go hX [(0, .iconst 0), (1, .istore_n 2)] (by decide +kernel) (Ps := []) (pc' := 2) (lv' := [(0, .ref 66), (1, .ref 68), (2, .int (nI 0))]) (st' := []) (σ' := σ) rfl True.intro ?_
  have L2 : ∀ (μ2 : Nat) (i : Nat), μ2 = 5 - i → (i ≤ 5) → RW E G 0 3 (QV E G (fun σ' => σ' = sw (sr σ 68 (va_cpy (σ 73) (σ 68) 250 0 5)) 66 9 (nI (250 + 5)))) 2 [(0, .ref 66), (1, .ref 68), (2, .int (nI i))] [] (sw (sr σ 68 (va_cpy (σ 73) (σ 68) 250 0 i)) 66 9 (nI (250 + i))) := by
    intro μ2
    induction μ2 using Nat.strongRecOn with
    | ind μ2 ih2 =>
      intro i hμ2 hi
      refine rw_go hX [(2, .iload_n 2), (3, .aload_n 1), (4, .arraylength)] (by decide +kernel) (Ps := []) (pc' := 5) (lv' := [(0, .ref 66), (1, .ref 68), (2, .int (nI i))]) (st' := [.int (nI 5), .int (nI i)]) (σ' := sw (sr σ 68 (va_cpy (σ 73) (σ 68) 250 0 i)) 66 9 (nI (250 + i))) rfl True.intro ?_
      refine rw_icmp hX (tgt := 58) (cnd := .ge) (off := 53) (by decide +kernel) (by decide) (fun h5 => ?_) (fun h5 => ?_)
      · replace h5 := c2_geT h5
        have ei : i = 5 := by omega
        exact rw_vret hX (by decide +kernel) (by rw [ei])
      · replace h5 := c2_geF h5
        refine rw_go hX [(8, .aload_n 0), (9, .getfield 109)] (by decide +kernel) (Ps := []) (pc' := 12) (lv' := [(0, .ref 66), (1, .ref 68), (2, .int (nI i))]) (st' := [.int ((sw (sr σ 68 (va_cpy (σ 73) (σ 68) 250 0 i)) 66 9 (nI (250 + i))) 66 10)]) (σ' := sw (sr σ 68 (va_cpy (σ 73) (σ 68) 250 0 i)) 66 9 (nI (250 + i))) rfl True.intro ?_
        rw [show ((sw (sr σ 68 (va_cpy (σ 73) (σ 68) 250 0 i)) 66 9 (nI (250 + i))) 66 10) = nI 0 from (by rw [sw_o (by decide), sr_n _ _ (by decide), hk])]
        refine rw_if hX (tgt := 30) (cnd := .eq) (off := 18) (by decide +kernel) (by decide) (fun h12 => ?_) (fun h12 => ?_)
        · skip
          refine rw_go hX [(30, .aload_n 1), (31, .iload_n 2), (32, .aload_n 0), (33, .getfield 28), (36, .aload_n 0), (37, .getfield 113)] (by decide +kernel) (Ps := []) (pc' := 40) (lv' := [(0, .ref 66), (1, .ref 68), (2, .int (nI i))]) (st' := [.int ((sw (sr σ 68 (va_cpy (σ 73) (σ 68) 250 0 i)) 66 9 (nI (250 + i))) 66 9), .ref 73, .int (nI i), .ref 68]) (σ' := sw (sr σ 68 (va_cpy (σ 73) (σ 68) 250 0 i)) 66 9 (nI (250 + i))) rfl True.intro ?_
          rw [show ((sw (sr σ 68 (va_cpy (σ 73) (σ 68) 250 0 i)) 66 9 (nI (250 + i))) 66 9) = nI (250 + i) from (by rw [sw_eq])]
          refine rw_go hX [(40, .iaload)] (by decide +kernel) (Ps := [vp_in (nI (250 + i)) 320]) (pc' := 41) (lv' := [(0, .ref 66), (1, .ref 68), (2, .int (nI i))]) (st' := [.int ((sw (sr σ 68 (va_cpy (σ 73) (σ 68) 250 0 i)) 66 9 (nI (250 + i))) 73 (nI (250 + i)).toNatClampNeg), .int (nI i), .ref 68]) (σ' := sw (sr σ 68 (va_cpy (σ 73) (σ 68) 250 0 i)) 66 9 (nI (250 + i))) rfl (vp_in_nI (by omega) (by omega)) ?_
          rw [show ((sw (sr σ 68 (va_cpy (σ 73) (σ 68) 250 0 i)) 66 9 (nI (250 + i))) 73 (nI (250 + i)).toNatClampNeg) = σ 73 (250 + i) from (by rw [nI_clamp (by omega), sw_ne _ _ _ (by decide), sr_n _ _ (by decide)])]
          refine rw_go hX [(41, .iastore)] (by decide +kernel) (Ps := [vp_in (nI i) 5]) (pc' := 42) (lv' := [(0, .ref 66), (1, .ref 68), (2, .int (nI i))]) (st' := []) (σ' := sw (sw (sr σ 68 (va_cpy (σ 73) (σ 68) 250 0 i)) 66 9 (nI (250 + i))) 68 (nI i).toNatClampNeg (σ 73 (250 + i))) rfl (vp_in_nI (by omega) (by omega)) ?_
          rw [show (sw (sw (sr σ 68 (va_cpy (σ 73) (σ 68) 250 0 i)) 66 9 (nI (250 + i))) 68 (nI i).toNatClampNeg (σ 73 (250 + i))) = sw (sw (sr σ 68 (va_cpy (σ 73) (σ 68) 250 0 i)) 66 9 (nI (250 + i))) 68 i (σ 73 (250 + i)) from (by rw [nI_clamp (by omega)])]
          refine rw_go hX [(42, .aload_n 0), (43, .dup), (44, .getfield 113)] (by decide +kernel) (Ps := []) (pc' := 47) (lv' := [(0, .ref 66), (1, .ref 68), (2, .int (nI i))]) (st' := [.int ((sw (sw (sr σ 68 (va_cpy (σ 73) (σ 68) 250 0 i)) 66 9 (nI (250 + i))) 68 i (σ 73 (250 + i))) 66 9), .ref 66]) (σ' := sw (sw (sr σ 68 (va_cpy (σ 73) (σ 68) 250 0 i)) 66 9 (nI (250 + i))) 68 i (σ 73 (250 + i))) rfl True.intro ?_
          rw [show ((sw (sw (sr σ 68 (va_cpy (σ 73) (σ 68) 250 0 i)) 66 9 (nI (250 + i))) 68 i (σ 73 (250 + i))) 66 9) = nI (250 + i) from (by rw [sw_ne _ _ _ (by decide), sw_eq])]
          refine rw_go hX [(47, .iconst 1), (48, .iadd)] (by decide +kernel) (Ps := []) (pc' := 49) (lv' := [(0, .ref 66), (1, .ref 68), (2, .int (nI i))]) (st' := [.int (nI (250 + i) + nI 1), .ref 66]) (σ' := sw (sw (sr σ 68 (va_cpy (σ 73) (σ 68) 250 0 i)) 66 9 (nI (250 + i))) 68 i (σ 73 (250 + i))) rfl True.intro ?_
          rw [show (nI (250 + i) + nI 1) = nI (250 + i + 1) from nI_add _ _]
          refine rw_go hX [(49, .putfield 113), (52, .iinc 2 1)] (by decide +kernel) (Ps := []) (pc' := 55) (lv' := [(0, .ref 66), (1, .ref 68), (2, .int (nI i + nI 1))]) (st' := []) (σ' := sw (sw (sw (sr σ 68 (va_cpy (σ 73) (σ 68) 250 0 i)) 66 9 (nI (250 + i))) 68 i (σ 73 (250 + i))) 66 9 (nI (250 + i + 1))) rfl True.intro ?_
          rw [show (nI i + nI 1) = nI (i + 1) from nI_add _ _]
          refine rw_go hX [(55, .goto (-53))] (by decide +kernel) (Ps := []) (pc' := 2) (lv' := [(0, .ref 66), (1, .ref 68), (2, .int (nI (i + 1)))]) (st' := []) (σ' := sw (sw (sw (sr σ 68 (va_cpy (σ 73) (σ 68) 250 0 i)) 66 9 (nI (250 + i))) 68 i (σ 73 (250 + i))) 66 9 (nI (250 + i + 1))) rfl True.intro ?_
          refine rw_lsub (ks := [0, 1, 2]) (lv' := [(0, .ref 66), (1, .ref 68), (2, .int (nI (i + 1)))]) rfl ?_
          have q := ih2 (5 - (i + 1)) (by omega) (i + 1) rfl (by omega)
          rw [← cpy_1 _ _ _ _ i, Nat.zero_add i] at q
          rw [pass_k _ _ _ _ _ (by decide), Nat.add_assoc 250 i 1]
          exact q
        · exact absurd (by simp only [cz, cc2]; decide +kernel) h12
  refine rw_lsub (ks := [0, 1, 2]) (lv' := [(0, .ref 66), (1, .ref 68), (2, .int (nI 0))]) rfl ?_
  have q := L2 5 0 rfl (by omega)
  rw [cpy_0, Nat.add_zero, pass_0 σ 68 hs] at q
  exact q
set_option maxRecDepth 20000 in
set_option maxHeartbeats 800000 in
theorem m_pass_69_1 (l : Launch) (G : Gl) (σ : Mm) (hk : σ 66 10 = nI 1) (hs : σ 66 9 = nI 255) : AMv l G 0 mX10_passesRow [.ref 66, .ref 69] σ (fun σ' => σ' = sw (sr σ 73 (va_cpy (σ 69) (σ 73) 0 255 5)) 66 9 (nI (255 + 5))) := by
  refine rw_inV 10 (by decide +kernel) rfl rfl ?_
  intro E hE hX
  subst hE
  refine rw_go hX [(0, .iconst 0), (1, .istore_n 2)] (by decide +kernel) (Ps := []) (pc' := 2) (lv' := [(0, .ref 66), (1, .ref 69), (2, .int (nI 0))]) (st' := []) (σ' := σ) rfl True.intro ?_
  have L2 : ∀ (μ2 : Nat) (i : Nat), μ2 = 5 - i → (i ≤ 5) → RW E G 0 3 (QV E G (fun σ' => σ' = sw (sr σ 73 (va_cpy (σ 69) (σ 73) 0 255 5)) 66 9 (nI (255 + 5)))) 2 [(0, .ref 66), (1, .ref 69), (2, .int (nI i))] [] (sw (sr σ 73 (va_cpy (σ 69) (σ 73) 0 255 i)) 66 9 (nI (255 + i))) := by
    intro μ2
    induction μ2 using Nat.strongRecOn with
    | ind μ2 ih2 =>
      intro i hμ2 hi
      refine rw_go hX [(2, .iload_n 2), (3, .aload_n 1), (4, .arraylength)] (by decide +kernel) (Ps := []) (pc' := 5) (lv' := [(0, .ref 66), (1, .ref 69), (2, .int (nI i))]) (st' := [.int (nI 5), .int (nI i)]) (σ' := sw (sr σ 73 (va_cpy (σ 69) (σ 73) 0 255 i)) 66 9 (nI (255 + i))) rfl True.intro ?_
      refine rw_icmp hX (tgt := 58) (cnd := .ge) (off := 53) (by decide +kernel) (by decide) (fun h5 => ?_) (fun h5 => ?_)
      · replace h5 := c2_geT h5
        have ei : i = 5 := by omega
        exact rw_vret hX (by decide +kernel) (by rw [ei])
      · replace h5 := c2_geF h5
        refine rw_go hX [(8, .aload_n 0), (9, .getfield 109)] (by decide +kernel) (Ps := []) (pc' := 12) (lv' := [(0, .ref 66), (1, .ref 69), (2, .int (nI i))]) (st' := [.int ((sw (sr σ 73 (va_cpy (σ 69) (σ 73) 0 255 i)) 66 9 (nI (255 + i))) 66 10)]) (σ' := sw (sr σ 73 (va_cpy (σ 69) (σ 73) 0 255 i)) 66 9 (nI (255 + i))) rfl True.intro ?_
        rw [show ((sw (sr σ 73 (va_cpy (σ 69) (σ 73) 0 255 i)) 66 9 (nI (255 + i))) 66 10) = nI 1 from (by rw [sw_o (by decide), sr_n _ _ (by decide), hk])]
        refine rw_if hX (tgt := 30) (cnd := .eq) (off := 18) (by decide +kernel) (by decide) (fun h12 => ?_) (fun h12 => ?_)
        · exact absurd h12 (by simp only [cz, cc2]; decide +kernel)
        · skip
          refine rw_go hX [(15, .aload_n 0), (16, .getfield 28), (19, .aload_n 0), (20, .getfield 113)] (by decide +kernel) (Ps := []) (pc' := 23) (lv' := [(0, .ref 66), (1, .ref 69), (2, .int (nI i))]) (st' := [.int ((sw (sr σ 73 (va_cpy (σ 69) (σ 73) 0 255 i)) 66 9 (nI (255 + i))) 66 9), .ref 73]) (σ' := sw (sr σ 73 (va_cpy (σ 69) (σ 73) 0 255 i)) 66 9 (nI (255 + i))) rfl True.intro ?_
          rw [show ((sw (sr σ 73 (va_cpy (σ 69) (σ 73) 0 255 i)) 66 9 (nI (255 + i))) 66 9) = nI (255 + i) from (by rw [sw_eq])]
          refine rw_go hX [(23, .aload_n 1), (24, .iload_n 2), (25, .iaload)] (by decide +kernel) (Ps := [vp_in (nI i) 5]) (pc' := 26) (lv' := [(0, .ref 66), (1, .ref 69), (2, .int (nI i))]) (st' := [.int ((sw (sr σ 73 (va_cpy (σ 69) (σ 73) 0 255 i)) 66 9 (nI (255 + i))) 69 (nI i).toNatClampNeg), .int (nI (255 + i)), .ref 73]) (σ' := sw (sr σ 73 (va_cpy (σ 69) (σ 73) 0 255 i)) 66 9 (nI (255 + i))) rfl (vp_in_nI (by omega) (by omega)) ?_
          rw [show ((sw (sr σ 73 (va_cpy (σ 69) (σ 73) 0 255 i)) 66 9 (nI (255 + i))) 69 (nI i).toNatClampNeg) = σ 69 i from (by rw [nI_clamp (by omega), sw_ne _ _ _ (by decide), sr_n _ _ (by decide)])]
          refine rw_go hX [(26, .iastore)] (by decide +kernel) (Ps := [vp_in (nI (255 + i)) 320]) (pc' := 27) (lv' := [(0, .ref 66), (1, .ref 69), (2, .int (nI i))]) (st' := []) (σ' := sw (sw (sr σ 73 (va_cpy (σ 69) (σ 73) 0 255 i)) 66 9 (nI (255 + i))) 73 (nI (255 + i)).toNatClampNeg (σ 69 i)) rfl (vp_in_nI (by omega) (by omega)) ?_
          rw [show (sw (sw (sr σ 73 (va_cpy (σ 69) (σ 73) 0 255 i)) 66 9 (nI (255 + i))) 73 (nI (255 + i)).toNatClampNeg (σ 69 i)) = sw (sw (sr σ 73 (va_cpy (σ 69) (σ 73) 0 255 i)) 66 9 (nI (255 + i))) 73 (255 + i) (σ 69 i) from (by rw [nI_clamp (by omega)])]
          refine rw_go hX [(27, .goto 15), (42, .aload_n 0), (43, .dup), (44, .getfield 113)] (by decide +kernel) (Ps := []) (pc' := 47) (lv' := [(0, .ref 66), (1, .ref 69), (2, .int (nI i))]) (st' := [.int ((sw (sw (sr σ 73 (va_cpy (σ 69) (σ 73) 0 255 i)) 66 9 (nI (255 + i))) 73 (255 + i) (σ 69 i)) 66 9), .ref 66]) (σ' := sw (sw (sr σ 73 (va_cpy (σ 69) (σ 73) 0 255 i)) 66 9 (nI (255 + i))) 73 (255 + i) (σ 69 i)) rfl True.intro ?_
          rw [show ((sw (sw (sr σ 73 (va_cpy (σ 69) (σ 73) 0 255 i)) 66 9 (nI (255 + i))) 73 (255 + i) (σ 69 i)) 66 9) = nI (255 + i) from (by rw [sw_ne _ _ _ (by decide), sw_eq])]
          refine rw_go hX [(47, .iconst 1), (48, .iadd)] (by decide +kernel) (Ps := []) (pc' := 49) (lv' := [(0, .ref 66), (1, .ref 69), (2, .int (nI i))]) (st' := [.int (nI (255 + i) + nI 1), .ref 66]) (σ' := sw (sw (sr σ 73 (va_cpy (σ 69) (σ 73) 0 255 i)) 66 9 (nI (255 + i))) 73 (255 + i) (σ 69 i)) rfl True.intro ?_
          rw [show (nI (255 + i) + nI 1) = nI (255 + i + 1) from nI_add _ _]
          refine rw_go hX [(49, .putfield 113), (52, .iinc 2 1)] (by decide +kernel) (Ps := []) (pc' := 55) (lv' := [(0, .ref 66), (1, .ref 69), (2, .int (nI i + nI 1))]) (st' := []) (σ' := sw (sw (sw (sr σ 73 (va_cpy (σ 69) (σ 73) 0 255 i)) 66 9 (nI (255 + i))) 73 (255 + i) (σ 69 i)) 66 9 (nI (255 + i + 1))) rfl True.intro ?_
          rw [show (nI i + nI 1) = nI (i + 1) from nI_add _ _]
          refine rw_go hX [(55, .goto (-53))] (by decide +kernel) (Ps := []) (pc' := 2) (lv' := [(0, .ref 66), (1, .ref 69), (2, .int (nI (i + 1)))]) (st' := []) (σ' := sw (sw (sw (sr σ 73 (va_cpy (σ 69) (σ 73) 0 255 i)) 66 9 (nI (255 + i))) 73 (255 + i) (σ 69 i)) 66 9 (nI (255 + i + 1))) rfl True.intro ?_
          refine rw_lsub (ks := [0, 1, 2]) (lv' := [(0, .ref 66), (1, .ref 69), (2, .int (nI (i + 1)))]) rfl ?_
          have q := ih2 (5 - (i + 1)) (by omega) (i + 1) rfl (by omega)
          rw [← cpy_1 _ _ _ _ i, Nat.zero_add i] at q
          rw [pass_k _ _ _ _ _ (by decide), Nat.add_assoc 255 i 1]
          exact q
  refine rw_lsub (ks := [0, 1, 2]) (lv' := [(0, .ref 66), (1, .ref 69), (2, .int (nI 0))]) rfl ?_
  have q := L2 5 0 rfl (by omega)
  rw [cpy_0, Nat.add_zero, pass_0 σ 73 hs] at q
  exact q
set_option maxRecDepth 20000 in
set_option maxHeartbeats 800000 in
theorem m_pass_69_0 (l : Launch) (G : Gl) (σ : Mm) (hk : σ 66 10 = nI 0) (hs : σ 66 9 = nI 255) : AMv l G 0 mX10_passesRow [.ref 66, .ref 69] σ (fun σ' => σ' = sw (sr σ 69 (va_cpy (σ 73) (σ 69) 255 0 5)) 66 9 (nI (255 + 5))) := by
  refine rw_inV 10 (by decide +kernel) rfl rfl ?_
  intro E hE hX
  subst hE
  refine rw_go hX [(0, .iconst 0), (1, .istore_n 2)] (by decide +kernel) (Ps := []) (pc' := 2) (lv' := [(0, .ref 66), (1, .ref 69), (2, .int (nI 0))]) (st' := []) (σ' := σ) rfl True.intro ?_
  have L2 : ∀ (μ2 : Nat) (i : Nat), μ2 = 5 - i → (i ≤ 5) → RW E G 0 3 (QV E G (fun σ' => σ' = sw (sr σ 69 (va_cpy (σ 73) (σ 69) 255 0 5)) 66 9 (nI (255 + 5)))) 2 [(0, .ref 66), (1, .ref 69), (2, .int (nI i))] [] (sw (sr σ 69 (va_cpy (σ 73) (σ 69) 255 0 i)) 66 9 (nI (255 + i))) := by
    intro μ2
    induction μ2 using Nat.strongRecOn with
    | ind μ2 ih2 =>
      intro i hμ2 hi
      refine rw_go hX [(2, .iload_n 2), (3, .aload_n 1), (4, .arraylength)] (by decide +kernel) (Ps := []) (pc' := 5) (lv' := [(0, .ref 66), (1, .ref 69), (2, .int (nI i))]) (st' := [.int (nI 5), .int (nI i)]) (σ' := sw (sr σ 69 (va_cpy (σ 73) (σ 69) 255 0 i)) 66 9 (nI (255 + i))) rfl True.intro ?_
      refine rw_icmp hX (tgt := 58) (cnd := .ge) (off := 53) (by decide +kernel) (by decide) (fun h5 => ?_) (fun h5 => ?_)
      · replace h5 := c2_geT h5
        have ei : i = 5 := by omega
        exact rw_vret hX (by decide +kernel) (by rw [ei])
      · replace h5 := c2_geF h5
        refine rw_go hX [(8, .aload_n 0), (9, .getfield 109)] (by decide +kernel) (Ps := []) (pc' := 12) (lv' := [(0, .ref 66), (1, .ref 69), (2, .int (nI i))]) (st' := [.int ((sw (sr σ 69 (va_cpy (σ 73) (σ 69) 255 0 i)) 66 9 (nI (255 + i))) 66 10)]) (σ' := sw (sr σ 69 (va_cpy (σ 73) (σ 69) 255 0 i)) 66 9 (nI (255 + i))) rfl True.intro ?_
        rw [show ((sw (sr σ 69 (va_cpy (σ 73) (σ 69) 255 0 i)) 66 9 (nI (255 + i))) 66 10) = nI 0 from (by rw [sw_o (by decide), sr_n _ _ (by decide), hk])]
        refine rw_if hX (tgt := 30) (cnd := .eq) (off := 18) (by decide +kernel) (by decide) (fun h12 => ?_) (fun h12 => ?_)
        · skip
          refine rw_go hX [(30, .aload_n 1), (31, .iload_n 2), (32, .aload_n 0), (33, .getfield 28), (36, .aload_n 0), (37, .getfield 113)] (by decide +kernel) (Ps := []) (pc' := 40) (lv' := [(0, .ref 66), (1, .ref 69), (2, .int (nI i))]) (st' := [.int ((sw (sr σ 69 (va_cpy (σ 73) (σ 69) 255 0 i)) 66 9 (nI (255 + i))) 66 9), .ref 73, .int (nI i), .ref 69]) (σ' := sw (sr σ 69 (va_cpy (σ 73) (σ 69) 255 0 i)) 66 9 (nI (255 + i))) rfl True.intro ?_
          rw [show ((sw (sr σ 69 (va_cpy (σ 73) (σ 69) 255 0 i)) 66 9 (nI (255 + i))) 66 9) = nI (255 + i) from (by rw [sw_eq])]
          refine rw_go hX [(40, .iaload)] (by decide +kernel) (Ps := [vp_in (nI (255 + i)) 320]) (pc' := 41) (lv' := [(0, .ref 66), (1, .ref 69), (2, .int (nI i))]) (st' := [.int ((sw (sr σ 69 (va_cpy (σ 73) (σ 69) 255 0 i)) 66 9 (nI (255 + i))) 73 (nI (255 + i)).toNatClampNeg), .int (nI i), .ref 69]) (σ' := sw (sr σ 69 (va_cpy (σ 73) (σ 69) 255 0 i)) 66 9 (nI (255 + i))) rfl (vp_in_nI (by omega) (by omega)) ?_
          rw [show ((sw (sr σ 69 (va_cpy (σ 73) (σ 69) 255 0 i)) 66 9 (nI (255 + i))) 73 (nI (255 + i)).toNatClampNeg) = σ 73 (255 + i) from (by rw [nI_clamp (by omega), sw_ne _ _ _ (by decide), sr_n _ _ (by decide)])]
          refine rw_go hX [(41, .iastore)] (by decide +kernel) (Ps := [vp_in (nI i) 5]) (pc' := 42) (lv' := [(0, .ref 66), (1, .ref 69), (2, .int (nI i))]) (st' := []) (σ' := sw (sw (sr σ 69 (va_cpy (σ 73) (σ 69) 255 0 i)) 66 9 (nI (255 + i))) 69 (nI i).toNatClampNeg (σ 73 (255 + i))) rfl (vp_in_nI (by omega) (by omega)) ?_
          rw [show (sw (sw (sr σ 69 (va_cpy (σ 73) (σ 69) 255 0 i)) 66 9 (nI (255 + i))) 69 (nI i).toNatClampNeg (σ 73 (255 + i))) = sw (sw (sr σ 69 (va_cpy (σ 73) (σ 69) 255 0 i)) 66 9 (nI (255 + i))) 69 i (σ 73 (255 + i)) from (by rw [nI_clamp (by omega)])]
          refine rw_go hX [(42, .aload_n 0), (43, .dup), (44, .getfield 113)] (by decide +kernel) (Ps := []) (pc' := 47) (lv' := [(0, .ref 66), (1, .ref 69), (2, .int (nI i))]) (st' := [.int ((sw (sw (sr σ 69 (va_cpy (σ 73) (σ 69) 255 0 i)) 66 9 (nI (255 + i))) 69 i (σ 73 (255 + i))) 66 9), .ref 66]) (σ' := sw (sw (sr σ 69 (va_cpy (σ 73) (σ 69) 255 0 i)) 66 9 (nI (255 + i))) 69 i (σ 73 (255 + i))) rfl True.intro ?_
          rw [show ((sw (sw (sr σ 69 (va_cpy (σ 73) (σ 69) 255 0 i)) 66 9 (nI (255 + i))) 69 i (σ 73 (255 + i))) 66 9) = nI (255 + i) from (by rw [sw_ne _ _ _ (by decide), sw_eq])]
          refine rw_go hX [(47, .iconst 1), (48, .iadd)] (by decide +kernel) (Ps := []) (pc' := 49) (lv' := [(0, .ref 66), (1, .ref 69), (2, .int (nI i))]) (st' := [.int (nI (255 + i) + nI 1), .ref 66]) (σ' := sw (sw (sr σ 69 (va_cpy (σ 73) (σ 69) 255 0 i)) 66 9 (nI (255 + i))) 69 i (σ 73 (255 + i))) rfl True.intro ?_
          rw [show (nI (255 + i) + nI 1) = nI (255 + i + 1) from nI_add _ _]
          refine rw_go hX [(49, .putfield 113), (52, .iinc 2 1)] (by decide +kernel) (Ps := []) (pc' := 55) (lv' := [(0, .ref 66), (1, .ref 69), (2, .int (nI i + nI 1))]) (st' := []) (σ' := sw (sw (sw (sr σ 69 (va_cpy (σ 73) (σ 69) 255 0 i)) 66 9 (nI (255 + i))) 69 i (σ 73 (255 + i))) 66 9 (nI (255 + i + 1))) rfl True.intro ?_
          rw [show (nI i + nI 1) = nI (i + 1) from nI_add _ _]
          refine rw_go hX [(55, .goto (-53))] (by decide +kernel) (Ps := []) (pc' := 2) (lv' := [(0, .ref 66), (1, .ref 69), (2, .int (nI (i + 1)))]) (st' := []) (σ' := sw (sw (sw (sr σ 69 (va_cpy (σ 73) (σ 69) 255 0 i)) 66 9 (nI (255 + i))) 69 i (σ 73 (255 + i))) 66 9 (nI (255 + i + 1))) rfl True.intro ?_
          refine rw_lsub (ks := [0, 1, 2]) (lv' := [(0, .ref 66), (1, .ref 69), (2, .int (nI (i + 1)))]) rfl ?_
          have q := ih2 (5 - (i + 1)) (by omega) (i + 1) rfl (by omega)
          rw [← cpy_1 _ _ _ _ i, Nat.zero_add i] at q
          rw [pass_k _ _ _ _ _ (by decide), Nat.add_assoc 255 i 1]
          exact q
        · exact absurd (by simp only [cz, cc2]; decide +kernel) h12
  refine rw_lsub (ks := [0, 1, 2]) (lv' := [(0, .ref 66), (1, .ref 69), (2, .int (nI 0))]) rfl ?_
  have q := L2 5 0 rfl (by omega)
  rw [cpy_0, Nat.add_zero, pass_0 σ 69 hs] at q
  exact q
set_option maxRecDepth 20000 in
set_option maxHeartbeats 800000 in
theorem m_pass_70_1 (l : Launch) (G : Gl) (σ : Mm) (hk : σ 66 10 = nI 1) (hs : σ 66 9 = nI 260) : AMv l G 0 mX10_passesRow [.ref 66, .ref 70] σ (fun σ' => σ' = sw (sr σ 73 (va_cpy (σ 70) (σ 73) 0 260 5)) 66 9 (nI (260 + 5))) := by
  refine rw_inV 10 (by decide +kernel) rfl rfl ?_
  intro E hE hX
  subst hE
  refine rw_go hX [(0, .iconst 0), (1, .istore_n 2)] (by decide +kernel) (Ps := []) (pc' := 2) (lv' := [(0, .ref 66), (1, .ref 70), (2, .int (nI 0))]) (st' := []) (σ' := σ) rfl True.intro ?_
  have L2 : ∀ (μ2 : Nat) (i : Nat), μ2 = 5 - i → (i ≤ 5) → RW E G 0 3 (QV E G (fun σ' => σ' = sw (sr σ 73 (va_cpy (σ 70) (σ 73) 0 260 5)) 66 9 (nI (260 + 5)))) 2 [(0, .ref 66), (1, .ref 70), (2, .int (nI i))] [] (sw (sr σ 73 (va_cpy (σ 70) (σ 73) 0 260 i)) 66 9 (nI (260 + i))) := by
    intro μ2
    induction μ2 using Nat.strongRecOn with
    | ind μ2 ih2 =>
      intro i hμ2 hi
      refine rw_go hX [(2, .iload_n 2), (3, .aload_n 1), (4, .arraylength)] (by decide +kernel) (Ps := []) (pc' := 5) (lv' := [(0, .ref 66), (1, .ref 70), (2, .int (nI i))]) (st' := [.int (nI 5), .int (nI i)]) (σ' := sw (sr σ 73 (va_cpy (σ 70) (σ 73) 0 260 i)) 66 9 (nI (260 + i))) rfl True.intro ?_
      refine rw_icmp hX (tgt := 58) (cnd := .ge) (off := 53) (by decide +kernel) (by decide) (fun h5 => ?_) (fun h5 => ?_)
      · replace h5 := c2_geT h5
        have ei : i = 5 := by omega
        exact rw_vret hX (by decide +kernel) (by rw [ei])
      · replace h5 := c2_geF h5
        refine rw_go hX [(8, .aload_n 0), (9, .getfield 109)] (by decide +kernel) (Ps := []) (pc' := 12) (lv' := [(0, .ref 66), (1, .ref 70), (2, .int (nI i))]) (st' := [.int ((sw (sr σ 73 (va_cpy (σ 70) (σ 73) 0 260 i)) 66 9 (nI (260 + i))) 66 10)]) (σ' := sw (sr σ 73 (va_cpy (σ 70) (σ 73) 0 260 i)) 66 9 (nI (260 + i))) rfl True.intro ?_
        rw [show ((sw (sr σ 73 (va_cpy (σ 70) (σ 73) 0 260 i)) 66 9 (nI (260 + i))) 66 10) = nI 1 from (by rw [sw_o (by decide), sr_n _ _ (by decide), hk])]
        refine rw_if hX (tgt := 30) (cnd := .eq) (off := 18) (by decide +kernel) (by decide) (fun h12 => ?_) (fun h12 => ?_)
        · exact absurd h12 (by simp only [cz, cc2]; decide +kernel)
        · skip
          refine rw_go hX [(15, .aload_n 0), (16, .getfield 28), (19, .aload_n 0), (20, .getfield 113)] (by decide +kernel) (Ps := []) (pc' := 23) (lv' := [(0, .ref 66), (1, .ref 70), (2, .int (nI i))]) (st' := [.int ((sw (sr σ 73 (va_cpy (σ 70) (σ 73) 0 260 i)) 66 9 (nI (260 + i))) 66 9), .ref 73]) (σ' := sw (sr σ 73 (va_cpy (σ 70) (σ 73) 0 260 i)) 66 9 (nI (260 + i))) rfl True.intro ?_
          rw [show ((sw (sr σ 73 (va_cpy (σ 70) (σ 73) 0 260 i)) 66 9 (nI (260 + i))) 66 9) = nI (260 + i) from (by rw [sw_eq])]
          refine rw_go hX [(23, .aload_n 1), (24, .iload_n 2), (25, .iaload)] (by decide +kernel) (Ps := [vp_in (nI i) 5]) (pc' := 26) (lv' := [(0, .ref 66), (1, .ref 70), (2, .int (nI i))]) (st' := [.int ((sw (sr σ 73 (va_cpy (σ 70) (σ 73) 0 260 i)) 66 9 (nI (260 + i))) 70 (nI i).toNatClampNeg), .int (nI (260 + i)), .ref 73]) (σ' := sw (sr σ 73 (va_cpy (σ 70) (σ 73) 0 260 i)) 66 9 (nI (260 + i))) rfl (vp_in_nI (by omega) (by omega)) ?_
          rw [show ((sw (sr σ 73 (va_cpy (σ 70) (σ 73) 0 260 i)) 66 9 (nI (260 + i))) 70 (nI i).toNatClampNeg) = σ 70 i from (by rw [nI_clamp (by omega), sw_ne _ _ _ (by decide), sr_n _ _ (by decide)])]
          refine rw_go hX [(26, .iastore)] (by decide +kernel) (Ps := [vp_in (nI (260 + i)) 320]) (pc' := 27) (lv' := [(0, .ref 66), (1, .ref 70), (2, .int (nI i))]) (st' := []) (σ' := sw (sw (sr σ 73 (va_cpy (σ 70) (σ 73) 0 260 i)) 66 9 (nI (260 + i))) 73 (nI (260 + i)).toNatClampNeg (σ 70 i)) rfl (vp_in_nI (by omega) (by omega)) ?_
          rw [show (sw (sw (sr σ 73 (va_cpy (σ 70) (σ 73) 0 260 i)) 66 9 (nI (260 + i))) 73 (nI (260 + i)).toNatClampNeg (σ 70 i)) = sw (sw (sr σ 73 (va_cpy (σ 70) (σ 73) 0 260 i)) 66 9 (nI (260 + i))) 73 (260 + i) (σ 70 i) from (by rw [nI_clamp (by omega)])]
          refine rw_go hX [(27, .goto 15), (42, .aload_n 0), (43, .dup), (44, .getfield 113)] (by decide +kernel) (Ps := []) (pc' := 47) (lv' := [(0, .ref 66), (1, .ref 70), (2, .int (nI i))]) (st' := [.int ((sw (sw (sr σ 73 (va_cpy (σ 70) (σ 73) 0 260 i)) 66 9 (nI (260 + i))) 73 (260 + i) (σ 70 i)) 66 9), .ref 66]) (σ' := sw (sw (sr σ 73 (va_cpy (σ 70) (σ 73) 0 260 i)) 66 9 (nI (260 + i))) 73 (260 + i) (σ 70 i)) rfl True.intro ?_
          rw [show ((sw (sw (sr σ 73 (va_cpy (σ 70) (σ 73) 0 260 i)) 66 9 (nI (260 + i))) 73 (260 + i) (σ 70 i)) 66 9) = nI (260 + i) from (by rw [sw_ne _ _ _ (by decide), sw_eq])]
          refine rw_go hX [(47, .iconst 1), (48, .iadd)] (by decide +kernel) (Ps := []) (pc' := 49) (lv' := [(0, .ref 66), (1, .ref 70), (2, .int (nI i))]) (st' := [.int (nI (260 + i) + nI 1), .ref 66]) (σ' := sw (sw (sr σ 73 (va_cpy (σ 70) (σ 73) 0 260 i)) 66 9 (nI (260 + i))) 73 (260 + i) (σ 70 i)) rfl True.intro ?_
          rw [show (nI (260 + i) + nI 1) = nI (260 + i + 1) from nI_add _ _]
          refine rw_go hX [(49, .putfield 113), (52, .iinc 2 1)] (by decide +kernel) (Ps := []) (pc' := 55) (lv' := [(0, .ref 66), (1, .ref 70), (2, .int (nI i + nI 1))]) (st' := []) (σ' := sw (sw (sw (sr σ 73 (va_cpy (σ 70) (σ 73) 0 260 i)) 66 9 (nI (260 + i))) 73 (260 + i) (σ 70 i)) 66 9 (nI (260 + i + 1))) rfl True.intro ?_
          rw [show (nI i + nI 1) = nI (i + 1) from nI_add _ _]
          refine rw_go hX [(55, .goto (-53))] (by decide +kernel) (Ps := []) (pc' := 2) (lv' := [(0, .ref 66), (1, .ref 70), (2, .int (nI (i + 1)))]) (st' := []) (σ' := sw (sw (sw (sr σ 73 (va_cpy (σ 70) (σ 73) 0 260 i)) 66 9 (nI (260 + i))) 73 (260 + i) (σ 70 i)) 66 9 (nI (260 + i + 1))) rfl True.intro ?_
          refine rw_lsub (ks := [0, 1, 2]) (lv' := [(0, .ref 66), (1, .ref 70), (2, .int (nI (i + 1)))]) rfl ?_
          have q := ih2 (5 - (i + 1)) (by omega) (i + 1) rfl (by omega)
          rw [← cpy_1 _ _ _ _ i, Nat.zero_add i] at q
          rw [pass_k _ _ _ _ _ (by decide), Nat.add_assoc 260 i 1]
          exact q
  refine rw_lsub (ks := [0, 1, 2]) (lv' := [(0, .ref 66), (1, .ref 70), (2, .int (nI 0))]) rfl ?_
  have q := L2 5 0 rfl (by omega)
  rw [cpy_0, Nat.add_zero, pass_0 σ 73 hs] at q
  exact q
set_option maxRecDepth 20000 in
set_option maxHeartbeats 800000 in
theorem m_pass_70_0 (l : Launch) (G : Gl) (σ : Mm) (hk : σ 66 10 = nI 0) (hs : σ 66 9 = nI 260) : AMv l G 0 mX10_passesRow [.ref 66, .ref 70] σ (fun σ' => σ' = sw (sr σ 70 (va_cpy (σ 73) (σ 70) 260 0 5)) 66 9 (nI (260 + 5))) := by
  refine rw_inV 10 (by decide +kernel) rfl rfl ?_
  intro E hE hX
  subst hE
  refine rw_go hX [(0, .iconst 0), (1, .istore_n 2)] (by decide +kernel) (Ps := []) (pc' := 2) (lv' := [(0, .ref 66), (1, .ref 70), (2, .int (nI 0))]) (st' := []) (σ' := σ) rfl True.intro ?_
  have L2 : ∀ (μ2 : Nat) (i : Nat), μ2 = 5 - i → (i ≤ 5) → RW E G 0 3 (QV E G (fun σ' => σ' = sw (sr σ 70 (va_cpy (σ 73) (σ 70) 260 0 5)) 66 9 (nI (260 + 5)))) 2 [(0, .ref 66), (1, .ref 70), (2, .int (nI i))] [] (sw (sr σ 70 (va_cpy (σ 73) (σ 70) 260 0 i)) 66 9 (nI (260 + i))) := by
    intro μ2
    induction μ2 using Nat.strongRecOn with
    | ind μ2 ih2 =>
      intro i hμ2 hi
      refine rw_go hX [(2, .iload_n 2), (3, .aload_n 1), (4, .arraylength)] (by decide +kernel) (Ps := []) (pc' := 5) (lv' := [(0, .ref 66), (1, .ref 70), (2, .int (nI i))]) (st' := [.int (nI 5), .int (nI i)]) (σ' := sw (sr σ 70 (va_cpy (σ 73) (σ 70) 260 0 i)) 66 9 (nI (260 + i))) rfl True.intro ?_
      refine rw_icmp hX (tgt := 58) (cnd := .ge) (off := 53) (by decide +kernel) (by decide) (fun h5 => ?_) (fun h5 => ?_)
      · replace h5 := c2_geT h5
        have ei : i = 5 := by omega
        exact rw_vret hX (by decide +kernel) (by rw [ei])
      · replace h5 := c2_geF h5
        refine rw_go hX [(8, .aload_n 0), (9, .getfield 109)] (by decide +kernel) (Ps := []) (pc' := 12) (lv' := [(0, .ref 66), (1, .ref 70), (2, .int (nI i))]) (st' := [.int ((sw (sr σ 70 (va_cpy (σ 73) (σ 70) 260 0 i)) 66 9 (nI (260 + i))) 66 10)]) (σ' := sw (sr σ 70 (va_cpy (σ 73) (σ 70) 260 0 i)) 66 9 (nI (260 + i))) rfl True.intro ?_
        rw [show ((sw (sr σ 70 (va_cpy (σ 73) (σ 70) 260 0 i)) 66 9 (nI (260 + i))) 66 10) = nI 0 from (by rw [sw_o (by decide), sr_n _ _ (by decide), hk])]
        refine rw_if hX (tgt := 30) (cnd := .eq) (off := 18) (by decide +kernel) (by decide) (fun h12 => ?_) (fun h12 => ?_)
        · skip
          refine rw_go hX [(30, .aload_n 1), (31, .iload_n 2), (32, .aload_n 0), (33, .getfield 28), (36, .aload_n 0), (37, .getfield 113)] (by decide +kernel) (Ps := []) (pc' := 40) (lv' := [(0, .ref 66), (1, .ref 70), (2, .int (nI i))]) (st' := [.int ((sw (sr σ 70 (va_cpy (σ 73) (σ 70) 260 0 i)) 66 9 (nI (260 + i))) 66 9), .ref 73, .int (nI i), .ref 70]) (σ' := sw (sr σ 70 (va_cpy (σ 73) (σ 70) 260 0 i)) 66 9 (nI (260 + i))) rfl True.intro ?_
          rw [show ((sw (sr σ 70 (va_cpy (σ 73) (σ 70) 260 0 i)) 66 9 (nI (260 + i))) 66 9) = nI (260 + i) from (by rw [sw_eq])]
          refine rw_go hX [(40, .iaload)] (by decide +kernel) (Ps := [vp_in (nI (260 + i)) 320]) (pc' := 41) (lv' := [(0, .ref 66), (1, .ref 70), (2, .int (nI i))]) (st' := [.int ((sw (sr σ 70 (va_cpy (σ 73) (σ 70) 260 0 i)) 66 9 (nI (260 + i))) 73 (nI (260 + i)).toNatClampNeg), .int (nI i), .ref 70]) (σ' := sw (sr σ 70 (va_cpy (σ 73) (σ 70) 260 0 i)) 66 9 (nI (260 + i))) rfl (vp_in_nI (by omega) (by omega)) ?_
          rw [show ((sw (sr σ 70 (va_cpy (σ 73) (σ 70) 260 0 i)) 66 9 (nI (260 + i))) 73 (nI (260 + i)).toNatClampNeg) = σ 73 (260 + i) from (by rw [nI_clamp (by omega), sw_ne _ _ _ (by decide), sr_n _ _ (by decide)])]
          refine rw_go hX [(41, .iastore)] (by decide +kernel) (Ps := [vp_in (nI i) 5]) (pc' := 42) (lv' := [(0, .ref 66), (1, .ref 70), (2, .int (nI i))]) (st' := []) (σ' := sw (sw (sr σ 70 (va_cpy (σ 73) (σ 70) 260 0 i)) 66 9 (nI (260 + i))) 70 (nI i).toNatClampNeg (σ 73 (260 + i))) rfl (vp_in_nI (by omega) (by omega)) ?_
          rw [show (sw (sw (sr σ 70 (va_cpy (σ 73) (σ 70) 260 0 i)) 66 9 (nI (260 + i))) 70 (nI i).toNatClampNeg (σ 73 (260 + i))) = sw (sw (sr σ 70 (va_cpy (σ 73) (σ 70) 260 0 i)) 66 9 (nI (260 + i))) 70 i (σ 73 (260 + i)) from (by rw [nI_clamp (by omega)])]
          refine rw_go hX [(42, .aload_n 0), (43, .dup), (44, .getfield 113)] (by decide +kernel) (Ps := []) (pc' := 47) (lv' := [(0, .ref 66), (1, .ref 70), (2, .int (nI i))]) (st' := [.int ((sw (sw (sr σ 70 (va_cpy (σ 73) (σ 70) 260 0 i)) 66 9 (nI (260 + i))) 70 i (σ 73 (260 + i))) 66 9), .ref 66]) (σ' := sw (sw (sr σ 70 (va_cpy (σ 73) (σ 70) 260 0 i)) 66 9 (nI (260 + i))) 70 i (σ 73 (260 + i))) rfl True.intro ?_
          rw [show ((sw (sw (sr σ 70 (va_cpy (σ 73) (σ 70) 260 0 i)) 66 9 (nI (260 + i))) 70 i (σ 73 (260 + i))) 66 9) = nI (260 + i) from (by rw [sw_ne _ _ _ (by decide), sw_eq])]
          refine rw_go hX [(47, .iconst 1), (48, .iadd)] (by decide +kernel) (Ps := []) (pc' := 49) (lv' := [(0, .ref 66), (1, .ref 70), (2, .int (nI i))]) (st' := [.int (nI (260 + i) + nI 1), .ref 66]) (σ' := sw (sw (sr σ 70 (va_cpy (σ 73) (σ 70) 260 0 i)) 66 9 (nI (260 + i))) 70 i (σ 73 (260 + i))) rfl True.intro ?_
          rw [show (nI (260 + i) + nI 1) = nI (260 + i + 1) from nI_add _ _]
          refine rw_go hX [(49, .putfield 113), (52, .iinc 2 1)] (by decide +kernel) (Ps := []) (pc' := 55) (lv' := [(0, .ref 66), (1, .ref 70), (2, .int (nI i + nI 1))]) (st' := []) (σ' := sw (sw (sw (sr σ 70 (va_cpy (σ 73) (σ 70) 260 0 i)) 66 9 (nI (260 + i))) 70 i (σ 73 (260 + i))) 66 9 (nI (260 + i + 1))) rfl True.intro ?_
          rw [show (nI i + nI 1) = nI (i + 1) from nI_add _ _]
          refine rw_go hX [(55, .goto (-53))] (by decide +kernel) (Ps := []) (pc' := 2) (lv' := [(0, .ref 66), (1, .ref 70), (2, .int (nI (i + 1)))]) (st' := []) (σ' := sw (sw (sw (sr σ 70 (va_cpy (σ 73) (σ 70) 260 0 i)) 66 9 (nI (260 + i))) 70 i (σ 73 (260 + i))) 66 9 (nI (260 + i + 1))) rfl True.intro ?_
          refine rw_lsub (ks := [0, 1, 2]) (lv' := [(0, .ref 66), (1, .ref 70), (2, .int (nI (i + 1)))]) rfl ?_
          have q := ih2 (5 - (i + 1)) (by omega) (i + 1) rfl (by omega)
          rw [← cpy_1 _ _ _ _ i, Nat.zero_add i] at q
          rw [pass_k _ _ _ _ _ (by decide), Nat.add_assoc 260 i 1]
          exact q
        · exact absurd (by simp only [cz, cc2]; decide +kernel) h12
  refine rw_lsub (ks := [0, 1, 2]) (lv' := [(0, .ref 66), (1, .ref 70), (2, .int (nI 0))]) rfl ?_
  have q := L2 5 0 rfl (by omega)
  rw [cpy_0, Nat.add_zero, pass_0 σ 70 hs] at q
  exact q
set_option maxRecDepth 20000 in
set_option maxHeartbeats 800000 in
theorem m_pass_71_1 (l : Launch) (G : Gl) (σ : Mm) (hk : σ 66 10 = nI 1) (hs : σ 66 9 = nI 265) : AMv l G 0 mX10_passesRow [.ref 66, .ref 71] σ (fun σ' => σ' = sw (sr σ 73 (va_cpy (σ 71) (σ 73) 0 265 6)) 66 9 (nI (265 + 6))) := by
  refine rw_inV 10 (by decide +kernel) rfl rfl ?_
  intro E hE hX
  subst hE
  refine rw_go hX [(0, .iconst 0), (1, .istore_n 2)] (by decide +kernel) (Ps := []) (pc' := 2) (lv' := [(0, .ref 66), (1, .ref 71), (2, .int (nI 0))]) (st' := []) (σ' := σ) rfl True.intro ?_
  have L2 : ∀ (μ2 : Nat) (i : Nat), μ2 = 6 - i → (i ≤ 6) → RW E G 0 3 (QV E G (fun σ' => σ' = sw (sr σ 73 (va_cpy (σ 71) (σ 73) 0 265 6)) 66 9 (nI (265 + 6)))) 2 [(0, .ref 66), (1, .ref 71), (2, .int (nI i))] [] (sw (sr σ 73 (va_cpy (σ 71) (σ 73) 0 265 i)) 66 9 (nI (265 + i))) := by
    intro μ2
    induction μ2 using Nat.strongRecOn with
    | ind μ2 ih2 =>
      intro i hμ2 hi
      refine rw_go hX [(2, .iload_n 2), (3, .aload_n 1), (4, .arraylength)] (by decide +kernel) (Ps := []) (pc' := 5) (lv' := [(0, .ref 66), (1, .ref 71), (2, .int (nI i))]) (st' := [.int (nI 6), .int (nI i)]) (σ' := sw (sr σ 73 (va_cpy (σ 71) (σ 73) 0 265 i)) 66 9 (nI (265 + i))) rfl True.intro ?_
      refine rw_icmp hX (tgt := 58) (cnd := .ge) (off := 53) (by decide +kernel) (by decide) (fun h5 => ?_) (fun h5 => ?_)
      · replace h5 := c2_geT h5
        have ei : i = 6 := by omega
        exact rw_vret hX (by decide +kernel) (by rw [ei])
      · replace h5 := c2_geF h5
        refine rw_go hX [(8, .aload_n 0), (9, .getfield 109)] (by decide +kernel) (Ps := []) (pc' := 12) (lv' := [(0, .ref 66), (1, .ref 71), (2, .int (nI i))]) (st' := [.int ((sw (sr σ 73 (va_cpy (σ 71) (σ 73) 0 265 i)) 66 9 (nI (265 + i))) 66 10)]) (σ' := sw (sr σ 73 (va_cpy (σ 71) (σ 73) 0 265 i)) 66 9 (nI (265 + i))) rfl True.intro ?_
        rw [show ((sw (sr σ 73 (va_cpy (σ 71) (σ 73) 0 265 i)) 66 9 (nI (265 + i))) 66 10) = nI 1 from (by rw [sw_o (by decide), sr_n _ _ (by decide), hk])]
        refine rw_if hX (tgt := 30) (cnd := .eq) (off := 18) (by decide +kernel) (by decide) (fun h12 => ?_) (fun h12 => ?_)
        · exact absurd h12 (by simp only [cz, cc2]; decide +kernel)
        · skip
          refine rw_go hX [(15, .aload_n 0), (16, .getfield 28), (19, .aload_n 0), (20, .getfield 113)] (by decide +kernel) (Ps := []) (pc' := 23) (lv' := [(0, .ref 66), (1, .ref 71), (2, .int (nI i))]) (st' := [.int ((sw (sr σ 73 (va_cpy (σ 71) (σ 73) 0 265 i)) 66 9 (nI (265 + i))) 66 9), .ref 73]) (σ' := sw (sr σ 73 (va_cpy (σ 71) (σ 73) 0 265 i)) 66 9 (nI (265 + i))) rfl True.intro ?_
          rw [show ((sw (sr σ 73 (va_cpy (σ 71) (σ 73) 0 265 i)) 66 9 (nI (265 + i))) 66 9) = nI (265 + i) from (by rw [sw_eq])]
          refine rw_go hX [(23, .aload_n 1), (24, .iload_n 2), (25, .iaload)] (by decide +kernel) (Ps := [vp_in (nI i) 6]) (pc' := 26) (lv' := [(0, .ref 66), (1, .ref 71), (2, .int (nI i))]) (st' := [.int ((sw (sr σ 73 (va_cpy (σ 71) (σ 73) 0 265 i)) 66 9 (nI (265 + i))) 71 (nI i).toNatClampNeg), .int (nI (265 + i)), .ref 73]) (σ' := sw (sr σ 73 (va_cpy (σ 71) (σ 73) 0 265 i)) 66 9 (nI (265 + i))) rfl (vp_in_nI (by omega) (by omega)) ?_
          rw [show ((sw (sr σ 73 (va_cpy (σ 71) (σ 73) 0 265 i)) 66 9 (nI (265 + i))) 71 (nI i).toNatClampNeg) = σ 71 i from (by rw [nI_clamp (by omega), sw_ne _ _ _ (by decide), sr_n _ _ (by decide)])]
          refine rw_go hX [(26, .iastore)] (by decide +kernel) (Ps := [vp_in (nI (265 + i)) 320]) (pc' := 27) (lv' := [(0, .ref 66), (1, .ref 71), (2, .int (nI i))]) (st' := []) (σ' := sw (sw (sr σ 73 (va_cpy (σ 71) (σ 73) 0 265 i)) 66 9 (nI (265 + i))) 73 (nI (265 + i)).toNatClampNeg (σ 71 i)) rfl (vp_in_nI (by omega) (by omega)) ?_
          rw [show (sw (sw (sr σ 73 (va_cpy (σ 71) (σ 73) 0 265 i)) 66 9 (nI (265 + i))) 73 (nI (265 + i)).toNatClampNeg (σ 71 i)) = sw (sw (sr σ 73 (va_cpy (σ 71) (σ 73) 0 265 i)) 66 9 (nI (265 + i))) 73 (265 + i) (σ 71 i) from (by rw [nI_clamp (by omega)])]
          refine rw_go hX [(27, .goto 15), (42, .aload_n 0), (43, .dup), (44, .getfield 113)] (by decide +kernel) (Ps := []) (pc' := 47) (lv' := [(0, .ref 66), (1, .ref 71), (2, .int (nI i))]) (st' := [.int ((sw (sw (sr σ 73 (va_cpy (σ 71) (σ 73) 0 265 i)) 66 9 (nI (265 + i))) 73 (265 + i) (σ 71 i)) 66 9), .ref 66]) (σ' := sw (sw (sr σ 73 (va_cpy (σ 71) (σ 73) 0 265 i)) 66 9 (nI (265 + i))) 73 (265 + i) (σ 71 i)) rfl True.intro ?_
          rw [show ((sw (sw (sr σ 73 (va_cpy (σ 71) (σ 73) 0 265 i)) 66 9 (nI (265 + i))) 73 (265 + i) (σ 71 i)) 66 9) = nI (265 + i) from (by rw [sw_ne _ _ _ (by decide), sw_eq])]
          refine rw_go hX [(47, .iconst 1), (48, .iadd)] (by decide +kernel) (Ps := []) (pc' := 49) (lv' := [(0, .ref 66), (1, .ref 71), (2, .int (nI i))]) (st' := [.int (nI (265 + i) + nI 1), .ref 66]) (σ' := sw (sw (sr σ 73 (va_cpy (σ 71) (σ 73) 0 265 i)) 66 9 (nI (265 + i))) 73 (265 + i) (σ 71 i)) rfl True.intro ?_
          rw [show (nI (265 + i) + nI 1) = nI (265 + i + 1) from nI_add _ _]
          refine rw_go hX [(49, .putfield 113), (52, .iinc 2 1)] (by decide +kernel) (Ps := []) (pc' := 55) (lv' := [(0, .ref 66), (1, .ref 71), (2, .int (nI i + nI 1))]) (st' := []) (σ' := sw (sw (sw (sr σ 73 (va_cpy (σ 71) (σ 73) 0 265 i)) 66 9 (nI (265 + i))) 73 (265 + i) (σ 71 i)) 66 9 (nI (265 + i + 1))) rfl True.intro ?_
          rw [show (nI i + nI 1) = nI (i + 1) from nI_add _ _]
          refine rw_go hX [(55, .goto (-53))] (by decide +kernel) (Ps := []) (pc' := 2) (lv' := [(0, .ref 66), (1, .ref 71), (2, .int (nI (i + 1)))]) (st' := []) (σ' := sw (sw (sw (sr σ 73 (va_cpy (σ 71) (σ 73) 0 265 i)) 66 9 (nI (265 + i))) 73 (265 + i) (σ 71 i)) 66 9 (nI (265 + i + 1))) rfl True.intro ?_
          refine rw_lsub (ks := [0, 1, 2]) (lv' := [(0, .ref 66), (1, .ref 71), (2, .int (nI (i + 1)))]) rfl ?_
          have q := ih2 (6 - (i + 1)) (by omega) (i + 1) rfl (by omega)
          rw [← cpy_1 _ _ _ _ i, Nat.zero_add i] at q
          rw [pass_k _ _ _ _ _ (by decide), Nat.add_assoc 265 i 1]
          exact q
  refine rw_lsub (ks := [0, 1, 2]) (lv' := [(0, .ref 66), (1, .ref 71), (2, .int (nI 0))]) rfl ?_
  have q := L2 6 0 rfl (by omega)
  rw [cpy_0, Nat.add_zero, pass_0 σ 73 hs] at q
  exact q
set_option maxRecDepth 20000 in
set_option maxHeartbeats 800000 in
theorem m_pass_71_0 (l : Launch) (G : Gl) (σ : Mm) (hk : σ 66 10 = nI 0) (hs : σ 66 9 = nI 265) : AMv l G 0 mX10_passesRow [.ref 66, .ref 71] σ (fun σ' => σ' = sw (sr σ 71 (va_cpy (σ 73) (σ 71) 265 0 6)) 66 9 (nI (265 + 6))) := by
  refine rw_inV 10 (by decide +kernel) rfl rfl ?_
  intro E hE hX
  subst hE
  refine rw_go hX [(0, .iconst 0), (1, .istore_n 2)] (by decide +kernel) (Ps := []) (pc' := 2) (lv' := [(0, .ref 66), (1, .ref 71), (2, .int (nI 0))]) (st' := []) (σ' := σ) rfl True.intro ?_
  have L2 : ∀ (μ2 : Nat) (i : Nat), μ2 = 6 - i → (i ≤ 6) → RW E G 0 3 (QV E G (fun σ' => σ' = sw (sr σ 71 (va_cpy (σ 73) (σ 71) 265 0 6)) 66 9 (nI (265 + 6)))) 2 [(0, .ref 66), (1, .ref 71), (2, .int (nI i))] [] (sw (sr σ 71 (va_cpy (σ 73) (σ 71) 265 0 i)) 66 9 (nI (265 + i))) := by
    intro μ2
    induction μ2 using Nat.strongRecOn with
    | ind μ2 ih2 =>
      intro i hμ2 hi
      refine rw_go hX [(2, .iload_n 2), (3, .aload_n 1), (4, .arraylength)] (by decide +kernel) (Ps := []) (pc' := 5) (lv' := [(0, .ref 66), (1, .ref 71), (2, .int (nI i))]) (st' := [.int (nI 6), .int (nI i)]) (σ' := sw (sr σ 71 (va_cpy (σ 73) (σ 71) 265 0 i)) 66 9 (nI (265 + i))) rfl True.intro ?_
      refine rw_icmp hX (tgt := 58) (cnd := .ge) (off := 53) (by decide +kernel) (by decide) (fun h5 => ?_) (fun h5 => ?_)
      · replace h5 := c2_geT h5
        have ei : i = 6 := by omega
        exact rw_vret hX (by decide +kernel) (by rw [ei])
      · replace h5 := c2_geF h5
        refine rw_go hX [(8, .aload_n 0), (9, .getfield 109)] (by decide +kernel) (Ps := []) (pc' := 12) (lv' := [(0, .ref 66), (1, .ref 71), (2, .int (nI i))]) (st' := [.int ((sw (sr σ 71 (va_cpy (σ 73) (σ 71) 265 0 i)) 66 9 (nI (265 + i))) 66 10)]) (σ' := sw (sr σ 71 (va_cpy (σ 73) (σ 71) 265 0 i)) 66 9 (nI (265 + i))) rfl True.intro ?_
        rw [show ((sw (sr σ 71 (va_cpy (σ 73) (σ 71) 265 0 i)) 66 9 (nI (265 + i))) 66 10) = nI 0 from (by rw [sw_o (by decide), sr_n _ _ (by decide), hk])]
        refine rw_if hX (tgt := 30) (cnd := .eq) (off := 18) (by decide +kernel) (by decide) (fun h12 => ?_) (fun h12 => ?_)
        · skip
          refine rw_go hX [(30, .aload_n 1), (31, .iload_n 2), (32, .aload_n 0), (33, .getfield 28), (36, .aload_n 0), (37, .getfield 113)] (by decide +kernel) (Ps := []) (pc' := 40) (lv' := [(0, .ref 66), (1, .ref 71), (2, .int (nI i))]) (st' := [.int ((sw (sr σ 71 (va_cpy (σ 73) (σ 71) 265 0 i)) 66 9 (nI (265 + i))) 66 9), .ref 73, .int (nI i), .ref 71]) (σ' := sw (sr σ 71 (va_cpy (σ 73) (σ 71) 265 0 i)) 66 9 (nI (265 + i))) rfl True.intro ?_
          rw [show ((sw (sr σ 71 (va_cpy (σ 73) (σ 71) 265 0 i)) 66 9 (nI (265 + i))) 66 9) = nI (265 + i) from (by rw [sw_eq])]
          refine rw_go hX [(40, .iaload)] (by decide +kernel) (Ps := [vp_in (nI (265 + i)) 320]) (pc' := 41) (lv' := [(0, .ref 66), (1, .ref 71), (2, .int (nI i))]) (st' := [.int ((sw (sr σ 71 (va_cpy (σ 73) (σ 71) 265 0 i)) 66 9 (nI (265 + i))) 73 (nI (265 + i)).toNatClampNeg), .int (nI i), .ref 71]) (σ' := sw (sr σ 71 (va_cpy (σ 73) (σ 71) 265 0 i)) 66 9 (nI (265 + i))) rfl (vp_in_nI (by omega) (by omega)) ?_
          rw [show ((sw (sr σ 71 (va_cpy (σ 73) (σ 71) 265 0 i)) 66 9 (nI (265 + i))) 73 (nI (265 + i)).toNatClampNeg) = σ 73 (265 + i) from (by rw [nI_clamp (by omega), sw_ne _ _ _ (by decide), sr_n _ _ (by decide)])]
          refine rw_go hX [(41, .iastore)] (by decide +kernel) (Ps := [vp_in (nI i) 6]) (pc' := 42) (lv' := [(0, .ref 66), (1, .ref 71), (2, .int (nI i))]) (st' := []) (σ' := sw (sw (sr σ 71 (va_cpy (σ 73) (σ 71) 265 0 i)) 66 9 (nI (265 + i))) 71 (nI i).toNatClampNeg (σ 73 (265 + i))) rfl (vp_in_nI (by omega) (by omega)) ?_
          rw [show (sw (sw (sr σ 71 (va_cpy (σ 73) (σ 71) 265 0 i)) 66 9 (nI (265 + i))) 71 (nI i).toNatClampNeg (σ 73 (265 + i))) = sw (sw (sr σ 71 (va_cpy (σ 73) (σ 71) 265 0 i)) 66 9 (nI (265 + i))) 71 i (σ 73 (265 + i)) from (by rw [nI_clamp (by omega)])]
          refine rw_go hX [(42, .aload_n 0), (43, .dup), (44, .getfield 113)] (by decide +kernel) (Ps := []) (pc' := 47) (lv' := [(0, .ref 66), (1, .ref 71), (2, .int (nI i))]) (st' := [.int ((sw (sw (sr σ 71 (va_cpy (σ 73) (σ 71) 265 0 i)) 66 9 (nI (265 + i))) 71 i (σ 73 (265 + i))) 66 9), .ref 66]) (σ' := sw (sw (sr σ 71 (va_cpy (σ 73) (σ 71) 265 0 i)) 66 9 (nI (265 + i))) 71 i (σ 73 (265 + i))) rfl True.intro ?_
          rw [show ((sw (sw (sr σ 71 (va_cpy (σ 73) (σ 71) 265 0 i)) 66 9 (nI (265 + i))) 71 i (σ 73 (265 + i))) 66 9) = nI (265 + i) from (by rw [sw_ne _ _ _ (by decide), sw_eq])]
          refine rw_go hX [(47, .iconst 1), (48, .iadd)] (by decide +kernel) (Ps := []) (pc' := 49) (lv' := [(0, .ref 66), (1, .ref 71), (2, .int (nI i))]) (st' := [.int (nI (265 + i) + nI 1), .ref 66]) (σ' := sw (sw (sr σ 71 (va_cpy (σ 73) (σ 71) 265 0 i)) 66 9 (nI (265 + i))) 71 i (σ 73 (265 + i))) rfl True.intro ?_
          rw [show (nI (265 + i) + nI 1) = nI (265 + i + 1) from nI_add _ _]
          refine rw_go hX [(49, .putfield 113), (52, .iinc 2 1)] (by decide +kernel) (Ps := []) (pc' := 55) (lv' := [(0, .ref 66), (1, .ref 71), (2, .int (nI i + nI 1))]) (st' := []) (σ' := sw (sw (sw (sr σ 71 (va_cpy (σ 73) (σ 71) 265 0 i)) 66 9 (nI (265 + i))) 71 i (σ 73 (265 + i))) 66 9 (nI (265 + i + 1))) rfl True.intro ?_
          rw [show (nI i + nI 1) = nI (i + 1) from nI_add _ _]
          refine rw_go hX [(55, .goto (-53))] (by decide +kernel) (Ps := []) (pc' := 2) (lv' := [(0, .ref 66), (1, .ref 71), (2, .int (nI (i + 1)))]) (st' := []) (σ' := sw (sw (sw (sr σ 71 (va_cpy (σ 73) (σ 71) 265 0 i)) 66 9 (nI (265 + i))) 71 i (σ 73 (265 + i))) 66 9 (nI (265 + i + 1))) rfl True.intro ?_
          refine rw_lsub (ks := [0, 1, 2]) (lv' := [(0, .ref 66), (1, .ref 71), (2, .int (nI (i + 1)))]) rfl ?_
          have q := ih2 (6 - (i + 1)) (by omega) (i + 1) rfl (by omega)
          rw [← cpy_1 _ _ _ _ i, Nat.zero_add i] at q
          rw [pass_k _ _ _ _ _ (by decide), Nat.add_assoc 265 i 1]
          exact q
        · exact absurd (by simp only [cz, cc2]; decide +kernel) h12
  refine rw_lsub (ks := [0, 1, 2]) (lv' := [(0, .ref 66), (1, .ref 71), (2, .int (nI 0))]) rfl ?_
  have q := L2 6 0 rfl (by omega)
  rw [cpy_0, Nat.add_zero, pass_0 σ 71 hs] at q
  exact q
def IMw (W σ : Mm) : Prop := (∀ j, j < 250 → σ 73 j = W 0 j) ∧ (∀ j, j < 5 → σ 73 (250 + j) = W 1 j) ∧ (∀ j, j < 5 → σ 73 (255 + j) = W 2 j) ∧ (∀ j, j < 5 → σ 73 (260 + j) = W 3 j) ∧ ∀ j, j < 6 → σ 73 (265 + j) = W 4 j
def SHw (W σ : Mm) : Prop := (∀ j, j < 250 → σ 67 j = W 0 j) ∧ (∀ j, j < 5 → σ 68 j = W 1 j) ∧ (∀ j, j < 5 → σ 69 j = W 2 j) ∧ (∀ j, j < 5 → σ 70 j = W 3 j) ∧ ∀ j, j < 6 → σ 71 j = W 4 j
theorem cpy_at {f g : Nat → Int32} {sp dp n j : Nat} (h : j < n) : va_cpy f g sp dp n (dp + j) = f (sp + j) := by
  unfold va_cpy
  rw [if_pos (by omega)]
  congr 1
  omega
theorem cpy_no {f g : Nat → Int32} {sp dp n p : Nat} (h : ¬ (dp ≤ p ∧ p < dp + n)) : va_cpy f g sp dp n p = g p := by
  unfold va_cpy
  rw [if_neg h]
theorem two66 (σ : Mm) (a b : Int32) {k : Nat} (h : k ≠ 66) : (sw (sw σ 66 10 a) 66 9 b) k = σ k := by rw [sw_ne _ _ _ h, sw_ne _ _ _ h]
theorem two66j (σ : Mm) (a b : Int32) {j : Nat} (h : j ≠ 9) (h2 : j ≠ 10) : (sw (sw σ 66 10 a) 66 9 b) 66 j = σ 66 j := by rw [sw_o h, sw_o h2]
set_option maxRecDepth 20000 in
set_option maxHeartbeats 800000 in
theorem m_keep (l : Launch) (G : Gl) (σ : Mm) (V : Mm) (hV : vw σ 67 = V) (hv : wf V) : AMi l G 2 mX10_passesAll [.ref 66, .int (nI 1)] σ (fun r σ' => r = nI (thN V) ∧ IMw V σ' ∧ (∀ k, k ≠ 66 → k ≠ 73 → σ' k = σ k) ∧ ∀ j, j ≠ 9 → j ≠ 10 → σ' 66 j = σ 66 j) := by
  refine rw_inI 10 (by decide +kernel) rfl rfl ?_
  intro E hE hX
  subst hE
  refine rw_go hX [(0, .aload_n 0), (1, .iload_n 1), (2, .putfield 109), (5, .aload_n 0), (6, .iconst 0), (7, .putfield 113), (10, .aload_n 0), (11, .aload_n 0), (12, .getfield 9)] (by decide +kernel) (Ps := [(nI 1) = 0 ∨ (nI 1) = 1]) (pc' := 15) (lv' := [(0, .ref 66), (1, .int (nI 1))]) (st' := [.ref 67, .ref 66]) (σ' := sw (sw σ 66 10 (nI 1)) 66 9 (nI 0)) rfl (Or.inr rfl) ?_
  refine rw_callVv hX (as := [.ref 67]) (rest := []) (m_pass_67_1 _ _ _ (by rw [sw_o (by decide), sw_eq]) (by rw [sw_eq])) (by decide +kernel) mvX10_passesRow lk10_117 (ci := 9) rfl rfl rfl (by decide) (Nat.le_of_ble_eq_true rfl) rfl ?_
  intro τ1 ht
  have hk1 : τ1 66 10 = nI 1 := by rw [ht, sw_o (by decide), sr_n _ _ (by decide)]; exact (by rw [sw_o (by decide), sw_eq])
  have hs1 : τ1 66 9 = nI 250 := by rw [ht, sw_eq]
  have hf1 : ∀ k, k ≠ 66 → k ≠ 73 → τ1 k = ((sw (sw σ 66 10 (nI 1)) 66 9 (nI 0))) k := fun k h1 h2 => by rw [ht, sw_ne _ _ _ h1, sr_n _ _ h2]
  have hg1 : ∀ j, j ≠ 9 → τ1 66 j = ((sw (sw σ 66 10 (nI 1)) 66 9 (nI 0))) 66 j := fun j h1 => by rw [ht, sw_o h1, sr_n _ _ (by decide)]
  have hr1 : τ1 73 = (va_cpy ((sw (sw σ 66 10 (nI 1)) 66 9 (nI 0)) 67) ((sw (sw σ 66 10 (nI 1)) 66 9 (nI 0)) 73) 0 0 250) := by rw [ht, sw_ne _ _ _ (by decide), sr_s]
  clear ht
  refine rw_go hX [(18, .aload_n 0), (19, .aload_n 0), (20, .getfield 13)] (by decide +kernel) (Ps := []) (pc' := 23) (lv' := [(0, .ref 66), (1, .int (nI 1))]) (st' := [.ref 68, .ref 66]) (σ' := τ1) rfl True.intro ?_
  refine rw_callVv hX (as := [.ref 68]) (rest := []) (m_pass_68_1 _ _ _ hk1 hs1) (by decide +kernel) mvX10_passesRow lk10_117 (ci := 9) rfl rfl rfl (by decide) (Nat.le_of_ble_eq_true rfl) rfl ?_
  intro τ2 ht
  have hk2 : τ2 66 10 = nI 1 := by rw [ht, sw_o (by decide), sr_n _ _ (by decide)]; exact hk1
  have hs2 : τ2 66 9 = nI 255 := by rw [ht, sw_eq]
  have hf2 : ∀ k, k ≠ 66 → k ≠ 73 → τ2 k = (τ1) k := fun k h1 h2 => by rw [ht, sw_ne _ _ _ h1, sr_n _ _ h2]
  have hg2 : ∀ j, j ≠ 9 → τ2 66 j = (τ1) 66 j := fun j h1 => by rw [ht, sw_o h1, sr_n _ _ (by decide)]
  have hr2 : τ2 73 = (va_cpy (τ1 68) (τ1 73) 0 250 5) := by rw [ht, sw_ne _ _ _ (by decide), sr_s]
  clear ht
  refine rw_go hX [(26, .aload_n 0), (27, .aload_n 0), (28, .getfield 16)] (by decide +kernel) (Ps := []) (pc' := 31) (lv' := [(0, .ref 66), (1, .int (nI 1))]) (st' := [.ref 69, .ref 66]) (σ' := τ2) rfl True.intro ?_
  refine rw_callVv hX (as := [.ref 69]) (rest := []) (m_pass_69_1 _ _ _ hk2 hs2) (by decide +kernel) mvX10_passesRow lk10_117 (ci := 9) rfl rfl rfl (by decide) (Nat.le_of_ble_eq_true rfl) rfl ?_
  intro τ3 ht
  have hk3 : τ3 66 10 = nI 1 := by rw [ht, sw_o (by decide), sr_n _ _ (by decide)]; exact hk2
  have hs3 : τ3 66 9 = nI 260 := by rw [ht, sw_eq]
  have hf3 : ∀ k, k ≠ 66 → k ≠ 73 → τ3 k = (τ2) k := fun k h1 h2 => by rw [ht, sw_ne _ _ _ h1, sr_n _ _ h2]
  have hg3 : ∀ j, j ≠ 9 → τ3 66 j = (τ2) 66 j := fun j h1 => by rw [ht, sw_o h1, sr_n _ _ (by decide)]
  have hr3 : τ3 73 = (va_cpy (τ2 69) (τ2 73) 0 255 5) := by rw [ht, sw_ne _ _ _ (by decide), sr_s]
  clear ht
  refine rw_go hX [(34, .aload_n 0), (35, .aload_n 0), (36, .getfield 19)] (by decide +kernel) (Ps := []) (pc' := 39) (lv' := [(0, .ref 66), (1, .int (nI 1))]) (st' := [.ref 70, .ref 66]) (σ' := τ3) rfl True.intro ?_
  refine rw_callVv hX (as := [.ref 70]) (rest := []) (m_pass_70_1 _ _ _ hk3 hs3) (by decide +kernel) mvX10_passesRow lk10_117 (ci := 9) rfl rfl rfl (by decide) (Nat.le_of_ble_eq_true rfl) rfl ?_
  intro τ4 ht
  have hk4 : τ4 66 10 = nI 1 := by rw [ht, sw_o (by decide), sr_n _ _ (by decide)]; exact hk3
  have hs4 : τ4 66 9 = nI 265 := by rw [ht, sw_eq]
  have hf4 : ∀ k, k ≠ 66 → k ≠ 73 → τ4 k = (τ3) k := fun k h1 h2 => by rw [ht, sw_ne _ _ _ h1, sr_n _ _ h2]
  have hg4 : ∀ j, j ≠ 9 → τ4 66 j = (τ3) 66 j := fun j h1 => by rw [ht, sw_o h1, sr_n _ _ (by decide)]
  have hr4 : τ4 73 = (va_cpy (τ3 70) (τ3 73) 0 260 5) := by rw [ht, sw_ne _ _ _ (by decide), sr_s]
  clear ht
  refine rw_go hX [(42, .aload_n 0), (43, .aload_n 0), (44, .getfield 22)] (by decide +kernel) (Ps := []) (pc' := 47) (lv' := [(0, .ref 66), (1, .int (nI 1))]) (st' := [.ref 71, .ref 66]) (σ' := τ4) rfl True.intro ?_
  refine rw_callVv hX (as := [.ref 71]) (rest := []) (m_pass_71_1 _ _ _ hk4 hs4) (by decide +kernel) mvX10_passesRow lk10_117 (ci := 9) rfl rfl rfl (by decide) (Nat.le_of_ble_eq_true rfl) rfl ?_
  intro τ5 ht
  have hk5 : τ5 66 10 = nI 1 := by rw [ht, sw_o (by decide), sr_n _ _ (by decide)]; exact hk4
  have hs5 : τ5 66 9 = nI 271 := by rw [ht, sw_eq]
  have hf5 : ∀ k, k ≠ 66 → k ≠ 73 → τ5 k = (τ4) k := fun k h1 h2 => by rw [ht, sw_ne _ _ _ h1, sr_n _ _ h2]
  have hg5 : ∀ j, j ≠ 9 → τ5 66 j = (τ4) 66 j := fun j h1 => by rw [ht, sw_o h1, sr_n _ _ (by decide)]
  have hr5 : τ5 73 = (va_cpy (τ4 71) (τ4 73) 0 265 6) := by rw [ht, sw_ne _ _ _ (by decide), sr_s]
  clear ht
  have hf : ∀ k, k ≠ 66 → k ≠ 73 → τ5 k = σ k := fun k h1 h2 => by rw [hf5 k h1 h2, hf4 k h1 h2, hf3 k h1 h2, hf2 k h1 h2, hf1 k h1 h2, two66 σ _ _ h1]
  have hV5 : vw τ5 67 = V := (vw_of (fun j hj => hf _ (by omega) (by omega))).trans hV
  have v0 : σ 67 = V 0 := vw_at hV 0 (by omega)
  have v1 : τ1 68 = V 1 := by rw [hf1 68 (by decide) (by decide), two66 σ _ _ (by decide)]; exact vw_at hV 1 (by omega)
  have v2 : τ2 69 = V 2 := by rw [hf2 69 (by decide) (by decide), hf1 69 (by decide) (by decide), two66 σ _ _ (by decide)]; exact vw_at hV 2 (by omega)
  have v3 : τ3 70 = V 3 := by rw [hf3 70 (by decide) (by decide), hf2 70 (by decide) (by decide), hf1 70 (by decide) (by decide), two66 σ _ _ (by decide)]; exact vw_at hV 3 (by omega)
  have v4 : τ4 71 = V 4 := by rw [hf4 71 (by decide) (by decide), hf3 71 (by decide) (by decide), hf2 71 (by decide) (by decide), hf1 71 (by decide) (by decide), two66 σ _ _ (by decide)]; exact vw_at hV 4 (by omega)
  rw [two66 σ _ _ (show 67 ≠ 66 by decide), v0] at hr1
  rw [v1] at hr2
  rw [v2] at hr3
  rw [v3] at hr4
  rw [v4] at hr5
  refine rw_go hX [(50, .aload_n 0)] (by decide +kernel) (Ps := []) (pc' := 51) (lv' := [(0, .ref 66), (1, .int (nI 1))]) (st' := [.ref 66]) (σ' := τ5) rfl True.intro ?_
  refine rw_callVi hX (as := []) (rest := []) (m_worksThere _ _ _ V hV5 hv) (by decide +kernel) mvX10_worksThere lk10_121 (ci := 9) rfl rfl rfl (by decide) (Nat.le_of_ble_eq_true rfl) rfl ?_
  intro r1 σ1 hr
  rw [hr.1, show r1 = nI (thN V) from hr.2]
  clear hr σ1 r1
  refine rw_iret hX (by decide +kernel) ⟨rfl, ⟨fun j hj => ?_, fun j hj => ?_, fun j hj => ?_, fun j hj => ?_, fun j hj => ?_⟩, hf, fun j h1 h2 => by rw [hg5 j h1, hg4 j h1, hg3 j h1, hg2 j h1, hg1 j h1, two66j σ _ _ h1 h2]⟩
  · rw [hr5, cpy_no (by omega), hr4, cpy_no (by omega), hr3, cpy_no (by omega), hr2, cpy_no (by omega), hr1, ← Nat.zero_add j, cpy_at (by omega)]
  · rw [hr5, cpy_no (by omega), hr4, cpy_no (by omega), hr3, cpy_no (by omega), hr2, cpy_at (by omega), Nat.zero_add]
  · rw [hr5, cpy_no (by omega), hr4, cpy_no (by omega), hr3, cpy_at (by omega), Nat.zero_add]
  · rw [hr5, cpy_no (by omega), hr4, cpy_at (by omega), Nat.zero_add]
  · rw [hr5, cpy_at (by omega), Nat.zero_add]
set_option maxRecDepth 20000 in
set_option maxHeartbeats 800000 in
theorem m_laid (l : Launch) (G : Gl) (σ : Mm) (W : Mm) (hI : IMw W σ) (hv : wf W) : AMi l G 2 mX10_passesAll [.ref 66, .int (nI 0)] σ (fun r σ' => r = nI (thN W) ∧ SHw W σ' ∧ (∀ k, k ≠ 66 → k < 67 ∨ 71 < k → σ' k = σ k) ∧ ∀ j, j ≠ 9 → j ≠ 10 → σ' 66 j = σ 66 j) := by
  refine rw_inI 10 (by decide +kernel) rfl rfl ?_
  intro E hE hX
  subst hE
  refine rw_go hX [(0, .aload_n 0), (1, .iload_n 1), (2, .putfield 109), (5, .aload_n 0), (6, .iconst 0), (7, .putfield 113), (10, .aload_n 0), (11, .aload_n 0), (12, .getfield 9)] (by decide +kernel) (Ps := [(nI 0) = 0 ∨ (nI 0) = 1]) (pc' := 15) (lv' := [(0, .ref 66), (1, .int (nI 0))]) (st' := [.ref 67, .ref 66]) (σ' := sw (sw σ 66 10 (nI 0)) 66 9 (nI 0)) rfl (Or.inl rfl) ?_
  refine rw_callVv hX (as := [.ref 67]) (rest := []) (m_pass_67_0 _ _ _ (by rw [sw_o (by decide), sw_eq]) (by rw [sw_eq])) (by decide +kernel) mvX10_passesRow lk10_117 (ci := 9) rfl rfl rfl (by decide) (Nat.le_of_ble_eq_true rfl) rfl ?_
  intro τ1 ht
  have hk1 : τ1 66 10 = nI 0 := by rw [ht, sw_o (by decide), sr_n _ _ (by decide)]; exact (by rw [sw_o (by decide), sw_eq])
  have hs1 : τ1 66 9 = nI 250 := by rw [ht, sw_eq]
  have hf1 : ∀ k, k ≠ 66 → k ≠ 67 → τ1 k = ((sw (sw σ 66 10 (nI 0)) 66 9 (nI 0))) k := fun k h1 h2 => by rw [ht, sw_ne _ _ _ h1, sr_n _ _ h2]
  have hg1 : ∀ j, j ≠ 9 → τ1 66 j = ((sw (sw σ 66 10 (nI 0)) 66 9 (nI 0))) 66 j := fun j h1 => by rw [ht, sw_o h1, sr_n _ _ (by decide)]
  have hr1 : τ1 67 = (va_cpy ((sw (sw σ 66 10 (nI 0)) 66 9 (nI 0)) 73) ((sw (sw σ 66 10 (nI 0)) 66 9 (nI 0)) 67) 0 0 250) := by rw [ht, sw_ne _ _ _ (by decide), sr_s]
  clear ht
  refine rw_go hX [(18, .aload_n 0), (19, .aload_n 0), (20, .getfield 13)] (by decide +kernel) (Ps := []) (pc' := 23) (lv' := [(0, .ref 66), (1, .int (nI 0))]) (st' := [.ref 68, .ref 66]) (σ' := τ1) rfl True.intro ?_
  refine rw_callVv hX (as := [.ref 68]) (rest := []) (m_pass_68_0 _ _ _ hk1 hs1) (by decide +kernel) mvX10_passesRow lk10_117 (ci := 9) rfl rfl rfl (by decide) (Nat.le_of_ble_eq_true rfl) rfl ?_
  intro τ2 ht
  have hk2 : τ2 66 10 = nI 0 := by rw [ht, sw_o (by decide), sr_n _ _ (by decide)]; exact hk1
  have hs2 : τ2 66 9 = nI 255 := by rw [ht, sw_eq]
  have hf2 : ∀ k, k ≠ 66 → k ≠ 68 → τ2 k = (τ1) k := fun k h1 h2 => by rw [ht, sw_ne _ _ _ h1, sr_n _ _ h2]
  have hg2 : ∀ j, j ≠ 9 → τ2 66 j = (τ1) 66 j := fun j h1 => by rw [ht, sw_o h1, sr_n _ _ (by decide)]
  have hr2 : τ2 68 = (va_cpy (τ1 73) (τ1 68) 250 0 5) := by rw [ht, sw_ne _ _ _ (by decide), sr_s]
  clear ht
  refine rw_go hX [(26, .aload_n 0), (27, .aload_n 0), (28, .getfield 16)] (by decide +kernel) (Ps := []) (pc' := 31) (lv' := [(0, .ref 66), (1, .int (nI 0))]) (st' := [.ref 69, .ref 66]) (σ' := τ2) rfl True.intro ?_
  refine rw_callVv hX (as := [.ref 69]) (rest := []) (m_pass_69_0 _ _ _ hk2 hs2) (by decide +kernel) mvX10_passesRow lk10_117 (ci := 9) rfl rfl rfl (by decide) (Nat.le_of_ble_eq_true rfl) rfl ?_
  intro τ3 ht
  have hk3 : τ3 66 10 = nI 0 := by rw [ht, sw_o (by decide), sr_n _ _ (by decide)]; exact hk2
  have hs3 : τ3 66 9 = nI 260 := by rw [ht, sw_eq]
  have hf3 : ∀ k, k ≠ 66 → k ≠ 69 → τ3 k = (τ2) k := fun k h1 h2 => by rw [ht, sw_ne _ _ _ h1, sr_n _ _ h2]
  have hg3 : ∀ j, j ≠ 9 → τ3 66 j = (τ2) 66 j := fun j h1 => by rw [ht, sw_o h1, sr_n _ _ (by decide)]
  have hr3 : τ3 69 = (va_cpy (τ2 73) (τ2 69) 255 0 5) := by rw [ht, sw_ne _ _ _ (by decide), sr_s]
  clear ht
  refine rw_go hX [(34, .aload_n 0), (35, .aload_n 0), (36, .getfield 19)] (by decide +kernel) (Ps := []) (pc' := 39) (lv' := [(0, .ref 66), (1, .int (nI 0))]) (st' := [.ref 70, .ref 66]) (σ' := τ3) rfl True.intro ?_
  refine rw_callVv hX (as := [.ref 70]) (rest := []) (m_pass_70_0 _ _ _ hk3 hs3) (by decide +kernel) mvX10_passesRow lk10_117 (ci := 9) rfl rfl rfl (by decide) (Nat.le_of_ble_eq_true rfl) rfl ?_
  intro τ4 ht
  have hk4 : τ4 66 10 = nI 0 := by rw [ht, sw_o (by decide), sr_n _ _ (by decide)]; exact hk3
  have hs4 : τ4 66 9 = nI 265 := by rw [ht, sw_eq]
  have hf4 : ∀ k, k ≠ 66 → k ≠ 70 → τ4 k = (τ3) k := fun k h1 h2 => by rw [ht, sw_ne _ _ _ h1, sr_n _ _ h2]
  have hg4 : ∀ j, j ≠ 9 → τ4 66 j = (τ3) 66 j := fun j h1 => by rw [ht, sw_o h1, sr_n _ _ (by decide)]
  have hr4 : τ4 70 = (va_cpy (τ3 73) (τ3 70) 260 0 5) := by rw [ht, sw_ne _ _ _ (by decide), sr_s]
  clear ht
  refine rw_go hX [(42, .aload_n 0), (43, .aload_n 0), (44, .getfield 22)] (by decide +kernel) (Ps := []) (pc' := 47) (lv' := [(0, .ref 66), (1, .int (nI 0))]) (st' := [.ref 71, .ref 66]) (σ' := τ4) rfl True.intro ?_
  refine rw_callVv hX (as := [.ref 71]) (rest := []) (m_pass_71_0 _ _ _ hk4 hs4) (by decide +kernel) mvX10_passesRow lk10_117 (ci := 9) rfl rfl rfl (by decide) (Nat.le_of_ble_eq_true rfl) rfl ?_
  intro τ5 ht
  have hk5 : τ5 66 10 = nI 0 := by rw [ht, sw_o (by decide), sr_n _ _ (by decide)]; exact hk4
  have hs5 : τ5 66 9 = nI 271 := by rw [ht, sw_eq]
  have hf5 : ∀ k, k ≠ 66 → k ≠ 71 → τ5 k = (τ4) k := fun k h1 h2 => by rw [ht, sw_ne _ _ _ h1, sr_n _ _ h2]
  have hg5 : ∀ j, j ≠ 9 → τ5 66 j = (τ4) 66 j := fun j h1 => by rw [ht, sw_o h1, sr_n _ _ (by decide)]
  have hr5 : τ5 71 = (va_cpy (τ4 73) (τ4 71) 265 0 6) := by rw [ht, sw_ne _ _ _ (by decide), sr_s]
  clear ht
  obtain ⟨i0, i1, i2, i3, i4⟩ := hI
  have e1 : τ1 73 = σ 73 := by rw [hf1 73 (by decide) (by decide), two66 σ _ _ (by decide)]
  have e2 : τ2 73 = σ 73 := by rw [hf2 73 (by decide) (by decide), e1]
  have e3 : τ3 73 = σ 73 := by rw [hf3 73 (by decide) (by decide), e2]
  have e4 : τ4 73 = σ 73 := by rw [hf4 73 (by decide) (by decide), e3]
  rw [two66 σ _ _ (show 73 ≠ 66 by decide)] at hr1
  rw [e1] at hr2
  rw [e2] at hr3
  rw [e3] at hr4
  rw [e4] at hr5
  have hSz : ∀ w, w < 5 → τ5 68 w = W 1 w := fun w hw => by
    rw [hf5 68 (by decide) (by decide), hf4 68 (by decide) (by decide), hf3 68 (by decide) (by decide), hr2]
    have c := cpy_at (f := σ 73) (g := τ1 68) (sp := 250) (dp := 0) (n := 5) (j := w) hw
    rw [Nat.zero_add] at c
    rw [c]
    exact i1 w hw
  refine rw_go hX [(50, .aload_n 0)] (by decide +kernel) (Ps := []) (pc' := 51) (lv' := [(0, .ref 66), (1, .int (nI 0))]) (st' := [.ref 66]) (σ' := τ5) rfl True.intro ?_
  refine rw_callVi hX (as := []) (rest := []) (m_worksThere0 _ _ _ (vS W) (fun w hw => ⟨(hSz w hw).trans (wf_s hv hw), wf_s50 hv hw⟩)) (by decide +kernel) mvX10_worksThere lk10_121 (ci := 9) rfl rfl rfl (by decide) (Nat.le_of_ble_eq_true rfl) rfl ?_
  intro r1 σ1 hr
  rw [hr.1, show r1 = nI (thN W) from hr.2]
  clear hr σ1 r1
  refine rw_iret hX (by decide +kernel) ⟨rfl, ⟨fun j hj => ?_, fun j hj => ?_, fun j hj => ?_, fun j hj => ?_, fun j hj => ?_⟩, fun k h1 h2 => by rw [hf5 k h1 (by omega), hf4 k h1 (by omega), hf3 k h1 (by omega), hf2 k h1 (by omega), hf1 k h1 (by omega), two66 σ _ _ h1], fun j h1 h2 => by rw [hg5 j h1, hg4 j h1, hg3 j h1, hg2 j h1, hg1 j h1, two66j σ _ _ h1 h2]⟩
  · rw [hf5 67 (by decide) (by decide), hf4 67 (by decide) (by decide), hf3 67 (by decide) (by decide), hf2 67 (by decide) (by decide), hr1]
    have c := cpy_at (f := σ 73) (g := ((sw (sw σ 66 10 (nI 0)) 66 9 (nI 0)) 67)) (sp := 0) (dp := 0) (n := 250) (j := j) hj
    rw [Nat.zero_add] at c
    rw [c]
    exact i0 j hj
  · rw [hf5 68 (by decide) (by decide), hf4 68 (by decide) (by decide), hf3 68 (by decide) (by decide), hr2]
    have c := cpy_at (f := σ 73) (g := (τ1 68)) (sp := 250) (dp := 0) (n := 5) (j := j) hj
    rw [Nat.zero_add] at c
    rw [c]
    exact i1 j hj
  · rw [hf5 69 (by decide) (by decide), hf4 69 (by decide) (by decide), hr3]
    have c := cpy_at (f := σ 73) (g := (τ2 69)) (sp := 255) (dp := 0) (n := 5) (j := j) hj
    rw [Nat.zero_add] at c
    rw [c]
    exact i2 j hj
  · rw [hf5 70 (by decide) (by decide), hr4]
    have c := cpy_at (f := σ 73) (g := (τ3 70)) (sp := 260) (dp := 0) (n := 5) (j := j) hj
    rw [Nat.zero_add] at c
    rw [c]
    exact i3 j hj
  · rw [hr5]
    have c := cpy_at (f := σ 73) (g := (τ4 71)) (sp := 265) (dp := 0) (n := 6) (j := j) hj
    rw [Nat.zero_add] at c
    rw [c]
    exact i4 j hj
