/-! the model: the host's sheets -/
theorem ite5 {x m n : Int32} (h : ¬ (m ≤ x ∧ x ≤ n)) {α : Type} {b f : α} : (if x < m then b else if x ≤ n then f else b) = b := by
  by_cases g : x < m
  · rw [if_pos g]
  · rw [if_neg g, if_neg (fun z => h ⟨Int32.not_lt.mp g, z⟩)]
theorem neg_m1 {x : Int32} (h1 : -(nI 1) ≤ x) (h2 : x < 0) : x = -(nI 1) := by
  have a := Int32.le_iff_toInt_le.mp h1
  have b := Int32.lt_iff_toInt_lt.mp h2
  have c : (-(nI 1) : Int32).toInt = -1 := by decide +kernel
  have d : (0 : Int32).toInt = 0 := by decide +kernel
  apply Int32.toInt_inj.mp
  omega
def bcM (σ : Mm) (s : Nat) (q : Int32) (n : Nat) : Mm := sr (sw (sw σ 97 s q) 98 s (nI n)) (93 + s) (fl (σ (93 + s)) 0 40 (nI 0))
def sSheetM (σ : Mm) (s q n : Int32) : Mm := if 0 ≤ s ∧ s ≤ 3 then (if q < -(nI 1) then σ else if q ≤ nI 1 then (if q = -(nI 1) then bcM σ s.toNatClampNeg (-(nI 1)) 0 else if n ≤ nI 40 then (if n < 0 then σ else bcM σ s.toNatClampNeg q n.toNatClampNeg) else σ) else σ) else σ
def sPutM (n : Nat → Nat) (σ : Mm) (s i v : Int32) : Mm := if 0 ≤ s ∧ s ≤ 3 then (if σ 97 s.toNatClampNeg = -(nI 1) then σ else if i < 0 then σ else if i < nI (n s.toNatClampNeg) then sw σ (93 + s.toNatClampNeg) i.toNatClampNeg (if σ 97 s.toNatClampNeg = 0 then v.toInt8.toInt32 else v) else σ) else σ
def cpM (σ : Mm) (s u i j k : Nat) : Mm := sr (sr σ 100 (va_cpy (σ (93 + s)) (σ 100) i 0 k)) (93 + u) (va_cpy (va_cpy (σ (93 + s)) (σ 100) i 0 k) (σ (93 + u)) 0 j k)
noncomputable def sCopyM (n : Nat → Nat) (σ : Mm) (s i u j k : Int32) : Mm := if 0 ≤ s ∧ s ≤ 3 then (if 0 ≤ u ∧ u ≤ 3 then (if σ 97 s.toNatClampNeg = -(nI 1) then σ else if σ 97 u.toNatClampNeg = -(nI 1) then σ else if σ 97 s.toNatClampNeg = σ 97 u.toNatClampNeg then (if pz (cpOK i j k (n s.toNatClampNeg) (n u.toNatClampNeg)) = true then cpM σ s.toNatClampNeg u.toNatClampNeg i.toNatClampNeg j.toNatClampNeg k.toNatClampNeg else σ) else σ) else σ) else σ
set_option maxRecDepth 20000 in
set_option maxHeartbeats 800000 in
theorem g_sheet_0 (l : Launch) (G : Gl) (σ : Mm) (xq xn : Int32) : AMi l G 3 mX10_sheet [.ref 66, .int (nI 0), .int xq, .int xn] σ (fun r σ' => r = aSheet (nI 0) xq xn ∧ σ' = sSheetM σ (nI 0) xq xn) := by
  refine rw_inI 10 (by decide +kernel) rfl rfl ?_
  intro E hE hX
  subst hE
  have hk4 := film_r 0 (by omega)
  have hcs : (nI 0).toNatClampNeg = 0 := nI_clamp (by omega)
  refine rw_go hX [(0, .iload_n 1)] (by decide +kernel) (Ps := []) (pc' := 1) (lv' := [(0, .ref 66), (1, .int (nI 0)), (2, .int xq), (3, .int xn)]) (st' := [.int (nI 0)]) (σ' := σ) rfl True.intro ?_
  refine rw_callSi hX (as := [.int (nI 0)]) (rest := []) (m_isSheet _ _ _ (nI 0)) (by decide +kernel) msX10_isSheet (Or.inl lk10_298) rfl (by decide) (Nat.le_of_ble_eq_true rfl) rfl ?_
  intro r1 σ1 hr
  rw [hr.1, show r1 = nI 1 from hr.2.trans (by decide +kernel)]
  clear hr σ1 r1
  refine rw_if hX (tgt := 29) (cnd := .eq) (off := 25) (by decide +kernel) (by decide) (fun h4 => ?_) (fun h4 => ?_)
  · exact absurd h4 (by simp only [cz, cc2]; decide +kernel)
  · skip
    refine rw_go hX [(7, .iload_n 2), (8, .i2l), (9, .ldc2_w 209), (12, .lconst 1)] (by decide +kernel) (Ps := []) (pc' := 13) (lv' := [(0, .ref 66), (1, .int (nI 0)), (2, .int xq), (3, .int xn)]) (st' := [.long (Int64.ofNat 1), .long (-1), .long (xq.toInt64)]) (σ' := σ) rfl True.intro ?_
    refine rw_callSi hX (as := [.long (xq.toInt64), .long (-1), .long (Int64.ofNat 1)]) (rest := []) (m_inI _ _ _ (xq) (-(nI 1)) (nI 1) _ _ _ rfl (by first | rfl | decide +kernel) (by first | rfl | decide +kernel)) (by decide +kernel) msX10_in (Or.inl lk10_105) rfl (by decide) (Nat.le_of_ble_eq_true rfl) rfl ?_
    intro r1 σ1 hr
    rw [hr.1, show r1 = bz (decide (-(nI 1) ≤ xq ∧ xq ≤ nI 1)) from hr.2]
    clear hr σ1 r1
    refine rw_if hX (tgt := 29) (cnd := .eq) (off := 13) (by decide +kernel) (by decide) (fun h16 => ?_) (fun h16 => ?_)
    · replace h16 := of_decide_eq_false (zb_eqT h16)
      skip
      refine rw_go hX [(29, .bipush (-2))] (by decide +kernel) (Ps := []) (pc' := 31) (lv' := [(0, .ref 66), (1, .int (nI 0)), (2, .int xq), (3, .int xn)]) (st' := [.int (-(nI 2))]) (σ' := σ) rfl True.intro ?_
      exact rw_iret hX (by decide +kernel) (⟨by simp only [aSheet, eq_true hk4, hcs, eq_true h4, eq_false h16, ite5 h16, if_true, if_false, Bool.false_eq_true, and_self, and_true, true_and, and_false, false_and, oel_n, oel_s, decide_true, decide_false], by simp only [sSheetM, eq_true hk4, hcs, eq_true h4, eq_false h16, ite5 h16, if_true, if_false, Bool.false_eq_true, and_self, and_true, true_and, and_false, false_and, oel_n, oel_s, decide_true, decide_false]⟩)
    · replace h16 := of_decide_eq_true (zb_eqF h16)
      have hqa : ¬ xq < -(nI 1) := Int32.not_lt.mpr h16.1
      have hqb : xq ≤ nI 1 := h16.2
      refine rw_go hX [(19, .iload_n 2)] (by decide +kernel) (Ps := []) (pc' := 20) (lv' := [(0, .ref 66), (1, .int (nI 0)), (2, .int xq), (3, .int xn)]) (st' := [.int xq]) (σ' := σ) rfl True.intro ?_
      refine rw_if hX (tgt := 32) (cnd := .lt) (off := 12) (by decide +kernel) (by decide) (fun h20 => ?_) (fun h20 => ?_)
      · replace h20 : (xq < 0) := h20
        have hqm : xq = -(nI 1) := neg_m1 h16.1 h20
        subst hqm
        refine rw_go hX [(32, .iload_n 2)] (by decide +kernel) (Ps := []) (pc' := 33) (lv' := [(0, .ref 66), (1, .int (nI 0)), (2, .int (-(nI 1))), (3, .int xn)]) (st' := [.int (-(nI 1))]) (σ' := σ) rfl True.intro ?_
        refine rw_if hX (tgt := 43) (cnd := .lt) (off := 10) (by decide +kernel) (by decide) (fun h33 => ?_) (fun h33 => ?_)
        · skip
          refine rw_go hX [(43, .aload_n 0), (44, .getfield 91), (47, .iload_n 1), (48, .iload_n 2), (49, .iastore)] (by decide +kernel) (Ps := [vp_in (nI 0) 4]) (pc' := 50) (lv' := [(0, .ref 66), (1, .int (nI 0)), (2, .int (-(nI 1))), (3, .int xn)]) (st' := []) (σ' := sw σ 97 (nI 0).toNatClampNeg (-(nI 1))) rfl (vp_in_nI (by omega) (by omega)) ?_
          rw [show (sw σ 97 (nI 0).toNatClampNeg (-(nI 1))) = sw σ 97 0 (-(nI 1)) from (by rw [nI_clamp (by omega)])]
          refine rw_go hX [(50, .aload_n 0), (51, .getfield 94), (54, .iload_n 1), (55, .iload_n 2)] (by decide +kernel) (Ps := []) (pc' := 56) (lv' := [(0, .ref 66), (1, .int (nI 0)), (2, .int (-(nI 1))), (3, .int xn)]) (st' := [.int (-(nI 1)), .int (nI 0), .ref 98]) (σ' := sw σ 97 0 (-(nI 1))) rfl True.intro ?_
          refine rw_if hX (tgt := 63) (cnd := .ge) (off := 7) (by decide +kernel) (by decide) (fun h56 => ?_) (fun h56 => ?_)
          · exact absurd h56 (by simp only [cz, cc2]; decide +kernel)
          · skip
            refine rw_go hX [(59, .iconst 0), (60, .goto 4), (64, .iastore)] (by decide +kernel) (Ps := [vp_in (nI 0) 4]) (pc' := 65) (lv' := [(0, .ref 66), (1, .int (nI 0)), (2, .int (-(nI 1))), (3, .int xn)]) (st' := []) (σ' := sw (sw σ 97 0 (-(nI 1))) 98 (nI 0).toNatClampNeg (nI 0)) rfl (vp_in_nI (by omega) (by omega)) ?_
            rw [show (sw (sw σ 97 0 (-(nI 1))) 98 (nI 0).toNatClampNeg (nI 0)) = sw (sw σ 97 0 (-(nI 1))) 98 0 (nI 0) from (by rw [nI_clamp (by omega)])]
            refine rw_go hX [(65, .iconst 0), (66, .istore 4)] (by decide +kernel) (Ps := []) (pc' := 68) (lv' := [(0, .ref 66), (1, .int (nI 0)), (2, .int (-(nI 1))), (3, .int xn), (4, .int (nI 0))]) (st' := []) (σ' := sw (sw σ 97 0 (-(nI 1))) 98 0 (nI 0)) rfl True.intro ?_
            have L68 : ∀ (μ68 : Nat) (i : Nat), μ68 = 40 - i → (i ≤ 40) → RW E G 3 5 (QI E G (fun r σ' => r = aSheet (nI 0) (-(nI 1)) xn ∧ σ' = sSheetM σ (nI 0) (-(nI 1)) xn)) 68 [(0, .ref 66), (1, .int (nI 0)), (2, .int (-(nI 1))), (3, .int xn), (4, .int (nI i))] [] (sr (sw (sw σ 97 0 (-(nI 1))) 98 0 (nI 0)) 93 (fl (σ 93) 0 i (nI 0))) := by
              intro μ68
              induction μ68 using Nat.strongRecOn with
              | ind μ68 ih68 =>
                intro i hμ68 hi
                refine rw_go hX [(68, .iload 4), (70, .bipush 40)] (by decide +kernel) (Ps := []) (pc' := 72) (lv' := [(0, .ref 66), (1, .int (nI 0)), (2, .int (-(nI 1))), (3, .int xn), (4, .int (nI i))]) (st' := [.int (nI 40), .int (nI i)]) (σ' := sr (sw (sw σ 97 0 (-(nI 1))) 98 0 (nI 0)) 93 (fl (σ 93) 0 i (nI 0))) rfl True.intro ?_
                refine rw_icmp hX (tgt := 91) (cnd := .ge) (off := 19) (by decide +kernel) (by decide) (fun h72 => ?_) (fun h72 => ?_)
                · replace h72 := c2_geT h72
                  have ei : i = 40 := by omega
                  refine rw_go hX [(91, .iconst 1)] (by decide +kernel) (Ps := []) (pc' := 92) (lv' := [(0, .ref 66), (1, .int (nI 0)), (2, .int (-(nI 1))), (3, .int xn), (4, .int (nI i))]) (st' := [.int (nI 1)]) (σ' := sr (sw (sw σ 97 0 (-(nI 1))) 98 0 (nI 0)) 93 (fl (σ 93) 0 i (nI 0))) rfl True.intro ?_
                  exact rw_iret hX (by decide +kernel) (⟨by simp only [aSheet, eq_true hk4, hcs, eq_true h4, eq_true h16, eq_false hqa, eq_true hqb, eq_true h20, (show True = True from by have hqm := True; rfl), eq_true h33, eq_true h56, eq_true h72, if_true, if_false, Bool.false_eq_true, and_self, and_true, true_and, and_false, false_and, oel_n, oel_s, decide_true, decide_false], by simp only [sSheetM, eq_true hk4, hcs, eq_true h4, eq_true h16, eq_false hqa, eq_true hqb, eq_true h20, (show True = True from by have hqm := True; rfl), eq_true h33, eq_true h56, eq_true h72, if_true, if_false, Bool.false_eq_true, and_self, and_true, true_and, and_false, false_and, oel_n, oel_s, decide_true, decide_false]; rw [ei]; rfl⟩)
                · replace h72 := c2_geF h72
                  refine rw_go hX [(75, .aload_n 0), (76, .getfield 88), (79, .iload_n 1), (80, .aaload), (81, .iload 4), (83, .iconst 0), (84, .iastore)] (by decide +kernel) (Ps := [vp_in (nI 0) 4, vp_in (nI i) 40]) (pc' := 85) (lv' := [(0, .ref 66), (1, .int (nI 0)), (2, .int (-(nI 1))), (3, .int xn), (4, .int (nI i))]) (st' := []) (σ' := sw (sr (sw (sw σ 97 0 (-(nI 1))) 98 0 (nI 0)) 93 (fl (σ 93) 0 i (nI 0))) 93 (nI i).toNatClampNeg (nI 0)) rfl (⟨vp_in_nI (by omega) (by omega), vp_in_nI (by omega) (by omega)⟩) ?_
                  rw [show (sw (sr (sw (sw σ 97 0 (-(nI 1))) 98 0 (nI 0)) 93 (fl (σ 93) 0 i (nI 0))) 93 (nI i).toNatClampNeg (nI 0)) = sw (sr (sw (sw σ 97 0 (-(nI 1))) 98 0 (nI 0)) 93 (fl (σ 93) 0 i (nI 0))) 93 i (nI 0) from (by rw [nI_clamp (by omega)])]
                  refine rw_go hX [(85, .iinc 4 1)] (by decide +kernel) (Ps := []) (pc' := 88) (lv' := [(0, .ref 66), (1, .int (nI 0)), (2, .int (-(nI 1))), (3, .int xn), (4, .int (nI i + nI 1))]) (st' := []) (σ' := sw (sr (sw (sw σ 97 0 (-(nI 1))) 98 0 (nI 0)) 93 (fl (σ 93) 0 i (nI 0))) 93 i (nI 0)) rfl True.intro ?_
                  rw [show (nI i + nI 1) = nI (i + 1) from nI_add _ _]
                  refine rw_go hX [(88, .goto (-20))] (by decide +kernel) (Ps := []) (pc' := 68) (lv' := [(0, .ref 66), (1, .int (nI 0)), (2, .int (-(nI 1))), (3, .int xn), (4, .int (nI (i + 1)))]) (st' := []) (σ' := sw (sr (sw (sw σ 97 0 (-(nI 1))) 98 0 (nI 0)) 93 (fl (σ 93) 0 i (nI 0))) 93 i (nI 0)) rfl True.intro ?_
                  refine rw_lsub (ks := [0, 1, 2, 3, 4]) (lv' := [(0, .ref 66), (1, .int (nI 0)), (2, .int (-(nI 1))), (3, .int xn), (4, .int (nI (i + 1)))]) rfl ?_
                  have q := ih68 (40 - (i + 1)) (by omega) (i + 1) rfl (by omega)
                  rw [← fl_1 _ _ (Nat.zero_le _)] at q
                  rw [sw_sr]
                  exact q
            refine rw_lsub (ks := [0, 1, 2, 3, 4]) (lv' := [(0, .ref 66), (1, .int (nI 0)), (2, .int (-(nI 1))), (3, .int xn), (4, .int (nI 0))]) rfl ?_
            have q := L68 40 0 rfl (by omega)
            rw [fl_0, show sr (sw (sw σ 97 0 (-(nI 1))) 98 0 (nI 0)) 93 (σ 93) = sw (sw σ 97 0 (-(nI 1))) 98 0 (nI 0) from by
              funext q
              by_cases z : q = 93
              · subst z; rw [sr_s, sw_ne _ _ _ (by decide), sw_ne _ _ _ (by decide)]
              · rw [sr_n _ _ z]] at q
            exact q
        · exact absurd (by simp only [cz, cc2]; decide +kernel) h33
      · replace h20 : ¬ (xq < 0) := h20
        have hqn : ¬ xq = -(nI 1) := fun z => by rw [z] at h20; exact h20 (by decide +kernel)
        refine rw_go hX [(23, .iload_n 3), (24, .bipush 40)] (by decide +kernel) (Ps := []) (pc' := 26) (lv' := [(0, .ref 66), (1, .int (nI 0)), (2, .int xq), (3, .int xn)]) (st' := [.int (nI 40), .int xn]) (σ' := σ) rfl True.intro ?_
        refine rw_icmp hX (tgt := 32) (cnd := .le) (off := 6) (by decide +kernel) (by decide) (fun h26 => ?_) (fun h26 => ?_)
        · replace h26 : (xn ≤ nI 40) := h26
          refine rw_go hX [(32, .iload_n 2)] (by decide +kernel) (Ps := []) (pc' := 33) (lv' := [(0, .ref 66), (1, .int (nI 0)), (2, .int xq), (3, .int xn)]) (st' := [.int xq]) (σ' := σ) rfl True.intro ?_
          refine rw_if hX (tgt := 43) (cnd := .lt) (off := 10) (by decide +kernel) (by decide) (fun h33 => ?_) (fun h33 => ?_)
          · replace h33 : (xq < 0) := h33
            exact absurd h33 h20
          · replace h33 : ¬ (xq < 0) := h33
            refine rw_go hX [(36, .iload_n 3)] (by decide +kernel) (Ps := []) (pc' := 37) (lv' := [(0, .ref 66), (1, .int (nI 0)), (2, .int xq), (3, .int xn)]) (st' := [.int xn]) (σ' := σ) rfl True.intro ?_
            refine rw_if hX (tgt := 43) (cnd := .ge) (off := 6) (by decide +kernel) (by decide) (fun h37 => ?_) (fun h37 => ?_)
            · replace h37 : (xn ≥ 0) := h37
              obtain ⟨m, hm, rfl⟩ := rng (m := 40) (by omega) ⟨by exact h37, h26⟩
              have hcm : (nI m).toNatClampNeg = m := nI_clamp (by omega)
              have hm0 : ¬ nI m < 0 := nI_pos (by omega)
              refine rw_go hX [(43, .aload_n 0), (44, .getfield 91), (47, .iload_n 1), (48, .iload_n 2), (49, .iastore)] (by decide +kernel) (Ps := [vp_in (nI 0) 4]) (pc' := 50) (lv' := [(0, .ref 66), (1, .int (nI 0)), (2, .int xq), (3, .int (nI m))]) (st' := []) (σ' := sw σ 97 (nI 0).toNatClampNeg xq) rfl (vp_in_nI (by omega) (by omega)) ?_
              rw [show (sw σ 97 (nI 0).toNatClampNeg xq) = sw σ 97 0 xq from (by rw [nI_clamp (by omega)])]
              refine rw_go hX [(50, .aload_n 0), (51, .getfield 94), (54, .iload_n 1), (55, .iload_n 2)] (by decide +kernel) (Ps := []) (pc' := 56) (lv' := [(0, .ref 66), (1, .int (nI 0)), (2, .int xq), (3, .int (nI m))]) (st' := [.int xq, .int (nI 0), .ref 98]) (σ' := sw σ 97 0 xq) rfl True.intro ?_
              refine rw_if hX (tgt := 63) (cnd := .ge) (off := 7) (by decide +kernel) (by decide) (fun h56 => ?_) (fun h56 => ?_)
              · replace h56 : (xq ≥ 0) := h56
                refine rw_go hX [(63, .iload_n 3), (64, .iastore)] (by decide +kernel) (Ps := [vp_in (nI 0) 4]) (pc' := 65) (lv' := [(0, .ref 66), (1, .int (nI 0)), (2, .int xq), (3, .int (nI m))]) (st' := []) (σ' := sw (sw σ 97 0 xq) 98 (nI 0).toNatClampNeg (nI m)) rfl (vp_in_nI (by omega) (by omega)) ?_
                rw [show (sw (sw σ 97 0 xq) 98 (nI 0).toNatClampNeg (nI m)) = sw (sw σ 97 0 xq) 98 0 (nI m) from (by rw [nI_clamp (by omega)])]
                refine rw_go hX [(65, .iconst 0), (66, .istore 4)] (by decide +kernel) (Ps := []) (pc' := 68) (lv' := [(0, .ref 66), (1, .int (nI 0)), (2, .int xq), (3, .int (nI m)), (4, .int (nI 0))]) (st' := []) (σ' := sw (sw σ 97 0 xq) 98 0 (nI m)) rfl True.intro ?_
                have L68 : ∀ (μ68 : Nat) (i : Nat), μ68 = 40 - i → (i ≤ 40) → RW E G 3 5 (QI E G (fun r σ' => r = aSheet (nI 0) xq (nI m) ∧ σ' = sSheetM σ (nI 0) xq (nI m))) 68 [(0, .ref 66), (1, .int (nI 0)), (2, .int xq), (3, .int (nI m)), (4, .int (nI i))] [] (sr (sw (sw σ 97 0 xq) 98 0 (nI m)) 93 (fl (σ 93) 0 i (nI 0))) := by
                  intro μ68
                  induction μ68 using Nat.strongRecOn with
                  | ind μ68 ih68 =>
                    intro i hμ68 hi
                    refine rw_go hX [(68, .iload 4), (70, .bipush 40)] (by decide +kernel) (Ps := []) (pc' := 72) (lv' := [(0, .ref 66), (1, .int (nI 0)), (2, .int xq), (3, .int (nI m)), (4, .int (nI i))]) (st' := [.int (nI 40), .int (nI i)]) (σ' := sr (sw (sw σ 97 0 xq) 98 0 (nI m)) 93 (fl (σ 93) 0 i (nI 0))) rfl True.intro ?_
                    refine rw_icmp hX (tgt := 91) (cnd := .ge) (off := 19) (by decide +kernel) (by decide) (fun h72 => ?_) (fun h72 => ?_)
                    · replace h72 := c2_geT h72
                      have ei : i = 40 := by omega
                      refine rw_go hX [(91, .iconst 1)] (by decide +kernel) (Ps := []) (pc' := 92) (lv' := [(0, .ref 66), (1, .int (nI 0)), (2, .int xq), (3, .int (nI m)), (4, .int (nI i))]) (st' := [.int (nI 1)]) (σ' := sr (sw (sw σ 97 0 xq) 98 0 (nI m)) 93 (fl (σ 93) 0 i (nI 0))) rfl True.intro ?_
                      exact rw_iret hX (by decide +kernel) (⟨by simp only [aSheet, eq_true hk4, hcs, eq_true h4, eq_true h16, eq_false hqa, eq_true hqb, eq_false h20, eq_false hqn, eq_true h26, eq_false h33, eq_true h37, hcm, eq_false hm0, eq_true h56, eq_true h72, if_true, if_false, Bool.false_eq_true, and_self, and_true, true_and, and_false, false_and, oel_n, oel_s, decide_true, decide_false], by simp only [sSheetM, eq_true hk4, hcs, eq_true h4, eq_true h16, eq_false hqa, eq_true hqb, eq_false h20, eq_false hqn, eq_true h26, eq_false h33, eq_true h37, hcm, eq_false hm0, eq_true h56, eq_true h72, if_true, if_false, Bool.false_eq_true, and_self, and_true, true_and, and_false, false_and, oel_n, oel_s, decide_true, decide_false]; rw [ei]; rfl⟩)
                    · replace h72 := c2_geF h72
                      refine rw_go hX [(75, .aload_n 0), (76, .getfield 88), (79, .iload_n 1), (80, .aaload), (81, .iload 4), (83, .iconst 0), (84, .iastore)] (by decide +kernel) (Ps := [vp_in (nI 0) 4, vp_in (nI i) 40]) (pc' := 85) (lv' := [(0, .ref 66), (1, .int (nI 0)), (2, .int xq), (3, .int (nI m)), (4, .int (nI i))]) (st' := []) (σ' := sw (sr (sw (sw σ 97 0 xq) 98 0 (nI m)) 93 (fl (σ 93) 0 i (nI 0))) 93 (nI i).toNatClampNeg (nI 0)) rfl (⟨vp_in_nI (by omega) (by omega), vp_in_nI (by omega) (by omega)⟩) ?_
                      rw [show (sw (sr (sw (sw σ 97 0 xq) 98 0 (nI m)) 93 (fl (σ 93) 0 i (nI 0))) 93 (nI i).toNatClampNeg (nI 0)) = sw (sr (sw (sw σ 97 0 xq) 98 0 (nI m)) 93 (fl (σ 93) 0 i (nI 0))) 93 i (nI 0) from (by rw [nI_clamp (by omega)])]
                      refine rw_go hX [(85, .iinc 4 1)] (by decide +kernel) (Ps := []) (pc' := 88) (lv' := [(0, .ref 66), (1, .int (nI 0)), (2, .int xq), (3, .int (nI m)), (4, .int (nI i + nI 1))]) (st' := []) (σ' := sw (sr (sw (sw σ 97 0 xq) 98 0 (nI m)) 93 (fl (σ 93) 0 i (nI 0))) 93 i (nI 0)) rfl True.intro ?_
                      rw [show (nI i + nI 1) = nI (i + 1) from nI_add _ _]
                      refine rw_go hX [(88, .goto (-20))] (by decide +kernel) (Ps := []) (pc' := 68) (lv' := [(0, .ref 66), (1, .int (nI 0)), (2, .int xq), (3, .int (nI m)), (4, .int (nI (i + 1)))]) (st' := []) (σ' := sw (sr (sw (sw σ 97 0 xq) 98 0 (nI m)) 93 (fl (σ 93) 0 i (nI 0))) 93 i (nI 0)) rfl True.intro ?_
                      refine rw_lsub (ks := [0, 1, 2, 3, 4]) (lv' := [(0, .ref 66), (1, .int (nI 0)), (2, .int xq), (3, .int (nI m)), (4, .int (nI (i + 1)))]) rfl ?_
                      have q := ih68 (40 - (i + 1)) (by omega) (i + 1) rfl (by omega)
                      rw [← fl_1 _ _ (Nat.zero_le _)] at q
                      rw [sw_sr]
                      exact q
                refine rw_lsub (ks := [0, 1, 2, 3, 4]) (lv' := [(0, .ref 66), (1, .int (nI 0)), (2, .int xq), (3, .int (nI m)), (4, .int (nI 0))]) rfl ?_
                have q := L68 40 0 rfl (by omega)
                rw [fl_0, show sr (sw (sw σ 97 0 xq) 98 0 (nI m)) 93 (σ 93) = sw (sw σ 97 0 xq) 98 0 (nI m) from by
                  funext q
                  by_cases z : q = 93
                  · subst z; rw [sr_s, sw_ne _ _ _ (by decide), sw_ne _ _ _ (by decide)]
                  · rw [sr_n _ _ z]] at q
                exact q
              · replace h56 : ¬ (xq ≥ 0) := h56
                exact absurd (Int32.not_lt.mp h20) h56
            · replace h37 : ¬ (xn ≥ 0) := h37
              have hm0 : xn < 0 := Int32.not_le.mp h37
              refine rw_go hX [(40, .bipush (-14))] (by decide +kernel) (Ps := []) (pc' := 42) (lv' := [(0, .ref 66), (1, .int (nI 0)), (2, .int xq), (3, .int xn)]) (st' := [.int (-(nI 14))]) (σ' := σ) rfl True.intro ?_
              exact rw_iret hX (by decide +kernel) (⟨by simp only [aSheet, eq_true hk4, hcs, eq_true h4, eq_true h16, eq_false hqa, eq_true hqb, eq_false h20, eq_false hqn, eq_true h26, eq_false h33, eq_false h37, eq_true hm0, if_true, if_false, Bool.false_eq_true, and_self, and_true, true_and, and_false, false_and, oel_n, oel_s, decide_true, decide_false], by simp only [sSheetM, eq_true hk4, hcs, eq_true h4, eq_true h16, eq_false hqa, eq_true hqb, eq_false h20, eq_false hqn, eq_true h26, eq_false h33, eq_false h37, eq_true hm0, if_true, if_false, Bool.false_eq_true, and_self, and_true, true_and, and_false, false_and, oel_n, oel_s, decide_true, decide_false]⟩)
        · replace h26 : ¬ (xn ≤ nI 40) := h26
          refine rw_go hX [(29, .bipush (-2))] (by decide +kernel) (Ps := []) (pc' := 31) (lv' := [(0, .ref 66), (1, .int (nI 0)), (2, .int xq), (3, .int xn)]) (st' := [.int (-(nI 2))]) (σ' := σ) rfl True.intro ?_
          exact rw_iret hX (by decide +kernel) (⟨by simp only [aSheet, eq_true hk4, hcs, eq_true h4, eq_true h16, eq_false hqa, eq_true hqb, eq_false h20, eq_false hqn, eq_false h26, if_true, if_false, Bool.false_eq_true, and_self, and_true, true_and, and_false, false_and, oel_n, oel_s, decide_true, decide_false], by simp only [sSheetM, eq_true hk4, hcs, eq_true h4, eq_true h16, eq_false hqa, eq_true hqb, eq_false h20, eq_false hqn, eq_false h26, if_true, if_false, Bool.false_eq_true, and_self, and_true, true_and, and_false, false_and, oel_n, oel_s, decide_true, decide_false]⟩)
set_option maxRecDepth 20000 in
set_option maxHeartbeats 800000 in
theorem g_put_0 (l : Launch) (G : Gl) (σ : Mm) (n : Nat → Nat) (xi xv : Int32) (hsh : ∀ s, s < 4 → σ 98 s = nI (n s) ∧ n s ≤ 40) (hso : ∀ s, s < 4 → σ 97 s = -(nI 1) ∨ σ 97 s = nI 0 ∨ σ 97 s = nI 1) : AMi l G 3 mX10_put [.ref 66, .int (nI 0), .int xi, .int xv] σ (fun r σ' => r = aPut n (σ 97) (nI 0) xi ∧ σ' = sPutM n σ (nI 0) xi xv) := by
  refine rw_inI 10 (by decide +kernel) rfl rfl ?_
  intro E hE hX
  subst hE
  have hk4 := film_r 0 (by omega)
  have hcs : (nI 0).toNatClampNeg = 0 := nI_clamp (by omega)
  have hns := hsh 0 (by omega)
  have hos := hso 0 (by omega)
  refine rw_go hX [(0, .iload_n 1)] (by decide +kernel) (Ps := []) (pc' := 1) (lv' := [(0, .ref 66), (1, .int (nI 0)), (2, .int xi), (3, .int xv)]) (st' := [.int (nI 0)]) (σ' := σ) rfl True.intro ?_
  refine rw_callSi hX (as := [.int (nI 0)]) (rest := []) (m_isSheet _ _ _ (nI 0)) (by decide +kernel) msX10_isSheet (Or.inl lk10_298) rfl (by decide) (Nat.le_of_ble_eq_true rfl) rfl ?_
  intro r1 σ1 hr
  rw [hr.1, show r1 = nI 1 from hr.2.trans (by decide +kernel)]
  clear hr σ1 r1
  refine rw_if hX (tgt := 10) (cnd := .ne) (off := 6) (by decide +kernel) (by decide) (fun h4 => ?_) (fun h4 => ?_)
  · skip
    refine rw_go hX [(10, .aload_n 0), (11, .getfield 91), (14, .iload_n 1), (15, .iaload)] (by decide +kernel) (Ps := [vp_in (nI 0) 4]) (pc' := 16) (lv' := [(0, .ref 66), (1, .int (nI 0)), (2, .int xi), (3, .int xv)]) (st' := [.int (σ 97 (nI 0).toNatClampNeg)]) (σ' := σ) rfl (vp_in_nI (by omega) (by omega)) ?_
    rw [show (σ 97 (nI 0).toNatClampNeg) = σ 97 0 from (by rw [nI_clamp (by omega)])]
    refine rw_if hX (tgt := 22) (cnd := .ge) (off := 6) (by decide +kernel) (by decide) (fun h16 => ?_) (fun h16 => ?_)
    · replace h16 : (σ 97 0 ≥ 0) := h16
      have hso1 : ¬ σ 97 0 = -(nI 1) := fun z => absurd ((so_m hos).mpr z) (Int32.not_lt.mpr h16)
      refine rw_go hX [(22, .iload_n 2), (23, .i2l), (24, .lconst 0), (25, .aload_n 0), (26, .getfield 94), (29, .iload_n 1), (30, .iaload)] (by decide +kernel) (Ps := [vp_in (nI 0) 4]) (pc' := 31) (lv' := [(0, .ref 66), (1, .int (nI 0)), (2, .int xi), (3, .int xv)]) (st' := [.int (σ 98 (nI 0).toNatClampNeg), .long (Int64.ofNat 0), .long (xi.toInt64)]) (σ' := σ) rfl (vp_in_nI (by omega) (by omega)) ?_
      rw [show (σ 98 (nI 0).toNatClampNeg) = nI (n 0) from (by rw [nI_clamp (by omega), hns.1])]
      refine rw_go hX [(31, .iconst 1), (32, .isub), (33, .i2l)] (by decide +kernel) (Ps := []) (pc' := 34) (lv' := [(0, .ref 66), (1, .int (nI 0)), (2, .int xi), (3, .int xv)]) (st' := [.long ((nI (n 0) - nI 1).toInt64), .long (Int64.ofNat 0), .long (xi.toInt64)]) (σ' := σ) rfl True.intro ?_
      refine rw_callSi hX (as := [.long (xi.toInt64), .long (Int64.ofNat 0), .long ((nI (n 0) - nI 1).toInt64)]) (rest := []) (m_inI _ _ _ (xi) (0) (nI (n 0) - nI 1) _ _ _ rfl (by first | rfl | decide +kernel) (by first | rfl | decide +kernel)) (by decide +kernel) msX10_in (Or.inl lk10_105) rfl (by decide) (Nat.le_of_ble_eq_true rfl) rfl ?_
      intro r1 σ1 hr
      rw [hr.1, show r1 = bz (decide (0 ≤ xi ∧ xi < nI (n 0))) from hr.2.trans (by rw [decide_eq_decide.mpr (in_C (by omega))])]
      clear hr σ1 r1
      refine rw_if hX (tgt := 43) (cnd := .ne) (off := 6) (by decide +kernel) (by decide) (fun h37 => ?_) (fun h37 => ?_)
      · replace h37 := of_decide_eq_true (zb_neT h37)
        obtain ⟨i, hi, rfl⟩ := rngO (m := n 0) (by omega) h37
        have hci : (nI i).toNatClampNeg = i := nI_clamp (by omega)
        have hzi : ¬ nI i < 0 := nI_pos (by omega)
        have hli : nI i < nI (n 0) := h37.2
        refine rw_go hX [(43, .aload_n 0), (44, .getfield 88), (47, .iload_n 1), (48, .aaload), (49, .iload_n 2), (50, .aload_n 0), (51, .getfield 91), (54, .iload_n 1), (55, .iaload)] (by decide +kernel) (Ps := [vp_in (nI 0) 4, vp_in (nI 0) 4]) (pc' := 56) (lv' := [(0, .ref 66), (1, .int (nI 0)), (2, .int (nI i)), (3, .int xv)]) (st' := [.int (σ 97 (nI 0).toNatClampNeg), .int (nI i), .ref 93]) (σ' := σ) rfl (⟨vp_in_nI (by omega) (by omega), vp_in_nI (by omega) (by omega)⟩) ?_
        rw [show (σ 97 (nI 0).toNatClampNeg) = σ 97 0 from (by rw [nI_clamp (by omega)])]
        refine rw_if hX (tgt := 64) (cnd := .ne) (off := 8) (by decide +kernel) (by decide) (fun h56 => ?_) (fun h56 => ?_)
        · replace h56 : (σ 97 0 ≠ 0) := h56
          refine rw_go hX [(64, .iload_n 3), (65, .iastore)] (by decide +kernel) (Ps := [vp_in (nI i) 40]) (pc' := 66) (lv' := [(0, .ref 66), (1, .int (nI 0)), (2, .int (nI i)), (3, .int xv)]) (st' := []) (σ' := sw σ 93 (nI i).toNatClampNeg xv) rfl (vp_in_nI (by omega) (by omega)) ?_
          rw [show (sw σ 93 (nI i).toNatClampNeg xv) = sw σ 93 i xv from (by rw [nI_clamp (by omega)])]
          refine rw_go hX [(66, .iconst 1)] (by decide +kernel) (Ps := []) (pc' := 67) (lv' := [(0, .ref 66), (1, .int (nI 0)), (2, .int (nI i)), (3, .int xv)]) (st' := [.int (nI 1)]) (σ' := sw σ 93 i xv) rfl True.intro ?_
          exact rw_iret hX (by decide +kernel) (⟨by simp only [aPut, eq_true hk4, hcs, eq_true h4, eq_true h16, eq_false hso1, eq_true h37, hci, eq_false hzi, eq_true hli, eq_false h56, if_true, if_false, Bool.false_eq_true, and_self, and_true, true_and, and_false, false_and, oel_n, oel_s, decide_true, decide_false], by simp only [sPutM, eq_true hk4, hcs, eq_true h4, eq_true h16, eq_false hso1, eq_true h37, hci, eq_false hzi, eq_true hli, eq_false h56, if_true, if_false, Bool.false_eq_true, and_self, and_true, true_and, and_false, false_and, oel_n, oel_s, decide_true, decide_false]⟩)
        · replace h56 : σ 97 0 = 0 := Classical.not_not.mp h56
          refine rw_go hX [(59, .iload_n 3), (60, .i2b), (61, .goto 4), (65, .iastore)] (by decide +kernel) (Ps := [vp_in (nI i) 40]) (pc' := 66) (lv' := [(0, .ref 66), (1, .int (nI 0)), (2, .int (nI i)), (3, .int xv)]) (st' := []) (σ' := sw σ 93 (nI i).toNatClampNeg (xv.toInt8.toInt32)) rfl (vp_in_nI (by omega) (by omega)) ?_
          rw [show (sw σ 93 (nI i).toNatClampNeg (xv.toInt8.toInt32)) = sw σ 93 i (xv.toInt8.toInt32) from (by rw [nI_clamp (by omega)])]
          refine rw_go hX [(66, .iconst 1)] (by decide +kernel) (Ps := []) (pc' := 67) (lv' := [(0, .ref 66), (1, .int (nI 0)), (2, .int (nI i)), (3, .int xv)]) (st' := [.int (nI 1)]) (σ' := sw σ 93 i (xv.toInt8.toInt32)) rfl True.intro ?_
          exact rw_iret hX (by decide +kernel) (⟨by simp only [aPut, eq_true hk4, hcs, eq_true h4, eq_true h16, eq_false hso1, eq_true h37, hci, eq_false hzi, eq_true hli, eq_true h56, if_true, if_false, Bool.false_eq_true, and_self, and_true, true_and, and_false, false_and, oel_n, oel_s, decide_true, decide_false], by simp only [sPutM, eq_true hk4, hcs, eq_true h4, eq_true h16, eq_false hso1, eq_true h37, hci, eq_false hzi, eq_true hli, eq_true h56, if_true, if_false, Bool.false_eq_true, and_self, and_true, true_and, and_false, false_and, oel_n, oel_s, decide_true, decide_false]⟩)
      · replace h37 := of_decide_eq_false (zb_neF h37)
        skip
        refine rw_go hX [(40, .bipush (-12))] (by decide +kernel) (Ps := []) (pc' := 42) (lv' := [(0, .ref 66), (1, .int (nI 0)), (2, .int xi), (3, .int xv)]) (st' := [.int (-(nI 12))]) (σ' := σ) rfl True.intro ?_
        exact rw_iret hX (by decide +kernel) (⟨by simp only [aPut, eq_true hk4, hcs, eq_true h4, eq_true h16, eq_false hso1, eq_false h37, ite2 h37, if_true, if_false, Bool.false_eq_true, and_self, and_true, true_and, and_false, false_and, oel_n, oel_s, decide_true, decide_false], by simp only [sPutM, eq_true hk4, hcs, eq_true h4, eq_true h16, eq_false hso1, eq_false h37, ite2 h37, if_true, if_false, Bool.false_eq_true, and_self, and_true, true_and, and_false, false_and, oel_n, oel_s, decide_true, decide_false]⟩)
    · replace h16 : ¬ (σ 97 0 ≥ 0) := h16
      have hso1 : σ 97 0 = -(nI 1) := (so_m hos).mp (Int32.not_le.mp h16)
      refine rw_go hX [(19, .bipush (-11))] (by decide +kernel) (Ps := []) (pc' := 21) (lv' := [(0, .ref 66), (1, .int (nI 0)), (2, .int xi), (3, .int xv)]) (st' := [.int (-(nI 11))]) (σ' := σ) rfl True.intro ?_
      exact rw_iret hX (by decide +kernel) (⟨by simp only [aPut, eq_true hk4, hcs, eq_true h4, eq_false h16, eq_true hso1, if_true, if_false, Bool.false_eq_true, and_self, and_true, true_and, and_false, false_and, oel_n, oel_s, decide_true, decide_false], by simp only [sPutM, eq_true hk4, hcs, eq_true h4, eq_false h16, eq_true hso1, if_true, if_false, Bool.false_eq_true, and_self, and_true, true_and, and_false, false_and, oel_n, oel_s, decide_true, decide_false]⟩)
  · exact absurd (by simp only [cz, cc2]; decide +kernel) h4
set_option maxRecDepth 20000 in
set_option maxHeartbeats 800000 in
theorem g_sheet_1 (l : Launch) (G : Gl) (σ : Mm) (xq xn : Int32) : AMi l G 3 mX10_sheet [.ref 66, .int (nI 1), .int xq, .int xn] σ (fun r σ' => r = aSheet (nI 1) xq xn ∧ σ' = sSheetM σ (nI 1) xq xn) := by
  refine rw_inI 10 (by decide +kernel) rfl rfl ?_
  intro E hE hX
  subst hE
  have hk4 := film_r 1 (by omega)
  have hcs : (nI 1).toNatClampNeg = 1 := nI_clamp (by omega)
  refine rw_go hX [(0, .iload_n 1)] (by decide +kernel) (Ps := []) (pc' := 1) (lv' := [(0, .ref 66), (1, .int (nI 1)), (2, .int xq), (3, .int xn)]) (st' := [.int (nI 1)]) (σ' := σ) rfl True.intro ?_
  refine rw_callSi hX (as := [.int (nI 1)]) (rest := []) (m_isSheet _ _ _ (nI 1)) (by decide +kernel) msX10_isSheet (Or.inl lk10_298) rfl (by decide) (Nat.le_of_ble_eq_true rfl) rfl ?_
  intro r1 σ1 hr
  rw [hr.1, show r1 = nI 1 from hr.2.trans (by decide +kernel)]
  clear hr σ1 r1
  refine rw_if hX (tgt := 29) (cnd := .eq) (off := 25) (by decide +kernel) (by decide) (fun h4 => ?_) (fun h4 => ?_)
  · exact absurd h4 (by simp only [cz, cc2]; decide +kernel)
  · skip
    refine rw_go hX [(7, .iload_n 2), (8, .i2l), (9, .ldc2_w 209), (12, .lconst 1)] (by decide +kernel) (Ps := []) (pc' := 13) (lv' := [(0, .ref 66), (1, .int (nI 1)), (2, .int xq), (3, .int xn)]) (st' := [.long (Int64.ofNat 1), .long (-1), .long (xq.toInt64)]) (σ' := σ) rfl True.intro ?_
    refine rw_callSi hX (as := [.long (xq.toInt64), .long (-1), .long (Int64.ofNat 1)]) (rest := []) (m_inI _ _ _ (xq) (-(nI 1)) (nI 1) _ _ _ rfl (by first | rfl | decide +kernel) (by first | rfl | decide +kernel)) (by decide +kernel) msX10_in (Or.inl lk10_105) rfl (by decide) (Nat.le_of_ble_eq_true rfl) rfl ?_
    intro r1 σ1 hr
    rw [hr.1, show r1 = bz (decide (-(nI 1) ≤ xq ∧ xq ≤ nI 1)) from hr.2]
    clear hr σ1 r1
    refine rw_if hX (tgt := 29) (cnd := .eq) (off := 13) (by decide +kernel) (by decide) (fun h16 => ?_) (fun h16 => ?_)
    · replace h16 := of_decide_eq_false (zb_eqT h16)
      skip
      refine rw_go hX [(29, .bipush (-2))] (by decide +kernel) (Ps := []) (pc' := 31) (lv' := [(0, .ref 66), (1, .int (nI 1)), (2, .int xq), (3, .int xn)]) (st' := [.int (-(nI 2))]) (σ' := σ) rfl True.intro ?_
      exact rw_iret hX (by decide +kernel) (⟨by simp only [aSheet, eq_true hk4, hcs, eq_true h4, eq_false h16, ite5 h16, if_true, if_false, Bool.false_eq_true, and_self, and_true, true_and, and_false, false_and, oel_n, oel_s, decide_true, decide_false], by simp only [sSheetM, eq_true hk4, hcs, eq_true h4, eq_false h16, ite5 h16, if_true, if_false, Bool.false_eq_true, and_self, and_true, true_and, and_false, false_and, oel_n, oel_s, decide_true, decide_false]⟩)
    · replace h16 := of_decide_eq_true (zb_eqF h16)
      have hqa : ¬ xq < -(nI 1) := Int32.not_lt.mpr h16.1
      have hqb : xq ≤ nI 1 := h16.2
      refine rw_go hX [(19, .iload_n 2)] (by decide +kernel) (Ps := []) (pc' := 20) (lv' := [(0, .ref 66), (1, .int (nI 1)), (2, .int xq), (3, .int xn)]) (st' := [.int xq]) (σ' := σ) rfl True.intro ?_
      refine rw_if hX (tgt := 32) (cnd := .lt) (off := 12) (by decide +kernel) (by decide) (fun h20 => ?_) (fun h20 => ?_)
      · replace h20 : (xq < 0) := h20
        have hqm : xq = -(nI 1) := neg_m1 h16.1 h20
        subst hqm
        refine rw_go hX [(32, .iload_n 2)] (by decide +kernel) (Ps := []) (pc' := 33) (lv' := [(0, .ref 66), (1, .int (nI 1)), (2, .int (-(nI 1))), (3, .int xn)]) (st' := [.int (-(nI 1))]) (σ' := σ) rfl True.intro ?_
        refine rw_if hX (tgt := 43) (cnd := .lt) (off := 10) (by decide +kernel) (by decide) (fun h33 => ?_) (fun h33 => ?_)
        · skip
          refine rw_go hX [(43, .aload_n 0), (44, .getfield 91), (47, .iload_n 1), (48, .iload_n 2), (49, .iastore)] (by decide +kernel) (Ps := [vp_in (nI 1) 4]) (pc' := 50) (lv' := [(0, .ref 66), (1, .int (nI 1)), (2, .int (-(nI 1))), (3, .int xn)]) (st' := []) (σ' := sw σ 97 (nI 1).toNatClampNeg (-(nI 1))) rfl (vp_in_nI (by omega) (by omega)) ?_
          rw [show (sw σ 97 (nI 1).toNatClampNeg (-(nI 1))) = sw σ 97 1 (-(nI 1)) from (by rw [nI_clamp (by omega)])]
          refine rw_go hX [(50, .aload_n 0), (51, .getfield 94), (54, .iload_n 1), (55, .iload_n 2)] (by decide +kernel) (Ps := []) (pc' := 56) (lv' := [(0, .ref 66), (1, .int (nI 1)), (2, .int (-(nI 1))), (3, .int xn)]) (st' := [.int (-(nI 1)), .int (nI 1), .ref 98]) (σ' := sw σ 97 1 (-(nI 1))) rfl True.intro ?_
          refine rw_if hX (tgt := 63) (cnd := .ge) (off := 7) (by decide +kernel) (by decide) (fun h56 => ?_) (fun h56 => ?_)
          · exact absurd h56 (by simp only [cz, cc2]; decide +kernel)
          · skip
            refine rw_go hX [(59, .iconst 0), (60, .goto 4), (64, .iastore)] (by decide +kernel) (Ps := [vp_in (nI 1) 4]) (pc' := 65) (lv' := [(0, .ref 66), (1, .int (nI 1)), (2, .int (-(nI 1))), (3, .int xn)]) (st' := []) (σ' := sw (sw σ 97 1 (-(nI 1))) 98 (nI 1).toNatClampNeg (nI 0)) rfl (vp_in_nI (by omega) (by omega)) ?_
            rw [show (sw (sw σ 97 1 (-(nI 1))) 98 (nI 1).toNatClampNeg (nI 0)) = sw (sw σ 97 1 (-(nI 1))) 98 1 (nI 0) from (by rw [nI_clamp (by omega)])]
            refine rw_go hX [(65, .iconst 0), (66, .istore 4)] (by decide +kernel) (Ps := []) (pc' := 68) (lv' := [(0, .ref 66), (1, .int (nI 1)), (2, .int (-(nI 1))), (3, .int xn), (4, .int (nI 0))]) (st' := []) (σ' := sw (sw σ 97 1 (-(nI 1))) 98 1 (nI 0)) rfl True.intro ?_
            have L68 : ∀ (μ68 : Nat) (i : Nat), μ68 = 40 - i → (i ≤ 40) → RW E G 3 5 (QI E G (fun r σ' => r = aSheet (nI 1) (-(nI 1)) xn ∧ σ' = sSheetM σ (nI 1) (-(nI 1)) xn)) 68 [(0, .ref 66), (1, .int (nI 1)), (2, .int (-(nI 1))), (3, .int xn), (4, .int (nI i))] [] (sr (sw (sw σ 97 1 (-(nI 1))) 98 1 (nI 0)) 94 (fl (σ 94) 0 i (nI 0))) := by
              intro μ68
              induction μ68 using Nat.strongRecOn with
              | ind μ68 ih68 =>
                intro i hμ68 hi
                refine rw_go hX [(68, .iload 4), (70, .bipush 40)] (by decide +kernel) (Ps := []) (pc' := 72) (lv' := [(0, .ref 66), (1, .int (nI 1)), (2, .int (-(nI 1))), (3, .int xn), (4, .int (nI i))]) (st' := [.int (nI 40), .int (nI i)]) (σ' := sr (sw (sw σ 97 1 (-(nI 1))) 98 1 (nI 0)) 94 (fl (σ 94) 0 i (nI 0))) rfl True.intro ?_
                refine rw_icmp hX (tgt := 91) (cnd := .ge) (off := 19) (by decide +kernel) (by decide) (fun h72 => ?_) (fun h72 => ?_)
                · replace h72 := c2_geT h72
                  have ei : i = 40 := by omega
                  refine rw_go hX [(91, .iconst 1)] (by decide +kernel) (Ps := []) (pc' := 92) (lv' := [(0, .ref 66), (1, .int (nI 1)), (2, .int (-(nI 1))), (3, .int xn), (4, .int (nI i))]) (st' := [.int (nI 1)]) (σ' := sr (sw (sw σ 97 1 (-(nI 1))) 98 1 (nI 0)) 94 (fl (σ 94) 0 i (nI 0))) rfl True.intro ?_
                  exact rw_iret hX (by decide +kernel) (⟨by simp only [aSheet, eq_true hk4, hcs, eq_true h4, eq_true h16, eq_false hqa, eq_true hqb, eq_true h20, (show True = True from by have hqm := True; rfl), eq_true h33, eq_true h56, eq_true h72, if_true, if_false, Bool.false_eq_true, and_self, and_true, true_and, and_false, false_and, oel_n, oel_s, decide_true, decide_false], by simp only [sSheetM, eq_true hk4, hcs, eq_true h4, eq_true h16, eq_false hqa, eq_true hqb, eq_true h20, (show True = True from by have hqm := True; rfl), eq_true h33, eq_true h56, eq_true h72, if_true, if_false, Bool.false_eq_true, and_self, and_true, true_and, and_false, false_and, oel_n, oel_s, decide_true, decide_false]; rw [ei]; rfl⟩)
                · replace h72 := c2_geF h72
                  refine rw_go hX [(75, .aload_n 0), (76, .getfield 88), (79, .iload_n 1), (80, .aaload), (81, .iload 4), (83, .iconst 0), (84, .iastore)] (by decide +kernel) (Ps := [vp_in (nI 1) 4, vp_in (nI i) 40]) (pc' := 85) (lv' := [(0, .ref 66), (1, .int (nI 1)), (2, .int (-(nI 1))), (3, .int xn), (4, .int (nI i))]) (st' := []) (σ' := sw (sr (sw (sw σ 97 1 (-(nI 1))) 98 1 (nI 0)) 94 (fl (σ 94) 0 i (nI 0))) 94 (nI i).toNatClampNeg (nI 0)) rfl (⟨vp_in_nI (by omega) (by omega), vp_in_nI (by omega) (by omega)⟩) ?_
                  rw [show (sw (sr (sw (sw σ 97 1 (-(nI 1))) 98 1 (nI 0)) 94 (fl (σ 94) 0 i (nI 0))) 94 (nI i).toNatClampNeg (nI 0)) = sw (sr (sw (sw σ 97 1 (-(nI 1))) 98 1 (nI 0)) 94 (fl (σ 94) 0 i (nI 0))) 94 i (nI 0) from (by rw [nI_clamp (by omega)])]
                  refine rw_go hX [(85, .iinc 4 1)] (by decide +kernel) (Ps := []) (pc' := 88) (lv' := [(0, .ref 66), (1, .int (nI 1)), (2, .int (-(nI 1))), (3, .int xn), (4, .int (nI i + nI 1))]) (st' := []) (σ' := sw (sr (sw (sw σ 97 1 (-(nI 1))) 98 1 (nI 0)) 94 (fl (σ 94) 0 i (nI 0))) 94 i (nI 0)) rfl True.intro ?_
                  rw [show (nI i + nI 1) = nI (i + 1) from nI_add _ _]
                  refine rw_go hX [(88, .goto (-20))] (by decide +kernel) (Ps := []) (pc' := 68) (lv' := [(0, .ref 66), (1, .int (nI 1)), (2, .int (-(nI 1))), (3, .int xn), (4, .int (nI (i + 1)))]) (st' := []) (σ' := sw (sr (sw (sw σ 97 1 (-(nI 1))) 98 1 (nI 0)) 94 (fl (σ 94) 0 i (nI 0))) 94 i (nI 0)) rfl True.intro ?_
                  refine rw_lsub (ks := [0, 1, 2, 3, 4]) (lv' := [(0, .ref 66), (1, .int (nI 1)), (2, .int (-(nI 1))), (3, .int xn), (4, .int (nI (i + 1)))]) rfl ?_
                  have q := ih68 (40 - (i + 1)) (by omega) (i + 1) rfl (by omega)
                  rw [← fl_1 _ _ (Nat.zero_le _)] at q
                  rw [sw_sr]
                  exact q
            refine rw_lsub (ks := [0, 1, 2, 3, 4]) (lv' := [(0, .ref 66), (1, .int (nI 1)), (2, .int (-(nI 1))), (3, .int xn), (4, .int (nI 0))]) rfl ?_
            have q := L68 40 0 rfl (by omega)
            rw [fl_0, show sr (sw (sw σ 97 1 (-(nI 1))) 98 1 (nI 0)) 94 (σ 94) = sw (sw σ 97 1 (-(nI 1))) 98 1 (nI 0) from by
              funext q
              by_cases z : q = 94
              · subst z; rw [sr_s, sw_ne _ _ _ (by decide), sw_ne _ _ _ (by decide)]
              · rw [sr_n _ _ z]] at q
            exact q
        · exact absurd (by simp only [cz, cc2]; decide +kernel) h33
      · replace h20 : ¬ (xq < 0) := h20
        have hqn : ¬ xq = -(nI 1) := fun z => by rw [z] at h20; exact h20 (by decide +kernel)
        refine rw_go hX [(23, .iload_n 3), (24, .bipush 40)] (by decide +kernel) (Ps := []) (pc' := 26) (lv' := [(0, .ref 66), (1, .int (nI 1)), (2, .int xq), (3, .int xn)]) (st' := [.int (nI 40), .int xn]) (σ' := σ) rfl True.intro ?_
        refine rw_icmp hX (tgt := 32) (cnd := .le) (off := 6) (by decide +kernel) (by decide) (fun h26 => ?_) (fun h26 => ?_)
        · replace h26 : (xn ≤ nI 40) := h26
          refine rw_go hX [(32, .iload_n 2)] (by decide +kernel) (Ps := []) (pc' := 33) (lv' := [(0, .ref 66), (1, .int (nI 1)), (2, .int xq), (3, .int xn)]) (st' := [.int xq]) (σ' := σ) rfl True.intro ?_
          refine rw_if hX (tgt := 43) (cnd := .lt) (off := 10) (by decide +kernel) (by decide) (fun h33 => ?_) (fun h33 => ?_)
          · replace h33 : (xq < 0) := h33
            exact absurd h33 h20
          · replace h33 : ¬ (xq < 0) := h33
            refine rw_go hX [(36, .iload_n 3)] (by decide +kernel) (Ps := []) (pc' := 37) (lv' := [(0, .ref 66), (1, .int (nI 1)), (2, .int xq), (3, .int xn)]) (st' := [.int xn]) (σ' := σ) rfl True.intro ?_
            refine rw_if hX (tgt := 43) (cnd := .ge) (off := 6) (by decide +kernel) (by decide) (fun h37 => ?_) (fun h37 => ?_)
            · replace h37 : (xn ≥ 0) := h37
              obtain ⟨m, hm, rfl⟩ := rng (m := 40) (by omega) ⟨by exact h37, h26⟩
              have hcm : (nI m).toNatClampNeg = m := nI_clamp (by omega)
              have hm0 : ¬ nI m < 0 := nI_pos (by omega)
              refine rw_go hX [(43, .aload_n 0), (44, .getfield 91), (47, .iload_n 1), (48, .iload_n 2), (49, .iastore)] (by decide +kernel) (Ps := [vp_in (nI 1) 4]) (pc' := 50) (lv' := [(0, .ref 66), (1, .int (nI 1)), (2, .int xq), (3, .int (nI m))]) (st' := []) (σ' := sw σ 97 (nI 1).toNatClampNeg xq) rfl (vp_in_nI (by omega) (by omega)) ?_
              rw [show (sw σ 97 (nI 1).toNatClampNeg xq) = sw σ 97 1 xq from (by rw [nI_clamp (by omega)])]
              refine rw_go hX [(50, .aload_n 0), (51, .getfield 94), (54, .iload_n 1), (55, .iload_n 2)] (by decide +kernel) (Ps := []) (pc' := 56) (lv' := [(0, .ref 66), (1, .int (nI 1)), (2, .int xq), (3, .int (nI m))]) (st' := [.int xq, .int (nI 1), .ref 98]) (σ' := sw σ 97 1 xq) rfl True.intro ?_
              refine rw_if hX (tgt := 63) (cnd := .ge) (off := 7) (by decide +kernel) (by decide) (fun h56 => ?_) (fun h56 => ?_)
              · replace h56 : (xq ≥ 0) := h56
                refine rw_go hX [(63, .iload_n 3), (64, .iastore)] (by decide +kernel) (Ps := [vp_in (nI 1) 4]) (pc' := 65) (lv' := [(0, .ref 66), (1, .int (nI 1)), (2, .int xq), (3, .int (nI m))]) (st' := []) (σ' := sw (sw σ 97 1 xq) 98 (nI 1).toNatClampNeg (nI m)) rfl (vp_in_nI (by omega) (by omega)) ?_
                rw [show (sw (sw σ 97 1 xq) 98 (nI 1).toNatClampNeg (nI m)) = sw (sw σ 97 1 xq) 98 1 (nI m) from (by rw [nI_clamp (by omega)])]
                refine rw_go hX [(65, .iconst 0), (66, .istore 4)] (by decide +kernel) (Ps := []) (pc' := 68) (lv' := [(0, .ref 66), (1, .int (nI 1)), (2, .int xq), (3, .int (nI m)), (4, .int (nI 0))]) (st' := []) (σ' := sw (sw σ 97 1 xq) 98 1 (nI m)) rfl True.intro ?_
                have L68 : ∀ (μ68 : Nat) (i : Nat), μ68 = 40 - i → (i ≤ 40) → RW E G 3 5 (QI E G (fun r σ' => r = aSheet (nI 1) xq (nI m) ∧ σ' = sSheetM σ (nI 1) xq (nI m))) 68 [(0, .ref 66), (1, .int (nI 1)), (2, .int xq), (3, .int (nI m)), (4, .int (nI i))] [] (sr (sw (sw σ 97 1 xq) 98 1 (nI m)) 94 (fl (σ 94) 0 i (nI 0))) := by
                  intro μ68
                  induction μ68 using Nat.strongRecOn with
                  | ind μ68 ih68 =>
                    intro i hμ68 hi
                    refine rw_go hX [(68, .iload 4), (70, .bipush 40)] (by decide +kernel) (Ps := []) (pc' := 72) (lv' := [(0, .ref 66), (1, .int (nI 1)), (2, .int xq), (3, .int (nI m)), (4, .int (nI i))]) (st' := [.int (nI 40), .int (nI i)]) (σ' := sr (sw (sw σ 97 1 xq) 98 1 (nI m)) 94 (fl (σ 94) 0 i (nI 0))) rfl True.intro ?_
                    refine rw_icmp hX (tgt := 91) (cnd := .ge) (off := 19) (by decide +kernel) (by decide) (fun h72 => ?_) (fun h72 => ?_)
                    · replace h72 := c2_geT h72
                      have ei : i = 40 := by omega
                      refine rw_go hX [(91, .iconst 1)] (by decide +kernel) (Ps := []) (pc' := 92) (lv' := [(0, .ref 66), (1, .int (nI 1)), (2, .int xq), (3, .int (nI m)), (4, .int (nI i))]) (st' := [.int (nI 1)]) (σ' := sr (sw (sw σ 97 1 xq) 98 1 (nI m)) 94 (fl (σ 94) 0 i (nI 0))) rfl True.intro ?_
                      exact rw_iret hX (by decide +kernel) (⟨by simp only [aSheet, eq_true hk4, hcs, eq_true h4, eq_true h16, eq_false hqa, eq_true hqb, eq_false h20, eq_false hqn, eq_true h26, eq_false h33, eq_true h37, hcm, eq_false hm0, eq_true h56, eq_true h72, if_true, if_false, Bool.false_eq_true, and_self, and_true, true_and, and_false, false_and, oel_n, oel_s, decide_true, decide_false], by simp only [sSheetM, eq_true hk4, hcs, eq_true h4, eq_true h16, eq_false hqa, eq_true hqb, eq_false h20, eq_false hqn, eq_true h26, eq_false h33, eq_true h37, hcm, eq_false hm0, eq_true h56, eq_true h72, if_true, if_false, Bool.false_eq_true, and_self, and_true, true_and, and_false, false_and, oel_n, oel_s, decide_true, decide_false]; rw [ei]; rfl⟩)
                    · replace h72 := c2_geF h72
                      refine rw_go hX [(75, .aload_n 0), (76, .getfield 88), (79, .iload_n 1), (80, .aaload), (81, .iload 4), (83, .iconst 0), (84, .iastore)] (by decide +kernel) (Ps := [vp_in (nI 1) 4, vp_in (nI i) 40]) (pc' := 85) (lv' := [(0, .ref 66), (1, .int (nI 1)), (2, .int xq), (3, .int (nI m)), (4, .int (nI i))]) (st' := []) (σ' := sw (sr (sw (sw σ 97 1 xq) 98 1 (nI m)) 94 (fl (σ 94) 0 i (nI 0))) 94 (nI i).toNatClampNeg (nI 0)) rfl (⟨vp_in_nI (by omega) (by omega), vp_in_nI (by omega) (by omega)⟩) ?_
                      rw [show (sw (sr (sw (sw σ 97 1 xq) 98 1 (nI m)) 94 (fl (σ 94) 0 i (nI 0))) 94 (nI i).toNatClampNeg (nI 0)) = sw (sr (sw (sw σ 97 1 xq) 98 1 (nI m)) 94 (fl (σ 94) 0 i (nI 0))) 94 i (nI 0) from (by rw [nI_clamp (by omega)])]
                      refine rw_go hX [(85, .iinc 4 1)] (by decide +kernel) (Ps := []) (pc' := 88) (lv' := [(0, .ref 66), (1, .int (nI 1)), (2, .int xq), (3, .int (nI m)), (4, .int (nI i + nI 1))]) (st' := []) (σ' := sw (sr (sw (sw σ 97 1 xq) 98 1 (nI m)) 94 (fl (σ 94) 0 i (nI 0))) 94 i (nI 0)) rfl True.intro ?_
                      rw [show (nI i + nI 1) = nI (i + 1) from nI_add _ _]
                      refine rw_go hX [(88, .goto (-20))] (by decide +kernel) (Ps := []) (pc' := 68) (lv' := [(0, .ref 66), (1, .int (nI 1)), (2, .int xq), (3, .int (nI m)), (4, .int (nI (i + 1)))]) (st' := []) (σ' := sw (sr (sw (sw σ 97 1 xq) 98 1 (nI m)) 94 (fl (σ 94) 0 i (nI 0))) 94 i (nI 0)) rfl True.intro ?_
                      refine rw_lsub (ks := [0, 1, 2, 3, 4]) (lv' := [(0, .ref 66), (1, .int (nI 1)), (2, .int xq), (3, .int (nI m)), (4, .int (nI (i + 1)))]) rfl ?_
                      have q := ih68 (40 - (i + 1)) (by omega) (i + 1) rfl (by omega)
                      rw [← fl_1 _ _ (Nat.zero_le _)] at q
                      rw [sw_sr]
                      exact q
                refine rw_lsub (ks := [0, 1, 2, 3, 4]) (lv' := [(0, .ref 66), (1, .int (nI 1)), (2, .int xq), (3, .int (nI m)), (4, .int (nI 0))]) rfl ?_
                have q := L68 40 0 rfl (by omega)
                rw [fl_0, show sr (sw (sw σ 97 1 xq) 98 1 (nI m)) 94 (σ 94) = sw (sw σ 97 1 xq) 98 1 (nI m) from by
                  funext q
                  by_cases z : q = 94
                  · subst z; rw [sr_s, sw_ne _ _ _ (by decide), sw_ne _ _ _ (by decide)]
                  · rw [sr_n _ _ z]] at q
                exact q
              · replace h56 : ¬ (xq ≥ 0) := h56
                exact absurd (Int32.not_lt.mp h20) h56
            · replace h37 : ¬ (xn ≥ 0) := h37
              have hm0 : xn < 0 := Int32.not_le.mp h37
              refine rw_go hX [(40, .bipush (-14))] (by decide +kernel) (Ps := []) (pc' := 42) (lv' := [(0, .ref 66), (1, .int (nI 1)), (2, .int xq), (3, .int xn)]) (st' := [.int (-(nI 14))]) (σ' := σ) rfl True.intro ?_
              exact rw_iret hX (by decide +kernel) (⟨by simp only [aSheet, eq_true hk4, hcs, eq_true h4, eq_true h16, eq_false hqa, eq_true hqb, eq_false h20, eq_false hqn, eq_true h26, eq_false h33, eq_false h37, eq_true hm0, if_true, if_false, Bool.false_eq_true, and_self, and_true, true_and, and_false, false_and, oel_n, oel_s, decide_true, decide_false], by simp only [sSheetM, eq_true hk4, hcs, eq_true h4, eq_true h16, eq_false hqa, eq_true hqb, eq_false h20, eq_false hqn, eq_true h26, eq_false h33, eq_false h37, eq_true hm0, if_true, if_false, Bool.false_eq_true, and_self, and_true, true_and, and_false, false_and, oel_n, oel_s, decide_true, decide_false]⟩)
        · replace h26 : ¬ (xn ≤ nI 40) := h26
          refine rw_go hX [(29, .bipush (-2))] (by decide +kernel) (Ps := []) (pc' := 31) (lv' := [(0, .ref 66), (1, .int (nI 1)), (2, .int xq), (3, .int xn)]) (st' := [.int (-(nI 2))]) (σ' := σ) rfl True.intro ?_
          exact rw_iret hX (by decide +kernel) (⟨by simp only [aSheet, eq_true hk4, hcs, eq_true h4, eq_true h16, eq_false hqa, eq_true hqb, eq_false h20, eq_false hqn, eq_false h26, if_true, if_false, Bool.false_eq_true, and_self, and_true, true_and, and_false, false_and, oel_n, oel_s, decide_true, decide_false], by simp only [sSheetM, eq_true hk4, hcs, eq_true h4, eq_true h16, eq_false hqa, eq_true hqb, eq_false h20, eq_false hqn, eq_false h26, if_true, if_false, Bool.false_eq_true, and_self, and_true, true_and, and_false, false_and, oel_n, oel_s, decide_true, decide_false]⟩)
set_option maxRecDepth 20000 in
set_option maxHeartbeats 800000 in
theorem g_put_1 (l : Launch) (G : Gl) (σ : Mm) (n : Nat → Nat) (xi xv : Int32) (hsh : ∀ s, s < 4 → σ 98 s = nI (n s) ∧ n s ≤ 40) (hso : ∀ s, s < 4 → σ 97 s = -(nI 1) ∨ σ 97 s = nI 0 ∨ σ 97 s = nI 1) : AMi l G 3 mX10_put [.ref 66, .int (nI 1), .int xi, .int xv] σ (fun r σ' => r = aPut n (σ 97) (nI 1) xi ∧ σ' = sPutM n σ (nI 1) xi xv) := by
  refine rw_inI 10 (by decide +kernel) rfl rfl ?_
  intro E hE hX
  subst hE
  have hk4 := film_r 1 (by omega)
  have hcs : (nI 1).toNatClampNeg = 1 := nI_clamp (by omega)
  have hns := hsh 1 (by omega)
  have hos := hso 1 (by omega)
  refine rw_go hX [(0, .iload_n 1)] (by decide +kernel) (Ps := []) (pc' := 1) (lv' := [(0, .ref 66), (1, .int (nI 1)), (2, .int xi), (3, .int xv)]) (st' := [.int (nI 1)]) (σ' := σ) rfl True.intro ?_
  refine rw_callSi hX (as := [.int (nI 1)]) (rest := []) (m_isSheet _ _ _ (nI 1)) (by decide +kernel) msX10_isSheet (Or.inl lk10_298) rfl (by decide) (Nat.le_of_ble_eq_true rfl) rfl ?_
  intro r1 σ1 hr
  rw [hr.1, show r1 = nI 1 from hr.2.trans (by decide +kernel)]
  clear hr σ1 r1
  refine rw_if hX (tgt := 10) (cnd := .ne) (off := 6) (by decide +kernel) (by decide) (fun h4 => ?_) (fun h4 => ?_)
  · skip
    refine rw_go hX [(10, .aload_n 0), (11, .getfield 91), (14, .iload_n 1), (15, .iaload)] (by decide +kernel) (Ps := [vp_in (nI 1) 4]) (pc' := 16) (lv' := [(0, .ref 66), (1, .int (nI 1)), (2, .int xi), (3, .int xv)]) (st' := [.int (σ 97 (nI 1).toNatClampNeg)]) (σ' := σ) rfl (vp_in_nI (by omega) (by omega)) ?_
    rw [show (σ 97 (nI 1).toNatClampNeg) = σ 97 1 from (by rw [nI_clamp (by omega)])]
    refine rw_if hX (tgt := 22) (cnd := .ge) (off := 6) (by decide +kernel) (by decide) (fun h16 => ?_) (fun h16 => ?_)
    · replace h16 : (σ 97 1 ≥ 0) := h16
      have hso1 : ¬ σ 97 1 = -(nI 1) := fun z => absurd ((so_m hos).mpr z) (Int32.not_lt.mpr h16)
      refine rw_go hX [(22, .iload_n 2), (23, .i2l), (24, .lconst 0), (25, .aload_n 0), (26, .getfield 94), (29, .iload_n 1), (30, .iaload)] (by decide +kernel) (Ps := [vp_in (nI 1) 4]) (pc' := 31) (lv' := [(0, .ref 66), (1, .int (nI 1)), (2, .int xi), (3, .int xv)]) (st' := [.int (σ 98 (nI 1).toNatClampNeg), .long (Int64.ofNat 0), .long (xi.toInt64)]) (σ' := σ) rfl (vp_in_nI (by omega) (by omega)) ?_
      rw [show (σ 98 (nI 1).toNatClampNeg) = nI (n 1) from (by rw [nI_clamp (by omega), hns.1])]
      refine rw_go hX [(31, .iconst 1), (32, .isub), (33, .i2l)] (by decide +kernel) (Ps := []) (pc' := 34) (lv' := [(0, .ref 66), (1, .int (nI 1)), (2, .int xi), (3, .int xv)]) (st' := [.long ((nI (n 1) - nI 1).toInt64), .long (Int64.ofNat 0), .long (xi.toInt64)]) (σ' := σ) rfl True.intro ?_
      refine rw_callSi hX (as := [.long (xi.toInt64), .long (Int64.ofNat 0), .long ((nI (n 1) - nI 1).toInt64)]) (rest := []) (m_inI _ _ _ (xi) (0) (nI (n 1) - nI 1) _ _ _ rfl (by first | rfl | decide +kernel) (by first | rfl | decide +kernel)) (by decide +kernel) msX10_in (Or.inl lk10_105) rfl (by decide) (Nat.le_of_ble_eq_true rfl) rfl ?_
      intro r1 σ1 hr
      rw [hr.1, show r1 = bz (decide (0 ≤ xi ∧ xi < nI (n 1))) from hr.2.trans (by rw [decide_eq_decide.mpr (in_C (by omega))])]
      clear hr σ1 r1
      refine rw_if hX (tgt := 43) (cnd := .ne) (off := 6) (by decide +kernel) (by decide) (fun h37 => ?_) (fun h37 => ?_)
      · replace h37 := of_decide_eq_true (zb_neT h37)
        obtain ⟨i, hi, rfl⟩ := rngO (m := n 1) (by omega) h37
        have hci : (nI i).toNatClampNeg = i := nI_clamp (by omega)
        have hzi : ¬ nI i < 0 := nI_pos (by omega)
        have hli : nI i < nI (n 1) := h37.2
        refine rw_go hX [(43, .aload_n 0), (44, .getfield 88), (47, .iload_n 1), (48, .aaload), (49, .iload_n 2), (50, .aload_n 0), (51, .getfield 91), (54, .iload_n 1), (55, .iaload)] (by decide +kernel) (Ps := [vp_in (nI 1) 4, vp_in (nI 1) 4]) (pc' := 56) (lv' := [(0, .ref 66), (1, .int (nI 1)), (2, .int (nI i)), (3, .int xv)]) (st' := [.int (σ 97 (nI 1).toNatClampNeg), .int (nI i), .ref 94]) (σ' := σ) rfl (⟨vp_in_nI (by omega) (by omega), vp_in_nI (by omega) (by omega)⟩) ?_
        rw [show (σ 97 (nI 1).toNatClampNeg) = σ 97 1 from (by rw [nI_clamp (by omega)])]
        refine rw_if hX (tgt := 64) (cnd := .ne) (off := 8) (by decide +kernel) (by decide) (fun h56 => ?_) (fun h56 => ?_)
        · replace h56 : (σ 97 1 ≠ 0) := h56
          refine rw_go hX [(64, .iload_n 3), (65, .iastore)] (by decide +kernel) (Ps := [vp_in (nI i) 40]) (pc' := 66) (lv' := [(0, .ref 66), (1, .int (nI 1)), (2, .int (nI i)), (3, .int xv)]) (st' := []) (σ' := sw σ 94 (nI i).toNatClampNeg xv) rfl (vp_in_nI (by omega) (by omega)) ?_
          rw [show (sw σ 94 (nI i).toNatClampNeg xv) = sw σ 94 i xv from (by rw [nI_clamp (by omega)])]
          refine rw_go hX [(66, .iconst 1)] (by decide +kernel) (Ps := []) (pc' := 67) (lv' := [(0, .ref 66), (1, .int (nI 1)), (2, .int (nI i)), (3, .int xv)]) (st' := [.int (nI 1)]) (σ' := sw σ 94 i xv) rfl True.intro ?_
          exact rw_iret hX (by decide +kernel) (⟨by simp only [aPut, eq_true hk4, hcs, eq_true h4, eq_true h16, eq_false hso1, eq_true h37, hci, eq_false hzi, eq_true hli, eq_false h56, if_true, if_false, Bool.false_eq_true, and_self, and_true, true_and, and_false, false_and, oel_n, oel_s, decide_true, decide_false], by simp only [sPutM, eq_true hk4, hcs, eq_true h4, eq_true h16, eq_false hso1, eq_true h37, hci, eq_false hzi, eq_true hli, eq_false h56, if_true, if_false, Bool.false_eq_true, and_self, and_true, true_and, and_false, false_and, oel_n, oel_s, decide_true, decide_false]⟩)
        · replace h56 : σ 97 1 = 0 := Classical.not_not.mp h56
          refine rw_go hX [(59, .iload_n 3), (60, .i2b), (61, .goto 4), (65, .iastore)] (by decide +kernel) (Ps := [vp_in (nI i) 40]) (pc' := 66) (lv' := [(0, .ref 66), (1, .int (nI 1)), (2, .int (nI i)), (3, .int xv)]) (st' := []) (σ' := sw σ 94 (nI i).toNatClampNeg (xv.toInt8.toInt32)) rfl (vp_in_nI (by omega) (by omega)) ?_
          rw [show (sw σ 94 (nI i).toNatClampNeg (xv.toInt8.toInt32)) = sw σ 94 i (xv.toInt8.toInt32) from (by rw [nI_clamp (by omega)])]
          refine rw_go hX [(66, .iconst 1)] (by decide +kernel) (Ps := []) (pc' := 67) (lv' := [(0, .ref 66), (1, .int (nI 1)), (2, .int (nI i)), (3, .int xv)]) (st' := [.int (nI 1)]) (σ' := sw σ 94 i (xv.toInt8.toInt32)) rfl True.intro ?_
          exact rw_iret hX (by decide +kernel) (⟨by simp only [aPut, eq_true hk4, hcs, eq_true h4, eq_true h16, eq_false hso1, eq_true h37, hci, eq_false hzi, eq_true hli, eq_true h56, if_true, if_false, Bool.false_eq_true, and_self, and_true, true_and, and_false, false_and, oel_n, oel_s, decide_true, decide_false], by simp only [sPutM, eq_true hk4, hcs, eq_true h4, eq_true h16, eq_false hso1, eq_true h37, hci, eq_false hzi, eq_true hli, eq_true h56, if_true, if_false, Bool.false_eq_true, and_self, and_true, true_and, and_false, false_and, oel_n, oel_s, decide_true, decide_false]⟩)
      · replace h37 := of_decide_eq_false (zb_neF h37)
        skip
        refine rw_go hX [(40, .bipush (-12))] (by decide +kernel) (Ps := []) (pc' := 42) (lv' := [(0, .ref 66), (1, .int (nI 1)), (2, .int xi), (3, .int xv)]) (st' := [.int (-(nI 12))]) (σ' := σ) rfl True.intro ?_
        exact rw_iret hX (by decide +kernel) (⟨by simp only [aPut, eq_true hk4, hcs, eq_true h4, eq_true h16, eq_false hso1, eq_false h37, ite2 h37, if_true, if_false, Bool.false_eq_true, and_self, and_true, true_and, and_false, false_and, oel_n, oel_s, decide_true, decide_false], by simp only [sPutM, eq_true hk4, hcs, eq_true h4, eq_true h16, eq_false hso1, eq_false h37, ite2 h37, if_true, if_false, Bool.false_eq_true, and_self, and_true, true_and, and_false, false_and, oel_n, oel_s, decide_true, decide_false]⟩)
    · replace h16 : ¬ (σ 97 1 ≥ 0) := h16
      have hso1 : σ 97 1 = -(nI 1) := (so_m hos).mp (Int32.not_le.mp h16)
      refine rw_go hX [(19, .bipush (-11))] (by decide +kernel) (Ps := []) (pc' := 21) (lv' := [(0, .ref 66), (1, .int (nI 1)), (2, .int xi), (3, .int xv)]) (st' := [.int (-(nI 11))]) (σ' := σ) rfl True.intro ?_
      exact rw_iret hX (by decide +kernel) (⟨by simp only [aPut, eq_true hk4, hcs, eq_true h4, eq_false h16, eq_true hso1, if_true, if_false, Bool.false_eq_true, and_self, and_true, true_and, and_false, false_and, oel_n, oel_s, decide_true, decide_false], by simp only [sPutM, eq_true hk4, hcs, eq_true h4, eq_false h16, eq_true hso1, if_true, if_false, Bool.false_eq_true, and_self, and_true, true_and, and_false, false_and, oel_n, oel_s, decide_true, decide_false]⟩)
  · exact absurd (by simp only [cz, cc2]; decide +kernel) h4
set_option maxRecDepth 20000 in
set_option maxHeartbeats 800000 in
theorem g_sheet_2 (l : Launch) (G : Gl) (σ : Mm) (xq xn : Int32) : AMi l G 3 mX10_sheet [.ref 66, .int (nI 2), .int xq, .int xn] σ (fun r σ' => r = aSheet (nI 2) xq xn ∧ σ' = sSheetM σ (nI 2) xq xn) := by
  refine rw_inI 10 (by decide +kernel) rfl rfl ?_
  intro E hE hX
  subst hE
  have hk4 := film_r 2 (by omega)
  have hcs : (nI 2).toNatClampNeg = 2 := nI_clamp (by omega)
  refine rw_go hX [(0, .iload_n 1)] (by decide +kernel) (Ps := []) (pc' := 1) (lv' := [(0, .ref 66), (1, .int (nI 2)), (2, .int xq), (3, .int xn)]) (st' := [.int (nI 2)]) (σ' := σ) rfl True.intro ?_
  refine rw_callSi hX (as := [.int (nI 2)]) (rest := []) (m_isSheet _ _ _ (nI 2)) (by decide +kernel) msX10_isSheet (Or.inl lk10_298) rfl (by decide) (Nat.le_of_ble_eq_true rfl) rfl ?_
  intro r1 σ1 hr
  rw [hr.1, show r1 = nI 1 from hr.2.trans (by decide +kernel)]
  clear hr σ1 r1
  refine rw_if hX (tgt := 29) (cnd := .eq) (off := 25) (by decide +kernel) (by decide) (fun h4 => ?_) (fun h4 => ?_)
  · exact absurd h4 (by simp only [cz, cc2]; decide +kernel)
  · skip
    refine rw_go hX [(7, .iload_n 2), (8, .i2l), (9, .ldc2_w 209), (12, .lconst 1)] (by decide +kernel) (Ps := []) (pc' := 13) (lv' := [(0, .ref 66), (1, .int (nI 2)), (2, .int xq), (3, .int xn)]) (st' := [.long (Int64.ofNat 1), .long (-1), .long (xq.toInt64)]) (σ' := σ) rfl True.intro ?_
    refine rw_callSi hX (as := [.long (xq.toInt64), .long (-1), .long (Int64.ofNat 1)]) (rest := []) (m_inI _ _ _ (xq) (-(nI 1)) (nI 1) _ _ _ rfl (by first | rfl | decide +kernel) (by first | rfl | decide +kernel)) (by decide +kernel) msX10_in (Or.inl lk10_105) rfl (by decide) (Nat.le_of_ble_eq_true rfl) rfl ?_
    intro r1 σ1 hr
    rw [hr.1, show r1 = bz (decide (-(nI 1) ≤ xq ∧ xq ≤ nI 1)) from hr.2]
    clear hr σ1 r1
    refine rw_if hX (tgt := 29) (cnd := .eq) (off := 13) (by decide +kernel) (by decide) (fun h16 => ?_) (fun h16 => ?_)
    · replace h16 := of_decide_eq_false (zb_eqT h16)
      skip
      refine rw_go hX [(29, .bipush (-2))] (by decide +kernel) (Ps := []) (pc' := 31) (lv' := [(0, .ref 66), (1, .int (nI 2)), (2, .int xq), (3, .int xn)]) (st' := [.int (-(nI 2))]) (σ' := σ) rfl True.intro ?_
      exact rw_iret hX (by decide +kernel) (⟨by simp only [aSheet, eq_true hk4, hcs, eq_true h4, eq_false h16, ite5 h16, if_true, if_false, Bool.false_eq_true, and_self, and_true, true_and, and_false, false_and, oel_n, oel_s, decide_true, decide_false], by simp only [sSheetM, eq_true hk4, hcs, eq_true h4, eq_false h16, ite5 h16, if_true, if_false, Bool.false_eq_true, and_self, and_true, true_and, and_false, false_and, oel_n, oel_s, decide_true, decide_false]⟩)
    · replace h16 := of_decide_eq_true (zb_eqF h16)
      have hqa : ¬ xq < -(nI 1) := Int32.not_lt.mpr h16.1
      have hqb : xq ≤ nI 1 := h16.2
      refine rw_go hX [(19, .iload_n 2)] (by decide +kernel) (Ps := []) (pc' := 20) (lv' := [(0, .ref 66), (1, .int (nI 2)), (2, .int xq), (3, .int xn)]) (st' := [.int xq]) (σ' := σ) rfl True.intro ?_
      refine rw_if hX (tgt := 32) (cnd := .lt) (off := 12) (by decide +kernel) (by decide) (fun h20 => ?_) (fun h20 => ?_)
      · replace h20 : (xq < 0) := h20
        have hqm : xq = -(nI 1) := neg_m1 h16.1 h20
        subst hqm
        refine rw_go hX [(32, .iload_n 2)] (by decide +kernel) (Ps := []) (pc' := 33) (lv' := [(0, .ref 66), (1, .int (nI 2)), (2, .int (-(nI 1))), (3, .int xn)]) (st' := [.int (-(nI 1))]) (σ' := σ) rfl True.intro ?_
        refine rw_if hX (tgt := 43) (cnd := .lt) (off := 10) (by decide +kernel) (by decide) (fun h33 => ?_) (fun h33 => ?_)
        · skip
          refine rw_go hX [(43, .aload_n 0), (44, .getfield 91), (47, .iload_n 1), (48, .iload_n 2), (49, .iastore)] (by decide +kernel) (Ps := [vp_in (nI 2) 4]) (pc' := 50) (lv' := [(0, .ref 66), (1, .int (nI 2)), (2, .int (-(nI 1))), (3, .int xn)]) (st' := []) (σ' := sw σ 97 (nI 2).toNatClampNeg (-(nI 1))) rfl (vp_in_nI (by omega) (by omega)) ?_
          rw [show (sw σ 97 (nI 2).toNatClampNeg (-(nI 1))) = sw σ 97 2 (-(nI 1)) from (by rw [nI_clamp (by omega)])]
          refine rw_go hX [(50, .aload_n 0), (51, .getfield 94), (54, .iload_n 1), (55, .iload_n 2)] (by decide +kernel) (Ps := []) (pc' := 56) (lv' := [(0, .ref 66), (1, .int (nI 2)), (2, .int (-(nI 1))), (3, .int xn)]) (st' := [.int (-(nI 1)), .int (nI 2), .ref 98]) (σ' := sw σ 97 2 (-(nI 1))) rfl True.intro ?_
          refine rw_if hX (tgt := 63) (cnd := .ge) (off := 7) (by decide +kernel) (by decide) (fun h56 => ?_) (fun h56 => ?_)
          · exact absurd h56 (by simp only [cz, cc2]; decide +kernel)
          · skip
            refine rw_go hX [(59, .iconst 0), (60, .goto 4), (64, .iastore)] (by decide +kernel) (Ps := [vp_in (nI 2) 4]) (pc' := 65) (lv' := [(0, .ref 66), (1, .int (nI 2)), (2, .int (-(nI 1))), (3, .int xn)]) (st' := []) (σ' := sw (sw σ 97 2 (-(nI 1))) 98 (nI 2).toNatClampNeg (nI 0)) rfl (vp_in_nI (by omega) (by omega)) ?_
            rw [show (sw (sw σ 97 2 (-(nI 1))) 98 (nI 2).toNatClampNeg (nI 0)) = sw (sw σ 97 2 (-(nI 1))) 98 2 (nI 0) from (by rw [nI_clamp (by omega)])]
            refine rw_go hX [(65, .iconst 0), (66, .istore 4)] (by decide +kernel) (Ps := []) (pc' := 68) (lv' := [(0, .ref 66), (1, .int (nI 2)), (2, .int (-(nI 1))), (3, .int xn), (4, .int (nI 0))]) (st' := []) (σ' := sw (sw σ 97 2 (-(nI 1))) 98 2 (nI 0)) rfl True.intro ?_
            have L68 : ∀ (μ68 : Nat) (i : Nat), μ68 = 40 - i → (i ≤ 40) → RW E G 3 5 (QI E G (fun r σ' => r = aSheet (nI 2) (-(nI 1)) xn ∧ σ' = sSheetM σ (nI 2) (-(nI 1)) xn)) 68 [(0, .ref 66), (1, .int (nI 2)), (2, .int (-(nI 1))), (3, .int xn), (4, .int (nI i))] [] (sr (sw (sw σ 97 2 (-(nI 1))) 98 2 (nI 0)) 95 (fl (σ 95) 0 i (nI 0))) := by
              intro μ68
              induction μ68 using Nat.strongRecOn with
              | ind μ68 ih68 =>
                intro i hμ68 hi
                refine rw_go hX [(68, .iload 4), (70, .bipush 40)] (by decide +kernel) (Ps := []) (pc' := 72) (lv' := [(0, .ref 66), (1, .int (nI 2)), (2, .int (-(nI 1))), (3, .int xn), (4, .int (nI i))]) (st' := [.int (nI 40), .int (nI i)]) (σ' := sr (sw (sw σ 97 2 (-(nI 1))) 98 2 (nI 0)) 95 (fl (σ 95) 0 i (nI 0))) rfl True.intro ?_
                refine rw_icmp hX (tgt := 91) (cnd := .ge) (off := 19) (by decide +kernel) (by decide) (fun h72 => ?_) (fun h72 => ?_)
                · replace h72 := c2_geT h72
                  have ei : i = 40 := by omega
                  refine rw_go hX [(91, .iconst 1)] (by decide +kernel) (Ps := []) (pc' := 92) (lv' := [(0, .ref 66), (1, .int (nI 2)), (2, .int (-(nI 1))), (3, .int xn), (4, .int (nI i))]) (st' := [.int (nI 1)]) (σ' := sr (sw (sw σ 97 2 (-(nI 1))) 98 2 (nI 0)) 95 (fl (σ 95) 0 i (nI 0))) rfl True.intro ?_
                  exact rw_iret hX (by decide +kernel) (⟨by simp only [aSheet, eq_true hk4, hcs, eq_true h4, eq_true h16, eq_false hqa, eq_true hqb, eq_true h20, (show True = True from by have hqm := True; rfl), eq_true h33, eq_true h56, eq_true h72, if_true, if_false, Bool.false_eq_true, and_self, and_true, true_and, and_false, false_and, oel_n, oel_s, decide_true, decide_false], by simp only [sSheetM, eq_true hk4, hcs, eq_true h4, eq_true h16, eq_false hqa, eq_true hqb, eq_true h20, (show True = True from by have hqm := True; rfl), eq_true h33, eq_true h56, eq_true h72, if_true, if_false, Bool.false_eq_true, and_self, and_true, true_and, and_false, false_and, oel_n, oel_s, decide_true, decide_false]; rw [ei]; rfl⟩)
                · replace h72 := c2_geF h72
                  refine rw_go hX [(75, .aload_n 0), (76, .getfield 88), (79, .iload_n 1), (80, .aaload), (81, .iload 4), (83, .iconst 0), (84, .iastore)] (by decide +kernel) (Ps := [vp_in (nI 2) 4, vp_in (nI i) 40]) (pc' := 85) (lv' := [(0, .ref 66), (1, .int (nI 2)), (2, .int (-(nI 1))), (3, .int xn), (4, .int (nI i))]) (st' := []) (σ' := sw (sr (sw (sw σ 97 2 (-(nI 1))) 98 2 (nI 0)) 95 (fl (σ 95) 0 i (nI 0))) 95 (nI i).toNatClampNeg (nI 0)) rfl (⟨vp_in_nI (by omega) (by omega), vp_in_nI (by omega) (by omega)⟩) ?_
                  rw [show (sw (sr (sw (sw σ 97 2 (-(nI 1))) 98 2 (nI 0)) 95 (fl (σ 95) 0 i (nI 0))) 95 (nI i).toNatClampNeg (nI 0)) = sw (sr (sw (sw σ 97 2 (-(nI 1))) 98 2 (nI 0)) 95 (fl (σ 95) 0 i (nI 0))) 95 i (nI 0) from (by rw [nI_clamp (by omega)])]
                  refine rw_go hX [(85, .iinc 4 1)] (by decide +kernel) (Ps := []) (pc' := 88) (lv' := [(0, .ref 66), (1, .int (nI 2)), (2, .int (-(nI 1))), (3, .int xn), (4, .int (nI i + nI 1))]) (st' := []) (σ' := sw (sr (sw (sw σ 97 2 (-(nI 1))) 98 2 (nI 0)) 95 (fl (σ 95) 0 i (nI 0))) 95 i (nI 0)) rfl True.intro ?_
                  rw [show (nI i + nI 1) = nI (i + 1) from nI_add _ _]
                  refine rw_go hX [(88, .goto (-20))] (by decide +kernel) (Ps := []) (pc' := 68) (lv' := [(0, .ref 66), (1, .int (nI 2)), (2, .int (-(nI 1))), (3, .int xn), (4, .int (nI (i + 1)))]) (st' := []) (σ' := sw (sr (sw (sw σ 97 2 (-(nI 1))) 98 2 (nI 0)) 95 (fl (σ 95) 0 i (nI 0))) 95 i (nI 0)) rfl True.intro ?_
                  refine rw_lsub (ks := [0, 1, 2, 3, 4]) (lv' := [(0, .ref 66), (1, .int (nI 2)), (2, .int (-(nI 1))), (3, .int xn), (4, .int (nI (i + 1)))]) rfl ?_
                  have q := ih68 (40 - (i + 1)) (by omega) (i + 1) rfl (by omega)
                  rw [← fl_1 _ _ (Nat.zero_le _)] at q
                  rw [sw_sr]
                  exact q
            refine rw_lsub (ks := [0, 1, 2, 3, 4]) (lv' := [(0, .ref 66), (1, .int (nI 2)), (2, .int (-(nI 1))), (3, .int xn), (4, .int (nI 0))]) rfl ?_
            have q := L68 40 0 rfl (by omega)
            rw [fl_0, show sr (sw (sw σ 97 2 (-(nI 1))) 98 2 (nI 0)) 95 (σ 95) = sw (sw σ 97 2 (-(nI 1))) 98 2 (nI 0) from by
              funext q
              by_cases z : q = 95
              · subst z; rw [sr_s, sw_ne _ _ _ (by decide), sw_ne _ _ _ (by decide)]
              · rw [sr_n _ _ z]] at q
            exact q
        · exact absurd (by simp only [cz, cc2]; decide +kernel) h33
      · replace h20 : ¬ (xq < 0) := h20
        have hqn : ¬ xq = -(nI 1) := fun z => by rw [z] at h20; exact h20 (by decide +kernel)
        refine rw_go hX [(23, .iload_n 3), (24, .bipush 40)] (by decide +kernel) (Ps := []) (pc' := 26) (lv' := [(0, .ref 66), (1, .int (nI 2)), (2, .int xq), (3, .int xn)]) (st' := [.int (nI 40), .int xn]) (σ' := σ) rfl True.intro ?_
        refine rw_icmp hX (tgt := 32) (cnd := .le) (off := 6) (by decide +kernel) (by decide) (fun h26 => ?_) (fun h26 => ?_)
        · replace h26 : (xn ≤ nI 40) := h26
          refine rw_go hX [(32, .iload_n 2)] (by decide +kernel) (Ps := []) (pc' := 33) (lv' := [(0, .ref 66), (1, .int (nI 2)), (2, .int xq), (3, .int xn)]) (st' := [.int xq]) (σ' := σ) rfl True.intro ?_
          refine rw_if hX (tgt := 43) (cnd := .lt) (off := 10) (by decide +kernel) (by decide) (fun h33 => ?_) (fun h33 => ?_)
          · replace h33 : (xq < 0) := h33
            exact absurd h33 h20
          · replace h33 : ¬ (xq < 0) := h33
            refine rw_go hX [(36, .iload_n 3)] (by decide +kernel) (Ps := []) (pc' := 37) (lv' := [(0, .ref 66), (1, .int (nI 2)), (2, .int xq), (3, .int xn)]) (st' := [.int xn]) (σ' := σ) rfl True.intro ?_
            refine rw_if hX (tgt := 43) (cnd := .ge) (off := 6) (by decide +kernel) (by decide) (fun h37 => ?_) (fun h37 => ?_)
            · replace h37 : (xn ≥ 0) := h37
              obtain ⟨m, hm, rfl⟩ := rng (m := 40) (by omega) ⟨by exact h37, h26⟩
              have hcm : (nI m).toNatClampNeg = m := nI_clamp (by omega)
              have hm0 : ¬ nI m < 0 := nI_pos (by omega)
              refine rw_go hX [(43, .aload_n 0), (44, .getfield 91), (47, .iload_n 1), (48, .iload_n 2), (49, .iastore)] (by decide +kernel) (Ps := [vp_in (nI 2) 4]) (pc' := 50) (lv' := [(0, .ref 66), (1, .int (nI 2)), (2, .int xq), (3, .int (nI m))]) (st' := []) (σ' := sw σ 97 (nI 2).toNatClampNeg xq) rfl (vp_in_nI (by omega) (by omega)) ?_
              rw [show (sw σ 97 (nI 2).toNatClampNeg xq) = sw σ 97 2 xq from (by rw [nI_clamp (by omega)])]
              refine rw_go hX [(50, .aload_n 0), (51, .getfield 94), (54, .iload_n 1), (55, .iload_n 2)] (by decide +kernel) (Ps := []) (pc' := 56) (lv' := [(0, .ref 66), (1, .int (nI 2)), (2, .int xq), (3, .int (nI m))]) (st' := [.int xq, .int (nI 2), .ref 98]) (σ' := sw σ 97 2 xq) rfl True.intro ?_
              refine rw_if hX (tgt := 63) (cnd := .ge) (off := 7) (by decide +kernel) (by decide) (fun h56 => ?_) (fun h56 => ?_)
              · replace h56 : (xq ≥ 0) := h56
                refine rw_go hX [(63, .iload_n 3), (64, .iastore)] (by decide +kernel) (Ps := [vp_in (nI 2) 4]) (pc' := 65) (lv' := [(0, .ref 66), (1, .int (nI 2)), (2, .int xq), (3, .int (nI m))]) (st' := []) (σ' := sw (sw σ 97 2 xq) 98 (nI 2).toNatClampNeg (nI m)) rfl (vp_in_nI (by omega) (by omega)) ?_
                rw [show (sw (sw σ 97 2 xq) 98 (nI 2).toNatClampNeg (nI m)) = sw (sw σ 97 2 xq) 98 2 (nI m) from (by rw [nI_clamp (by omega)])]
                refine rw_go hX [(65, .iconst 0), (66, .istore 4)] (by decide +kernel) (Ps := []) (pc' := 68) (lv' := [(0, .ref 66), (1, .int (nI 2)), (2, .int xq), (3, .int (nI m)), (4, .int (nI 0))]) (st' := []) (σ' := sw (sw σ 97 2 xq) 98 2 (nI m)) rfl True.intro ?_
                have L68 : ∀ (μ68 : Nat) (i : Nat), μ68 = 40 - i → (i ≤ 40) → RW E G 3 5 (QI E G (fun r σ' => r = aSheet (nI 2) xq (nI m) ∧ σ' = sSheetM σ (nI 2) xq (nI m))) 68 [(0, .ref 66), (1, .int (nI 2)), (2, .int xq), (3, .int (nI m)), (4, .int (nI i))] [] (sr (sw (sw σ 97 2 xq) 98 2 (nI m)) 95 (fl (σ 95) 0 i (nI 0))) := by
                  intro μ68
                  induction μ68 using Nat.strongRecOn with
                  | ind μ68 ih68 =>
                    intro i hμ68 hi
                    refine rw_go hX [(68, .iload 4), (70, .bipush 40)] (by decide +kernel) (Ps := []) (pc' := 72) (lv' := [(0, .ref 66), (1, .int (nI 2)), (2, .int xq), (3, .int (nI m)), (4, .int (nI i))]) (st' := [.int (nI 40), .int (nI i)]) (σ' := sr (sw (sw σ 97 2 xq) 98 2 (nI m)) 95 (fl (σ 95) 0 i (nI 0))) rfl True.intro ?_
                    refine rw_icmp hX (tgt := 91) (cnd := .ge) (off := 19) (by decide +kernel) (by decide) (fun h72 => ?_) (fun h72 => ?_)
                    · replace h72 := c2_geT h72
                      have ei : i = 40 := by omega
                      refine rw_go hX [(91, .iconst 1)] (by decide +kernel) (Ps := []) (pc' := 92) (lv' := [(0, .ref 66), (1, .int (nI 2)), (2, .int xq), (3, .int (nI m)), (4, .int (nI i))]) (st' := [.int (nI 1)]) (σ' := sr (sw (sw σ 97 2 xq) 98 2 (nI m)) 95 (fl (σ 95) 0 i (nI 0))) rfl True.intro ?_
                      exact rw_iret hX (by decide +kernel) (⟨by simp only [aSheet, eq_true hk4, hcs, eq_true h4, eq_true h16, eq_false hqa, eq_true hqb, eq_false h20, eq_false hqn, eq_true h26, eq_false h33, eq_true h37, hcm, eq_false hm0, eq_true h56, eq_true h72, if_true, if_false, Bool.false_eq_true, and_self, and_true, true_and, and_false, false_and, oel_n, oel_s, decide_true, decide_false], by simp only [sSheetM, eq_true hk4, hcs, eq_true h4, eq_true h16, eq_false hqa, eq_true hqb, eq_false h20, eq_false hqn, eq_true h26, eq_false h33, eq_true h37, hcm, eq_false hm0, eq_true h56, eq_true h72, if_true, if_false, Bool.false_eq_true, and_self, and_true, true_and, and_false, false_and, oel_n, oel_s, decide_true, decide_false]; rw [ei]; rfl⟩)
                    · replace h72 := c2_geF h72
                      refine rw_go hX [(75, .aload_n 0), (76, .getfield 88), (79, .iload_n 1), (80, .aaload), (81, .iload 4), (83, .iconst 0), (84, .iastore)] (by decide +kernel) (Ps := [vp_in (nI 2) 4, vp_in (nI i) 40]) (pc' := 85) (lv' := [(0, .ref 66), (1, .int (nI 2)), (2, .int xq), (3, .int (nI m)), (4, .int (nI i))]) (st' := []) (σ' := sw (sr (sw (sw σ 97 2 xq) 98 2 (nI m)) 95 (fl (σ 95) 0 i (nI 0))) 95 (nI i).toNatClampNeg (nI 0)) rfl (⟨vp_in_nI (by omega) (by omega), vp_in_nI (by omega) (by omega)⟩) ?_
                      rw [show (sw (sr (sw (sw σ 97 2 xq) 98 2 (nI m)) 95 (fl (σ 95) 0 i (nI 0))) 95 (nI i).toNatClampNeg (nI 0)) = sw (sr (sw (sw σ 97 2 xq) 98 2 (nI m)) 95 (fl (σ 95) 0 i (nI 0))) 95 i (nI 0) from (by rw [nI_clamp (by omega)])]
                      refine rw_go hX [(85, .iinc 4 1)] (by decide +kernel) (Ps := []) (pc' := 88) (lv' := [(0, .ref 66), (1, .int (nI 2)), (2, .int xq), (3, .int (nI m)), (4, .int (nI i + nI 1))]) (st' := []) (σ' := sw (sr (sw (sw σ 97 2 xq) 98 2 (nI m)) 95 (fl (σ 95) 0 i (nI 0))) 95 i (nI 0)) rfl True.intro ?_
                      rw [show (nI i + nI 1) = nI (i + 1) from nI_add _ _]
                      refine rw_go hX [(88, .goto (-20))] (by decide +kernel) (Ps := []) (pc' := 68) (lv' := [(0, .ref 66), (1, .int (nI 2)), (2, .int xq), (3, .int (nI m)), (4, .int (nI (i + 1)))]) (st' := []) (σ' := sw (sr (sw (sw σ 97 2 xq) 98 2 (nI m)) 95 (fl (σ 95) 0 i (nI 0))) 95 i (nI 0)) rfl True.intro ?_
                      refine rw_lsub (ks := [0, 1, 2, 3, 4]) (lv' := [(0, .ref 66), (1, .int (nI 2)), (2, .int xq), (3, .int (nI m)), (4, .int (nI (i + 1)))]) rfl ?_
                      have q := ih68 (40 - (i + 1)) (by omega) (i + 1) rfl (by omega)
                      rw [← fl_1 _ _ (Nat.zero_le _)] at q
                      rw [sw_sr]
                      exact q
                refine rw_lsub (ks := [0, 1, 2, 3, 4]) (lv' := [(0, .ref 66), (1, .int (nI 2)), (2, .int xq), (3, .int (nI m)), (4, .int (nI 0))]) rfl ?_
                have q := L68 40 0 rfl (by omega)
                rw [fl_0, show sr (sw (sw σ 97 2 xq) 98 2 (nI m)) 95 (σ 95) = sw (sw σ 97 2 xq) 98 2 (nI m) from by
                  funext q
                  by_cases z : q = 95
                  · subst z; rw [sr_s, sw_ne _ _ _ (by decide), sw_ne _ _ _ (by decide)]
                  · rw [sr_n _ _ z]] at q
                exact q
              · replace h56 : ¬ (xq ≥ 0) := h56
                exact absurd (Int32.not_lt.mp h20) h56
            · replace h37 : ¬ (xn ≥ 0) := h37
              have hm0 : xn < 0 := Int32.not_le.mp h37
              refine rw_go hX [(40, .bipush (-14))] (by decide +kernel) (Ps := []) (pc' := 42) (lv' := [(0, .ref 66), (1, .int (nI 2)), (2, .int xq), (3, .int xn)]) (st' := [.int (-(nI 14))]) (σ' := σ) rfl True.intro ?_
              exact rw_iret hX (by decide +kernel) (⟨by simp only [aSheet, eq_true hk4, hcs, eq_true h4, eq_true h16, eq_false hqa, eq_true hqb, eq_false h20, eq_false hqn, eq_true h26, eq_false h33, eq_false h37, eq_true hm0, if_true, if_false, Bool.false_eq_true, and_self, and_true, true_and, and_false, false_and, oel_n, oel_s, decide_true, decide_false], by simp only [sSheetM, eq_true hk4, hcs, eq_true h4, eq_true h16, eq_false hqa, eq_true hqb, eq_false h20, eq_false hqn, eq_true h26, eq_false h33, eq_false h37, eq_true hm0, if_true, if_false, Bool.false_eq_true, and_self, and_true, true_and, and_false, false_and, oel_n, oel_s, decide_true, decide_false]⟩)
        · replace h26 : ¬ (xn ≤ nI 40) := h26
          refine rw_go hX [(29, .bipush (-2))] (by decide +kernel) (Ps := []) (pc' := 31) (lv' := [(0, .ref 66), (1, .int (nI 2)), (2, .int xq), (3, .int xn)]) (st' := [.int (-(nI 2))]) (σ' := σ) rfl True.intro ?_
          exact rw_iret hX (by decide +kernel) (⟨by simp only [aSheet, eq_true hk4, hcs, eq_true h4, eq_true h16, eq_false hqa, eq_true hqb, eq_false h20, eq_false hqn, eq_false h26, if_true, if_false, Bool.false_eq_true, and_self, and_true, true_and, and_false, false_and, oel_n, oel_s, decide_true, decide_false], by simp only [sSheetM, eq_true hk4, hcs, eq_true h4, eq_true h16, eq_false hqa, eq_true hqb, eq_false h20, eq_false hqn, eq_false h26, if_true, if_false, Bool.false_eq_true, and_self, and_true, true_and, and_false, false_and, oel_n, oel_s, decide_true, decide_false]⟩)
set_option maxRecDepth 20000 in
set_option maxHeartbeats 800000 in
theorem g_put_2 (l : Launch) (G : Gl) (σ : Mm) (n : Nat → Nat) (xi xv : Int32) (hsh : ∀ s, s < 4 → σ 98 s = nI (n s) ∧ n s ≤ 40) (hso : ∀ s, s < 4 → σ 97 s = -(nI 1) ∨ σ 97 s = nI 0 ∨ σ 97 s = nI 1) : AMi l G 3 mX10_put [.ref 66, .int (nI 2), .int xi, .int xv] σ (fun r σ' => r = aPut n (σ 97) (nI 2) xi ∧ σ' = sPutM n σ (nI 2) xi xv) := by
  refine rw_inI 10 (by decide +kernel) rfl rfl ?_
  intro E hE hX
  subst hE
  have hk4 := film_r 2 (by omega)
  have hcs : (nI 2).toNatClampNeg = 2 := nI_clamp (by omega)
  have hns := hsh 2 (by omega)
  have hos := hso 2 (by omega)
  refine rw_go hX [(0, .iload_n 1)] (by decide +kernel) (Ps := []) (pc' := 1) (lv' := [(0, .ref 66), (1, .int (nI 2)), (2, .int xi), (3, .int xv)]) (st' := [.int (nI 2)]) (σ' := σ) rfl True.intro ?_
  refine rw_callSi hX (as := [.int (nI 2)]) (rest := []) (m_isSheet _ _ _ (nI 2)) (by decide +kernel) msX10_isSheet (Or.inl lk10_298) rfl (by decide) (Nat.le_of_ble_eq_true rfl) rfl ?_
  intro r1 σ1 hr
  rw [hr.1, show r1 = nI 1 from hr.2.trans (by decide +kernel)]
  clear hr σ1 r1
  refine rw_if hX (tgt := 10) (cnd := .ne) (off := 6) (by decide +kernel) (by decide) (fun h4 => ?_) (fun h4 => ?_)
  · skip
    refine rw_go hX [(10, .aload_n 0), (11, .getfield 91), (14, .iload_n 1), (15, .iaload)] (by decide +kernel) (Ps := [vp_in (nI 2) 4]) (pc' := 16) (lv' := [(0, .ref 66), (1, .int (nI 2)), (2, .int xi), (3, .int xv)]) (st' := [.int (σ 97 (nI 2).toNatClampNeg)]) (σ' := σ) rfl (vp_in_nI (by omega) (by omega)) ?_
    rw [show (σ 97 (nI 2).toNatClampNeg) = σ 97 2 from (by rw [nI_clamp (by omega)])]
    refine rw_if hX (tgt := 22) (cnd := .ge) (off := 6) (by decide +kernel) (by decide) (fun h16 => ?_) (fun h16 => ?_)
    · replace h16 : (σ 97 2 ≥ 0) := h16
      have hso1 : ¬ σ 97 2 = -(nI 1) := fun z => absurd ((so_m hos).mpr z) (Int32.not_lt.mpr h16)
      refine rw_go hX [(22, .iload_n 2), (23, .i2l), (24, .lconst 0), (25, .aload_n 0), (26, .getfield 94), (29, .iload_n 1), (30, .iaload)] (by decide +kernel) (Ps := [vp_in (nI 2) 4]) (pc' := 31) (lv' := [(0, .ref 66), (1, .int (nI 2)), (2, .int xi), (3, .int xv)]) (st' := [.int (σ 98 (nI 2).toNatClampNeg), .long (Int64.ofNat 0), .long (xi.toInt64)]) (σ' := σ) rfl (vp_in_nI (by omega) (by omega)) ?_
      rw [show (σ 98 (nI 2).toNatClampNeg) = nI (n 2) from (by rw [nI_clamp (by omega), hns.1])]
      refine rw_go hX [(31, .iconst 1), (32, .isub), (33, .i2l)] (by decide +kernel) (Ps := []) (pc' := 34) (lv' := [(0, .ref 66), (1, .int (nI 2)), (2, .int xi), (3, .int xv)]) (st' := [.long ((nI (n 2) - nI 1).toInt64), .long (Int64.ofNat 0), .long (xi.toInt64)]) (σ' := σ) rfl True.intro ?_
      refine rw_callSi hX (as := [.long (xi.toInt64), .long (Int64.ofNat 0), .long ((nI (n 2) - nI 1).toInt64)]) (rest := []) (m_inI _ _ _ (xi) (0) (nI (n 2) - nI 1) _ _ _ rfl (by first | rfl | decide +kernel) (by first | rfl | decide +kernel)) (by decide +kernel) msX10_in (Or.inl lk10_105) rfl (by decide) (Nat.le_of_ble_eq_true rfl) rfl ?_
      intro r1 σ1 hr
      rw [hr.1, show r1 = bz (decide (0 ≤ xi ∧ xi < nI (n 2))) from hr.2.trans (by rw [decide_eq_decide.mpr (in_C (by omega))])]
      clear hr σ1 r1
      refine rw_if hX (tgt := 43) (cnd := .ne) (off := 6) (by decide +kernel) (by decide) (fun h37 => ?_) (fun h37 => ?_)
      · replace h37 := of_decide_eq_true (zb_neT h37)
        obtain ⟨i, hi, rfl⟩ := rngO (m := n 2) (by omega) h37
        have hci : (nI i).toNatClampNeg = i := nI_clamp (by omega)
        have hzi : ¬ nI i < 0 := nI_pos (by omega)
        have hli : nI i < nI (n 2) := h37.2
        refine rw_go hX [(43, .aload_n 0), (44, .getfield 88), (47, .iload_n 1), (48, .aaload), (49, .iload_n 2), (50, .aload_n 0), (51, .getfield 91), (54, .iload_n 1), (55, .iaload)] (by decide +kernel) (Ps := [vp_in (nI 2) 4, vp_in (nI 2) 4]) (pc' := 56) (lv' := [(0, .ref 66), (1, .int (nI 2)), (2, .int (nI i)), (3, .int xv)]) (st' := [.int (σ 97 (nI 2).toNatClampNeg), .int (nI i), .ref 95]) (σ' := σ) rfl (⟨vp_in_nI (by omega) (by omega), vp_in_nI (by omega) (by omega)⟩) ?_
        rw [show (σ 97 (nI 2).toNatClampNeg) = σ 97 2 from (by rw [nI_clamp (by omega)])]
        refine rw_if hX (tgt := 64) (cnd := .ne) (off := 8) (by decide +kernel) (by decide) (fun h56 => ?_) (fun h56 => ?_)
        · replace h56 : (σ 97 2 ≠ 0) := h56
          refine rw_go hX [(64, .iload_n 3), (65, .iastore)] (by decide +kernel) (Ps := [vp_in (nI i) 40]) (pc' := 66) (lv' := [(0, .ref 66), (1, .int (nI 2)), (2, .int (nI i)), (3, .int xv)]) (st' := []) (σ' := sw σ 95 (nI i).toNatClampNeg xv) rfl (vp_in_nI (by omega) (by omega)) ?_
          rw [show (sw σ 95 (nI i).toNatClampNeg xv) = sw σ 95 i xv from (by rw [nI_clamp (by omega)])]
          refine rw_go hX [(66, .iconst 1)] (by decide +kernel) (Ps := []) (pc' := 67) (lv' := [(0, .ref 66), (1, .int (nI 2)), (2, .int (nI i)), (3, .int xv)]) (st' := [.int (nI 1)]) (σ' := sw σ 95 i xv) rfl True.intro ?_
          exact rw_iret hX (by decide +kernel) (⟨by simp only [aPut, eq_true hk4, hcs, eq_true h4, eq_true h16, eq_false hso1, eq_true h37, hci, eq_false hzi, eq_true hli, eq_false h56, if_true, if_false, Bool.false_eq_true, and_self, and_true, true_and, and_false, false_and, oel_n, oel_s, decide_true, decide_false], by simp only [sPutM, eq_true hk4, hcs, eq_true h4, eq_true h16, eq_false hso1, eq_true h37, hci, eq_false hzi, eq_true hli, eq_false h56, if_true, if_false, Bool.false_eq_true, and_self, and_true, true_and, and_false, false_and, oel_n, oel_s, decide_true, decide_false]⟩)
        · replace h56 : σ 97 2 = 0 := Classical.not_not.mp h56
          refine rw_go hX [(59, .iload_n 3), (60, .i2b), (61, .goto 4), (65, .iastore)] (by decide +kernel) (Ps := [vp_in (nI i) 40]) (pc' := 66) (lv' := [(0, .ref 66), (1, .int (nI 2)), (2, .int (nI i)), (3, .int xv)]) (st' := []) (σ' := sw σ 95 (nI i).toNatClampNeg (xv.toInt8.toInt32)) rfl (vp_in_nI (by omega) (by omega)) ?_
          rw [show (sw σ 95 (nI i).toNatClampNeg (xv.toInt8.toInt32)) = sw σ 95 i (xv.toInt8.toInt32) from (by rw [nI_clamp (by omega)])]
          refine rw_go hX [(66, .iconst 1)] (by decide +kernel) (Ps := []) (pc' := 67) (lv' := [(0, .ref 66), (1, .int (nI 2)), (2, .int (nI i)), (3, .int xv)]) (st' := [.int (nI 1)]) (σ' := sw σ 95 i (xv.toInt8.toInt32)) rfl True.intro ?_
          exact rw_iret hX (by decide +kernel) (⟨by simp only [aPut, eq_true hk4, hcs, eq_true h4, eq_true h16, eq_false hso1, eq_true h37, hci, eq_false hzi, eq_true hli, eq_true h56, if_true, if_false, Bool.false_eq_true, and_self, and_true, true_and, and_false, false_and, oel_n, oel_s, decide_true, decide_false], by simp only [sPutM, eq_true hk4, hcs, eq_true h4, eq_true h16, eq_false hso1, eq_true h37, hci, eq_false hzi, eq_true hli, eq_true h56, if_true, if_false, Bool.false_eq_true, and_self, and_true, true_and, and_false, false_and, oel_n, oel_s, decide_true, decide_false]⟩)
      · replace h37 := of_decide_eq_false (zb_neF h37)
        skip
        refine rw_go hX [(40, .bipush (-12))] (by decide +kernel) (Ps := []) (pc' := 42) (lv' := [(0, .ref 66), (1, .int (nI 2)), (2, .int xi), (3, .int xv)]) (st' := [.int (-(nI 12))]) (σ' := σ) rfl True.intro ?_
        exact rw_iret hX (by decide +kernel) (⟨by simp only [aPut, eq_true hk4, hcs, eq_true h4, eq_true h16, eq_false hso1, eq_false h37, ite2 h37, if_true, if_false, Bool.false_eq_true, and_self, and_true, true_and, and_false, false_and, oel_n, oel_s, decide_true, decide_false], by simp only [sPutM, eq_true hk4, hcs, eq_true h4, eq_true h16, eq_false hso1, eq_false h37, ite2 h37, if_true, if_false, Bool.false_eq_true, and_self, and_true, true_and, and_false, false_and, oel_n, oel_s, decide_true, decide_false]⟩)
    · replace h16 : ¬ (σ 97 2 ≥ 0) := h16
      have hso1 : σ 97 2 = -(nI 1) := (so_m hos).mp (Int32.not_le.mp h16)
      refine rw_go hX [(19, .bipush (-11))] (by decide +kernel) (Ps := []) (pc' := 21) (lv' := [(0, .ref 66), (1, .int (nI 2)), (2, .int xi), (3, .int xv)]) (st' := [.int (-(nI 11))]) (σ' := σ) rfl True.intro ?_
      exact rw_iret hX (by decide +kernel) (⟨by simp only [aPut, eq_true hk4, hcs, eq_true h4, eq_false h16, eq_true hso1, if_true, if_false, Bool.false_eq_true, and_self, and_true, true_and, and_false, false_and, oel_n, oel_s, decide_true, decide_false], by simp only [sPutM, eq_true hk4, hcs, eq_true h4, eq_false h16, eq_true hso1, if_true, if_false, Bool.false_eq_true, and_self, and_true, true_and, and_false, false_and, oel_n, oel_s, decide_true, decide_false]⟩)
  · exact absurd (by simp only [cz, cc2]; decide +kernel) h4
set_option maxRecDepth 20000 in
set_option maxHeartbeats 800000 in
theorem g_sheet_3 (l : Launch) (G : Gl) (σ : Mm) (xq xn : Int32) : AMi l G 3 mX10_sheet [.ref 66, .int (nI 3), .int xq, .int xn] σ (fun r σ' => r = aSheet (nI 3) xq xn ∧ σ' = sSheetM σ (nI 3) xq xn) := by
  refine rw_inI 10 (by decide +kernel) rfl rfl ?_
  intro E hE hX
  subst hE
  have hk4 := film_r 3 (by omega)
  have hcs : (nI 3).toNatClampNeg = 3 := nI_clamp (by omega)
  refine rw_go hX [(0, .iload_n 1)] (by decide +kernel) (Ps := []) (pc' := 1) (lv' := [(0, .ref 66), (1, .int (nI 3)), (2, .int xq), (3, .int xn)]) (st' := [.int (nI 3)]) (σ' := σ) rfl True.intro ?_
  refine rw_callSi hX (as := [.int (nI 3)]) (rest := []) (m_isSheet _ _ _ (nI 3)) (by decide +kernel) msX10_isSheet (Or.inl lk10_298) rfl (by decide) (Nat.le_of_ble_eq_true rfl) rfl ?_
  intro r1 σ1 hr
  rw [hr.1, show r1 = nI 1 from hr.2.trans (by decide +kernel)]
  clear hr σ1 r1
  refine rw_if hX (tgt := 29) (cnd := .eq) (off := 25) (by decide +kernel) (by decide) (fun h4 => ?_) (fun h4 => ?_)
  · exact absurd h4 (by simp only [cz, cc2]; decide +kernel)
  · skip
    refine rw_go hX [(7, .iload_n 2), (8, .i2l), (9, .ldc2_w 209), (12, .lconst 1)] (by decide +kernel) (Ps := []) (pc' := 13) (lv' := [(0, .ref 66), (1, .int (nI 3)), (2, .int xq), (3, .int xn)]) (st' := [.long (Int64.ofNat 1), .long (-1), .long (xq.toInt64)]) (σ' := σ) rfl True.intro ?_
    refine rw_callSi hX (as := [.long (xq.toInt64), .long (-1), .long (Int64.ofNat 1)]) (rest := []) (m_inI _ _ _ (xq) (-(nI 1)) (nI 1) _ _ _ rfl (by first | rfl | decide +kernel) (by first | rfl | decide +kernel)) (by decide +kernel) msX10_in (Or.inl lk10_105) rfl (by decide) (Nat.le_of_ble_eq_true rfl) rfl ?_
    intro r1 σ1 hr
    rw [hr.1, show r1 = bz (decide (-(nI 1) ≤ xq ∧ xq ≤ nI 1)) from hr.2]
    clear hr σ1 r1
    refine rw_if hX (tgt := 29) (cnd := .eq) (off := 13) (by decide +kernel) (by decide) (fun h16 => ?_) (fun h16 => ?_)
    · replace h16 := of_decide_eq_false (zb_eqT h16)
      skip
      refine rw_go hX [(29, .bipush (-2))] (by decide +kernel) (Ps := []) (pc' := 31) (lv' := [(0, .ref 66), (1, .int (nI 3)), (2, .int xq), (3, .int xn)]) (st' := [.int (-(nI 2))]) (σ' := σ) rfl True.intro ?_
      exact rw_iret hX (by decide +kernel) (⟨by simp only [aSheet, eq_true hk4, hcs, eq_true h4, eq_false h16, ite5 h16, if_true, if_false, Bool.false_eq_true, and_self, and_true, true_and, and_false, false_and, oel_n, oel_s, decide_true, decide_false], by simp only [sSheetM, eq_true hk4, hcs, eq_true h4, eq_false h16, ite5 h16, if_true, if_false, Bool.false_eq_true, and_self, and_true, true_and, and_false, false_and, oel_n, oel_s, decide_true, decide_false]⟩)
    · replace h16 := of_decide_eq_true (zb_eqF h16)
      have hqa : ¬ xq < -(nI 1) := Int32.not_lt.mpr h16.1
      have hqb : xq ≤ nI 1 := h16.2
      refine rw_go hX [(19, .iload_n 2)] (by decide +kernel) (Ps := []) (pc' := 20) (lv' := [(0, .ref 66), (1, .int (nI 3)), (2, .int xq), (3, .int xn)]) (st' := [.int xq]) (σ' := σ) rfl True.intro ?_
      refine rw_if hX (tgt := 32) (cnd := .lt) (off := 12) (by decide +kernel) (by decide) (fun h20 => ?_) (fun h20 => ?_)
      · replace h20 : (xq < 0) := h20
        have hqm : xq = -(nI 1) := neg_m1 h16.1 h20
        subst hqm
        refine rw_go hX [(32, .iload_n 2)] (by decide +kernel) (Ps := []) (pc' := 33) (lv' := [(0, .ref 66), (1, .int (nI 3)), (2, .int (-(nI 1))), (3, .int xn)]) (st' := [.int (-(nI 1))]) (σ' := σ) rfl True.intro ?_
        refine rw_if hX (tgt := 43) (cnd := .lt) (off := 10) (by decide +kernel) (by decide) (fun h33 => ?_) (fun h33 => ?_)
        · skip
          refine rw_go hX [(43, .aload_n 0), (44, .getfield 91), (47, .iload_n 1), (48, .iload_n 2), (49, .iastore)] (by decide +kernel) (Ps := [vp_in (nI 3) 4]) (pc' := 50) (lv' := [(0, .ref 66), (1, .int (nI 3)), (2, .int (-(nI 1))), (3, .int xn)]) (st' := []) (σ' := sw σ 97 (nI 3).toNatClampNeg (-(nI 1))) rfl (vp_in_nI (by omega) (by omega)) ?_
          rw [show (sw σ 97 (nI 3).toNatClampNeg (-(nI 1))) = sw σ 97 3 (-(nI 1)) from (by rw [nI_clamp (by omega)])]
          refine rw_go hX [(50, .aload_n 0), (51, .getfield 94), (54, .iload_n 1), (55, .iload_n 2)] (by decide +kernel) (Ps := []) (pc' := 56) (lv' := [(0, .ref 66), (1, .int (nI 3)), (2, .int (-(nI 1))), (3, .int xn)]) (st' := [.int (-(nI 1)), .int (nI 3), .ref 98]) (σ' := sw σ 97 3 (-(nI 1))) rfl True.intro ?_
          refine rw_if hX (tgt := 63) (cnd := .ge) (off := 7) (by decide +kernel) (by decide) (fun h56 => ?_) (fun h56 => ?_)
          · exact absurd h56 (by simp only [cz, cc2]; decide +kernel)
          · skip
            refine rw_go hX [(59, .iconst 0), (60, .goto 4), (64, .iastore)] (by decide +kernel) (Ps := [vp_in (nI 3) 4]) (pc' := 65) (lv' := [(0, .ref 66), (1, .int (nI 3)), (2, .int (-(nI 1))), (3, .int xn)]) (st' := []) (σ' := sw (sw σ 97 3 (-(nI 1))) 98 (nI 3).toNatClampNeg (nI 0)) rfl (vp_in_nI (by omega) (by omega)) ?_
            rw [show (sw (sw σ 97 3 (-(nI 1))) 98 (nI 3).toNatClampNeg (nI 0)) = sw (sw σ 97 3 (-(nI 1))) 98 3 (nI 0) from (by rw [nI_clamp (by omega)])]
            refine rw_go hX [(65, .iconst 0), (66, .istore 4)] (by decide +kernel) (Ps := []) (pc' := 68) (lv' := [(0, .ref 66), (1, .int (nI 3)), (2, .int (-(nI 1))), (3, .int xn), (4, .int (nI 0))]) (st' := []) (σ' := sw (sw σ 97 3 (-(nI 1))) 98 3 (nI 0)) rfl True.intro ?_
            have L68 : ∀ (μ68 : Nat) (i : Nat), μ68 = 40 - i → (i ≤ 40) → RW E G 3 5 (QI E G (fun r σ' => r = aSheet (nI 3) (-(nI 1)) xn ∧ σ' = sSheetM σ (nI 3) (-(nI 1)) xn)) 68 [(0, .ref 66), (1, .int (nI 3)), (2, .int (-(nI 1))), (3, .int xn), (4, .int (nI i))] [] (sr (sw (sw σ 97 3 (-(nI 1))) 98 3 (nI 0)) 96 (fl (σ 96) 0 i (nI 0))) := by
              intro μ68
              induction μ68 using Nat.strongRecOn with
              | ind μ68 ih68 =>
                intro i hμ68 hi
                refine rw_go hX [(68, .iload 4), (70, .bipush 40)] (by decide +kernel) (Ps := []) (pc' := 72) (lv' := [(0, .ref 66), (1, .int (nI 3)), (2, .int (-(nI 1))), (3, .int xn), (4, .int (nI i))]) (st' := [.int (nI 40), .int (nI i)]) (σ' := sr (sw (sw σ 97 3 (-(nI 1))) 98 3 (nI 0)) 96 (fl (σ 96) 0 i (nI 0))) rfl True.intro ?_
                refine rw_icmp hX (tgt := 91) (cnd := .ge) (off := 19) (by decide +kernel) (by decide) (fun h72 => ?_) (fun h72 => ?_)
                · replace h72 := c2_geT h72
                  have ei : i = 40 := by omega
                  refine rw_go hX [(91, .iconst 1)] (by decide +kernel) (Ps := []) (pc' := 92) (lv' := [(0, .ref 66), (1, .int (nI 3)), (2, .int (-(nI 1))), (3, .int xn), (4, .int (nI i))]) (st' := [.int (nI 1)]) (σ' := sr (sw (sw σ 97 3 (-(nI 1))) 98 3 (nI 0)) 96 (fl (σ 96) 0 i (nI 0))) rfl True.intro ?_
                  exact rw_iret hX (by decide +kernel) (⟨by simp only [aSheet, eq_true hk4, hcs, eq_true h4, eq_true h16, eq_false hqa, eq_true hqb, eq_true h20, (show True = True from by have hqm := True; rfl), eq_true h33, eq_true h56, eq_true h72, if_true, if_false, Bool.false_eq_true, and_self, and_true, true_and, and_false, false_and, oel_n, oel_s, decide_true, decide_false], by simp only [sSheetM, eq_true hk4, hcs, eq_true h4, eq_true h16, eq_false hqa, eq_true hqb, eq_true h20, (show True = True from by have hqm := True; rfl), eq_true h33, eq_true h56, eq_true h72, if_true, if_false, Bool.false_eq_true, and_self, and_true, true_and, and_false, false_and, oel_n, oel_s, decide_true, decide_false]; rw [ei]; rfl⟩)
                · replace h72 := c2_geF h72
                  refine rw_go hX [(75, .aload_n 0), (76, .getfield 88), (79, .iload_n 1), (80, .aaload), (81, .iload 4), (83, .iconst 0), (84, .iastore)] (by decide +kernel) (Ps := [vp_in (nI 3) 4, vp_in (nI i) 40]) (pc' := 85) (lv' := [(0, .ref 66), (1, .int (nI 3)), (2, .int (-(nI 1))), (3, .int xn), (4, .int (nI i))]) (st' := []) (σ' := sw (sr (sw (sw σ 97 3 (-(nI 1))) 98 3 (nI 0)) 96 (fl (σ 96) 0 i (nI 0))) 96 (nI i).toNatClampNeg (nI 0)) rfl (⟨vp_in_nI (by omega) (by omega), vp_in_nI (by omega) (by omega)⟩) ?_
                  rw [show (sw (sr (sw (sw σ 97 3 (-(nI 1))) 98 3 (nI 0)) 96 (fl (σ 96) 0 i (nI 0))) 96 (nI i).toNatClampNeg (nI 0)) = sw (sr (sw (sw σ 97 3 (-(nI 1))) 98 3 (nI 0)) 96 (fl (σ 96) 0 i (nI 0))) 96 i (nI 0) from (by rw [nI_clamp (by omega)])]
                  refine rw_go hX [(85, .iinc 4 1)] (by decide +kernel) (Ps := []) (pc' := 88) (lv' := [(0, .ref 66), (1, .int (nI 3)), (2, .int (-(nI 1))), (3, .int xn), (4, .int (nI i + nI 1))]) (st' := []) (σ' := sw (sr (sw (sw σ 97 3 (-(nI 1))) 98 3 (nI 0)) 96 (fl (σ 96) 0 i (nI 0))) 96 i (nI 0)) rfl True.intro ?_
                  rw [show (nI i + nI 1) = nI (i + 1) from nI_add _ _]
                  refine rw_go hX [(88, .goto (-20))] (by decide +kernel) (Ps := []) (pc' := 68) (lv' := [(0, .ref 66), (1, .int (nI 3)), (2, .int (-(nI 1))), (3, .int xn), (4, .int (nI (i + 1)))]) (st' := []) (σ' := sw (sr (sw (sw σ 97 3 (-(nI 1))) 98 3 (nI 0)) 96 (fl (σ 96) 0 i (nI 0))) 96 i (nI 0)) rfl True.intro ?_
                  refine rw_lsub (ks := [0, 1, 2, 3, 4]) (lv' := [(0, .ref 66), (1, .int (nI 3)), (2, .int (-(nI 1))), (3, .int xn), (4, .int (nI (i + 1)))]) rfl ?_
                  have q := ih68 (40 - (i + 1)) (by omega) (i + 1) rfl (by omega)
                  rw [← fl_1 _ _ (Nat.zero_le _)] at q
                  rw [sw_sr]
                  exact q
            refine rw_lsub (ks := [0, 1, 2, 3, 4]) (lv' := [(0, .ref 66), (1, .int (nI 3)), (2, .int (-(nI 1))), (3, .int xn), (4, .int (nI 0))]) rfl ?_
            have q := L68 40 0 rfl (by omega)
            rw [fl_0, show sr (sw (sw σ 97 3 (-(nI 1))) 98 3 (nI 0)) 96 (σ 96) = sw (sw σ 97 3 (-(nI 1))) 98 3 (nI 0) from by
              funext q
              by_cases z : q = 96
              · subst z; rw [sr_s, sw_ne _ _ _ (by decide), sw_ne _ _ _ (by decide)]
              · rw [sr_n _ _ z]] at q
            exact q
        · exact absurd (by simp only [cz, cc2]; decide +kernel) h33
      · replace h20 : ¬ (xq < 0) := h20
        have hqn : ¬ xq = -(nI 1) := fun z => by rw [z] at h20; exact h20 (by decide +kernel)
        refine rw_go hX [(23, .iload_n 3), (24, .bipush 40)] (by decide +kernel) (Ps := []) (pc' := 26) (lv' := [(0, .ref 66), (1, .int (nI 3)), (2, .int xq), (3, .int xn)]) (st' := [.int (nI 40), .int xn]) (σ' := σ) rfl True.intro ?_
        refine rw_icmp hX (tgt := 32) (cnd := .le) (off := 6) (by decide +kernel) (by decide) (fun h26 => ?_) (fun h26 => ?_)
        · replace h26 : (xn ≤ nI 40) := h26
          refine rw_go hX [(32, .iload_n 2)] (by decide +kernel) (Ps := []) (pc' := 33) (lv' := [(0, .ref 66), (1, .int (nI 3)), (2, .int xq), (3, .int xn)]) (st' := [.int xq]) (σ' := σ) rfl True.intro ?_
          refine rw_if hX (tgt := 43) (cnd := .lt) (off := 10) (by decide +kernel) (by decide) (fun h33 => ?_) (fun h33 => ?_)
          · replace h33 : (xq < 0) := h33
            exact absurd h33 h20
          · replace h33 : ¬ (xq < 0) := h33
            refine rw_go hX [(36, .iload_n 3)] (by decide +kernel) (Ps := []) (pc' := 37) (lv' := [(0, .ref 66), (1, .int (nI 3)), (2, .int xq), (3, .int xn)]) (st' := [.int xn]) (σ' := σ) rfl True.intro ?_
            refine rw_if hX (tgt := 43) (cnd := .ge) (off := 6) (by decide +kernel) (by decide) (fun h37 => ?_) (fun h37 => ?_)
            · replace h37 : (xn ≥ 0) := h37
              obtain ⟨m, hm, rfl⟩ := rng (m := 40) (by omega) ⟨by exact h37, h26⟩
              have hcm : (nI m).toNatClampNeg = m := nI_clamp (by omega)
              have hm0 : ¬ nI m < 0 := nI_pos (by omega)
              refine rw_go hX [(43, .aload_n 0), (44, .getfield 91), (47, .iload_n 1), (48, .iload_n 2), (49, .iastore)] (by decide +kernel) (Ps := [vp_in (nI 3) 4]) (pc' := 50) (lv' := [(0, .ref 66), (1, .int (nI 3)), (2, .int xq), (3, .int (nI m))]) (st' := []) (σ' := sw σ 97 (nI 3).toNatClampNeg xq) rfl (vp_in_nI (by omega) (by omega)) ?_
              rw [show (sw σ 97 (nI 3).toNatClampNeg xq) = sw σ 97 3 xq from (by rw [nI_clamp (by omega)])]
              refine rw_go hX [(50, .aload_n 0), (51, .getfield 94), (54, .iload_n 1), (55, .iload_n 2)] (by decide +kernel) (Ps := []) (pc' := 56) (lv' := [(0, .ref 66), (1, .int (nI 3)), (2, .int xq), (3, .int (nI m))]) (st' := [.int xq, .int (nI 3), .ref 98]) (σ' := sw σ 97 3 xq) rfl True.intro ?_
              refine rw_if hX (tgt := 63) (cnd := .ge) (off := 7) (by decide +kernel) (by decide) (fun h56 => ?_) (fun h56 => ?_)
              · replace h56 : (xq ≥ 0) := h56
                refine rw_go hX [(63, .iload_n 3), (64, .iastore)] (by decide +kernel) (Ps := [vp_in (nI 3) 4]) (pc' := 65) (lv' := [(0, .ref 66), (1, .int (nI 3)), (2, .int xq), (3, .int (nI m))]) (st' := []) (σ' := sw (sw σ 97 3 xq) 98 (nI 3).toNatClampNeg (nI m)) rfl (vp_in_nI (by omega) (by omega)) ?_
                rw [show (sw (sw σ 97 3 xq) 98 (nI 3).toNatClampNeg (nI m)) = sw (sw σ 97 3 xq) 98 3 (nI m) from (by rw [nI_clamp (by omega)])]
                refine rw_go hX [(65, .iconst 0), (66, .istore 4)] (by decide +kernel) (Ps := []) (pc' := 68) (lv' := [(0, .ref 66), (1, .int (nI 3)), (2, .int xq), (3, .int (nI m)), (4, .int (nI 0))]) (st' := []) (σ' := sw (sw σ 97 3 xq) 98 3 (nI m)) rfl True.intro ?_
                have L68 : ∀ (μ68 : Nat) (i : Nat), μ68 = 40 - i → (i ≤ 40) → RW E G 3 5 (QI E G (fun r σ' => r = aSheet (nI 3) xq (nI m) ∧ σ' = sSheetM σ (nI 3) xq (nI m))) 68 [(0, .ref 66), (1, .int (nI 3)), (2, .int xq), (3, .int (nI m)), (4, .int (nI i))] [] (sr (sw (sw σ 97 3 xq) 98 3 (nI m)) 96 (fl (σ 96) 0 i (nI 0))) := by
                  intro μ68
                  induction μ68 using Nat.strongRecOn with
                  | ind μ68 ih68 =>
                    intro i hμ68 hi
                    refine rw_go hX [(68, .iload 4), (70, .bipush 40)] (by decide +kernel) (Ps := []) (pc' := 72) (lv' := [(0, .ref 66), (1, .int (nI 3)), (2, .int xq), (3, .int (nI m)), (4, .int (nI i))]) (st' := [.int (nI 40), .int (nI i)]) (σ' := sr (sw (sw σ 97 3 xq) 98 3 (nI m)) 96 (fl (σ 96) 0 i (nI 0))) rfl True.intro ?_
                    refine rw_icmp hX (tgt := 91) (cnd := .ge) (off := 19) (by decide +kernel) (by decide) (fun h72 => ?_) (fun h72 => ?_)
                    · replace h72 := c2_geT h72
                      have ei : i = 40 := by omega
                      refine rw_go hX [(91, .iconst 1)] (by decide +kernel) (Ps := []) (pc' := 92) (lv' := [(0, .ref 66), (1, .int (nI 3)), (2, .int xq), (3, .int (nI m)), (4, .int (nI i))]) (st' := [.int (nI 1)]) (σ' := sr (sw (sw σ 97 3 xq) 98 3 (nI m)) 96 (fl (σ 96) 0 i (nI 0))) rfl True.intro ?_
                      exact rw_iret hX (by decide +kernel) (⟨by simp only [aSheet, eq_true hk4, hcs, eq_true h4, eq_true h16, eq_false hqa, eq_true hqb, eq_false h20, eq_false hqn, eq_true h26, eq_false h33, eq_true h37, hcm, eq_false hm0, eq_true h56, eq_true h72, if_true, if_false, Bool.false_eq_true, and_self, and_true, true_and, and_false, false_and, oel_n, oel_s, decide_true, decide_false], by simp only [sSheetM, eq_true hk4, hcs, eq_true h4, eq_true h16, eq_false hqa, eq_true hqb, eq_false h20, eq_false hqn, eq_true h26, eq_false h33, eq_true h37, hcm, eq_false hm0, eq_true h56, eq_true h72, if_true, if_false, Bool.false_eq_true, and_self, and_true, true_and, and_false, false_and, oel_n, oel_s, decide_true, decide_false]; rw [ei]; rfl⟩)
                    · replace h72 := c2_geF h72
                      refine rw_go hX [(75, .aload_n 0), (76, .getfield 88), (79, .iload_n 1), (80, .aaload), (81, .iload 4), (83, .iconst 0), (84, .iastore)] (by decide +kernel) (Ps := [vp_in (nI 3) 4, vp_in (nI i) 40]) (pc' := 85) (lv' := [(0, .ref 66), (1, .int (nI 3)), (2, .int xq), (3, .int (nI m)), (4, .int (nI i))]) (st' := []) (σ' := sw (sr (sw (sw σ 97 3 xq) 98 3 (nI m)) 96 (fl (σ 96) 0 i (nI 0))) 96 (nI i).toNatClampNeg (nI 0)) rfl (⟨vp_in_nI (by omega) (by omega), vp_in_nI (by omega) (by omega)⟩) ?_
                      rw [show (sw (sr (sw (sw σ 97 3 xq) 98 3 (nI m)) 96 (fl (σ 96) 0 i (nI 0))) 96 (nI i).toNatClampNeg (nI 0)) = sw (sr (sw (sw σ 97 3 xq) 98 3 (nI m)) 96 (fl (σ 96) 0 i (nI 0))) 96 i (nI 0) from (by rw [nI_clamp (by omega)])]
                      refine rw_go hX [(85, .iinc 4 1)] (by decide +kernel) (Ps := []) (pc' := 88) (lv' := [(0, .ref 66), (1, .int (nI 3)), (2, .int xq), (3, .int (nI m)), (4, .int (nI i + nI 1))]) (st' := []) (σ' := sw (sr (sw (sw σ 97 3 xq) 98 3 (nI m)) 96 (fl (σ 96) 0 i (nI 0))) 96 i (nI 0)) rfl True.intro ?_
                      rw [show (nI i + nI 1) = nI (i + 1) from nI_add _ _]
                      refine rw_go hX [(88, .goto (-20))] (by decide +kernel) (Ps := []) (pc' := 68) (lv' := [(0, .ref 66), (1, .int (nI 3)), (2, .int xq), (3, .int (nI m)), (4, .int (nI (i + 1)))]) (st' := []) (σ' := sw (sr (sw (sw σ 97 3 xq) 98 3 (nI m)) 96 (fl (σ 96) 0 i (nI 0))) 96 i (nI 0)) rfl True.intro ?_
                      refine rw_lsub (ks := [0, 1, 2, 3, 4]) (lv' := [(0, .ref 66), (1, .int (nI 3)), (2, .int xq), (3, .int (nI m)), (4, .int (nI (i + 1)))]) rfl ?_
                      have q := ih68 (40 - (i + 1)) (by omega) (i + 1) rfl (by omega)
                      rw [← fl_1 _ _ (Nat.zero_le _)] at q
                      rw [sw_sr]
                      exact q
                refine rw_lsub (ks := [0, 1, 2, 3, 4]) (lv' := [(0, .ref 66), (1, .int (nI 3)), (2, .int xq), (3, .int (nI m)), (4, .int (nI 0))]) rfl ?_
                have q := L68 40 0 rfl (by omega)
                rw [fl_0, show sr (sw (sw σ 97 3 xq) 98 3 (nI m)) 96 (σ 96) = sw (sw σ 97 3 xq) 98 3 (nI m) from by
                  funext q
                  by_cases z : q = 96
                  · subst z; rw [sr_s, sw_ne _ _ _ (by decide), sw_ne _ _ _ (by decide)]
                  · rw [sr_n _ _ z]] at q
                exact q
              · replace h56 : ¬ (xq ≥ 0) := h56
                exact absurd (Int32.not_lt.mp h20) h56
            · replace h37 : ¬ (xn ≥ 0) := h37
              have hm0 : xn < 0 := Int32.not_le.mp h37
              refine rw_go hX [(40, .bipush (-14))] (by decide +kernel) (Ps := []) (pc' := 42) (lv' := [(0, .ref 66), (1, .int (nI 3)), (2, .int xq), (3, .int xn)]) (st' := [.int (-(nI 14))]) (σ' := σ) rfl True.intro ?_
              exact rw_iret hX (by decide +kernel) (⟨by simp only [aSheet, eq_true hk4, hcs, eq_true h4, eq_true h16, eq_false hqa, eq_true hqb, eq_false h20, eq_false hqn, eq_true h26, eq_false h33, eq_false h37, eq_true hm0, if_true, if_false, Bool.false_eq_true, and_self, and_true, true_and, and_false, false_and, oel_n, oel_s, decide_true, decide_false], by simp only [sSheetM, eq_true hk4, hcs, eq_true h4, eq_true h16, eq_false hqa, eq_true hqb, eq_false h20, eq_false hqn, eq_true h26, eq_false h33, eq_false h37, eq_true hm0, if_true, if_false, Bool.false_eq_true, and_self, and_true, true_and, and_false, false_and, oel_n, oel_s, decide_true, decide_false]⟩)
        · replace h26 : ¬ (xn ≤ nI 40) := h26
          refine rw_go hX [(29, .bipush (-2))] (by decide +kernel) (Ps := []) (pc' := 31) (lv' := [(0, .ref 66), (1, .int (nI 3)), (2, .int xq), (3, .int xn)]) (st' := [.int (-(nI 2))]) (σ' := σ) rfl True.intro ?_
          exact rw_iret hX (by decide +kernel) (⟨by simp only [aSheet, eq_true hk4, hcs, eq_true h4, eq_true h16, eq_false hqa, eq_true hqb, eq_false h20, eq_false hqn, eq_false h26, if_true, if_false, Bool.false_eq_true, and_self, and_true, true_and, and_false, false_and, oel_n, oel_s, decide_true, decide_false], by simp only [sSheetM, eq_true hk4, hcs, eq_true h4, eq_true h16, eq_false hqa, eq_true hqb, eq_false h20, eq_false hqn, eq_false h26, if_true, if_false, Bool.false_eq_true, and_self, and_true, true_and, and_false, false_and, oel_n, oel_s, decide_true, decide_false]⟩)
set_option maxRecDepth 20000 in
set_option maxHeartbeats 800000 in
theorem g_put_3 (l : Launch) (G : Gl) (σ : Mm) (n : Nat → Nat) (xi xv : Int32) (hsh : ∀ s, s < 4 → σ 98 s = nI (n s) ∧ n s ≤ 40) (hso : ∀ s, s < 4 → σ 97 s = -(nI 1) ∨ σ 97 s = nI 0 ∨ σ 97 s = nI 1) : AMi l G 3 mX10_put [.ref 66, .int (nI 3), .int xi, .int xv] σ (fun r σ' => r = aPut n (σ 97) (nI 3) xi ∧ σ' = sPutM n σ (nI 3) xi xv) := by
  refine rw_inI 10 (by decide +kernel) rfl rfl ?_
  intro E hE hX
  subst hE
  have hk4 := film_r 3 (by omega)
  have hcs : (nI 3).toNatClampNeg = 3 := nI_clamp (by omega)
  have hns := hsh 3 (by omega)
  have hos := hso 3 (by omega)
  refine rw_go hX [(0, .iload_n 1)] (by decide +kernel) (Ps := []) (pc' := 1) (lv' := [(0, .ref 66), (1, .int (nI 3)), (2, .int xi), (3, .int xv)]) (st' := [.int (nI 3)]) (σ' := σ) rfl True.intro ?_
  refine rw_callSi hX (as := [.int (nI 3)]) (rest := []) (m_isSheet _ _ _ (nI 3)) (by decide +kernel) msX10_isSheet (Or.inl lk10_298) rfl (by decide) (Nat.le_of_ble_eq_true rfl) rfl ?_
  intro r1 σ1 hr
  rw [hr.1, show r1 = nI 1 from hr.2.trans (by decide +kernel)]
  clear hr σ1 r1
  refine rw_if hX (tgt := 10) (cnd := .ne) (off := 6) (by decide +kernel) (by decide) (fun h4 => ?_) (fun h4 => ?_)
  · skip
    refine rw_go hX [(10, .aload_n 0), (11, .getfield 91), (14, .iload_n 1), (15, .iaload)] (by decide +kernel) (Ps := [vp_in (nI 3) 4]) (pc' := 16) (lv' := [(0, .ref 66), (1, .int (nI 3)), (2, .int xi), (3, .int xv)]) (st' := [.int (σ 97 (nI 3).toNatClampNeg)]) (σ' := σ) rfl (vp_in_nI (by omega) (by omega)) ?_
    rw [show (σ 97 (nI 3).toNatClampNeg) = σ 97 3 from (by rw [nI_clamp (by omega)])]
    refine rw_if hX (tgt := 22) (cnd := .ge) (off := 6) (by decide +kernel) (by decide) (fun h16 => ?_) (fun h16 => ?_)
    · replace h16 : (σ 97 3 ≥ 0) := h16
      have hso1 : ¬ σ 97 3 = -(nI 1) := fun z => absurd ((so_m hos).mpr z) (Int32.not_lt.mpr h16)
      refine rw_go hX [(22, .iload_n 2), (23, .i2l), (24, .lconst 0), (25, .aload_n 0), (26, .getfield 94), (29, .iload_n 1), (30, .iaload)] (by decide +kernel) (Ps := [vp_in (nI 3) 4]) (pc' := 31) (lv' := [(0, .ref 66), (1, .int (nI 3)), (2, .int xi), (3, .int xv)]) (st' := [.int (σ 98 (nI 3).toNatClampNeg), .long (Int64.ofNat 0), .long (xi.toInt64)]) (σ' := σ) rfl (vp_in_nI (by omega) (by omega)) ?_
      rw [show (σ 98 (nI 3).toNatClampNeg) = nI (n 3) from (by rw [nI_clamp (by omega), hns.1])]
      refine rw_go hX [(31, .iconst 1), (32, .isub), (33, .i2l)] (by decide +kernel) (Ps := []) (pc' := 34) (lv' := [(0, .ref 66), (1, .int (nI 3)), (2, .int xi), (3, .int xv)]) (st' := [.long ((nI (n 3) - nI 1).toInt64), .long (Int64.ofNat 0), .long (xi.toInt64)]) (σ' := σ) rfl True.intro ?_
      refine rw_callSi hX (as := [.long (xi.toInt64), .long (Int64.ofNat 0), .long ((nI (n 3) - nI 1).toInt64)]) (rest := []) (m_inI _ _ _ (xi) (0) (nI (n 3) - nI 1) _ _ _ rfl (by first | rfl | decide +kernel) (by first | rfl | decide +kernel)) (by decide +kernel) msX10_in (Or.inl lk10_105) rfl (by decide) (Nat.le_of_ble_eq_true rfl) rfl ?_
      intro r1 σ1 hr
      rw [hr.1, show r1 = bz (decide (0 ≤ xi ∧ xi < nI (n 3))) from hr.2.trans (by rw [decide_eq_decide.mpr (in_C (by omega))])]
      clear hr σ1 r1
      refine rw_if hX (tgt := 43) (cnd := .ne) (off := 6) (by decide +kernel) (by decide) (fun h37 => ?_) (fun h37 => ?_)
      · replace h37 := of_decide_eq_true (zb_neT h37)
        obtain ⟨i, hi, rfl⟩ := rngO (m := n 3) (by omega) h37
        have hci : (nI i).toNatClampNeg = i := nI_clamp (by omega)
        have hzi : ¬ nI i < 0 := nI_pos (by omega)
        have hli : nI i < nI (n 3) := h37.2
        refine rw_go hX [(43, .aload_n 0), (44, .getfield 88), (47, .iload_n 1), (48, .aaload), (49, .iload_n 2), (50, .aload_n 0), (51, .getfield 91), (54, .iload_n 1), (55, .iaload)] (by decide +kernel) (Ps := [vp_in (nI 3) 4, vp_in (nI 3) 4]) (pc' := 56) (lv' := [(0, .ref 66), (1, .int (nI 3)), (2, .int (nI i)), (3, .int xv)]) (st' := [.int (σ 97 (nI 3).toNatClampNeg), .int (nI i), .ref 96]) (σ' := σ) rfl (⟨vp_in_nI (by omega) (by omega), vp_in_nI (by omega) (by omega)⟩) ?_
        rw [show (σ 97 (nI 3).toNatClampNeg) = σ 97 3 from (by rw [nI_clamp (by omega)])]
        refine rw_if hX (tgt := 64) (cnd := .ne) (off := 8) (by decide +kernel) (by decide) (fun h56 => ?_) (fun h56 => ?_)
        · replace h56 : (σ 97 3 ≠ 0) := h56
          refine rw_go hX [(64, .iload_n 3), (65, .iastore)] (by decide +kernel) (Ps := [vp_in (nI i) 40]) (pc' := 66) (lv' := [(0, .ref 66), (1, .int (nI 3)), (2, .int (nI i)), (3, .int xv)]) (st' := []) (σ' := sw σ 96 (nI i).toNatClampNeg xv) rfl (vp_in_nI (by omega) (by omega)) ?_
          rw [show (sw σ 96 (nI i).toNatClampNeg xv) = sw σ 96 i xv from (by rw [nI_clamp (by omega)])]
          refine rw_go hX [(66, .iconst 1)] (by decide +kernel) (Ps := []) (pc' := 67) (lv' := [(0, .ref 66), (1, .int (nI 3)), (2, .int (nI i)), (3, .int xv)]) (st' := [.int (nI 1)]) (σ' := sw σ 96 i xv) rfl True.intro ?_
          exact rw_iret hX (by decide +kernel) (⟨by simp only [aPut, eq_true hk4, hcs, eq_true h4, eq_true h16, eq_false hso1, eq_true h37, hci, eq_false hzi, eq_true hli, eq_false h56, if_true, if_false, Bool.false_eq_true, and_self, and_true, true_and, and_false, false_and, oel_n, oel_s, decide_true, decide_false], by simp only [sPutM, eq_true hk4, hcs, eq_true h4, eq_true h16, eq_false hso1, eq_true h37, hci, eq_false hzi, eq_true hli, eq_false h56, if_true, if_false, Bool.false_eq_true, and_self, and_true, true_and, and_false, false_and, oel_n, oel_s, decide_true, decide_false]⟩)
        · replace h56 : σ 97 3 = 0 := Classical.not_not.mp h56
          refine rw_go hX [(59, .iload_n 3), (60, .i2b), (61, .goto 4), (65, .iastore)] (by decide +kernel) (Ps := [vp_in (nI i) 40]) (pc' := 66) (lv' := [(0, .ref 66), (1, .int (nI 3)), (2, .int (nI i)), (3, .int xv)]) (st' := []) (σ' := sw σ 96 (nI i).toNatClampNeg (xv.toInt8.toInt32)) rfl (vp_in_nI (by omega) (by omega)) ?_
          rw [show (sw σ 96 (nI i).toNatClampNeg (xv.toInt8.toInt32)) = sw σ 96 i (xv.toInt8.toInt32) from (by rw [nI_clamp (by omega)])]
          refine rw_go hX [(66, .iconst 1)] (by decide +kernel) (Ps := []) (pc' := 67) (lv' := [(0, .ref 66), (1, .int (nI 3)), (2, .int (nI i)), (3, .int xv)]) (st' := [.int (nI 1)]) (σ' := sw σ 96 i (xv.toInt8.toInt32)) rfl True.intro ?_
          exact rw_iret hX (by decide +kernel) (⟨by simp only [aPut, eq_true hk4, hcs, eq_true h4, eq_true h16, eq_false hso1, eq_true h37, hci, eq_false hzi, eq_true hli, eq_true h56, if_true, if_false, Bool.false_eq_true, and_self, and_true, true_and, and_false, false_and, oel_n, oel_s, decide_true, decide_false], by simp only [sPutM, eq_true hk4, hcs, eq_true h4, eq_true h16, eq_false hso1, eq_true h37, hci, eq_false hzi, eq_true hli, eq_true h56, if_true, if_false, Bool.false_eq_true, and_self, and_true, true_and, and_false, false_and, oel_n, oel_s, decide_true, decide_false]⟩)
      · replace h37 := of_decide_eq_false (zb_neF h37)
        skip
        refine rw_go hX [(40, .bipush (-12))] (by decide +kernel) (Ps := []) (pc' := 42) (lv' := [(0, .ref 66), (1, .int (nI 3)), (2, .int xi), (3, .int xv)]) (st' := [.int (-(nI 12))]) (σ' := σ) rfl True.intro ?_
        exact rw_iret hX (by decide +kernel) (⟨by simp only [aPut, eq_true hk4, hcs, eq_true h4, eq_true h16, eq_false hso1, eq_false h37, ite2 h37, if_true, if_false, Bool.false_eq_true, and_self, and_true, true_and, and_false, false_and, oel_n, oel_s, decide_true, decide_false], by simp only [sPutM, eq_true hk4, hcs, eq_true h4, eq_true h16, eq_false hso1, eq_false h37, ite2 h37, if_true, if_false, Bool.false_eq_true, and_self, and_true, true_and, and_false, false_and, oel_n, oel_s, decide_true, decide_false]⟩)
    · replace h16 : ¬ (σ 97 3 ≥ 0) := h16
      have hso1 : σ 97 3 = -(nI 1) := (so_m hos).mp (Int32.not_le.mp h16)
      refine rw_go hX [(19, .bipush (-11))] (by decide +kernel) (Ps := []) (pc' := 21) (lv' := [(0, .ref 66), (1, .int (nI 3)), (2, .int xi), (3, .int xv)]) (st' := [.int (-(nI 11))]) (σ' := σ) rfl True.intro ?_
      exact rw_iret hX (by decide +kernel) (⟨by simp only [aPut, eq_true hk4, hcs, eq_true h4, eq_false h16, eq_true hso1, if_true, if_false, Bool.false_eq_true, and_self, and_true, true_and, and_false, false_and, oel_n, oel_s, decide_true, decide_false], by simp only [sPutM, eq_true hk4, hcs, eq_true h4, eq_false h16, eq_true hso1, if_true, if_false, Bool.false_eq_true, and_self, and_true, true_and, and_false, false_and, oel_n, oel_s, decide_true, decide_false]⟩)
  · exact absurd (by simp only [cz, cc2]; decide +kernel) h4
set_option maxRecDepth 20000 in
set_option maxHeartbeats 800000 in
theorem g_sheetO (l : Launch) (G : Gl) (σ : Mm) (xs xq xn : Int32) (hx : ¬ (0 ≤ xs ∧ xs ≤ 3)) : AMi l G 3 mX10_sheet [.ref 66, .int xs, .int xq, .int xn] σ (fun r σ' => r = aSheet xs xq xn ∧ σ' = sSheetM σ xs xq xn) := by
  refine rw_inI 10 (by decide +kernel) rfl rfl ?_
  intro E hE hX
  subst hE
  refine rw_go hX [(0, .iload_n 1)] (by decide +kernel) (Ps := []) (pc' := 1) (lv' := [(0, .ref 66), (1, .int xs), (2, .int xq), (3, .int xn)]) (st' := [.int xs]) (σ' := σ) rfl True.intro ?_
  refine rw_callSi hX (as := [.int xs]) (rest := []) (m_isSheet _ _ _ xs) (by decide +kernel) msX10_isSheet (Or.inl lk10_298) rfl (by decide) (Nat.le_of_ble_eq_true rfl) rfl ?_
  intro r1 σ1 hr
  rw [hr.1, show r1 = nI 0 from hr.2.trans (by rw [decide_eq_false hx]; rfl)]
  clear hr σ1 r1
  refine rw_if hX (tgt := 29) (cnd := .eq) (off := 25) (by decide +kernel) (by decide) (fun h4 => ?_) (fun h4 => ?_)
  · skip
    refine rw_go hX [(29, .bipush (-2))] (by decide +kernel) (Ps := []) (pc' := 31) (lv' := [(0, .ref 66), (1, .int xs), (2, .int xq), (3, .int xn)]) (st' := [.int (-(nI 2))]) (σ' := σ) rfl True.intro ?_
    exact rw_iret hX (by decide +kernel) (⟨by simp only [aSheet, eq_false hx, if_true, if_false, Bool.false_eq_true, and_self, and_true, true_and, and_false, false_and, oel_n, oel_s, decide_true, decide_false], by simp only [sSheetM, eq_false hx, if_true, if_false, Bool.false_eq_true, and_self, and_true, true_and, and_false, false_and, oel_n, oel_s, decide_true, decide_false]⟩)
  · exact absurd (by simp only [cz, cc2]; decide +kernel) h4
set_option maxRecDepth 20000 in
set_option maxHeartbeats 800000 in
theorem g_putO (l : Launch) (G : Gl) (σ : Mm) (n : Nat → Nat) (xs xi xv : Int32) (hx : ¬ (0 ≤ xs ∧ xs ≤ 3)) : AMi l G 3 mX10_put [.ref 66, .int xs, .int xi, .int xv] σ (fun r σ' => r = aPut n (σ 97) xs xi ∧ σ' = sPutM n σ xs xi xv) := by
  refine rw_inI 10 (by decide +kernel) rfl rfl ?_
  intro E hE hX
  subst hE
  refine rw_go hX [(0, .iload_n 1)] (by decide +kernel) (Ps := []) (pc' := 1) (lv' := [(0, .ref 66), (1, .int xs), (2, .int xi), (3, .int xv)]) (st' := [.int xs]) (σ' := σ) rfl True.intro ?_
  refine rw_callSi hX (as := [.int xs]) (rest := []) (m_isSheet _ _ _ xs) (by decide +kernel) msX10_isSheet (Or.inl lk10_298) rfl (by decide) (Nat.le_of_ble_eq_true rfl) rfl ?_
  intro r1 σ1 hr
  rw [hr.1, show r1 = nI 0 from hr.2.trans (by rw [decide_eq_false hx]; rfl)]
  clear hr σ1 r1
  refine rw_if hX (tgt := 10) (cnd := .ne) (off := 6) (by decide +kernel) (by decide) (fun h4 => ?_) (fun h4 => ?_)
  · exact absurd h4 (by simp only [cz, cc2]; decide +kernel)
  · skip
    refine rw_go hX [(7, .bipush (-2))] (by decide +kernel) (Ps := []) (pc' := 9) (lv' := [(0, .ref 66), (1, .int xs), (2, .int xi), (3, .int xv)]) (st' := [.int (-(nI 2))]) (σ' := σ) rfl True.intro ?_
    exact rw_iret hX (by decide +kernel) (⟨by simp only [aPut, eq_false hx, if_true, if_false, Bool.false_eq_true, and_self, and_true, true_and, and_false, false_and, oel_n, oel_s, decide_true, decide_false], by simp only [sPutM, eq_false hx, if_true, if_false, Bool.false_eq_true, and_self, and_true, true_and, and_false, false_and, oel_n, oel_s, decide_true, decide_false]⟩)
theorem g_sheet (l : Launch) (G : Gl) (σ : Mm) (xs xq xn : Int32) : AMi l G 3 mX10_sheet [.ref 66, .int xs, .int xq, .int xn] σ (fun r σ' => r = aSheet xs xq xn ∧ σ' = sSheetM σ xs xq xn) := by
  by_cases h : 0 ≤ xs ∧ xs ≤ 3
  · rcases sh4q h with rfl | rfl | rfl | rfl
    · exact g_sheet_0 l G σ xq xn
    · exact g_sheet_1 l G σ xq xn
    · exact g_sheet_2 l G σ xq xn
    · exact g_sheet_3 l G σ xq xn
  · exact g_sheetO l G σ xs xq xn h
theorem g_put (l : Launch) (G : Gl) (σ : Mm) (n : Nat → Nat) (xs xi xv : Int32) (hsh : ∀ s, s < 4 → σ 98 s = nI (n s) ∧ n s ≤ 40) (hso : ∀ s, s < 4 → σ 97 s = -(nI 1) ∨ σ 97 s = nI 0 ∨ σ 97 s = nI 1) : AMi l G 3 mX10_put [.ref 66, .int xs, .int xi, .int xv] σ (fun r σ' => r = aPut n (σ 97) xs xi ∧ σ' = sPutM n σ xs xi xv) := by
  by_cases h : 0 ≤ xs ∧ xs ≤ 3
  · rcases sh4q h with rfl | rfl | rfl | rfl
    · exact g_put_0 l G σ n xi xv hsh hso
    · exact g_put_1 l G σ n xi xv hsh hso
    · exact g_put_2 l G σ n xi xv hsh hso
    · exact g_put_3 l G σ n xi xv hsh hso
  · exact g_putO l G σ n xs xi xv h
