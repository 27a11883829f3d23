/-! sides: letters, anchors -/
def fw (f g : Nat → Int32) (i : Nat) : Nat → Int32 := fun j => if j < i then g j else f j
theorem fw_0 (f g : Nat → Int32) : fw f g 0 = f := by
  funext j
  simp [fw]
theorem fw_1 (f g : Nat → Int32) (i : Nat) : upd (fw f g i) i (g i) = fw f g (i + 1) := by
  funext j
  simp only [upd, fw]
  by_cases e : j = i
  · subst e; simp
  · rw [if_neg e]
    by_cases h : j < i
    · rw [if_pos h, if_pos (by omega)]
    · rw [if_neg h, if_neg (by omega)]
/-- whether the form at cell p is common -/
def fC (σ : Mm) (p : Nat) : Bool := decide (σ 35 (σ 29 p).toNatClampNeg ≥ σ 31 8) || decide (σ 38 (σ 29 p).toNatClampNeg ≠ 0)
def anV (σ : Mm) (w gn i : Nat) : Int32 := if i < gn ∧ σ 30 (50 * w + i) ≠ 0 ∧ fC σ (50 * w + i) = false then σ 29 (50 * w + i) else -(nI 1)
def ldS (sd w L gn : Nat) (σ : Mm) : Mm := sr (sr (sw σ sd 0 (nI L)) (sd + 1) (fw (σ (sd + 1)) (fun j => σ 26 (50 * w + j)) L)) (sd + 2) (fw (σ (sd + 2)) (anV σ w gn) L)
set_option maxRecDepth 20000 in
set_option maxHeartbeats 4000000 in
theorem c_load_40 (l : Launch) (G : Gl) (σ : Mm) (w L gn F : Nat) (hw : w < 5) (hL : σ 24 w = nI L) (hL5 : L ≤ 50) (hg : σ 25 w = nI gn) (hg5 : gn ≤ 50) (hF : σ 31 0 = nI F) (hF2 : F ≤ 250) (hfo : ∀ i, i < gn → ∃ f, f < F ∧ σ 29 (50 * w + i) = nI f) : AMv l G 3 mX6_load [.ref 40, .ref 23, .ref 31, .int (nI w)] σ (fun σ' => σ' = ldS 40 w L gn σ) := by
  refine rw_inV 6 (by decide +kernel) rfl rfl ?_
  intro E hE hX
  subst hE
  refine rw_go hX [(0, .aload_n 0), (1, .bipush 50), (3, .aload_n 1), (4, .iload_n 3)] (by decide +kernel) (Ps := []) (pc' := 5) (lv' := [(0, .ref 40), (1, .ref 23), (2, .ref 31), (3, .int (nI w))]) (st' := [.int (nI w), .ref 23, .int (nI 50), .ref 40]) (σ' := σ) rfl True.intro ?_
  refine rw_callVi hX (as := [.int (nI w)]) (rest := [.int (nI 50), .ref 40]) (c_letterCount _ _ _ w hw) (by decide +kernel) mvX3_letterCount lk6_22 (ci := 2) rfl rfl rfl (by decide) (Nat.le_of_ble_eq_true rfl) rfl ?_
  intro r1 σ1 hr
  rw [hr.1, show r1 = nI L from hr.2.trans hL]
  clear hr σ1 r1
  refine rw_min hX (by decide +kernel) lk6_28 (Nat.le_of_ble_eq_true rfl) ?_
  rw [show (if nI L < nI 50 then nI L else nI 50) = nI L from mn_l hL5 (by omega)]
  refine rw_go hX [(11, .putfield 9), (14, .iconst 0), (15, .istore 4)] (by decide +kernel) (Ps := []) (pc' := 17) (lv' := [(0, .ref 40), (1, .ref 23), (2, .ref 31), (3, .int (nI w)), (4, .int (nI 0))]) (st' := []) (σ' := sw σ 40 0 (nI L)) rfl True.intro ?_
  have L17 : ∀ (μ17 : Nat) (i : Nat), μ17 = L - i → (i ≤ L) → RW E G 3 6 (QV E G (fun σ' => σ' = ldS 40 w L gn σ)) 17 [(0, .ref 40), (1, .ref 23), (2, .ref 31), (3, .int (nI w)), (4, .int (nI i))] [] (sr (sr (sw σ 40 0 (nI L)) 41 (fw (σ 41) (fun j => σ 26 (50 * w + j)) i)) 42 (fw (σ 42) (anV σ w gn) i)) := by
    intro μ17
    induction μ17 using Nat.strongRecOn with
    | ind μ17 ih17 =>
      intro i hμ17 hi
      refine rw_go hX [(17, .iload 4), (19, .aload_n 0), (20, .getfield 9)] (by decide +kernel) (Ps := []) (pc' := 23) (lv' := [(0, .ref 40), (1, .ref 23), (2, .ref 31), (3, .int (nI w)), (4, .int (nI i))]) (st' := [.int ((sr (sr (sw σ 40 0 (nI L)) 41 (fw (σ 41) (fun j => σ 26 (50 * w + j)) i)) 42 (fw (σ 42) (anV σ w gn) i)) 40 0), .int (nI i)]) (σ' := sr (sr (sw σ 40 0 (nI L)) 41 (fw (σ 41) (fun j => σ 26 (50 * w + j)) i)) 42 (fw (σ 42) (anV σ w gn) i)) rfl True.intro ?_
      rw [show ((sr (sr (sw σ 40 0 (nI L)) 41 (fw (σ 41) (fun j => σ 26 (50 * w + j)) i)) 42 (fw (σ 42) (anV σ w gn) i)) 40 0) = nI L from (by rw [sr_n _ _ (by decide), sr_n _ _ (by decide), sw_eq])]
      refine rw_icmp hX (tgt := 91) (cnd := .ge) (off := 68) (by decide +kernel) (by decide) (fun h23 => ?_) (fun h23 => ?_)
      · replace h23 := c2_geT h23
        have e : i = L := by omega
        exact rw_vret hX (by decide +kernel) (by rw [e]; rfl)
      · replace h23 := c2_geF h23
        refine rw_go hX [(26, .aload_n 1), (27, .iload_n 3), (28, .iload 4)] (by decide +kernel) (Ps := []) (pc' := 30) (lv' := [(0, .ref 40), (1, .ref 23), (2, .ref 31), (3, .int (nI w)), (4, .int (nI i))]) (st' := [.int (nI i), .int (nI w), .ref 23]) (σ' := sr (sr (sw σ 40 0 (nI L)) 41 (fw (σ 41) (fun j => σ 26 (50 * w + j)) i)) 42 (fw (σ 42) (anV σ w gn) i)) rfl True.intro ?_
        refine rw_callVi hX (as := [.int (nI w), .int (nI i)]) (rest := []) (c_isPrint _ _ _ w i gn hw (by omega) (by rw [sr_n _ _ (by decide), sr_n _ _ (by decide), sw_ne _ _ _ (by decide)]; exact hg) hg5) (by decide +kernel) mvX3_isPrint lk6_34 (ci := 2) rfl rfl rfl (by decide) (Nat.le_of_ble_eq_true rfl) rfl ?_
        intro r1 σ1 hr
        rw [hr.1, show r1 = bz (decide (i < gn) && decide (σ 30 (50 * w + i) ≠ 0)) from hr.2.trans (by rw [sr_n _ _ (by decide), sr_n _ _ (by decide), sw_ne _ _ _ (by decide)])]
        clear hr σ1 r1
        refine rw_if hX (tgt := 46) (cnd := .eq) (off := 13) (by decide +kernel) (by decide) (fun h33 => ?_) (fun h33 => ?_)
        · replace h33 := zb_eqT h33
          have hp : ¬ (i < gn ∧ σ 30 (50 * w + i) ≠ 0) := fun z => by rw [decide_eq_true z.1, decide_eq_true z.2] at h33; exact absurd h33 (by decide)
          have hc := hp
          have hf2 := hp
          refine rw_go hX [(46, .iconst (-1)), (47, .istore 5), (49, .aload_n 0), (50, .getfield 15), (53, .iload 4), (55, .aload_n 1), (56, .iload_n 3), (57, .iload 4)] (by decide +kernel) (Ps := []) (pc' := 59) (lv' := [(0, .ref 40), (1, .ref 23), (2, .ref 31), (3, .int (nI w)), (4, .int (nI i)), (5, .int (-(nI 1)))]) (st' := [.int (nI i), .int (nI w), .ref 23, .int (nI i), .ref 41]) (σ' := sr (sr (sw σ 40 0 (nI L)) 41 (fw (σ 41) (fun j => σ 26 (50 * w + j)) i)) 42 (fw (σ 42) (anV σ w gn) i)) rfl True.intro ?_
          refine rw_callVi hX (as := [.int (nI w), .int (nI i)]) (rest := [.int (nI i), .ref 41]) (c_tellAt _ _ _ w i hw (by omega)) (by decide +kernel) mvX3_tellAt lk6_41 (ci := 2) rfl rfl rfl (by decide) (Nat.le_of_ble_eq_true rfl) rfl ?_
          intro r1 σ1 hr
          rw [hr.1, show r1 = σ 26 (50 * w + i) from hr.2.trans (by rw [sr_n _ _ (by decide), sr_n _ _ (by decide), sw_ne _ _ _ (by decide)])]
          clear hr σ1 r1
          refine rw_go hX [(62, .iastore)] (by decide +kernel) (Ps := [vp_in (nI i) 50]) (pc' := 63) (lv' := [(0, .ref 40), (1, .ref 23), (2, .ref 31), (3, .int (nI w)), (4, .int (nI i)), (5, .int (-(nI 1)))]) (st' := []) (σ' := sw (sr (sr (sw σ 40 0 (nI L)) 41 (fw (σ 41) (fun j => σ 26 (50 * w + j)) i)) 42 (fw (σ 42) (anV σ w gn) i)) 41 (nI i).toNatClampNeg (σ 26 (50 * w + i))) rfl (vp_in_nI (by omega) (by omega)) ?_
          rw [show (sw (sr (sr (sw σ 40 0 (nI L)) 41 (fw (σ 41) (fun j => σ 26 (50 * w + j)) i)) 42 (fw (σ 42) (anV σ w gn) i)) 41 (nI i).toNatClampNeg (σ 26 (50 * w + i))) = sw (sr (sr (sw σ 40 0 (nI L)) 41 (fw (σ 41) (fun j => σ 26 (50 * w + j)) i)) 42 (fw (σ 42) (anV σ w gn) i)) 41 i (σ 26 (50 * w + i)) from (by rw [nI_clamp (by omega)])]
          refine rw_go hX [(63, .aload_n 0), (64, .getfield 19), (67, .iload 4), (69, .aload_n 2), (70, .iload 5)] (by decide +kernel) (Ps := []) (pc' := 72) (lv' := [(0, .ref 40), (1, .ref 23), (2, .ref 31), (3, .int (nI w)), (4, .int (nI i)), (5, .int (-(nI 1)))]) (st' := [.int (-(nI 1)), .ref 31, .int (nI i), .ref 42]) (σ' := sw (sr (sr (sw σ 40 0 (nI L)) 41 (fw (σ 41) (fun j => σ 26 (50 * w + j)) i)) 42 (fw (σ 42) (anV σ w gn) i)) 41 i (σ 26 (50 * w + i))) rfl True.intro ?_
          refine rw_callVi hX (as := [.int (-(nI 1))]) (rest := [.int (nI i), .ref 42]) (c_isCommonN _ _ _) (by decide +kernel) mvX0_isCommon lk6_44 (ci := 0) rfl rfl rfl (by decide) (Nat.le_of_ble_eq_true rfl) rfl ?_
          intro r1 σ1 hr
          rw [hr.1, hr.2]
          clear hr σ1 r1
          refine rw_if hX (tgt := 82) (cnd := .eq) (off := 7) (by decide +kernel) (by decide) (fun h75 => ?_) (fun h75 => ?_)
          · skip
            refine rw_go hX [(82, .iload 5), (84, .iastore)] (by decide +kernel) (Ps := [vp_in (nI i) 50]) (pc' := 85) (lv' := [(0, .ref 40), (1, .ref 23), (2, .ref 31), (3, .int (nI w)), (4, .int (nI i)), (5, .int (-(nI 1)))]) (st' := []) (σ' := sw (sw (sr (sr (sw σ 40 0 (nI L)) 41 (fw (σ 41) (fun j => σ 26 (50 * w + j)) i)) 42 (fw (σ 42) (anV σ w gn) i)) 41 i (σ 26 (50 * w + i))) 42 (nI i).toNatClampNeg (-(nI 1))) rfl (vp_in_nI (by omega) (by omega)) ?_
            rw [show (sw (sw (sr (sr (sw σ 40 0 (nI L)) 41 (fw (σ 41) (fun j => σ 26 (50 * w + j)) i)) 42 (fw (σ 42) (anV σ w gn) i)) 41 i (σ 26 (50 * w + i))) 42 (nI i).toNatClampNeg (-(nI 1))) = sw (sw (sr (sr (sw σ 40 0 (nI L)) 41 (fw (σ 41) (fun j => σ 26 (50 * w + j)) i)) 42 (fw (σ 42) (anV σ w gn) i)) 41 i (σ 26 (50 * w + i))) 42 i (-(nI 1)) from (by rw [nI_clamp (by omega)])]
            refine rw_go hX [(85, .iinc 4 1), (88, .goto (-71))] (by decide +kernel) (Ps := []) (pc' := 17) (lv' := [(0, .ref 40), (1, .ref 23), (2, .ref 31), (3, .int (nI w)), (4, .int (nI i + nI 1)), (5, .int (-(nI 1)))]) (st' := []) (σ' := sw (sw (sr (sr (sw σ 40 0 (nI L)) 41 (fw (σ 41) (fun j => σ 26 (50 * w + j)) i)) 42 (fw (σ 42) (anV σ w gn) i)) 41 i (σ 26 (50 * w + i))) 42 i (-(nI 1))) rfl True.intro ?_
            refine rw_lsub (ks := [0, 1, 2, 3, 4]) (lv' := [(0, .ref 40), (1, .ref 23), (2, .ref 31), (3, .int (nI w)), (4, .int (nI i + nI 1))]) rfl ?_
            have q := ih17 (L - (i + 1)) (by omega) (i + 1) rfl (by omega)
            rw [← fw_1, ← fw_1] at q
            have ea : anV σ w gn i = -(nI 1) := by
              unfold anV
              rw [if_neg (fun z => hp ⟨z.1, z.2.1⟩)]
            rw [ea] at q
            rw [nI_add, sw_sr2 _ _ _ _ _ (by decide), sw_sr]
            exact q
          · exact absurd (by simp only [cz, cc2]; decide +kernel) h75
        · replace h33 := zb_eqF h33
          have hp : i < gn ∧ σ 30 (50 * w + i) ≠ 0 := by
            rw [Bool.and_eq_true, decide_eq_true_eq, decide_eq_true_eq] at h33
            exact h33
          obtain ⟨f, hf1, hf2⟩ := hfo i hp.1
          refine rw_go hX [(36, .aload_n 1), (37, .iload_n 3), (38, .iload 4)] (by decide +kernel) (Ps := []) (pc' := 40) (lv' := [(0, .ref 40), (1, .ref 23), (2, .ref 31), (3, .int (nI w)), (4, .int (nI i))]) (st' := [.int (nI i), .int (nI w), .ref 23]) (σ' := sr (sr (sw σ 40 0 (nI L)) 41 (fw (σ 41) (fun j => σ 26 (50 * w + j)) i)) 42 (fw (σ 42) (anV σ w gn) i)) rfl True.intro ?_
          refine rw_callVi hX (as := [.int (nI w), .int (nI i)]) (rest := []) (c_formAt _ _ _ w i hw (by omega)) (by decide +kernel) mvX3_formAt lk6_38 (ci := 2) rfl rfl rfl (by decide) (Nat.le_of_ble_eq_true rfl) rfl ?_
          intro r1 σ1 hr
          rw [hr.1, show r1 = nI f from hr.2.trans (by rw [sr_n _ _ (by decide), sr_n _ _ (by decide), sw_ne _ _ _ (by decide)]; exact hf2)]
          clear hr σ1 r1
          refine rw_go hX [(43, .goto 4), (47, .istore 5), (49, .aload_n 0), (50, .getfield 15), (53, .iload 4), (55, .aload_n 1), (56, .iload_n 3), (57, .iload 4)] (by decide +kernel) (Ps := []) (pc' := 59) (lv' := [(0, .ref 40), (1, .ref 23), (2, .ref 31), (3, .int (nI w)), (4, .int (nI i)), (5, .int (nI f))]) (st' := [.int (nI i), .int (nI w), .ref 23, .int (nI i), .ref 41]) (σ' := sr (sr (sw σ 40 0 (nI L)) 41 (fw (σ 41) (fun j => σ 26 (50 * w + j)) i)) 42 (fw (σ 42) (anV σ w gn) i)) rfl True.intro ?_
          refine rw_callVi hX (as := [.int (nI w), .int (nI i)]) (rest := [.int (nI i), .ref 41]) (c_tellAt _ _ _ w i hw (by omega)) (by decide +kernel) mvX3_tellAt lk6_41 (ci := 2) rfl rfl rfl (by decide) (Nat.le_of_ble_eq_true rfl) rfl ?_
          intro r1 σ1 hr
          rw [hr.1, show r1 = σ 26 (50 * w + i) from hr.2.trans (by rw [sr_n _ _ (by decide), sr_n _ _ (by decide), sw_ne _ _ _ (by decide)])]
          clear hr σ1 r1
          refine rw_go hX [(62, .iastore)] (by decide +kernel) (Ps := [vp_in (nI i) 50]) (pc' := 63) (lv' := [(0, .ref 40), (1, .ref 23), (2, .ref 31), (3, .int (nI w)), (4, .int (nI i)), (5, .int (nI f))]) (st' := []) (σ' := sw (sr (sr (sw σ 40 0 (nI L)) 41 (fw (σ 41) (fun j => σ 26 (50 * w + j)) i)) 42 (fw (σ 42) (anV σ w gn) i)) 41 (nI i).toNatClampNeg (σ 26 (50 * w + i))) rfl (vp_in_nI (by omega) (by omega)) ?_
          rw [show (sw (sr (sr (sw σ 40 0 (nI L)) 41 (fw (σ 41) (fun j => σ 26 (50 * w + j)) i)) 42 (fw (σ 42) (anV σ w gn) i)) 41 (nI i).toNatClampNeg (σ 26 (50 * w + i))) = sw (sr (sr (sw σ 40 0 (nI L)) 41 (fw (σ 41) (fun j => σ 26 (50 * w + j)) i)) 42 (fw (σ 42) (anV σ w gn) i)) 41 i (σ 26 (50 * w + i)) from (by rw [nI_clamp (by omega)])]
          refine rw_go hX [(63, .aload_n 0), (64, .getfield 19), (67, .iload 4), (69, .aload_n 2), (70, .iload 5)] (by decide +kernel) (Ps := []) (pc' := 72) (lv' := [(0, .ref 40), (1, .ref 23), (2, .ref 31), (3, .int (nI w)), (4, .int (nI i)), (5, .int (nI f))]) (st' := [.int (nI f), .ref 31, .int (nI i), .ref 42]) (σ' := sw (sr (sr (sw σ 40 0 (nI L)) 41 (fw (σ 41) (fun j => σ 26 (50 * w + j)) i)) 42 (fw (σ 42) (anV σ w gn) i)) 41 i (σ 26 (50 * w + i))) rfl True.intro ?_
          refine rw_callVi hX (as := [.int (nI f)]) (rest := [.int (nI i), .ref 42]) (c_isCommon _ _ _ f F (by rw [sw_ne _ _ _ (by decide), sr_n _ _ (by decide), sr_n _ _ (by decide), sw_ne _ _ _ (by decide)]; exact hF) hF2 hf1) (by decide +kernel) mvX0_isCommon lk6_44 (ci := 0) rfl rfl rfl (by decide) (Nat.le_of_ble_eq_true rfl) rfl ?_
          intro r1 σ1 hr
          rw [hr.1, show r1 = bz (fC σ (50 * w + i)) from hr.2.trans (by
            unfold fC
            rw [hf2, nI_clamp (by omega)]
            rw [sw_ne _ _ _ (by decide), sr_n _ _ (by decide), sr_n _ _ (by decide), sw_ne _ _ _ (by decide), sw_ne _ _ _ (by decide), sr_n _ _ (by decide), sr_n _ _ (by decide), sw_ne _ _ _ (by decide), sw_ne _ _ _ (by decide), sr_n _ _ (by decide), sr_n _ _ (by decide), sw_ne _ _ _ (by decide)])]
          clear hr σ1 r1
          refine rw_if hX (tgt := 82) (cnd := .eq) (off := 7) (by decide +kernel) (by decide) (fun h75 => ?_) (fun h75 => ?_)
          · replace h75 := zb_eqT h75
            have hc := h75
            refine rw_go hX [(82, .iload 5), (84, .iastore)] (by decide +kernel) (Ps := [vp_in (nI i) 50]) (pc' := 85) (lv' := [(0, .ref 40), (1, .ref 23), (2, .ref 31), (3, .int (nI w)), (4, .int (nI i)), (5, .int (nI f))]) (st' := []) (σ' := sw (sw (sr (sr (sw σ 40 0 (nI L)) 41 (fw (σ 41) (fun j => σ 26 (50 * w + j)) i)) 42 (fw (σ 42) (anV σ w gn) i)) 41 i (σ 26 (50 * w + i))) 42 (nI i).toNatClampNeg (nI f)) rfl (vp_in_nI (by omega) (by omega)) ?_
            rw [show (sw (sw (sr (sr (sw σ 40 0 (nI L)) 41 (fw (σ 41) (fun j => σ 26 (50 * w + j)) i)) 42 (fw (σ 42) (anV σ w gn) i)) 41 i (σ 26 (50 * w + i))) 42 (nI i).toNatClampNeg (nI f)) = sw (sw (sr (sr (sw σ 40 0 (nI L)) 41 (fw (σ 41) (fun j => σ 26 (50 * w + j)) i)) 42 (fw (σ 42) (anV σ w gn) i)) 41 i (σ 26 (50 * w + i))) 42 i (nI f) from (by rw [nI_clamp (by omega)])]
            refine rw_go hX [(85, .iinc 4 1), (88, .goto (-71))] (by decide +kernel) (Ps := []) (pc' := 17) (lv' := [(0, .ref 40), (1, .ref 23), (2, .ref 31), (3, .int (nI w)), (4, .int (nI i + nI 1)), (5, .int (nI f))]) (st' := []) (σ' := sw (sw (sr (sr (sw σ 40 0 (nI L)) 41 (fw (σ 41) (fun j => σ 26 (50 * w + j)) i)) 42 (fw (σ 42) (anV σ w gn) i)) 41 i (σ 26 (50 * w + i))) 42 i (nI f)) rfl True.intro ?_
            refine rw_lsub (ks := [0, 1, 2, 3, 4]) (lv' := [(0, .ref 40), (1, .ref 23), (2, .ref 31), (3, .int (nI w)), (4, .int (nI i + nI 1))]) rfl ?_
            have q := ih17 (L - (i + 1)) (by omega) (i + 1) rfl (by omega)
            rw [← fw_1, ← fw_1] at q
            have ea : anV σ w gn i = nI f := by
              unfold anV
              rw [if_pos ⟨hp.1, hp.2, hc⟩, hf2]
            rw [ea] at q
            rw [nI_add, sw_sr2 _ _ _ _ _ (by decide), sw_sr]
            exact q
          · replace h75 := zb_eqF h75
            have hc := h75
            refine rw_go hX [(78, .iconst (-1)), (79, .goto 5), (84, .iastore)] (by decide +kernel) (Ps := [vp_in (nI i) 50]) (pc' := 85) (lv' := [(0, .ref 40), (1, .ref 23), (2, .ref 31), (3, .int (nI w)), (4, .int (nI i)), (5, .int (nI f))]) (st' := []) (σ' := sw (sw (sr (sr (sw σ 40 0 (nI L)) 41 (fw (σ 41) (fun j => σ 26 (50 * w + j)) i)) 42 (fw (σ 42) (anV σ w gn) i)) 41 i (σ 26 (50 * w + i))) 42 (nI i).toNatClampNeg (-(nI 1))) rfl (vp_in_nI (by omega) (by omega)) ?_
            rw [show (sw (sw (sr (sr (sw σ 40 0 (nI L)) 41 (fw (σ 41) (fun j => σ 26 (50 * w + j)) i)) 42 (fw (σ 42) (anV σ w gn) i)) 41 i (σ 26 (50 * w + i))) 42 (nI i).toNatClampNeg (-(nI 1))) = sw (sw (sr (sr (sw σ 40 0 (nI L)) 41 (fw (σ 41) (fun j => σ 26 (50 * w + j)) i)) 42 (fw (σ 42) (anV σ w gn) i)) 41 i (σ 26 (50 * w + i))) 42 i (-(nI 1)) from (by rw [nI_clamp (by omega)])]
            refine rw_go hX [(85, .iinc 4 1), (88, .goto (-71))] (by decide +kernel) (Ps := []) (pc' := 17) (lv' := [(0, .ref 40), (1, .ref 23), (2, .ref 31), (3, .int (nI w)), (4, .int (nI i + nI 1)), (5, .int (nI f))]) (st' := []) (σ' := sw (sw (sr (sr (sw σ 40 0 (nI L)) 41 (fw (σ 41) (fun j => σ 26 (50 * w + j)) i)) 42 (fw (σ 42) (anV σ w gn) i)) 41 i (σ 26 (50 * w + i))) 42 i (-(nI 1))) rfl True.intro ?_
            refine rw_lsub (ks := [0, 1, 2, 3, 4]) (lv' := [(0, .ref 40), (1, .ref 23), (2, .ref 31), (3, .int (nI w)), (4, .int (nI i + nI 1))]) rfl ?_
            have q := ih17 (L - (i + 1)) (by omega) (i + 1) rfl (by omega)
            rw [← fw_1, ← fw_1] at q
            have ea : anV σ w gn i = -(nI 1) := by
              unfold anV
              rw [if_neg (fun z => absurd z.2.2 (by rw [hc]; decide))]
            rw [ea] at q
            rw [nI_add, sw_sr2 _ _ _ _ _ (by decide), sw_sr]
            exact q
  refine rw_lsub (ks := [0, 1, 2, 3, 4]) (lv' := [(0, .ref 40), (1, .ref 23), (2, .ref 31), (3, .int (nI w)), (4, .int (nI 0))]) rfl ?_
  have q := L17 L 0 rfl (by omega)
  rw [fw_0, fw_0] at q
  rw [show sr (sr (sw σ 40 0 (nI L)) 41 (σ 41)) 42 (σ 42) = sw σ 40 0 (nI L) from by
    rw [show σ 41 = sw σ 40 0 (nI L) 41 from (sw_ne _ _ _ (by decide)).symm, show σ 42 = sw σ 40 0 (nI L) 42 from (sw_ne _ _ _ (by decide)).symm, sr_id, sr_id]] at q
  exact q
set_option maxRecDepth 20000 in
set_option maxHeartbeats 4000000 in
theorem c_load_43 (l : Launch) (G : Gl) (σ : Mm) (w L gn F : Nat) (hw : w < 5) (hL : σ 24 w = nI L) (hL5 : L ≤ 50) (hg : σ 25 w = nI gn) (hg5 : gn ≤ 50) (hF : σ 31 0 = nI F) (hF2 : F ≤ 250) (hfo : ∀ i, i < gn → ∃ f, f < F ∧ σ 29 (50 * w + i) = nI f) : AMv l G 3 mX6_load [.ref 43, .ref 23, .ref 31, .int (nI w)] σ (fun σ' => σ' = ldS 43 w L gn σ) := by
  refine rw_inV 6 (by decide +kernel) rfl rfl ?_
  intro E hE hX
  subst hE
  refine rw_go hX [(0, .aload_n 0), (1, .bipush 50), (3, .aload_n 1), (4, .iload_n 3)] (by decide +kernel) (Ps := []) (pc' := 5) (lv' := [(0, .ref 43), (1, .ref 23), (2, .ref 31), (3, .int (nI w))]) (st' := [.int (nI w), .ref 23, .int (nI 50), .ref 43]) (σ' := σ) rfl True.intro ?_
  refine rw_callVi hX (as := [.int (nI w)]) (rest := [.int (nI 50), .ref 43]) (c_letterCount _ _ _ w hw) (by decide +kernel) mvX3_letterCount lk6_22 (ci := 2) rfl rfl rfl (by decide) (Nat.le_of_ble_eq_true rfl) rfl ?_
  intro r1 σ1 hr
  rw [hr.1, show r1 = nI L from hr.2.trans hL]
  clear hr σ1 r1
  refine rw_min hX (by decide +kernel) lk6_28 (Nat.le_of_ble_eq_true rfl) ?_
  rw [show (if nI L < nI 50 then nI L else nI 50) = nI L from mn_l hL5 (by omega)]
  refine rw_go hX [(11, .putfield 9), (14, .iconst 0), (15, .istore 4)] (by decide +kernel) (Ps := []) (pc' := 17) (lv' := [(0, .ref 43), (1, .ref 23), (2, .ref 31), (3, .int (nI w)), (4, .int (nI 0))]) (st' := []) (σ' := sw σ 43 0 (nI L)) rfl True.intro ?_
  have L17 : ∀ (μ17 : Nat) (i : Nat), μ17 = L - i → (i ≤ L) → RW E G 3 6 (QV E G (fun σ' => σ' = ldS 43 w L gn σ)) 17 [(0, .ref 43), (1, .ref 23), (2, .ref 31), (3, .int (nI w)), (4, .int (nI i))] [] (sr (sr (sw σ 43 0 (nI L)) 44 (fw (σ 44) (fun j => σ 26 (50 * w + j)) i)) 45 (fw (σ 45) (anV σ w gn) i)) := by
    intro μ17
    induction μ17 using Nat.strongRecOn with
    | ind μ17 ih17 =>
      intro i hμ17 hi
      refine rw_go hX [(17, .iload 4), (19, .aload_n 0), (20, .getfield 9)] (by decide +kernel) (Ps := []) (pc' := 23) (lv' := [(0, .ref 43), (1, .ref 23), (2, .ref 31), (3, .int (nI w)), (4, .int (nI i))]) (st' := [.int ((sr (sr (sw σ 43 0 (nI L)) 44 (fw (σ 44) (fun j => σ 26 (50 * w + j)) i)) 45 (fw (σ 45) (anV σ w gn) i)) 43 0), .int (nI i)]) (σ' := sr (sr (sw σ 43 0 (nI L)) 44 (fw (σ 44) (fun j => σ 26 (50 * w + j)) i)) 45 (fw (σ 45) (anV σ w gn) i)) rfl True.intro ?_
      rw [show ((sr (sr (sw σ 43 0 (nI L)) 44 (fw (σ 44) (fun j => σ 26 (50 * w + j)) i)) 45 (fw (σ 45) (anV σ w gn) i)) 43 0) = nI L from (by rw [sr_n _ _ (by decide), sr_n _ _ (by decide), sw_eq])]
      refine rw_icmp hX (tgt := 91) (cnd := .ge) (off := 68) (by decide +kernel) (by decide) (fun h23 => ?_) (fun h23 => ?_)
      · replace h23 := c2_geT h23
        have e : i = L := by omega
        exact rw_vret hX (by decide +kernel) (by rw [e]; rfl)
      · replace h23 := c2_geF h23
        refine rw_go hX [(26, .aload_n 1), (27, .iload_n 3), (28, .iload 4)] (by decide +kernel) (Ps := []) (pc' := 30) (lv' := [(0, .ref 43), (1, .ref 23), (2, .ref 31), (3, .int (nI w)), (4, .int (nI i))]) (st' := [.int (nI i), .int (nI w), .ref 23]) (σ' := sr (sr (sw σ 43 0 (nI L)) 44 (fw (σ 44) (fun j => σ 26 (50 * w + j)) i)) 45 (fw (σ 45) (anV σ w gn) i)) rfl True.intro ?_
        refine rw_callVi hX (as := [.int (nI w), .int (nI i)]) (rest := []) (c_isPrint _ _ _ w i gn hw (by omega) (by rw [sr_n _ _ (by decide), sr_n _ _ (by decide), sw_ne _ _ _ (by decide)]; exact hg) hg5) (by decide +kernel) mvX3_isPrint lk6_34 (ci := 2) rfl rfl rfl (by decide) (Nat.le_of_ble_eq_true rfl) rfl ?_
        intro r1 σ1 hr
        rw [hr.1, show r1 = bz (decide (i < gn) && decide (σ 30 (50 * w + i) ≠ 0)) from hr.2.trans (by rw [sr_n _ _ (by decide), sr_n _ _ (by decide), sw_ne _ _ _ (by decide)])]
        clear hr σ1 r1
        refine rw_if hX (tgt := 46) (cnd := .eq) (off := 13) (by decide +kernel) (by decide) (fun h33 => ?_) (fun h33 => ?_)
        · replace h33 := zb_eqT h33
          have hp : ¬ (i < gn ∧ σ 30 (50 * w + i) ≠ 0) := fun z => by rw [decide_eq_true z.1, decide_eq_true z.2] at h33; exact absurd h33 (by decide)
          have hc := hp
          have hf2 := hp
          refine rw_go hX [(46, .iconst (-1)), (47, .istore 5), (49, .aload_n 0), (50, .getfield 15), (53, .iload 4), (55, .aload_n 1), (56, .iload_n 3), (57, .iload 4)] (by decide +kernel) (Ps := []) (pc' := 59) (lv' := [(0, .ref 43), (1, .ref 23), (2, .ref 31), (3, .int (nI w)), (4, .int (nI i)), (5, .int (-(nI 1)))]) (st' := [.int (nI i), .int (nI w), .ref 23, .int (nI i), .ref 44]) (σ' := sr (sr (sw σ 43 0 (nI L)) 44 (fw (σ 44) (fun j => σ 26 (50 * w + j)) i)) 45 (fw (σ 45) (anV σ w gn) i)) rfl True.intro ?_
          refine rw_callVi hX (as := [.int (nI w), .int (nI i)]) (rest := [.int (nI i), .ref 44]) (c_tellAt _ _ _ w i hw (by omega)) (by decide +kernel) mvX3_tellAt lk6_41 (ci := 2) rfl rfl rfl (by decide) (Nat.le_of_ble_eq_true rfl) rfl ?_
          intro r1 σ1 hr
          rw [hr.1, show r1 = σ 26 (50 * w + i) from hr.2.trans (by rw [sr_n _ _ (by decide), sr_n _ _ (by decide), sw_ne _ _ _ (by decide)])]
          clear hr σ1 r1
          refine rw_go hX [(62, .iastore)] (by decide +kernel) (Ps := [vp_in (nI i) 50]) (pc' := 63) (lv' := [(0, .ref 43), (1, .ref 23), (2, .ref 31), (3, .int (nI w)), (4, .int (nI i)), (5, .int (-(nI 1)))]) (st' := []) (σ' := sw (sr (sr (sw σ 43 0 (nI L)) 44 (fw (σ 44) (fun j => σ 26 (50 * w + j)) i)) 45 (fw (σ 45) (anV σ w gn) i)) 44 (nI i).toNatClampNeg (σ 26 (50 * w + i))) rfl (vp_in_nI (by omega) (by omega)) ?_
          rw [show (sw (sr (sr (sw σ 43 0 (nI L)) 44 (fw (σ 44) (fun j => σ 26 (50 * w + j)) i)) 45 (fw (σ 45) (anV σ w gn) i)) 44 (nI i).toNatClampNeg (σ 26 (50 * w + i))) = sw (sr (sr (sw σ 43 0 (nI L)) 44 (fw (σ 44) (fun j => σ 26 (50 * w + j)) i)) 45 (fw (σ 45) (anV σ w gn) i)) 44 i (σ 26 (50 * w + i)) from (by rw [nI_clamp (by omega)])]
          refine rw_go hX [(63, .aload_n 0), (64, .getfield 19), (67, .iload 4), (69, .aload_n 2), (70, .iload 5)] (by decide +kernel) (Ps := []) (pc' := 72) (lv' := [(0, .ref 43), (1, .ref 23), (2, .ref 31), (3, .int (nI w)), (4, .int (nI i)), (5, .int (-(nI 1)))]) (st' := [.int (-(nI 1)), .ref 31, .int (nI i), .ref 45]) (σ' := sw (sr (sr (sw σ 43 0 (nI L)) 44 (fw (σ 44) (fun j => σ 26 (50 * w + j)) i)) 45 (fw (σ 45) (anV σ w gn) i)) 44 i (σ 26 (50 * w + i))) rfl True.intro ?_
          refine rw_callVi hX (as := [.int (-(nI 1))]) (rest := [.int (nI i), .ref 45]) (c_isCommonN _ _ _) (by decide +kernel) mvX0_isCommon lk6_44 (ci := 0) rfl rfl rfl (by decide) (Nat.le_of_ble_eq_true rfl) rfl ?_
          intro r1 σ1 hr
          rw [hr.1, hr.2]
          clear hr σ1 r1
          refine rw_if hX (tgt := 82) (cnd := .eq) (off := 7) (by decide +kernel) (by decide) (fun h75 => ?_) (fun h75 => ?_)
          · skip
            refine rw_go hX [(82, .iload 5), (84, .iastore)] (by decide +kernel) (Ps := [vp_in (nI i) 50]) (pc' := 85) (lv' := [(0, .ref 43), (1, .ref 23), (2, .ref 31), (3, .int (nI w)), (4, .int (nI i)), (5, .int (-(nI 1)))]) (st' := []) (σ' := sw (sw (sr (sr (sw σ 43 0 (nI L)) 44 (fw (σ 44) (fun j => σ 26 (50 * w + j)) i)) 45 (fw (σ 45) (anV σ w gn) i)) 44 i (σ 26 (50 * w + i))) 45 (nI i).toNatClampNeg (-(nI 1))) rfl (vp_in_nI (by omega) (by omega)) ?_
            rw [show (sw (sw (sr (sr (sw σ 43 0 (nI L)) 44 (fw (σ 44) (fun j => σ 26 (50 * w + j)) i)) 45 (fw (σ 45) (anV σ w gn) i)) 44 i (σ 26 (50 * w + i))) 45 (nI i).toNatClampNeg (-(nI 1))) = sw (sw (sr (sr (sw σ 43 0 (nI L)) 44 (fw (σ 44) (fun j => σ 26 (50 * w + j)) i)) 45 (fw (σ 45) (anV σ w gn) i)) 44 i (σ 26 (50 * w + i))) 45 i (-(nI 1)) from (by rw [nI_clamp (by omega)])]
            refine rw_go hX [(85, .iinc 4 1), (88, .goto (-71))] (by decide +kernel) (Ps := []) (pc' := 17) (lv' := [(0, .ref 43), (1, .ref 23), (2, .ref 31), (3, .int (nI w)), (4, .int (nI i + nI 1)), (5, .int (-(nI 1)))]) (st' := []) (σ' := sw (sw (sr (sr (sw σ 43 0 (nI L)) 44 (fw (σ 44) (fun j => σ 26 (50 * w + j)) i)) 45 (fw (σ 45) (anV σ w gn) i)) 44 i (σ 26 (50 * w + i))) 45 i (-(nI 1))) rfl True.intro ?_
            refine rw_lsub (ks := [0, 1, 2, 3, 4]) (lv' := [(0, .ref 43), (1, .ref 23), (2, .ref 31), (3, .int (nI w)), (4, .int (nI i + nI 1))]) rfl ?_
            have q := ih17 (L - (i + 1)) (by omega) (i + 1) rfl (by omega)
            rw [← fw_1, ← fw_1] at q
            have ea : anV σ w gn i = -(nI 1) := by
              unfold anV
              rw [if_neg (fun z => hp ⟨z.1, z.2.1⟩)]
            rw [ea] at q
            rw [nI_add, sw_sr2 _ _ _ _ _ (by decide), sw_sr]
            exact q
          · exact absurd (by simp only [cz, cc2]; decide +kernel) h75
        · replace h33 := zb_eqF h33
          have hp : i < gn ∧ σ 30 (50 * w + i) ≠ 0 := by
            rw [Bool.and_eq_true, decide_eq_true_eq, decide_eq_true_eq] at h33
            exact h33
          obtain ⟨f, hf1, hf2⟩ := hfo i hp.1
          refine rw_go hX [(36, .aload_n 1), (37, .iload_n 3), (38, .iload 4)] (by decide +kernel) (Ps := []) (pc' := 40) (lv' := [(0, .ref 43), (1, .ref 23), (2, .ref 31), (3, .int (nI w)), (4, .int (nI i))]) (st' := [.int (nI i), .int (nI w), .ref 23]) (σ' := sr (sr (sw σ 43 0 (nI L)) 44 (fw (σ 44) (fun j => σ 26 (50 * w + j)) i)) 45 (fw (σ 45) (anV σ w gn) i)) rfl True.intro ?_
          refine rw_callVi hX (as := [.int (nI w), .int (nI i)]) (rest := []) (c_formAt _ _ _ w i hw (by omega)) (by decide +kernel) mvX3_formAt lk6_38 (ci := 2) rfl rfl rfl (by decide) (Nat.le_of_ble_eq_true rfl) rfl ?_
          intro r1 σ1 hr
          rw [hr.1, show r1 = nI f from hr.2.trans (by rw [sr_n _ _ (by decide), sr_n _ _ (by decide), sw_ne _ _ _ (by decide)]; exact hf2)]
          clear hr σ1 r1
          refine rw_go hX [(43, .goto 4), (47, .istore 5), (49, .aload_n 0), (50, .getfield 15), (53, .iload 4), (55, .aload_n 1), (56, .iload_n 3), (57, .iload 4)] (by decide +kernel) (Ps := []) (pc' := 59) (lv' := [(0, .ref 43), (1, .ref 23), (2, .ref 31), (3, .int (nI w)), (4, .int (nI i)), (5, .int (nI f))]) (st' := [.int (nI i), .int (nI w), .ref 23, .int (nI i), .ref 44]) (σ' := sr (sr (sw σ 43 0 (nI L)) 44 (fw (σ 44) (fun j => σ 26 (50 * w + j)) i)) 45 (fw (σ 45) (anV σ w gn) i)) rfl True.intro ?_
          refine rw_callVi hX (as := [.int (nI w), .int (nI i)]) (rest := [.int (nI i), .ref 44]) (c_tellAt _ _ _ w i hw (by omega)) (by decide +kernel) mvX3_tellAt lk6_41 (ci := 2) rfl rfl rfl (by decide) (Nat.le_of_ble_eq_true rfl) rfl ?_
          intro r1 σ1 hr
          rw [hr.1, show r1 = σ 26 (50 * w + i) from hr.2.trans (by rw [sr_n _ _ (by decide), sr_n _ _ (by decide), sw_ne _ _ _ (by decide)])]
          clear hr σ1 r1
          refine rw_go hX [(62, .iastore)] (by decide +kernel) (Ps := [vp_in (nI i) 50]) (pc' := 63) (lv' := [(0, .ref 43), (1, .ref 23), (2, .ref 31), (3, .int (nI w)), (4, .int (nI i)), (5, .int (nI f))]) (st' := []) (σ' := sw (sr (sr (sw σ 43 0 (nI L)) 44 (fw (σ 44) (fun j => σ 26 (50 * w + j)) i)) 45 (fw (σ 45) (anV σ w gn) i)) 44 (nI i).toNatClampNeg (σ 26 (50 * w + i))) rfl (vp_in_nI (by omega) (by omega)) ?_
          rw [show (sw (sr (sr (sw σ 43 0 (nI L)) 44 (fw (σ 44) (fun j => σ 26 (50 * w + j)) i)) 45 (fw (σ 45) (anV σ w gn) i)) 44 (nI i).toNatClampNeg (σ 26 (50 * w + i))) = sw (sr (sr (sw σ 43 0 (nI L)) 44 (fw (σ 44) (fun j => σ 26 (50 * w + j)) i)) 45 (fw (σ 45) (anV σ w gn) i)) 44 i (σ 26 (50 * w + i)) from (by rw [nI_clamp (by omega)])]
          refine rw_go hX [(63, .aload_n 0), (64, .getfield 19), (67, .iload 4), (69, .aload_n 2), (70, .iload 5)] (by decide +kernel) (Ps := []) (pc' := 72) (lv' := [(0, .ref 43), (1, .ref 23), (2, .ref 31), (3, .int (nI w)), (4, .int (nI i)), (5, .int (nI f))]) (st' := [.int (nI f), .ref 31, .int (nI i), .ref 45]) (σ' := sw (sr (sr (sw σ 43 0 (nI L)) 44 (fw (σ 44) (fun j => σ 26 (50 * w + j)) i)) 45 (fw (σ 45) (anV σ w gn) i)) 44 i (σ 26 (50 * w + i))) rfl True.intro ?_
          refine rw_callVi hX (as := [.int (nI f)]) (rest := [.int (nI i), .ref 45]) (c_isCommon _ _ _ f F (by rw [sw_ne _ _ _ (by decide), sr_n _ _ (by decide), sr_n _ _ (by decide), sw_ne _ _ _ (by decide)]; exact hF) hF2 hf1) (by decide +kernel) mvX0_isCommon lk6_44 (ci := 0) rfl rfl rfl (by decide) (Nat.le_of_ble_eq_true rfl) rfl ?_
          intro r1 σ1 hr
          rw [hr.1, show r1 = bz (fC σ (50 * w + i)) from hr.2.trans (by
            unfold fC
            rw [hf2, nI_clamp (by omega)]
            rw [sw_ne _ _ _ (by decide), sr_n _ _ (by decide), sr_n _ _ (by decide), sw_ne _ _ _ (by decide), sw_ne _ _ _ (by decide), sr_n _ _ (by decide), sr_n _ _ (by decide), sw_ne _ _ _ (by decide), sw_ne _ _ _ (by decide), sr_n _ _ (by decide), sr_n _ _ (by decide), sw_ne _ _ _ (by decide)])]
          clear hr σ1 r1
          refine rw_if hX (tgt := 82) (cnd := .eq) (off := 7) (by decide +kernel) (by decide) (fun h75 => ?_) (fun h75 => ?_)
          · replace h75 := zb_eqT h75
            have hc := h75
            refine rw_go hX [(82, .iload 5), (84, .iastore)] (by decide +kernel) (Ps := [vp_in (nI i) 50]) (pc' := 85) (lv' := [(0, .ref 43), (1, .ref 23), (2, .ref 31), (3, .int (nI w)), (4, .int (nI i)), (5, .int (nI f))]) (st' := []) (σ' := sw (sw (sr (sr (sw σ 43 0 (nI L)) 44 (fw (σ 44) (fun j => σ 26 (50 * w + j)) i)) 45 (fw (σ 45) (anV σ w gn) i)) 44 i (σ 26 (50 * w + i))) 45 (nI i).toNatClampNeg (nI f)) rfl (vp_in_nI (by omega) (by omega)) ?_
            rw [show (sw (sw (sr (sr (sw σ 43 0 (nI L)) 44 (fw (σ 44) (fun j => σ 26 (50 * w + j)) i)) 45 (fw (σ 45) (anV σ w gn) i)) 44 i (σ 26 (50 * w + i))) 45 (nI i).toNatClampNeg (nI f)) = sw (sw (sr (sr (sw σ 43 0 (nI L)) 44 (fw (σ 44) (fun j => σ 26 (50 * w + j)) i)) 45 (fw (σ 45) (anV σ w gn) i)) 44 i (σ 26 (50 * w + i))) 45 i (nI f) from (by rw [nI_clamp (by omega)])]
            refine rw_go hX [(85, .iinc 4 1), (88, .goto (-71))] (by decide +kernel) (Ps := []) (pc' := 17) (lv' := [(0, .ref 43), (1, .ref 23), (2, .ref 31), (3, .int (nI w)), (4, .int (nI i + nI 1)), (5, .int (nI f))]) (st' := []) (σ' := sw (sw (sr (sr (sw σ 43 0 (nI L)) 44 (fw (σ 44) (fun j => σ 26 (50 * w + j)) i)) 45 (fw (σ 45) (anV σ w gn) i)) 44 i (σ 26 (50 * w + i))) 45 i (nI f)) rfl True.intro ?_
            refine rw_lsub (ks := [0, 1, 2, 3, 4]) (lv' := [(0, .ref 43), (1, .ref 23), (2, .ref 31), (3, .int (nI w)), (4, .int (nI i + nI 1))]) rfl ?_
            have q := ih17 (L - (i + 1)) (by omega) (i + 1) rfl (by omega)
            rw [← fw_1, ← fw_1] at q
            have ea : anV σ w gn i = nI f := by
              unfold anV
              rw [if_pos ⟨hp.1, hp.2, hc⟩, hf2]
            rw [ea] at q
            rw [nI_add, sw_sr2 _ _ _ _ _ (by decide), sw_sr]
            exact q
          · replace h75 := zb_eqF h75
            have hc := h75
            refine rw_go hX [(78, .iconst (-1)), (79, .goto 5), (84, .iastore)] (by decide +kernel) (Ps := [vp_in (nI i) 50]) (pc' := 85) (lv' := [(0, .ref 43), (1, .ref 23), (2, .ref 31), (3, .int (nI w)), (4, .int (nI i)), (5, .int (nI f))]) (st' := []) (σ' := sw (sw (sr (sr (sw σ 43 0 (nI L)) 44 (fw (σ 44) (fun j => σ 26 (50 * w + j)) i)) 45 (fw (σ 45) (anV σ w gn) i)) 44 i (σ 26 (50 * w + i))) 45 (nI i).toNatClampNeg (-(nI 1))) rfl (vp_in_nI (by omega) (by omega)) ?_
            rw [show (sw (sw (sr (sr (sw σ 43 0 (nI L)) 44 (fw (σ 44) (fun j => σ 26 (50 * w + j)) i)) 45 (fw (σ 45) (anV σ w gn) i)) 44 i (σ 26 (50 * w + i))) 45 (nI i).toNatClampNeg (-(nI 1))) = sw (sw (sr (sr (sw σ 43 0 (nI L)) 44 (fw (σ 44) (fun j => σ 26 (50 * w + j)) i)) 45 (fw (σ 45) (anV σ w gn) i)) 44 i (σ 26 (50 * w + i))) 45 i (-(nI 1)) from (by rw [nI_clamp (by omega)])]
            refine rw_go hX [(85, .iinc 4 1), (88, .goto (-71))] (by decide +kernel) (Ps := []) (pc' := 17) (lv' := [(0, .ref 43), (1, .ref 23), (2, .ref 31), (3, .int (nI w)), (4, .int (nI i + nI 1)), (5, .int (nI f))]) (st' := []) (σ' := sw (sw (sr (sr (sw σ 43 0 (nI L)) 44 (fw (σ 44) (fun j => σ 26 (50 * w + j)) i)) 45 (fw (σ 45) (anV σ w gn) i)) 44 i (σ 26 (50 * w + i))) 45 i (-(nI 1))) rfl True.intro ?_
            refine rw_lsub (ks := [0, 1, 2, 3, 4]) (lv' := [(0, .ref 43), (1, .ref 23), (2, .ref 31), (3, .int (nI w)), (4, .int (nI i + nI 1))]) rfl ?_
            have q := ih17 (L - (i + 1)) (by omega) (i + 1) rfl (by omega)
            rw [← fw_1, ← fw_1] at q
            have ea : anV σ w gn i = -(nI 1) := by
              unfold anV
              rw [if_neg (fun z => absurd z.2.2 (by rw [hc]; decide))]
            rw [ea] at q
            rw [nI_add, sw_sr2 _ _ _ _ _ (by decide), sw_sr]
            exact q
  refine rw_lsub (ks := [0, 1, 2, 3, 4]) (lv' := [(0, .ref 43), (1, .ref 23), (2, .ref 31), (3, .int (nI w)), (4, .int (nI 0))]) rfl ?_
  have q := L17 L 0 rfl (by omega)
  rw [fw_0, fw_0] at q
  rw [show sr (sr (sw σ 43 0 (nI L)) 44 (σ 44)) 45 (σ 45) = sw σ 43 0 (nI L) from by
    rw [show σ 44 = sw σ 43 0 (nI L) 44 from (sw_ne _ _ _ (by decide)).symm, show σ 45 = sw σ 43 0 (nI L) 45 from (sw_ne _ _ _ (by decide)).symm, sr_id, sr_id]] at q
  exact q
