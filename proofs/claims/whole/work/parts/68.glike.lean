/-! the model: likeness -/
noncomputable def agn (V : Mm) (w g n : Nat) : Bool := pz (∃ h, h < n ∧ PR V (50 * w + h) = true ∧ lkP (LT V) (vR V 0) (50 * w + g) (50 * w + h))
theorem lkF_e (V : Mm) (w g : Nat) : lkF V w g = ((PR V (50 * w + g) && !CM V (50 * w + g)) && !agn V w g g) := rfl
theorem agn_no {V : Mm} {w g n : Nat} (h : ∀ i, i < n → ¬ (PR V (50 * w + i) = true ∧ lkP (LT V) (vR V 0) (50 * w + g) (50 * w + i))) : agn V w g n = false := pz_f fun ⟨i, h1, h2⟩ => h i h1 h2
theorem isPv_no {V : Mm} {v p : Nat} (h : ∀ i, i < gC V v → ¬ (PR V (50 * v + i) = true ∧ lkP (LT V) (vR V 0) p (50 * v + i))) : isPv V v p = false := pz_f fun ⟨i, h1, h2⟩ => h i h1 h2
set_option maxRecDepth 20000 in
set_option maxHeartbeats 4000000 in
theorem m_isAgain (l : Launch) (G : Gl) (σ : Mm) (V : Mm) (w g : Nat) (hv : wf V) (hw : w < 5) (h71 : σ 71 = V 4) (hA : RDm V w σ) (hg : g < gC V w) : AMi l G 1 mX10_isAgain [.ref 66, .int (nI w), .int (nI g)] σ (fun r σ' => σ' = σ ∧ r = bz (agn V w g g)) := by
  refine rw_inI 10 (by decide +kernel) rfl rfl ?_
  intro E hE hX
  subst hE
  have hg5 := gC_50 hv hw
  refine rw_go hX [(0, .iconst 0), (1, .istore_n 3)] (by decide +kernel) (Ps := []) (pc' := 2) (lv' := [(0, .ref 66), (1, .int (nI w)), (2, .int (nI g)), (3, .int (nI 0))]) (st' := []) (σ' := σ) rfl True.intro ?_
  have L2 : ∀ (μ2 : Nat) (h : Nat), μ2 = g - h → (h ≤ g) → (∀ i, i < h → ¬ (PR V (50 * w + i) = true ∧ lkP (LT V) (vR V 0) (50 * w + g) (50 * w + i))) → RW E G 1 4 (QI E G (fun r σ' => σ' = σ ∧ r = bz (agn V w g g))) 2 [(0, .ref 66), (1, .int (nI w)), (2, .int (nI g)), (3, .int (nI h))] [] σ := by
    intro μ2
    induction μ2 using Nat.strongRecOn with
    | ind μ2 ih2 =>
      intro h hμ2 hh hno
      refine rw_go hX [(2, .iload_n 3), (3, .iload_n 2)] (by decide +kernel) (Ps := []) (pc' := 4) (lv' := [(0, .ref 66), (1, .int (nI w)), (2, .int (nI g)), (3, .int (nI h))]) (st' := [.int (nI g), .int (nI h)]) (σ' := σ) rfl True.intro ?_
      refine rw_icmp hX (tgt := 40) (cnd := .ge) (off := 36) (by decide +kernel) (by decide) (fun h4 => ?_) (fun h4 => ?_)
      · replace h4 := c2_geT h4
        have e : agn V w g g = false := agn_no fun i hi => hno i (by omega)
        refine rw_go hX [(40, .iconst 0)] (by decide +kernel) (Ps := []) (pc' := 41) (lv' := [(0, .ref 66), (1, .int (nI w)), (2, .int (nI g)), (3, .int (nI h))]) (st' := [.int (nI 0)]) (σ' := σ) rfl True.intro ?_
        exact rw_zret hX (by decide +kernel) (Or.inl rfl) (⟨rfl, by rw [e]; rfl⟩)
      · replace h4 := c2_geF h4
        have hP := PR_of hA (show h < gC V w by omega)
        refine rw_go hX [(7, .aload_n 0), (8, .getfield 46), (11, .bipush 50), (13, .iload_n 1), (14, .imul)] (by decide +kernel) (Ps := []) (pc' := 15) (lv' := [(0, .ref 66), (1, .int (nI w)), (2, .int (nI g)), (3, .int (nI h))]) (st' := [.int (nI 50 * nI w), .ref 79]) (σ' := σ) rfl True.intro ?_
        rw [show (nI 50 * nI w) = nI (50 * w) from pk_mul _ _]
        refine rw_go hX [(15, .iload_n 3), (16, .iadd)] (by decide +kernel) (Ps := []) (pc' := 17) (lv' := [(0, .ref 66), (1, .int (nI w)), (2, .int (nI g)), (3, .int (nI h))]) (st' := [.int (nI (50 * w) + nI h), .ref 79]) (σ' := σ) rfl True.intro ?_
        rw [show (nI (50 * w) + nI h) = nI (50 * w + h) from nI_add _ _]
        refine rw_go hX [(17, .baload)] (by decide +kernel) (Ps := [vp_in (nI (50 * w + h)) 250]) (pc' := 18) (lv' := [(0, .ref 66), (1, .int (nI w)), (2, .int (nI g)), (3, .int (nI h))]) (st' := [.int (σ 79 (nI (50 * w + h)).toNatClampNeg)]) (σ' := σ) rfl (vp_in_nI (by omega) (by omega)) ?_
        rw [show (σ 79 (nI (50 * w + h)).toNatClampNeg) = σ 79 (50 * w + h) from (by rw [nI_clamp (by omega)])]
        refine rw_if hX (tgt := 34) (cnd := .eq) (off := 16) (by decide +kernel) (by decide) (fun h18 => ?_) (fun h18 => ?_)
        · replace h18 : (σ 79 (50 * w + h) = 0) := h18
          have hnx : ¬ (PR V (50 * w + h) = true ∧ lkP (LT V) (vR V 0) (50 * w + g) (50 * w + h)) := fun z => by rw [hP.1 h18] at z; cases z.1
          refine rw_go hX [(34, .iinc 3 1)] (by decide +kernel) (Ps := []) (pc' := 37) (lv' := [(0, .ref 66), (1, .int (nI w)), (2, .int (nI g)), (3, .int (nI h + nI 1))]) (st' := []) (σ' := σ) rfl True.intro ?_
          rw [show (nI h + nI 1) = nI (h + 1) from nI_add _ _]
          refine rw_go hX [(37, .goto (-35))] (by decide +kernel) (Ps := []) (pc' := 2) (lv' := [(0, .ref 66), (1, .int (nI w)), (2, .int (nI g)), (3, .int (nI (h + 1)))]) (st' := []) (σ' := σ) rfl True.intro ?_
          refine rw_lsub (ks := [0, 1, 2, 3]) (lv' := [(0, .ref 66), (1, .int (nI w)), (2, .int (nI g)), (3, .int (nI (h + 1)))]) rfl ?_
          exact ih2 (g - (h + 1)) (by omega) (h + 1) rfl (by omega) (fun i hi => by
            rcases Nat.lt_or_ge i h with q | q
            · exact hno i q
            · rw [show i = h by omega]; exact hnx)
        · replace h18 : ¬ (σ 79 (50 * w + h) = 0) := h18
          refine rw_go hX [(21, .aload_n 0), (22, .iload_n 1), (23, .iload_n 2), (24, .iload_n 1), (25, .iload_n 3)] (by decide +kernel) (Ps := []) (pc' := 26) (lv' := [(0, .ref 66), (1, .int (nI w)), (2, .int (nI g)), (3, .int (nI h))]) (st' := [.int (nI h), .int (nI w), .int (nI g), .int (nI w), .ref 66]) (σ' := σ) rfl True.intro ?_
          refine rw_callVi hX (as := [.int (nI w), .int (nI g), .int (nI w), .int (nI h)]) (rest := []) (m_isLike _ _ _ V w g w h hv hw hw h71 hA hA hg (by omega)) (by decide +kernel) mvX10_isLike lk10_191 (ci := 9) rfl rfl rfl (by decide) (Nat.le_of_ble_eq_true rfl) rfl ?_
          intro r1 σ1 hr
          rw [hr.1, show r1 = bz (lkC (LT V) (50 * w + g) (50 * w + h) (vR V 0)) from hr.2]
          clear hr σ1 r1
          refine rw_if hX (tgt := 34) (cnd := .eq) (off := 5) (by decide +kernel) (by decide) (fun h29 => ?_) (fun h29 => ?_)
          · replace h29 := zb_eqT h29
            have hnx : ¬ (PR V (50 * w + h) = true ∧ lkP (LT V) (vR V 0) (50 * w + g) (50 * w + h)) := fun z => by have := z.2; unfold lkP at this; rw [h29] at this; cases this
            refine rw_go hX [(34, .iinc 3 1)] (by decide +kernel) (Ps := []) (pc' := 37) (lv' := [(0, .ref 66), (1, .int (nI w)), (2, .int (nI g)), (3, .int (nI h + nI 1))]) (st' := []) (σ' := σ) rfl True.intro ?_
            rw [show (nI h + nI 1) = nI (h + 1) from nI_add _ _]
            refine rw_go hX [(37, .goto (-35))] (by decide +kernel) (Ps := []) (pc' := 2) (lv' := [(0, .ref 66), (1, .int (nI w)), (2, .int (nI g)), (3, .int (nI (h + 1)))]) (st' := []) (σ' := σ) rfl True.intro ?_
            refine rw_lsub (ks := [0, 1, 2, 3]) (lv' := [(0, .ref 66), (1, .int (nI w)), (2, .int (nI g)), (3, .int (nI (h + 1)))]) rfl ?_
            exact ih2 (g - (h + 1)) (by omega) (h + 1) rfl (by omega) (fun i hi => by
              rcases Nat.lt_or_ge i h with q | q
              · exact hno i q
              · rw [show i = h by omega]; exact hnx)
          · replace h29 := zb_eqF h29
            have e : agn V w g g = true := pz_t ⟨h, h4, hP.2 h18, h29⟩
            refine rw_go hX [(32, .iconst 1)] (by decide +kernel) (Ps := []) (pc' := 33) (lv' := [(0, .ref 66), (1, .int (nI w)), (2, .int (nI g)), (3, .int (nI h))]) (st' := [.int (nI 1)]) (σ' := σ) rfl True.intro ?_
            exact rw_zret hX (by decide +kernel) (Or.inr rfl) (⟨rfl, by rw [e]; rfl⟩)
  refine rw_lsub (ks := [0, 1, 2, 3]) (lv' := [(0, .ref 66), (1, .int (nI w)), (2, .int (nI g)), (3, .int (nI 0))]) rfl ?_
  exact L2 g 0 rfl (by omega) (fun i hi => by omega)
set_option maxRecDepth 20000 in
set_option maxHeartbeats 4000000 in
theorem m_isPrinted (l : Launch) (G : Gl) (σ : Mm) (V : Mm) (v w g : Nat) (hv : wf V) (hv5 : v < 5) (hw : w < 5) (h71 : σ 71 = V 4) (hA : RDm V w σ) (hB : RDm V v σ) (hg : g < gC V w) : AMi l G 1 mX10_isPrinted [.ref 66, .int (nI v), .int (nI w), .int (nI g)] σ (fun r σ' => σ' = σ ∧ r = bz (isPv V v (50 * w + g))) := by
  refine rw_inI 10 (by decide +kernel) rfl rfl ?_
  intro E hE hX
  subst hE
  have hg5 := gC_50 hv hv5
  refine rw_go hX [(0, .iconst 0), (1, .istore 4)] (by decide +kernel) (Ps := []) (pc' := 3) (lv' := [(0, .ref 66), (1, .int (nI v)), (2, .int (nI w)), (3, .int (nI g)), (4, .int (nI 0))]) (st' := []) (σ' := σ) rfl True.intro ?_
  have L3 : ∀ (μ3 : Nat) (h : Nat), μ3 = gC V v - h → (h ≤ gC V v) → (∀ i, i < h → ¬ (PR V (50 * v + i) = true ∧ lkP (LT V) (vR V 0) (50 * w + g) (50 * v + i))) → RW E G 1 5 (QI E G (fun r σ' => σ' = σ ∧ r = bz (isPv V v (50 * w + g)))) 3 [(0, .ref 66), (1, .int (nI v)), (2, .int (nI w)), (3, .int (nI g)), (4, .int (nI h))] [] σ := by
    intro μ3
    induction μ3 using Nat.strongRecOn with
    | ind μ3 ih3 =>
      intro h hμ3 hh hno
      refine rw_go hX [(3, .iload 4), (5, .aload_n 0), (6, .iload_n 1)] (by decide +kernel) (Ps := []) (pc' := 7) (lv' := [(0, .ref 66), (1, .int (nI v)), (2, .int (nI w)), (3, .int (nI g)), (4, .int (nI h))]) (st' := [.int (nI v), .ref 66, .int (nI h)]) (σ' := σ) rfl True.intro ?_
      refine rw_callVi hX (as := [.int (nI v)]) (rest := [.int (nI h)]) (m_gramsV _ _ _ V v hv hv5 h71 hB) (by decide +kernel) mvX10_grams lk10_187 (ci := 9) rfl rfl rfl (by decide) (Nat.le_of_ble_eq_true rfl) rfl ?_
      intro r1 σ1 hr
      rw [hr.1, show r1 = nI (gC V v) from hr.2]
      clear hr σ1 r1
      refine rw_icmp hX (tgt := 48) (cnd := .ge) (off := 38) (by decide +kernel) (by decide) (fun h10 => ?_) (fun h10 => ?_)
      · replace h10 := c2_geT h10
        have e : isPv V v (50 * w + g) = false := isPv_no fun i hi => hno i (by omega)
        refine rw_go hX [(48, .iconst 0)] (by decide +kernel) (Ps := []) (pc' := 49) (lv' := [(0, .ref 66), (1, .int (nI v)), (2, .int (nI w)), (3, .int (nI g)), (4, .int (nI h))]) (st' := [.int (nI 0)]) (σ' := σ) rfl True.intro ?_
        exact rw_zret hX (by decide +kernel) (Or.inl rfl) (⟨rfl, by rw [e]; rfl⟩)
      · replace h10 := c2_geF h10
        have hP := PR_of hB h10
        refine rw_go hX [(13, .aload_n 0), (14, .getfield 46), (17, .bipush 50), (19, .iload_n 1), (20, .imul)] (by decide +kernel) (Ps := []) (pc' := 21) (lv' := [(0, .ref 66), (1, .int (nI v)), (2, .int (nI w)), (3, .int (nI g)), (4, .int (nI h))]) (st' := [.int (nI 50 * nI v), .ref 79]) (σ' := σ) rfl True.intro ?_
        rw [show (nI 50 * nI v) = nI (50 * v) from pk_mul _ _]
        refine rw_go hX [(21, .iload 4), (23, .iadd)] (by decide +kernel) (Ps := []) (pc' := 24) (lv' := [(0, .ref 66), (1, .int (nI v)), (2, .int (nI w)), (3, .int (nI g)), (4, .int (nI h))]) (st' := [.int (nI (50 * v) + nI h), .ref 79]) (σ' := σ) rfl True.intro ?_
        rw [show (nI (50 * v) + nI h) = nI (50 * v + h) from nI_add _ _]
        refine rw_go hX [(24, .baload)] (by decide +kernel) (Ps := [vp_in (nI (50 * v + h)) 250]) (pc' := 25) (lv' := [(0, .ref 66), (1, .int (nI v)), (2, .int (nI w)), (3, .int (nI g)), (4, .int (nI h))]) (st' := [.int (σ 79 (nI (50 * v + h)).toNatClampNeg)]) (σ' := σ) rfl (vp_in_nI (by omega) (by omega)) ?_
        rw [show (σ 79 (nI (50 * v + h)).toNatClampNeg) = σ 79 (50 * v + h) from (by rw [nI_clamp (by omega)])]
        refine rw_if hX (tgt := 42) (cnd := .eq) (off := 17) (by decide +kernel) (by decide) (fun h25 => ?_) (fun h25 => ?_)
        · replace h25 : (σ 79 (50 * v + h) = 0) := h25
          have hnx : ¬ (PR V (50 * v + h) = true ∧ lkP (LT V) (vR V 0) (50 * w + g) (50 * v + h)) := fun z => by rw [hP.1 h25] at z; cases z.1
          refine rw_go hX [(42, .iinc 4 1)] (by decide +kernel) (Ps := []) (pc' := 45) (lv' := [(0, .ref 66), (1, .int (nI v)), (2, .int (nI w)), (3, .int (nI g)), (4, .int (nI h + nI 1))]) (st' := []) (σ' := σ) rfl True.intro ?_
          rw [show (nI h + nI 1) = nI (h + 1) from nI_add _ _]
          refine rw_go hX [(45, .goto (-42))] (by decide +kernel) (Ps := []) (pc' := 3) (lv' := [(0, .ref 66), (1, .int (nI v)), (2, .int (nI w)), (3, .int (nI g)), (4, .int (nI (h + 1)))]) (st' := []) (σ' := σ) rfl True.intro ?_
          refine rw_lsub (ks := [0, 1, 2, 3, 4]) (lv' := [(0, .ref 66), (1, .int (nI v)), (2, .int (nI w)), (3, .int (nI g)), (4, .int (nI (h + 1)))]) rfl ?_
          exact ih3 (gC V v - (h + 1)) (by omega) (h + 1) rfl (by omega) (fun i hi => by
            rcases Nat.lt_or_ge i h with q | q
            · exact hno i q
            · rw [show i = h by omega]; exact hnx)
        · replace h25 : ¬ (σ 79 (50 * v + h) = 0) := h25
          refine rw_go hX [(28, .aload_n 0), (29, .iload_n 2), (30, .iload_n 3), (31, .iload_n 1), (32, .iload 4)] (by decide +kernel) (Ps := []) (pc' := 34) (lv' := [(0, .ref 66), (1, .int (nI v)), (2, .int (nI w)), (3, .int (nI g)), (4, .int (nI h))]) (st' := [.int (nI h), .int (nI v), .int (nI g), .int (nI w), .ref 66]) (σ' := σ) rfl True.intro ?_
          refine rw_callVi hX (as := [.int (nI w), .int (nI g), .int (nI v), .int (nI h)]) (rest := []) (m_isLike _ _ _ V w g v h hv hw hv5 h71 hA hB hg h10) (by decide +kernel) mvX10_isLike lk10_191 (ci := 9) rfl rfl rfl (by decide) (Nat.le_of_ble_eq_true rfl) rfl ?_
          intro r1 σ1 hr
          rw [hr.1, show r1 = bz (lkC (LT V) (50 * w + g) (50 * v + h) (vR V 0)) from hr.2]
          clear hr σ1 r1
          refine rw_if hX (tgt := 42) (cnd := .eq) (off := 5) (by decide +kernel) (by decide) (fun h37 => ?_) (fun h37 => ?_)
          · replace h37 := zb_eqT h37
            have hnx : ¬ (PR V (50 * v + h) = true ∧ lkP (LT V) (vR V 0) (50 * w + g) (50 * v + h)) := fun z => by have := z.2; unfold lkP at this; rw [h37] at this; cases this
            refine rw_go hX [(42, .iinc 4 1)] (by decide +kernel) (Ps := []) (pc' := 45) (lv' := [(0, .ref 66), (1, .int (nI v)), (2, .int (nI w)), (3, .int (nI g)), (4, .int (nI h + nI 1))]) (st' := []) (σ' := σ) rfl True.intro ?_
            rw [show (nI h + nI 1) = nI (h + 1) from nI_add _ _]
            refine rw_go hX [(45, .goto (-42))] (by decide +kernel) (Ps := []) (pc' := 3) (lv' := [(0, .ref 66), (1, .int (nI v)), (2, .int (nI w)), (3, .int (nI g)), (4, .int (nI (h + 1)))]) (st' := []) (σ' := σ) rfl True.intro ?_
            refine rw_lsub (ks := [0, 1, 2, 3, 4]) (lv' := [(0, .ref 66), (1, .int (nI v)), (2, .int (nI w)), (3, .int (nI g)), (4, .int (nI (h + 1)))]) rfl ?_
            exact ih3 (gC V v - (h + 1)) (by omega) (h + 1) rfl (by omega) (fun i hi => by
              rcases Nat.lt_or_ge i h with q | q
              · exact hno i q
              · rw [show i = h by omega]; exact hnx)
          · replace h37 := zb_eqF h37
            have e : isPv V v (50 * w + g) = true := pz_t ⟨h, h10, hP.2 h25, h37⟩
            refine rw_go hX [(40, .iconst 1)] (by decide +kernel) (Ps := []) (pc' := 41) (lv' := [(0, .ref 66), (1, .int (nI v)), (2, .int (nI w)), (3, .int (nI g)), (4, .int (nI h))]) (st' := [.int (nI 1)]) (σ' := σ) rfl True.intro ?_
            exact rw_zret hX (by decide +kernel) (Or.inr rfl) (⟨rfl, by rw [e]; rfl⟩)
  refine rw_lsub (ks := [0, 1, 2, 3, 4]) (lv' := [(0, .ref 66), (1, .int (nI v)), (2, .int (nI w)), (3, .int (nI g)), (4, .int (nI 0))]) rfl ?_
  exact L3 (gC V v) 0 rfl (by omega) (fun i hi => by omega)
set_option maxRecDepth 20000 in
set_option maxHeartbeats 4000000 in
theorem m_lowest (l : Launch) (G : Gl) (σ : Mm) (a b p : Nat) (ha : a ≤ 250) (hb : b ≤ 250) (hb0 : 0 < b) (hp : p < 2) : AMi l G 0 mX10_lowest [.int (nI a), .int (nI b), .int (nI p)] σ (fun r σ' => σ' = σ ∧ r = nI (lowT a b p)) := by
  refine rw_inI 10 (by decide +kernel) rfl rfl ?_
  intro E hE hX
  subst hE
  refine rw_go hX [(0, .iload_n 0), (1, .istore_n 3), (2, .iload_n 1), (3, .istore 4)] (by decide +kernel) (Ps := []) (pc' := 5) (lv' := [(0, .int (nI a)), (1, .int (nI b)), (2, .int (nI p)), (3, .int (nI a)), (4, .int (nI b))]) (st' := []) (σ' := σ) rfl True.intro ?_
  have L5 : ∀ (μ5 : Nat) (x y : Nat), μ5 = y → (x ≤ 250) → (y ≤ 250) → (Nat.gcd x y = Nat.gcd a b) → RW E G 0 6 (QI E G (fun r σ' => σ' = σ ∧ r = nI (lowT a b p))) 5 [(0, .int (nI a)), (1, .int (nI b)), (2, .int (nI p)), (3, .int (nI x)), (4, .int (nI y))] [] σ := by
    intro μ5
    induction μ5 using Nat.strongRecOn with
    | ind μ5 ih5 =>
      intro x y hμ5 hx hy hg
      refine rw_go hX [(5, .iload 4)] (by decide +kernel) (Ps := []) (pc' := 7) (lv' := [(0, .int (nI a)), (1, .int (nI b)), (2, .int (nI p)), (3, .int (nI x)), (4, .int (nI y))]) (st' := [.int (nI y)]) (σ' := σ) rfl True.intro ?_
      refine rw_if hX (tgt := 26) (cnd := .eq) (off := 19) (by decide +kernel) (by decide) (fun h7 => ?_) (fun h7 => ?_)
      · replace h7 := zn_eqT h7
        have hxg : x = Nat.gcd a b := by rw [← hg, h7, Nat.gcd_zero_right]
        have hx0 : 0 < x := by rw [hxg]; exact Nat.gcd_pos_of_pos_right _ hb0
        refine rw_go hX [(26, .iload_n 2)] (by decide +kernel) (Ps := []) (pc' := 27) (lv' := [(0, .int (nI a)), (1, .int (nI b)), (2, .int (nI p)), (3, .int (nI x)), (4, .int (nI y))]) (st' := [.int (nI p)]) (σ' := σ) rfl True.intro ?_
        refine rw_if hX (tgt := 34) (cnd := .ne) (off := 7) (by decide +kernel) (by decide) (fun h27 => ?_) (fun h27 => ?_)
        · replace h27 := zn_neT h27
          refine rw_go hX [(34, .iload_n 1), (35, .iload_n 3), (36, .idiv)] (by decide +kernel) (Ps := [¬ (nI x) = 0]) (pc' := 37) (lv' := [(0, .int (nI a)), (1, .int (nI b)), (2, .int (nI p)), (3, .int (nI x)), (4, .int (nI y))]) (st' := [.int (nI b / nI x)]) (σ' := σ) rfl (fun z9 => by have := zn_eqT z9; omega) ?_
          exact rw_iret hX (by decide +kernel) (⟨rfl, by
  unfold lowT
  rw [pk_div (by omega) hx0 (by omega), hxg]
  congr 1
  by_cases z : a = 0
  · rw [if_pos (Or.inl z), z, Nat.gcd_zero_left]
    first
    | (rw [if_pos h27, Nat.zero_div])
    | (rw [if_neg (show ¬ p = 0 by omega), Nat.div_self hb0])
  · rw [if_neg (show ¬ (a = 0 ∨ b = 0) by omega)]
    first
    | rw [if_pos h27]
    | rw [if_neg (show ¬ p = 0 by omega)]⟩)
        · replace h27 := zn_neF h27
          refine rw_go hX [(30, .iload_n 0), (31, .goto 4), (35, .iload_n 3), (36, .idiv)] (by decide +kernel) (Ps := [¬ (nI x) = 0]) (pc' := 37) (lv' := [(0, .int (nI a)), (1, .int (nI b)), (2, .int (nI p)), (3, .int (nI x)), (4, .int (nI y))]) (st' := [.int (nI a / nI x)]) (σ' := σ) rfl (fun z9 => by have := zn_eqT z9; omega) ?_
          exact rw_iret hX (by decide +kernel) (⟨rfl, by
  unfold lowT
  rw [pk_div (by omega) hx0 (by omega), hxg]
  congr 1
  by_cases z : a = 0
  · rw [if_pos (Or.inl z), z, Nat.gcd_zero_left]
    first
    | (rw [if_pos h27, Nat.zero_div])
    | (rw [if_neg (show ¬ p = 0 by omega), Nat.div_self hb0])
  · rw [if_neg (show ¬ (a = 0 ∨ b = 0) by omega)]
    first
    | rw [if_pos h27]
    | rw [if_neg (show ¬ p = 0 by omega)]⟩)
      · replace h7 := zn_eqF h7
        refine rw_go hX [(10, .iload_n 3), (11, .iload 4), (13, .irem)] (by decide +kernel) (Ps := [¬ (nI y) = 0]) (pc' := 14) (lv' := [(0, .int (nI a)), (1, .int (nI b)), (2, .int (nI p)), (3, .int (nI x)), (4, .int (nI y))]) (st' := [.int (nI x - nI x / nI y * nI y)]) (σ' := σ) rfl (fun z9 => by have := zn_eqT z9; omega) ?_
        rw [show (nI x - nI x / nI y * nI y) = nI (x % y) from pk_rem (by omega) (by omega) (by omega)]
        refine rw_go hX [(14, .istore 5), (16, .iload 4), (18, .istore_n 3), (19, .iload 5), (21, .istore 4), (23, .goto (-18))] (by decide +kernel) (Ps := []) (pc' := 5) (lv' := [(0, .int (nI a)), (1, .int (nI b)), (2, .int (nI p)), (3, .int (nI y)), (4, .int (nI (x % y))), (5, .int (nI (x % y)))]) (st' := []) (σ' := σ) rfl True.intro ?_
        refine rw_lsub (ks := [0, 1, 2, 3, 4]) (lv' := [(0, .int (nI a)), (1, .int (nI b)), (2, .int (nI p)), (3, .int (nI y)), (4, .int (nI (x % y)))]) rfl ?_
        have hm := Nat.mod_lt x h7
        exact ih5 (x % y) (by omega) y (x % y) rfl (by omega) (by omega) (by rw [← hg, Nat.gcd_comm x y, Nat.gcd_rec y x, Nat.gcd_comm])
  refine rw_lsub (ks := [0, 1, 2, 3, 4]) (lv' := [(0, .int (nI a)), (1, .int (nI b)), (2, .int (nI p)), (3, .int (nI a)), (4, .int (nI b))]) rfl ?_
  exact L5 b a b rfl ha hb rfl
set_option maxRecDepth 20000 in
set_option maxHeartbeats 4000000 in
theorem g_like (l : Launch) (G : Gl) (σ : Mm) (V : Mm) (xw xo xp : Int32) (hV : vw σ 67 = V) (hv : wf V) : AMi l G 6 mX10_like [.ref 66, .int xw, .int xo, .int xp] σ (fun r σ' => r = aLike V xw xo xp ∧ MQu σ σ') := by
  refine rw_inI 10 (by decide +kernel) rfl rfl ?_
  intro E hE hX
  subst hE
  refine rw_go hX [(0, .iload_n 1)] (by decide +kernel) (Ps := []) (pc' := 1) (lv' := [(0, .ref 66), (1, .int xw), (2, .int xo), (3, .int xp)]) (st' := [.int xw]) (σ' := σ) rfl True.intro ?_
  refine rw_callSi hX (as := [.int xw]) (rest := []) (m_isWork _ _ _ (xw)) (by decide +kernel) msX10_isWork (Or.inl lk10_157) rfl (by decide) (Nat.le_of_ble_eq_true rfl) rfl ?_
  intro r1 σ1 hr
  rw [hr.1, show r1 = bz (decide (0 ≤ xw ∧ xw ≤ 4)) from hr.2]
  clear hr σ1 r1
  refine rw_if hX (tgt := 29) (cnd := .eq) (off := 25) (by decide +kernel) (by decide) (fun h4 => ?_) (fun h4 => ?_)
  · replace h4 := of_decide_eq_false (zb_eqT h4)
    have htw : ¬ tw xw xo := fun z => h4 ⟨z.1, z.2.1⟩
    refine rw_go hX [(29, .bipush (-2))] (by decide +kernel) (Ps := []) (pc' := 31) (lv' := [(0, .ref 66), (1, .int xw), (2, .int xo), (3, .int xp)]) (st' := [.int (-(nI 2))]) (σ' := σ) rfl True.intro ?_
    exact rw_iret hX (by decide +kernel) (⟨by simp only [aLike, eq_false h4, eq_false htw, if_true, if_false, Bool.false_eq_true, and_self, and_true, true_and, and_false, false_and, oel_n, oel_s, decide_true, decide_false], MQu_rfl _⟩)
  · replace h4 := of_decide_eq_true (zb_eqF h4)
    refine rw_go hX [(7, .iload_n 2)] (by decide +kernel) (Ps := []) (pc' := 8) (lv' := [(0, .ref 66), (1, .int xw), (2, .int xo), (3, .int xp)]) (st' := [.int xo]) (σ' := σ) rfl True.intro ?_
    refine rw_callSi hX (as := [.int xo]) (rest := []) (m_isWork _ _ _ (xo)) (by decide +kernel) msX10_isWork (Or.inl lk10_157) rfl (by decide) (Nat.le_of_ble_eq_true rfl) rfl ?_
    intro r1 σ1 hr
    rw [hr.1, show r1 = bz (decide (0 ≤ xo ∧ xo ≤ 4)) from hr.2]
    clear hr σ1 r1
    refine rw_if hX (tgt := 29) (cnd := .eq) (off := 18) (by decide +kernel) (by decide) (fun h11 => ?_) (fun h11 => ?_)
    · replace h11 := of_decide_eq_false (zb_eqT h11)
      have htw : ¬ tw xw xo := fun z => h11 ⟨z.2.2.1, z.2.2.2.1⟩
      refine rw_go hX [(29, .bipush (-2))] (by decide +kernel) (Ps := []) (pc' := 31) (lv' := [(0, .ref 66), (1, .int xw), (2, .int xo), (3, .int xp)]) (st' := [.int (-(nI 2))]) (σ' := σ) rfl True.intro ?_
      exact rw_iret hX (by decide +kernel) (⟨by simp only [aLike, eq_true h4, eq_false h11, eq_false htw, if_true, if_false, Bool.false_eq_true, and_self, and_true, true_and, and_false, false_and, oel_n, oel_s, decide_true, decide_false], MQu_rfl _⟩)
    · replace h11 := of_decide_eq_true (zb_eqF h11)
      refine rw_go hX [(14, .iload_n 1), (15, .iload_n 2)] (by decide +kernel) (Ps := []) (pc' := 16) (lv' := [(0, .ref 66), (1, .int xw), (2, .int xo), (3, .int xp)]) (st' := [.int xo, .int xw]) (σ' := σ) rfl True.intro ?_
      refine rw_icmp hX (tgt := 29) (cnd := .eq) (off := 13) (by decide +kernel) (by decide) (fun h16 => ?_) (fun h16 => ?_)
      · replace h16 : (xw = xo) := h16
        have htw : ¬ tw xw xo := fun z => z.2.2.2.2 h16
        refine rw_go hX [(29, .bipush (-2))] (by decide +kernel) (Ps := []) (pc' := 31) (lv' := [(0, .ref 66), (1, .int xw), (2, .int xo), (3, .int xp)]) (st' := [.int (-(nI 2))]) (σ' := σ) rfl True.intro ?_
        exact rw_iret hX (by decide +kernel) (⟨by simp only [aLike, eq_true h4, eq_true h11, eq_true h16, eq_false htw, if_true, if_false, Bool.false_eq_true, and_self, and_true, true_and, and_false, false_and, oel_n, oel_s, decide_true, decide_false], MQu_rfl _⟩)
      · replace h16 : ¬ (xw = xo) := h16
        have htw0 : tw xw xo := ⟨h4.1, h4.2, h11.1, h11.2, h16⟩
        obtain ⟨w, u, ⟨hw, hu⟩, ⟨rfl, rfl⟩, hwu⟩ := tw_n htw0
        have htw : tw (nI w) (nI u) := htw0
        have hcw : (nI w).toNatClampNeg = w := nI_clamp (by omega)
        have hcu : (nI u).toNatClampNeg = u := nI_clamp (by omega)
        refine rw_go hX [(19, .iload_n 3), (20, .i2l), (21, .lconst 0), (22, .lconst 1)] (by decide +kernel) (Ps := []) (pc' := 23) (lv' := [(0, .ref 66), (1, .int (nI w)), (2, .int (nI u)), (3, .int xp)]) (st' := [.long (Int64.ofNat 1), .long (Int64.ofNat 0), .long (xp.toInt64)]) (σ' := σ) rfl True.intro ?_
        refine rw_callSi hX (as := [.long (xp.toInt64), .long (Int64.ofNat 0), .long (Int64.ofNat 1)]) (rest := []) (m_inI _ _ _ (xp) (0) (nI 1) _ _ _ rfl (by first | rfl | decide +kernel) (by first | rfl | decide +kernel)) (by decide +kernel) msX10_in (Or.inl lk10_105) rfl (by decide) (Nat.le_of_ble_eq_true rfl) rfl ?_
        intro r1 σ1 hr
        rw [hr.1, show r1 = bz (decide (0 ≤ xp ∧ xp < nI 2)) from hr.2.trans (by rw [decide_eq_decide.mpr (in_O (m := 1) (by omega))])]
        clear hr σ1 r1
        refine rw_if hX (tgt := 32) (cnd := .ne) (off := 6) (by decide +kernel) (by decide) (fun h26 => ?_) (fun h26 => ?_)
        · replace h26 := of_decide_eq_true (zb_neT h26)
          obtain ⟨p, hp, rfl⟩ := rngO (m := 2) (by omega) h26
          have hcp : (nI p).toNatClampNeg = p := nI_clamp (by omega)
          refine rw_go hX [(32, .aload_n 0), (33, .iload_n 1)] (by decide +kernel) (Ps := []) (pc' := 34) (lv' := [(0, .ref 66), (1, .int (nI w)), (2, .int (nI u)), (3, .int (nI p))]) (st' := [.int (nI w), .ref 66]) (σ' := σ) rfl True.intro ?_
          refine rw_callVi hX (as := [.int (nI w)]) (rest := []) (m_there _ _ _ V w hV hv hw) (by decide +kernel) mvX10_isThere lk10_132 (ci := 9) rfl rfl rfl (by decide) (Nat.le_of_ble_eq_true rfl) rfl ?_
          intro r1 σ1 hr
          rw [hr.1, show r1 = bz (decide (0 < vS V w)) from hr.2]
          clear hr σ1 r1
          refine rw_if hX (tgt := 48) (cnd := .eq) (off := 11) (by decide +kernel) (by decide) (fun h37 => ?_) (fun h37 => ?_)
          · replace h37 := of_decide_eq_false (zb_eqT h37)
            have hvsw : vS V w = 0 := by omega
            refine rw_go hX [(48, .bipush (-11))] (by decide +kernel) (Ps := []) (pc' := 50) (lv' := [(0, .ref 66), (1, .int (nI w)), (2, .int (nI u)), (3, .int (nI p))]) (st' := [.int (-(nI 11))]) (σ' := σ) rfl True.intro ?_
            exact rw_iret hX (by decide +kernel) (⟨by simp only [aLike, eq_true h4, eq_true h11, eq_false h16, hcw, hcu, eq_true htw, eq_true h26, hcp, eq_false h37, eq_true hvsw, if_true, if_false, Bool.false_eq_true, and_self, and_true, true_and, and_false, false_and, oel_n, oel_s, decide_true, decide_false], MQu_rfl _⟩)
          · replace h37 := of_decide_eq_true (zb_eqF h37)
            have hvsw : ¬ vS V w = 0 := by omega
            refine rw_go hX [(40, .aload_n 0), (41, .iload_n 2)] (by decide +kernel) (Ps := []) (pc' := 42) (lv' := [(0, .ref 66), (1, .int (nI w)), (2, .int (nI u)), (3, .int (nI p))]) (st' := [.int (nI u), .ref 66]) (σ' := σ) rfl True.intro ?_
            refine rw_callVi hX (as := [.int (nI u)]) (rest := []) (m_there _ _ _ V u hV hv hu) (by decide +kernel) mvX10_isThere lk10_132 (ci := 9) rfl rfl rfl (by decide) (Nat.le_of_ble_eq_true rfl) rfl ?_
            intro r1 σ1 hr
            rw [hr.1, show r1 = bz (decide (0 < vS V u)) from hr.2]
            clear hr σ1 r1
            refine rw_if hX (tgt := 51) (cnd := .ne) (off := 6) (by decide +kernel) (by decide) (fun h45 => ?_) (fun h45 => ?_)
            · replace h45 := of_decide_eq_true (zb_neT h45)
              have hvsu : ¬ vS V u = 0 := by omega
              refine rw_go hX [(51, .aload_n 0)] (by decide +kernel) (Ps := []) (pc' := 52) (lv' := [(0, .ref 66), (1, .int (nI w)), (2, .int (nI u)), (3, .int (nI p))]) (st' := [.ref 66]) (σ' := σ) rfl True.intro ?_
              refine rw_callVv hX (as := []) (rest := []) (m_anew _ _ _ V hV hv) (by decide +kernel) mvX10_anew lk10_220 (ci := 9) rfl rfl rfl (by decide) (Nat.le_of_ble_eq_true rfl) rfl ?_
              intro τ1 ht1
              obtain ⟨hAN, hFN⟩ := ht1
              have hq1 := MQu_A hFN
              have hV1 : vw τ1 67 = V := (vw_of (fun j hj => hFN _ (by omega))).trans hV
              have h71 : τ1 71 = V 4 := vw_at hV1 4 (by omega)
              have g1 := gC_50 hv hw
              have g2 := gC_50 hv hu
              refine rw_go hX [(55, .iconst 0), (56, .istore 4), (58, .iconst 0), (59, .istore 5), (61, .iconst 0), (62, .istore 6)] (by decide +kernel) (Ps := []) (pc' := 64) (lv' := [(0, .ref 66), (1, .int (nI w)), (2, .int (nI u)), (3, .int (nI p)), (4, .int (nI 0)), (5, .int (nI 0)), (6, .int (nI 0))]) (st' := []) (σ' := τ1) rfl True.intro ?_
              have L64 : ∀ (μ64 : Nat) (s Bo An : Nat), μ64 = 2 - s → (s ≤ 2) → (s = 0 → Bo = 0) → (s = 0 → An = 0) → (1 ≤ s → Bo = LBo V w u) → (s = 1 → An = cB (lkF V w) (gC V w)) → (s = 2 → An = LAn V w u) → RW E G 6 11 (QI E G (fun r σ' => r = aLike V (nI w) (nI u) (nI p) ∧ MQu σ σ')) 64 [(0, .ref 66), (1, .int (nI w)), (2, .int (nI u)), (3, .int (nI p)), (4, .int (nI Bo)), (5, .int (nI An)), (6, .int (nI s))] [] τ1 := by
                intro μ64
                induction μ64 using Nat.strongRecOn with
                | ind μ64 ih64 =>
                  intro s Bo An hμ64 hs hb0 ha0 hb1 ha1 ha2
                  refine rw_go hX [(64, .iload 6), (66, .iconst 2)] (by decide +kernel) (Ps := []) (pc' := 67) (lv' := [(0, .ref 66), (1, .int (nI w)), (2, .int (nI u)), (3, .int (nI p)), (4, .int (nI Bo)), (5, .int (nI An)), (6, .int (nI s))]) (st' := [.int (nI 2), .int (nI s)]) (σ' := τ1) rfl True.intro ?_
                  refine rw_icmp hX (tgt := 216) (cnd := .ge) (off := 149) (by decide +kernel) (by decide) (fun h67 => ?_) (fun h67 => ?_)
                  · replace h67 := c2_geT h67
                    have es : s = 2 := by omega
                    have eB := hb1 (by omega)
                    have eA := ha2 es
                    have hL := LBo_50 hv hw hu
                    rw [eB, eA]
                    refine rw_go hX [(216, .iload 5)] (by decide +kernel) (Ps := []) (pc' := 218) (lv' := [(0, .ref 66), (1, .int (nI w)), (2, .int (nI u)), (3, .int (nI p)), (4, .int (nI (LBo V w u))), (5, .int (nI (LAn V w u))), (6, .int (nI s))]) (st' := [.int (nI (LAn V w u))]) (σ' := τ1) rfl True.intro ?_
                    refine rw_if hX (tgt := 225) (cnd := .ne) (off := 7) (by decide +kernel) (by decide) (fun h218 => ?_) (fun h218 => ?_)
                    · replace h218 := zn_neT h218
                      have hany : ¬ LAn V w u = 0 := by omega
                      refine rw_go hX [(225, .iload 4), (227, .iload 5), (229, .iload_n 3)] (by decide +kernel) (Ps := []) (pc' := 230) (lv' := [(0, .ref 66), (1, .int (nI w)), (2, .int (nI u)), (3, .int (nI p)), (4, .int (nI (LBo V w u))), (5, .int (nI (LAn V w u))), (6, .int (nI s))]) (st' := [.int (nI p), .int (nI (LAn V w u)), .int (nI (LBo V w u))]) (σ' := τ1) rfl True.intro ?_
                      refine rw_callSi hX (as := [.int (nI (LBo V w u)), .int (nI (LAn V w u)), .int (nI p)]) (rest := []) (m_lowest _ _ _ (LBo V w u) (LAn V w u) p (by omega) (by omega) (by omega) hp) (by decide +kernel) msX10_lowest (Or.inl lk10_253) rfl (by decide) (Nat.le_of_ble_eq_true rfl) rfl ?_
                      intro r1 σ1 hr
                      rw [hr.1, show r1 = nI (lowT (LBo V w u) (LAn V w u) p) from hr.2]
                      clear hr σ1 r1
                      exact rw_iret hX (by decide +kernel) (⟨by
  first
  | (simp only [aLike, if_true, if_false, Bool.false_eq_true, and_self, and_true, true_and, and_false, false_and, oel_n, oel_s, decide_true, decide_false, eq_true h4, eq_true h11, eq_false h16, hcw, hcu, eq_true htw, eq_true h26, hcp, eq_true h37, eq_false hvsw, eq_true h45, eq_false hvsu, eq_true h67, eq_true h218, eq_false hany]; done)
  | (simp only [aLike, if_true, if_false, Bool.false_eq_true, and_self, and_true, true_and, and_false, false_and, oel_n, oel_s, decide_true, decide_false, eq_true h4, eq_true h11, eq_false h16, hcw, hcu, eq_true htw, eq_true h26, hcp, eq_true h37, eq_false hvsw, eq_true h45, eq_false hvsu, eq_true h67, eq_true h218, eq_false hany]
     unfold lowT
     rw [if_pos (Or.inr hany)]
     rcases (show p = 0 ∨ p = 1 by omega) with rfl | rfl <;> rfl), hq1⟩)
                    · replace h218 := zn_neF h218
                      have hany : LAn V w u = 0 := h218
                      refine rw_go hX [(221, .iload_n 3), (222, .goto 11)] (by decide +kernel) (Ps := []) (pc' := 233) (lv' := [(0, .ref 66), (1, .int (nI w)), (2, .int (nI u)), (3, .int (nI p)), (4, .int (nI (LBo V w u))), (5, .int (nI (LAn V w u))), (6, .int (nI s))]) (st' := [.int (nI p)]) (σ' := τ1) rfl True.intro ?_
                      exact rw_iret hX (by decide +kernel) (⟨by
  first
  | (simp only [aLike, if_true, if_false, Bool.false_eq_true, and_self, and_true, true_and, and_false, false_and, oel_n, oel_s, decide_true, decide_false, eq_true h4, eq_true h11, eq_false h16, hcw, hcu, eq_true htw, eq_true h26, hcp, eq_true h37, eq_false hvsw, eq_true h45, eq_false hvsu, eq_true h67, eq_true h218, eq_true hany]; done)
  | (simp only [aLike, if_true, if_false, Bool.false_eq_true, and_self, and_true, true_and, and_false, false_and, oel_n, oel_s, decide_true, decide_false, eq_true h4, eq_true h11, eq_false h16, hcw, hcu, eq_true htw, eq_true h26, hcp, eq_true h37, eq_false hvsw, eq_true h45, eq_false hvsu, eq_true h67, eq_true h218, eq_true hany]
     unfold lowT
     rw [if_pos (Or.inr hany)]
     rcases (show p = 0 ∨ p = 1 by omega) with rfl | rfl <;> rfl), hq1⟩)
                  · replace h67 := c2_geF h67
                    refine rw_go hX [(70, .iload 6)] (by decide +kernel) (Ps := []) (pc' := 72) (lv' := [(0, .ref 66), (1, .int (nI w)), (2, .int (nI u)), (3, .int (nI p)), (4, .int (nI Bo)), (5, .int (nI An)), (6, .int (nI s))]) (st' := [.int (nI s)]) (σ' := τ1) rfl True.intro ?_
                    refine rw_if hX (tgt := 79) (cnd := .ne) (off := 7) (by decide +kernel) (by decide) (fun h72 => ?_) (fun h72 => ?_)
                    · replace h72 := zn_neT h72
                      have h70 : ¬ s = 0 := by omega
                      refine rw_go hX [(79, .iload_n 2), (80, .istore 7), (82, .iload 6)] (by decide +kernel) (Ps := []) (pc' := 84) (lv' := [(0, .ref 66), (1, .int (nI w)), (2, .int (nI u)), (3, .int (nI p)), (4, .int (nI Bo)), (5, .int (nI An)), (6, .int (nI s)), (7, .int (nI u))]) (st' := [.int (nI s)]) (σ' := τ1) rfl True.intro ?_
                      refine rw_if hX (tgt := 91) (cnd := .ne) (off := 7) (by decide +kernel) (by decide) (fun h84 => ?_) (fun h84 => ?_)
                      · replace h84 := zn_neT h84
                        refine rw_go hX [(91, .iload_n 1), (92, .istore 8), (94, .iconst 0), (95, .istore 9)] (by decide +kernel) (Ps := []) (pc' := 97) (lv' := [(0, .ref 66), (1, .int (nI w)), (2, .int (nI u)), (3, .int (nI p)), (4, .int (nI Bo)), (5, .int (nI An)), (6, .int (nI s)), (7, .int (nI u)), (8, .int (nI w)), (9, .int (nI 0))]) (st' := []) (σ' := τ1) rfl True.intro ?_
                        have L97 : ∀ (μ97 : Nat) (g : Nat), μ97 = gC V u - g → (g ≤ gC V u) → RW E G 6 11 (QI E G (fun r σ' => r = aLike V (nI w) (nI u) (nI p) ∧ MQu σ σ')) 97 [(0, .ref 66), (1, .int (nI w)), (2, .int (nI u)), (3, .int (nI p)), (4, .int (nI (LBo V w u))), (5, .int (nI (cB (lkF V w) (gC V w) + cB (fun g => lkF V u g && !isPv V w (50 * u + g)) g))), (6, .int (nI s)), (7, .int (nI u)), (8, .int (nI w)), (9, .int (nI g))] [] τ1 := by
                          intro μ97
                          induction μ97 using Nat.strongRecOn with
                          | ind μ97 ih97 =>
                            intro g hμ97 hg
                            refine rw_go hX [(97, .iload 9), (99, .aload_n 0), (100, .iload 7)] (by decide +kernel) (Ps := []) (pc' := 102) (lv' := [(0, .ref 66), (1, .int (nI w)), (2, .int (nI u)), (3, .int (nI p)), (4, .int (nI (LBo V w u))), (5, .int (nI (cB (lkF V w) (gC V w) + cB (fun g => lkF V u g && !isPv V w (50 * u + g)) g))), (6, .int (nI s)), (7, .int (nI u)), (8, .int (nI w)), (9, .int (nI g))]) (st' := [.int (nI u), .ref 66, .int (nI g)]) (σ' := τ1) rfl True.intro ?_
                            refine rw_callVi hX (as := [.int (nI u)]) (rest := [.int (nI g)]) (m_gramsV _ _ _ V u hv hu h71 (hAN.1 u hu)) (by decide +kernel) mvX10_grams lk10_187 (ci := 9) rfl rfl rfl (by decide) (Nat.le_of_ble_eq_true rfl) rfl ?_
                            intro r1 σ1 hr
                            rw [hr.1, show r1 = nI (gC V u) from hr.2]
                            clear hr σ1 r1
                            refine rw_icmp hX (tgt := 210) (cnd := .ge) (off := 105) (by decide +kernel) (by decide) (fun h105 => ?_) (fun h105 => ?_)
                            · replace h105 := c2_geT h105
                              have eg : g = gC V u := by omega
                              refine rw_go hX [(210, .iinc 6 1)] (by decide +kernel) (Ps := []) (pc' := 213) (lv' := [(0, .ref 66), (1, .int (nI w)), (2, .int (nI u)), (3, .int (nI p)), (4, .int (nI (LBo V w u))), (5, .int (nI (cB (lkF V w) (gC V w) + cB (fun g => lkF V u g && !isPv V w (50 * u + g)) g))), (6, .int (nI s + nI 1)), (7, .int (nI u)), (8, .int (nI w)), (9, .int (nI g))]) (st' := []) (σ' := τ1) rfl True.intro ?_
                              rw [show (nI s + nI 1) = nI (s + 1) from nI_add _ _]
                              refine rw_go hX [(213, .goto (-149))] (by decide +kernel) (Ps := []) (pc' := 64) (lv' := [(0, .ref 66), (1, .int (nI w)), (2, .int (nI u)), (3, .int (nI p)), (4, .int (nI (LBo V w u))), (5, .int (nI (cB (lkF V w) (gC V w) + cB (fun g => lkF V u g && !isPv V w (50 * u + g)) g))), (6, .int (nI (s + 1))), (7, .int (nI u)), (8, .int (nI w)), (9, .int (nI g))]) (st' := []) (σ' := τ1) rfl True.intro ?_
                              refine rw_lsub (ks := [0, 1, 2, 3, 4, 5, 6]) (lv' := [(0, .ref 66), (1, .int (nI w)), (2, .int (nI u)), (3, .int (nI p)), (4, .int (nI (LBo V w u))), (5, .int (nI (cB (lkF V w) (gC V w) + cB (fun g => lkF V u g && !isPv V w (50 * u + g)) g))), (6, .int (nI (s + 1)))]) rfl ?_
                              exact ih64 (2 - (s + 1)) (by omega) (s + 1) _ _ rfl (by omega) (fun z => by omega) (fun z => by omega) (fun _ => rfl) (fun z => by omega) (fun _ => by rw [eg]; rfl)
                            · replace h105 := c2_geF h105
                              have hP := PR_of (hAN.1 u hu) h105
                              have hok := hAN.2 _ (okc_i hv hu h105)
                              refine rw_go hX [(108, .aload_n 0), (109, .getfield 46), (112, .bipush 50), (114, .iload 7), (116, .imul)] (by decide +kernel) (Ps := []) (pc' := 117) (lv' := [(0, .ref 66), (1, .int (nI w)), (2, .int (nI u)), (3, .int (nI p)), (4, .int (nI (LBo V w u))), (5, .int (nI (cB (lkF V w) (gC V w) + cB (fun g => lkF V u g && !isPv V w (50 * u + g)) g))), (6, .int (nI s)), (7, .int (nI u)), (8, .int (nI w)), (9, .int (nI g))]) (st' := [.int (nI 50 * nI u), .ref 79]) (σ' := τ1) rfl True.intro ?_
                              rw [show (nI 50 * nI u) = nI (50 * u) from pk_mul _ _]
                              refine rw_go hX [(117, .iload 9), (119, .iadd)] (by decide +kernel) (Ps := []) (pc' := 120) (lv' := [(0, .ref 66), (1, .int (nI w)), (2, .int (nI u)), (3, .int (nI p)), (4, .int (nI (LBo V w u))), (5, .int (nI (cB (lkF V w) (gC V w) + cB (fun g => lkF V u g && !isPv V w (50 * u + g)) g))), (6, .int (nI s)), (7, .int (nI u)), (8, .int (nI w)), (9, .int (nI g))]) (st' := [.int (nI (50 * u) + nI g), .ref 79]) (σ' := τ1) rfl True.intro ?_
                              rw [show (nI (50 * u) + nI g) = nI (50 * u + g) from nI_add _ _]
                              refine rw_go hX [(120, .baload)] (by decide +kernel) (Ps := [vp_in (nI (50 * u + g)) 250]) (pc' := 121) (lv' := [(0, .ref 66), (1, .int (nI w)), (2, .int (nI u)), (3, .int (nI p)), (4, .int (nI (LBo V w u))), (5, .int (nI (cB (lkF V w) (gC V w) + cB (fun g => lkF V u g && !isPv V w (50 * u + g)) g))), (6, .int (nI s)), (7, .int (nI u)), (8, .int (nI w)), (9, .int (nI g))]) (st' := [.int (τ1 79 (nI (50 * u + g)).toNatClampNeg)]) (σ' := τ1) rfl (vp_in_nI (by omega) (by omega)) ?_
                              rw [show (τ1 79 (nI (50 * u + g)).toNatClampNeg) = τ1 79 (50 * u + g) from (by rw [nI_clamp (by omega)])]
                              refine rw_if hX (tgt := 204) (cnd := .eq) (off := 83) (by decide +kernel) (by decide) (fun h121 => ?_) (fun h121 => ?_)
                              · replace h121 : (τ1 79 (50 * u + g) = 0) := h121
                                have hlf : lkF V u g = false := by rw [lkF_e, hP.1 h121] <;> rfl
                                have h1b : (lkF V u g && isPv V w (50 * u + g)) = false := by rw [hlf]; rfl
                                have h2b : (lkF V u g && !isPv V w (50 * u + g)) = false := by rw [hlf]; rfl
                                refine rw_go hX [(204, .iinc 9 1)] (by decide +kernel) (Ps := []) (pc' := 207) (lv' := [(0, .ref 66), (1, .int (nI w)), (2, .int (nI u)), (3, .int (nI p)), (4, .int (nI (LBo V w u))), (5, .int (nI (cB (lkF V w) (gC V w) + cB (fun g => lkF V u g && !isPv V w (50 * u + g)) g))), (6, .int (nI s)), (7, .int (nI u)), (8, .int (nI w)), (9, .int (nI g + nI 1))]) (st' := []) (σ' := τ1) rfl True.intro ?_
                                rw [show (nI g + nI 1) = nI (g + 1) from nI_add _ _]
                                refine rw_go hX [(207, .goto (-110))] (by decide +kernel) (Ps := []) (pc' := 97) (lv' := [(0, .ref 66), (1, .int (nI w)), (2, .int (nI u)), (3, .int (nI p)), (4, .int (nI (LBo V w u))), (5, .int (nI (cB (lkF V w) (gC V w) + cB (fun g => lkF V u g && !isPv V w (50 * u + g)) g))), (6, .int (nI s)), (7, .int (nI u)), (8, .int (nI w)), (9, .int (nI (g + 1)))]) (st' := []) (σ' := τ1) rfl True.intro ?_
                                refine rw_lsub (ks := [0, 1, 2, 3, 4, 5, 6, 7, 8, 9]) (lv' := [(0, .ref 66), (1, .int (nI w)), (2, .int (nI u)), (3, .int (nI p)), (4, .int (nI (LBo V w u))), (5, .int (nI (cB (lkF V w) (gC V w) + cB (fun g => lkF V u g && !isPv V w (50 * u + g)) g))), (6, .int (nI s)), (7, .int (nI u)), (8, .int (nI w)), (9, .int (nI (g + 1)))]) rfl ?_
                                have q := ih97 (gC V u - (g + 1)) (by omega) (g + 1) rfl (by omega)
                                rw [cB_n (b := (fun g => lkF V u g && !isPv V w (50 * u + g))) (k := g) h2b] at q
                                exact q
                              · replace h121 : ¬ (τ1 79 (50 * u + g) = 0) := h121
                                refine rw_go hX [(124, .aload_n 0), (125, .getfield 53), (128, .bipush 50), (130, .iload 7), (132, .imul)] (by decide +kernel) (Ps := []) (pc' := 133) (lv' := [(0, .ref 66), (1, .int (nI w)), (2, .int (nI u)), (3, .int (nI p)), (4, .int (nI (LBo V w u))), (5, .int (nI (cB (lkF V w) (gC V w) + cB (fun g => lkF V u g && !isPv V w (50 * u + g)) g))), (6, .int (nI s)), (7, .int (nI u)), (8, .int (nI w)), (9, .int (nI g))]) (st' := [.int (nI 50 * nI u), .ref 81]) (σ' := τ1) rfl True.intro ?_
                                rw [show (nI 50 * nI u) = nI (50 * u) from pk_mul _ _]
                                refine rw_go hX [(133, .iload 9), (135, .iadd)] (by decide +kernel) (Ps := []) (pc' := 136) (lv' := [(0, .ref 66), (1, .int (nI w)), (2, .int (nI u)), (3, .int (nI p)), (4, .int (nI (LBo V w u))), (5, .int (nI (cB (lkF V w) (gC V w) + cB (fun g => lkF V u g && !isPv V w (50 * u + g)) g))), (6, .int (nI s)), (7, .int (nI u)), (8, .int (nI w)), (9, .int (nI g))]) (st' := [.int (nI (50 * u) + nI g), .ref 81]) (σ' := τ1) rfl True.intro ?_
                                rw [show (nI (50 * u) + nI g) = nI (50 * u + g) from nI_add _ _]
                                refine rw_go hX [(136, .baload)] (by decide +kernel) (Ps := [vp_in (nI (50 * u + g)) 250]) (pc' := 137) (lv' := [(0, .ref 66), (1, .int (nI w)), (2, .int (nI u)), (3, .int (nI p)), (4, .int (nI (LBo V w u))), (5, .int (nI (cB (lkF V w) (gC V w) + cB (fun g => lkF V u g && !isPv V w (50 * u + g)) g))), (6, .int (nI s)), (7, .int (nI u)), (8, .int (nI w)), (9, .int (nI g))]) (st' := [.int (τ1 81 (nI (50 * u + g)).toNatClampNeg)]) (σ' := τ1) rfl (vp_in_nI (by omega) (by omega)) ?_
                                rw [show (τ1 81 (nI (50 * u + g)).toNatClampNeg) = bz (CM V (50 * u + g)) from (by rw [nI_clamp (by omega), hok.2])]
                                refine rw_if hX (tgt := 204) (cnd := .ne) (off := 67) (by decide +kernel) (by decide) (fun h137 => ?_) (fun h137 => ?_)
                                · replace h137 := zb_neT h137
                                  have hlf : lkF V u g = false := by rw [lkF_e, h137, Bool.not_true, Bool.and_false] <;> rfl
                                  have h1b : (lkF V u g && isPv V w (50 * u + g)) = false := by rw [hlf]; rfl
                                  have h2b : (lkF V u g && !isPv V w (50 * u + g)) = false := by rw [hlf]; rfl
                                  refine rw_go hX [(204, .iinc 9 1)] (by decide +kernel) (Ps := []) (pc' := 207) (lv' := [(0, .ref 66), (1, .int (nI w)), (2, .int (nI u)), (3, .int (nI p)), (4, .int (nI (LBo V w u))), (5, .int (nI (cB (lkF V w) (gC V w) + cB (fun g => lkF V u g && !isPv V w (50 * u + g)) g))), (6, .int (nI s)), (7, .int (nI u)), (8, .int (nI w)), (9, .int (nI g + nI 1))]) (st' := []) (σ' := τ1) rfl True.intro ?_
                                  rw [show (nI g + nI 1) = nI (g + 1) from nI_add _ _]
                                  refine rw_go hX [(207, .goto (-110))] (by decide +kernel) (Ps := []) (pc' := 97) (lv' := [(0, .ref 66), (1, .int (nI w)), (2, .int (nI u)), (3, .int (nI p)), (4, .int (nI (LBo V w u))), (5, .int (nI (cB (lkF V w) (gC V w) + cB (fun g => lkF V u g && !isPv V w (50 * u + g)) g))), (6, .int (nI s)), (7, .int (nI u)), (8, .int (nI w)), (9, .int (nI (g + 1)))]) (st' := []) (σ' := τ1) rfl True.intro ?_
                                  refine rw_lsub (ks := [0, 1, 2, 3, 4, 5, 6, 7, 8, 9]) (lv' := [(0, .ref 66), (1, .int (nI w)), (2, .int (nI u)), (3, .int (nI p)), (4, .int (nI (LBo V w u))), (5, .int (nI (cB (lkF V w) (gC V w) + cB (fun g => lkF V u g && !isPv V w (50 * u + g)) g))), (6, .int (nI s)), (7, .int (nI u)), (8, .int (nI w)), (9, .int (nI (g + 1)))]) rfl ?_
                                  have q := ih97 (gC V u - (g + 1)) (by omega) (g + 1) rfl (by omega)
                                  rw [cB_n (b := (fun g => lkF V u g && !isPv V w (50 * u + g))) (k := g) h2b] at q
                                  exact q
                                · replace h137 := zb_neF h137
                                  refine rw_go hX [(140, .aload_n 0), (141, .iload 7), (143, .iload 9)] (by decide +kernel) (Ps := []) (pc' := 145) (lv' := [(0, .ref 66), (1, .int (nI w)), (2, .int (nI u)), (3, .int (nI p)), (4, .int (nI (LBo V w u))), (5, .int (nI (cB (lkF V w) (gC V w) + cB (fun g => lkF V u g && !isPv V w (50 * u + g)) g))), (6, .int (nI s)), (7, .int (nI u)), (8, .int (nI w)), (9, .int (nI g))]) (st' := [.int (nI g), .int (nI u), .ref 66]) (σ' := τ1) rfl True.intro ?_
                                  refine rw_callVi hX (as := [.int (nI u), .int (nI g)]) (rest := []) (m_isAgain _ _ _ V u g hv hu h71 (hAN.1 u hu) h105) (by decide +kernel) mvX10_isAgain lk10_247 (ci := 9) rfl rfl rfl (by decide) (Nat.le_of_ble_eq_true rfl) rfl ?_
                                  intro r1 σ1 hr
                                  rw [hr.1, show r1 = bz (agn V u g g) from hr.2]
                                  clear hr σ1 r1
                                  refine rw_if hX (tgt := 204) (cnd := .ne) (off := 56) (by decide +kernel) (by decide) (fun h148 => ?_) (fun h148 => ?_)
                                  · replace h148 := zb_neT h148
                                    have hlf : lkF V u g = false := by rw [lkF_e, h148, Bool.not_true, Bool.and_false] <;> rfl
                                    have h1b : (lkF V u g && isPv V w (50 * u + g)) = false := by rw [hlf]; rfl
                                    have h2b : (lkF V u g && !isPv V w (50 * u + g)) = false := by rw [hlf]; rfl
                                    refine rw_go hX [(204, .iinc 9 1)] (by decide +kernel) (Ps := []) (pc' := 207) (lv' := [(0, .ref 66), (1, .int (nI w)), (2, .int (nI u)), (3, .int (nI p)), (4, .int (nI (LBo V w u))), (5, .int (nI (cB (lkF V w) (gC V w) + cB (fun g => lkF V u g && !isPv V w (50 * u + g)) g))), (6, .int (nI s)), (7, .int (nI u)), (8, .int (nI w)), (9, .int (nI g + nI 1))]) (st' := []) (σ' := τ1) rfl True.intro ?_
                                    rw [show (nI g + nI 1) = nI (g + 1) from nI_add _ _]
                                    refine rw_go hX [(207, .goto (-110))] (by decide +kernel) (Ps := []) (pc' := 97) (lv' := [(0, .ref 66), (1, .int (nI w)), (2, .int (nI u)), (3, .int (nI p)), (4, .int (nI (LBo V w u))), (5, .int (nI (cB (lkF V w) (gC V w) + cB (fun g => lkF V u g && !isPv V w (50 * u + g)) g))), (6, .int (nI s)), (7, .int (nI u)), (8, .int (nI w)), (9, .int (nI (g + 1)))]) (st' := []) (σ' := τ1) rfl True.intro ?_
                                    refine rw_lsub (ks := [0, 1, 2, 3, 4, 5, 6, 7, 8, 9]) (lv' := [(0, .ref 66), (1, .int (nI w)), (2, .int (nI u)), (3, .int (nI p)), (4, .int (nI (LBo V w u))), (5, .int (nI (cB (lkF V w) (gC V w) + cB (fun g => lkF V u g && !isPv V w (50 * u + g)) g))), (6, .int (nI s)), (7, .int (nI u)), (8, .int (nI w)), (9, .int (nI (g + 1)))]) rfl ?_
                                    have q := ih97 (gC V u - (g + 1)) (by omega) (g + 1) rfl (by omega)
                                    rw [cB_n (b := (fun g => lkF V u g && !isPv V w (50 * u + g))) (k := g) h2b] at q
                                    exact q
                                  · replace h148 := zb_neF h148
                                    have hlf : lkF V u g = true := by rw [lkF_e, hP.2 h121, h137, h148]; rfl
                                    refine rw_go hX [(151, .aload_n 0), (152, .iload 8), (154, .iload 7), (156, .iload 9)] (by decide +kernel) (Ps := []) (pc' := 158) (lv' := [(0, .ref 66), (1, .int (nI w)), (2, .int (nI u)), (3, .int (nI p)), (4, .int (nI (LBo V w u))), (5, .int (nI (cB (lkF V w) (gC V w) + cB (fun g => lkF V u g && !isPv V w (50 * u + g)) g))), (6, .int (nI s)), (7, .int (nI u)), (8, .int (nI w)), (9, .int (nI g))]) (st' := [.int (nI g), .int (nI u), .int (nI w), .ref 66]) (σ' := τ1) rfl True.intro ?_
                                    refine rw_callVi hX (as := [.int (nI w), .int (nI u), .int (nI g)]) (rest := []) (m_isPrinted _ _ _ V w u g hv hw hu h71 (hAN.1 u hu) (hAN.1 w hw) h105) (by decide +kernel) mvX10_isPrinted lk10_250 (ci := 9) rfl rfl rfl (by decide) (Nat.le_of_ble_eq_true rfl) rfl ?_
                                    intro r1 σ1 hr
                                    rw [hr.1, show r1 = bz (isPv V w (50 * u + g)) from hr.2]
                                    clear hr σ1 r1
                                    refine rw_go hX [(161, .istore 10), (163, .iload 4), (165, .iload 10)] (by decide +kernel) (Ps := []) (pc' := 167) (lv' := [(0, .ref 66), (1, .int (nI w)), (2, .int (nI u)), (3, .int (nI p)), (4, .int (nI (LBo V w u))), (5, .int (nI (cB (lkF V w) (gC V w) + cB (fun g => lkF V u g && !isPv V w (50 * u + g)) g))), (6, .int (nI s)), (7, .int (nI u)), (8, .int (nI w)), (9, .int (nI g)), (10, .int (bz (isPv V w (50 * u + g))))]) (st' := [.int (bz (isPv V w (50 * u + g))), .int (nI (LBo V w u))]) (σ' := τ1) rfl True.intro ?_
                                    refine rw_if hX (tgt := 179) (cnd := .eq) (off := 12) (by decide +kernel) (by decide) (fun h167 => ?_) (fun h167 => ?_)
                                    · replace h167 := zb_eqT h167
                                      have h1b : (lkF V u g && isPv V w (50 * u + g)) = false := by rw [h167, Bool.and_false]
                                      have h2b : (lkF V u g && !isPv V w (50 * u + g)) = true := by rw [hlf, h167]; rfl
                                      refine rw_go hX [(179, .iconst 0), (180, .iadd)] (by decide +kernel) (Ps := []) (pc' := 181) (lv' := [(0, .ref 66), (1, .int (nI w)), (2, .int (nI u)), (3, .int (nI p)), (4, .int (nI (LBo V w u))), (5, .int (nI (cB (lkF V w) (gC V w) + cB (fun g => lkF V u g && !isPv V w (50 * u + g)) g))), (6, .int (nI s)), (7, .int (nI u)), (8, .int (nI w)), (9, .int (nI g)), (10, .int (bz (isPv V w (50 * u + g))))]) (st' := [.int (nI (LBo V w u) + nI 0)]) (σ' := τ1) rfl True.intro ?_
                                      rw [show (nI (LBo V w u) + nI 0) = nI (LBo V w u + 0) from nI_add _ _]
                                      refine rw_go hX [(181, .istore 4), (183, .iload 5), (185, .iload 10)] (by decide +kernel) (Ps := []) (pc' := 187) (lv' := [(0, .ref 66), (1, .int (nI w)), (2, .int (nI u)), (3, .int (nI p)), (4, .int (nI (LBo V w u + 0))), (5, .int (nI (cB (lkF V w) (gC V w) + cB (fun g => lkF V u g && !isPv V w (50 * u + g)) g))), (6, .int (nI s)), (7, .int (nI u)), (8, .int (nI w)), (9, .int (nI g)), (10, .int (bz (isPv V w (50 * u + g))))]) (st' := [.int (bz (isPv V w (50 * u + g))), .int (nI (cB (lkF V w) (gC V w) + cB (fun g => lkF V u g && !isPv V w (50 * u + g)) g))]) (σ' := τ1) rfl True.intro ?_
                                      refine rw_if hX (tgt := 200) (cnd := .eq) (off := 13) (by decide +kernel) (by decide) (fun h187 => ?_) (fun h187 => ?_)
                                      · replace h187 := zb_eqT h187
                                        refine rw_go hX [(200, .iconst 1), (201, .iadd)] (by decide +kernel) (Ps := []) (pc' := 202) (lv' := [(0, .ref 66), (1, .int (nI w)), (2, .int (nI u)), (3, .int (nI p)), (4, .int (nI (LBo V w u + 0))), (5, .int (nI (cB (lkF V w) (gC V w) + cB (fun g => lkF V u g && !isPv V w (50 * u + g)) g))), (6, .int (nI s)), (7, .int (nI u)), (8, .int (nI w)), (9, .int (nI g)), (10, .int (bz (isPv V w (50 * u + g))))]) (st' := [.int (nI (cB (lkF V w) (gC V w) + cB (fun g => lkF V u g && !isPv V w (50 * u + g)) g) + nI 1)]) (σ' := τ1) rfl True.intro ?_
                                        rw [show (nI (cB (lkF V w) (gC V w) + cB (fun g => lkF V u g && !isPv V w (50 * u + g)) g) + nI 1) = nI ((cB (lkF V w) (gC V w) + cB (fun g => lkF V u g && !isPv V w (50 * u + g)) g) + 1) from nI_add _ _]
                                        refine rw_go hX [(202, .istore 5), (204, .iinc 9 1)] (by decide +kernel) (Ps := []) (pc' := 207) (lv' := [(0, .ref 66), (1, .int (nI w)), (2, .int (nI u)), (3, .int (nI p)), (4, .int (nI (LBo V w u + 0))), (5, .int (nI ((cB (lkF V w) (gC V w) + cB (fun g => lkF V u g && !isPv V w (50 * u + g)) g) + 1))), (6, .int (nI s)), (7, .int (nI u)), (8, .int (nI w)), (9, .int (nI g + nI 1)), (10, .int (bz (isPv V w (50 * u + g))))]) (st' := []) (σ' := τ1) rfl True.intro ?_
                                        rw [show (nI g + nI 1) = nI (g + 1) from nI_add _ _]
                                        refine rw_go hX [(207, .goto (-110))] (by decide +kernel) (Ps := []) (pc' := 97) (lv' := [(0, .ref 66), (1, .int (nI w)), (2, .int (nI u)), (3, .int (nI p)), (4, .int (nI (LBo V w u + 0))), (5, .int (nI ((cB (lkF V w) (gC V w) + cB (fun g => lkF V u g && !isPv V w (50 * u + g)) g) + 1))), (6, .int (nI s)), (7, .int (nI u)), (8, .int (nI w)), (9, .int (nI (g + 1))), (10, .int (bz (isPv V w (50 * u + g))))]) (st' := []) (σ' := τ1) rfl True.intro ?_
                                        refine rw_lsub (ks := [0, 1, 2, 3, 4, 5, 6, 7, 8, 9]) (lv' := [(0, .ref 66), (1, .int (nI w)), (2, .int (nI u)), (3, .int (nI p)), (4, .int (nI (LBo V w u + 0))), (5, .int (nI ((cB (lkF V w) (gC V w) + cB (fun g => lkF V u g && !isPv V w (50 * u + g)) g) + 1))), (6, .int (nI s)), (7, .int (nI u)), (8, .int (nI w)), (9, .int (nI (g + 1)))]) rfl ?_
                                        have q := ih97 (gC V u - (g + 1)) (by omega) (g + 1) rfl (by omega)
                                        rw [cB_y (b := (fun g => lkF V u g && !isPv V w (50 * u + g))) (k := g) h2b] at q
                                        exact q
                                      · replace h187 := zb_eqF h187
                                        rw [h167] at h187; cases h187
                                    · replace h167 := zb_eqF h167
                                      have h1b : (lkF V u g && isPv V w (50 * u + g)) = true := by rw [hlf, h167]; rfl
                                      have h2b : (lkF V u g && !isPv V w (50 * u + g)) = false := by rw [h167, Bool.not_true, Bool.and_false]
                                      refine rw_go hX [(170, .iload 6)] (by decide +kernel) (Ps := []) (pc' := 172) (lv' := [(0, .ref 66), (1, .int (nI w)), (2, .int (nI u)), (3, .int (nI p)), (4, .int (nI (LBo V w u))), (5, .int (nI (cB (lkF V w) (gC V w) + cB (fun g => lkF V u g && !isPv V w (50 * u + g)) g))), (6, .int (nI s)), (7, .int (nI u)), (8, .int (nI w)), (9, .int (nI g)), (10, .int (bz (isPv V w (50 * u + g))))]) (st' := [.int (nI s), .int (nI (LBo V w u))]) (σ' := τ1) rfl True.intro ?_
                                      refine rw_if hX (tgt := 179) (cnd := .ne) (off := 7) (by decide +kernel) (by decide) (fun h172 => ?_) (fun h172 => ?_)
                                      · replace h172 := zn_neT h172
                                        refine rw_go hX [(179, .iconst 0), (180, .iadd)] (by decide +kernel) (Ps := []) (pc' := 181) (lv' := [(0, .ref 66), (1, .int (nI w)), (2, .int (nI u)), (3, .int (nI p)), (4, .int (nI (LBo V w u))), (5, .int (nI (cB (lkF V w) (gC V w) + cB (fun g => lkF V u g && !isPv V w (50 * u + g)) g))), (6, .int (nI s)), (7, .int (nI u)), (8, .int (nI w)), (9, .int (nI g)), (10, .int (bz (isPv V w (50 * u + g))))]) (st' := [.int (nI (LBo V w u) + nI 0)]) (σ' := τ1) rfl True.intro ?_
                                        rw [show (nI (LBo V w u) + nI 0) = nI (LBo V w u + 0) from nI_add _ _]
                                        refine rw_go hX [(181, .istore 4), (183, .iload 5), (185, .iload 10)] (by decide +kernel) (Ps := []) (pc' := 187) (lv' := [(0, .ref 66), (1, .int (nI w)), (2, .int (nI u)), (3, .int (nI p)), (4, .int (nI (LBo V w u + 0))), (5, .int (nI (cB (lkF V w) (gC V w) + cB (fun g => lkF V u g && !isPv V w (50 * u + g)) g))), (6, .int (nI s)), (7, .int (nI u)), (8, .int (nI w)), (9, .int (nI g)), (10, .int (bz (isPv V w (50 * u + g))))]) (st' := [.int (bz (isPv V w (50 * u + g))), .int (nI (cB (lkF V w) (gC V w) + cB (fun g => lkF V u g && !isPv V w (50 * u + g)) g))]) (σ' := τ1) rfl True.intro ?_
                                        refine rw_if hX (tgt := 200) (cnd := .eq) (off := 13) (by decide +kernel) (by decide) (fun h187 => ?_) (fun h187 => ?_)
                                        · replace h187 := zb_eqT h187
                                          rw [h167] at h187; cases h187
                                        · replace h187 := zb_eqF h187
                                          refine rw_go hX [(190, .iload 6), (192, .iconst 1)] (by decide +kernel) (Ps := []) (pc' := 193) (lv' := [(0, .ref 66), (1, .int (nI w)), (2, .int (nI u)), (3, .int (nI p)), (4, .int (nI (LBo V w u + 0))), (5, .int (nI (cB (lkF V w) (gC V w) + cB (fun g => lkF V u g && !isPv V w (50 * u + g)) g))), (6, .int (nI s)), (7, .int (nI u)), (8, .int (nI w)), (9, .int (nI g)), (10, .int (bz (isPv V w (50 * u + g))))]) (st' := [.int (nI 1), .int (nI s), .int (nI (cB (lkF V w) (gC V w) + cB (fun g => lkF V u g && !isPv V w (50 * u + g)) g))]) (σ' := τ1) rfl True.intro ?_
                                          refine rw_icmp hX (tgt := 200) (cnd := .ne) (off := 7) (by decide +kernel) (by decide) (fun h193 => ?_) (fun h193 => ?_)
                                          · replace h193 := c2_neT h193
                                            omega
                                          · replace h193 := c2_neF h193
                                            refine rw_go hX [(196, .iconst 0), (197, .goto 4), (201, .iadd)] (by decide +kernel) (Ps := []) (pc' := 202) (lv' := [(0, .ref 66), (1, .int (nI w)), (2, .int (nI u)), (3, .int (nI p)), (4, .int (nI (LBo V w u + 0))), (5, .int (nI (cB (lkF V w) (gC V w) + cB (fun g => lkF V u g && !isPv V w (50 * u + g)) g))), (6, .int (nI s)), (7, .int (nI u)), (8, .int (nI w)), (9, .int (nI g)), (10, .int (bz (isPv V w (50 * u + g))))]) (st' := [.int (nI (cB (lkF V w) (gC V w) + cB (fun g => lkF V u g && !isPv V w (50 * u + g)) g) + nI 0)]) (σ' := τ1) rfl True.intro ?_
                                            rw [show (nI (cB (lkF V w) (gC V w) + cB (fun g => lkF V u g && !isPv V w (50 * u + g)) g) + nI 0) = nI ((cB (lkF V w) (gC V w) + cB (fun g => lkF V u g && !isPv V w (50 * u + g)) g) + 0) from nI_add _ _]
                                            refine rw_go hX [(202, .istore 5), (204, .iinc 9 1)] (by decide +kernel) (Ps := []) (pc' := 207) (lv' := [(0, .ref 66), (1, .int (nI w)), (2, .int (nI u)), (3, .int (nI p)), (4, .int (nI (LBo V w u + 0))), (5, .int (nI ((cB (lkF V w) (gC V w) + cB (fun g => lkF V u g && !isPv V w (50 * u + g)) g) + 0))), (6, .int (nI s)), (7, .int (nI u)), (8, .int (nI w)), (9, .int (nI g + nI 1)), (10, .int (bz (isPv V w (50 * u + g))))]) (st' := []) (σ' := τ1) rfl True.intro ?_
                                            rw [show (nI g + nI 1) = nI (g + 1) from nI_add _ _]
                                            refine rw_go hX [(207, .goto (-110))] (by decide +kernel) (Ps := []) (pc' := 97) (lv' := [(0, .ref 66), (1, .int (nI w)), (2, .int (nI u)), (3, .int (nI p)), (4, .int (nI (LBo V w u + 0))), (5, .int (nI ((cB (lkF V w) (gC V w) + cB (fun g => lkF V u g && !isPv V w (50 * u + g)) g) + 0))), (6, .int (nI s)), (7, .int (nI u)), (8, .int (nI w)), (9, .int (nI (g + 1))), (10, .int (bz (isPv V w (50 * u + g))))]) (st' := []) (σ' := τ1) rfl True.intro ?_
                                            refine rw_lsub (ks := [0, 1, 2, 3, 4, 5, 6, 7, 8, 9]) (lv' := [(0, .ref 66), (1, .int (nI w)), (2, .int (nI u)), (3, .int (nI p)), (4, .int (nI (LBo V w u + 0))), (5, .int (nI ((cB (lkF V w) (gC V w) + cB (fun g => lkF V u g && !isPv V w (50 * u + g)) g) + 0))), (6, .int (nI s)), (7, .int (nI u)), (8, .int (nI w)), (9, .int (nI (g + 1)))]) rfl ?_
                                            have q := ih97 (gC V u - (g + 1)) (by omega) (g + 1) rfl (by omega)
                                            rw [cB_n (b := (fun g => lkF V u g && !isPv V w (50 * u + g))) (k := g) h2b] at q
                                            exact q
                                      · replace h172 := zn_neF h172
                                        omega
                        refine rw_lsub (ks := [0, 1, 2, 3, 4, 5, 6, 7, 8, 9]) (lv' := [(0, .ref 66), (1, .int (nI w)), (2, .int (nI u)), (3, .int (nI p)), (4, .int (nI Bo)), (5, .int (nI An)), (6, .int (nI s)), (7, .int (nI u)), (8, .int (nI w)), (9, .int (nI 0))]) rfl ?_
                        have q := L97 (gC V u) 0 rfl (by omega)
                        rw [show Bo = LBo V w u from hb1 (by omega), show An = cB (lkF V w) (gC V w) + cB (fun g => lkF V u g && !isPv V w (50 * u + g)) 0 from ha1 (by omega)]
                        exact q
                      · replace h84 := zn_neF h84
                        omega
                    · replace h72 := zn_neF h72
                      have h70 : s = 0 := h72
                      refine rw_go hX [(75, .iload_n 1), (76, .goto 4), (80, .istore 7), (82, .iload 6)] (by decide +kernel) (Ps := []) (pc' := 84) (lv' := [(0, .ref 66), (1, .int (nI w)), (2, .int (nI u)), (3, .int (nI p)), (4, .int (nI Bo)), (5, .int (nI An)), (6, .int (nI s)), (7, .int (nI w))]) (st' := [.int (nI s)]) (σ' := τ1) rfl True.intro ?_
                      refine rw_if hX (tgt := 91) (cnd := .ne) (off := 7) (by decide +kernel) (by decide) (fun h84 => ?_) (fun h84 => ?_)
                      · replace h84 := zn_neT h84
                        omega
                      · replace h84 := zn_neF h84
                        refine rw_go hX [(87, .iload_n 2), (88, .goto 4), (92, .istore 8), (94, .iconst 0), (95, .istore 9)] (by decide +kernel) (Ps := []) (pc' := 97) (lv' := [(0, .ref 66), (1, .int (nI w)), (2, .int (nI u)), (3, .int (nI p)), (4, .int (nI Bo)), (5, .int (nI An)), (6, .int (nI s)), (7, .int (nI w)), (8, .int (nI u)), (9, .int (nI 0))]) (st' := []) (σ' := τ1) rfl True.intro ?_
                        have L97 : ∀ (μ97 : Nat) (g : Nat), μ97 = gC V w - g → (g ≤ gC V w) → RW E G 6 11 (QI E G (fun r σ' => r = aLike V (nI w) (nI u) (nI p) ∧ MQu σ σ')) 97 [(0, .ref 66), (1, .int (nI w)), (2, .int (nI u)), (3, .int (nI p)), (4, .int (nI (cB (fun g => lkF V w g && isPv V u (50 * w + g)) g))), (5, .int (nI (cB (lkF V w) g))), (6, .int (nI s)), (7, .int (nI w)), (8, .int (nI u)), (9, .int (nI g))] [] τ1 := by
                          intro μ97
                          induction μ97 using Nat.strongRecOn with
                          | ind μ97 ih97 =>
                            intro g hμ97 hg
                            refine rw_go hX [(97, .iload 9), (99, .aload_n 0), (100, .iload 7)] (by decide +kernel) (Ps := []) (pc' := 102) (lv' := [(0, .ref 66), (1, .int (nI w)), (2, .int (nI u)), (3, .int (nI p)), (4, .int (nI (cB (fun g => lkF V w g && isPv V u (50 * w + g)) g))), (5, .int (nI (cB (lkF V w) g))), (6, .int (nI s)), (7, .int (nI w)), (8, .int (nI u)), (9, .int (nI g))]) (st' := [.int (nI w), .ref 66, .int (nI g)]) (σ' := τ1) rfl True.intro ?_
                            refine rw_callVi hX (as := [.int (nI w)]) (rest := [.int (nI g)]) (m_gramsV _ _ _ V w hv hw h71 (hAN.1 w hw)) (by decide +kernel) mvX10_grams lk10_187 (ci := 9) rfl rfl rfl (by decide) (Nat.le_of_ble_eq_true rfl) rfl ?_
                            intro r1 σ1 hr
                            rw [hr.1, show r1 = nI (gC V w) from hr.2]
                            clear hr σ1 r1
                            refine rw_icmp hX (tgt := 210) (cnd := .ge) (off := 105) (by decide +kernel) (by decide) (fun h105 => ?_) (fun h105 => ?_)
                            · replace h105 := c2_geT h105
                              have eg : g = gC V w := by omega
                              refine rw_go hX [(210, .iinc 6 1)] (by decide +kernel) (Ps := []) (pc' := 213) (lv' := [(0, .ref 66), (1, .int (nI w)), (2, .int (nI u)), (3, .int (nI p)), (4, .int (nI (cB (fun g => lkF V w g && isPv V u (50 * w + g)) g))), (5, .int (nI (cB (lkF V w) g))), (6, .int (nI s + nI 1)), (7, .int (nI w)), (8, .int (nI u)), (9, .int (nI g))]) (st' := []) (σ' := τ1) rfl True.intro ?_
                              rw [show (nI s + nI 1) = nI (s + 1) from nI_add _ _]
                              refine rw_go hX [(213, .goto (-149))] (by decide +kernel) (Ps := []) (pc' := 64) (lv' := [(0, .ref 66), (1, .int (nI w)), (2, .int (nI u)), (3, .int (nI p)), (4, .int (nI (cB (fun g => lkF V w g && isPv V u (50 * w + g)) g))), (5, .int (nI (cB (lkF V w) g))), (6, .int (nI (s + 1))), (7, .int (nI w)), (8, .int (nI u)), (9, .int (nI g))]) (st' := []) (σ' := τ1) rfl True.intro ?_
                              refine rw_lsub (ks := [0, 1, 2, 3, 4, 5, 6]) (lv' := [(0, .ref 66), (1, .int (nI w)), (2, .int (nI u)), (3, .int (nI p)), (4, .int (nI (cB (fun g => lkF V w g && isPv V u (50 * w + g)) g))), (5, .int (nI (cB (lkF V w) g))), (6, .int (nI (s + 1)))]) rfl ?_
                              exact ih64 (2 - (s + 1)) (by omega) (s + 1) _ _ rfl (by omega) (fun z => by omega) (fun z => by omega) (fun _ => by rw [eg]; rfl) (fun _ => by rw [eg]) (fun z => by omega)
                            · replace h105 := c2_geF h105
                              have hP := PR_of (hAN.1 w hw) h105
                              have hok := hAN.2 _ (okc_i hv hw h105)
                              refine rw_go hX [(108, .aload_n 0), (109, .getfield 46), (112, .bipush 50), (114, .iload 7), (116, .imul)] (by decide +kernel) (Ps := []) (pc' := 117) (lv' := [(0, .ref 66), (1, .int (nI w)), (2, .int (nI u)), (3, .int (nI p)), (4, .int (nI (cB (fun g => lkF V w g && isPv V u (50 * w + g)) g))), (5, .int (nI (cB (lkF V w) g))), (6, .int (nI s)), (7, .int (nI w)), (8, .int (nI u)), (9, .int (nI g))]) (st' := [.int (nI 50 * nI w), .ref 79]) (σ' := τ1) rfl True.intro ?_
                              rw [show (nI 50 * nI w) = nI (50 * w) from pk_mul _ _]
                              refine rw_go hX [(117, .iload 9), (119, .iadd)] (by decide +kernel) (Ps := []) (pc' := 120) (lv' := [(0, .ref 66), (1, .int (nI w)), (2, .int (nI u)), (3, .int (nI p)), (4, .int (nI (cB (fun g => lkF V w g && isPv V u (50 * w + g)) g))), (5, .int (nI (cB (lkF V w) g))), (6, .int (nI s)), (7, .int (nI w)), (8, .int (nI u)), (9, .int (nI g))]) (st' := [.int (nI (50 * w) + nI g), .ref 79]) (σ' := τ1) rfl True.intro ?_
                              rw [show (nI (50 * w) + nI g) = nI (50 * w + g) from nI_add _ _]
                              refine rw_go hX [(120, .baload)] (by decide +kernel) (Ps := [vp_in (nI (50 * w + g)) 250]) (pc' := 121) (lv' := [(0, .ref 66), (1, .int (nI w)), (2, .int (nI u)), (3, .int (nI p)), (4, .int (nI (cB (fun g => lkF V w g && isPv V u (50 * w + g)) g))), (5, .int (nI (cB (lkF V w) g))), (6, .int (nI s)), (7, .int (nI w)), (8, .int (nI u)), (9, .int (nI g))]) (st' := [.int (τ1 79 (nI (50 * w + g)).toNatClampNeg)]) (σ' := τ1) rfl (vp_in_nI (by omega) (by omega)) ?_
                              rw [show (τ1 79 (nI (50 * w + g)).toNatClampNeg) = τ1 79 (50 * w + g) from (by rw [nI_clamp (by omega)])]
                              refine rw_if hX (tgt := 204) (cnd := .eq) (off := 83) (by decide +kernel) (by decide) (fun h121 => ?_) (fun h121 => ?_)
                              · replace h121 : (τ1 79 (50 * w + g) = 0) := h121
                                have hlf : lkF V w g = false := by rw [lkF_e, hP.1 h121] <;> rfl
                                have h1b : (lkF V w g && isPv V u (50 * w + g)) = false := by rw [hlf]; rfl
                                have h2b : (lkF V w g && !isPv V u (50 * w + g)) = false := by rw [hlf]; rfl
                                refine rw_go hX [(204, .iinc 9 1)] (by decide +kernel) (Ps := []) (pc' := 207) (lv' := [(0, .ref 66), (1, .int (nI w)), (2, .int (nI u)), (3, .int (nI p)), (4, .int (nI (cB (fun g => lkF V w g && isPv V u (50 * w + g)) g))), (5, .int (nI (cB (lkF V w) g))), (6, .int (nI s)), (7, .int (nI w)), (8, .int (nI u)), (9, .int (nI g + nI 1))]) (st' := []) (σ' := τ1) rfl True.intro ?_
                                rw [show (nI g + nI 1) = nI (g + 1) from nI_add _ _]
                                refine rw_go hX [(207, .goto (-110))] (by decide +kernel) (Ps := []) (pc' := 97) (lv' := [(0, .ref 66), (1, .int (nI w)), (2, .int (nI u)), (3, .int (nI p)), (4, .int (nI (cB (fun g => lkF V w g && isPv V u (50 * w + g)) g))), (5, .int (nI (cB (lkF V w) g))), (6, .int (nI s)), (7, .int (nI w)), (8, .int (nI u)), (9, .int (nI (g + 1)))]) (st' := []) (σ' := τ1) rfl True.intro ?_
                                refine rw_lsub (ks := [0, 1, 2, 3, 4, 5, 6, 7, 8, 9]) (lv' := [(0, .ref 66), (1, .int (nI w)), (2, .int (nI u)), (3, .int (nI p)), (4, .int (nI (cB (fun g => lkF V w g && isPv V u (50 * w + g)) g))), (5, .int (nI (cB (lkF V w) g))), (6, .int (nI s)), (7, .int (nI w)), (8, .int (nI u)), (9, .int (nI (g + 1)))]) rfl ?_
                                have q := ih97 (gC V w - (g + 1)) (by omega) (g + 1) rfl (by omega)
                                rw [cB_n (b := (fun g => lkF V w g && isPv V u (50 * w + g))) (k := g) h1b, cB_n (b := lkF V w) (k := g) hlf] at q
                                exact q
                              · replace h121 : ¬ (τ1 79 (50 * w + g) = 0) := h121
                                refine rw_go hX [(124, .aload_n 0), (125, .getfield 53), (128, .bipush 50), (130, .iload 7), (132, .imul)] (by decide +kernel) (Ps := []) (pc' := 133) (lv' := [(0, .ref 66), (1, .int (nI w)), (2, .int (nI u)), (3, .int (nI p)), (4, .int (nI (cB (fun g => lkF V w g && isPv V u (50 * w + g)) g))), (5, .int (nI (cB (lkF V w) g))), (6, .int (nI s)), (7, .int (nI w)), (8, .int (nI u)), (9, .int (nI g))]) (st' := [.int (nI 50 * nI w), .ref 81]) (σ' := τ1) rfl True.intro ?_
                                rw [show (nI 50 * nI w) = nI (50 * w) from pk_mul _ _]
                                refine rw_go hX [(133, .iload 9), (135, .iadd)] (by decide +kernel) (Ps := []) (pc' := 136) (lv' := [(0, .ref 66), (1, .int (nI w)), (2, .int (nI u)), (3, .int (nI p)), (4, .int (nI (cB (fun g => lkF V w g && isPv V u (50 * w + g)) g))), (5, .int (nI (cB (lkF V w) g))), (6, .int (nI s)), (7, .int (nI w)), (8, .int (nI u)), (9, .int (nI g))]) (st' := [.int (nI (50 * w) + nI g), .ref 81]) (σ' := τ1) rfl True.intro ?_
                                rw [show (nI (50 * w) + nI g) = nI (50 * w + g) from nI_add _ _]
                                refine rw_go hX [(136, .baload)] (by decide +kernel) (Ps := [vp_in (nI (50 * w + g)) 250]) (pc' := 137) (lv' := [(0, .ref 66), (1, .int (nI w)), (2, .int (nI u)), (3, .int (nI p)), (4, .int (nI (cB (fun g => lkF V w g && isPv V u (50 * w + g)) g))), (5, .int (nI (cB (lkF V w) g))), (6, .int (nI s)), (7, .int (nI w)), (8, .int (nI u)), (9, .int (nI g))]) (st' := [.int (τ1 81 (nI (50 * w + g)).toNatClampNeg)]) (σ' := τ1) rfl (vp_in_nI (by omega) (by omega)) ?_
                                rw [show (τ1 81 (nI (50 * w + g)).toNatClampNeg) = bz (CM V (50 * w + g)) from (by rw [nI_clamp (by omega), hok.2])]
                                refine rw_if hX (tgt := 204) (cnd := .ne) (off := 67) (by decide +kernel) (by decide) (fun h137 => ?_) (fun h137 => ?_)
                                · replace h137 := zb_neT h137
                                  have hlf : lkF V w g = false := by rw [lkF_e, h137, Bool.not_true, Bool.and_false] <;> rfl
                                  have h1b : (lkF V w g && isPv V u (50 * w + g)) = false := by rw [hlf]; rfl
                                  have h2b : (lkF V w g && !isPv V u (50 * w + g)) = false := by rw [hlf]; rfl
                                  refine rw_go hX [(204, .iinc 9 1)] (by decide +kernel) (Ps := []) (pc' := 207) (lv' := [(0, .ref 66), (1, .int (nI w)), (2, .int (nI u)), (3, .int (nI p)), (4, .int (nI (cB (fun g => lkF V w g && isPv V u (50 * w + g)) g))), (5, .int (nI (cB (lkF V w) g))), (6, .int (nI s)), (7, .int (nI w)), (8, .int (nI u)), (9, .int (nI g + nI 1))]) (st' := []) (σ' := τ1) rfl True.intro ?_
                                  rw [show (nI g + nI 1) = nI (g + 1) from nI_add _ _]
                                  refine rw_go hX [(207, .goto (-110))] (by decide +kernel) (Ps := []) (pc' := 97) (lv' := [(0, .ref 66), (1, .int (nI w)), (2, .int (nI u)), (3, .int (nI p)), (4, .int (nI (cB (fun g => lkF V w g && isPv V u (50 * w + g)) g))), (5, .int (nI (cB (lkF V w) g))), (6, .int (nI s)), (7, .int (nI w)), (8, .int (nI u)), (9, .int (nI (g + 1)))]) (st' := []) (σ' := τ1) rfl True.intro ?_
                                  refine rw_lsub (ks := [0, 1, 2, 3, 4, 5, 6, 7, 8, 9]) (lv' := [(0, .ref 66), (1, .int (nI w)), (2, .int (nI u)), (3, .int (nI p)), (4, .int (nI (cB (fun g => lkF V w g && isPv V u (50 * w + g)) g))), (5, .int (nI (cB (lkF V w) g))), (6, .int (nI s)), (7, .int (nI w)), (8, .int (nI u)), (9, .int (nI (g + 1)))]) rfl ?_
                                  have q := ih97 (gC V w - (g + 1)) (by omega) (g + 1) rfl (by omega)
                                  rw [cB_n (b := (fun g => lkF V w g && isPv V u (50 * w + g))) (k := g) h1b, cB_n (b := lkF V w) (k := g) hlf] at q
                                  exact q
                                · replace h137 := zb_neF h137
                                  refine rw_go hX [(140, .aload_n 0), (141, .iload 7), (143, .iload 9)] (by decide +kernel) (Ps := []) (pc' := 145) (lv' := [(0, .ref 66), (1, .int (nI w)), (2, .int (nI u)), (3, .int (nI p)), (4, .int (nI (cB (fun g => lkF V w g && isPv V u (50 * w + g)) g))), (5, .int (nI (cB (lkF V w) g))), (6, .int (nI s)), (7, .int (nI w)), (8, .int (nI u)), (9, .int (nI g))]) (st' := [.int (nI g), .int (nI w), .ref 66]) (σ' := τ1) rfl True.intro ?_
                                  refine rw_callVi hX (as := [.int (nI w), .int (nI g)]) (rest := []) (m_isAgain _ _ _ V w g hv hw h71 (hAN.1 w hw) h105) (by decide +kernel) mvX10_isAgain lk10_247 (ci := 9) rfl rfl rfl (by decide) (Nat.le_of_ble_eq_true rfl) rfl ?_
                                  intro r1 σ1 hr
                                  rw [hr.1, show r1 = bz (agn V w g g) from hr.2]
                                  clear hr σ1 r1
                                  refine rw_if hX (tgt := 204) (cnd := .ne) (off := 56) (by decide +kernel) (by decide) (fun h148 => ?_) (fun h148 => ?_)
                                  · replace h148 := zb_neT h148
                                    have hlf : lkF V w g = false := by rw [lkF_e, h148, Bool.not_true, Bool.and_false] <;> rfl
                                    have h1b : (lkF V w g && isPv V u (50 * w + g)) = false := by rw [hlf]; rfl
                                    have h2b : (lkF V w g && !isPv V u (50 * w + g)) = false := by rw [hlf]; rfl
                                    refine rw_go hX [(204, .iinc 9 1)] (by decide +kernel) (Ps := []) (pc' := 207) (lv' := [(0, .ref 66), (1, .int (nI w)), (2, .int (nI u)), (3, .int (nI p)), (4, .int (nI (cB (fun g => lkF V w g && isPv V u (50 * w + g)) g))), (5, .int (nI (cB (lkF V w) g))), (6, .int (nI s)), (7, .int (nI w)), (8, .int (nI u)), (9, .int (nI g + nI 1))]) (st' := []) (σ' := τ1) rfl True.intro ?_
                                    rw [show (nI g + nI 1) = nI (g + 1) from nI_add _ _]
                                    refine rw_go hX [(207, .goto (-110))] (by decide +kernel) (Ps := []) (pc' := 97) (lv' := [(0, .ref 66), (1, .int (nI w)), (2, .int (nI u)), (3, .int (nI p)), (4, .int (nI (cB (fun g => lkF V w g && isPv V u (50 * w + g)) g))), (5, .int (nI (cB (lkF V w) g))), (6, .int (nI s)), (7, .int (nI w)), (8, .int (nI u)), (9, .int (nI (g + 1)))]) (st' := []) (σ' := τ1) rfl True.intro ?_
                                    refine rw_lsub (ks := [0, 1, 2, 3, 4, 5, 6, 7, 8, 9]) (lv' := [(0, .ref 66), (1, .int (nI w)), (2, .int (nI u)), (3, .int (nI p)), (4, .int (nI (cB (fun g => lkF V w g && isPv V u (50 * w + g)) g))), (5, .int (nI (cB (lkF V w) g))), (6, .int (nI s)), (7, .int (nI w)), (8, .int (nI u)), (9, .int (nI (g + 1)))]) rfl ?_
                                    have q := ih97 (gC V w - (g + 1)) (by omega) (g + 1) rfl (by omega)
                                    rw [cB_n (b := (fun g => lkF V w g && isPv V u (50 * w + g))) (k := g) h1b, cB_n (b := lkF V w) (k := g) hlf] at q
                                    exact q
                                  · replace h148 := zb_neF h148
                                    have hlf : lkF V w g = true := by rw [lkF_e, hP.2 h121, h137, h148]; rfl
                                    refine rw_go hX [(151, .aload_n 0), (152, .iload 8), (154, .iload 7), (156, .iload 9)] (by decide +kernel) (Ps := []) (pc' := 158) (lv' := [(0, .ref 66), (1, .int (nI w)), (2, .int (nI u)), (3, .int (nI p)), (4, .int (nI (cB (fun g => lkF V w g && isPv V u (50 * w + g)) g))), (5, .int (nI (cB (lkF V w) g))), (6, .int (nI s)), (7, .int (nI w)), (8, .int (nI u)), (9, .int (nI g))]) (st' := [.int (nI g), .int (nI w), .int (nI u), .ref 66]) (σ' := τ1) rfl True.intro ?_
                                    refine rw_callVi hX (as := [.int (nI u), .int (nI w), .int (nI g)]) (rest := []) (m_isPrinted _ _ _ V u w g hv hu hw h71 (hAN.1 w hw) (hAN.1 u hu) h105) (by decide +kernel) mvX10_isPrinted lk10_250 (ci := 9) rfl rfl rfl (by decide) (Nat.le_of_ble_eq_true rfl) rfl ?_
                                    intro r1 σ1 hr
                                    rw [hr.1, show r1 = bz (isPv V u (50 * w + g)) from hr.2]
                                    clear hr σ1 r1
                                    refine rw_go hX [(161, .istore 10), (163, .iload 4), (165, .iload 10)] (by decide +kernel) (Ps := []) (pc' := 167) (lv' := [(0, .ref 66), (1, .int (nI w)), (2, .int (nI u)), (3, .int (nI p)), (4, .int (nI (cB (fun g => lkF V w g && isPv V u (50 * w + g)) g))), (5, .int (nI (cB (lkF V w) g))), (6, .int (nI s)), (7, .int (nI w)), (8, .int (nI u)), (9, .int (nI g)), (10, .int (bz (isPv V u (50 * w + g))))]) (st' := [.int (bz (isPv V u (50 * w + g))), .int (nI (cB (fun g => lkF V w g && isPv V u (50 * w + g)) g))]) (σ' := τ1) rfl True.intro ?_
                                    refine rw_if hX (tgt := 179) (cnd := .eq) (off := 12) (by decide +kernel) (by decide) (fun h167 => ?_) (fun h167 => ?_)
                                    · replace h167 := zb_eqT h167
                                      have h1b : (lkF V w g && isPv V u (50 * w + g)) = false := by rw [h167, Bool.and_false]
                                      have h2b : (lkF V w g && !isPv V u (50 * w + g)) = true := by rw [hlf, h167]; rfl
                                      refine rw_go hX [(179, .iconst 0), (180, .iadd)] (by decide +kernel) (Ps := []) (pc' := 181) (lv' := [(0, .ref 66), (1, .int (nI w)), (2, .int (nI u)), (3, .int (nI p)), (4, .int (nI (cB (fun g => lkF V w g && isPv V u (50 * w + g)) g))), (5, .int (nI (cB (lkF V w) g))), (6, .int (nI s)), (7, .int (nI w)), (8, .int (nI u)), (9, .int (nI g)), (10, .int (bz (isPv V u (50 * w + g))))]) (st' := [.int (nI (cB (fun g => lkF V w g && isPv V u (50 * w + g)) g) + nI 0)]) (σ' := τ1) rfl True.intro ?_
                                      rw [show (nI (cB (fun g => lkF V w g && isPv V u (50 * w + g)) g) + nI 0) = nI (cB (fun g => lkF V w g && isPv V u (50 * w + g)) g + 0) from nI_add _ _]
                                      refine rw_go hX [(181, .istore 4), (183, .iload 5), (185, .iload 10)] (by decide +kernel) (Ps := []) (pc' := 187) (lv' := [(0, .ref 66), (1, .int (nI w)), (2, .int (nI u)), (3, .int (nI p)), (4, .int (nI (cB (fun g => lkF V w g && isPv V u (50 * w + g)) g + 0))), (5, .int (nI (cB (lkF V w) g))), (6, .int (nI s)), (7, .int (nI w)), (8, .int (nI u)), (9, .int (nI g)), (10, .int (bz (isPv V u (50 * w + g))))]) (st' := [.int (bz (isPv V u (50 * w + g))), .int (nI (cB (lkF V w) g))]) (σ' := τ1) rfl True.intro ?_
                                      refine rw_if hX (tgt := 200) (cnd := .eq) (off := 13) (by decide +kernel) (by decide) (fun h187 => ?_) (fun h187 => ?_)
                                      · replace h187 := zb_eqT h187
                                        refine rw_go hX [(200, .iconst 1), (201, .iadd)] (by decide +kernel) (Ps := []) (pc' := 202) (lv' := [(0, .ref 66), (1, .int (nI w)), (2, .int (nI u)), (3, .int (nI p)), (4, .int (nI (cB (fun g => lkF V w g && isPv V u (50 * w + g)) g + 0))), (5, .int (nI (cB (lkF V w) g))), (6, .int (nI s)), (7, .int (nI w)), (8, .int (nI u)), (9, .int (nI g)), (10, .int (bz (isPv V u (50 * w + g))))]) (st' := [.int (nI (cB (lkF V w) g) + nI 1)]) (σ' := τ1) rfl True.intro ?_
                                        rw [show (nI (cB (lkF V w) g) + nI 1) = nI (cB (lkF V w) g + 1) from nI_add _ _]
                                        refine rw_go hX [(202, .istore 5), (204, .iinc 9 1)] (by decide +kernel) (Ps := []) (pc' := 207) (lv' := [(0, .ref 66), (1, .int (nI w)), (2, .int (nI u)), (3, .int (nI p)), (4, .int (nI (cB (fun g => lkF V w g && isPv V u (50 * w + g)) g + 0))), (5, .int (nI (cB (lkF V w) g + 1))), (6, .int (nI s)), (7, .int (nI w)), (8, .int (nI u)), (9, .int (nI g + nI 1)), (10, .int (bz (isPv V u (50 * w + g))))]) (st' := []) (σ' := τ1) rfl True.intro ?_
                                        rw [show (nI g + nI 1) = nI (g + 1) from nI_add _ _]
                                        refine rw_go hX [(207, .goto (-110))] (by decide +kernel) (Ps := []) (pc' := 97) (lv' := [(0, .ref 66), (1, .int (nI w)), (2, .int (nI u)), (3, .int (nI p)), (4, .int (nI (cB (fun g => lkF V w g && isPv V u (50 * w + g)) g + 0))), (5, .int (nI (cB (lkF V w) g + 1))), (6, .int (nI s)), (7, .int (nI w)), (8, .int (nI u)), (9, .int (nI (g + 1))), (10, .int (bz (isPv V u (50 * w + g))))]) (st' := []) (σ' := τ1) rfl True.intro ?_
                                        refine rw_lsub (ks := [0, 1, 2, 3, 4, 5, 6, 7, 8, 9]) (lv' := [(0, .ref 66), (1, .int (nI w)), (2, .int (nI u)), (3, .int (nI p)), (4, .int (nI (cB (fun g => lkF V w g && isPv V u (50 * w + g)) g + 0))), (5, .int (nI (cB (lkF V w) g + 1))), (6, .int (nI s)), (7, .int (nI w)), (8, .int (nI u)), (9, .int (nI (g + 1)))]) rfl ?_
                                        have q := ih97 (gC V w - (g + 1)) (by omega) (g + 1) rfl (by omega)
                                        rw [cB_n (b := (fun g => lkF V w g && isPv V u (50 * w + g))) (k := g) h1b, cB_y (b := lkF V w) (k := g) hlf] at q
                                        exact q
                                      · replace h187 := zb_eqF h187
                                        rw [h167] at h187; cases h187
                                    · replace h167 := zb_eqF h167
                                      have h1b : (lkF V w g && isPv V u (50 * w + g)) = true := by rw [hlf, h167]; rfl
                                      have h2b : (lkF V w g && !isPv V u (50 * w + g)) = false := by rw [h167, Bool.not_true, Bool.and_false]
                                      refine rw_go hX [(170, .iload 6)] (by decide +kernel) (Ps := []) (pc' := 172) (lv' := [(0, .ref 66), (1, .int (nI w)), (2, .int (nI u)), (3, .int (nI p)), (4, .int (nI (cB (fun g => lkF V w g && isPv V u (50 * w + g)) g))), (5, .int (nI (cB (lkF V w) g))), (6, .int (nI s)), (7, .int (nI w)), (8, .int (nI u)), (9, .int (nI g)), (10, .int (bz (isPv V u (50 * w + g))))]) (st' := [.int (nI s), .int (nI (cB (fun g => lkF V w g && isPv V u (50 * w + g)) g))]) (σ' := τ1) rfl True.intro ?_
                                      refine rw_if hX (tgt := 179) (cnd := .ne) (off := 7) (by decide +kernel) (by decide) (fun h172 => ?_) (fun h172 => ?_)
                                      · replace h172 := zn_neT h172
                                        omega
                                      · replace h172 := zn_neF h172
                                        refine rw_go hX [(175, .iconst 1), (176, .goto 4), (180, .iadd)] (by decide +kernel) (Ps := []) (pc' := 181) (lv' := [(0, .ref 66), (1, .int (nI w)), (2, .int (nI u)), (3, .int (nI p)), (4, .int (nI (cB (fun g => lkF V w g && isPv V u (50 * w + g)) g))), (5, .int (nI (cB (lkF V w) g))), (6, .int (nI s)), (7, .int (nI w)), (8, .int (nI u)), (9, .int (nI g)), (10, .int (bz (isPv V u (50 * w + g))))]) (st' := [.int (nI (cB (fun g => lkF V w g && isPv V u (50 * w + g)) g) + nI 1)]) (σ' := τ1) rfl True.intro ?_
                                        rw [show (nI (cB (fun g => lkF V w g && isPv V u (50 * w + g)) g) + nI 1) = nI (cB (fun g => lkF V w g && isPv V u (50 * w + g)) g + 1) from nI_add _ _]
                                        refine rw_go hX [(181, .istore 4), (183, .iload 5), (185, .iload 10)] (by decide +kernel) (Ps := []) (pc' := 187) (lv' := [(0, .ref 66), (1, .int (nI w)), (2, .int (nI u)), (3, .int (nI p)), (4, .int (nI (cB (fun g => lkF V w g && isPv V u (50 * w + g)) g + 1))), (5, .int (nI (cB (lkF V w) g))), (6, .int (nI s)), (7, .int (nI w)), (8, .int (nI u)), (9, .int (nI g)), (10, .int (bz (isPv V u (50 * w + g))))]) (st' := [.int (bz (isPv V u (50 * w + g))), .int (nI (cB (lkF V w) g))]) (σ' := τ1) rfl True.intro ?_
                                        refine rw_if hX (tgt := 200) (cnd := .eq) (off := 13) (by decide +kernel) (by decide) (fun h187 => ?_) (fun h187 => ?_)
                                        · replace h187 := zb_eqT h187
                                          rw [h167] at h187; cases h187
                                        · replace h187 := zb_eqF h187
                                          refine rw_go hX [(190, .iload 6), (192, .iconst 1)] (by decide +kernel) (Ps := []) (pc' := 193) (lv' := [(0, .ref 66), (1, .int (nI w)), (2, .int (nI u)), (3, .int (nI p)), (4, .int (nI (cB (fun g => lkF V w g && isPv V u (50 * w + g)) g + 1))), (5, .int (nI (cB (lkF V w) g))), (6, .int (nI s)), (7, .int (nI w)), (8, .int (nI u)), (9, .int (nI g)), (10, .int (bz (isPv V u (50 * w + g))))]) (st' := [.int (nI 1), .int (nI s), .int (nI (cB (lkF V w) g))]) (σ' := τ1) rfl True.intro ?_
                                          refine rw_icmp hX (tgt := 200) (cnd := .ne) (off := 7) (by decide +kernel) (by decide) (fun h193 => ?_) (fun h193 => ?_)
                                          · replace h193 := c2_neT h193
                                            refine rw_go hX [(200, .iconst 1), (201, .iadd)] (by decide +kernel) (Ps := []) (pc' := 202) (lv' := [(0, .ref 66), (1, .int (nI w)), (2, .int (nI u)), (3, .int (nI p)), (4, .int (nI (cB (fun g => lkF V w g && isPv V u (50 * w + g)) g + 1))), (5, .int (nI (cB (lkF V w) g))), (6, .int (nI s)), (7, .int (nI w)), (8, .int (nI u)), (9, .int (nI g)), (10, .int (bz (isPv V u (50 * w + g))))]) (st' := [.int (nI (cB (lkF V w) g) + nI 1)]) (σ' := τ1) rfl True.intro ?_
                                            rw [show (nI (cB (lkF V w) g) + nI 1) = nI (cB (lkF V w) g + 1) from nI_add _ _]
                                            refine rw_go hX [(202, .istore 5), (204, .iinc 9 1)] (by decide +kernel) (Ps := []) (pc' := 207) (lv' := [(0, .ref 66), (1, .int (nI w)), (2, .int (nI u)), (3, .int (nI p)), (4, .int (nI (cB (fun g => lkF V w g && isPv V u (50 * w + g)) g + 1))), (5, .int (nI (cB (lkF V w) g + 1))), (6, .int (nI s)), (7, .int (nI w)), (8, .int (nI u)), (9, .int (nI g + nI 1)), (10, .int (bz (isPv V u (50 * w + g))))]) (st' := []) (σ' := τ1) rfl True.intro ?_
                                            rw [show (nI g + nI 1) = nI (g + 1) from nI_add _ _]
                                            refine rw_go hX [(207, .goto (-110))] (by decide +kernel) (Ps := []) (pc' := 97) (lv' := [(0, .ref 66), (1, .int (nI w)), (2, .int (nI u)), (3, .int (nI p)), (4, .int (nI (cB (fun g => lkF V w g && isPv V u (50 * w + g)) g + 1))), (5, .int (nI (cB (lkF V w) g + 1))), (6, .int (nI s)), (7, .int (nI w)), (8, .int (nI u)), (9, .int (nI (g + 1))), (10, .int (bz (isPv V u (50 * w + g))))]) (st' := []) (σ' := τ1) rfl True.intro ?_
                                            refine rw_lsub (ks := [0, 1, 2, 3, 4, 5, 6, 7, 8, 9]) (lv' := [(0, .ref 66), (1, .int (nI w)), (2, .int (nI u)), (3, .int (nI p)), (4, .int (nI (cB (fun g => lkF V w g && isPv V u (50 * w + g)) g + 1))), (5, .int (nI (cB (lkF V w) g + 1))), (6, .int (nI s)), (7, .int (nI w)), (8, .int (nI u)), (9, .int (nI (g + 1)))]) rfl ?_
                                            have q := ih97 (gC V w - (g + 1)) (by omega) (g + 1) rfl (by omega)
                                            rw [cB_y (b := (fun g => lkF V w g && isPv V u (50 * w + g))) (k := g) h1b, cB_y (b := lkF V w) (k := g) hlf] at q
                                            exact q
                                          · replace h193 := c2_neF h193
                                            omega
                        refine rw_lsub (ks := [0, 1, 2, 3, 4, 5, 6, 7, 8, 9]) (lv' := [(0, .ref 66), (1, .int (nI w)), (2, .int (nI u)), (3, .int (nI p)), (4, .int (nI Bo)), (5, .int (nI An)), (6, .int (nI s)), (7, .int (nI w)), (8, .int (nI u)), (9, .int (nI 0))]) rfl ?_
                        have q := L97 (gC V w) 0 rfl (by omega)
                        rw [show Bo = cB (fun g => lkF V w g && isPv V u (50 * w + g)) 0 from hb0 h70, show An = cB (lkF V w) 0 from ha0 h70]
                        exact q
              refine rw_lsub (ks := [0, 1, 2, 3, 4, 5, 6]) (lv' := [(0, .ref 66), (1, .int (nI w)), (2, .int (nI u)), (3, .int (nI p)), (4, .int (nI 0)), (5, .int (nI 0)), (6, .int (nI 0))]) rfl ?_
              exact L64 2 0 0 0 rfl (by omega) (fun _ => rfl) (fun _ => rfl) (fun z => by omega) (fun z => by omega) (fun z => by omega)
            · replace h45 := of_decide_eq_false (zb_neF h45)
              have hvsu : vS V u = 0 := by omega
              refine rw_go hX [(48, .bipush (-11))] (by decide +kernel) (Ps := []) (pc' := 50) (lv' := [(0, .ref 66), (1, .int (nI w)), (2, .int (nI u)), (3, .int (nI p))]) (st' := [.int (-(nI 11))]) (σ' := σ) rfl True.intro ?_
              exact rw_iret hX (by decide +kernel) (⟨by simp only [aLike, eq_true h4, eq_true h11, eq_false h16, hcw, hcu, eq_true htw, eq_true h26, hcp, eq_true h37, eq_false hvsw, eq_false h45, eq_true hvsu, if_true, if_false, Bool.false_eq_true, and_self, and_true, true_and, and_false, false_and, oel_n, oel_s, decide_true, decide_false], MQu_rfl _⟩)
        · replace h26 := of_decide_eq_false (zb_neF h26)
          refine rw_go hX [(29, .bipush (-2))] (by decide +kernel) (Ps := []) (pc' := 31) (lv' := [(0, .ref 66), (1, .int (nI w)), (2, .int (nI u)), (3, .int xp)]) (st' := [.int (-(nI 2))]) (σ' := σ) rfl True.intro ?_
          exact rw_iret hX (by decide +kernel) (⟨by simp only [aLike, eq_true h4, eq_true h11, eq_false h16, hcw, hcu, eq_true htw, eq_false h26, if_true, if_false, Bool.false_eq_true, and_self, and_true, true_and, and_false, false_and, oel_n, oel_s, decide_true, decide_false], MQu_rfl _⟩)
