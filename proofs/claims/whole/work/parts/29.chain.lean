set_option maxRecDepth 20000 in
set_option maxHeartbeats 4000000 in
theorem c_linkChain (l : Launch) (G : Gl) (σ : Mm) (m : Nat) (b1 b2 ln : Nat → Nat) (hm : σ 39 0 = nI m) (hm8 : m ≤ 840) (hb1 : ∀ x, x < m → σ 46 x = nI (b1 x) ∧ b1 x ≤ 50) (hb2 : ∀ x, x < m → σ 47 x = nI (b2 x) ∧ b2 x ≤ 50) (hln : ∀ x, x < m → σ 48 x = nI (ln x) ∧ ln x ≤ 50) : AMv l G 2 mX2_linkChain [.ref 39] σ (fun σ' => σ' = lkM b1 b2 ln m σ) := by
  refine rw_inV 2 (by decide +kernel) rfl rfl ?_
  intro E hE hX
  subst hE
  have hl5 : ∀ x, x < m → ln x ≤ 50 := fun x hx => (hln x hx).2
  refine rw_go hX [(0, .iconst (-1)), (1, .istore_n 1), (2, .aload_n 0), (3, .getfield 9)] (by decide +kernel) (Ps := []) (pc' := 6) (lv' := [(0, .ref 39), (1, .int (-(nI 1)))]) (st' := [.int (σ 39 0)]) (σ' := σ) rfl True.intro ?_
  rw [show (σ 39 0) = nI m from (by rw [hm])]
  refine rw_go hX [(6, .sipush 840)] (by decide +kernel) (Ps := []) (pc' := 9) (lv' := [(0, .ref 39), (1, .int (-(nI 1)))]) (st' := [.int (nI 840), .int (nI m)]) (σ' := σ) rfl True.intro ?_
  refine rw_min hX (by decide +kernel) lk2_68 (Nat.le_of_ble_eq_true rfl) ?_
  rw [show (if nI 840 < nI m then nI 840 else nI m) = nI m from (mn_min (by omega) (by omega)).trans (by rw [Nat.min_eq_left hm8])]
  refine rw_go hX [(12, .iconst 1), (13, .isub), (14, .istore_n 2)] (by decide +kernel) (Ps := []) (pc' := 15) (lv' := [(0, .ref 39), (1, .int (-(nI 1))), (2, .int (nI m - nI 1))]) (st' := []) (σ' := σ) rfl True.intro ?_
  have L15 : ∀ (μ15 : Nat) (s : Nat), μ15 = m - s → (s ≤ m) → RW E G 2 4 (QV E G (fun σ' => σ' = lkM b1 b2 ln m σ)) 15 [(0, .ref 39), (1, .int (en (tS b1 b2 ln m s))), (2, .int (nI (m - s) - nI 1))] [] (kS b1 b2 ln m s σ) := by
    intro μ15
    induction μ15 using Nat.strongRecOn with
    | ind μ15 ih15 =>
      intro s hμ15 hs
      have hwl := wS_le (b1 := b1) (b2 := b2) hl5 s hs
      have hti := tS_in (b1 := b1) (b2 := b2) (ln := ln) s hs
      refine rw_go hX [(15, .iload_n 2)] (by decide +kernel) (Ps := []) (pc' := 16) (lv' := [(0, .ref 39), (1, .int (en (tS b1 b2 ln m s))), (2, .int (nI (m - s) - nI 1))]) (st' := [.int (nI (m - s) - nI 1)]) (σ' := kS b1 b2 ln m s σ) rfl True.intro ?_
      refine rw_if hX (tgt := 87) (cnd := .lt) (off := 71) (by decide +kernel) (by decide) (fun h16 => ?_) (fun h16 => ?_)
      · replace h16 : ((nI (m - s) - nI 1) < 0) := h16
        have e0 : m - s = 0 := neg1 (by omega) h16
        have e : s = m := by omega
        rw [show (kS b1 b2 ln m s σ) = kS b1 b2 ln m m σ from (by rw [e])]
        rw [show (tS b1 b2 ln m s) = tS b1 b2 ln m m from (by rw [e])]
        refine rw_go hX [(87, .iconst 0), (88, .istore_n 2)] (by decide +kernel) (Ps := []) (pc' := 89) (lv' := [(0, .ref 39), (1, .int (en (tS b1 b2 ln m m))), (2, .int (nI 0))]) (st' := []) (σ' := kS b1 b2 ln m m σ) rfl True.intro ?_
        have L89 : ∀ (μ89 : Nat) (z : Nat), μ89 = m - z → (z ≤ m) → RW E G 2 4 (QV E G (fun σ' => σ' = lkM b1 b2 ln m σ)) 89 [(0, .ref 39), (1, .int (en (cx b1 b2 ln m z))), (2, .int (nI z))] [] (sr (kS b1 b2 ln m m σ) 51 (mR51 b1 b2 ln m z (σ 51))) := by
          intro μ89
          induction μ89 using Nat.strongRecOn with
          | ind μ89 ih89 =>
            intro z hμ89 hz
            have hci := cx_in (b1 := b1) (b2 := b2) (ln := ln) (m := m) z
            refine rw_go hX [(89, .iload_n 2), (90, .aload_n 0), (91, .getfield 9)] (by decide +kernel) (Ps := []) (pc' := 94) (lv' := [(0, .ref 39), (1, .int (en (cx b1 b2 ln m z))), (2, .int (nI z))]) (st' := [.int ((sr (kS b1 b2 ln m m σ) 51 (mR51 b1 b2 ln m z (σ 51))) 39 0), .int (nI z)]) (σ' := sr (kS b1 b2 ln m m σ) 51 (mR51 b1 b2 ln m z (σ 51))) rfl True.intro ?_
            rw [show ((sr (kS b1 b2 ln m m σ) 51 (mR51 b1 b2 ln m z (σ 51))) 39 0) = nI m from (by rw [sr_n _ _ (by decide), kS_n _ _ _ _ _ _ (by decide) (by decide), hm])]
            refine rw_icmp hX (tgt := 128) (cnd := .ge) (off := 34) (by decide +kernel) (by decide) (fun h94 => ?_) (fun h94 => ?_)
            · replace h94 := c2_geT h94
              have e2 : z = m := by omega
              exact rw_vret hX (by decide +kernel) (by first | (rw [e2]; rfl) | (rw [hend]; rfl))
            · replace h94 := c2_geF h94
              refine rw_go hX [(97, .iload_n 1)] (by decide +kernel) (Ps := []) (pc' := 98) (lv' := [(0, .ref 39), (1, .int (en (cx b1 b2 ln m z))), (2, .int (nI z))]) (st' := [.int (en (cx b1 b2 ln m z))]) (σ' := sr (kS b1 b2 ln m m σ) 51 (mR51 b1 b2 ln m z (σ 51))) rfl True.intro ?_
              refine rw_if hX (tgt := 128) (cnd := .lt) (off := 30) (by decide +kernel) (by decide) (fun h98 => ?_) (fun h98 => ?_)
              · replace h98 : (en (cx b1 b2 ln m z) < 0) := h98
                have hx := en_neg h98 (fun i hi => by have := hci i hi; omega)
                have hend : mR51 b1 b2 ln m z (σ 51) = mR51 b1 b2 ln m m (σ 51) := by
                  funext j
                  have h9 := (mk_end hx (m - z)).2 j
                  rw [show z + (m - z) = m from by omega] at h9
                  simp only [mR51, h9]
                exact rw_vret hX (by decide +kernel) (by first | (rw [e2]; rfl) | (rw [hend]; rfl))
              · replace h98 : ¬ (en (cx b1 b2 ln m z) < 0) := h98
                obtain ⟨x, hx⟩ := en_nn h98
                have hxm := hci x hx
                rw [show en (cx b1 b2 ln m z) = nI x from by rw [hx]; rfl]
                refine rw_go hX [(101, .iload_n 1), (102, .sipush 840)] (by decide +kernel) (Ps := []) (pc' := 105) (lv' := [(0, .ref 39), (1, .int (nI x)), (2, .int (nI z))]) (st' := [.int (nI 840), .int (nI x)]) (σ' := sr (kS b1 b2 ln m m σ) 51 (mR51 b1 b2 ln m z (σ 51))) rfl True.intro ?_
                refine rw_icmp hX (tgt := 128) (cnd := .ge) (off := 23) (by decide +kernel) (by decide) (fun h105 => ?_) (fun h105 => ?_)
                · replace h105 := c2_geT h105
                  omega
                · replace h105 := c2_geF h105
                  refine rw_go hX [(108, .aload_n 0), (109, .getfield 41), (112, .iload_n 1), (113, .iconst 1), (114, .bastore)] (by decide +kernel) (Ps := [vp_in (nI x) 840, (nI 1) = 0 ∨ (nI 1) = 1]) (pc' := 115) (lv' := [(0, .ref 39), (1, .int (nI x)), (2, .int (nI z))]) (st' := []) (σ' := sw (sr (kS b1 b2 ln m m σ) 51 (mR51 b1 b2 ln m z (σ 51))) 51 (nI x).toNatClampNeg (nI 1)) rfl (⟨vp_in_nI (by omega) (by omega), Or.inr rfl⟩) ?_
                  rw [show (sw (sr (kS b1 b2 ln m m σ) 51 (mR51 b1 b2 ln m z (σ 51))) 51 (nI x).toNatClampNeg (nI 1)) = sw (sr (kS b1 b2 ln m m σ) 51 (mR51 b1 b2 ln m z (σ 51))) 51 x (nI 1) from (by rw [nI_clamp (by omega)])]
                  refine rw_go hX [(115, .aload_n 0), (116, .getfield 38), (119, .iload_n 1), (120, .iaload)] (by decide +kernel) (Ps := [vp_in (nI x) 840]) (pc' := 121) (lv' := [(0, .ref 39), (1, .int (nI x)), (2, .int (nI z))]) (st' := [.int ((sw (sr (kS b1 b2 ln m m σ) 51 (mR51 b1 b2 ln m z (σ 51))) 51 x (nI 1)) 50 (nI x).toNatClampNeg)]) (σ' := sw (sr (kS b1 b2 ln m m σ) 51 (mR51 b1 b2 ln m z (σ 51))) 51 x (nI 1)) rfl (vp_in_nI (by omega) (by omega)) ?_
                  rw [show ((sw (sr (kS b1 b2 ln m m σ) 51 (mR51 b1 b2 ln m z (σ 51))) 51 x (nI 1)) 50 (nI x).toNatClampNeg) = en ((wS b1 b2 ln m m).2 x) from (by rw [nI_clamp (by omega), sw_ne _ _ _ (by decide), sr_n _ _ (by decide), kS_50 (by omega) (hci x hx)])]
                  refine rw_go hX [(121, .istore_n 1), (122, .iinc 2 1), (125, .goto (-36))] (by decide +kernel) (Ps := []) (pc' := 89) (lv' := [(0, .ref 39), (1, .int (en ((wS b1 b2 ln m m).2 x))), (2, .int (nI z + nI 1))]) (st' := []) (σ' := sw (sr (kS b1 b2 ln m m σ) 51 (mR51 b1 b2 ln m z (σ 51))) 51 x (nI 1)) rfl True.intro ?_
                  refine rw_lsub (ks := [0, 1, 2]) (lv' := [(0, .ref 39), (1, .int (en ((wS b1 b2 ln m m).2 x))), (2, .int (nI z + nI 1))]) rfl ?_
                  have q := ih89 (m - (z + 1)) (by omega) (z + 1) rfl (by omega)
                  rw [← mR51_1 hx, cx_1 hx] at q
                  rw [nI_add, sw_sr]
                  exact q
        refine rw_lsub (ks := [0, 1, 2]) (lv' := [(0, .ref 39), (1, .int (en (tS b1 b2 ln m m))), (2, .int (nI 0))]) rfl ?_
        have q := L89 m 0 rfl (by omega)
        rw [show mR51 b1 b2 ln m 0 (σ 51) = σ 51 from rfl, show σ 51 = kS b1 b2 ln m m σ 51 from (kS_n _ _ _ _ _ _ (by decide) (by decide)).symm, sr_id] at q
        exact q
      · replace h16 : ¬ ((nI (m - s) - nI 1) < 0) := h16
        have h1s : 1 ≤ m - s := nneg1 h16
        rw [show (nI (m - s) - nI 1) = nI (m - 1 - s) from (by rw [pk_sub h1s, show m - s - 1 = m - 1 - s from by omega])]
        have hbe := hb_le (b1 := b1) (b2 := b2) (ln := ln) (k := m - 1 - s) hwl s
        have hbn := (hb_in (b1 := b1) (b2 := b2) (ln := ln) (W := (wS b1 b2 ln m s).1) (k := m - 1 - s) s).2.1
        have hbi := (hb_in (b1 := b1) (b2 := b2) (ln := ln) (W := (wS b1 b2 ln m s).1) (k := m - 1 - s) s).1
        have hlk := hl5 (m - 1 - s) (by omega)
        have hw1 := wS_le (b1 := b1) (b2 := b2) hl5 (s + 1) (by omega)
        refine rw_go hX [(19, .aload_n 0), (20, .iload_n 2)] (by decide +kernel) (Ps := []) (pc' := 21) (lv' := [(0, .ref 39), (1, .int (en (tS b1 b2 ln m s))), (2, .int (nI (m - 1 - s)))]) (st' := [.int (nI (m - 1 - s)), .ref 39]) (σ' := kS b1 b2 ln m s σ) rfl True.intro ?_
        refine rw_callVi hX (as := [.int (nI (m - 1 - s))]) (rest := []) (c_heaviest _ _ _ m (m - 1 - s) b1 b2 ln (wS b1 b2 ln m s).1 (by rw [kS_n _ _ _ _ _ _ (by decide) (by decide)]; exact hm) hm8 (fun x hx => (by rw [kS_n _ _ _ _ _ _ (by decide) (by decide)]; exact hb1 x hx)) (fun x hx => (by rw [kS_n _ _ _ _ _ _ (by decide) (by decide)]; exact hb2 x hx)) (fun x hx => (by rw [kS_n _ _ _ _ _ _ (by decide) (by decide)]; exact hln x hx)) (by omega) (fun x h1 h2 => ⟨kS_49 (by omega) h2, by have := hwl x; omega⟩)) (by decide +kernel) mvX2_heaviestBehind lk2_77 (ci := 1) rfl rfl rfl (by decide) (Nat.le_of_ble_eq_true rfl) rfl ?_
        intro r1 σ1 hr
        rw [hr.1, show r1 = en (hb b1 b2 ln (wS b1 b2 ln m s).1 (m - 1 - s) s).1 from hr.2.trans (by rw [show m - 1 - (m - 1 - s) = s from by omega])]
        clear hr σ1 r1
        refine rw_go hX [(24, .istore_n 3), (25, .aload_n 0), (26, .getfield 38), (29, .iload_n 2), (30, .iload_n 3), (31, .iastore)] (by decide +kernel) (Ps := [vp_in (nI (m - 1 - s)) 840]) (pc' := 32) (lv' := [(0, .ref 39), (1, .int (en (tS b1 b2 ln m s))), (2, .int (nI (m - 1 - s))), (3, .int (en (hb b1 b2 ln (wS b1 b2 ln m s).1 (m - 1 - s) s).1))]) (st' := []) (σ' := sw (kS b1 b2 ln m s σ) 50 (nI (m - 1 - s)).toNatClampNeg (en (hb b1 b2 ln (wS b1 b2 ln m s).1 (m - 1 - s) s).1)) rfl (vp_in_nI (by omega) (by omega)) ?_
        rw [show (sw (kS b1 b2 ln m s σ) 50 (nI (m - 1 - s)).toNatClampNeg (en (hb b1 b2 ln (wS b1 b2 ln m s).1 (m - 1 - s) s).1)) = sw (kS b1 b2 ln m s σ) 50 (m - 1 - s) (en (hb b1 b2 ln (wS b1 b2 ln m s).1 (m - 1 - s) s).1) from (by rw [nI_clamp (by omega)])]
        refine rw_go hX [(32, .aload_n 0), (33, .getfield 35), (36, .iload_n 2), (37, .aload_n 0), (38, .getfield 32), (41, .iload_n 2), (42, .iaload)] (by decide +kernel) (Ps := [vp_in (nI (m - 1 - s)) 840]) (pc' := 43) (lv' := [(0, .ref 39), (1, .int (en (tS b1 b2 ln m s))), (2, .int (nI (m - 1 - s))), (3, .int (en (hb b1 b2 ln (wS b1 b2 ln m s).1 (m - 1 - s) s).1))]) (st' := [.int ((sw (kS b1 b2 ln m s σ) 50 (m - 1 - s) (en (hb b1 b2 ln (wS b1 b2 ln m s).1 (m - 1 - s) s).1)) 48 (nI (m - 1 - s)).toNatClampNeg), .int (nI (m - 1 - s)), .ref 49]) (σ' := sw (kS b1 b2 ln m s σ) 50 (m - 1 - s) (en (hb b1 b2 ln (wS b1 b2 ln m s).1 (m - 1 - s) s).1)) rfl (vp_in_nI (by omega) (by omega)) ?_
        rw [show ((sw (kS b1 b2 ln m s σ) 50 (m - 1 - s) (en (hb b1 b2 ln (wS b1 b2 ln m s).1 (m - 1 - s) s).1)) 48 (nI (m - 1 - s)).toNatClampNeg) = nI (ln (m - 1 - s)) from (by rw [nI_clamp (by omega), sw_ne _ _ _ (by decide), kS_n _ _ _ _ _ _ (by decide) (by decide), (hln (m - 1 - s) (by omega)).1])]
        refine rw_go hX [(43, .iconst 0), (44, .aload_n 0), (45, .getfield 35), (48, .iload_n 3)] (by decide +kernel) (Ps := []) (pc' := 49) (lv' := [(0, .ref 39), (1, .int (en (tS b1 b2 ln m s))), (2, .int (nI (m - 1 - s))), (3, .int (en (hb b1 b2 ln (wS b1 b2 ln m s).1 (m - 1 - s) s).1))]) (st' := [.int (en (hb b1 b2 ln (wS b1 b2 ln m s).1 (m - 1 - s) s).1), .ref 49, .int (nI 0), .int (nI (ln (m - 1 - s))), .int (nI (m - 1 - s)), .ref 49]) (σ' := sw (kS b1 b2 ln m s σ) 50 (m - 1 - s) (en (hb b1 b2 ln (wS b1 b2 ln m s).1 (m - 1 - s) s).1)) rfl True.intro ?_
        refine rw_callSi hX (as := [.ref 49, .int (en (hb b1 b2 ln (wS b1 b2 ln m s).1 (m - 1 - s) s).1)]) (rest := [.int (nI 0), .int (nI (ln (m - 1 - s))), .int (nI (m - 1 - s)), .ref 49]) (c_pickE _ _ _ 49 840 (hb b1 b2 ln (wS b1 b2 ln m s).1 (m - 1 - s) s).1 (by decide +kernel) (by omega) (fun i hi => by have := hbi i hi; omega)) (by decide +kernel) msX9_pick (Or.inr lk2_64) rfl (by decide) (Nat.le_of_ble_eq_true rfl) rfl ?_
        intro r1 σ1 hr
        rw [hr.1, show r1 = ev (hb b1 b2 ln (wS b1 b2 ln m s).1 (m - 1 - s) s).1 (hb b1 b2 ln (wS b1 b2 ln m s).1 (m - 1 - s) s).2 from hr.2.trans (by
          cases hz : (hb b1 b2 ln (wS b1 b2 ln m s).1 (m - 1 - s) s).1 with
          | none => rfl
          | some i =>
            have h9 := hbi i hz
            show sw _ 50 _ _ 49 i = nI _
            rw [sw_ne _ _ _ (by decide), kS_49 (by omega) (by omega), h9.2.2])]
        clear hr σ1 r1
        refine rw_max hX (by decide +kernel) lk2_81 (Nat.le_of_ble_eq_true rfl) ?_
        rw [show (if nI 0 < ev (hb b1 b2 ln (wS b1 b2 ln m s).1 (m - 1 - s) s).1 (hb b1 b2 ln (wS b1 b2 ln m s).1 (m - 1 - s) s).2 then ev (hb b1 b2 ln (wS b1 b2 ln m s).1 (m - 1 - s) s).1 (hb b1 b2 ln (wS b1 b2 ln m s).1 (m - 1 - s) s).2 else nI 0) = nI ((hb b1 b2 ln (wS b1 b2 ln m s).1 (m - 1 - s) s).2) from ev_max hbn (by omega)]
        refine rw_go hX [(55, .iadd)] (by decide +kernel) (Ps := []) (pc' := 56) (lv' := [(0, .ref 39), (1, .int (en (tS b1 b2 ln m s))), (2, .int (nI (m - 1 - s))), (3, .int (en (hb b1 b2 ln (wS b1 b2 ln m s).1 (m - 1 - s) s).1))]) (st' := [.int (nI (ln (m - 1 - s)) + nI ((hb b1 b2 ln (wS b1 b2 ln m s).1 (m - 1 - s) s).2)), .int (nI (m - 1 - s)), .ref 49]) (σ' := sw (kS b1 b2 ln m s σ) 50 (m - 1 - s) (en (hb b1 b2 ln (wS b1 b2 ln m s).1 (m - 1 - s) s).1)) rfl True.intro ?_
        rw [show (nI (ln (m - 1 - s)) + nI ((hb b1 b2 ln (wS b1 b2 ln m s).1 (m - 1 - s) s).2)) = nI (ln (m - 1 - s) + (hb b1 b2 ln (wS b1 b2 ln m s).1 (m - 1 - s) s).2) from nI_add _ _]
        refine rw_go hX [(56, .iastore)] (by decide +kernel) (Ps := [vp_in (nI (m - 1 - s)) 840]) (pc' := 57) (lv' := [(0, .ref 39), (1, .int (en (tS b1 b2 ln m s))), (2, .int (nI (m - 1 - s))), (3, .int (en (hb b1 b2 ln (wS b1 b2 ln m s).1 (m - 1 - s) s).1))]) (st' := []) (σ' := sw (sw (kS b1 b2 ln m s σ) 50 (m - 1 - s) (en (hb b1 b2 ln (wS b1 b2 ln m s).1 (m - 1 - s) s).1)) 49 (nI (m - 1 - s)).toNatClampNeg (nI (ln (m - 1 - s) + (hb b1 b2 ln (wS b1 b2 ln m s).1 (m - 1 - s) s).2))) rfl (vp_in_nI (by omega) (by omega)) ?_
        rw [show (sw (sw (kS b1 b2 ln m s σ) 50 (m - 1 - s) (en (hb b1 b2 ln (wS b1 b2 ln m s).1 (m - 1 - s) s).1)) 49 (nI (m - 1 - s)).toNatClampNeg (nI (ln (m - 1 - s) + (hb b1 b2 ln (wS b1 b2 ln m s).1 (m - 1 - s) s).2))) = sw (sw (kS b1 b2 ln m s σ) 50 (m - 1 - s) (en (hb b1 b2 ln (wS b1 b2 ln m s).1 (m - 1 - s) s).1)) 49 (m - 1 - s) (nI (ln (m - 1 - s) + (hb b1 b2 ln (wS b1 b2 ln m s).1 (m - 1 - s) s).2)) from (by rw [nI_clamp (by omega)])]
        rw [show (sw (sw (kS b1 b2 ln m s σ) 50 (m - 1 - s) (en (hb b1 b2 ln (wS b1 b2 ln m s).1 (m - 1 - s) s).1)) 49 (m - 1 - s) (nI (ln (m - 1 - s) + (hb b1 b2 ln (wS b1 b2 ln m s).1 (m - 1 - s) s).2))) = kS b1 b2 ln m (s + 1) σ from kS_1 (by omega)]
        refine rw_go hX [(57, .iload_n 1), (58, .iconst (-1))] (by decide +kernel) (Ps := []) (pc' := 59) (lv' := [(0, .ref 39), (1, .int (en (tS b1 b2 ln m s))), (2, .int (nI (m - 1 - s))), (3, .int (en (hb b1 b2 ln (wS b1 b2 ln m s).1 (m - 1 - s) s).1))]) (st' := [.int (-(nI 1)), .int (en (tS b1 b2 ln m s))]) (σ' := kS b1 b2 ln m (s + 1) σ) rfl True.intro ?_
        refine rw_icmp hX (tgt := 79) (cnd := .eq) (off := 20) (by decide +kernel) (by decide) (fun h59 => ?_) (fun h59 => ?_)
        · replace h59 : (en (tS b1 b2 ln m s) = (-(nI 1))) := h59
          have ht : tS b1 b2 ln m s = none := en_none h59 (fun f hf => by have := hti f hf; omega)
          have htop := tS_n ht
          refine rw_go hX [(79, .iload_n 2), (80, .istore_n 1), (81, .iinc 2 (-1)), (84, .goto (-69))] (by decide +kernel) (Ps := []) (pc' := 15) (lv' := [(0, .ref 39), (1, .int (nI (m - 1 - s))), (2, .int (nI (m - 1 - s) + (-(nI 1)))), (3, .int (en (hb b1 b2 ln (wS b1 b2 ln m s).1 (m - 1 - s) s).1))]) (st' := []) (σ' := kS b1 b2 ln m (s + 1) σ) rfl True.intro ?_
          refine rw_lsub (ks := [0, 1, 2]) (lv' := [(0, .ref 39), (1, .int (nI (m - 1 - s))), (2, .int (nI (m - 1 - s) + (-(nI 1))))]) rfl ?_
          have q := ih15 (m - (s + 1)) (by omega) (s + 1) rfl (by omega)
          rw [htop] at q
          rw [show nI (m - 1 - s) + -(nI 1) = nI (m - (s + 1)) - nI 1 from by rw [show m - (s + 1) = m - 1 - s from by omega]; grind]
          exact q
        · replace h59 : ¬ (en (tS b1 b2 ln m s) = (-(nI 1))) := h59
          obtain ⟨t, ht⟩ := en_some h59
          have ht2 := hti t ht
          refine rw_go hX [(62, .aload_n 0), (63, .getfield 35), (66, .iload_n 2), (67, .iaload)] (by decide +kernel) (Ps := [vp_in (nI (m - 1 - s)) 840]) (pc' := 68) (lv' := [(0, .ref 39), (1, .int (en (tS b1 b2 ln m s))), (2, .int (nI (m - 1 - s))), (3, .int (en (hb b1 b2 ln (wS b1 b2 ln m s).1 (m - 1 - s) s).1))]) (st' := [.int ((kS b1 b2 ln m (s + 1) σ) 49 (nI (m - 1 - s)).toNatClampNeg)]) (σ' := kS b1 b2 ln m (s + 1) σ) rfl (vp_in_nI (by omega) (by omega)) ?_
          rw [show ((kS b1 b2 ln m (s + 1) σ) 49 (nI (m - 1 - s)).toNatClampNeg) = nI ((wS b1 b2 ln m (s + 1)).1 (m - 1 - s)) from (by rw [nI_clamp (by omega), kS_49 (by omega) (by omega)])]
          refine rw_go hX [(68, .aload_n 0), (69, .getfield 35), (72, .iload_n 1)] (by decide +kernel) (Ps := []) (pc' := 73) (lv' := [(0, .ref 39), (1, .int (en (tS b1 b2 ln m s))), (2, .int (nI (m - 1 - s))), (3, .int (en (hb b1 b2 ln (wS b1 b2 ln m s).1 (m - 1 - s) s).1))]) (st' := [.int (en (tS b1 b2 ln m s)), .ref 49, .int (nI ((wS b1 b2 ln m (s + 1)).1 (m - 1 - s)))]) (σ' := kS b1 b2 ln m (s + 1) σ) rfl True.intro ?_
          refine rw_callSi hX (as := [.ref 49, .int (en (tS b1 b2 ln m s))]) (rest := [.int (nI ((wS b1 b2 ln m (s + 1)).1 (m - 1 - s)))]) (c_pickE _ _ _ 49 840 (tS b1 b2 ln m s) (by decide +kernel) (by omega) (fun i hi => by have := hti i hi; omega)) (by decide +kernel) msX9_pick (Or.inr lk2_64) rfl (by decide) (Nat.le_of_ble_eq_true rfl) rfl ?_
          intro r1 σ1 hr
          rw [hr.1, show r1 = nI ((wS b1 b2 ln m (s + 1)).1 t) from hr.2.trans (by
            rw [ht]
            exact kS_49 (by omega) (by omega))]
          clear hr σ1 r1
          have hwt := hw1 t
          have hwk := hw1 (m - 1 - s)
          refine rw_icmp hX (tgt := 81) (cnd := .lt) (off := 5) (by decide +kernel) (by decide) (fun h76 => ?_) (fun h76 => ?_)
          · replace h76 := c2_ltT h76
            have h76b : ¬ (wS b1 b2 ln m (s + 1)).1 t ≤ (wS b1 b2 ln m (s + 1)).1 (m - 1 - s) := by omega
            have htop := tS_k ht h76b
            refine rw_go hX [(81, .iinc 2 (-1)), (84, .goto (-69))] (by decide +kernel) (Ps := []) (pc' := 15) (lv' := [(0, .ref 39), (1, .int (en (tS b1 b2 ln m s))), (2, .int (nI (m - 1 - s) + (-(nI 1)))), (3, .int (en (hb b1 b2 ln (wS b1 b2 ln m s).1 (m - 1 - s) s).1))]) (st' := []) (σ' := kS b1 b2 ln m (s + 1) σ) rfl True.intro ?_
            refine rw_lsub (ks := [0, 1, 2]) (lv' := [(0, .ref 39), (1, .int (en (tS b1 b2 ln m s))), (2, .int (nI (m - 1 - s) + (-(nI 1))))]) rfl ?_
            have q := ih15 (m - (s + 1)) (by omega) (s + 1) rfl (by omega)
            rw [htop, ← ht] at q
            rw [show nI (m - 1 - s) + -(nI 1) = nI (m - (s + 1)) - nI 1 from by rw [show m - (s + 1) = m - 1 - s from by omega]; grind]
            exact q
          · replace h76 := c2_ltF h76
            have htop := tS_y ht h76
            refine rw_go hX [(79, .iload_n 2), (80, .istore_n 1), (81, .iinc 2 (-1)), (84, .goto (-69))] (by decide +kernel) (Ps := []) (pc' := 15) (lv' := [(0, .ref 39), (1, .int (nI (m - 1 - s))), (2, .int (nI (m - 1 - s) + (-(nI 1)))), (3, .int (en (hb b1 b2 ln (wS b1 b2 ln m s).1 (m - 1 - s) s).1))]) (st' := []) (σ' := kS b1 b2 ln m (s + 1) σ) rfl True.intro ?_
            refine rw_lsub (ks := [0, 1, 2]) (lv' := [(0, .ref 39), (1, .int (nI (m - 1 - s))), (2, .int (nI (m - 1 - s) + (-(nI 1))))]) rfl ?_
            have q := ih15 (m - (s + 1)) (by omega) (s + 1) rfl (by omega)
            rw [htop] at q
            rw [show nI (m - 1 - s) + -(nI 1) = nI (m - (s + 1)) - nI 1 from by rw [show m - (s + 1) = m - 1 - s from by omega]; grind]
            exact q
  refine rw_lsub (ks := [0, 1, 2]) (lv' := [(0, .ref 39), (1, .int (-(nI 1))), (2, .int (nI m - nI 1))]) rfl ?_
  have q := L15 m 0 rfl (by omega)
  rw [kS_0, Nat.sub_zero] at q
  exact q
