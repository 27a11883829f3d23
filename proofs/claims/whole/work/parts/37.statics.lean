/-! sums and counts, lowest terms, what stands under a kind -/
def sN (f : Nat → Nat) : Nat → Nat
  | 0 => 0
  | k + 1 => sN f k + f k
theorem sN_1 (f : Nat → Nat) (k : Nat) : sN f (k + 1) = sN f k + f k := rfl
theorem sN_le {f : Nat → Nat} {C : Nat} : ∀ k, (∀ x, x < k → f x ≤ C) → sN f k ≤ C * k
  | 0, _ => Nat.le_refl 0
  | k + 1, h => by
    have := sN_le k (fun x hx => h x (by omega))
    have := h k (by omega)
    rw [sN_1, Nat.mul_succ]
    omega
def lowT (a b p : Nat) : Nat := if a = 0 ∨ b = 0 then (if p = 0 then 0 else 1) else (if p = 0 then a else b) / Nat.gcd a b
def upU (V : Mm) (T : Nat → Int32) (pl : Nat → Nat) (w i : Nat) : Bool := !isL (V 0 (50 * w + pl i)) || decide (V 0 (50 * w + pl i) ≠ T (50 * w + i))
def fB3 (σ : Mm) (f : Nat) : Bool := decide (σ 37 f = nI 3) && !(decide (σ 35 f ≥ σ 31 8) || decide (σ 38 f ≠ 0))
def fB0 (σ : Mm) (f : Nat) : Bool := decide (σ 37 f ≠ 0) && !(decide (σ 35 f ≥ σ 31 8) || decide (σ 38 f ≠ 0))
set_option maxRecDepth 20000 in
set_option maxHeartbeats 4000000 in
theorem c_unlikePlain (l : Launch) (G : Gl) (σ : Mm) (V : Mm) (w L : Nat) (pl : Nat → Nat) (hV : vw σ 2 = V) (hv : wf V) (hw : w < 5) (hL : σ 24 w = nI L) (hL5 : L ≤ 50) (hpl : ∀ i, i < L → σ 27 (50 * w + i) = nI (pl i) ∧ pl i < vS V w) : AMi l G 3 mX3_unlikePlain [.ref 23, .ref 1, .int (nI w)] σ (fun r σ' => σ' = σ ∧ r = nI (cB (upU V (σ 26) pl w) L)) := by
  refine rw_inI 3 (by decide +kernel) rfl rfl ?_
  intro E hE hX
  subst hE
  refine rw_go hX [(0, .iconst 0), (1, .istore_n 3), (2, .iconst 0), (3, .istore 4)] (by decide +kernel) (Ps := []) (pc' := 5) (lv' := [(0, .ref 23), (1, .ref 1), (2, .int (nI w)), (3, .int (nI 0)), (4, .int (nI 0))]) (st' := []) (σ' := σ) rfl True.intro ?_
  have L5 : ∀ (μ5 : Nat) (i : Nat), μ5 = L - i → (i ≤ L) → RW E G 3 6 (QI E G (fun r σ' => σ' = σ ∧ r = nI (cB (upU V (σ 26) pl w) L))) 5 [(0, .ref 23), (1, .ref 1), (2, .int (nI w)), (3, .int (nI (cB (upU V (σ 26) pl w) i))), (4, .int (nI i))] [] σ := by
    intro μ5
    induction μ5 using Nat.strongRecOn with
    | ind μ5 ih5 =>
      intro i hμ5 hi
      refine rw_go hX [(5, .iload 4), (7, .aload_n 0), (8, .iload_n 2)] (by decide +kernel) (Ps := []) (pc' := 9) (lv' := [(0, .ref 23), (1, .ref 1), (2, .int (nI w)), (3, .int (nI (cB (upU V (σ 26) pl w) i))), (4, .int (nI i))]) (st' := [.int (nI w), .ref 23, .int (nI i)]) (σ' := σ) rfl True.intro ?_
      refine rw_callVi hX (as := [.int (nI w)]) (rest := [.int (nI i)]) (c_letterCount _ _ _ w hw) (by decide +kernel) mvX3_letterCount lk3_108 (ci := 2) rfl rfl rfl (by decide) (Nat.le_of_ble_eq_true rfl) rfl ?_
      intro r1 σ1 hr
      rw [hr.1, show r1 = nI L from hr.2.trans hL]
      clear hr σ1 r1
      refine rw_icmp hX (tgt := 66) (cnd := .ge) (off := 54) (by decide +kernel) (by decide) (fun h12 => ?_) (fun h12 => ?_)
      · replace h12 := c2_geT h12
        have e : i = L := by omega
        refine rw_go hX [(66, .iload_n 3)] (by decide +kernel) (Ps := []) (pc' := 67) (lv' := [(0, .ref 23), (1, .ref 1), (2, .int (nI w)), (3, .int (nI (cB (upU V (σ 26) pl w) i))), (4, .int (nI i))]) (st' := [.int (nI (cB (upU V (σ 26) pl w) i))]) (σ' := σ) rfl True.intro ?_
        exact rw_iret hX (by decide +kernel) (⟨rfl, by rw [e]⟩)
      · replace h12 := c2_geF h12
        have hpi := hpl i h12
        refine rw_go hX [(15, .aload_n 1), (16, .iload_n 2), (17, .aload_n 0), (18, .iload_n 2), (19, .iload 4)] (by decide +kernel) (Ps := []) (pc' := 21) (lv' := [(0, .ref 23), (1, .ref 1), (2, .int (nI w)), (3, .int (nI (cB (upU V (σ 26) pl w) i))), (4, .int (nI i))]) (st' := [.int (nI i), .int (nI w), .ref 23, .int (nI w), .ref 1]) (σ' := σ) rfl True.intro ?_
        refine rw_callVi hX (as := [.int (nI w), .int (nI i)]) (rest := [.int (nI w), .ref 1]) (c_placeAt _ _ _ w i hw (by omega)) (by decide +kernel) mvX3_placeAt lk3_111 (ci := 2) rfl rfl rfl (by decide) (Nat.le_of_ble_eq_true rfl) rfl ?_
        intro r1 σ1 hr
        rw [hr.1, show r1 = nI (pl i) from hr.2.trans hpi.1]
        clear hr σ1 r1
        refine rw_callVi hX (as := [.int (nI w), .int (nI (pl i))]) (rest := []) (c_byteAt _ _ _ 1 (Or.inl rfl) V hV hv w (pl i) hw hpi.2) (by decide +kernel) mvX5_byteAt lk3_53 (ci := 4) rfl rfl rfl (by decide) (Nat.le_of_ble_eq_true rfl) rfl ?_
        intro r1 σ1 hr
        rw [hr.1, show r1 = V 0 (50 * w + pl i) from hr.2]
        clear hr σ1 r1
        refine rw_go hX [(27, .istore 5), (29, .iload_n 3), (30, .iload 5)] (by decide +kernel) (Ps := []) (pc' := 32) (lv' := [(0, .ref 23), (1, .ref 1), (2, .int (nI w)), (3, .int (nI (cB (upU V (σ 26) pl w) i))), (4, .int (nI i)), (5, .int (V 0 (50 * w + pl i)))]) (st' := [.int (V 0 (50 * w + pl i)), .int (nI (cB (upU V (σ 26) pl w) i))]) (σ' := σ) rfl True.intro ?_
        refine rw_callSi hX (as := [.int (V 0 (50 * w + pl i))]) (rest := [.int (nI (cB (upU V (σ 26) pl w) i))]) (c_X9_isAtoZ _ _ _ (V 0 (50 * w + pl i))) (by decide +kernel) msX9_isAtoZ (Or.inr lk3_114) rfl (by decide) (Nat.le_of_ble_eq_true rfl) rfl ?_
        intro r1 σ1 hr
        rw [hr.1, show r1 = bz (isL (V 0 (50 * w + pl i))) from hr.2]
        clear hr σ1 r1
        refine rw_if hX (tgt := 50) (cnd := .eq) (off := 15) (by decide +kernel) (by decide) (fun h35 => ?_) (fun h35 => ?_)
        · replace h35 := zb_eqT h35
          have hup : upU V (σ 26) pl w i = true := by unfold upU; rw [h35]; rfl
          refine rw_go hX [(50, .iconst 1), (51, .goto 4)] (by decide +kernel) (Ps := []) (pc' := 55) (lv' := [(0, .ref 23), (1, .ref 1), (2, .int (nI w)), (3, .int (nI (cB (upU V (σ 26) pl w) i))), (4, .int (nI i)), (5, .int (V 0 (50 * w + pl i)))]) (st' := [.int (nI 1), .int (nI (cB (upU V (σ 26) pl w) i))]) (σ' := σ) rfl True.intro ?_
          refine rw_callSi hX (as := [.int (nI 1)]) (rest := [.int (nI (cB (upU V (σ 26) pl w) i))]) (c_X9_asNumber _ _ _ true) (by decide +kernel) msX9_asNumber (Or.inr lk3_101) rfl (by decide) (Nat.le_of_ble_eq_true rfl) rfl ?_
          intro r1 σ1 hr
          rw [hr.1, show r1 = nI 1 from hr.2]
          clear hr σ1 r1
          refine rw_go hX [(58, .iadd), (59, .istore_n 3), (60, .iinc 4 1), (63, .goto (-58))] (by decide +kernel) (Ps := []) (pc' := 5) (lv' := [(0, .ref 23), (1, .ref 1), (2, .int (nI w)), (3, .int (nI (cB (upU V (σ 26) pl w) i) + nI 1)), (4, .int (nI i + nI 1)), (5, .int (V 0 (50 * w + pl i)))]) (st' := []) (σ' := σ) rfl True.intro ?_
          refine rw_lsub (ks := [0, 1, 2, 3, 4]) (lv' := [(0, .ref 23), (1, .ref 1), (2, .int (nI w)), (3, .int (nI (cB (upU V (σ 26) pl w) i) + nI 1)), (4, .int (nI i + nI 1))]) rfl ?_
          have q := ih5 (L - (i + 1)) (by omega) (i + 1) rfl (by omega)
          rw [cB_y (k := i) hup] at q
          rw [nI_add, nI_add]
          exact q
        · replace h35 := zb_eqF h35
          refine rw_go hX [(38, .iload 5), (40, .aload_n 0), (41, .iload_n 2), (42, .iload 4)] (by decide +kernel) (Ps := []) (pc' := 44) (lv' := [(0, .ref 23), (1, .ref 1), (2, .int (nI w)), (3, .int (nI (cB (upU V (σ 26) pl w) i))), (4, .int (nI i)), (5, .int (V 0 (50 * w + pl i)))]) (st' := [.int (nI i), .int (nI w), .ref 23, .int (V 0 (50 * w + pl i)), .int (nI (cB (upU V (σ 26) pl w) i))]) (σ' := σ) rfl True.intro ?_
          refine rw_callVi hX (as := [.int (nI w), .int (nI i)]) (rest := [.int (V 0 (50 * w + pl i)), .int (nI (cB (upU V (σ 26) pl w) i))]) (c_tellAt _ _ _ w i hw (by omega)) (by decide +kernel) mvX3_tellAt lk3_76 (ci := 2) rfl rfl rfl (by decide) (Nat.le_of_ble_eq_true rfl) rfl ?_
          intro r1 σ1 hr
          rw [hr.1, show r1 = σ 26 (50 * w + i) from hr.2]
          clear hr σ1 r1
          refine rw_icmp hX (tgt := 54) (cnd := .eq) (off := 7) (by decide +kernel) (by decide) (fun h47 => ?_) (fun h47 => ?_)
          · replace h47 : (V 0 (50 * w + pl i) = σ 26 (50 * w + i)) := h47
            have hup : upU V (σ 26) pl w i = false := by unfold upU; rw [h35, h47, decide_eq_false (fun z => z rfl)]; rfl
            refine rw_go hX [(54, .iconst 0)] (by decide +kernel) (Ps := []) (pc' := 55) (lv' := [(0, .ref 23), (1, .ref 1), (2, .int (nI w)), (3, .int (nI (cB (upU V (σ 26) pl w) i))), (4, .int (nI i)), (5, .int (V 0 (50 * w + pl i)))]) (st' := [.int (nI 0), .int (nI (cB (upU V (σ 26) pl w) i))]) (σ' := σ) rfl True.intro ?_
            refine rw_callSi hX (as := [.int (nI 0)]) (rest := [.int (nI (cB (upU V (σ 26) pl w) i))]) (c_X9_asNumber _ _ _ false) (by decide +kernel) msX9_asNumber (Or.inr lk3_101) rfl (by decide) (Nat.le_of_ble_eq_true rfl) rfl ?_
            intro r1 σ1 hr
            rw [hr.1, show r1 = nI 0 from hr.2]
            clear hr σ1 r1
            refine rw_go hX [(58, .iadd), (59, .istore_n 3), (60, .iinc 4 1), (63, .goto (-58))] (by decide +kernel) (Ps := []) (pc' := 5) (lv' := [(0, .ref 23), (1, .ref 1), (2, .int (nI w)), (3, .int (nI (cB (upU V (σ 26) pl w) i) + nI 0)), (4, .int (nI i + nI 1)), (5, .int (V 0 (50 * w + pl i)))]) (st' := []) (σ' := σ) rfl True.intro ?_
            refine rw_lsub (ks := [0, 1, 2, 3, 4]) (lv' := [(0, .ref 23), (1, .ref 1), (2, .int (nI w)), (3, .int (nI (cB (upU V (σ 26) pl w) i) + nI 0)), (4, .int (nI i + nI 1))]) rfl ?_
            have q := ih5 (L - (i + 1)) (by omega) (i + 1) rfl (by omega)
            rw [cB_n (k := i) hup] at q
            rw [nI_add, nI_add, Nat.add_zero]
            exact q
          · replace h47 : ¬ (V 0 (50 * w + pl i) = σ 26 (50 * w + i)) := h47
            have hup : upU V (σ 26) pl w i = true := by unfold upU; rw [h35, decide_eq_true h47]; rfl
            refine rw_go hX [(50, .iconst 1), (51, .goto 4)] (by decide +kernel) (Ps := []) (pc' := 55) (lv' := [(0, .ref 23), (1, .ref 1), (2, .int (nI w)), (3, .int (nI (cB (upU V (σ 26) pl w) i))), (4, .int (nI i)), (5, .int (V 0 (50 * w + pl i)))]) (st' := [.int (nI 1), .int (nI (cB (upU V (σ 26) pl w) i))]) (σ' := σ) rfl True.intro ?_
            refine rw_callSi hX (as := [.int (nI 1)]) (rest := [.int (nI (cB (upU V (σ 26) pl w) i))]) (c_X9_asNumber _ _ _ true) (by decide +kernel) msX9_asNumber (Or.inr lk3_101) rfl (by decide) (Nat.le_of_ble_eq_true rfl) rfl ?_
            intro r1 σ1 hr
            rw [hr.1, show r1 = nI 1 from hr.2]
            clear hr σ1 r1
            refine rw_go hX [(58, .iadd), (59, .istore_n 3), (60, .iinc 4 1), (63, .goto (-58))] (by decide +kernel) (Ps := []) (pc' := 5) (lv' := [(0, .ref 23), (1, .ref 1), (2, .int (nI w)), (3, .int (nI (cB (upU V (σ 26) pl w) i) + nI 1)), (4, .int (nI i + nI 1)), (5, .int (V 0 (50 * w + pl i)))]) (st' := []) (σ' := σ) rfl True.intro ?_
            refine rw_lsub (ks := [0, 1, 2, 3, 4]) (lv' := [(0, .ref 23), (1, .ref 1), (2, .int (nI w)), (3, .int (nI (cB (upU V (σ 26) pl w) i) + nI 1)), (4, .int (nI i + nI 1))]) rfl ?_
            have q := ih5 (L - (i + 1)) (by omega) (i + 1) rfl (by omega)
            rw [cB_y (k := i) hup] at q
            rw [nI_add, nI_add]
            exact q
  refine rw_lsub (ks := [0, 1, 2, 3, 4]) (lv' := [(0, .ref 23), (1, .ref 1), (2, .int (nI w)), (3, .int (nI 0)), (4, .int (nI 0))]) rfl ?_
  exact L5 L 0 rfl (by omega)
set_option maxRecDepth 20000 in
set_option maxHeartbeats 4000000 in
theorem c_printsOfAll (l : Launch) (G : Gl) (σ : Mm) (n : Nat → Nat) (hg : ∀ w, w < 5 → σ 25 w = nI (n w) ∧ n w ≤ 50) : AMi l G 4 mX3_printsOfAll [.ref 23] σ (fun r σ' => σ' = σ ∧ r = nI (sN (fun w => pC (σ 30) w (n w)) 5)) := by
  refine rw_inI 3 (by decide +kernel) rfl rfl ?_
  intro E hE hX
  subst hE
  refine rw_go hX [(0, .iconst 0), (1, .istore_n 1), (2, .iconst 0), (3, .istore_n 2)] (by decide +kernel) (Ps := []) (pc' := 4) (lv' := [(0, .ref 23), (1, .int (nI 0)), (2, .int (nI 0))]) (st' := []) (σ' := σ) rfl True.intro ?_
  have L4 : ∀ (μ4 : Nat) (w : Nat), μ4 = 5 - w → (w ≤ 5) → RW E G 4 3 (QI E G (fun r σ' => σ' = σ ∧ r = nI (sN (fun w => pC (σ 30) w (n w)) 5))) 4 [(0, .ref 23), (1, .int (nI (sN (fun w => pC (σ 30) w (n w)) w))), (2, .int (nI w))] [] σ := by
    intro μ4
    induction μ4 using Nat.strongRecOn with
    | ind μ4 ih4 =>
      intro w hμ4 hw
      refine rw_go hX [(4, .iload_n 2), (5, .iconst 5)] (by decide +kernel) (Ps := []) (pc' := 6) (lv' := [(0, .ref 23), (1, .int (nI (sN (fun w => pC (σ 30) w (n w)) w))), (2, .int (nI w))]) (st' := [.int (nI 5), .int (nI w)]) (σ' := σ) rfl True.intro ?_
      refine rw_icmp hX (tgt := 23) (cnd := .ge) (off := 17) (by decide +kernel) (by decide) (fun h6 => ?_) (fun h6 => ?_)
      · replace h6 := c2_geT h6
        have e : w = 5 := by omega
        refine rw_go hX [(23, .iload_n 1)] (by decide +kernel) (Ps := []) (pc' := 24) (lv' := [(0, .ref 23), (1, .int (nI (sN (fun w => pC (σ 30) w (n w)) w))), (2, .int (nI w))]) (st' := [.int (nI (sN (fun w => pC (σ 30) w (n w)) w))]) (σ' := σ) rfl True.intro ?_
        exact rw_iret hX (by decide +kernel) (⟨rfl, by rw [e]⟩)
      · replace h6 := c2_geF h6
        have hgw := hg w h6
        refine rw_go hX [(9, .iload_n 1), (10, .aload_n 0), (11, .iload_n 2)] (by decide +kernel) (Ps := []) (pc' := 12) (lv' := [(0, .ref 23), (1, .int (nI (sN (fun w => pC (σ 30) w (n w)) w))), (2, .int (nI w))]) (st' := [.int (nI w), .ref 23, .int (nI (sN (fun w => pC (σ 30) w (n w)) w))]) (σ' := σ) rfl True.intro ?_
        refine rw_callVi hX (as := [.int (nI w)]) (rest := [.int (nI (sN (fun w => pC (σ 30) w (n w)) w))]) (c_printCount _ _ _ w (n w) h6 hgw.1 hgw.2) (by decide +kernel) mvX3_printCount lk3_105 (ci := 2) rfl rfl rfl (by decide) (Nat.le_of_ble_eq_true rfl) rfl ?_
        intro r1 σ1 hr
        rw [hr.1, show r1 = nI (pC (σ 30) w (n w)) from hr.2]
        clear hr σ1 r1
        refine rw_go hX [(15, .iadd), (16, .istore_n 1), (17, .iinc 2 1), (20, .goto (-16))] (by decide +kernel) (Ps := []) (pc' := 4) (lv' := [(0, .ref 23), (1, .int (nI (sN (fun w => pC (σ 30) w (n w)) w) + nI (pC (σ 30) w (n w)))), (2, .int (nI w + nI 1))]) (st' := []) (σ' := σ) rfl True.intro ?_
        refine rw_lsub (ks := [0, 1, 2]) (lv' := [(0, .ref 23), (1, .int (nI (sN (fun w => pC (σ 30) w (n w)) w) + nI (pC (σ 30) w (n w)))), (2, .int (nI w + nI 1))]) rfl ?_
        have q := ih4 (5 - (w + 1)) (by omega) (w + 1) rfl (by omega)
        rw [sN_1] at q
        rw [nI_add, nI_add]
        exact q
  refine rw_lsub (ks := [0, 1, 2]) (lv' := [(0, .ref 23), (1, .int (nI 0)), (2, .int (nI 0))]) rfl ?_
  exact L4 5 0 rfl (by omega)
set_option maxRecDepth 20000 in
set_option maxHeartbeats 4000000 in
theorem c_flaggedByBoth (l : Launch) (G : Gl) (σ : Mm) (F : Nat) (hF : σ 31 0 = nI F) (hF2 : F ≤ 250) : AMi l G 2 mX0_flaggedByBoth [.ref 31] σ (fun r σ' => σ' = σ ∧ r = nI (cB (fB3 σ) F)) := by
  refine rw_inI 0 (by decide +kernel) rfl rfl ?_
  intro E hE hX
  subst hE
  refine rw_go hX [(0, .iconst 0), (1, .istore_n 1), (2, .iconst 0), (3, .istore_n 2)] (by decide +kernel) (Ps := []) (pc' := 4) (lv' := [(0, .ref 31), (1, .int (nI 0)), (2, .int (nI 0))]) (st' := []) (σ' := σ) rfl True.intro ?_
  have L4 : ∀ (μ4 : Nat) (i : Nat), μ4 = F - i → (i ≤ F) → RW E G 2 3 (QI E G (fun r σ' => σ' = σ ∧ r = nI (cB (fB3 σ) F))) 4 [(0, .ref 31), (1, .int (nI (cB (fB3 σ) i))), (2, .int (nI i))] [] σ := by
    intro μ4
    induction μ4 using Nat.strongRecOn with
    | ind μ4 ih4 =>
      intro i hμ4 hi
      refine rw_go hX [(4, .iload_n 2), (5, .aload_n 0), (6, .getfield 9)] (by decide +kernel) (Ps := []) (pc' := 9) (lv' := [(0, .ref 31), (1, .int (nI (cB (fB3 σ) i))), (2, .int (nI i))]) (st' := [.int (σ 31 0), .int (nI i)]) (σ' := σ) rfl True.intro ?_
      rw [show (σ 31 0) = nI F from (by rw [hF])]
      refine rw_icmp hX (tgt := 54) (cnd := .ge) (off := 45) (by decide +kernel) (by decide) (fun h9 => ?_) (fun h9 => ?_)
      · replace h9 := c2_geT h9
        have e : i = F := by omega
        refine rw_go hX [(54, .iload_n 1)] (by decide +kernel) (Ps := []) (pc' := 55) (lv' := [(0, .ref 31), (1, .int (nI (cB (fB3 σ) i))), (2, .int (nI i))]) (st' := [.int (nI (cB (fB3 σ) i))]) (σ' := σ) rfl True.intro ?_
        exact rw_iret hX (by decide +kernel) (⟨rfl, by rw [e]⟩)
      · replace h9 := c2_geF h9
        refine rw_go hX [(12, .iload_n 2), (13, .sipush 250)] (by decide +kernel) (Ps := []) (pc' := 16) (lv' := [(0, .ref 31), (1, .int (nI (cB (fB3 σ) i))), (2, .int (nI i))]) (st' := [.int (nI 250), .int (nI i)]) (σ' := σ) rfl True.intro ?_
        refine rw_icmp hX (tgt := 54) (cnd := .ge) (off := 38) (by decide +kernel) (by decide) (fun h16 => ?_) (fun h16 => ?_)
        · replace h16 := c2_geT h16
          omega
        · replace h16 := c2_geF h16
          refine rw_go hX [(19, .iload_n 1), (20, .aload_n 0), (21, .getfield 31), (24, .iload_n 2), (25, .iaload)] (by decide +kernel) (Ps := [vp_in (nI i) 250]) (pc' := 26) (lv' := [(0, .ref 31), (1, .int (nI (cB (fB3 σ) i))), (2, .int (nI i))]) (st' := [.int (σ 37 (nI i).toNatClampNeg), .int (nI (cB (fB3 σ) i))]) (σ' := σ) rfl (vp_in_nI (by omega) (by omega)) ?_
          rw [show (σ 37 (nI i).toNatClampNeg) = σ 37 i from (by rw [nI_clamp (by omega)])]
          refine rw_go hX [(26, .iconst 3)] (by decide +kernel) (Ps := []) (pc' := 27) (lv' := [(0, .ref 31), (1, .int (nI (cB (fB3 σ) i))), (2, .int (nI i))]) (st' := [.int (nI 3), .int (σ 37 i), .int (nI (cB (fB3 σ) i))]) (σ' := σ) rfl True.intro ?_
          refine rw_icmp hX (tgt := 42) (cnd := .ne) (off := 15) (by decide +kernel) (by decide) (fun h27 => ?_) (fun h27 => ?_)
          · replace h27 : (σ 37 i ≠ nI 3) := h27
            have hup : fB3 σ i = false := by unfold fB3; rw [decide_eq_false h27]; rfl
            refine rw_go hX [(42, .iconst 0)] (by decide +kernel) (Ps := []) (pc' := 43) (lv' := [(0, .ref 31), (1, .int (nI (cB (fB3 σ) i))), (2, .int (nI i))]) (st' := [.int (nI 0), .int (nI (cB (fB3 σ) i))]) (σ' := σ) rfl True.intro ?_
            refine rw_callSi hX (as := [.int (nI 0)]) (rest := [.int (nI (cB (fB3 σ) i))]) (c_X9_asNumber _ _ _ false) (by decide +kernel) msX9_asNumber (Or.inr lk0_89) rfl (by decide) (Nat.le_of_ble_eq_true rfl) rfl ?_
            intro r1 σ1 hr
            rw [hr.1, show r1 = nI 0 from hr.2]
            clear hr σ1 r1
            refine rw_go hX [(46, .iadd), (47, .istore_n 1), (48, .iinc 2 1), (51, .goto (-47))] (by decide +kernel) (Ps := []) (pc' := 4) (lv' := [(0, .ref 31), (1, .int (nI (cB (fB3 σ) i) + nI 0)), (2, .int (nI i + nI 1))]) (st' := []) (σ' := σ) rfl True.intro ?_
            refine rw_lsub (ks := [0, 1, 2]) (lv' := [(0, .ref 31), (1, .int (nI (cB (fB3 σ) i) + nI 0)), (2, .int (nI i + nI 1))]) rfl ?_
            have q := ih4 (F - (i + 1)) (by omega) (i + 1) rfl (by omega)
            rw [cB_n (k := i) hup] at q
            rw [nI_add, nI_add, Nat.add_zero]
            exact q
          · replace h27 : ¬ (σ 37 i ≠ nI 3) := h27
            have hy : decide (σ 37 i = nI 3) = true := decide_eq_true (Classical.not_not.mp h27)
            refine rw_go hX [(30, .aload_n 0), (31, .iload_n 2)] (by decide +kernel) (Ps := []) (pc' := 32) (lv' := [(0, .ref 31), (1, .int (nI (cB (fB3 σ) i))), (2, .int (nI i))]) (st' := [.int (nI i), .ref 31, .int (nI (cB (fB3 σ) i))]) (σ' := σ) rfl True.intro ?_
            refine rw_callVi hX (as := [.int (nI i)]) (rest := [.int (nI (cB (fB3 σ) i))]) (c_isCommon _ _ _ i F hF hF2 h9) (by decide +kernel) mvX0_isCommon lk0_86 (ci := 0) rfl rfl rfl (by decide) (Nat.le_of_ble_eq_true rfl) rfl ?_
            intro r1 σ1 hr
            rw [hr.1, show r1 = bz (decide (σ 35 i ≥ σ 31 8) || decide (σ 38 i ≠ 0)) from hr.2]
            clear hr σ1 r1
            refine rw_if hX (tgt := 42) (cnd := .ne) (off := 7) (by decide +kernel) (by decide) (fun h35 => ?_) (fun h35 => ?_)
            · replace h35 := zb_neT h35
              have hup : fB3 σ i = false := by unfold fB3; rw [h35]; exact Bool.and_false _
              refine rw_go hX [(42, .iconst 0)] (by decide +kernel) (Ps := []) (pc' := 43) (lv' := [(0, .ref 31), (1, .int (nI (cB (fB3 σ) i))), (2, .int (nI i))]) (st' := [.int (nI 0), .int (nI (cB (fB3 σ) i))]) (σ' := σ) rfl True.intro ?_
              refine rw_callSi hX (as := [.int (nI 0)]) (rest := [.int (nI (cB (fB3 σ) i))]) (c_X9_asNumber _ _ _ false) (by decide +kernel) msX9_asNumber (Or.inr lk0_89) rfl (by decide) (Nat.le_of_ble_eq_true rfl) rfl ?_
              intro r1 σ1 hr
              rw [hr.1, show r1 = nI 0 from hr.2]
              clear hr σ1 r1
              refine rw_go hX [(46, .iadd), (47, .istore_n 1), (48, .iinc 2 1), (51, .goto (-47))] (by decide +kernel) (Ps := []) (pc' := 4) (lv' := [(0, .ref 31), (1, .int (nI (cB (fB3 σ) i) + nI 0)), (2, .int (nI i + nI 1))]) (st' := []) (σ' := σ) rfl True.intro ?_
              refine rw_lsub (ks := [0, 1, 2]) (lv' := [(0, .ref 31), (1, .int (nI (cB (fB3 σ) i) + nI 0)), (2, .int (nI i + nI 1))]) rfl ?_
              have q := ih4 (F - (i + 1)) (by omega) (i + 1) rfl (by omega)
              rw [cB_n (k := i) hup] at q
              rw [nI_add, nI_add, Nat.add_zero]
              exact q
            · replace h35 := zb_neF h35
              have hup : fB3 σ i = true := by unfold fB3; rw [h35, hy]; rfl
              refine rw_go hX [(38, .iconst 1), (39, .goto 4)] (by decide +kernel) (Ps := []) (pc' := 43) (lv' := [(0, .ref 31), (1, .int (nI (cB (fB3 σ) i))), (2, .int (nI i))]) (st' := [.int (nI 1), .int (nI (cB (fB3 σ) i))]) (σ' := σ) rfl True.intro ?_
              refine rw_callSi hX (as := [.int (nI 1)]) (rest := [.int (nI (cB (fB3 σ) i))]) (c_X9_asNumber _ _ _ true) (by decide +kernel) msX9_asNumber (Or.inr lk0_89) rfl (by decide) (Nat.le_of_ble_eq_true rfl) rfl ?_
              intro r1 σ1 hr
              rw [hr.1, show r1 = nI 1 from hr.2]
              clear hr σ1 r1
              refine rw_go hX [(46, .iadd), (47, .istore_n 1), (48, .iinc 2 1), (51, .goto (-47))] (by decide +kernel) (Ps := []) (pc' := 4) (lv' := [(0, .ref 31), (1, .int (nI (cB (fB3 σ) i) + nI 1)), (2, .int (nI i + nI 1))]) (st' := []) (σ' := σ) rfl True.intro ?_
              refine rw_lsub (ks := [0, 1, 2]) (lv' := [(0, .ref 31), (1, .int (nI (cB (fB3 σ) i) + nI 1)), (2, .int (nI i + nI 1))]) rfl ?_
              have q := ih4 (F - (i + 1)) (by omega) (i + 1) rfl (by omega)
              rw [cB_y (k := i) hup] at q
              rw [nI_add, nI_add]
              exact q
  refine rw_lsub (ks := [0, 1, 2]) (lv' := [(0, .ref 31), (1, .int (nI 0)), (2, .int (nI 0))]) rfl ?_
  exact L4 F 0 rfl (by omega)
set_option maxRecDepth 20000 in
set_option maxHeartbeats 4000000 in
theorem c_flaggedByAny (l : Launch) (G : Gl) (σ : Mm) (F : Nat) (hF : σ 31 0 = nI F) (hF2 : F ≤ 250) : AMi l G 2 mX0_flaggedByAny [.ref 31] σ (fun r σ' => σ' = σ ∧ r = nI (cB (fB0 σ) F)) := by
  refine rw_inI 0 (by decide +kernel) rfl rfl ?_
  intro E hE hX
  subst hE
  refine rw_go hX [(0, .iconst 0), (1, .istore_n 1), (2, .iconst 0), (3, .istore_n 2)] (by decide +kernel) (Ps := []) (pc' := 4) (lv' := [(0, .ref 31), (1, .int (nI 0)), (2, .int (nI 0))]) (st' := []) (σ' := σ) rfl True.intro ?_
  have L4 : ∀ (μ4 : Nat) (i : Nat), μ4 = F - i → (i ≤ F) → RW E G 2 3 (QI E G (fun r σ' => σ' = σ ∧ r = nI (cB (fB0 σ) F))) 4 [(0, .ref 31), (1, .int (nI (cB (fB0 σ) i))), (2, .int (nI i))] [] σ := by
    intro μ4
    induction μ4 using Nat.strongRecOn with
    | ind μ4 ih4 =>
      intro i hμ4 hi
      refine rw_go hX [(4, .iload_n 2), (5, .aload_n 0), (6, .getfield 9)] (by decide +kernel) (Ps := []) (pc' := 9) (lv' := [(0, .ref 31), (1, .int (nI (cB (fB0 σ) i))), (2, .int (nI i))]) (st' := [.int (σ 31 0), .int (nI i)]) (σ' := σ) rfl True.intro ?_
      rw [show (σ 31 0) = nI F from (by rw [hF])]
      refine rw_icmp hX (tgt := 53) (cnd := .ge) (off := 44) (by decide +kernel) (by decide) (fun h9 => ?_) (fun h9 => ?_)
      · replace h9 := c2_geT h9
        have e : i = F := by omega
        refine rw_go hX [(53, .iload_n 1)] (by decide +kernel) (Ps := []) (pc' := 54) (lv' := [(0, .ref 31), (1, .int (nI (cB (fB0 σ) i))), (2, .int (nI i))]) (st' := [.int (nI (cB (fB0 σ) i))]) (σ' := σ) rfl True.intro ?_
        exact rw_iret hX (by decide +kernel) (⟨rfl, by rw [e]⟩)
      · replace h9 := c2_geF h9
        refine rw_go hX [(12, .iload_n 2), (13, .sipush 250)] (by decide +kernel) (Ps := []) (pc' := 16) (lv' := [(0, .ref 31), (1, .int (nI (cB (fB0 σ) i))), (2, .int (nI i))]) (st' := [.int (nI 250), .int (nI i)]) (σ' := σ) rfl True.intro ?_
        refine rw_icmp hX (tgt := 53) (cnd := .ge) (off := 37) (by decide +kernel) (by decide) (fun h16 => ?_) (fun h16 => ?_)
        · replace h16 := c2_geT h16
          omega
        · replace h16 := c2_geF h16
          refine rw_go hX [(19, .iload_n 1), (20, .aload_n 0), (21, .getfield 31), (24, .iload_n 2), (25, .iaload)] (by decide +kernel) (Ps := [vp_in (nI i) 250]) (pc' := 26) (lv' := [(0, .ref 31), (1, .int (nI (cB (fB0 σ) i))), (2, .int (nI i))]) (st' := [.int (σ 37 (nI i).toNatClampNeg), .int (nI (cB (fB0 σ) i))]) (σ' := σ) rfl (vp_in_nI (by omega) (by omega)) ?_
          rw [show (σ 37 (nI i).toNatClampNeg) = σ 37 i from (by rw [nI_clamp (by omega)])]
          refine rw_if hX (tgt := 41) (cnd := .eq) (off := 15) (by decide +kernel) (by decide) (fun h26 => ?_) (fun h26 => ?_)
          · replace h26 : (σ 37 i = 0) := h26
            have hup : fB0 σ i = false := by unfold fB0; rw [decide_eq_false (fun z => z h26)]; rfl
            refine rw_go hX [(41, .iconst 0)] (by decide +kernel) (Ps := []) (pc' := 42) (lv' := [(0, .ref 31), (1, .int (nI (cB (fB0 σ) i))), (2, .int (nI i))]) (st' := [.int (nI 0), .int (nI (cB (fB0 σ) i))]) (σ' := σ) rfl True.intro ?_
            refine rw_callSi hX (as := [.int (nI 0)]) (rest := [.int (nI (cB (fB0 σ) i))]) (c_X9_asNumber _ _ _ false) (by decide +kernel) msX9_asNumber (Or.inr lk0_89) rfl (by decide) (Nat.le_of_ble_eq_true rfl) rfl ?_
            intro r1 σ1 hr
            rw [hr.1, show r1 = nI 0 from hr.2]
            clear hr σ1 r1
            refine rw_go hX [(45, .iadd), (46, .istore_n 1), (47, .iinc 2 1), (50, .goto (-46))] (by decide +kernel) (Ps := []) (pc' := 4) (lv' := [(0, .ref 31), (1, .int (nI (cB (fB0 σ) i) + nI 0)), (2, .int (nI i + nI 1))]) (st' := []) (σ' := σ) rfl True.intro ?_
            refine rw_lsub (ks := [0, 1, 2]) (lv' := [(0, .ref 31), (1, .int (nI (cB (fB0 σ) i) + nI 0)), (2, .int (nI i + nI 1))]) rfl ?_
            have q := ih4 (F - (i + 1)) (by omega) (i + 1) rfl (by omega)
            rw [cB_n (k := i) hup] at q
            rw [nI_add, nI_add, Nat.add_zero]
            exact q
          · replace h26 : ¬ (σ 37 i = 0) := h26
            have hy : decide (σ 37 i ≠ 0) = true := decide_eq_true h26
            refine rw_go hX [(29, .aload_n 0), (30, .iload_n 2)] (by decide +kernel) (Ps := []) (pc' := 31) (lv' := [(0, .ref 31), (1, .int (nI (cB (fB0 σ) i))), (2, .int (nI i))]) (st' := [.int (nI i), .ref 31, .int (nI (cB (fB0 σ) i))]) (σ' := σ) rfl True.intro ?_
            refine rw_callVi hX (as := [.int (nI i)]) (rest := [.int (nI (cB (fB0 σ) i))]) (c_isCommon _ _ _ i F hF hF2 h9) (by decide +kernel) mvX0_isCommon lk0_86 (ci := 0) rfl rfl rfl (by decide) (Nat.le_of_ble_eq_true rfl) rfl ?_
            intro r1 σ1 hr
            rw [hr.1, show r1 = bz (decide (σ 35 i ≥ σ 31 8) || decide (σ 38 i ≠ 0)) from hr.2]
            clear hr σ1 r1
            refine rw_if hX (tgt := 41) (cnd := .ne) (off := 7) (by decide +kernel) (by decide) (fun h34 => ?_) (fun h34 => ?_)
            · replace h34 := zb_neT h34
              have hup : fB0 σ i = false := by unfold fB0; rw [h34]; exact Bool.and_false _
              refine rw_go hX [(41, .iconst 0)] (by decide +kernel) (Ps := []) (pc' := 42) (lv' := [(0, .ref 31), (1, .int (nI (cB (fB0 σ) i))), (2, .int (nI i))]) (st' := [.int (nI 0), .int (nI (cB (fB0 σ) i))]) (σ' := σ) rfl True.intro ?_
              refine rw_callSi hX (as := [.int (nI 0)]) (rest := [.int (nI (cB (fB0 σ) i))]) (c_X9_asNumber _ _ _ false) (by decide +kernel) msX9_asNumber (Or.inr lk0_89) rfl (by decide) (Nat.le_of_ble_eq_true rfl) rfl ?_
              intro r1 σ1 hr
              rw [hr.1, show r1 = nI 0 from hr.2]
              clear hr σ1 r1
              refine rw_go hX [(45, .iadd), (46, .istore_n 1), (47, .iinc 2 1), (50, .goto (-46))] (by decide +kernel) (Ps := []) (pc' := 4) (lv' := [(0, .ref 31), (1, .int (nI (cB (fB0 σ) i) + nI 0)), (2, .int (nI i + nI 1))]) (st' := []) (σ' := σ) rfl True.intro ?_
              refine rw_lsub (ks := [0, 1, 2]) (lv' := [(0, .ref 31), (1, .int (nI (cB (fB0 σ) i) + nI 0)), (2, .int (nI i + nI 1))]) rfl ?_
              have q := ih4 (F - (i + 1)) (by omega) (i + 1) rfl (by omega)
              rw [cB_n (k := i) hup] at q
              rw [nI_add, nI_add, Nat.add_zero]
              exact q
            · replace h34 := zb_neF h34
              have hup : fB0 σ i = true := by unfold fB0; rw [h34, hy]; rfl
              refine rw_go hX [(37, .iconst 1), (38, .goto 4)] (by decide +kernel) (Ps := []) (pc' := 42) (lv' := [(0, .ref 31), (1, .int (nI (cB (fB0 σ) i))), (2, .int (nI i))]) (st' := [.int (nI 1), .int (nI (cB (fB0 σ) i))]) (σ' := σ) rfl True.intro ?_
              refine rw_callSi hX (as := [.int (nI 1)]) (rest := [.int (nI (cB (fB0 σ) i))]) (c_X9_asNumber _ _ _ true) (by decide +kernel) msX9_asNumber (Or.inr lk0_89) rfl (by decide) (Nat.le_of_ble_eq_true rfl) rfl ?_
              intro r1 σ1 hr
              rw [hr.1, show r1 = nI 1 from hr.2]
              clear hr σ1 r1
              refine rw_go hX [(45, .iadd), (46, .istore_n 1), (47, .iinc 2 1), (50, .goto (-46))] (by decide +kernel) (Ps := []) (pc' := 4) (lv' := [(0, .ref 31), (1, .int (nI (cB (fB0 σ) i) + nI 1)), (2, .int (nI i + nI 1))]) (st' := []) (σ' := σ) rfl True.intro ?_
              refine rw_lsub (ks := [0, 1, 2]) (lv' := [(0, .ref 31), (1, .int (nI (cB (fB0 σ) i) + nI 1)), (2, .int (nI i + nI 1))]) rfl ?_
              have q := ih4 (F - (i + 1)) (by omega) (i + 1) rfl (by omega)
              rw [cB_y (k := i) hup] at q
              rw [nI_add, nI_add]
              exact q
  refine rw_lsub (ks := [0, 1, 2]) (lv' := [(0, .ref 31), (1, .int (nI 0)), (2, .int (nI 0))]) rfl ?_
  exact L4 F 0 rfl (by omega)
set_option maxRecDepth 20000 in
set_option maxHeartbeats 4000000 in
theorem c_sumOf (l : Launch) (G : Gl) (σ : Mm) (k : Nat) (f : Nat → Nat) (hk : shapes[k]? = some (.inl (0, 5))) (hf : ∀ w, w < 5 → σ k w = nI (f w) ∧ f w ≤ 50) : AMi l G 0 mX9_sumOf [.ref k] σ (fun r σ' => σ' = σ ∧ r = nI (sN f 5)) := by
  refine rw_inI 9 (by decide +kernel) rfl rfl ?_
  intro E hE hX
  subst hE
  refine rw_go hX [(0, .iconst 0), (1, .istore_n 1), (2, .aload_n 0), (3, .astore_n 2), (4, .aload_n 2)] (by decide +kernel) (Ps := []) (pc' := 5) (lv' := [(0, .ref k), (1, .int (nI 0)), (2, .ref k)]) (st' := [.ref k]) (σ' := σ) rfl True.intro ?_
  refine rw_alenS hX hk (by decide +kernel) ?_
  refine rw_go hX [(6, .istore_n 3), (7, .iconst 0), (8, .istore 4)] (by decide +kernel) (Ps := []) (pc' := 10) (lv' := [(0, .ref k), (1, .int (nI 0)), (2, .ref k), (3, .int (nI 5)), (4, .int (nI 0))]) (st' := []) (σ' := σ) rfl True.intro ?_
  have L10 : ∀ (μ10 : Nat) (w : Nat), μ10 = 5 - w → (w ≤ 5) → RW E G 0 6 (QI E G (fun r σ' => σ' = σ ∧ r = nI (sN f 5))) 10 [(0, .ref k), (1, .int (nI (sN f w))), (2, .ref k), (3, .int (nI 5)), (4, .int (nI w))] [] σ := by
    intro μ10
    induction μ10 using Nat.strongRecOn with
    | ind μ10 ih10 =>
      intro w hμ10 hw
      refine rw_go hX [(10, .iload 4), (12, .iload_n 3)] (by decide +kernel) (Ps := []) (pc' := 13) (lv' := [(0, .ref k), (1, .int (nI (sN f w))), (2, .ref k), (3, .int (nI 5)), (4, .int (nI w))]) (st' := [.int (nI 5), .int (nI w)]) (σ' := σ) rfl True.intro ?_
      refine rw_icmp hX (tgt := 33) (cnd := .ge) (off := 20) (by decide +kernel) (by decide) (fun h13 => ?_) (fun h13 => ?_)
      · replace h13 := c2_geT h13
        have e : w = 5 := by omega
        refine rw_go hX [(33, .iload_n 1)] (by decide +kernel) (Ps := []) (pc' := 34) (lv' := [(0, .ref k), (1, .int (nI (sN f w))), (2, .ref k), (3, .int (nI 5)), (4, .int (nI w))]) (st' := [.int (nI (sN f w))]) (σ' := σ) rfl True.intro ?_
        exact rw_iret hX (by decide +kernel) (⟨rfl, by rw [e]⟩)
      · replace h13 := c2_geF h13
        refine rw_go hX [(16, .aload_n 2), (17, .iload 4)] (by decide +kernel) (Ps := []) (pc' := 19) (lv' := [(0, .ref k), (1, .int (nI (sN f w))), (2, .ref k), (3, .int (nI 5)), (4, .int (nI w))]) (st' := [.int (nI w), .ref k]) (σ' := σ) rfl True.intro ?_
        refine rw_ialdS hX hk (by decide +kernel) (vp_in_nI (by omega) (by omega)) ?_
        rw [show (σ k (nI w).toNatClampNeg) = nI (f w) from (by rw [nI_clamp (by omega)]; exact (hf w h13).1)]
        refine rw_go hX [(20, .istore 5), (22, .iload_n 1), (23, .iload 5), (25, .iadd), (26, .istore_n 1), (27, .iinc 4 1), (30, .goto (-20))] (by decide +kernel) (Ps := []) (pc' := 10) (lv' := [(0, .ref k), (1, .int (nI (sN f w) + nI (f w))), (2, .ref k), (3, .int (nI 5)), (4, .int (nI w + nI 1)), (5, .int (nI (f w)))]) (st' := []) (σ' := σ) rfl True.intro ?_
        refine rw_lsub (ks := [0, 1, 2, 3, 4]) (lv' := [(0, .ref k), (1, .int (nI (sN f w) + nI (f w))), (2, .ref k), (3, .int (nI 5)), (4, .int (nI w + nI 1))]) rfl ?_
        have q := ih10 (5 - (w + 1)) (by omega) (w + 1) rfl (by omega)
        rw [sN_1] at q
        rw [nI_add, nI_add]
        exact q
  refine rw_lsub (ks := [0, 1, 2, 3, 4]) (lv' := [(0, .ref k), (1, .int (nI 0)), (2, .ref k), (3, .int (nI 5)), (4, .int (nI 0))]) rfl ?_
  exact L10 5 0 rfl (by omega)
set_option maxRecDepth 20000 in
set_option maxHeartbeats 4000000 in
theorem c_isUnder (l : Launch) (G : Gl) (σ : Mm) (i k : Nat) (hi : i < 6) (hk : k < 6) : AMi l G 1 mX9_isUnder [.int (nI i), .int (nI k)] σ (fun r σ' => σ' = σ ∧ r = bz (undK i k)) := by
  refine rw_inI 9 (by decide +kernel) rfl rfl ?_
  intro E hE hX
  subst hE
  refine rw_go hX [(0, .iload_n 0), (1, .istore_n 2), (2, .iconst 0), (3, .istore_n 3)] (by decide +kernel) (Ps := []) (pc' := 4) (lv' := [(0, .int (nI i)), (1, .int (nI k)), (2, .int (nI i)), (3, .int (nI 0))]) (st' := []) (σ' := σ) rfl True.intro ?_
  have L4 : ∀ (μ4 : Nat) (s u : Nat) (x : Option Nat), μ4 = u → (s + u = 6) → (∀ v, x = some v → v < 6) → (und k u x = undK i k) → RW E G 1 4 (QI E G (fun r σ' => σ' = σ ∧ r = bz (undK i k))) 4 [(0, .int (nI i)), (1, .int (nI k)), (2, .int (en x)), (3, .int (nI s))] [] σ := by
    intro μ4
    induction μ4 using Nat.strongRecOn with
    | ind μ4 ih4 =>
      intro s u x hμ4 hsu hx hu
      refine rw_go hX [(4, .iload_n 3), (5, .bipush 6)] (by decide +kernel) (Ps := []) (pc' := 7) (lv' := [(0, .int (nI i)), (1, .int (nI k)), (2, .int (en x)), (3, .int (nI s))]) (st' := [.int (nI 6), .int (nI s)]) (σ' := σ) rfl True.intro ?_
      refine rw_icmp hX (tgt := 36) (cnd := .ge) (off := 29) (by decide +kernel) (by decide) (fun h7 => ?_) (fun h7 => ?_)
      · replace h7 := c2_geT h7
        have e : u = 0 := by omega
        refine rw_go hX [(36, .iconst 0)] (by decide +kernel) (Ps := []) (pc' := 37) (lv' := [(0, .int (nI i)), (1, .int (nI k)), (2, .int (en x)), (3, .int (nI s))]) (st' := [.int (nI 0)]) (σ' := σ) rfl True.intro ?_
        exact rw_zret hX (by decide +kernel) (by first | exact Or.inl rfl | exact Or.inr rfl) (⟨rfl, by first | (rw [e]; rfl) | (rw [← hu, e]; rfl)⟩)
      · replace h7 := c2_geF h7
        refine rw_go hX [(10, .iload_n 2)] (by decide +kernel) (Ps := []) (pc' := 11) (lv' := [(0, .int (nI i)), (1, .int (nI k)), (2, .int (en x)), (3, .int (nI s))]) (st' := [.int (en x)]) (σ' := σ) rfl True.intro ?_
        refine rw_callSi hX (as := [.int (en x)]) (rest := []) (c_X9_isKind _ _ _ (en x)) (by decide +kernel) msX9_isKind (Or.inl lk9_59) rfl (by decide) (Nat.le_of_ble_eq_true rfl) rfl ?_
        intro r1 σ1 hr
        rw [hr.1, show r1 = bz (x.isSome) from hr.2.trans (by rw [isK_en hx])]
        clear hr σ1 r1
        refine rw_if hX (tgt := 36) (cnd := .eq) (off := 22) (by decide +kernel) (by decide) (fun h14 => ?_) (fun h14 => ?_)
        · replace h14 := zb_eqT h14
          have hxn : x = none := by
            cases hz : x with
            | none => rfl
            | some v => rw [hz] at h14; cases h14
          have e : undK i k = false := by
            rw [← hu, hxn]
            cases u with
            | zero => rfl
            | succ u => rfl
          refine rw_go hX [(36, .iconst 0)] (by decide +kernel) (Ps := []) (pc' := 37) (lv' := [(0, .int (nI i)), (1, .int (nI k)), (2, .int (en x)), (3, .int (nI s))]) (st' := [.int (nI 0)]) (σ' := σ) rfl True.intro ?_
          exact rw_zret hX (by decide +kernel) (by first | exact Or.inl rfl | exact Or.inr rfl) (⟨rfl, by first | (rw [e]; rfl) | (rw [← hu, e]; rfl)⟩)
        · replace h14 := zb_eqF h14
          obtain ⟨v, hxw⟩ : ∃ v, x = some v := by
            cases hz : x with
            | none => rw [hz] at h14; cases h14
            | some v => exact ⟨v, rfl⟩
          have hv6 := hx v hxw
          rw [show en x = nI v from by rw [hxw]; rfl]
          refine rw_go hX [(17, .iload_n 2), (18, .iload_n 1)] (by decide +kernel) (Ps := []) (pc' := 19) (lv' := [(0, .int (nI i)), (1, .int (nI k)), (2, .int (nI v)), (3, .int (nI s))]) (st' := [.int (nI k), .int (nI v)]) (σ' := σ) rfl True.intro ?_
          refine rw_icmp hX (tgt := 24) (cnd := .ne) (off := 5) (by decide +kernel) (by decide) (fun h19 => ?_) (fun h19 => ?_)
          · replace h19 := c2_neT h19
            refine rw_go hX [(24, .getstatic 317), (27, .iload_n 2), (28, .iaload)] (by decide +kernel) (Ps := [vp_in (nI v) 6]) (pc' := 29) (lv' := [(0, .int (nI i)), (1, .int (nI k)), (2, .int (nI v)), (3, .int (nI s))]) (st' := [.int ((stL 0).getD (nI v).toNatClampNeg 0)]) (σ' := σ) rfl (vp_in_nI (by omega) (by omega)) ?_
            rw [show ((stL 0).getD (nI v).toNatClampNeg 0) = en (ovL v) from stL_ov hv6]
            refine rw_go hX [(29, .istore_n 2), (30, .iinc 3 1), (33, .goto (-29))] (by decide +kernel) (Ps := []) (pc' := 4) (lv' := [(0, .int (nI i)), (1, .int (nI k)), (2, .int (en (ovL v))), (3, .int (nI s + nI 1))]) (st' := []) (σ' := σ) rfl True.intro ?_
            refine rw_lsub (ks := [0, 1, 2, 3]) (lv' := [(0, .int (nI i)), (1, .int (nI k)), (2, .int (en (ovL v))), (3, .int (nI s + nI 1))]) rfl ?_
            obtain ⟨u, rfl⟩ : ∃ u2, u = u2 + 1 := ⟨u - 1, by omega⟩
            subst hxw
            rw [und_s, if_neg h19] at hu
            rw [nI_add]
            exact ih4 u (by omega) (s + 1) u (ovL v) rfl (by omega) (fun y hy => ovL_6 hv6 hy) hu
          · replace h19 := c2_neF h19
            have e : undK i k = true := by
              rw [← hu, hxw]
              cases u with
              | zero => omega
              | succ u => rw [und_s, if_pos (Classical.not_not.mp (fun z => z h19))]
            refine rw_go hX [(22, .iconst 1)] (by decide +kernel) (Ps := []) (pc' := 23) (lv' := [(0, .int (nI i)), (1, .int (nI k)), (2, .int (nI v)), (3, .int (nI s))]) (st' := [.int (nI 1)]) (σ' := σ) rfl True.intro ?_
            exact rw_zret hX (by decide +kernel) (by first | exact Or.inl rfl | exact Or.inr rfl) (⟨rfl, by rw [e]; rfl⟩)
  refine rw_lsub (ks := [0, 1, 2, 3]) (lv' := [(0, .int (nI i)), (1, .int (nI k)), (2, .int (nI i)), (3, .int (nI 0))]) rfl ?_
  exact L4 6 0 6 (some i) rfl rfl (fun v hv => by cases hv; exact hi) (und_K i hi k hk)
set_option maxRecDepth 20000 in
set_option maxHeartbeats 4000000 in
theorem c_lowest (l : Launch) (G : Gl) (σ : Mm) (a b p : Nat) (ha : a ≤ 250) (hb : b ≤ 250) (hp : p < 2) : AMi l G 0 mX9_inLowestTerms [.int (nI a), .int (nI b), .int (nI p)] σ (fun r σ' => σ' = σ ∧ r = nI (lowT a b p)) := by
  refine rw_inI 9 (by decide +kernel) rfl rfl ?_
  intro E hE hX
  subst hE
  refine rw_go hX [(0, .iload_n 0)] (by decide +kernel) (Ps := []) (pc' := 1) (lv' := [(0, .int (nI a)), (1, .int (nI b)), (2, .int (nI p))]) (st' := [.int (nI a)]) (σ' := σ) rfl True.intro ?_
  refine rw_if hX (tgt := 8) (cnd := .le) (off := 7) (by decide +kernel) (by decide) (fun h1 => ?_) (fun h1 => ?_)
  · replace h1 := zn_leT h1
    have hab : a = 0 ∨ b = 0 := Or.inl h1
    refine rw_go hX [(8, .iload_n 2)] (by decide +kernel) (Ps := []) (pc' := 9) (lv' := [(0, .int (nI a)), (1, .int (nI b)), (2, .int (nI p))]) (st' := [.int (nI p)]) (σ' := σ) rfl True.intro ?_
    refine rw_if hX (tgt := 16) (cnd := .ne) (off := 7) (by decide +kernel) (by decide) (fun h9 => ?_) (fun h9 => ?_)
    · replace h9 := zn_neT h9
      refine rw_go hX [(16, .iconst 1)] (by decide +kernel) (Ps := []) (pc' := 17) (lv' := [(0, .int (nI a)), (1, .int (nI b)), (2, .int (nI p))]) (st' := [.int (nI 1)]) (σ' := σ) rfl True.intro ?_
      exact rw_iret hX (by decide +kernel) (⟨rfl, by
  unfold lowT
  first
  | (rw [if_pos hab, if_pos h9])
  | (rw [if_pos hab, if_neg (by omega)])
  | (rw [if_neg hab, if_pos h67, pk_div (by omega) hx0 (by omega), hxg])
  | (rw [if_neg hab, if_neg (by omega), pk_div (by omega) hx0 (by omega), hxg])⟩)
    · replace h9 := zn_neF h9
      refine rw_go hX [(12, .iconst 0), (13, .goto 4)] (by decide +kernel) (Ps := []) (pc' := 17) (lv' := [(0, .int (nI a)), (1, .int (nI b)), (2, .int (nI p))]) (st' := [.int (nI 0)]) (σ' := σ) rfl True.intro ?_
      exact rw_iret hX (by decide +kernel) (⟨rfl, by
  unfold lowT
  first
  | (rw [if_pos hab, if_pos h9])
  | (rw [if_pos hab, if_neg (by omega)])
  | (rw [if_neg hab, if_pos h67, pk_div (by omega) hx0 (by omega), hxg])
  | (rw [if_neg hab, if_neg (by omega), pk_div (by omega) hx0 (by omega), hxg])⟩)
  · replace h1 := zn_leF h1
    refine rw_go hX [(4, .iload_n 1)] (by decide +kernel) (Ps := []) (pc' := 5) (lv' := [(0, .int (nI a)), (1, .int (nI b)), (2, .int (nI p))]) (st' := [.int (nI b)]) (σ' := σ) rfl True.intro ?_
    refine rw_if hX (tgt := 18) (cnd := .gt) (off := 13) (by decide +kernel) (by decide) (fun h5 => ?_) (fun h5 => ?_)
    · replace h5 := zn_gtT h5
      have hab : ¬ (a = 0 ∨ b = 0) := by omega
      refine rw_go hX [(18, .iload_n 0), (19, .istore_n 3), (20, .iload_n 1), (21, .istore 4), (23, .iconst 0), (24, .istore 5)] (by decide +kernel) (Ps := []) (pc' := 26) (lv' := [(0, .int (nI a)), (1, .int (nI b)), (2, .int (nI p)), (3, .int (nI a)), (4, .int (nI b)), (5, .int (nI 0))]) (st' := []) (σ' := σ) rfl True.intro ?_
      have L26 : ∀ (μ26 : Nat) (s x y : Nat), μ26 = y → (x ≤ 250) → (y + s ≤ 250) → (Nat.gcd x y = Nat.gcd a b) → RW E G 0 7 (QI E G (fun r σ' => σ' = σ ∧ r = nI (lowT a b p))) 26 [(0, .int (nI a)), (1, .int (nI b)), (2, .int (nI p)), (3, .int (nI x)), (4, .int (nI y)), (5, .int (nI s))] [] σ := by
        intro μ26
        induction μ26 using Nat.strongRecOn with
        | ind μ26 ih26 =>
          intro s x y hμ26 hx hy hg
          refine rw_go hX [(26, .iload 5), (28, .sipush 250)] (by decide +kernel) (Ps := []) (pc' := 31) (lv' := [(0, .int (nI a)), (1, .int (nI b)), (2, .int (nI p)), (3, .int (nI x)), (4, .int (nI y)), (5, .int (nI s))]) (st' := [.int (nI 250), .int (nI s)]) (σ' := σ) rfl True.intro ?_
          refine rw_icmp hX (tgt := 58) (cnd := .ge) (off := 27) (by decide +kernel) (by decide) (fun h31 => ?_) (fun h31 => ?_)
          · replace h31 := c2_geT h31
            have hy0 : y = 0 := by omega
            have hxg : x = Nat.gcd a b := by rw [← hg, hy0, Nat.gcd_zero_right]
            have hx0 : 0 < x := by rw [hxg]; exact Nat.gcd_pos_of_pos_left _ (by omega)
            refine rw_go hX [(58, .iload_n 3)] (by decide +kernel) (Ps := []) (pc' := 59) (lv' := [(0, .int (nI a)), (1, .int (nI b)), (2, .int (nI p)), (3, .int (nI x)), (4, .int (nI y)), (5, .int (nI s))]) (st' := [.int (nI x)]) (σ' := σ) rfl True.intro ?_
            refine rw_if hX (tgt := 66) (cnd := .ne) (off := 7) (by decide +kernel) (by decide) (fun h59 => ?_) (fun h59 => ?_)
            · replace h59 := zn_neT h59
              refine rw_go hX [(66, .iload_n 2)] (by decide +kernel) (Ps := []) (pc' := 67) (lv' := [(0, .int (nI a)), (1, .int (nI b)), (2, .int (nI p)), (3, .int (nI x)), (4, .int (nI y)), (5, .int (nI s))]) (st' := [.int (nI p)]) (σ' := σ) rfl True.intro ?_
              refine rw_if hX (tgt := 74) (cnd := .ne) (off := 7) (by decide +kernel) (by decide) (fun h67 => ?_) (fun h67 => ?_)
              · replace h67 := zn_neT h67
                refine rw_go hX [(74, .iload_n 1), (75, .iload_n 3), (76, .idiv)] (by decide +kernel) (Ps := [¬ (nI x) = 0]) (pc' := 77) (lv' := [(0, .int (nI a)), (1, .int (nI b)), (2, .int (nI p)), (3, .int (nI x)), (4, .int (nI y)), (5, .int (nI s))]) (st' := [.int (nI b / nI x)]) (σ' := σ) rfl (fun z9 => by have := zn_eqT z9; omega) ?_
                exact rw_iret hX (by decide +kernel) (⟨rfl, by
  unfold lowT
  first
  | (rw [if_pos hab, if_pos h9])
  | (rw [if_pos hab, if_neg (by omega)])
  | (rw [if_neg hab, if_pos h67, pk_div (by omega) hx0 (by omega), hxg])
  | (rw [if_neg hab, if_neg (by omega), pk_div (by omega) hx0 (by omega), hxg])⟩)
              · replace h67 := zn_neF h67
                refine rw_go hX [(70, .iload_n 0), (71, .goto 4), (75, .iload_n 3), (76, .idiv)] (by decide +kernel) (Ps := [¬ (nI x) = 0]) (pc' := 77) (lv' := [(0, .int (nI a)), (1, .int (nI b)), (2, .int (nI p)), (3, .int (nI x)), (4, .int (nI y)), (5, .int (nI s))]) (st' := [.int (nI a / nI x)]) (σ' := σ) rfl (fun z9 => by have := zn_eqT z9; omega) ?_
                exact rw_iret hX (by decide +kernel) (⟨rfl, by
  unfold lowT
  first
  | (rw [if_pos hab, if_pos h9])
  | (rw [if_pos hab, if_neg (by omega)])
  | (rw [if_neg hab, if_pos h67, pk_div (by omega) hx0 (by omega), hxg])
  | (rw [if_neg hab, if_neg (by omega), pk_div (by omega) hx0 (by omega), hxg])⟩)
            · replace h59 := zn_neF h59
              omega
          · replace h31 := c2_geF h31
            refine rw_go hX [(34, .iload 4)] (by decide +kernel) (Ps := []) (pc' := 36) (lv' := [(0, .int (nI a)), (1, .int (nI b)), (2, .int (nI p)), (3, .int (nI x)), (4, .int (nI y)), (5, .int (nI s))]) (st' := [.int (nI y)]) (σ' := σ) rfl True.intro ?_
            refine rw_if hX (tgt := 58) (cnd := .eq) (off := 22) (by decide +kernel) (by decide) (fun h36 => ?_) (fun h36 => ?_)
            · replace h36 := zn_eqT h36
              have hy0 : y = 0 := h36
              have hxg : x = Nat.gcd a b := by rw [← hg, hy0, Nat.gcd_zero_right]
              have hx0 : 0 < x := by rw [hxg]; exact Nat.gcd_pos_of_pos_left _ (by omega)
              refine rw_go hX [(58, .iload_n 3)] (by decide +kernel) (Ps := []) (pc' := 59) (lv' := [(0, .int (nI a)), (1, .int (nI b)), (2, .int (nI p)), (3, .int (nI x)), (4, .int (nI y)), (5, .int (nI s))]) (st' := [.int (nI x)]) (σ' := σ) rfl True.intro ?_
              refine rw_if hX (tgt := 66) (cnd := .ne) (off := 7) (by decide +kernel) (by decide) (fun h59 => ?_) (fun h59 => ?_)
              · replace h59 := zn_neT h59
                refine rw_go hX [(66, .iload_n 2)] (by decide +kernel) (Ps := []) (pc' := 67) (lv' := [(0, .int (nI a)), (1, .int (nI b)), (2, .int (nI p)), (3, .int (nI x)), (4, .int (nI y)), (5, .int (nI s))]) (st' := [.int (nI p)]) (σ' := σ) rfl True.intro ?_
                refine rw_if hX (tgt := 74) (cnd := .ne) (off := 7) (by decide +kernel) (by decide) (fun h67 => ?_) (fun h67 => ?_)
                · replace h67 := zn_neT h67
                  refine rw_go hX [(74, .iload_n 1), (75, .iload_n 3), (76, .idiv)] (by decide +kernel) (Ps := [¬ (nI x) = 0]) (pc' := 77) (lv' := [(0, .int (nI a)), (1, .int (nI b)), (2, .int (nI p)), (3, .int (nI x)), (4, .int (nI y)), (5, .int (nI s))]) (st' := [.int (nI b / nI x)]) (σ' := σ) rfl (fun z9 => by have := zn_eqT z9; omega) ?_
                  exact rw_iret hX (by decide +kernel) (⟨rfl, by
  unfold lowT
  first
  | (rw [if_pos hab, if_pos h9])
  | (rw [if_pos hab, if_neg (by omega)])
  | (rw [if_neg hab, if_pos h67, pk_div (by omega) hx0 (by omega), hxg])
  | (rw [if_neg hab, if_neg (by omega), pk_div (by omega) hx0 (by omega), hxg])⟩)
                · replace h67 := zn_neF h67
                  refine rw_go hX [(70, .iload_n 0), (71, .goto 4), (75, .iload_n 3), (76, .idiv)] (by decide +kernel) (Ps := [¬ (nI x) = 0]) (pc' := 77) (lv' := [(0, .int (nI a)), (1, .int (nI b)), (2, .int (nI p)), (3, .int (nI x)), (4, .int (nI y)), (5, .int (nI s))]) (st' := [.int (nI a / nI x)]) (σ' := σ) rfl (fun z9 => by have := zn_eqT z9; omega) ?_
                  exact rw_iret hX (by decide +kernel) (⟨rfl, by
  unfold lowT
  first
  | (rw [if_pos hab, if_pos h9])
  | (rw [if_pos hab, if_neg (by omega)])
  | (rw [if_neg hab, if_pos h67, pk_div (by omega) hx0 (by omega), hxg])
  | (rw [if_neg hab, if_neg (by omega), pk_div (by omega) hx0 (by omega), hxg])⟩)
              · replace h59 := zn_neF h59
                omega
            · replace h36 := zn_eqF h36
              refine rw_go hX [(39, .iload_n 3), (40, .iload 4), (42, .irem)] (by decide +kernel) (Ps := [¬ (nI y) = 0]) (pc' := 43) (lv' := [(0, .int (nI a)), (1, .int (nI b)), (2, .int (nI p)), (3, .int (nI x)), (4, .int (nI y)), (5, .int (nI s))]) (st' := [.int (nI x - nI x / nI y * nI y)]) (σ' := σ) rfl (fun z9 => by have := zn_eqT z9; omega) ?_
              rw [show (nI x - nI x / nI y * nI y) = nI (x % y) from pk_rem (by omega) (by omega) (by omega)]
              refine rw_go hX [(43, .istore 6), (45, .iload 4), (47, .istore_n 3), (48, .iload 6), (50, .istore 4), (52, .iinc 5 1), (55, .goto (-29))] (by decide +kernel) (Ps := []) (pc' := 26) (lv' := [(0, .int (nI a)), (1, .int (nI b)), (2, .int (nI p)), (3, .int (nI y)), (4, .int (nI (x % y))), (5, .int (nI s + nI 1)), (6, .int (nI (x % y)))]) (st' := []) (σ' := σ) rfl True.intro ?_
              refine rw_lsub (ks := [0, 1, 2, 3, 4, 5]) (lv' := [(0, .int (nI a)), (1, .int (nI b)), (2, .int (nI p)), (3, .int (nI y)), (4, .int (nI (x % y))), (5, .int (nI s + nI 1))]) rfl ?_
              have hm := Nat.mod_lt x h36
              rw [nI_add]
              exact ih26 (x % y) (by omega) (s + 1) y (x % y) rfl (by omega) (by omega) (by rw [← hg, Nat.gcd_comm x y, Nat.gcd_rec y x, Nat.gcd_comm])
      refine rw_lsub (ks := [0, 1, 2, 3, 4, 5]) (lv' := [(0, .int (nI a)), (1, .int (nI b)), (2, .int (nI p)), (3, .int (nI a)), (4, .int (nI b)), (5, .int (nI 0))]) rfl ?_
      exact L26 b 0 a b rfl ha (by omega) rfl
    · replace h5 := zn_gtF h5
      have hab : a = 0 ∨ b = 0 := Or.inr h5
      refine rw_go hX [(8, .iload_n 2)] (by decide +kernel) (Ps := []) (pc' := 9) (lv' := [(0, .int (nI a)), (1, .int (nI b)), (2, .int (nI p))]) (st' := [.int (nI p)]) (σ' := σ) rfl True.intro ?_
      refine rw_if hX (tgt := 16) (cnd := .ne) (off := 7) (by decide +kernel) (by decide) (fun h9 => ?_) (fun h9 => ?_)
      · replace h9 := zn_neT h9
        refine rw_go hX [(16, .iconst 1)] (by decide +kernel) (Ps := []) (pc' := 17) (lv' := [(0, .int (nI a)), (1, .int (nI b)), (2, .int (nI p))]) (st' := [.int (nI 1)]) (σ' := σ) rfl True.intro ?_
        exact rw_iret hX (by decide +kernel) (⟨rfl, by
  unfold lowT
  first
  | (rw [if_pos hab, if_pos h9])
  | (rw [if_pos hab, if_neg (by omega)])
  | (rw [if_neg hab, if_pos h67, pk_div (by omega) hx0 (by omega), hxg])
  | (rw [if_neg hab, if_neg (by omega), pk_div (by omega) hx0 (by omega), hxg])⟩)
      · replace h9 := zn_neF h9
        refine rw_go hX [(12, .iconst 0), (13, .goto 4)] (by decide +kernel) (Ps := []) (pc' := 17) (lv' := [(0, .int (nI a)), (1, .int (nI b)), (2, .int (nI p))]) (st' := [.int (nI 0)]) (σ' := σ) rfl True.intro ?_
        exact rw_iret hX (by decide +kernel) (⟨rfl, by
  unfold lowT
  first
  | (rw [if_pos hab, if_pos h9])
  | (rw [if_pos hab, if_neg (by omega)])
  | (rw [if_neg hab, if_pos h67, pk_div (by omega) hx0 (by omega), hxg])
  | (rw [if_neg hab, if_neg (by omega), pk_div (by omega) hx0 (by omega), hxg])⟩)
