/-! runs of like letters -/
def bgn (A B : Nat → Int32) (i j : Nat) : Bool := decide (i = 0) || (decide (j = 0) || decide (A (i - 1) ≠ B (j - 1)))
/-- how many like letters from i, j on, r at most -/
def rl (A B : Nat → Int32) : Nat → Nat → Nat → Nat
  | 0, _, _ => 0
  | r + 1, i, j => if A i = B j then rl A B r (i + 1) (j + 1) + 1 else 0
theorem rl_le (A B : Nat → Int32) : ∀ r i j, rl A B r i j ≤ r
  | 0, _, _ => Nat.le_refl 0
  | r + 1, i, j => by
    have := rl_le A B r (i + 1) (j + 1)
    simp only [rl]
    split <;> omega
theorem rl_eq {A B : Nat → Int32} : ∀ {r i j t : Nat}, t ≤ r → (∀ s, s < t → A (i + s) = B (j + s)) → (t = r ∨ A (i + t) ≠ B (j + t)) → rl A B r i j = t
  | 0, i, j, t, h1, h2, h3 => by simp only [rl]; omega
  | r + 1, i, j, 0, h1, h2, h3 => by
    rcases h3 with h3 | h3
    · omega
    · simp only [rl]
      rw [if_neg (by simpa using h3)]
  | r + 1, i, j, t + 1, h1, h2, h3 => by
    have e0 := h2 0 (by omega)
    simp only [rl]
    rw [if_pos (by simpa using e0)]
    congr 1
    refine rl_eq (by omega) (fun s hs => ?_) ?_
    · have := h2 (s + 1) (by omega)
      rw [show i + 1 + s = i + (s + 1) by omega, show j + 1 + s = j + (s + 1) by omega]; exact this
    · rcases h3 with h3 | h3
      · exact Or.inl (by omega)
      · rw [show i + 1 + t = i + (t + 1) by omega, show j + 1 + t = j + (t + 1) by omega]; exact Or.inr h3
/-- whether a like anchor is among t letters -/
def anB (a b : Nat → Int32) (i j : Nat) : Nat → Bool
  | 0 => false
  | t + 1 => anB a b i j t || (decide (a (i + t) ≠ -(nI 1)) && decide (a (i + t) = b (j + t)))
theorem anB_1 (a b : Nat → Int32) (i j t : Nat) : anB a b i j (t + 1) = (anB a b i j t || (decide (a (i + t) ≠ -(nI 1)) && decide (a (i + t) = b (j + t)))) := rfl
/-- one match more -/
def pushM (m i j t : Nat) (σ : Mm) : Mm := sw (sw (sw (sw (sw σ 46 m (nI i)) 47 m (nI j)) 48 m (nI t)) 51 m (nI 0)) 39 0 (nI (m + 1))
set_option maxRecDepth 20000 in
set_option maxHeartbeats 4000000 in
theorem c_isBegin (l : Launch) (G : Gl) (σ : Mm) (i j : Nat) (hi : i < 50) (hj : j < 50) : AMi l G 1 mX2_isBegin [.ref 39, .int (nI i), .int (nI j)] σ (fun r σ' => σ' = σ ∧ r = bz (bgn (σ 41) (σ 44) i j)) := by
  refine rw_inI 2 (by decide +kernel) rfl rfl ?_
  intro E hE hX
  subst hE
  refine rw_go hX [(0, .iload_n 1), (1, .iconst 1)] (by decide +kernel) (Ps := []) (pc' := 2) (lv' := [(0, .ref 39), (1, .int (nI i)), (2, .int (nI j))]) (st' := [.int (nI 1), .int (nI i)]) (σ' := σ) rfl True.intro ?_
  refine rw_icmp hX (tgt := 39) (cnd := .lt) (off := 37) (by decide +kernel) (by decide) (fun h2 => ?_) (fun h2 => ?_)
  · replace h2 := c2_ltT h2
    have hr : bgn (σ 41) (σ 44) i j = true := by unfold bgn; rw [decide_eq_true (show i = 0 by omega)]; rfl
    refine rw_go hX [(39, .iconst 1), (40, .goto 4)] (by decide +kernel) (Ps := []) (pc' := 44) (lv' := [(0, .ref 39), (1, .int (nI i)), (2, .int (nI j))]) (st' := [.int (nI 1)]) (σ' := σ) rfl True.intro ?_
    exact rw_zret hX (by decide +kernel) (Or.inr rfl) (⟨rfl, by rw [hr]; rfl⟩)
  · replace h2 := c2_ltF h2
    refine rw_go hX [(5, .iload_n 2), (6, .iconst 1)] (by decide +kernel) (Ps := []) (pc' := 7) (lv' := [(0, .ref 39), (1, .int (nI i)), (2, .int (nI j))]) (st' := [.int (nI 1), .int (nI j)]) (σ' := σ) rfl True.intro ?_
    refine rw_icmp hX (tgt := 39) (cnd := .lt) (off := 32) (by decide +kernel) (by decide) (fun h7 => ?_) (fun h7 => ?_)
    · replace h7 := c2_ltT h7
      have hr : bgn (σ 41) (σ 44) i j = true := by unfold bgn; rw [decide_eq_true (show j = 0 by omega), Bool.true_or, Bool.or_true]
      refine rw_go hX [(39, .iconst 1), (40, .goto 4)] (by decide +kernel) (Ps := []) (pc' := 44) (lv' := [(0, .ref 39), (1, .int (nI i)), (2, .int (nI j))]) (st' := [.int (nI 1)]) (σ' := σ) rfl True.intro ?_
      exact rw_zret hX (by decide +kernel) (Or.inr rfl) (⟨rfl, by rw [hr]; rfl⟩)
    · replace h7 := c2_ltF h7
      refine rw_go hX [(10, .aload_n 0), (11, .getfield 18), (14, .getfield 53), (17, .iload_n 1), (18, .iconst 1), (19, .isub)] (by decide +kernel) (Ps := []) (pc' := 20) (lv' := [(0, .ref 39), (1, .int (nI i)), (2, .int (nI j))]) (st' := [.int (nI i - nI 1), .ref 41]) (σ' := σ) rfl True.intro ?_
      rw [show (nI i - nI 1) = nI (i - 1) from pk_sub (by omega)]
      refine rw_callSi hX (as := [.ref 41, .int (nI (i - 1))]) (rest := []) (c_pick _ _ _ 41 50 (i - 1) (by decide +kernel) (by omega) (by omega)) (by decide +kernel) msX9_pick (Or.inr lk2_64) rfl (by decide) (Nat.le_of_ble_eq_true rfl) rfl ?_
      intro r1 σ1 hr
      rw [hr.1, hr.2]
      clear hr σ1 r1
      refine rw_go hX [(23, .aload_n 0), (24, .getfield 22), (27, .getfield 53), (30, .iload_n 2), (31, .iconst 1), (32, .isub)] (by decide +kernel) (Ps := []) (pc' := 33) (lv' := [(0, .ref 39), (1, .int (nI i)), (2, .int (nI j))]) (st' := [.int (nI j - nI 1), .ref 44, .int (σ 41 (i - 1))]) (σ' := σ) rfl True.intro ?_
      rw [show (nI j - nI 1) = nI (j - 1) from pk_sub (by omega)]
      refine rw_callSi hX (as := [.ref 44, .int (nI (j - 1))]) (rest := [.int (σ 41 (i - 1))]) (c_pick _ _ _ 44 50 (j - 1) (by decide +kernel) (by omega) (by omega)) (by decide +kernel) msX9_pick (Or.inr lk2_64) rfl (by decide) (Nat.le_of_ble_eq_true rfl) rfl ?_
      intro r1 σ1 hr
      rw [hr.1, hr.2]
      clear hr σ1 r1
      refine rw_icmp hX (tgt := 43) (cnd := .eq) (off := 7) (by decide +kernel) (by decide) (fun h36 => ?_) (fun h36 => ?_)
      · replace h36 : (σ 41 (i - 1) = σ 44 (j - 1)) := h36
        have hr : bgn (σ 41) (σ 44) i j = false := by unfold bgn; rw [decide_eq_false (show ¬ i = 0 by omega), decide_eq_false (show ¬ j = 0 by omega), decide_eq_false (fun z => z h36)]; rfl
        refine rw_go hX [(43, .iconst 0)] (by decide +kernel) (Ps := []) (pc' := 44) (lv' := [(0, .ref 39), (1, .int (nI i)), (2, .int (nI j))]) (st' := [.int (nI 0)]) (σ' := σ) rfl True.intro ?_
        exact rw_zret hX (by decide +kernel) (Or.inl rfl) (⟨rfl, by rw [hr]; rfl⟩)
      · replace h36 : ¬ (σ 41 (i - 1) = σ 44 (j - 1)) := h36
        have hr : bgn (σ 41) (σ 44) i j = true := by unfold bgn; rw [decide_eq_true (show σ 41 (i - 1) ≠ σ 44 (j - 1) from h36), Bool.or_true, Bool.or_true]
        refine rw_go hX [(39, .iconst 1), (40, .goto 4)] (by decide +kernel) (Ps := []) (pc' := 44) (lv' := [(0, .ref 39), (1, .int (nI i)), (2, .int (nI j))]) (st' := [.int (nI 1)]) (σ' := σ) rfl True.intro ?_
        exact rw_zret hX (by decide +kernel) (Or.inr rfl) (⟨rfl, by rw [hr]; rfl⟩)
set_option maxRecDepth 20000 in
set_option maxHeartbeats 4000000 in
theorem c_addRun (l : Launch) (G : Gl) (σ : Mm) (i j na nb ls m : Nat) (hna : σ 40 0 = nI na) (hnb : σ 43 0 = nI nb) (ha5 : na ≤ 50) (hb5 : nb ≤ 50) (hi : i < na) (hj : j < nb) (hls : ls ≤ 50) (hm : σ 39 0 = nI m) (hm8 : m ≤ 840) : AMv l G 1 mX2_addRun [.ref 39, .int (nI i), .int (nI j), .int (nI ls)] σ (fun σ' => σ' = if anB (σ 42) (σ 45) i j (rl (σ 41) (σ 44) (min (na - i) (nb - j)) i j) = true ∧ ls ≤ rl (σ 41) (σ 44) (min (na - i) (nb - j)) i j ∧ m < 840 then pushM m i j (rl (σ 41) (σ 44) (min (na - i) (nb - j)) i j) σ else σ) := by
  refine rw_inV 2 (by decide +kernel) rfl rfl ?_
  intro E hE hX
  subst hE
  refine rw_go hX [(0, .aload_n 0), (1, .getfield 18), (4, .getfield 52)] (by decide +kernel) (Ps := []) (pc' := 7) (lv' := [(0, .ref 39), (1, .int (nI i)), (2, .int (nI j)), (3, .int (nI ls))]) (st' := [.int (σ 40 0)]) (σ' := σ) rfl True.intro ?_
  rw [show (σ 40 0) = nI na from (by rw [hna])]
  refine rw_go hX [(7, .iload_n 1), (8, .isub)] (by decide +kernel) (Ps := []) (pc' := 9) (lv' := [(0, .ref 39), (1, .int (nI i)), (2, .int (nI j)), (3, .int (nI ls))]) (st' := [.int (nI na - nI i)]) (σ' := σ) rfl True.intro ?_
  rw [show (nI na - nI i) = nI (na - i) from pk_sub (by omega)]
  refine rw_go hX [(9, .aload_n 0), (10, .getfield 22), (13, .getfield 52)] (by decide +kernel) (Ps := []) (pc' := 16) (lv' := [(0, .ref 39), (1, .int (nI i)), (2, .int (nI j)), (3, .int (nI ls))]) (st' := [.int (σ 43 0), .int (nI (na - i))]) (σ' := σ) rfl True.intro ?_
  rw [show (σ 43 0) = nI nb from (by rw [hnb])]
  refine rw_go hX [(16, .iload_n 2), (17, .isub)] (by decide +kernel) (Ps := []) (pc' := 18) (lv' := [(0, .ref 39), (1, .int (nI i)), (2, .int (nI j)), (3, .int (nI ls))]) (st' := [.int (nI nb - nI j), .int (nI (na - i))]) (σ' := σ) rfl True.intro ?_
  rw [show (nI nb - nI j) = nI (nb - j) from pk_sub (by omega)]
  refine rw_min hX (by decide +kernel) lk2_68 (Nat.le_of_ble_eq_true rfl) ?_
  rw [show (if nI (nb - j) < nI (na - i) then nI (nb - j) else nI (na - i)) = nI (min (na - i) (nb - j)) from mn_min (by omega) (by omega)]
  refine rw_go hX [(21, .istore 4), (23, .iconst 0), (24, .istore 5), (26, .iconst 0), (27, .istore 6)] (by decide +kernel) (Ps := []) (pc' := 29) (lv' := [(0, .ref 39), (1, .int (nI i)), (2, .int (nI j)), (3, .int (nI ls)), (4, .int (nI (min (na - i) (nb - j)))), (5, .int (nI 0)), (6, .int (nI 0))]) (st' := []) (σ' := σ) rfl True.intro ?_
  have L29 : ∀ (μ29 : Nat) (t : Nat), μ29 = min (na - i) (nb - j) - t → (t ≤ min (na - i) (nb - j)) → (∀ s, s < t → σ 41 (i + s) = σ 44 (j + s)) → RW E G 1 8 (QV E G (fun σ' => σ' = if anB (σ 42) (σ 45) i j (rl (σ 41) (σ 44) (min (na - i) (nb - j)) i j) = true ∧ ls ≤ rl (σ 41) (σ 44) (min (na - i) (nb - j)) i j ∧ m < 840 then pushM m i j (rl (σ 41) (σ 44) (min (na - i) (nb - j)) i j) σ else σ)) 29 [(0, .ref 39), (1, .int (nI i)), (2, .int (nI j)), (3, .int (nI ls)), (4, .int (nI (min (na - i) (nb - j)))), (5, .int (bz (anB (σ 42) (σ 45) i j t))), (6, .int (nI t))] [] σ := by
    intro μ29
    induction μ29 using Nat.strongRecOn with
    | ind μ29 ih29 =>
      intro t hμ29 ht hs
      refine rw_go hX [(29, .iload 6), (31, .iload 4)] (by decide +kernel) (Ps := []) (pc' := 33) (lv' := [(0, .ref 39), (1, .int (nI i)), (2, .int (nI j)), (3, .int (nI ls)), (4, .int (nI (min (na - i) (nb - j)))), (5, .int (bz (anB (σ 42) (σ 45) i j t))), (6, .int (nI t))]) (st' := [.int (nI (min (na - i) (nb - j))), .int (nI t)]) (σ' := σ) rfl True.intro ?_
      refine rw_icmp hX (tgt := 126) (cnd := .ge) (off := 93) (by decide +kernel) (by decide) (fun h33 => ?_) (fun h33 => ?_)
      · replace h33 := c2_geT h33
        have hrl : rl (σ 41) (σ 44) (min (na - i) (nb - j)) i j = t := rl_eq ht hs (Or.inl (by omega))
        refine rw_go hX [(126, .iload 5)] (by decide +kernel) (Ps := []) (pc' := 128) (lv' := [(0, .ref 39), (1, .int (nI i)), (2, .int (nI j)), (3, .int (nI ls)), (4, .int (nI (min (na - i) (nb - j)))), (5, .int (bz (anB (σ 42) (σ 45) i j t))), (6, .int (nI t))]) (st' := [.int (bz (anB (σ 42) (σ 45) i j t))]) (σ' := σ) rfl True.intro ?_
        refine rw_if hX (tgt := 205) (cnd := .eq) (off := 77) (by decide +kernel) (by decide) (fun h128 => ?_) (fun h128 => ?_)
        · replace h128 := zb_eqT h128
          skip
          exact rw_vret hX (by decide +kernel) (by   rw [hrl] ; first | exact (if_neg (fun z => by rw [h128] at z; exact absurd z.1 (by decide))).symm | exact (if_neg (fun z => by omega)).symm | exact (if_pos ⟨h128, by omega, by omega⟩).symm)
        · replace h128 := zb_eqF h128
          refine rw_go hX [(131, .iload 6), (133, .iload_n 3)] (by decide +kernel) (Ps := []) (pc' := 134) (lv' := [(0, .ref 39), (1, .int (nI i)), (2, .int (nI j)), (3, .int (nI ls)), (4, .int (nI (min (na - i) (nb - j)))), (5, .int (bz (anB (σ 42) (σ 45) i j t))), (6, .int (nI t))]) (st' := [.int (nI ls), .int (nI t)]) (σ' := σ) rfl True.intro ?_
          refine rw_icmp hX (tgt := 205) (cnd := .lt) (off := 71) (by decide +kernel) (by decide) (fun h134 => ?_) (fun h134 => ?_)
          · replace h134 := c2_ltT h134
            skip
            exact rw_vret hX (by decide +kernel) (by   rw [hrl] ; first | exact (if_neg (fun z => by rw [h128] at z; exact absurd z.1 (by decide))).symm | exact (if_neg (fun z => by omega)).symm | exact (if_pos ⟨h128, by omega, by omega⟩).symm)
          · replace h134 := c2_ltF h134
            refine rw_go hX [(137, .aload_n 0), (138, .getfield 9)] (by decide +kernel) (Ps := []) (pc' := 141) (lv' := [(0, .ref 39), (1, .int (nI i)), (2, .int (nI j)), (3, .int (nI ls)), (4, .int (nI (min (na - i) (nb - j)))), (5, .int (bz (anB (σ 42) (σ 45) i j t))), (6, .int (nI t))]) (st' := [.int (σ 39 0)]) (σ' := σ) rfl True.intro ?_
            rw [show (σ 39 0) = nI m from (by rw [hm])]
            refine rw_if hX (tgt := 205) (cnd := .lt) (off := 64) (by decide +kernel) (by decide) (fun h141 => ?_) (fun h141 => ?_)
            · exact zn_ltT h141
            · clear h141
              refine rw_go hX [(144, .aload_n 0), (145, .getfield 9)] (by decide +kernel) (Ps := []) (pc' := 148) (lv' := [(0, .ref 39), (1, .int (nI i)), (2, .int (nI j)), (3, .int (nI ls)), (4, .int (nI (min (na - i) (nb - j)))), (5, .int (bz (anB (σ 42) (σ 45) i j t))), (6, .int (nI t))]) (st' := [.int (σ 39 0)]) (σ' := σ) rfl True.intro ?_
              rw [show (σ 39 0) = nI m from (by rw [hm])]
              refine rw_go hX [(148, .sipush 840)] (by decide +kernel) (Ps := []) (pc' := 151) (lv' := [(0, .ref 39), (1, .int (nI i)), (2, .int (nI j)), (3, .int (nI ls)), (4, .int (nI (min (na - i) (nb - j)))), (5, .int (bz (anB (σ 42) (σ 45) i j t))), (6, .int (nI t))]) (st' := [.int (nI 840), .int (nI m)]) (σ' := σ) rfl True.intro ?_
              refine rw_icmp hX (tgt := 205) (cnd := .ge) (off := 54) (by decide +kernel) (by decide) (fun h151 => ?_) (fun h151 => ?_)
              · replace h151 := c2_geT h151
                skip
                exact rw_vret hX (by decide +kernel) (by   rw [hrl] ; first | exact (if_neg (fun z => by rw [h128] at z; exact absurd z.1 (by decide))).symm | exact (if_neg (fun z => by omega)).symm | exact (if_pos ⟨h128, by omega, by omega⟩).symm)
              · replace h151 := c2_geF h151
                refine rw_go hX [(154, .aload_n 0), (155, .getfield 25), (158, .aload_n 0), (159, .getfield 9)] (by decide +kernel) (Ps := []) (pc' := 162) (lv' := [(0, .ref 39), (1, .int (nI i)), (2, .int (nI j)), (3, .int (nI ls)), (4, .int (nI (min (na - i) (nb - j)))), (5, .int (bz (anB (σ 42) (σ 45) i j t))), (6, .int (nI t))]) (st' := [.int (σ 39 0), .ref 46]) (σ' := σ) rfl True.intro ?_
                rw [show (σ 39 0) = nI m from (by rw [hm])]
                refine rw_go hX [(162, .iload_n 1), (163, .iastore)] (by decide +kernel) (Ps := [vp_in (nI m) 840]) (pc' := 164) (lv' := [(0, .ref 39), (1, .int (nI i)), (2, .int (nI j)), (3, .int (nI ls)), (4, .int (nI (min (na - i) (nb - j)))), (5, .int (bz (anB (σ 42) (σ 45) i j t))), (6, .int (nI t))]) (st' := []) (σ' := sw σ 46 (nI m).toNatClampNeg (nI i)) rfl (vp_in_nI (by omega) (by omega)) ?_
                rw [show (sw σ 46 (nI m).toNatClampNeg (nI i)) = sw σ 46 m (nI i) from (by rw [nI_clamp (by omega)])]
                refine rw_go hX [(164, .aload_n 0), (165, .getfield 29), (168, .aload_n 0), (169, .getfield 9)] (by decide +kernel) (Ps := []) (pc' := 172) (lv' := [(0, .ref 39), (1, .int (nI i)), (2, .int (nI j)), (3, .int (nI ls)), (4, .int (nI (min (na - i) (nb - j)))), (5, .int (bz (anB (σ 42) (σ 45) i j t))), (6, .int (nI t))]) (st' := [.int ((sw σ 46 m (nI i)) 39 0), .ref 47]) (σ' := sw σ 46 m (nI i)) rfl True.intro ?_
                rw [show ((sw σ 46 m (nI i)) 39 0) = nI m from (by rw [sw_ne _ _ _ (by decide), hm])]
                refine rw_go hX [(172, .iload_n 2), (173, .iastore)] (by decide +kernel) (Ps := [vp_in (nI m) 840]) (pc' := 174) (lv' := [(0, .ref 39), (1, .int (nI i)), (2, .int (nI j)), (3, .int (nI ls)), (4, .int (nI (min (na - i) (nb - j)))), (5, .int (bz (anB (σ 42) (σ 45) i j t))), (6, .int (nI t))]) (st' := []) (σ' := sw (sw σ 46 m (nI i)) 47 (nI m).toNatClampNeg (nI j)) rfl (vp_in_nI (by omega) (by omega)) ?_
                rw [show (sw (sw σ 46 m (nI i)) 47 (nI m).toNatClampNeg (nI j)) = sw (sw σ 46 m (nI i)) 47 m (nI j) from (by rw [nI_clamp (by omega)])]
                refine rw_go hX [(174, .aload_n 0), (175, .getfield 32), (178, .aload_n 0), (179, .getfield 9)] (by decide +kernel) (Ps := []) (pc' := 182) (lv' := [(0, .ref 39), (1, .int (nI i)), (2, .int (nI j)), (3, .int (nI ls)), (4, .int (nI (min (na - i) (nb - j)))), (5, .int (bz (anB (σ 42) (σ 45) i j t))), (6, .int (nI t))]) (st' := [.int ((sw (sw σ 46 m (nI i)) 47 m (nI j)) 39 0), .ref 48]) (σ' := sw (sw σ 46 m (nI i)) 47 m (nI j)) rfl True.intro ?_
                rw [show ((sw (sw σ 46 m (nI i)) 47 m (nI j)) 39 0) = nI m from (by rw [sw_ne _ _ _ (by decide), sw_ne _ _ _ (by decide), hm])]
                refine rw_go hX [(182, .iload 6), (184, .iastore)] (by decide +kernel) (Ps := [vp_in (nI m) 840]) (pc' := 185) (lv' := [(0, .ref 39), (1, .int (nI i)), (2, .int (nI j)), (3, .int (nI ls)), (4, .int (nI (min (na - i) (nb - j)))), (5, .int (bz (anB (σ 42) (σ 45) i j t))), (6, .int (nI t))]) (st' := []) (σ' := sw (sw (sw σ 46 m (nI i)) 47 m (nI j)) 48 (nI m).toNatClampNeg (nI t)) rfl (vp_in_nI (by omega) (by omega)) ?_
                rw [show (sw (sw (sw σ 46 m (nI i)) 47 m (nI j)) 48 (nI m).toNatClampNeg (nI t)) = sw (sw (sw σ 46 m (nI i)) 47 m (nI j)) 48 m (nI t) from (by rw [nI_clamp (by omega)])]
                refine rw_go hX [(185, .aload_n 0), (186, .getfield 41), (189, .aload_n 0), (190, .getfield 9)] (by decide +kernel) (Ps := []) (pc' := 193) (lv' := [(0, .ref 39), (1, .int (nI i)), (2, .int (nI j)), (3, .int (nI ls)), (4, .int (nI (min (na - i) (nb - j)))), (5, .int (bz (anB (σ 42) (σ 45) i j t))), (6, .int (nI t))]) (st' := [.int ((sw (sw (sw σ 46 m (nI i)) 47 m (nI j)) 48 m (nI t)) 39 0), .ref 51]) (σ' := sw (sw (sw σ 46 m (nI i)) 47 m (nI j)) 48 m (nI t)) rfl True.intro ?_
                rw [show ((sw (sw (sw σ 46 m (nI i)) 47 m (nI j)) 48 m (nI t)) 39 0) = nI m from (by rw [sw_ne _ _ _ (by decide), sw_ne _ _ _ (by decide), sw_ne _ _ _ (by decide), hm])]
                refine rw_go hX [(193, .iconst 0), (194, .bastore)] (by decide +kernel) (Ps := [vp_in (nI m) 840, (nI 0) = 0 ∨ (nI 0) = 1]) (pc' := 195) (lv' := [(0, .ref 39), (1, .int (nI i)), (2, .int (nI j)), (3, .int (nI ls)), (4, .int (nI (min (na - i) (nb - j)))), (5, .int (bz (anB (σ 42) (σ 45) i j t))), (6, .int (nI t))]) (st' := []) (σ' := sw (sw (sw (sw σ 46 m (nI i)) 47 m (nI j)) 48 m (nI t)) 51 (nI m).toNatClampNeg (nI 0)) rfl (⟨vp_in_nI (by omega) (by omega), Or.inl rfl⟩) ?_
                rw [show (sw (sw (sw (sw σ 46 m (nI i)) 47 m (nI j)) 48 m (nI t)) 51 (nI m).toNatClampNeg (nI 0)) = sw (sw (sw (sw σ 46 m (nI i)) 47 m (nI j)) 48 m (nI t)) 51 m (nI 0) from (by rw [nI_clamp (by omega)])]
                refine rw_go hX [(195, .aload_n 0), (196, .dup), (197, .getfield 9)] (by decide +kernel) (Ps := []) (pc' := 200) (lv' := [(0, .ref 39), (1, .int (nI i)), (2, .int (nI j)), (3, .int (nI ls)), (4, .int (nI (min (na - i) (nb - j)))), (5, .int (bz (anB (σ 42) (σ 45) i j t))), (6, .int (nI t))]) (st' := [.int ((sw (sw (sw (sw σ 46 m (nI i)) 47 m (nI j)) 48 m (nI t)) 51 m (nI 0)) 39 0), .ref 39]) (σ' := sw (sw (sw (sw σ 46 m (nI i)) 47 m (nI j)) 48 m (nI t)) 51 m (nI 0)) rfl True.intro ?_
                rw [show ((sw (sw (sw (sw σ 46 m (nI i)) 47 m (nI j)) 48 m (nI t)) 51 m (nI 0)) 39 0) = nI m from (by rw [sw_ne _ _ _ (by decide), sw_ne _ _ _ (by decide), sw_ne _ _ _ (by decide), sw_ne _ _ _ (by decide), hm])]
                refine rw_go hX [(200, .iconst 1), (201, .iadd)] (by decide +kernel) (Ps := []) (pc' := 202) (lv' := [(0, .ref 39), (1, .int (nI i)), (2, .int (nI j)), (3, .int (nI ls)), (4, .int (nI (min (na - i) (nb - j)))), (5, .int (bz (anB (σ 42) (σ 45) i j t))), (6, .int (nI t))]) (st' := [.int (nI m + nI 1), .ref 39]) (σ' := sw (sw (sw (sw σ 46 m (nI i)) 47 m (nI j)) 48 m (nI t)) 51 m (nI 0)) rfl True.intro ?_
                rw [show (nI m + nI 1) = nI (m + 1) from nI_add m 1]
                refine rw_go hX [(202, .putfield 9)] (by decide +kernel) (Ps := []) (pc' := 205) (lv' := [(0, .ref 39), (1, .int (nI i)), (2, .int (nI j)), (3, .int (nI ls)), (4, .int (nI (min (na - i) (nb - j)))), (5, .int (bz (anB (σ 42) (σ 45) i j t))), (6, .int (nI t))]) (st' := []) (σ' := sw (sw (sw (sw (sw σ 46 m (nI i)) 47 m (nI j)) 48 m (nI t)) 51 m (nI 0)) 39 0 (nI (m + 1))) rfl True.intro ?_
                exact rw_vret hX (by decide +kernel) (by   rw [hrl] ; first | exact (if_neg (fun z => by rw [h128] at z; exact absurd z.1 (by decide))).symm | exact (if_neg (fun z => by omega)).symm | exact (if_pos ⟨h128, by omega, by omega⟩).symm)
      · replace h33 := c2_geF h33
        refine rw_go hX [(36, .aload_n 0), (37, .getfield 18), (40, .getfield 53), (43, .iload_n 1), (44, .iload 6), (46, .iadd)] (by decide +kernel) (Ps := []) (pc' := 47) (lv' := [(0, .ref 39), (1, .int (nI i)), (2, .int (nI j)), (3, .int (nI ls)), (4, .int (nI (min (na - i) (nb - j)))), (5, .int (bz (anB (σ 42) (σ 45) i j t))), (6, .int (nI t))]) (st' := [.int (nI i + nI t), .ref 41]) (σ' := σ) rfl True.intro ?_
        rw [show (nI i + nI t) = nI (i + t) from nI_add i t]
        refine rw_callSi hX (as := [.ref 41, .int (nI (i + t))]) (rest := []) (c_pick _ _ _ 41 50 (i + t) (by decide +kernel) (by omega) (by omega)) (by decide +kernel) msX9_pick (Or.inr lk2_64) rfl (by decide) (Nat.le_of_ble_eq_true rfl) rfl ?_
        intro r1 σ1 hr
        rw [hr.1, hr.2]
        clear hr σ1 r1
        refine rw_go hX [(50, .aload_n 0), (51, .getfield 22), (54, .getfield 53), (57, .iload_n 2), (58, .iload 6), (60, .iadd)] (by decide +kernel) (Ps := []) (pc' := 61) (lv' := [(0, .ref 39), (1, .int (nI i)), (2, .int (nI j)), (3, .int (nI ls)), (4, .int (nI (min (na - i) (nb - j)))), (5, .int (bz (anB (σ 42) (σ 45) i j t))), (6, .int (nI t))]) (st' := [.int (nI j + nI t), .ref 44, .int (σ 41 (i + t))]) (σ' := σ) rfl True.intro ?_
        rw [show (nI j + nI t) = nI (j + t) from nI_add j t]
        refine rw_callSi hX (as := [.ref 44, .int (nI (j + t))]) (rest := [.int (σ 41 (i + t))]) (c_pick _ _ _ 44 50 (j + t) (by decide +kernel) (by omega) (by omega)) (by decide +kernel) msX9_pick (Or.inr lk2_64) rfl (by decide) (Nat.le_of_ble_eq_true rfl) rfl ?_
        intro r1 σ1 hr
        rw [hr.1, hr.2]
        clear hr σ1 r1
        refine rw_icmp hX (tgt := 126) (cnd := .ne) (off := 62) (by decide +kernel) (by decide) (fun h64 => ?_) (fun h64 => ?_)
        · replace h64 : (σ 41 (i + t) ≠ σ 44 (j + t)) := h64
          have hrl : rl (σ 41) (σ 44) (min (na - i) (nb - j)) i j = t := rl_eq ht hs (Or.inr h64)
          refine rw_go hX [(126, .iload 5)] (by decide +kernel) (Ps := []) (pc' := 128) (lv' := [(0, .ref 39), (1, .int (nI i)), (2, .int (nI j)), (3, .int (nI ls)), (4, .int (nI (min (na - i) (nb - j)))), (5, .int (bz (anB (σ 42) (σ 45) i j t))), (6, .int (nI t))]) (st' := [.int (bz (anB (σ 42) (σ 45) i j t))]) (σ' := σ) rfl True.intro ?_
          refine rw_if hX (tgt := 205) (cnd := .eq) (off := 77) (by decide +kernel) (by decide) (fun h128 => ?_) (fun h128 => ?_)
          · replace h128 := zb_eqT h128
            skip
            exact rw_vret hX (by decide +kernel) (by   rw [hrl] ; first | exact (if_neg (fun z => by rw [h128] at z; exact absurd z.1 (by decide))).symm | exact (if_neg (fun z => by omega)).symm | exact (if_pos ⟨h128, by omega, by omega⟩).symm)
          · replace h128 := zb_eqF h128
            refine rw_go hX [(131, .iload 6), (133, .iload_n 3)] (by decide +kernel) (Ps := []) (pc' := 134) (lv' := [(0, .ref 39), (1, .int (nI i)), (2, .int (nI j)), (3, .int (nI ls)), (4, .int (nI (min (na - i) (nb - j)))), (5, .int (bz (anB (σ 42) (σ 45) i j t))), (6, .int (nI t))]) (st' := [.int (nI ls), .int (nI t)]) (σ' := σ) rfl True.intro ?_
            refine rw_icmp hX (tgt := 205) (cnd := .lt) (off := 71) (by decide +kernel) (by decide) (fun h134 => ?_) (fun h134 => ?_)
            · replace h134 := c2_ltT h134
              skip
              exact rw_vret hX (by decide +kernel) (by   rw [hrl] ; first | exact (if_neg (fun z => by rw [h128] at z; exact absurd z.1 (by decide))).symm | exact (if_neg (fun z => by omega)).symm | exact (if_pos ⟨h128, by omega, by omega⟩).symm)
            · replace h134 := c2_ltF h134
              refine rw_go hX [(137, .aload_n 0), (138, .getfield 9)] (by decide +kernel) (Ps := []) (pc' := 141) (lv' := [(0, .ref 39), (1, .int (nI i)), (2, .int (nI j)), (3, .int (nI ls)), (4, .int (nI (min (na - i) (nb - j)))), (5, .int (bz (anB (σ 42) (σ 45) i j t))), (6, .int (nI t))]) (st' := [.int (σ 39 0)]) (σ' := σ) rfl True.intro ?_
              rw [show (σ 39 0) = nI m from (by rw [hm])]
              refine rw_if hX (tgt := 205) (cnd := .lt) (off := 64) (by decide +kernel) (by decide) (fun h141 => ?_) (fun h141 => ?_)
              · exact zn_ltT h141
              · clear h141
                refine rw_go hX [(144, .aload_n 0), (145, .getfield 9)] (by decide +kernel) (Ps := []) (pc' := 148) (lv' := [(0, .ref 39), (1, .int (nI i)), (2, .int (nI j)), (3, .int (nI ls)), (4, .int (nI (min (na - i) (nb - j)))), (5, .int (bz (anB (σ 42) (σ 45) i j t))), (6, .int (nI t))]) (st' := [.int (σ 39 0)]) (σ' := σ) rfl True.intro ?_
                rw [show (σ 39 0) = nI m from (by rw [hm])]
                refine rw_go hX [(148, .sipush 840)] (by decide +kernel) (Ps := []) (pc' := 151) (lv' := [(0, .ref 39), (1, .int (nI i)), (2, .int (nI j)), (3, .int (nI ls)), (4, .int (nI (min (na - i) (nb - j)))), (5, .int (bz (anB (σ 42) (σ 45) i j t))), (6, .int (nI t))]) (st' := [.int (nI 840), .int (nI m)]) (σ' := σ) rfl True.intro ?_
                refine rw_icmp hX (tgt := 205) (cnd := .ge) (off := 54) (by decide +kernel) (by decide) (fun h151 => ?_) (fun h151 => ?_)
                · replace h151 := c2_geT h151
                  skip
                  exact rw_vret hX (by decide +kernel) (by   rw [hrl] ; first | exact (if_neg (fun z => by rw [h128] at z; exact absurd z.1 (by decide))).symm | exact (if_neg (fun z => by omega)).symm | exact (if_pos ⟨h128, by omega, by omega⟩).symm)
                · replace h151 := c2_geF h151
                  refine rw_go hX [(154, .aload_n 0), (155, .getfield 25), (158, .aload_n 0), (159, .getfield 9)] (by decide +kernel) (Ps := []) (pc' := 162) (lv' := [(0, .ref 39), (1, .int (nI i)), (2, .int (nI j)), (3, .int (nI ls)), (4, .int (nI (min (na - i) (nb - j)))), (5, .int (bz (anB (σ 42) (σ 45) i j t))), (6, .int (nI t))]) (st' := [.int (σ 39 0), .ref 46]) (σ' := σ) rfl True.intro ?_
                  rw [show (σ 39 0) = nI m from (by rw [hm])]
                  refine rw_go hX [(162, .iload_n 1), (163, .iastore)] (by decide +kernel) (Ps := [vp_in (nI m) 840]) (pc' := 164) (lv' := [(0, .ref 39), (1, .int (nI i)), (2, .int (nI j)), (3, .int (nI ls)), (4, .int (nI (min (na - i) (nb - j)))), (5, .int (bz (anB (σ 42) (σ 45) i j t))), (6, .int (nI t))]) (st' := []) (σ' := sw σ 46 (nI m).toNatClampNeg (nI i)) rfl (vp_in_nI (by omega) (by omega)) ?_
                  rw [show (sw σ 46 (nI m).toNatClampNeg (nI i)) = sw σ 46 m (nI i) from (by rw [nI_clamp (by omega)])]
                  refine rw_go hX [(164, .aload_n 0), (165, .getfield 29), (168, .aload_n 0), (169, .getfield 9)] (by decide +kernel) (Ps := []) (pc' := 172) (lv' := [(0, .ref 39), (1, .int (nI i)), (2, .int (nI j)), (3, .int (nI ls)), (4, .int (nI (min (na - i) (nb - j)))), (5, .int (bz (anB (σ 42) (σ 45) i j t))), (6, .int (nI t))]) (st' := [.int ((sw σ 46 m (nI i)) 39 0), .ref 47]) (σ' := sw σ 46 m (nI i)) rfl True.intro ?_
                  rw [show ((sw σ 46 m (nI i)) 39 0) = nI m from (by rw [sw_ne _ _ _ (by decide), hm])]
                  refine rw_go hX [(172, .iload_n 2), (173, .iastore)] (by decide +kernel) (Ps := [vp_in (nI m) 840]) (pc' := 174) (lv' := [(0, .ref 39), (1, .int (nI i)), (2, .int (nI j)), (3, .int (nI ls)), (4, .int (nI (min (na - i) (nb - j)))), (5, .int (bz (anB (σ 42) (σ 45) i j t))), (6, .int (nI t))]) (st' := []) (σ' := sw (sw σ 46 m (nI i)) 47 (nI m).toNatClampNeg (nI j)) rfl (vp_in_nI (by omega) (by omega)) ?_
                  rw [show (sw (sw σ 46 m (nI i)) 47 (nI m).toNatClampNeg (nI j)) = sw (sw σ 46 m (nI i)) 47 m (nI j) from (by rw [nI_clamp (by omega)])]
                  refine rw_go hX [(174, .aload_n 0), (175, .getfield 32), (178, .aload_n 0), (179, .getfield 9)] (by decide +kernel) (Ps := []) (pc' := 182) (lv' := [(0, .ref 39), (1, .int (nI i)), (2, .int (nI j)), (3, .int (nI ls)), (4, .int (nI (min (na - i) (nb - j)))), (5, .int (bz (anB (σ 42) (σ 45) i j t))), (6, .int (nI t))]) (st' := [.int ((sw (sw σ 46 m (nI i)) 47 m (nI j)) 39 0), .ref 48]) (σ' := sw (sw σ 46 m (nI i)) 47 m (nI j)) rfl True.intro ?_
                  rw [show ((sw (sw σ 46 m (nI i)) 47 m (nI j)) 39 0) = nI m from (by rw [sw_ne _ _ _ (by decide), sw_ne _ _ _ (by decide), hm])]
                  refine rw_go hX [(182, .iload 6), (184, .iastore)] (by decide +kernel) (Ps := [vp_in (nI m) 840]) (pc' := 185) (lv' := [(0, .ref 39), (1, .int (nI i)), (2, .int (nI j)), (3, .int (nI ls)), (4, .int (nI (min (na - i) (nb - j)))), (5, .int (bz (anB (σ 42) (σ 45) i j t))), (6, .int (nI t))]) (st' := []) (σ' := sw (sw (sw σ 46 m (nI i)) 47 m (nI j)) 48 (nI m).toNatClampNeg (nI t)) rfl (vp_in_nI (by omega) (by omega)) ?_
                  rw [show (sw (sw (sw σ 46 m (nI i)) 47 m (nI j)) 48 (nI m).toNatClampNeg (nI t)) = sw (sw (sw σ 46 m (nI i)) 47 m (nI j)) 48 m (nI t) from (by rw [nI_clamp (by omega)])]
                  refine rw_go hX [(185, .aload_n 0), (186, .getfield 41), (189, .aload_n 0), (190, .getfield 9)] (by decide +kernel) (Ps := []) (pc' := 193) (lv' := [(0, .ref 39), (1, .int (nI i)), (2, .int (nI j)), (3, .int (nI ls)), (4, .int (nI (min (na - i) (nb - j)))), (5, .int (bz (anB (σ 42) (σ 45) i j t))), (6, .int (nI t))]) (st' := [.int ((sw (sw (sw σ 46 m (nI i)) 47 m (nI j)) 48 m (nI t)) 39 0), .ref 51]) (σ' := sw (sw (sw σ 46 m (nI i)) 47 m (nI j)) 48 m (nI t)) rfl True.intro ?_
                  rw [show ((sw (sw (sw σ 46 m (nI i)) 47 m (nI j)) 48 m (nI t)) 39 0) = nI m from (by rw [sw_ne _ _ _ (by decide), sw_ne _ _ _ (by decide), sw_ne _ _ _ (by decide), hm])]
                  refine rw_go hX [(193, .iconst 0), (194, .bastore)] (by decide +kernel) (Ps := [vp_in (nI m) 840, (nI 0) = 0 ∨ (nI 0) = 1]) (pc' := 195) (lv' := [(0, .ref 39), (1, .int (nI i)), (2, .int (nI j)), (3, .int (nI ls)), (4, .int (nI (min (na - i) (nb - j)))), (5, .int (bz (anB (σ 42) (σ 45) i j t))), (6, .int (nI t))]) (st' := []) (σ' := sw (sw (sw (sw σ 46 m (nI i)) 47 m (nI j)) 48 m (nI t)) 51 (nI m).toNatClampNeg (nI 0)) rfl (⟨vp_in_nI (by omega) (by omega), Or.inl rfl⟩) ?_
                  rw [show (sw (sw (sw (sw σ 46 m (nI i)) 47 m (nI j)) 48 m (nI t)) 51 (nI m).toNatClampNeg (nI 0)) = sw (sw (sw (sw σ 46 m (nI i)) 47 m (nI j)) 48 m (nI t)) 51 m (nI 0) from (by rw [nI_clamp (by omega)])]
                  refine rw_go hX [(195, .aload_n 0), (196, .dup), (197, .getfield 9)] (by decide +kernel) (Ps := []) (pc' := 200) (lv' := [(0, .ref 39), (1, .int (nI i)), (2, .int (nI j)), (3, .int (nI ls)), (4, .int (nI (min (na - i) (nb - j)))), (5, .int (bz (anB (σ 42) (σ 45) i j t))), (6, .int (nI t))]) (st' := [.int ((sw (sw (sw (sw σ 46 m (nI i)) 47 m (nI j)) 48 m (nI t)) 51 m (nI 0)) 39 0), .ref 39]) (σ' := sw (sw (sw (sw σ 46 m (nI i)) 47 m (nI j)) 48 m (nI t)) 51 m (nI 0)) rfl True.intro ?_
                  rw [show ((sw (sw (sw (sw σ 46 m (nI i)) 47 m (nI j)) 48 m (nI t)) 51 m (nI 0)) 39 0) = nI m from (by rw [sw_ne _ _ _ (by decide), sw_ne _ _ _ (by decide), sw_ne _ _ _ (by decide), sw_ne _ _ _ (by decide), hm])]
                  refine rw_go hX [(200, .iconst 1), (201, .iadd)] (by decide +kernel) (Ps := []) (pc' := 202) (lv' := [(0, .ref 39), (1, .int (nI i)), (2, .int (nI j)), (3, .int (nI ls)), (4, .int (nI (min (na - i) (nb - j)))), (5, .int (bz (anB (σ 42) (σ 45) i j t))), (6, .int (nI t))]) (st' := [.int (nI m + nI 1), .ref 39]) (σ' := sw (sw (sw (sw σ 46 m (nI i)) 47 m (nI j)) 48 m (nI t)) 51 m (nI 0)) rfl True.intro ?_
                  rw [show (nI m + nI 1) = nI (m + 1) from nI_add m 1]
                  refine rw_go hX [(202, .putfield 9)] (by decide +kernel) (Ps := []) (pc' := 205) (lv' := [(0, .ref 39), (1, .int (nI i)), (2, .int (nI j)), (3, .int (nI ls)), (4, .int (nI (min (na - i) (nb - j)))), (5, .int (bz (anB (σ 42) (σ 45) i j t))), (6, .int (nI t))]) (st' := []) (σ' := sw (sw (sw (sw (sw σ 46 m (nI i)) 47 m (nI j)) 48 m (nI t)) 51 m (nI 0)) 39 0 (nI (m + 1))) rfl True.intro ?_
                  exact rw_vret hX (by decide +kernel) (by   rw [hrl] ; first | exact (if_neg (fun z => by rw [h128] at z; exact absurd z.1 (by decide))).symm | exact (if_neg (fun z => by omega)).symm | exact (if_pos ⟨h128, by omega, by omega⟩).symm)
        · replace h64 : ¬ (σ 41 (i + t) ≠ σ 44 (j + t)) := h64
          refine rw_go hX [(67, .aload_n 0), (68, .getfield 18), (71, .getfield 74), (74, .iload_n 1), (75, .iload 6), (77, .iadd)] (by decide +kernel) (Ps := []) (pc' := 78) (lv' := [(0, .ref 39), (1, .int (nI i)), (2, .int (nI j)), (3, .int (nI ls)), (4, .int (nI (min (na - i) (nb - j)))), (5, .int (bz (anB (σ 42) (σ 45) i j t))), (6, .int (nI t))]) (st' := [.int (nI i + nI t), .ref 42]) (σ' := σ) rfl True.intro ?_
          rw [show (nI i + nI t) = nI (i + t) from nI_add i t]
          refine rw_callSi hX (as := [.ref 42, .int (nI (i + t))]) (rest := []) (c_pick _ _ _ 42 50 (i + t) (by decide +kernel) (by omega) (by omega)) (by decide +kernel) msX9_pick (Or.inr lk2_64) rfl (by decide) (Nat.le_of_ble_eq_true rfl) rfl ?_
          intro r1 σ1 hr
          rw [hr.1, hr.2]
          clear hr σ1 r1
          refine rw_go hX [(81, .istore 7), (83, .iload 5)] (by decide +kernel) (Ps := []) (pc' := 85) (lv' := [(0, .ref 39), (1, .int (nI i)), (2, .int (nI j)), (3, .int (nI ls)), (4, .int (nI (min (na - i) (nb - j)))), (5, .int (bz (anB (σ 42) (σ 45) i j t))), (6, .int (nI t)), (7, .int (σ 42 (i + t)))]) (st' := [.int (bz (anB (σ 42) (σ 45) i j t))]) (σ' := σ) rfl True.intro ?_
          refine rw_if hX (tgt := 113) (cnd := .ne) (off := 28) (by decide +kernel) (by decide) (fun h85 => ?_) (fun h85 => ?_)
          · replace h85 := zb_neT h85
            have hab : bz (anB (σ 42) (σ 45) i j t || (decide (σ 42 (i + t) ≠ -(nI 1)) && decide (σ 42 (i + t) = σ 45 (j + t)))) = nI 1 := by rw [h85, Bool.true_or]; rfl
            refine rw_go hX [(113, .iconst 1), (114, .goto 4), (118, .istore 5), (120, .iinc 6 1), (123, .goto (-94))] (by decide +kernel) (Ps := []) (pc' := 29) (lv' := [(0, .ref 39), (1, .int (nI i)), (2, .int (nI j)), (3, .int (nI ls)), (4, .int (nI (min (na - i) (nb - j)))), (5, .int (nI 1)), (6, .int (nI t + nI 1)), (7, .int (σ 42 (i + t)))]) (st' := []) (σ' := σ) rfl True.intro ?_
            refine rw_lsub (ks := [0, 1, 2, 3, 4, 5, 6]) (lv' := [(0, .ref 39), (1, .int (nI i)), (2, .int (nI j)), (3, .int (nI ls)), (4, .int (nI (min (na - i) (nb - j)))), (5, .int (nI 1)), (6, .int (nI t + nI 1))]) rfl ?_
            have q := ih29 (min (na - i) (nb - j) - (t + 1)) (by omega) (t + 1) rfl (by omega) (lt_s hs (Classical.not_not.mp h64))
            rw [anB_1, hab] at q
            rw [nI_add]
            exact q
          · replace h85 := zb_neF h85
            refine rw_go hX [(88, .iload 7), (90, .iconst (-1))] (by decide +kernel) (Ps := []) (pc' := 91) (lv' := [(0, .ref 39), (1, .int (nI i)), (2, .int (nI j)), (3, .int (nI ls)), (4, .int (nI (min (na - i) (nb - j)))), (5, .int (bz (anB (σ 42) (σ 45) i j t))), (6, .int (nI t)), (7, .int (σ 42 (i + t)))]) (st' := [.int (-(nI 1)), .int (σ 42 (i + t))]) (σ' := σ) rfl True.intro ?_
            refine rw_icmp hX (tgt := 117) (cnd := .eq) (off := 26) (by decide +kernel) (by decide) (fun h91 => ?_) (fun h91 => ?_)
            · replace h91 : (σ 42 (i + t) = (-(nI 1))) := h91
              have hab : bz (anB (σ 42) (σ 45) i j t || (decide (σ 42 (i + t) ≠ -(nI 1)) && decide (σ 42 (i + t) = σ 45 (j + t)))) = nI 0 := by rw [h85, decide_eq_false (fun z => z h91)]; rfl
              refine rw_go hX [(117, .iconst 0), (118, .istore 5), (120, .iinc 6 1), (123, .goto (-94))] (by decide +kernel) (Ps := []) (pc' := 29) (lv' := [(0, .ref 39), (1, .int (nI i)), (2, .int (nI j)), (3, .int (nI ls)), (4, .int (nI (min (na - i) (nb - j)))), (5, .int (nI 0)), (6, .int (nI t + nI 1)), (7, .int (σ 42 (i + t)))]) (st' := []) (σ' := σ) rfl True.intro ?_
              refine rw_lsub (ks := [0, 1, 2, 3, 4, 5, 6]) (lv' := [(0, .ref 39), (1, .int (nI i)), (2, .int (nI j)), (3, .int (nI ls)), (4, .int (nI (min (na - i) (nb - j)))), (5, .int (nI 0)), (6, .int (nI t + nI 1))]) rfl ?_
              have q := ih29 (min (na - i) (nb - j) - (t + 1)) (by omega) (t + 1) rfl (by omega) (lt_s hs (Classical.not_not.mp h64))
              rw [anB_1, hab] at q
              rw [nI_add]
              exact q
            · replace h91 : ¬ (σ 42 (i + t) = (-(nI 1))) := h91
              refine rw_go hX [(94, .iload 7), (96, .aload_n 0), (97, .getfield 22), (100, .getfield 74), (103, .iload_n 2), (104, .iload 6), (106, .iadd)] (by decide +kernel) (Ps := []) (pc' := 107) (lv' := [(0, .ref 39), (1, .int (nI i)), (2, .int (nI j)), (3, .int (nI ls)), (4, .int (nI (min (na - i) (nb - j)))), (5, .int (bz (anB (σ 42) (σ 45) i j t))), (6, .int (nI t)), (7, .int (σ 42 (i + t)))]) (st' := [.int (nI j + nI t), .ref 45, .int (σ 42 (i + t))]) (σ' := σ) rfl True.intro ?_
              rw [show (nI j + nI t) = nI (j + t) from nI_add j t]
              refine rw_callSi hX (as := [.ref 45, .int (nI (j + t))]) (rest := [.int (σ 42 (i + t))]) (c_pick _ _ _ 45 50 (j + t) (by decide +kernel) (by omega) (by omega)) (by decide +kernel) msX9_pick (Or.inr lk2_64) rfl (by decide) (Nat.le_of_ble_eq_true rfl) rfl ?_
              intro r1 σ1 hr
              rw [hr.1, hr.2]
              clear hr σ1 r1
              refine rw_icmp hX (tgt := 117) (cnd := .ne) (off := 7) (by decide +kernel) (by decide) (fun h110 => ?_) (fun h110 => ?_)
              · replace h110 : (σ 42 (i + t) ≠ σ 45 (j + t)) := h110
                have hab : bz (anB (σ 42) (σ 45) i j t || (decide (σ 42 (i + t) ≠ -(nI 1)) && decide (σ 42 (i + t) = σ 45 (j + t)))) = nI 0 := by rw [h85, decide_eq_false (show ¬ σ 42 (i + t) = σ 45 (j + t) from h110), Bool.and_false]; rfl
                refine rw_go hX [(117, .iconst 0), (118, .istore 5), (120, .iinc 6 1), (123, .goto (-94))] (by decide +kernel) (Ps := []) (pc' := 29) (lv' := [(0, .ref 39), (1, .int (nI i)), (2, .int (nI j)), (3, .int (nI ls)), (4, .int (nI (min (na - i) (nb - j)))), (5, .int (nI 0)), (6, .int (nI t + nI 1)), (7, .int (σ 42 (i + t)))]) (st' := []) (σ' := σ) rfl True.intro ?_
                refine rw_lsub (ks := [0, 1, 2, 3, 4, 5, 6]) (lv' := [(0, .ref 39), (1, .int (nI i)), (2, .int (nI j)), (3, .int (nI ls)), (4, .int (nI (min (na - i) (nb - j)))), (5, .int (nI 0)), (6, .int (nI t + nI 1))]) rfl ?_
                have q := ih29 (min (na - i) (nb - j) - (t + 1)) (by omega) (t + 1) rfl (by omega) (lt_s hs (Classical.not_not.mp h64))
                rw [anB_1, hab] at q
                rw [nI_add]
                exact q
              · replace h110 : ¬ (σ 42 (i + t) ≠ σ 45 (j + t)) := h110
                have hab : bz (anB (σ 42) (σ 45) i j t || (decide (σ 42 (i + t) ≠ -(nI 1)) && decide (σ 42 (i + t) = σ 45 (j + t)))) = nI 1 := by rw [h85, decide_eq_true (show σ 42 (i + t) ≠ -(nI 1) from h91), decide_eq_true (Classical.not_not.mp h110)]; rfl
                refine rw_go hX [(113, .iconst 1), (114, .goto 4), (118, .istore 5), (120, .iinc 6 1), (123, .goto (-94))] (by decide +kernel) (Ps := []) (pc' := 29) (lv' := [(0, .ref 39), (1, .int (nI i)), (2, .int (nI j)), (3, .int (nI ls)), (4, .int (nI (min (na - i) (nb - j)))), (5, .int (nI 1)), (6, .int (nI t + nI 1)), (7, .int (σ 42 (i + t)))]) (st' := []) (σ' := σ) rfl True.intro ?_
                refine rw_lsub (ks := [0, 1, 2, 3, 4, 5, 6]) (lv' := [(0, .ref 39), (1, .int (nI i)), (2, .int (nI j)), (3, .int (nI ls)), (4, .int (nI (min (na - i) (nb - j)))), (5, .int (nI 1)), (6, .int (nI t + nI 1))]) rfl ?_
                have q := ih29 (min (na - i) (nb - j) - (t + 1)) (by omega) (t + 1) rfl (by omega) (lt_s hs (Classical.not_not.mp h64))
                rw [anB_1, hab] at q
                rw [nI_add]
                exact q
  refine rw_lsub (ks := [0, 1, 2, 3, 4, 5, 6]) (lv' := [(0, .ref 39), (1, .int (nI i)), (2, .int (nI j)), (3, .int (nI ls)), (4, .int (nI (min (na - i) (nb - j)))), (5, .int (nI 0)), (6, .int (nI 0))]) rfl ?_
  exact L29 (min (na - i) (nb - j)) 0 (by omega) (by omega) (fun s hs => absurd hs (by omega))
