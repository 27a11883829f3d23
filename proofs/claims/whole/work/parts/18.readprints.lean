/-- prints of a work of n grams -/
def rdP (rm rp : Nat) (w nn n : Nat) (σ : Mm) : Mm := if n = 0 then σ else sr σ rp (pP (fl (σ rp) (50 * w) (50 * w + n) (nI 0)) (σ rm) w (min nn n) (n - min nn n + 1))
theorem mn_min {a b : Nat} (ha : a < 2 ^ 31) (hb : b < 2 ^ 31) : (if nI b < nI a then nI b else nI a) = nI (min a b) := by
  rcases Nat.le_total a b with h | h
  · rw [mn_r h hb, Nat.min_eq_left h]
  · rw [mn_l h ha, Nat.min_eq_right h]
set_option maxRecDepth 20000 in
set_option maxHeartbeats 4000000 in
theorem c_readPrints (l : Launch) (G : Gl) (σ : Mm) (w nn n : Nat) (hw : w < 5) (hg0 : σ 25 w = nI n) (hn : n ≤ 50) (h1 : 1 ≤ nn) (h6 : nn ≤ 6) : AMv l G 3 mX3_readPrints [.ref 23, .int (nI w), .int (nI nn)] σ (fun σ' => σ' = rdP 28 30 w nn n σ) := by
  refine rw_inV 3 (by decide +kernel) rfl rfl ?_
  intro E hE hX
  subst hE
  refine rw_go hX [(0, .aload_n 0), (1, .iload_n 1)] (by decide +kernel) (Ps := []) (pc' := 2) (lv' := [(0, .ref 23), (1, .int (nI w)), (2, .int (nI nn))]) (st' := [.int (nI w), .ref 23]) (σ' := σ) rfl True.intro ?_
  refine rw_callVi hX (as := [.int (nI w)]) (rest := []) (c_gramCount _ _ _ w hw) (by decide +kernel) mvX3_gramCount lk3_79 (ci := 2) rfl rfl rfl (by decide) (Nat.le_of_ble_eq_true rfl) rfl ?_
  intro r1 σ1 hr
  rw [hr.1, hr.2, hg0]
  clear hr σ1 r1
  refine rw_go hX [(5, .istore_n 3), (6, .iload_n 2), (7, .iload_n 3)] (by decide +kernel) (Ps := []) (pc' := 8) (lv' := [(0, .ref 23), (1, .int (nI w)), (2, .int (nI nn)), (3, .int (nI n))]) (st' := [.int (nI n), .int (nI nn)]) (σ' := σ) rfl True.intro ?_
  refine rw_min hX (by decide +kernel) lk3_47 (Nat.le_of_ble_eq_true rfl) ?_
  rw [show (if nI n < nI nn then nI n else nI nn) = nI (min nn n) from mn_min (by omega) (by omega)]
  refine rw_go hX [(11, .istore 4), (13, .iconst 0), (14, .istore 5)] (by decide +kernel) (Ps := []) (pc' := 16) (lv' := [(0, .ref 23), (1, .int (nI w)), (2, .int (nI nn)), (3, .int (nI n)), (4, .int (nI (min nn n))), (5, .int (nI 0))]) (st' := []) (σ' := σ) rfl True.intro ?_
  have L16 : ∀ (μ16 : Nat) (g : Nat), μ16 = n - g → (g ≤ n) → RW E G 3 6 (QV E G (fun σ' => σ' = rdP 28 30 w nn n σ)) 16 [(0, .ref 23), (1, .int (nI w)), (2, .int (nI nn)), (3, .int (nI n)), (4, .int (nI (min nn n))), (5, .int (nI g))] [] (sr σ 30 (fl (σ 30) (50 * w) (50 * w + g) (nI 0))) := by
    intro μ16
    induction μ16 using Nat.strongRecOn with
    | ind μ16 ih16 =>
      intro g hμ16 hg
      refine rw_go hX [(16, .iload 5), (18, .iload_n 3)] (by decide +kernel) (Ps := []) (pc' := 19) (lv' := [(0, .ref 23), (1, .int (nI w)), (2, .int (nI nn)), (3, .int (nI n)), (4, .int (nI (min nn n))), (5, .int (nI g))]) (st' := [.int (nI n), .int (nI g)]) (σ' := sr σ 30 (fl (σ 30) (50 * w) (50 * w + g) (nI 0))) rfl True.intro ?_
      refine rw_icmp hX (tgt := 36) (cnd := .ge) (off := 17) (by decide +kernel) (by decide) (fun h19 => ?_) (fun h19 => ?_)
      · replace h19 := c2_geT h19
        have e : g = n := by omega
        rw [show (fl (σ 30) (50 * w) (50 * w + g) (nI 0)) = fl (σ 30) (50 * w) (50 * w + n) (nI 0) from (by rw [e])]
        refine rw_go hX [(36, .iload 4)] (by decide +kernel) (Ps := []) (pc' := 38) (lv' := [(0, .ref 23), (1, .int (nI w)), (2, .int (nI nn)), (3, .int (nI n)), (4, .int (nI (min nn n))), (5, .int (nI g))]) (st' := [.int (nI (min nn n))]) (σ' := sr σ 30 (fl (σ 30) (50 * w) (50 * w + n) (nI 0))) rfl True.intro ?_
        refine rw_if hX (tgt := 42) (cnd := .gt) (off := 4) (by decide +kernel) (by decide) (fun h38 => ?_) (fun h38 => ?_)
        · replace h38 := zn_gtT h38
          refine rw_go hX [(42, .iconst 0), (43, .istore 5)] (by decide +kernel) (Ps := []) (pc' := 45) (lv' := [(0, .ref 23), (1, .int (nI w)), (2, .int (nI nn)), (3, .int (nI n)), (4, .int (nI (min nn n))), (5, .int (nI 0))]) (st' := []) (σ' := sr σ 30 (fl (σ 30) (50 * w) (50 * w + n) (nI 0))) rfl True.intro ?_
          have L45 : ∀ (μ45 : Nat) (j : Nat), μ45 = n + 1 - j → (j ≤ n - min nn n + 1) → RW E G 3 6 (QV E G (fun σ' => σ' = rdP 28 30 w nn n σ)) 45 [(0, .ref 23), (1, .int (nI w)), (2, .int (nI nn)), (3, .int (nI n)), (4, .int (nI (min nn n))), (5, .int (nI j))] [] (sr σ 30 (pP (fl (σ 30) (50 * w) (50 * w + n) (nI 0)) (σ 28) w (min nn n) j)) := by
            intro μ45
            induction μ45 using Nat.strongRecOn with
            | ind μ45 ih45 =>
              intro j hμ45 hj
              refine rw_go hX [(45, .iload 5), (47, .iload_n 3), (48, .iload 4), (50, .isub)] (by decide +kernel) (Ps := []) (pc' := 51) (lv' := [(0, .ref 23), (1, .int (nI w)), (2, .int (nI nn)), (3, .int (nI n)), (4, .int (nI (min nn n))), (5, .int (nI j))]) (st' := [.int (nI n - nI (min nn n)), .int (nI j)]) (σ' := sr σ 30 (pP (fl (σ 30) (50 * w) (50 * w + n) (nI 0)) (σ 28) w (min nn n) j)) rfl True.intro ?_
              rw [show (nI n - nI (min nn n)) = nI (n - min nn n) from pk_sub (Nat.min_le_right _ _)]
              refine rw_icmp hX (tgt := 75) (cnd := .gt) (off := 24) (by decide +kernel) (by decide) (fun h51 => ?_) (fun h51 => ?_)
              · replace h51 := c2_gtT h51
                have e2 : j = n - min nn n + 1 := by omega
                exact rw_vret hX (by decide +kernel) (by rw [e2]; exact (if_neg (by omega)).symm)
              · replace h51 := c2_gtF h51
                have hlj := llS_in (σ 28) (50 * w) j (min nn n - 1)
                refine rw_go hX [(54, .aload_n 0), (55, .iload_n 1), (56, .aload_n 0), (57, .iload_n 1), (58, .iload 5), (60, .iload 4)] (by decide +kernel) (Ps := []) (pc' := 62) (lv' := [(0, .ref 23), (1, .int (nI w)), (2, .int (nI nn)), (3, .int (nI n)), (4, .int (nI (min nn n))), (5, .int (nI j))]) (st' := [.int (nI (min nn n)), .int (nI j), .int (nI w), .ref 23, .int (nI w), .ref 23]) (σ' := sr σ 30 (pP (fl (σ 30) (50 * w) (50 * w + n) (nI 0)) (σ 28) w (min nn n) j)) rfl True.intro ?_
                refine rw_callVi hX (as := [.int (nI w), .int (nI j), .int (nI (min nn n))]) (rest := [.int (nI w), .ref 23]) (c_lastOfLeast _ _ _ w j (min nn n) hw (by omega) (by omega)) (by decide +kernel) mvX3_lastOfLeast lk3_86 (ci := 2) rfl rfl rfl (by decide) (Nat.le_of_ble_eq_true rfl) rfl ?_
                intro r1 σ1 hr
                rw [hr.1, hr.2]
                clear hr σ1 r1
                refine rw_go hX [(65, .iconst 1)] (by decide +kernel) (Ps := []) (pc' := 66) (lv' := [(0, .ref 23), (1, .int (nI w)), (2, .int (nI nn)), (3, .int (nI n)), (4, .int (nI (min nn n))), (5, .int (nI j))]) (st' := [.int (nI 1), .int (nI (llS ((sr σ 30 (pP (fl (σ 30) (50 * w) (50 * w + n) (nI 0)) (σ 28) w (min nn n) j)) 28) (50 * w) j (min nn n - 1))), .int (nI w), .ref 23]) (σ' := sr σ 30 (pP (fl (σ 30) (50 * w) (50 * w + n) (nI 0)) (σ 28) w (min nn n) j)) rfl True.intro ?_
                refine rw_callVv hX (as := [.int (nI w), .int (nI (llS ((sr σ 30 (pP (fl (σ 30) (50 * w) (50 * w + n) (nI 0)) (σ 28) w (min nn n) j)) 28) (50 * w) j (min nn n - 1))), .int (nI 1)]) (rest := []) (c_setPrint _ _ _ w (llS ((sr σ 30 (pP (fl (σ 30) (50 * w) (50 * w + n) (nI 0)) (σ 28) w (min nn n) j)) 28) (50 * w) j (min nn n - 1)) (nI 1) hw (by rw [sr_n _ _ (by decide)]; omega) (Or.inr rfl)) (by decide +kernel) mvX3_setPrint lk3_82 (ci := 2) rfl rfl rfl (by decide) (Nat.le_of_ble_eq_true rfl) rfl ?_
                intro σ1 hr
                rw [hr]
                clear hr σ1
                refine rw_go hX [(69, .iinc 5 1), (72, .goto (-27))] (by decide +kernel) (Ps := []) (pc' := 45) (lv' := [(0, .ref 23), (1, .int (nI w)), (2, .int (nI nn)), (3, .int (nI n)), (4, .int (nI (min nn n))), (5, .int (nI j + nI 1))]) (st' := []) (σ' := sw (sr σ 30 (pP (fl (σ 30) (50 * w) (50 * w + n) (nI 0)) (σ 28) w (min nn n) j)) 30 (50 * w + llS ((sr σ 30 (pP (fl (σ 30) (50 * w) (50 * w + n) (nI 0)) (σ 28) w (min nn n) j)) 28) (50 * w) j (min nn n - 1)) (nI 1)) rfl True.intro ?_
                refine rw_lsub (ks := [0, 1, 2, 3, 4, 5]) (lv' := [(0, .ref 23), (1, .int (nI w)), (2, .int (nI nn)), (3, .int (nI n)), (4, .int (nI (min nn n))), (5, .int (nI j + nI 1))]) rfl ?_
                have q := ih45 (n + 1 - (j + 1)) (by omega) (j + 1) rfl (by omega)
                rw [pP_1] at q
                rw [nI_add, sw_sr, sr_n _ _ (by decide)]
                exact q
          refine rw_lsub (ks := [0, 1, 2, 3, 4, 5]) (lv' := [(0, .ref 23), (1, .int (nI w)), (2, .int (nI nn)), (3, .int (nI n)), (4, .int (nI (min nn n))), (5, .int (nI 0))]) rfl ?_
          exact L45 (n + 1) 0 rfl (by omega)
        · replace h38 := zn_gtF h38
          exact rw_vret hX (by decide +kernel) (by rw [show n = 0 from (by omega), Nat.add_zero, fl_0, sr_id]; exact (if_pos rfl).symm)
      · replace h19 := c2_geF h19
        refine rw_go hX [(22, .aload_n 0), (23, .iload_n 1), (24, .iload 5), (26, .iconst 0)] (by decide +kernel) (Ps := []) (pc' := 27) (lv' := [(0, .ref 23), (1, .int (nI w)), (2, .int (nI nn)), (3, .int (nI n)), (4, .int (nI (min nn n))), (5, .int (nI g))]) (st' := [.int (nI 0), .int (nI g), .int (nI w), .ref 23]) (σ' := sr σ 30 (fl (σ 30) (50 * w) (50 * w + g) (nI 0))) rfl True.intro ?_
        refine rw_callVv hX (as := [.int (nI w), .int (nI g), .int (nI 0)]) (rest := []) (c_setPrint _ _ _ w g (nI 0) hw (by omega) (Or.inl rfl)) (by decide +kernel) mvX3_setPrint lk3_82 (ci := 2) rfl rfl rfl (by decide) (Nat.le_of_ble_eq_true rfl) rfl ?_
        intro σ1 hr
        rw [hr]
        clear hr σ1
        refine rw_go hX [(30, .iinc 5 1), (33, .goto (-17))] (by decide +kernel) (Ps := []) (pc' := 16) (lv' := [(0, .ref 23), (1, .int (nI w)), (2, .int (nI nn)), (3, .int (nI n)), (4, .int (nI (min nn n))), (5, .int (nI g + nI 1))]) (st' := []) (σ' := sw (sr σ 30 (fl (σ 30) (50 * w) (50 * w + g) (nI 0))) 30 (50 * w + g) (nI 0)) rfl True.intro ?_
        refine rw_lsub (ks := [0, 1, 2, 3, 4, 5]) (lv' := [(0, .ref 23), (1, .int (nI w)), (2, .int (nI nn)), (3, .int (nI n)), (4, .int (nI (min nn n))), (5, .int (nI g + nI 1))]) rfl ?_
        rw [nI_add, sw_sr, fl_1 _ _ (by omega)]
        exact ih16 (n - (g + 1)) (by omega) (g + 1) rfl (by omega)
  refine rw_lsub (ks := [0, 1, 2, 3, 4, 5]) (lv' := [(0, .ref 23), (1, .int (nI w)), (2, .int (nI nn)), (3, .int (nI n)), (4, .int (nI (min nn n))), (5, .int (nI 0))]) rfl ?_
  have q := L16 n 0 rfl (by omega)
  rw [Nat.add_zero, fl_0, sr_id] at q
  exact q
