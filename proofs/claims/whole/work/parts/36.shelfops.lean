/-! shelves: taken, counted, made, spliced, cut, drawn -/
theorem cB_y {b : Nat → Bool} {k : Nat} (h : b k = true) : cB b (k + 1) = cB b k + 1 := by rw [cB_1, if_pos h]
theorem cB_n {b : Nat → Bool} {k : Nat} (h : b k = false) : cB b (k + 1) = cB b k := by rw [cB_1, if_neg (by rw [h]; decide), Nat.add_zero]
def tkM (a b : Nat) (σ : Mm) : Mm := sr (sr (sr (sr (sr σ (b + 1) (σ (a + 1))) (b + 2) (σ (a + 2))) (b + 3) (σ (a + 3))) (b + 4) (σ (a + 4))) (b + 5) (σ (a + 5))
def nz (z : Int32) : Int32 := z * 1103515245 + nI 12345
def zs (z : Int32) : Nat → Int32
  | 0 => z
  | i + 1 => nz (nz (zs z i))
theorem zs_1 (z : Int32) (i : Nat) : nz (nz (zs z i)) = zs z (i + 1) := rfl
def u9 (z : Int32) : Nat := z.toBitVec.toNat / 2 ^ 9
theorem u9_lt (z : Int32) : u9 z < 2 ^ 23 := Nat.div_lt_of_lt_mul (by have := z.toBitVec.isLt; omega)
theorem u9_eq (z : Int32) : (z.toUInt32 >>> ((nI 9).toUInt32 &&& Int32.toUInt32 31)).toInt32 = nI (u9 z) := by
  apply Int32.toBitVec_inj.mp
  apply BitVec.eq_of_toNat_eq
  rw [pk_ushr z (nI 9) 9 (by decide +kernel), pk_tn (Nat.lt_trans (u9_lt z) (by decide))]
  rfl
def drR (f : Nat → Int32) (w s : Nat) (z : Int32) : Nat → (Nat → Int32)
  | 0 => f
  | i + 1 => upd (drR f w s z i) (50 * w + u9 (nz (zs z i)) % s) (nI (97 + u9 (nz (nz (zs z i))) % 26))
theorem drR_1 (f : Nat → Int32) (w s : Nat) (z : Int32) (i : Nat) : upd (drR f w s z i) (50 * w + u9 (nz (zs z i)) % s) (nI (97 + u9 (nz (nz (zs z i))) % 26)) = drR f w s z (i + 1) := rfl
def insH (w x fr n : Nat) (σ : Mm) : Nat → Int32 := va_cpy (σ 2) (σ 7) (50 * x + fr) 0 n
def insB (w at_ x fr n s : Nat) (σ : Mm) : Nat → Int32 := va_cpy (insH w x fr n σ) (va_cpy (σ 2) (σ 2) (50 * w + at_) (50 * w + at_ + n) (s - at_)) 0 (50 * w + at_) n
def ovL : Nat → Option Nat
  | 0 => none
  | 1 => some 0
  | 2 => some 0
  | 3 => some 2
  | 4 => some 1
  | _ => some 1
def und (k : Nat) : Nat → Option Nat → Bool
  | 0, _ => false
  | _ + 1, none => false
  | n + 1, some w => if w = k then true else und k n (ovL w)
theorem und_n (k n : Nat) : und k (n + 1) none = false := rfl
theorem und_s (k n w : Nat) : und k (n + 1) (some w) = if w = k then true else und k n (ovL w) := rfl
def undK (i k : Nat) : Bool := decide (i = k) || (decide (k = 0) || (decide (k = 1) && decide (3 < i) || decide (k = 2) && decide (i = 3)))
theorem und_K : ∀ i, i < 6 → ∀ k, k < 6 → und k 6 (some i) = undK i k := by decide
theorem ovL_6 {w v : Nat} (hw : w < 6) (h : ovL w = some v) : v < 6 := by
  rcases (show w = 0 ∨ w = 1 ∨ w = 2 ∨ w = 3 ∨ w = 4 ∨ w = 5 by omega) with rfl | rfl | rfl | rfl | rfl | rfl <;> (first | cases h | skip) <;> omega
theorem stL_ov {w : Nat} (hw : w < 6) : (stL 0).getD (nI w).toNatClampNeg 0 = en (ovL w) := by
  rcases (show w = 0 ∨ w = 1 ∨ w = 2 ∨ w = 3 ∨ w = 4 ∨ w = 5 by omega) with rfl | rfl | rfl | rfl | rfl | rfl <;> decide +kernel
theorem isK_en {x : Option Nat} (h : ∀ w, x = some w → w < 6) : decide (0 ≤ en x ∧ en x ≤ 5) = x.isSome := by
  cases x with
  | none => decide +kernel
  | some w => exact decide_eq_true ⟨nI_pos' (by have := h w rfl; omega), nI_le (b := 5) (by have := h w rfl; omega) (by omega)⟩
set_option maxRecDepth 20000 in
set_option maxHeartbeats 4000000 in
theorem c_take_15_1 (l : Launch) (G : Gl) (σ : Mm) : AMv l G 0 mX5_take [.ref 15, .ref 1] σ (fun σ' => σ' = tkM 1 15 σ) := by
  refine rw_inV 5 (by decide +kernel) rfl rfl ?_
  intro E hE hX
  subst hE
  refine rw_go hX [(0, .aload_n 1), (1, .getfield 9), (4, .iconst 0), (5, .aload_n 0), (6, .getfield 9), (9, .iconst 0), (10, .sipush 250)] (by decide +kernel) (Ps := []) (pc' := 13) (lv' := [(0, .ref 15), (1, .ref 1)]) (st' := [.int (nI 250), .int (nI 0), .ref 16, .int (nI 0), .ref 2]) (σ' := σ) rfl True.intro ?_
  refine rw_cpyA hX (n0 := 250) (by decide +kernel) lk5_30 rfl rfl (by decide) (Nat.le_of_ble_eq_true rfl) ?_
  refine rw_go hX [(16, .aload_n 1), (17, .getfield 15), (20, .iconst 0), (21, .aload_n 0), (22, .getfield 15), (25, .iconst 0), (26, .iconst 5)] (by decide +kernel) (Ps := []) (pc' := 27) (lv' := [(0, .ref 15), (1, .ref 1)]) (st' := [.int (nI 5), .int (nI 0), .ref 17, .int (nI 0), .ref 3]) (σ' := sr σ 16 (σ 2)) rfl True.intro ?_
  refine rw_cpyA hX (n0 := 5) (by decide +kernel) lk5_30 rfl rfl (by decide) (Nat.le_of_ble_eq_true rfl) ?_
  refine rw_go hX [(30, .aload_n 1), (31, .getfield 18), (34, .iconst 0), (35, .aload_n 0), (36, .getfield 18), (39, .iconst 0), (40, .iconst 5)] (by decide +kernel) (Ps := []) (pc' := 41) (lv' := [(0, .ref 15), (1, .ref 1)]) (st' := [.int (nI 5), .int (nI 0), .ref 18, .int (nI 0), .ref 4]) (σ' := sr (sr σ 16 (σ 2)) 17 ((sr σ 16 (σ 2)) 3)) rfl True.intro ?_
  refine rw_cpyA hX (n0 := 5) (by decide +kernel) lk5_30 rfl rfl (by decide) (Nat.le_of_ble_eq_true rfl) ?_
  refine rw_go hX [(44, .aload_n 1), (45, .getfield 21), (48, .iconst 0), (49, .aload_n 0), (50, .getfield 21), (53, .iconst 0), (54, .iconst 5)] (by decide +kernel) (Ps := []) (pc' := 55) (lv' := [(0, .ref 15), (1, .ref 1)]) (st' := [.int (nI 5), .int (nI 0), .ref 19, .int (nI 0), .ref 5]) (σ' := sr (sr (sr σ 16 (σ 2)) 17 ((sr σ 16 (σ 2)) 3)) 18 ((sr (sr σ 16 (σ 2)) 17 ((sr σ 16 (σ 2)) 3)) 4)) rfl True.intro ?_
  refine rw_cpyA hX (n0 := 5) (by decide +kernel) lk5_30 rfl rfl (by decide) (Nat.le_of_ble_eq_true rfl) ?_
  refine rw_go hX [(58, .aload_n 1), (59, .getfield 24), (62, .iconst 0), (63, .aload_n 0), (64, .getfield 24), (67, .iconst 0), (68, .bipush 6)] (by decide +kernel) (Ps := []) (pc' := 70) (lv' := [(0, .ref 15), (1, .ref 1)]) (st' := [.int (nI 6), .int (nI 0), .ref 20, .int (nI 0), .ref 6]) (σ' := sr (sr (sr (sr σ 16 (σ 2)) 17 ((sr σ 16 (σ 2)) 3)) 18 ((sr (sr σ 16 (σ 2)) 17 ((sr σ 16 (σ 2)) 3)) 4)) 19 ((sr (sr (sr σ 16 (σ 2)) 17 ((sr σ 16 (σ 2)) 3)) 18 ((sr (sr σ 16 (σ 2)) 17 ((sr σ 16 (σ 2)) 3)) 4)) 5)) rfl True.intro ?_
  refine rw_cpyA hX (n0 := 6) (by decide +kernel) lk5_30 rfl rfl (by decide) (Nat.le_of_ble_eq_true rfl) ?_
  exact rw_vret hX (by decide +kernel) (by
  unfold tkM
  rw [sr_n _ _ (show 6 ≠ 19 by decide), sr_n _ _ (show 6 ≠ 18 by decide), sr_n _ _ (show 6 ≠ 17 by decide), sr_n _ _ (show 6 ≠ 16 by decide), sr_n _ _ (show 5 ≠ 18 by decide), sr_n _ _ (show 5 ≠ 17 by decide), sr_n _ _ (show 5 ≠ 16 by decide), sr_n _ _ (show 4 ≠ 17 by decide), sr_n _ _ (show 4 ≠ 16 by decide), sr_n _ _ (show 3 ≠ 16 by decide)])
set_option maxRecDepth 20000 in
set_option maxHeartbeats 4000000 in
theorem c_take_8_1 (l : Launch) (G : Gl) (σ : Mm) : AMv l G 0 mX5_take [.ref 8, .ref 1] σ (fun σ' => σ' = tkM 1 8 σ) := by
  refine rw_inV 5 (by decide +kernel) rfl rfl ?_
  intro E hE hX
  subst hE
  refine rw_go hX [(0, .aload_n 1), (1, .getfield 9), (4, .iconst 0), (5, .aload_n 0), (6, .getfield 9), (9, .iconst 0), (10, .sipush 250)] (by decide +kernel) (Ps := []) (pc' := 13) (lv' := [(0, .ref 8), (1, .ref 1)]) (st' := [.int (nI 250), .int (nI 0), .ref 9, .int (nI 0), .ref 2]) (σ' := σ) rfl True.intro ?_
  refine rw_cpyA hX (n0 := 250) (by decide +kernel) lk5_30 rfl rfl (by decide) (Nat.le_of_ble_eq_true rfl) ?_
  refine rw_go hX [(16, .aload_n 1), (17, .getfield 15), (20, .iconst 0), (21, .aload_n 0), (22, .getfield 15), (25, .iconst 0), (26, .iconst 5)] (by decide +kernel) (Ps := []) (pc' := 27) (lv' := [(0, .ref 8), (1, .ref 1)]) (st' := [.int (nI 5), .int (nI 0), .ref 10, .int (nI 0), .ref 3]) (σ' := sr σ 9 (σ 2)) rfl True.intro ?_
  refine rw_cpyA hX (n0 := 5) (by decide +kernel) lk5_30 rfl rfl (by decide) (Nat.le_of_ble_eq_true rfl) ?_
  refine rw_go hX [(30, .aload_n 1), (31, .getfield 18), (34, .iconst 0), (35, .aload_n 0), (36, .getfield 18), (39, .iconst 0), (40, .iconst 5)] (by decide +kernel) (Ps := []) (pc' := 41) (lv' := [(0, .ref 8), (1, .ref 1)]) (st' := [.int (nI 5), .int (nI 0), .ref 11, .int (nI 0), .ref 4]) (σ' := sr (sr σ 9 (σ 2)) 10 ((sr σ 9 (σ 2)) 3)) rfl True.intro ?_
  refine rw_cpyA hX (n0 := 5) (by decide +kernel) lk5_30 rfl rfl (by decide) (Nat.le_of_ble_eq_true rfl) ?_
  refine rw_go hX [(44, .aload_n 1), (45, .getfield 21), (48, .iconst 0), (49, .aload_n 0), (50, .getfield 21), (53, .iconst 0), (54, .iconst 5)] (by decide +kernel) (Ps := []) (pc' := 55) (lv' := [(0, .ref 8), (1, .ref 1)]) (st' := [.int (nI 5), .int (nI 0), .ref 12, .int (nI 0), .ref 5]) (σ' := sr (sr (sr σ 9 (σ 2)) 10 ((sr σ 9 (σ 2)) 3)) 11 ((sr (sr σ 9 (σ 2)) 10 ((sr σ 9 (σ 2)) 3)) 4)) rfl True.intro ?_
  refine rw_cpyA hX (n0 := 5) (by decide +kernel) lk5_30 rfl rfl (by decide) (Nat.le_of_ble_eq_true rfl) ?_
  refine rw_go hX [(58, .aload_n 1), (59, .getfield 24), (62, .iconst 0), (63, .aload_n 0), (64, .getfield 24), (67, .iconst 0), (68, .bipush 6)] (by decide +kernel) (Ps := []) (pc' := 70) (lv' := [(0, .ref 8), (1, .ref 1)]) (st' := [.int (nI 6), .int (nI 0), .ref 13, .int (nI 0), .ref 6]) (σ' := sr (sr (sr (sr σ 9 (σ 2)) 10 ((sr σ 9 (σ 2)) 3)) 11 ((sr (sr σ 9 (σ 2)) 10 ((sr σ 9 (σ 2)) 3)) 4)) 12 ((sr (sr (sr σ 9 (σ 2)) 10 ((sr σ 9 (σ 2)) 3)) 11 ((sr (sr σ 9 (σ 2)) 10 ((sr σ 9 (σ 2)) 3)) 4)) 5)) rfl True.intro ?_
  refine rw_cpyA hX (n0 := 6) (by decide +kernel) lk5_30 rfl rfl (by decide) (Nat.le_of_ble_eq_true rfl) ?_
  exact rw_vret hX (by decide +kernel) (by
  unfold tkM
  rw [sr_n _ _ (show 6 ≠ 12 by decide), sr_n _ _ (show 6 ≠ 11 by decide), sr_n _ _ (show 6 ≠ 10 by decide), sr_n _ _ (show 6 ≠ 9 by decide), sr_n _ _ (show 5 ≠ 11 by decide), sr_n _ _ (show 5 ≠ 10 by decide), sr_n _ _ (show 5 ≠ 9 by decide), sr_n _ _ (show 4 ≠ 10 by decide), sr_n _ _ (show 4 ≠ 9 by decide), sr_n _ _ (show 3 ≠ 9 by decide)])
set_option maxRecDepth 20000 in
set_option maxHeartbeats 4000000 in
theorem c_take_1_8 (l : Launch) (G : Gl) (σ : Mm) : AMv l G 0 mX5_take [.ref 1, .ref 8] σ (fun σ' => σ' = tkM 8 1 σ) := by
  refine rw_inV 5 (by decide +kernel) rfl rfl ?_
  intro E hE hX
  subst hE
  refine rw_go hX [(0, .aload_n 1), (1, .getfield 9), (4, .iconst 0), (5, .aload_n 0), (6, .getfield 9), (9, .iconst 0), (10, .sipush 250)] (by decide +kernel) (Ps := []) (pc' := 13) (lv' := [(0, .ref 1), (1, .ref 8)]) (st' := [.int (nI 250), .int (nI 0), .ref 2, .int (nI 0), .ref 9]) (σ' := σ) rfl True.intro ?_
  refine rw_cpyA hX (n0 := 250) (by decide +kernel) lk5_30 rfl rfl (by decide) (Nat.le_of_ble_eq_true rfl) ?_
  refine rw_go hX [(16, .aload_n 1), (17, .getfield 15), (20, .iconst 0), (21, .aload_n 0), (22, .getfield 15), (25, .iconst 0), (26, .iconst 5)] (by decide +kernel) (Ps := []) (pc' := 27) (lv' := [(0, .ref 1), (1, .ref 8)]) (st' := [.int (nI 5), .int (nI 0), .ref 3, .int (nI 0), .ref 10]) (σ' := sr σ 2 (σ 9)) rfl True.intro ?_
  refine rw_cpyA hX (n0 := 5) (by decide +kernel) lk5_30 rfl rfl (by decide) (Nat.le_of_ble_eq_true rfl) ?_
  refine rw_go hX [(30, .aload_n 1), (31, .getfield 18), (34, .iconst 0), (35, .aload_n 0), (36, .getfield 18), (39, .iconst 0), (40, .iconst 5)] (by decide +kernel) (Ps := []) (pc' := 41) (lv' := [(0, .ref 1), (1, .ref 8)]) (st' := [.int (nI 5), .int (nI 0), .ref 4, .int (nI 0), .ref 11]) (σ' := sr (sr σ 2 (σ 9)) 3 ((sr σ 2 (σ 9)) 10)) rfl True.intro ?_
  refine rw_cpyA hX (n0 := 5) (by decide +kernel) lk5_30 rfl rfl (by decide) (Nat.le_of_ble_eq_true rfl) ?_
  refine rw_go hX [(44, .aload_n 1), (45, .getfield 21), (48, .iconst 0), (49, .aload_n 0), (50, .getfield 21), (53, .iconst 0), (54, .iconst 5)] (by decide +kernel) (Ps := []) (pc' := 55) (lv' := [(0, .ref 1), (1, .ref 8)]) (st' := [.int (nI 5), .int (nI 0), .ref 5, .int (nI 0), .ref 12]) (σ' := sr (sr (sr σ 2 (σ 9)) 3 ((sr σ 2 (σ 9)) 10)) 4 ((sr (sr σ 2 (σ 9)) 3 ((sr σ 2 (σ 9)) 10)) 11)) rfl True.intro ?_
  refine rw_cpyA hX (n0 := 5) (by decide +kernel) lk5_30 rfl rfl (by decide) (Nat.le_of_ble_eq_true rfl) ?_
  refine rw_go hX [(58, .aload_n 1), (59, .getfield 24), (62, .iconst 0), (63, .aload_n 0), (64, .getfield 24), (67, .iconst 0), (68, .bipush 6)] (by decide +kernel) (Ps := []) (pc' := 70) (lv' := [(0, .ref 1), (1, .ref 8)]) (st' := [.int (nI 6), .int (nI 0), .ref 6, .int (nI 0), .ref 13]) (σ' := sr (sr (sr (sr σ 2 (σ 9)) 3 ((sr σ 2 (σ 9)) 10)) 4 ((sr (sr σ 2 (σ 9)) 3 ((sr σ 2 (σ 9)) 10)) 11)) 5 ((sr (sr (sr σ 2 (σ 9)) 3 ((sr σ 2 (σ 9)) 10)) 4 ((sr (sr σ 2 (σ 9)) 3 ((sr σ 2 (σ 9)) 10)) 11)) 12)) rfl True.intro ?_
  refine rw_cpyA hX (n0 := 6) (by decide +kernel) lk5_30 rfl rfl (by decide) (Nat.le_of_ble_eq_true rfl) ?_
  exact rw_vret hX (by decide +kernel) (by
  unfold tkM
  rw [sr_n _ _ (show 13 ≠ 5 by decide), sr_n _ _ (show 13 ≠ 4 by decide), sr_n _ _ (show 13 ≠ 3 by decide), sr_n _ _ (show 13 ≠ 2 by decide), sr_n _ _ (show 12 ≠ 4 by decide), sr_n _ _ (show 12 ≠ 3 by decide), sr_n _ _ (show 12 ≠ 2 by decide), sr_n _ _ (show 11 ≠ 3 by decide), sr_n _ _ (show 11 ≠ 2 by decide), sr_n _ _ (show 10 ≠ 2 by decide)])
set_option maxRecDepth 20000 in
set_option maxHeartbeats 4000000 in
theorem c_worksThere (l : Launch) (G : Gl) (σ : Mm) (s : Nat → Nat) (hs : ∀ w, w < 5 → σ 3 w = nI (s w) ∧ s w ≤ 50) : AMi l G 1 mX5_worksThere [.ref 1] σ (fun r σ' => σ' = σ ∧ r = nI (cB (fun w => decide (0 < s w)) 5)) := by
  refine rw_inI 5 (by decide +kernel) rfl rfl ?_
  intro E hE hX
  subst hE
  refine rw_go hX [(0, .iconst 0), (1, .istore_n 1), (2, .aload_n 0), (3, .getfield 15), (6, .astore_n 2), (7, .aload_n 2), (8, .arraylength), (9, .istore_n 3), (10, .iconst 0), (11, .istore 4)] (by decide +kernel) (Ps := []) (pc' := 13) (lv' := [(0, .ref 1), (1, .int (nI 0)), (2, .ref 3), (3, .int (nI 5)), (4, .int (nI 0))]) (st' := []) (σ' := σ) rfl True.intro ?_
  have L13 : ∀ (μ13 : Nat) (w : Nat), μ13 = 5 - w → (w ≤ 5) → RW E G 1 6 (QI E G (fun r σ' => σ' = σ ∧ r = nI (cB (fun w => decide (0 < s w)) 5))) 13 [(0, .ref 1), (1, .int (nI (cB (fun w => decide (0 < s w)) w))), (2, .ref 3), (3, .int (nI 5)), (4, .int (nI w))] [] σ := by
    intro μ13
    induction μ13 using Nat.strongRecOn with
    | ind μ13 ih13 =>
      intro w hμ13 hw
      refine rw_go hX [(13, .iload 4), (15, .iload_n 3)] (by decide +kernel) (Ps := []) (pc' := 16) (lv' := [(0, .ref 1), (1, .int (nI (cB (fun w => decide (0 < s w)) w))), (2, .ref 3), (3, .int (nI 5)), (4, .int (nI w))]) (st' := [.int (nI 5), .int (nI w)]) (σ' := σ) rfl True.intro ?_
      refine rw_icmp hX (tgt := 47) (cnd := .ge) (off := 31) (by decide +kernel) (by decide) (fun h16 => ?_) (fun h16 => ?_)
      · replace h16 := c2_geT h16
        have e : w = 5 := by omega
        refine rw_go hX [(47, .iload_n 1)] (by decide +kernel) (Ps := []) (pc' := 48) (lv' := [(0, .ref 1), (1, .int (nI (cB (fun w => decide (0 < s w)) w))), (2, .ref 3), (3, .int (nI 5)), (4, .int (nI w))]) (st' := [.int (nI (cB (fun w => decide (0 < s w)) w))]) (σ' := σ) rfl True.intro ?_
        exact rw_iret hX (by decide +kernel) (⟨rfl, by rw [e]⟩)
      · replace h16 := c2_geF h16
        refine rw_go hX [(19, .aload_n 2), (20, .iload 4)] (by decide +kernel) (Ps := []) (pc' := 22) (lv' := [(0, .ref 1), (1, .int (nI (cB (fun w => decide (0 < s w)) w))), (2, .ref 3), (3, .int (nI 5)), (4, .int (nI w))]) (st' := [.int (nI w), .ref 3]) (σ' := σ) rfl True.intro ?_
        have hs1 := (hs w h16).2
        refine rw_go hX [(22, .iaload)] (by decide +kernel) (Ps := [vp_in (nI w) 5]) (pc' := 23) (lv' := [(0, .ref 1), (1, .int (nI (cB (fun w => decide (0 < s w)) w))), (2, .ref 3), (3, .int (nI 5)), (4, .int (nI w))]) (st' := [.int (σ 3 (nI w).toNatClampNeg)]) (σ' := σ) rfl (vp_in_nI (by omega) (by omega)) ?_
        rw [show (σ 3 (nI w).toNatClampNeg) = nI (s w) from (by rw [nI_clamp (by omega), (hs w h16).1])]
        refine rw_go hX [(23, .istore 5), (25, .iload_n 1), (26, .iload 5)] (by decide +kernel) (Ps := []) (pc' := 28) (lv' := [(0, .ref 1), (1, .int (nI (cB (fun w => decide (0 < s w)) w))), (2, .ref 3), (3, .int (nI 5)), (4, .int (nI w)), (5, .int (nI (s w)))]) (st' := [.int (nI (s w)), .int (nI (cB (fun w => decide (0 < s w)) w))]) (σ' := σ) rfl True.intro ?_
        refine rw_if hX (tgt := 35) (cnd := .le) (off := 7) (by decide +kernel) (by decide) (fun h28 => ?_) (fun h28 => ?_)
        · replace h28 := zn_leT h28
          have hs2 := (hs w h16).2
          refine rw_go hX [(35, .iconst 0)] (by decide +kernel) (Ps := []) (pc' := 36) (lv' := [(0, .ref 1), (1, .int (nI (cB (fun w => decide (0 < s w)) w))), (2, .ref 3), (3, .int (nI 5)), (4, .int (nI w)), (5, .int (nI (s w)))]) (st' := [.int (nI 0), .int (nI (cB (fun w => decide (0 < s w)) w))]) (σ' := σ) rfl True.intro ?_
          refine rw_callSi hX (as := [.int (nI 0)]) (rest := [.int (nI (cB (fun w => decide (0 < s w)) w))]) (c_X9_asNumber _ _ _ false) (by decide +kernel) msX9_asNumber (Or.inr lk5_52) rfl (by decide) (Nat.le_of_ble_eq_true rfl) rfl ?_
          intro r1 σ1 hr
          rw [hr.1, show r1 = nI 0 from hr.2]
          clear hr σ1 r1
          refine rw_go hX [(39, .iadd), (40, .istore_n 1), (41, .iinc 4 1), (44, .goto (-31))] (by decide +kernel) (Ps := []) (pc' := 13) (lv' := [(0, .ref 1), (1, .int (nI (cB (fun w => decide (0 < s w)) w) + nI 0)), (2, .ref 3), (3, .int (nI 5)), (4, .int (nI w + nI 1)), (5, .int (nI (s w)))]) (st' := []) (σ' := σ) rfl True.intro ?_
          refine rw_lsub (ks := [0, 1, 2, 3, 4]) (lv' := [(0, .ref 1), (1, .int (nI (cB (fun w => decide (0 < s w)) w) + nI 0)), (2, .ref 3), (3, .int (nI 5)), (4, .int (nI w + nI 1))]) rfl ?_
          have q := ih13 (5 - (w + 1)) (by omega) (w + 1) rfl (by omega)
          rw [cB_n (k := w) (decide_eq_false (by omega))] at q
          rw [nI_add, nI_add, Nat.add_zero]
          exact q
        · replace h28 := zn_leF h28
          have hs2 := (hs w h16).2
          refine rw_go hX [(31, .iconst 1), (32, .goto 4)] (by decide +kernel) (Ps := []) (pc' := 36) (lv' := [(0, .ref 1), (1, .int (nI (cB (fun w => decide (0 < s w)) w))), (2, .ref 3), (3, .int (nI 5)), (4, .int (nI w)), (5, .int (nI (s w)))]) (st' := [.int (nI 1), .int (nI (cB (fun w => decide (0 < s w)) w))]) (σ' := σ) rfl True.intro ?_
          refine rw_callSi hX (as := [.int (nI 1)]) (rest := [.int (nI (cB (fun w => decide (0 < s w)) w))]) (c_X9_asNumber _ _ _ true) (by decide +kernel) msX9_asNumber (Or.inr lk5_52) rfl (by decide) (Nat.le_of_ble_eq_true rfl) rfl ?_
          intro r1 σ1 hr
          rw [hr.1, show r1 = nI 1 from hr.2]
          clear hr σ1 r1
          refine rw_go hX [(39, .iadd), (40, .istore_n 1), (41, .iinc 4 1), (44, .goto (-31))] (by decide +kernel) (Ps := []) (pc' := 13) (lv' := [(0, .ref 1), (1, .int (nI (cB (fun w => decide (0 < s w)) w) + nI 1)), (2, .ref 3), (3, .int (nI 5)), (4, .int (nI w + nI 1)), (5, .int (nI (s w)))]) (st' := []) (σ' := σ) rfl True.intro ?_
          refine rw_lsub (ks := [0, 1, 2, 3, 4]) (lv' := [(0, .ref 1), (1, .int (nI (cB (fun w => decide (0 < s w)) w) + nI 1)), (2, .ref 3), (3, .int (nI 5)), (4, .int (nI w + nI 1))]) rfl ?_
          have q := ih13 (5 - (w + 1)) (by omega) (w + 1) rfl (by omega)
          rw [cB_y (k := w) (decide_eq_true h28)] at q
          rw [nI_add, nI_add]
          exact q
  refine rw_lsub (ks := [0, 1, 2, 3, 4]) (lv' := [(0, .ref 1), (1, .int (nI 0)), (2, .ref 3), (3, .int (nI 5)), (4, .int (nI 0))]) rfl ?_
  exact L13 5 0 rfl (by omega)
set_option maxRecDepth 20000 in
set_option maxHeartbeats 4000000 in
theorem c_become (l : Launch) (G : Gl) (σ : Mm) (w n : Nat) (hw : w < 5) (hn : n ≤ 50) : AMv l G 1 mX5_become [.ref 1, .int (nI w), .ref 65, .int (nI n)] σ (fun σ' => σ' = sw (sr σ 2 (va_cpy (σ 65) (σ 2) 0 (50 * w) n)) 3 w (nI n)) := by
  refine rw_inV 5 (by decide +kernel) rfl rfl ?_
  intro E hE hX
  subst hE
  refine rw_go hX [(0, .iload_n 1)] (by decide +kernel) (Ps := []) (pc' := 1) (lv' := [(0, .ref 1), (1, .int (nI w)), (2, .ref 65), (3, .int (nI n))]) (st' := [.int (nI w)]) (σ' := σ) rfl True.intro ?_
  refine rw_callSi hX (as := [.int (nI w)]) (rest := []) (c_isWork _ _ _ w hw) (by decide +kernel) msX9_isWork (Or.inr lk5_36) rfl (by decide) (Nat.le_of_ble_eq_true rfl) rfl ?_
  intro r1 σ1 hr
  rw [hr.1, show r1 = nI 1 from hr.2]
  clear hr σ1 r1
  refine rw_if hX (tgt := 23) (cnd := .eq) (off := 19) (by decide +kernel) (by decide) (fun h4 => ?_) (fun h4 => ?_)
  · exact absurd h4 (by simp only [cz, cc2]; decide +kernel)
  · skip
    refine rw_go hX [(7, .iload_n 3)] (by decide +kernel) (Ps := []) (pc' := 8) (lv' := [(0, .ref 1), (1, .int (nI w)), (2, .ref 65), (3, .int (nI n))]) (st' := [.int (nI n)]) (σ' := σ) rfl True.intro ?_
    refine rw_if hX (tgt := 23) (cnd := .lt) (off := 15) (by decide +kernel) (by decide) (fun h8 => ?_) (fun h8 => ?_)
    · exact zn_ltT h8
    · clear h8
      refine rw_go hX [(11, .iload_n 3), (12, .bipush 50)] (by decide +kernel) (Ps := []) (pc' := 14) (lv' := [(0, .ref 1), (1, .int (nI w)), (2, .ref 65), (3, .int (nI n))]) (st' := [.int (nI 50), .int (nI n)]) (σ' := σ) rfl True.intro ?_
      refine rw_icmp hX (tgt := 23) (cnd := .gt) (off := 9) (by decide +kernel) (by decide) (fun h14 => ?_) (fun h14 => ?_)
      · replace h14 := c2_gtT h14
        omega
      · replace h14 := c2_gtF h14
        refine rw_go hX [(17, .iload_n 3), (18, .aload_n 2), (19, .arraylength)] (by decide +kernel) (Ps := []) (pc' := 20) (lv' := [(0, .ref 1), (1, .int (nI w)), (2, .ref 65), (3, .int (nI n))]) (st' := [.int (nI 50), .int (nI n)]) (σ' := σ) rfl True.intro ?_
        refine rw_icmp hX (tgt := 24) (cnd := .le) (off := 4) (by decide +kernel) (by decide) (fun h20 => ?_) (fun h20 => ?_)
        · replace h20 := c2_leT h20
          refine rw_go hX [(24, .aload_n 2), (25, .iconst 0), (26, .aload_n 0), (27, .getfield 9), (30, .iload_n 1), (31, .bipush 50), (33, .imul)] (by decide +kernel) (Ps := []) (pc' := 34) (lv' := [(0, .ref 1), (1, .int (nI w)), (2, .ref 65), (3, .int (nI n))]) (st' := [.int (nI w * nI 50), .ref 2, .int (nI 0), .ref 65]) (σ' := σ) rfl True.intro ?_
          rw [show (nI w * nI 50) = nI (50 * w) from (by rw [pk_mul, Nat.mul_comm])]
          refine rw_go hX [(34, .iload_n 3)] (by decide +kernel) (Ps := []) (pc' := 35) (lv' := [(0, .ref 1), (1, .int (nI w)), (2, .ref 65), (3, .int (nI n))]) (st' := [.int (nI n), .int (nI (50 * w)), .ref 2, .int (nI 0), .ref 65]) (σ' := σ) rfl True.intro ?_
          refine rw_cpy hX (n0 := 50) (n1 := 250) (by decide +kernel) lk5_30 rfl rfl (Nat.le_of_ble_eq_true rfl) (nI_pos (by omega)) (nI_pos (by omega)) (nI_pos (by omega)) (by rw [nI_clamp (by omega), nI_clamp (by omega)]; omega) (by rw [nI_clamp (by omega), nI_clamp (by omega)]; omega) ?_
          rw [show (sr σ 2 (va_cpy (σ 65) (σ 2) (nI 0).toNatClampNeg (nI (50 * w)).toNatClampNeg (nI n).toNatClampNeg)) = sr σ 2 (va_cpy (σ 65) (σ 2) 0 (50 * w) n) from (by rw [nI_clamp (by omega), nI_clamp (by omega), nI_clamp (by omega)])]
          refine rw_go hX [(38, .aload_n 0), (39, .getfield 15), (42, .iload_n 1), (43, .iload_n 3), (44, .iastore)] (by decide +kernel) (Ps := [vp_in (nI w) 5]) (pc' := 45) (lv' := [(0, .ref 1), (1, .int (nI w)), (2, .ref 65), (3, .int (nI n))]) (st' := []) (σ' := sw (sr σ 2 (va_cpy (σ 65) (σ 2) 0 (50 * w) n)) 3 (nI w).toNatClampNeg (nI n)) rfl (vp_in_nI (by omega) (by omega)) ?_
          rw [show (sw (sr σ 2 (va_cpy (σ 65) (σ 2) 0 (50 * w) n)) 3 (nI w).toNatClampNeg (nI n)) = sw (sr σ 2 (va_cpy (σ 65) (σ 2) 0 (50 * w) n)) 3 w (nI n) from (by rw [nI_clamp (by omega)])]
          exact rw_vret hX (by decide +kernel) (rfl)
        · replace h20 := c2_leF h20
          omega
set_option maxRecDepth 20000 in
set_option maxHeartbeats 4000000 in
theorem c_insert (l : Launch) (G : Gl) (σ : Mm) (w at_ x fr n s t : Nat) (hw : w < 5) (hx : x < 5) (hs : σ 3 w = nI s) (ht : σ 3 x = nI t) (hs5 : s ≤ 50) (ht5 : t ≤ 50) (hat : at_ ≤ s) (hn1 : 1 ≤ n) (hfr : fr + n ≤ t) (hsn : s + n ≤ 50) : AMv l G 2 mX5_insert [.ref 1, .int (nI w), .int (nI at_), .int (nI x), .int (nI fr), .int (nI n)] σ (fun σ' => σ' = sw (sr (sr σ 7 (insH w x fr n σ)) 2 (insB w at_ x fr n s σ)) 3 w (nI (s + n))) := by
  refine rw_inV 5 (by decide +kernel) rfl rfl ?_
  intro E hE hX
  subst hE
  refine rw_go hX [(0, .aload_n 0), (1, .iload_n 1)] (by decide +kernel) (Ps := []) (pc' := 2) (lv' := [(0, .ref 1), (1, .int (nI w)), (2, .int (nI at_)), (3, .int (nI x)), (4, .int (nI fr)), (5, .int (nI n))]) (st' := [.int (nI w), .ref 1]) (σ' := σ) rfl True.intro ?_
  refine rw_callVi hX (as := [.int (nI w)]) (rest := []) (c_sizeOf _ _ _ 1 (Or.inl rfl) w hw) (by decide +kernel) mvX5_sizeOf lk5_40 (ci := 4) rfl rfl rfl (by decide) (Nat.le_of_ble_eq_true rfl) rfl ?_
  intro r1 σ1 hr
  rw [hr.1, show r1 = nI s from hr.2.trans hs]
  clear hr σ1 r1
  refine rw_go hX [(5, .istore 6), (7, .iload_n 1)] (by decide +kernel) (Ps := []) (pc' := 8) (lv' := [(0, .ref 1), (1, .int (nI w)), (2, .int (nI at_)), (3, .int (nI x)), (4, .int (nI fr)), (5, .int (nI n)), (6, .int (nI s))]) (st' := [.int (nI w)]) (σ' := σ) rfl True.intro ?_
  refine rw_callSi hX (as := [.int (nI w)]) (rest := []) (c_isWork _ _ _ w hw) (by decide +kernel) msX9_isWork (Or.inr lk5_36) rfl (by decide) (Nat.le_of_ble_eq_true rfl) rfl ?_
  intro r1 σ1 hr
  rw [hr.1, show r1 = nI 1 from hr.2]
  clear hr σ1 r1
  refine rw_if hX (tgt := 36) (cnd := .eq) (off := 25) (by decide +kernel) (by decide) (fun h11 => ?_) (fun h11 => ?_)
  · exact absurd h11 (by simp only [cz, cc2]; decide +kernel)
  · skip
    refine rw_go hX [(14, .iload_n 3)] (by decide +kernel) (Ps := []) (pc' := 15) (lv' := [(0, .ref 1), (1, .int (nI w)), (2, .int (nI at_)), (3, .int (nI x)), (4, .int (nI fr)), (5, .int (nI n)), (6, .int (nI s))]) (st' := [.int (nI x)]) (σ' := σ) rfl True.intro ?_
    refine rw_callSi hX (as := [.int (nI x)]) (rest := []) (c_isWork _ _ _ x hx) (by decide +kernel) msX9_isWork (Or.inr lk5_36) rfl (by decide) (Nat.le_of_ble_eq_true rfl) rfl ?_
    intro r1 σ1 hr
    rw [hr.1, show r1 = nI 1 from hr.2]
    clear hr σ1 r1
    refine rw_if hX (tgt := 36) (cnd := .eq) (off := 18) (by decide +kernel) (by decide) (fun h18 => ?_) (fun h18 => ?_)
    · exact absurd h18 (by simp only [cz, cc2]; decide +kernel)
    · skip
      refine rw_go hX [(21, .iload_n 2)] (by decide +kernel) (Ps := []) (pc' := 22) (lv' := [(0, .ref 1), (1, .int (nI w)), (2, .int (nI at_)), (3, .int (nI x)), (4, .int (nI fr)), (5, .int (nI n)), (6, .int (nI s))]) (st' := [.int (nI at_)]) (σ' := σ) rfl True.intro ?_
      refine rw_if hX (tgt := 36) (cnd := .lt) (off := 14) (by decide +kernel) (by decide) (fun h22 => ?_) (fun h22 => ?_)
      · exact zn_ltT h22
      · clear h22
        refine rw_go hX [(25, .iload_n 2), (26, .iload 6)] (by decide +kernel) (Ps := []) (pc' := 28) (lv' := [(0, .ref 1), (1, .int (nI w)), (2, .int (nI at_)), (3, .int (nI x)), (4, .int (nI fr)), (5, .int (nI n)), (6, .int (nI s))]) (st' := [.int (nI s), .int (nI at_)]) (σ' := σ) rfl True.intro ?_
        refine rw_icmp hX (tgt := 36) (cnd := .gt) (off := 8) (by decide +kernel) (by decide) (fun h28 => ?_) (fun h28 => ?_)
        · replace h28 := c2_gtT h28
          omega
        · replace h28 := c2_gtF h28
          refine rw_go hX [(31, .iload 4)] (by decide +kernel) (Ps := []) (pc' := 33) (lv' := [(0, .ref 1), (1, .int (nI w)), (2, .int (nI at_)), (3, .int (nI x)), (4, .int (nI fr)), (5, .int (nI n)), (6, .int (nI s))]) (st' := [.int (nI fr)]) (σ' := σ) rfl True.intro ?_
          refine rw_if hX (tgt := 37) (cnd := .ge) (off := 4) (by decide +kernel) (by decide) (fun h33 => ?_) (fun h33 => ?_)
          · clear h33
            refine rw_go hX [(37, .iload 5), (39, .iconst 1)] (by decide +kernel) (Ps := []) (pc' := 40) (lv' := [(0, .ref 1), (1, .int (nI w)), (2, .int (nI at_)), (3, .int (nI x)), (4, .int (nI fr)), (5, .int (nI n)), (6, .int (nI s))]) (st' := [.int (nI 1), .int (nI n)]) (σ' := σ) rfl True.intro ?_
            refine rw_icmp hX (tgt := 66) (cnd := .lt) (off := 26) (by decide +kernel) (by decide) (fun h40 => ?_) (fun h40 => ?_)
            · replace h40 := c2_ltT h40
              omega
            · replace h40 := c2_ltF h40
              refine rw_go hX [(43, .iload 5), (45, .aload_n 0), (46, .iload_n 3)] (by decide +kernel) (Ps := []) (pc' := 47) (lv' := [(0, .ref 1), (1, .int (nI w)), (2, .int (nI at_)), (3, .int (nI x)), (4, .int (nI fr)), (5, .int (nI n)), (6, .int (nI s))]) (st' := [.int (nI x), .ref 1, .int (nI n)]) (σ' := σ) rfl True.intro ?_
              refine rw_callVi hX (as := [.int (nI x)]) (rest := [.int (nI n)]) (c_sizeOf _ _ _ 1 (Or.inl rfl) x hx) (by decide +kernel) mvX5_sizeOf lk5_40 (ci := 4) rfl rfl rfl (by decide) (Nat.le_of_ble_eq_true rfl) rfl ?_
              intro r1 σ1 hr
              rw [hr.1, show r1 = nI t from hr.2.trans ht]
              clear hr σ1 r1
              refine rw_go hX [(50, .iload 4), (52, .isub)] (by decide +kernel) (Ps := []) (pc' := 53) (lv' := [(0, .ref 1), (1, .int (nI w)), (2, .int (nI at_)), (3, .int (nI x)), (4, .int (nI fr)), (5, .int (nI n)), (6, .int (nI s))]) (st' := [.int (nI t - nI fr), .int (nI n)]) (σ' := σ) rfl True.intro ?_
              rw [show (nI t - nI fr) = nI (t - fr) from pk_sub (by omega)]
              refine rw_icmp hX (tgt := 66) (cnd := .gt) (off := 13) (by decide +kernel) (by decide) (fun h53 => ?_) (fun h53 => ?_)
              · replace h53 := c2_gtT h53
                omega
              · replace h53 := c2_gtF h53
                refine rw_go hX [(56, .iload 5), (58, .bipush 50), (60, .iload 6), (62, .isub)] (by decide +kernel) (Ps := []) (pc' := 63) (lv' := [(0, .ref 1), (1, .int (nI w)), (2, .int (nI at_)), (3, .int (nI x)), (4, .int (nI fr)), (5, .int (nI n)), (6, .int (nI s))]) (st' := [.int (nI 50 - nI s), .int (nI n)]) (σ' := σ) rfl True.intro ?_
                rw [show (nI 50 - nI s) = nI (50 - s) from pk_sub (by omega)]
                refine rw_icmp hX (tgt := 67) (cnd := .le) (off := 4) (by decide +kernel) (by decide) (fun h63 => ?_) (fun h63 => ?_)
                · replace h63 := c2_leT h63
                  refine rw_go hX [(67, .iload_n 1), (68, .bipush 50), (70, .imul), (71, .iload_n 2), (72, .iadd)] (by decide +kernel) (Ps := []) (pc' := 73) (lv' := [(0, .ref 1), (1, .int (nI w)), (2, .int (nI at_)), (3, .int (nI x)), (4, .int (nI fr)), (5, .int (nI n)), (6, .int (nI s))]) (st' := [.int ((nI w * nI 50) + nI at_)]) (σ' := σ) rfl True.intro ?_
                  rw [show ((nI w * nI 50) + nI at_) = nI (50 * w + at_) from (by rw [pk_mul, nI_add, Nat.mul_comm])]
                  refine rw_go hX [(73, .istore 7), (75, .aload_n 0), (76, .getfield 9), (79, .iload_n 3), (80, .bipush 50), (82, .imul), (83, .iload 4), (85, .iadd)] (by decide +kernel) (Ps := []) (pc' := 86) (lv' := [(0, .ref 1), (1, .int (nI w)), (2, .int (nI at_)), (3, .int (nI x)), (4, .int (nI fr)), (5, .int (nI n)), (6, .int (nI s)), (7, .int (nI (50 * w + at_)))]) (st' := [.int ((nI x * nI 50) + nI fr), .ref 2]) (σ' := σ) rfl True.intro ?_
                  rw [show ((nI x * nI 50) + nI fr) = nI (50 * x + fr) from (by rw [pk_mul, nI_add, Nat.mul_comm])]
                  refine rw_go hX [(86, .aload_n 0), (87, .getfield 27), (90, .iconst 0), (91, .iload 5)] (by decide +kernel) (Ps := []) (pc' := 93) (lv' := [(0, .ref 1), (1, .int (nI w)), (2, .int (nI at_)), (3, .int (nI x)), (4, .int (nI fr)), (5, .int (nI n)), (6, .int (nI s)), (7, .int (nI (50 * w + at_)))]) (st' := [.int (nI n), .int (nI 0), .ref 7, .int (nI (50 * x + fr)), .ref 2]) (σ' := σ) rfl True.intro ?_
                  refine rw_cpy hX (n0 := 250) (n1 := 50) (by decide +kernel) lk5_30 rfl rfl (Nat.le_of_ble_eq_true rfl) (nI_pos (by omega)) (nI_pos (by omega)) (nI_pos (by omega)) (by rw [nI_clamp (by omega), nI_clamp (by omega)]; omega) (by rw [nI_clamp (by omega), nI_clamp (by omega)]; omega) ?_
                  rw [show (sr σ 7 (va_cpy (σ 2) (σ 7) (nI (50 * x + fr)).toNatClampNeg (nI 0).toNatClampNeg (nI n).toNatClampNeg)) = sr σ 7 (insH w x fr n σ) from (by rw [nI_clamp (by omega), nI_clamp (by omega), nI_clamp (by omega)]; rfl)]
                  refine rw_go hX [(96, .aload_n 0), (97, .getfield 9), (100, .iload 7), (102, .aload_n 0), (103, .getfield 9), (106, .iload 7), (108, .iload 5), (110, .iadd)] (by decide +kernel) (Ps := []) (pc' := 111) (lv' := [(0, .ref 1), (1, .int (nI w)), (2, .int (nI at_)), (3, .int (nI x)), (4, .int (nI fr)), (5, .int (nI n)), (6, .int (nI s)), (7, .int (nI (50 * w + at_)))]) (st' := [.int (nI (50 * w + at_) + nI n), .ref 2, .int (nI (50 * w + at_)), .ref 2]) (σ' := sr σ 7 (insH w x fr n σ)) rfl True.intro ?_
                  rw [show (nI (50 * w + at_) + nI n) = nI (50 * w + at_ + n) from nI_add _ _]
                  refine rw_go hX [(111, .iload 6), (113, .iload_n 2), (114, .isub)] (by decide +kernel) (Ps := []) (pc' := 115) (lv' := [(0, .ref 1), (1, .int (nI w)), (2, .int (nI at_)), (3, .int (nI x)), (4, .int (nI fr)), (5, .int (nI n)), (6, .int (nI s)), (7, .int (nI (50 * w + at_)))]) (st' := [.int (nI s - nI at_), .int (nI (50 * w + at_ + n)), .ref 2, .int (nI (50 * w + at_)), .ref 2]) (σ' := sr σ 7 (insH w x fr n σ)) rfl True.intro ?_
                  rw [show (nI s - nI at_) = nI (s - at_) from pk_sub (by omega)]
                  refine rw_cpy hX (n0 := 250) (n1 := 250) (by decide +kernel) lk5_30 rfl rfl (Nat.le_of_ble_eq_true rfl) (nI_pos (by omega)) (nI_pos (by omega)) (nI_pos (by omega)) (by rw [nI_clamp (by omega), nI_clamp (by omega)]; omega) (by rw [nI_clamp (by omega), nI_clamp (by omega)]; omega) ?_
                  rw [show (sr (sr σ 7 (insH w x fr n σ)) 2 (va_cpy ((sr σ 7 (insH w x fr n σ)) 2) ((sr σ 7 (insH w x fr n σ)) 2) (nI (50 * w + at_)).toNatClampNeg (nI (50 * w + at_ + n)).toNatClampNeg (nI (s - at_)).toNatClampNeg)) = sr (sr σ 7 (insH w x fr n σ)) 2 (va_cpy (σ 2) (σ 2) (50 * w + at_) (50 * w + at_ + n) (s - at_)) from (by rw [nI_clamp (by omega), nI_clamp (by omega), nI_clamp (by omega), sr_n _ _ (by decide)])]
                  refine rw_go hX [(118, .aload_n 0), (119, .getfield 27), (122, .iconst 0), (123, .aload_n 0), (124, .getfield 9), (127, .iload 7), (129, .iload 5)] (by decide +kernel) (Ps := []) (pc' := 131) (lv' := [(0, .ref 1), (1, .int (nI w)), (2, .int (nI at_)), (3, .int (nI x)), (4, .int (nI fr)), (5, .int (nI n)), (6, .int (nI s)), (7, .int (nI (50 * w + at_)))]) (st' := [.int (nI n), .int (nI (50 * w + at_)), .ref 2, .int (nI 0), .ref 7]) (σ' := sr (sr σ 7 (insH w x fr n σ)) 2 (va_cpy (σ 2) (σ 2) (50 * w + at_) (50 * w + at_ + n) (s - at_))) rfl True.intro ?_
                  refine rw_cpy hX (n0 := 50) (n1 := 250) (by decide +kernel) lk5_30 rfl rfl (Nat.le_of_ble_eq_true rfl) (nI_pos (by omega)) (nI_pos (by omega)) (nI_pos (by omega)) (by rw [nI_clamp (by omega), nI_clamp (by omega)]; omega) (by rw [nI_clamp (by omega), nI_clamp (by omega)]; omega) ?_
                  rw [show (sr (sr (sr σ 7 (insH w x fr n σ)) 2 (va_cpy (σ 2) (σ 2) (50 * w + at_) (50 * w + at_ + n) (s - at_))) 2 (va_cpy ((sr (sr σ 7 (insH w x fr n σ)) 2 (va_cpy (σ 2) (σ 2) (50 * w + at_) (50 * w + at_ + n) (s - at_))) 7) ((sr (sr σ 7 (insH w x fr n σ)) 2 (va_cpy (σ 2) (σ 2) (50 * w + at_) (50 * w + at_ + n) (s - at_))) 2) (nI 0).toNatClampNeg (nI (50 * w + at_)).toNatClampNeg (nI n).toNatClampNeg)) = sr (sr σ 7 (insH w x fr n σ)) 2 (insB w at_ x fr n s σ) from (by rw [nI_clamp (by omega), nI_clamp (by omega), nI_clamp (by omega), sr_s, sr_sr, sr_n _ _ (by decide), sr_s]; rfl)]
                  refine rw_go hX [(134, .aload_n 0), (135, .getfield 15), (138, .iload_n 1), (139, .iload 6), (141, .iload 5), (143, .iadd)] (by decide +kernel) (Ps := []) (pc' := 144) (lv' := [(0, .ref 1), (1, .int (nI w)), (2, .int (nI at_)), (3, .int (nI x)), (4, .int (nI fr)), (5, .int (nI n)), (6, .int (nI s)), (7, .int (nI (50 * w + at_)))]) (st' := [.int (nI s + nI n), .int (nI w), .ref 3]) (σ' := sr (sr σ 7 (insH w x fr n σ)) 2 (insB w at_ x fr n s σ)) rfl True.intro ?_
                  rw [show (nI s + nI n) = nI (s + n) from nI_add _ _]
                  refine rw_go hX [(144, .iastore)] (by decide +kernel) (Ps := [vp_in (nI w) 5]) (pc' := 145) (lv' := [(0, .ref 1), (1, .int (nI w)), (2, .int (nI at_)), (3, .int (nI x)), (4, .int (nI fr)), (5, .int (nI n)), (6, .int (nI s)), (7, .int (nI (50 * w + at_)))]) (st' := []) (σ' := sw (sr (sr σ 7 (insH w x fr n σ)) 2 (insB w at_ x fr n s σ)) 3 (nI w).toNatClampNeg (nI (s + n))) rfl (vp_in_nI (by omega) (by omega)) ?_
                  rw [show (sw (sr (sr σ 7 (insH w x fr n σ)) 2 (insB w at_ x fr n s σ)) 3 (nI w).toNatClampNeg (nI (s + n))) = sw (sr (sr σ 7 (insH w x fr n σ)) 2 (insB w at_ x fr n s σ)) 3 w (nI (s + n)) from (by rw [nI_clamp (by omega)])]
                  exact rw_vret hX (by decide +kernel) (rfl)
                · replace h63 := c2_leF h63
                  omega
          · exact zn_geF h33
set_option maxRecDepth 20000 in
set_option maxHeartbeats 4000000 in
theorem c_remove (l : Launch) (G : Gl) (σ : Mm) (w at_ n s : Nat) (hw : w < 5) (hs : σ 3 w = nI s) (hs5 : s ≤ 50) (hn1 : 1 ≤ n) (hat : at_ + n ≤ s) : AMv l G 2 mX5_remove [.ref 1, .int (nI w), .int (nI at_), .int (nI n)] σ (fun σ' => σ' = sw (sr σ 2 (va_cpy (σ 2) (σ 2) (50 * w + at_ + n) (50 * w + at_) (s - at_ - n))) 3 w (nI (s - n))) := by
  refine rw_inV 5 (by decide +kernel) rfl rfl ?_
  intro E hE hX
  subst hE
  refine rw_go hX [(0, .aload_n 0), (1, .iload_n 1)] (by decide +kernel) (Ps := []) (pc' := 2) (lv' := [(0, .ref 1), (1, .int (nI w)), (2, .int (nI at_)), (3, .int (nI n))]) (st' := [.int (nI w), .ref 1]) (σ' := σ) rfl True.intro ?_
  refine rw_callVi hX (as := [.int (nI w)]) (rest := []) (c_sizeOf _ _ _ 1 (Or.inl rfl) w hw) (by decide +kernel) mvX5_sizeOf lk5_40 (ci := 4) rfl rfl rfl (by decide) (Nat.le_of_ble_eq_true rfl) rfl ?_
  intro r1 σ1 hr
  rw [hr.1, show r1 = nI s from hr.2.trans hs]
  clear hr σ1 r1
  refine rw_go hX [(5, .istore 4), (7, .iload_n 1)] (by decide +kernel) (Ps := []) (pc' := 8) (lv' := [(0, .ref 1), (1, .int (nI w)), (2, .int (nI at_)), (3, .int (nI n)), (4, .int (nI s))]) (st' := [.int (nI w)]) (σ' := σ) rfl True.intro ?_
  refine rw_callSi hX (as := [.int (nI w)]) (rest := []) (c_isWork _ _ _ w hw) (by decide +kernel) msX9_isWork (Or.inr lk5_36) rfl (by decide) (Nat.le_of_ble_eq_true rfl) rfl ?_
  intro r1 σ1 hr
  rw [hr.1, show r1 = nI 1 from hr.2]
  clear hr σ1 r1
  refine rw_if hX (tgt := 31) (cnd := .eq) (off := 20) (by decide +kernel) (by decide) (fun h11 => ?_) (fun h11 => ?_)
  · exact absurd h11 (by simp only [cz, cc2]; decide +kernel)
  · skip
    refine rw_go hX [(14, .iload_n 2)] (by decide +kernel) (Ps := []) (pc' := 15) (lv' := [(0, .ref 1), (1, .int (nI w)), (2, .int (nI at_)), (3, .int (nI n)), (4, .int (nI s))]) (st' := [.int (nI at_)]) (σ' := σ) rfl True.intro ?_
    refine rw_if hX (tgt := 31) (cnd := .lt) (off := 16) (by decide +kernel) (by decide) (fun h15 => ?_) (fun h15 => ?_)
    · exact zn_ltT h15
    · clear h15
      refine rw_go hX [(18, .iload_n 3), (19, .iconst 1)] (by decide +kernel) (Ps := []) (pc' := 20) (lv' := [(0, .ref 1), (1, .int (nI w)), (2, .int (nI at_)), (3, .int (nI n)), (4, .int (nI s))]) (st' := [.int (nI 1), .int (nI n)]) (σ' := σ) rfl True.intro ?_
      refine rw_icmp hX (tgt := 31) (cnd := .lt) (off := 11) (by decide +kernel) (by decide) (fun h20 => ?_) (fun h20 => ?_)
      · replace h20 := c2_ltT h20
        omega
      · replace h20 := c2_ltF h20
        refine rw_go hX [(23, .iload_n 3), (24, .iload 4), (26, .iload_n 2), (27, .isub)] (by decide +kernel) (Ps := []) (pc' := 28) (lv' := [(0, .ref 1), (1, .int (nI w)), (2, .int (nI at_)), (3, .int (nI n)), (4, .int (nI s))]) (st' := [.int (nI s - nI at_), .int (nI n)]) (σ' := σ) rfl True.intro ?_
        rw [show (nI s - nI at_) = nI (s - at_) from pk_sub (by omega)]
        refine rw_icmp hX (tgt := 32) (cnd := .le) (off := 4) (by decide +kernel) (by decide) (fun h28 => ?_) (fun h28 => ?_)
        · replace h28 := c2_leT h28
          refine rw_go hX [(32, .iload_n 1), (33, .bipush 50), (35, .imul), (36, .iload_n 2), (37, .iadd)] (by decide +kernel) (Ps := []) (pc' := 38) (lv' := [(0, .ref 1), (1, .int (nI w)), (2, .int (nI at_)), (3, .int (nI n)), (4, .int (nI s))]) (st' := [.int ((nI w * nI 50) + nI at_)]) (σ' := σ) rfl True.intro ?_
          rw [show ((nI w * nI 50) + nI at_) = nI (50 * w + at_) from (by rw [pk_mul, nI_add, Nat.mul_comm])]
          refine rw_go hX [(38, .istore 5), (40, .aload_n 0), (41, .getfield 9), (44, .iload 5), (46, .iload_n 3), (47, .iadd)] (by decide +kernel) (Ps := []) (pc' := 48) (lv' := [(0, .ref 1), (1, .int (nI w)), (2, .int (nI at_)), (3, .int (nI n)), (4, .int (nI s)), (5, .int (nI (50 * w + at_)))]) (st' := [.int (nI (50 * w + at_) + nI n), .ref 2]) (σ' := σ) rfl True.intro ?_
          rw [show (nI (50 * w + at_) + nI n) = nI (50 * w + at_ + n) from nI_add _ _]
          refine rw_go hX [(48, .aload_n 0), (49, .getfield 9), (52, .iload 5), (54, .iload 4), (56, .iload_n 2), (57, .isub)] (by decide +kernel) (Ps := []) (pc' := 58) (lv' := [(0, .ref 1), (1, .int (nI w)), (2, .int (nI at_)), (3, .int (nI n)), (4, .int (nI s)), (5, .int (nI (50 * w + at_)))]) (st' := [.int (nI s - nI at_), .int (nI (50 * w + at_)), .ref 2, .int (nI (50 * w + at_ + n)), .ref 2]) (σ' := σ) rfl True.intro ?_
          rw [show (nI s - nI at_) = nI (s - at_) from pk_sub (by omega)]
          refine rw_go hX [(58, .iload_n 3), (59, .isub)] (by decide +kernel) (Ps := []) (pc' := 60) (lv' := [(0, .ref 1), (1, .int (nI w)), (2, .int (nI at_)), (3, .int (nI n)), (4, .int (nI s)), (5, .int (nI (50 * w + at_)))]) (st' := [.int (nI (s - at_) - nI n), .int (nI (50 * w + at_)), .ref 2, .int (nI (50 * w + at_ + n)), .ref 2]) (σ' := σ) rfl True.intro ?_
          rw [show (nI (s - at_) - nI n) = nI (s - at_ - n) from pk_sub (by omega)]
          refine rw_cpy hX (n0 := 250) (n1 := 250) (by decide +kernel) lk5_30 rfl rfl (Nat.le_of_ble_eq_true rfl) (nI_pos (by omega)) (nI_pos (by omega)) (nI_pos (by omega)) (by rw [nI_clamp (by omega), nI_clamp (by omega)]; omega) (by rw [nI_clamp (by omega), nI_clamp (by omega)]; omega) ?_
          rw [show (sr σ 2 (va_cpy (σ 2) (σ 2) (nI (50 * w + at_ + n)).toNatClampNeg (nI (50 * w + at_)).toNatClampNeg (nI (s - at_ - n)).toNatClampNeg)) = sr σ 2 (va_cpy (σ 2) (σ 2) (50 * w + at_ + n) (50 * w + at_) (s - at_ - n)) from (by rw [nI_clamp (by omega), nI_clamp (by omega), nI_clamp (by omega)])]
          refine rw_go hX [(63, .aload_n 0), (64, .getfield 15), (67, .iload_n 1), (68, .iload 4), (70, .iload_n 3), (71, .isub)] (by decide +kernel) (Ps := []) (pc' := 72) (lv' := [(0, .ref 1), (1, .int (nI w)), (2, .int (nI at_)), (3, .int (nI n)), (4, .int (nI s)), (5, .int (nI (50 * w + at_)))]) (st' := [.int (nI s - nI n), .int (nI w), .ref 3]) (σ' := sr σ 2 (va_cpy (σ 2) (σ 2) (50 * w + at_ + n) (50 * w + at_) (s - at_ - n))) rfl True.intro ?_
          rw [show (nI s - nI n) = nI (s - n) from pk_sub (by omega)]
          refine rw_go hX [(72, .iastore)] (by decide +kernel) (Ps := [vp_in (nI w) 5]) (pc' := 73) (lv' := [(0, .ref 1), (1, .int (nI w)), (2, .int (nI at_)), (3, .int (nI n)), (4, .int (nI s)), (5, .int (nI (50 * w + at_)))]) (st' := []) (σ' := sw (sr σ 2 (va_cpy (σ 2) (σ 2) (50 * w + at_ + n) (50 * w + at_) (s - at_ - n))) 3 (nI w).toNatClampNeg (nI (s - n))) rfl (vp_in_nI (by omega) (by omega)) ?_
          rw [show (sw (sr σ 2 (va_cpy (σ 2) (σ 2) (50 * w + at_ + n) (50 * w + at_) (s - at_ - n))) 3 (nI w).toNatClampNeg (nI (s - n))) = sw (sr σ 2 (va_cpy (σ 2) (σ 2) (50 * w + at_ + n) (50 * w + at_) (s - at_ - n))) 3 w (nI (s - n)) from (by rw [nI_clamp (by omega)])]
          exact rw_vret hX (by decide +kernel) (rfl)
        · replace h28 := c2_leF h28
          omega
set_option maxRecDepth 20000 in
set_option maxHeartbeats 4000000 in
theorem c_draw (l : Launch) (G : Gl) (σ : Mm) (w s n : Nat) (z : Int32) (hw : w < 5) (hs : σ 17 w = nI s) (hs1 : 1 ≤ s) (hs5 : s ≤ 50) (hn : n ≤ 20) : AMv l G 2 mX5_draw [.ref 15, .int (nI w), .int z, .int (nI n)] σ (fun σ' => σ' = sr σ 16 (drR (σ 16) w s z n)) := by
  refine rw_inV 5 (by decide +kernel) rfl rfl ?_
  intro E hE hX
  subst hE
  refine rw_go hX [(0, .aload_n 0), (1, .iload_n 1)] (by decide +kernel) (Ps := []) (pc' := 2) (lv' := [(0, .ref 15), (1, .int (nI w)), (2, .int z), (3, .int (nI n))]) (st' := [.int (nI w), .ref 15]) (σ' := σ) rfl True.intro ?_
  refine rw_callVi hX (as := [.int (nI w)]) (rest := []) (c_sizeOf _ _ _ 15 (Or.inr (Or.inr rfl)) w hw) (by decide +kernel) mvX5_sizeOf lk5_40 (ci := 4) rfl rfl rfl (by decide) (Nat.le_of_ble_eq_true rfl) rfl ?_
  intro r1 σ1 hr
  rw [hr.1, show r1 = nI s from hr.2.trans hs]
  clear hr σ1 r1
  refine rw_go hX [(5, .istore 4), (7, .iload 4)] (by decide +kernel) (Ps := []) (pc' := 9) (lv' := [(0, .ref 15), (1, .int (nI w)), (2, .int z), (3, .int (nI n)), (4, .int (nI s))]) (st' := [.int (nI s)]) (σ' := σ) rfl True.intro ?_
  refine rw_if hX (tgt := 13) (cnd := .gt) (off := 4) (by decide +kernel) (by decide) (fun h9 => ?_) (fun h9 => ?_)
  · replace h9 := zn_gtT h9
    refine rw_go hX [(13, .iload_n 2), (14, .istore 5), (16, .iconst 0), (17, .istore 6)] (by decide +kernel) (Ps := []) (pc' := 19) (lv' := [(0, .ref 15), (1, .int (nI w)), (2, .int z), (3, .int (nI n)), (4, .int (nI s)), (5, .int z), (6, .int (nI 0))]) (st' := []) (σ' := σ) rfl True.intro ?_
    have L19 : ∀ (μ19 : Nat) (i : Nat), μ19 = n - i → (i ≤ n) → RW E G 2 8 (QV E G (fun σ' => σ' = sr σ 16 (drR (σ 16) w s z n))) 19 [(0, .ref 15), (1, .int (nI w)), (3, .int (nI n)), (4, .int (nI s)), (5, .int (zs z i)), (6, .int (nI i))] [] (sr σ 16 (drR (σ 16) w s z i)) := by
      intro μ19
      induction μ19 using Nat.strongRecOn with
      | ind μ19 ih19 =>
        intro i hμ19 hi
        refine rw_go hX [(19, .iload 6), (21, .iload_n 3)] (by decide +kernel) (Ps := []) (pc' := 22) (lv' := [(0, .ref 15), (1, .int (nI w)), (3, .int (nI n)), (4, .int (nI s)), (5, .int (zs z i)), (6, .int (nI i))]) (st' := [.int (nI n), .int (nI i)]) (σ' := sr σ 16 (drR (σ 16) w s z i)) rfl True.intro ?_
        refine rw_icmp hX (tgt := 79) (cnd := .ge) (off := 57) (by decide +kernel) (by decide) (fun h22 => ?_) (fun h22 => ?_)
        · replace h22 := c2_geT h22
          have e : i = n := by omega
          exact rw_vret hX (by decide +kernel) (by rw [e])
        · replace h22 := c2_geF h22
          have hu1 := u9_lt (nz (zs z i))
          have hu2 := u9_lt (nz (nz (zs z i)))
          have hm1 := Nat.mod_lt (u9 (nz (zs z i))) hs1
          refine rw_go hX [(25, .iload 5)] (by decide +kernel) (Ps := []) (pc' := 27) (lv' := [(0, .ref 15), (1, .int (nI w)), (3, .int (nI n)), (4, .int (nI s)), (5, .int (zs z i)), (6, .int (nI i))]) (st' := [.int (zs z i)]) (σ' := sr σ 16 (drR (σ 16) w s z i)) rfl True.intro ?_
          refine rw_callSi hX (as := [.int (zs z i)]) (rest := []) (c_X5_nextNumber _ _ _ (zs z i)) (by decide +kernel) msX5_nextNumber (Or.inl lk5_60) rfl (by decide) (Nat.le_of_ble_eq_true rfl) rfl ?_
          intro r1 σ1 hr
          rw [hr.1, show r1 = nz (zs z i) from hr.2]
          clear hr σ1 r1
          refine rw_go hX [(30, .istore 5), (32, .iload 5), (34, .bipush 9), (36, .iushr)] (by decide +kernel) (Ps := []) (pc' := 37) (lv' := [(0, .ref 15), (1, .int (nI w)), (3, .int (nI n)), (4, .int (nI s)), (5, .int (nz (zs z i))), (6, .int (nI i))]) (st' := [.int (((nz (zs z i)).toUInt32 >>> ((nI 9).toUInt32 &&& Int32.toUInt32 31)).toInt32)]) (σ' := sr σ 16 (drR (σ 16) w s z i)) rfl True.intro ?_
          rw [show (((nz (zs z i)).toUInt32 >>> ((nI 9).toUInt32 &&& Int32.toUInt32 31)).toInt32) = nI (u9 (nz (zs z i))) from u9_eq _]
          refine rw_go hX [(37, .iload 4), (39, .irem)] (by decide +kernel) (Ps := [¬ (nI s) = 0]) (pc' := 40) (lv' := [(0, .ref 15), (1, .int (nI w)), (3, .int (nI n)), (4, .int (nI s)), (5, .int (nz (zs z i))), (6, .int (nI i))]) (st' := [.int (nI (u9 (nz (zs z i))) - nI (u9 (nz (zs z i))) / nI s * nI s)]) (σ' := sr σ 16 (drR (σ 16) w s z i)) rfl (fun z9 => by have := zn_eqT z9; omega) ?_
          rw [show (nI (u9 (nz (zs z i))) - nI (u9 (nz (zs z i))) / nI s * nI s) = nI (u9 (nz (zs z i)) % s) from pk_rem (by omega) (by omega) (by omega)]
          refine rw_go hX [(40, .istore 7), (42, .iload 5)] (by decide +kernel) (Ps := []) (pc' := 44) (lv' := [(0, .ref 15), (1, .int (nI w)), (3, .int (nI n)), (4, .int (nI s)), (5, .int (nz (zs z i))), (6, .int (nI i)), (7, .int (nI (u9 (nz (zs z i)) % s)))]) (st' := [.int (nz (zs z i))]) (σ' := sr σ 16 (drR (σ 16) w s z i)) rfl True.intro ?_
          refine rw_callSi hX (as := [.int (nz (zs z i))]) (rest := []) (c_X5_nextNumber _ _ _ (nz (zs z i))) (by decide +kernel) msX5_nextNumber (Or.inl lk5_60) rfl (by decide) (Nat.le_of_ble_eq_true rfl) rfl ?_
          intro r1 σ1 hr
          rw [hr.1, show r1 = nz (nz (zs z i)) from hr.2]
          clear hr σ1 r1
          refine rw_go hX [(47, .istore 5), (49, .aload_n 0), (50, .getfield 9), (53, .iload_n 1), (54, .iload 7)] (by decide +kernel) (Ps := []) (pc' := 56) (lv' := [(0, .ref 15), (1, .int (nI w)), (3, .int (nI n)), (4, .int (nI s)), (5, .int (nz (nz (zs z i)))), (6, .int (nI i)), (7, .int (nI (u9 (nz (zs z i)) % s)))]) (st' := [.int (nI (u9 (nz (zs z i)) % s)), .int (nI w), .ref 16]) (σ' := sr σ 16 (drR (σ 16) w s z i)) rfl True.intro ?_
          refine rw_callSi hX (as := [.int (nI w), .int (nI (u9 (nz (zs z i)) % s))]) (rest := [.ref 16]) (c_cellOf _ _ _ w (u9 (nz (zs z i)) % s) hw (by omega)) (by decide +kernel) msX9_cellOf (Or.inr lk5_44) rfl (by decide) (Nat.le_of_ble_eq_true rfl) rfl ?_
          intro r1 σ1 hr
          rw [hr.1, show r1 = nI (50 * w + u9 (nz (zs z i)) % s) from hr.2]
          clear hr σ1 r1
          refine rw_go hX [(59, .bipush 97), (61, .iload 5), (63, .bipush 9), (65, .iushr)] (by decide +kernel) (Ps := []) (pc' := 66) (lv' := [(0, .ref 15), (1, .int (nI w)), (3, .int (nI n)), (4, .int (nI s)), (5, .int (nz (nz (zs z i)))), (6, .int (nI i)), (7, .int (nI (u9 (nz (zs z i)) % s)))]) (st' := [.int (((nz (nz (zs z i))).toUInt32 >>> ((nI 9).toUInt32 &&& Int32.toUInt32 31)).toInt32), .int (nI 97), .int (nI (50 * w + u9 (nz (zs z i)) % s)), .ref 16]) (σ' := sr σ 16 (drR (σ 16) w s z i)) rfl True.intro ?_
          rw [show (((nz (nz (zs z i))).toUInt32 >>> ((nI 9).toUInt32 &&& Int32.toUInt32 31)).toInt32) = nI (u9 (nz (nz (zs z i)))) from u9_eq _]
          refine rw_go hX [(66, .bipush 26), (68, .irem)] (by decide +kernel) (Ps := [¬ (nI 26) = 0]) (pc' := 69) (lv' := [(0, .ref 15), (1, .int (nI w)), (3, .int (nI n)), (4, .int (nI s)), (5, .int (nz (nz (zs z i)))), (6, .int (nI i)), (7, .int (nI (u9 (nz (zs z i)) % s)))]) (st' := [.int (nI (u9 (nz (nz (zs z i)))) - nI (u9 (nz (nz (zs z i)))) / nI 26 * nI 26), .int (nI 97), .int (nI (50 * w + u9 (nz (zs z i)) % s)), .ref 16]) (σ' := sr σ 16 (drR (σ 16) w s z i)) rfl (show ¬ nI 26 = 0 from by decide +kernel) ?_
          rw [show (nI (u9 (nz (nz (zs z i)))) - nI (u9 (nz (nz (zs z i)))) / nI 26 * nI 26) = nI (u9 (nz (nz (zs z i))) % 26) from pk_rem (by omega) (by omega) (by omega)]
          refine rw_go hX [(69, .iadd)] (by decide +kernel) (Ps := []) (pc' := 70) (lv' := [(0, .ref 15), (1, .int (nI w)), (3, .int (nI n)), (4, .int (nI s)), (5, .int (nz (nz (zs z i)))), (6, .int (nI i)), (7, .int (nI (u9 (nz (zs z i)) % s)))]) (st' := [.int (nI 97 + nI (u9 (nz (nz (zs z i))) % 26)), .int (nI (50 * w + u9 (nz (zs z i)) % s)), .ref 16]) (σ' := sr σ 16 (drR (σ 16) w s z i)) rfl True.intro ?_
          rw [show (nI 97 + nI (u9 (nz (nz (zs z i))) % 26)) = nI (97 + u9 (nz (nz (zs z i))) % 26) from nI_add _ _]
          refine rw_callSv hX (as := [.ref 16, .int (nI (50 * w + u9 (nz (zs z i)) % s)), .int (nI (97 + u9 (nz (nz (zs z i))) % 26))]) (rest := []) (c_place _ _ _ 16 250 (50 * w + u9 (nz (zs z i)) % s) (nI (97 + u9 (nz (nz (zs z i))) % 26)) (by decide +kernel) (by omega) (by omega)) (by decide +kernel) msX9_place (Or.inr lk5_56) rfl (by decide) (Nat.le_of_ble_eq_true rfl) rfl ?_
          intro σ1 hr
          rw [sw_sr] at hr
          rw [hr]
          clear hr σ1
          refine rw_go hX [(73, .iinc 6 1), (76, .goto (-57))] (by decide +kernel) (Ps := []) (pc' := 19) (lv' := [(0, .ref 15), (1, .int (nI w)), (3, .int (nI n)), (4, .int (nI s)), (5, .int (nz (nz (zs z i)))), (6, .int (nI i + nI 1)), (7, .int (nI (u9 (nz (zs z i)) % s)))]) (st' := []) (σ' := sr σ 16 (upd (drR (σ 16) w s z i) (50 * w + u9 (nz (zs z i)) % s) (nI (97 + u9 (nz (nz (zs z i))) % 26)))) rfl True.intro ?_
          refine rw_lsub (ks := [0, 1, 2, 3, 4, 5]) (lv' := [(0, .ref 15), (1, .int (nI w)), (3, .int (nI n)), (4, .int (nI s)), (5, .int (nz (nz (zs z i)))), (6, .int (nI i + nI 1))]) rfl ?_
          rw [nI_add]
          have q := ih19 (n - (i + 1)) (by omega) (i + 1) rfl (by omega)
          rw [← drR_1, ← zs_1] at q
          exact q
    refine rw_lsub (ks := [0, 1, 3, 4, 5, 6]) (lv' := [(0, .ref 15), (1, .int (nI w)), (3, .int (nI n)), (4, .int (nI s)), (5, .int z), (6, .int (nI 0))]) rfl ?_
    have q := L19 n 0 rfl (by omega)
    rw [show drR (σ 16) w s z 0 = σ 16 from rfl, sr_id, show zs z 0 = z from rfl] at q
    exact q
  · replace h9 := zn_gtF h9
    omega
