/-! the model: what covers a letter; sources; spans -/
theorem en_inj {x y : Option Nat} (hx : ∀ v, x = some v → v < 2 ^ 31) (hy : ∀ v, y = some v → v < 2 ^ 31) (h : en x = en y) : x = y := by
  cases x with
  | none =>
    cases y with
    | none => rfl
    | some b => exact absurd (show (nI b : Int32) = -(nI 1) from h.symm) (m1_ne (hy b rfl))
  | some a =>
    cases y with
    | none => exact absurd (show (nI a : Int32) = -(nI 1) from h) (m1_ne (hx a rfl))
    | some b => rw [(nI_eq (hx a rfl) (hy b rfl)).mp h]
theorem en_lt0 {x : Option Nat} (hx : ∀ v, x = some v → v < 2 ^ 31) : (en x < 0) ↔ x.isSome = false := by
  cases x with
  | none => exact ⟨fun _ => rfl, fun _ => by show (-(nI 1) : Int32) < 0; decide +kernel⟩
  | some a => exact ⟨fun h => absurd h (nI_pos (hx a rfl)), fun h => by cases h⟩
def cvP (D : Nat → Int32) (L : Ml) (k v : Nat) (p : Nat → Lx) : Nat → Lx := fun j => if mB L k ≤ j ∧ j < mB L k + mG L k then bt D (mG L k) v (p j) else p j
theorem cvP_y {D : Nat → Int32} {L : Ml} {k v i : Nat} {p : Nat → Lx} (h : mB L k ≤ i ∧ i < mB L k + mG L k) : cvP D L k v p i = bt D (mG L k) v (p i) := if_pos h
theorem cvP_n {D : Nat → Int32} {L : Ml} {k v i : Nat} {p : Nat → Lx} (h : ¬ (mB L k ≤ i ∧ i < mB L k + mG L k)) : cvP D L k v p i = p i := if_neg h
theorem mx2_i {i j : Nat} {x y : Lx} (h : j ≠ i) : (if j < i + 1 then x else y) = if j < i then x else y := by
  by_cases q : j < i
  · rw [if_pos q, if_pos (by omega)]
  · rw [if_neg q, if_neg (by omega)]
theorem sw_2b (σ : Mm) {k1 k2 : Nat} (h12 : k1 ≠ k2) {a b : Nat → Int32} {p q : Nat} {x y : Int32} : sw (sw (sr (sr σ k1 a) k2 b) k1 p x) k2 q y = sr (sr σ k1 (upd a p x)) k2 (upd b q y) := by
  funext k
  by_cases g2 : k = k2
  · subst g2
    rw [sw_row, sw_ne _ _ _ (Ne.symm h12), sr_s, sr_s]
  · by_cases g1 : k = k1
    · subst g1
      rw [sw_ne _ _ _ g2, sw_row, sr_n _ _ g2, sr_s, sr_n _ _ g2, sr_s]
    · rw [sw_ne _ _ _ g2, sw_ne _ _ _ g1, sr_n _ _ g2, sr_n _ _ g1, sr_n _ _ g2, sr_n _ _ g1]
set_option maxRecDepth 20000 in
set_option maxHeartbeats 4000000 in
theorem m_covers (l : Launch) (G : Gl) (σ : Mm) (V : Mm) (L : Ml) (v k : Nat) (p : Nat → Lx) (hV : vw σ 67 = V) (hM : MTm L σ) (hk : k < L.length) (hv5 : v < 5) (hb1 : mB L k + mG L k ≤ 50) (hg1 : 2 ≤ mG L k) (h833 : L.length ≤ 833) (hp : ∀ i, i < 50 → gx (p i)) (hS : ∀ i, i < 50 → σ 88 i = en (p i).2 ∧ σ 89 i = nI (p i).1) : AMv l G 1 mX10_covers [.ref 66, .int (nI v), .int (nI k)] σ (fun σ' => (∀ i, i < 50 → σ' 88 i = en ((cvP (V 3) L k v p) i).2 ∧ σ' 89 i = nI ((cvP (V 3) L k v p) i).1) ∧ ∀ q, q ∉ [88, 89] → σ' q = σ q) := by
  refine rw_inV 10 (by decide +kernel) rfl rfl ?_
  intro E hE hX
  subst hE
  have hMk := hM.2 k hk
  refine rw_go hX [(0, .aload_n 0), (1, .getfield 59), (4, .iload_n 2), (5, .iaload)] (by decide +kernel) (Ps := [vp_in (nI k) 1000]) (pc' := 6) (lv' := [(0, .ref 66), (1, .int (nI v)), (2, .int (nI k))]) (st' := [.int (σ 83 (nI k).toNatClampNeg)]) (σ' := σ) rfl (vp_in_nI (by omega) (by omega)) ?_
  rw [show (σ 83 (nI k).toNatClampNeg) = nI (mB L k) from (by rw [nI_clamp (by omega), hMk.1])]
  refine rw_go hX [(6, .istore_n 3)] (by decide +kernel) (Ps := []) (pc' := 7) (lv' := [(0, .ref 66), (1, .int (nI v)), (2, .int (nI k)), (3, .int (nI (mB L k)))]) (st' := []) (σ' := σ) rfl True.intro ?_
  have L7 : ∀ (μ7 : Nat) (i : Nat) (F H9 : Nat → Int32), μ7 = mB L k + mG L k - i → (mB L k ≤ i) → (i ≤ mB L k + mG L k) → (∀ j, j < 50 → F j = en (mx2 p (cvP (V 3) L k v p) i j).2 ∧ H9 j = nI (mx2 p (cvP (V 3) L k v p) i j).1) → RW E G 1 5 (QV E G (fun σ' => (∀ i, i < 50 → σ' 88 i = en ((cvP (V 3) L k v p) i).2 ∧ σ' 89 i = nI ((cvP (V 3) L k v p) i).1) ∧ ∀ q, q ∉ [88, 89] → σ' q = σ q)) 7 [(0, .ref 66), (1, .int (nI v)), (2, .int (nI k)), (3, .int (nI i))] [] (sr (sr σ 88 F) 89 H9) := by
    intro μ7
    induction μ7 using Nat.strongRecOn with
    | ind μ7 ih7 =>
      intro i F H9 hμ7 hi1 hi2 hFG
      refine rw_go hX [(7, .iload_n 3), (8, .aload_n 0), (9, .getfield 59), (12, .iload_n 2), (13, .iaload)] (by decide +kernel) (Ps := [vp_in (nI k) 1000]) (pc' := 14) (lv' := [(0, .ref 66), (1, .int (nI v)), (2, .int (nI k)), (3, .int (nI i))]) (st' := [.int ((sr (sr σ 88 F) 89 H9) 83 (nI k).toNatClampNeg), .int (nI i)]) (σ' := sr (sr σ 88 F) 89 H9) rfl (vp_in_nI (by omega) (by omega)) ?_
      rw [show ((sr (sr σ 88 F) 89 H9) 83 (nI k).toNatClampNeg) = nI (mB L k) from (by rw [nI_clamp (by omega), sr_n _ _ (by decide), sr_n _ _ (by decide), hMk.1])]
      refine rw_go hX [(14, .aload_n 0), (15, .getfield 65), (18, .iload_n 2), (19, .iaload)] (by decide +kernel) (Ps := [vp_in (nI k) 1000]) (pc' := 20) (lv' := [(0, .ref 66), (1, .int (nI v)), (2, .int (nI k)), (3, .int (nI i))]) (st' := [.int ((sr (sr σ 88 F) 89 H9) 85 (nI k).toNatClampNeg), .int (nI (mB L k)), .int (nI i)]) (σ' := sr (sr σ 88 F) 89 H9) rfl (vp_in_nI (by omega) (by omega)) ?_
      rw [show ((sr (sr σ 88 F) 89 H9) 85 (nI k).toNatClampNeg) = nI (mG L k) from (by rw [nI_clamp (by omega), sr_n _ _ (by decide), sr_n _ _ (by decide), hMk.2.2])]
      refine rw_go hX [(20, .iadd)] (by decide +kernel) (Ps := []) (pc' := 21) (lv' := [(0, .ref 66), (1, .int (nI v)), (2, .int (nI k)), (3, .int (nI i))]) (st' := [.int (nI (mB L k) + nI (mG L k)), .int (nI i)]) (σ' := sr (sr σ 88 F) 89 H9) rfl True.intro ?_
      rw [show (nI (mB L k) + nI (mG L k)) = nI (mB L k + mG L k) from nI_add _ _]
      refine rw_icmp hX (tgt := 139) (cnd := .ge) (off := 118) (by decide +kernel) (by decide) (fun h21 => ?_) (fun h21 => ?_)
      · replace h21 := c2_geT h21
        have ei : i = mB L k + mG L k := by omega
        exact rw_vret hX (by decide +kernel) (by
  refine ⟨fun j hj => ?_, fun q hq => ?_⟩
  · have z := hFG j hj
    have e9 : mx2 p (cvP (V 3) L k v p) i j = (cvP (V 3) L k v p) j := by
      unfold mx2
      by_cases y : j < i
      · rw [if_pos y]
      · rw [if_neg y, cvP_n (by omega)]
    rw [e9] at z
    rw [sr_n _ _ (show 88 ≠ 89 by decide), sr_s, sr_s]
    exact z
  · simp only [List.mem_cons, List.not_mem_nil, or_false, not_or] at hq
    rw [sr_n _ _ hq.2, sr_n _ _ hq.1])
      · replace h21 := c2_geF h21
        have hi50 : i < 50 := by omega
        have hFi : F i = en (p i).2 ∧ H9 i = nI (p i).1 := by
          have z := hFG i hi50
          rw [show mx2 p (cvP (V 3) L k v p) i i = p i from if_neg (Nat.lt_irrefl i)] at z
          exact z
        have hgx := hp i hi50
        have hg51 := hgx.1
        refine rw_go hX [(24, .aload_n 0), (25, .getfield 65), (28, .iload_n 2), (29, .iaload)] (by decide +kernel) (Ps := [vp_in (nI k) 1000]) (pc' := 30) (lv' := [(0, .ref 66), (1, .int (nI v)), (2, .int (nI k)), (3, .int (nI i))]) (st' := [.int ((sr (sr σ 88 F) 89 H9) 85 (nI k).toNatClampNeg)]) (σ' := sr (sr σ 88 F) 89 H9) rfl (vp_in_nI (by omega) (by omega)) ?_
        rw [show ((sr (sr σ 88 F) 89 H9) 85 (nI k).toNatClampNeg) = nI (mG L k) from (by rw [nI_clamp (by omega), sr_n _ _ (by decide), sr_n _ _ (by decide), hMk.2.2])]
        refine rw_go hX [(30, .aload_n 0), (31, .getfield 77), (34, .iload_n 3), (35, .iaload)] (by decide +kernel) (Ps := [vp_in (nI i) 50]) (pc' := 36) (lv' := [(0, .ref 66), (1, .int (nI v)), (2, .int (nI k)), (3, .int (nI i))]) (st' := [.int ((sr (sr σ 88 F) 89 H9) 89 (nI i).toNatClampNeg), .int (nI (mG L k))]) (σ' := sr (sr σ 88 F) 89 H9) rfl (vp_in_nI (by omega) (by omega)) ?_
        rw [show ((sr (sr σ 88 F) 89 H9) 89 (nI i).toNatClampNeg) = nI ((p i).1) from (by rw [nI_clamp (by omega), sr_s, hFi.2])]
        refine rw_icmp hX (tgt := 84) (cnd := .gt) (off := 48) (by decide +kernel) (by decide) (fun h36 => ?_) (fun h36 => ?_)
        · replace h36 := c2_gtT h36
          have hbt : bt (V 3) (mG L k) v (p i) = (mG L k, some v) := bt_gt h36
          refine rw_go hX [(84, .iconst 1), (85, .goto 4), (89, .istore 4), (91, .aload_n 0), (92, .getfield 74), (95, .iload_n 3), (96, .iload 4)] (by decide +kernel) (Ps := []) (pc' := 98) (lv' := [(0, .ref 66), (1, .int (nI v)), (2, .int (nI k)), (3, .int (nI i)), (4, .int (nI 1))]) (st' := [.int (nI 1), .int (nI i), .ref 88]) (σ' := sr (sr σ 88 F) 89 H9) rfl True.intro ?_
          refine rw_if hX (tgt := 105) (cnd := .eq) (off := 7) (by decide +kernel) (by decide) (fun h98 => ?_) (fun h98 => ?_)
          · exact absurd h98 (by simp only [cz, cc2]; decide +kernel)
          · skip
            refine rw_go hX [(101, .iload_n 1), (102, .goto 9), (111, .iastore)] (by decide +kernel) (Ps := [vp_in (nI i) 50]) (pc' := 112) (lv' := [(0, .ref 66), (1, .int (nI v)), (2, .int (nI k)), (3, .int (nI i)), (4, .int (nI 1))]) (st' := []) (σ' := sw (sr (sr σ 88 F) 89 H9) 88 (nI i).toNatClampNeg (nI v)) rfl (vp_in_nI (by omega) (by omega)) ?_
            rw [show (sw (sr (sr σ 88 F) 89 H9) 88 (nI i).toNatClampNeg (nI v)) = sw (sr (sr σ 88 F) 89 H9) 88 i (nI v) from (by rw [nI_clamp (by omega)])]
            refine rw_go hX [(112, .aload_n 0), (113, .getfield 77), (116, .iload_n 3), (117, .aload_n 0), (118, .getfield 77), (121, .iload_n 3), (122, .iaload)] (by decide +kernel) (Ps := [vp_in (nI i) 50]) (pc' := 123) (lv' := [(0, .ref 66), (1, .int (nI v)), (2, .int (nI k)), (3, .int (nI i)), (4, .int (nI 1))]) (st' := [.int ((sw (sr (sr σ 88 F) 89 H9) 88 i (nI v)) 89 (nI i).toNatClampNeg), .int (nI i), .ref 89]) (σ' := sw (sr (sr σ 88 F) 89 H9) 88 i (nI v)) rfl (vp_in_nI (by omega) (by omega)) ?_
            rw [show ((sw (sr (sr σ 88 F) 89 H9) 88 i (nI v)) 89 (nI i).toNatClampNeg) = nI ((p i).1) from (by rw [nI_clamp (by omega), sw_ne _ _ _ (by decide), sr_s, hFi.2])]
            refine rw_go hX [(123, .aload_n 0), (124, .getfield 65), (127, .iload_n 2), (128, .iaload)] (by decide +kernel) (Ps := [vp_in (nI k) 1000]) (pc' := 129) (lv' := [(0, .ref 66), (1, .int (nI v)), (2, .int (nI k)), (3, .int (nI i)), (4, .int (nI 1))]) (st' := [.int ((sw (sr (sr σ 88 F) 89 H9) 88 i (nI v)) 85 (nI k).toNatClampNeg), .int (nI ((p i).1)), .int (nI i), .ref 89]) (σ' := sw (sr (sr σ 88 F) 89 H9) 88 i (nI v)) rfl (vp_in_nI (by omega) (by omega)) ?_
            rw [show ((sw (sr (sr σ 88 F) 89 H9) 88 i (nI v)) 85 (nI k).toNatClampNeg) = nI (mG L k) from (by rw [nI_clamp (by omega), sw_ne _ _ _ (by decide), sr_n _ _ (by decide), sr_n _ _ (by decide), hMk.2.2])]
            refine rw_max hX (by decide +kernel) lk10_182 (Nat.le_of_ble_eq_true rfl) ?_
            rw [show (if nI ((p i).1) < nI (mG L k) then nI (mG L k) else nI ((p i).1)) = nI (max ((p i).1) (mG L k)) from mx_nat (by omega) (by omega)]
            refine rw_go hX [(132, .iastore)] (by decide +kernel) (Ps := [vp_in (nI i) 50]) (pc' := 133) (lv' := [(0, .ref 66), (1, .int (nI v)), (2, .int (nI k)), (3, .int (nI i)), (4, .int (nI 1))]) (st' := []) (σ' := sw (sw (sr (sr σ 88 F) 89 H9) 88 i (nI v)) 89 (nI i).toNatClampNeg (nI (max ((p i).1) (mG L k)))) rfl (vp_in_nI (by omega) (by omega)) ?_
            rw [show (sw (sw (sr (sr σ 88 F) 89 H9) 88 i (nI v)) 89 (nI i).toNatClampNeg (nI (max ((p i).1) (mG L k)))) = sw (sw (sr (sr σ 88 F) 89 H9) 88 i (nI v)) 89 i (nI (max ((p i).1) (mG L k))) from (by rw [nI_clamp (by omega)])]
            refine rw_go hX [(133, .iinc 3 1)] (by decide +kernel) (Ps := []) (pc' := 136) (lv' := [(0, .ref 66), (1, .int (nI v)), (2, .int (nI k)), (3, .int (nI i + nI 1)), (4, .int (nI 1))]) (st' := []) (σ' := sw (sw (sr (sr σ 88 F) 89 H9) 88 i (nI v)) 89 i (nI (max ((p i).1) (mG L k)))) rfl True.intro ?_
            rw [show (nI i + nI 1) = nI (i + 1) from nI_add _ _]
            refine rw_go hX [(136, .goto (-129))] (by decide +kernel) (Ps := []) (pc' := 7) (lv' := [(0, .ref 66), (1, .int (nI v)), (2, .int (nI k)), (3, .int (nI (i + 1))), (4, .int (nI 1))]) (st' := []) (σ' := sw (sw (sr (sr σ 88 F) 89 H9) 88 i (nI v)) 89 i (nI (max ((p i).1) (mG L k)))) rfl True.intro ?_
            refine rw_lsub (ks := [0, 1, 2, 3]) (lv' := [(0, .ref 66), (1, .int (nI v)), (2, .int (nI k)), (3, .int (nI (i + 1)))]) rfl ?_
            have e9 : mx2 p (cvP (V 3) L k v p) (i + 1) i = bt (V 3) (mG L k) v (p i) := by unfold mx2; rw [if_pos (by omega), cvP_y ⟨hi1, by omega⟩]
            rw [sw_2b _ (by decide)]
            exact ih7 (mB L k + mG L k - (i + 1)) (by omega) (i + 1) _ _ rfl (by omega) (by omega) (fun j hj => by
              by_cases q : j = i
              · subst q
                rw [upd_s, upd_s, e9, hbt]
                exact ⟨rfl, by rw [show max (p j).1 (mG L k) = mG L k by omega]⟩
              · rw [upd_n _ _ q, upd_n _ _ q]
                have z := hFG j hj
                rw [show mx2 p (cvP (V 3) L k v p) (i + 1) j = mx2 p (cvP (V 3) L k v p) i j from by unfold mx2; exact mx2_i q]
                exact z)
        · replace h36 := c2_gtF h36
          refine rw_go hX [(39, .aload_n 0), (40, .getfield 65), (43, .iload_n 2), (44, .iaload)] (by decide +kernel) (Ps := [vp_in (nI k) 1000]) (pc' := 45) (lv' := [(0, .ref 66), (1, .int (nI v)), (2, .int (nI k)), (3, .int (nI i))]) (st' := [.int ((sr (sr σ 88 F) 89 H9) 85 (nI k).toNatClampNeg)]) (σ' := sr (sr σ 88 F) 89 H9) rfl (vp_in_nI (by omega) (by omega)) ?_
          rw [show ((sr (sr σ 88 F) 89 H9) 85 (nI k).toNatClampNeg) = nI (mG L k) from (by rw [nI_clamp (by omega), sr_n _ _ (by decide), sr_n _ _ (by decide), hMk.2.2])]
          refine rw_go hX [(45, .aload_n 0), (46, .getfield 77), (49, .iload_n 3), (50, .iaload)] (by decide +kernel) (Ps := [vp_in (nI i) 50]) (pc' := 51) (lv' := [(0, .ref 66), (1, .int (nI v)), (2, .int (nI k)), (3, .int (nI i))]) (st' := [.int ((sr (sr σ 88 F) 89 H9) 89 (nI i).toNatClampNeg), .int (nI (mG L k))]) (σ' := sr (sr σ 88 F) 89 H9) rfl (vp_in_nI (by omega) (by omega)) ?_
          rw [show ((sr (sr σ 88 F) 89 H9) 89 (nI i).toNatClampNeg) = nI ((p i).1) from (by rw [nI_clamp (by omega), sr_s, hFi.2])]
          refine rw_icmp hX (tgt := 88) (cnd := .ne) (off := 37) (by decide +kernel) (by decide) (fun h51 => ?_) (fun h51 => ?_)
          · replace h51 := c2_neT h51
            have hbt : bt (V 3) (mG L k) v (p i) = p i := bt_lt (by omega)
            refine rw_go hX [(88, .iconst 0), (89, .istore 4), (91, .aload_n 0), (92, .getfield 74), (95, .iload_n 3), (96, .iload 4)] (by decide +kernel) (Ps := []) (pc' := 98) (lv' := [(0, .ref 66), (1, .int (nI v)), (2, .int (nI k)), (3, .int (nI i)), (4, .int (nI 0))]) (st' := [.int (nI 0), .int (nI i), .ref 88]) (σ' := sr (sr σ 88 F) 89 H9) rfl True.intro ?_
            refine rw_if hX (tgt := 105) (cnd := .eq) (off := 7) (by decide +kernel) (by decide) (fun h98 => ?_) (fun h98 => ?_)
            · skip
              refine rw_go hX [(105, .aload_n 0), (106, .getfield 74), (109, .iload_n 3), (110, .iaload)] (by decide +kernel) (Ps := [vp_in (nI i) 50]) (pc' := 111) (lv' := [(0, .ref 66), (1, .int (nI v)), (2, .int (nI k)), (3, .int (nI i)), (4, .int (nI 0))]) (st' := [.int ((sr (sr σ 88 F) 89 H9) 88 (nI i).toNatClampNeg), .int (nI i), .ref 88]) (σ' := sr (sr σ 88 F) 89 H9) rfl (vp_in_nI (by omega) (by omega)) ?_
              rw [show ((sr (sr σ 88 F) 89 H9) 88 (nI i).toNatClampNeg) = en (p i).2 from (by rw [nI_clamp (by omega), sr_n _ _ (by decide), sr_s, hFi.1])]
              refine rw_go hX [(111, .iastore)] (by decide +kernel) (Ps := [vp_in (nI i) 50]) (pc' := 112) (lv' := [(0, .ref 66), (1, .int (nI v)), (2, .int (nI k)), (3, .int (nI i)), (4, .int (nI 0))]) (st' := []) (σ' := sw (sr (sr σ 88 F) 89 H9) 88 (nI i).toNatClampNeg (en (p i).2)) rfl (vp_in_nI (by omega) (by omega)) ?_
              rw [show (sw (sr (sr σ 88 F) 89 H9) 88 (nI i).toNatClampNeg (en (p i).2)) = sw (sr (sr σ 88 F) 89 H9) 88 i (en (p i).2) from (by rw [nI_clamp (by omega)])]
              refine rw_go hX [(112, .aload_n 0), (113, .getfield 77), (116, .iload_n 3), (117, .aload_n 0), (118, .getfield 77), (121, .iload_n 3), (122, .iaload)] (by decide +kernel) (Ps := [vp_in (nI i) 50]) (pc' := 123) (lv' := [(0, .ref 66), (1, .int (nI v)), (2, .int (nI k)), (3, .int (nI i)), (4, .int (nI 0))]) (st' := [.int ((sw (sr (sr σ 88 F) 89 H9) 88 i (en (p i).2)) 89 (nI i).toNatClampNeg), .int (nI i), .ref 89]) (σ' := sw (sr (sr σ 88 F) 89 H9) 88 i (en (p i).2)) rfl (vp_in_nI (by omega) (by omega)) ?_
              rw [show ((sw (sr (sr σ 88 F) 89 H9) 88 i (en (p i).2)) 89 (nI i).toNatClampNeg) = nI ((p i).1) from (by rw [nI_clamp (by omega), sw_ne _ _ _ (by decide), sr_s, hFi.2])]
              refine rw_go hX [(123, .aload_n 0), (124, .getfield 65), (127, .iload_n 2), (128, .iaload)] (by decide +kernel) (Ps := [vp_in (nI k) 1000]) (pc' := 129) (lv' := [(0, .ref 66), (1, .int (nI v)), (2, .int (nI k)), (3, .int (nI i)), (4, .int (nI 0))]) (st' := [.int ((sw (sr (sr σ 88 F) 89 H9) 88 i (en (p i).2)) 85 (nI k).toNatClampNeg), .int (nI ((p i).1)), .int (nI i), .ref 89]) (σ' := sw (sr (sr σ 88 F) 89 H9) 88 i (en (p i).2)) rfl (vp_in_nI (by omega) (by omega)) ?_
              rw [show ((sw (sr (sr σ 88 F) 89 H9) 88 i (en (p i).2)) 85 (nI k).toNatClampNeg) = nI (mG L k) from (by rw [nI_clamp (by omega), sw_ne _ _ _ (by decide), sr_n _ _ (by decide), sr_n _ _ (by decide), hMk.2.2])]
              refine rw_max hX (by decide +kernel) lk10_182 (Nat.le_of_ble_eq_true rfl) ?_
              rw [show (if nI ((p i).1) < nI (mG L k) then nI (mG L k) else nI ((p i).1)) = nI (max ((p i).1) (mG L k)) from mx_nat (by omega) (by omega)]
              refine rw_go hX [(132, .iastore)] (by decide +kernel) (Ps := [vp_in (nI i) 50]) (pc' := 133) (lv' := [(0, .ref 66), (1, .int (nI v)), (2, .int (nI k)), (3, .int (nI i)), (4, .int (nI 0))]) (st' := []) (σ' := sw (sw (sr (sr σ 88 F) 89 H9) 88 i (en (p i).2)) 89 (nI i).toNatClampNeg (nI (max ((p i).1) (mG L k)))) rfl (vp_in_nI (by omega) (by omega)) ?_
              rw [show (sw (sw (sr (sr σ 88 F) 89 H9) 88 i (en (p i).2)) 89 (nI i).toNatClampNeg (nI (max ((p i).1) (mG L k)))) = sw (sw (sr (sr σ 88 F) 89 H9) 88 i (en (p i).2)) 89 i (nI (max ((p i).1) (mG L k))) from (by rw [nI_clamp (by omega)])]
              refine rw_go hX [(133, .iinc 3 1)] (by decide +kernel) (Ps := []) (pc' := 136) (lv' := [(0, .ref 66), (1, .int (nI v)), (2, .int (nI k)), (3, .int (nI i + nI 1)), (4, .int (nI 0))]) (st' := []) (σ' := sw (sw (sr (sr σ 88 F) 89 H9) 88 i (en (p i).2)) 89 i (nI (max ((p i).1) (mG L k)))) rfl True.intro ?_
              rw [show (nI i + nI 1) = nI (i + 1) from nI_add _ _]
              refine rw_go hX [(136, .goto (-129))] (by decide +kernel) (Ps := []) (pc' := 7) (lv' := [(0, .ref 66), (1, .int (nI v)), (2, .int (nI k)), (3, .int (nI (i + 1))), (4, .int (nI 0))]) (st' := []) (σ' := sw (sw (sr (sr σ 88 F) 89 H9) 88 i (en (p i).2)) 89 i (nI (max ((p i).1) (mG L k)))) rfl True.intro ?_
              refine rw_lsub (ks := [0, 1, 2, 3]) (lv' := [(0, .ref 66), (1, .int (nI v)), (2, .int (nI k)), (3, .int (nI (i + 1)))]) rfl ?_
              have e9 : mx2 p (cvP (V 3) L k v p) (i + 1) i = bt (V 3) (mG L k) v (p i) := by unfold mx2; rw [if_pos (by omega), cvP_y ⟨hi1, by omega⟩]
              rw [sw_2b _ (by decide)]
              exact ih7 (mB L k + mG L k - (i + 1)) (by omega) (i + 1) _ _ rfl (by omega) (by omega) (fun j hj => by
                by_cases q : j = i
                · subst q
                  rw [upd_s, upd_s, e9, hbt]
                  exact ⟨rfl, by rw [show max (p j).1 (mG L k) = (p j).1 by omega]⟩
                · rw [upd_n _ _ q, upd_n _ _ q]
                  have z := hFG j hj
                  rw [show mx2 p (cvP (V 3) L k v p) (i + 1) j = mx2 p (cvP (V 3) L k v p) i j from by unfold mx2; exact mx2_i q]
                  exact z)
            · exact absurd (by simp only [cz, cc2]; decide +kernel) h98
          · replace h51 := c2_neF h51
            obtain ⟨s, hs⟩ := hgx.2.2 (by omega)
            have hs5 := hgx.2.1 s hs
            refine rw_go hX [(54, .aload_n 0), (55, .getfield 74), (58, .iload_n 3), (59, .iaload)] (by decide +kernel) (Ps := [vp_in (nI i) 50]) (pc' := 60) (lv' := [(0, .ref 66), (1, .int (nI v)), (2, .int (nI k)), (3, .int (nI i))]) (st' := [.int ((sr (sr σ 88 F) 89 H9) 88 (nI i).toNatClampNeg)]) (σ' := sr (sr σ 88 F) 89 H9) rfl (vp_in_nI (by omega) (by omega)) ?_
            rw [show ((sr (sr σ 88 F) 89 H9) 88 (nI i).toNatClampNeg) = en (p i).2 from (by rw [nI_clamp (by omega), sr_n _ _ (by decide), sr_s, hFi.1])]
            rw [show en (p i).2 = nI s from by rw [hs]; rfl]
            refine rw_go hX [(60, .iload_n 1)] (by decide +kernel) (Ps := []) (pc' := 61) (lv' := [(0, .ref 66), (1, .int (nI v)), (2, .int (nI k)), (3, .int (nI i))]) (st' := [.int (nI v), .int (nI s)]) (σ' := sr (sr σ 88 F) 89 H9) rfl True.intro ?_
            refine rw_icmp hX (tgt := 88) (cnd := .eq) (off := 27) (by decide +kernel) (by decide) (fun h61 => ?_) (fun h61 => ?_)
            · replace h61 := c2_eqT h61
              have hbt : bt (V 3) (mG L k) v (p i) = p i := bt_eqN h51 (by rw [hs, h61]; show ¬ V 3 v < V 3 v; exact Int32.lt_irrefl)
              refine rw_go hX [(88, .iconst 0), (89, .istore 4), (91, .aload_n 0), (92, .getfield 74), (95, .iload_n 3), (96, .iload 4)] (by decide +kernel) (Ps := []) (pc' := 98) (lv' := [(0, .ref 66), (1, .int (nI v)), (2, .int (nI k)), (3, .int (nI i)), (4, .int (nI 0))]) (st' := [.int (nI 0), .int (nI i), .ref 88]) (σ' := sr (sr σ 88 F) 89 H9) rfl True.intro ?_
              refine rw_if hX (tgt := 105) (cnd := .eq) (off := 7) (by decide +kernel) (by decide) (fun h98 => ?_) (fun h98 => ?_)
              · skip
                refine rw_go hX [(105, .aload_n 0), (106, .getfield 74), (109, .iload_n 3), (110, .iaload)] (by decide +kernel) (Ps := [vp_in (nI i) 50]) (pc' := 111) (lv' := [(0, .ref 66), (1, .int (nI v)), (2, .int (nI k)), (3, .int (nI i)), (4, .int (nI 0))]) (st' := [.int ((sr (sr σ 88 F) 89 H9) 88 (nI i).toNatClampNeg), .int (nI i), .ref 88]) (σ' := sr (sr σ 88 F) 89 H9) rfl (vp_in_nI (by omega) (by omega)) ?_
                rw [show ((sr (sr σ 88 F) 89 H9) 88 (nI i).toNatClampNeg) = en (p i).2 from (by rw [nI_clamp (by omega), sr_n _ _ (by decide), sr_s, hFi.1])]
                refine rw_go hX [(111, .iastore)] (by decide +kernel) (Ps := [vp_in (nI i) 50]) (pc' := 112) (lv' := [(0, .ref 66), (1, .int (nI v)), (2, .int (nI k)), (3, .int (nI i)), (4, .int (nI 0))]) (st' := []) (σ' := sw (sr (sr σ 88 F) 89 H9) 88 (nI i).toNatClampNeg (en (p i).2)) rfl (vp_in_nI (by omega) (by omega)) ?_
                rw [show (sw (sr (sr σ 88 F) 89 H9) 88 (nI i).toNatClampNeg (en (p i).2)) = sw (sr (sr σ 88 F) 89 H9) 88 i (en (p i).2) from (by rw [nI_clamp (by omega)])]
                refine rw_go hX [(112, .aload_n 0), (113, .getfield 77), (116, .iload_n 3), (117, .aload_n 0), (118, .getfield 77), (121, .iload_n 3), (122, .iaload)] (by decide +kernel) (Ps := [vp_in (nI i) 50]) (pc' := 123) (lv' := [(0, .ref 66), (1, .int (nI v)), (2, .int (nI k)), (3, .int (nI i)), (4, .int (nI 0))]) (st' := [.int ((sw (sr (sr σ 88 F) 89 H9) 88 i (en (p i).2)) 89 (nI i).toNatClampNeg), .int (nI i), .ref 89]) (σ' := sw (sr (sr σ 88 F) 89 H9) 88 i (en (p i).2)) rfl (vp_in_nI (by omega) (by omega)) ?_
                rw [show ((sw (sr (sr σ 88 F) 89 H9) 88 i (en (p i).2)) 89 (nI i).toNatClampNeg) = nI ((p i).1) from (by rw [nI_clamp (by omega), sw_ne _ _ _ (by decide), sr_s, hFi.2])]
                refine rw_go hX [(123, .aload_n 0), (124, .getfield 65), (127, .iload_n 2), (128, .iaload)] (by decide +kernel) (Ps := [vp_in (nI k) 1000]) (pc' := 129) (lv' := [(0, .ref 66), (1, .int (nI v)), (2, .int (nI k)), (3, .int (nI i)), (4, .int (nI 0))]) (st' := [.int ((sw (sr (sr σ 88 F) 89 H9) 88 i (en (p i).2)) 85 (nI k).toNatClampNeg), .int (nI ((p i).1)), .int (nI i), .ref 89]) (σ' := sw (sr (sr σ 88 F) 89 H9) 88 i (en (p i).2)) rfl (vp_in_nI (by omega) (by omega)) ?_
                rw [show ((sw (sr (sr σ 88 F) 89 H9) 88 i (en (p i).2)) 85 (nI k).toNatClampNeg) = nI (mG L k) from (by rw [nI_clamp (by omega), sw_ne _ _ _ (by decide), sr_n _ _ (by decide), sr_n _ _ (by decide), hMk.2.2])]
                refine rw_max hX (by decide +kernel) lk10_182 (Nat.le_of_ble_eq_true rfl) ?_
                rw [show (if nI ((p i).1) < nI (mG L k) then nI (mG L k) else nI ((p i).1)) = nI (max ((p i).1) (mG L k)) from mx_nat (by omega) (by omega)]
                refine rw_go hX [(132, .iastore)] (by decide +kernel) (Ps := [vp_in (nI i) 50]) (pc' := 133) (lv' := [(0, .ref 66), (1, .int (nI v)), (2, .int (nI k)), (3, .int (nI i)), (4, .int (nI 0))]) (st' := []) (σ' := sw (sw (sr (sr σ 88 F) 89 H9) 88 i (en (p i).2)) 89 (nI i).toNatClampNeg (nI (max ((p i).1) (mG L k)))) rfl (vp_in_nI (by omega) (by omega)) ?_
                rw [show (sw (sw (sr (sr σ 88 F) 89 H9) 88 i (en (p i).2)) 89 (nI i).toNatClampNeg (nI (max ((p i).1) (mG L k)))) = sw (sw (sr (sr σ 88 F) 89 H9) 88 i (en (p i).2)) 89 i (nI (max ((p i).1) (mG L k))) from (by rw [nI_clamp (by omega)])]
                refine rw_go hX [(133, .iinc 3 1)] (by decide +kernel) (Ps := []) (pc' := 136) (lv' := [(0, .ref 66), (1, .int (nI v)), (2, .int (nI k)), (3, .int (nI i + nI 1)), (4, .int (nI 0))]) (st' := []) (σ' := sw (sw (sr (sr σ 88 F) 89 H9) 88 i (en (p i).2)) 89 i (nI (max ((p i).1) (mG L k)))) rfl True.intro ?_
                rw [show (nI i + nI 1) = nI (i + 1) from nI_add _ _]
                refine rw_go hX [(136, .goto (-129))] (by decide +kernel) (Ps := []) (pc' := 7) (lv' := [(0, .ref 66), (1, .int (nI v)), (2, .int (nI k)), (3, .int (nI (i + 1))), (4, .int (nI 0))]) (st' := []) (σ' := sw (sw (sr (sr σ 88 F) 89 H9) 88 i (en (p i).2)) 89 i (nI (max ((p i).1) (mG L k)))) rfl True.intro ?_
                refine rw_lsub (ks := [0, 1, 2, 3]) (lv' := [(0, .ref 66), (1, .int (nI v)), (2, .int (nI k)), (3, .int (nI (i + 1)))]) rfl ?_
                have e9 : mx2 p (cvP (V 3) L k v p) (i + 1) i = bt (V 3) (mG L k) v (p i) := by unfold mx2; rw [if_pos (by omega), cvP_y ⟨hi1, by omega⟩]
                rw [sw_2b _ (by decide)]
                exact ih7 (mB L k + mG L k - (i + 1)) (by omega) (i + 1) _ _ rfl (by omega) (by omega) (fun j hj => by
                  by_cases q : j = i
                  · subst q
                    rw [upd_s, upd_s, e9, hbt]
                    exact ⟨rfl, by rw [show max (p j).1 (mG L k) = (p j).1 by omega]⟩
                  · rw [upd_n _ _ q, upd_n _ _ q]
                    have z := hFG j hj
                    rw [show mx2 p (cvP (V 3) L k v p) (i + 1) j = mx2 p (cvP (V 3) L k v p) i j from by unfold mx2; exact mx2_i q]
                    exact z)
              · exact absurd (by simp only [cz, cc2]; decide +kernel) h98
            · replace h61 := c2_eqF h61
              refine rw_go hX [(64, .aload_n 0), (65, .getfield 19), (68, .iload_n 1), (69, .iaload)] (by decide +kernel) (Ps := [vp_in (nI v) 5]) (pc' := 70) (lv' := [(0, .ref 66), (1, .int (nI v)), (2, .int (nI k)), (3, .int (nI i))]) (st' := [.int ((sr (sr σ 88 F) 89 H9) 70 (nI v).toNatClampNeg)]) (σ' := sr (sr σ 88 F) 89 H9) rfl (vp_in_nI (by omega) (by omega)) ?_
              rw [show ((sr (sr σ 88 F) 89 H9) 70 (nI v).toNatClampNeg) = V 3 v from (by rw [nI_clamp (by omega), sr_n _ _ (by decide), sr_n _ _ (by decide), (vw_at hV 3 (by omega))])]
              refine rw_go hX [(70, .aload_n 0), (71, .getfield 19), (74, .aload_n 0), (75, .getfield 74), (78, .iload_n 3), (79, .iaload)] (by decide +kernel) (Ps := [vp_in (nI i) 50]) (pc' := 80) (lv' := [(0, .ref 66), (1, .int (nI v)), (2, .int (nI k)), (3, .int (nI i))]) (st' := [.int ((sr (sr σ 88 F) 89 H9) 88 (nI i).toNatClampNeg), .ref 70, .int (V 3 v)]) (σ' := sr (sr σ 88 F) 89 H9) rfl (vp_in_nI (by omega) (by omega)) ?_
              rw [show ((sr (sr σ 88 F) 89 H9) 88 (nI i).toNatClampNeg) = en (p i).2 from (by rw [nI_clamp (by omega), sr_n _ _ (by decide), sr_s, hFi.1])]
              rw [show en (p i).2 = nI s from by rw [hs]; rfl]
              refine rw_go hX [(80, .iaload)] (by decide +kernel) (Ps := [vp_in (nI s) 5]) (pc' := 81) (lv' := [(0, .ref 66), (1, .int (nI v)), (2, .int (nI k)), (3, .int (nI i))]) (st' := [.int ((sr (sr σ 88 F) 89 H9) 70 (nI s).toNatClampNeg), .int (V 3 v)]) (σ' := sr (sr σ 88 F) 89 H9) rfl (vp_in_nI (by omega) (by omega)) ?_
              rw [show ((sr (sr σ 88 F) 89 H9) 70 (nI s).toNatClampNeg) = V 3 s from (by rw [nI_clamp (by omega), sr_n _ _ (by decide), sr_n _ _ (by decide), (vw_at hV 3 (by omega))])]
              refine rw_icmp hX (tgt := 88) (cnd := .ge) (off := 7) (by decide +kernel) (by decide) (fun h81 => ?_) (fun h81 => ?_)
              · replace h81 : (V 3 v ≥ V 3 s) := h81
                have hbt : bt (V 3) (mG L k) v (p i) = p i := bt_eqN h51 (by rw [hs]; exact Int32.not_lt.mpr h81)
                refine rw_go hX [(88, .iconst 0), (89, .istore 4), (91, .aload_n 0), (92, .getfield 74), (95, .iload_n 3), (96, .iload 4)] (by decide +kernel) (Ps := []) (pc' := 98) (lv' := [(0, .ref 66), (1, .int (nI v)), (2, .int (nI k)), (3, .int (nI i)), (4, .int (nI 0))]) (st' := [.int (nI 0), .int (nI i), .ref 88]) (σ' := sr (sr σ 88 F) 89 H9) rfl True.intro ?_
                refine rw_if hX (tgt := 105) (cnd := .eq) (off := 7) (by decide +kernel) (by decide) (fun h98 => ?_) (fun h98 => ?_)
                · skip
                  refine rw_go hX [(105, .aload_n 0), (106, .getfield 74), (109, .iload_n 3), (110, .iaload)] (by decide +kernel) (Ps := [vp_in (nI i) 50]) (pc' := 111) (lv' := [(0, .ref 66), (1, .int (nI v)), (2, .int (nI k)), (3, .int (nI i)), (4, .int (nI 0))]) (st' := [.int ((sr (sr σ 88 F) 89 H9) 88 (nI i).toNatClampNeg), .int (nI i), .ref 88]) (σ' := sr (sr σ 88 F) 89 H9) rfl (vp_in_nI (by omega) (by omega)) ?_
                  rw [show ((sr (sr σ 88 F) 89 H9) 88 (nI i).toNatClampNeg) = en (p i).2 from (by rw [nI_clamp (by omega), sr_n _ _ (by decide), sr_s, hFi.1])]
                  refine rw_go hX [(111, .iastore)] (by decide +kernel) (Ps := [vp_in (nI i) 50]) (pc' := 112) (lv' := [(0, .ref 66), (1, .int (nI v)), (2, .int (nI k)), (3, .int (nI i)), (4, .int (nI 0))]) (st' := []) (σ' := sw (sr (sr σ 88 F) 89 H9) 88 (nI i).toNatClampNeg (en (p i).2)) rfl (vp_in_nI (by omega) (by omega)) ?_
                  rw [show (sw (sr (sr σ 88 F) 89 H9) 88 (nI i).toNatClampNeg (en (p i).2)) = sw (sr (sr σ 88 F) 89 H9) 88 i (en (p i).2) from (by rw [nI_clamp (by omega)])]
                  refine rw_go hX [(112, .aload_n 0), (113, .getfield 77), (116, .iload_n 3), (117, .aload_n 0), (118, .getfield 77), (121, .iload_n 3), (122, .iaload)] (by decide +kernel) (Ps := [vp_in (nI i) 50]) (pc' := 123) (lv' := [(0, .ref 66), (1, .int (nI v)), (2, .int (nI k)), (3, .int (nI i)), (4, .int (nI 0))]) (st' := [.int ((sw (sr (sr σ 88 F) 89 H9) 88 i (en (p i).2)) 89 (nI i).toNatClampNeg), .int (nI i), .ref 89]) (σ' := sw (sr (sr σ 88 F) 89 H9) 88 i (en (p i).2)) rfl (vp_in_nI (by omega) (by omega)) ?_
                  rw [show ((sw (sr (sr σ 88 F) 89 H9) 88 i (en (p i).2)) 89 (nI i).toNatClampNeg) = nI ((p i).1) from (by rw [nI_clamp (by omega), sw_ne _ _ _ (by decide), sr_s, hFi.2])]
                  refine rw_go hX [(123, .aload_n 0), (124, .getfield 65), (127, .iload_n 2), (128, .iaload)] (by decide +kernel) (Ps := [vp_in (nI k) 1000]) (pc' := 129) (lv' := [(0, .ref 66), (1, .int (nI v)), (2, .int (nI k)), (3, .int (nI i)), (4, .int (nI 0))]) (st' := [.int ((sw (sr (sr σ 88 F) 89 H9) 88 i (en (p i).2)) 85 (nI k).toNatClampNeg), .int (nI ((p i).1)), .int (nI i), .ref 89]) (σ' := sw (sr (sr σ 88 F) 89 H9) 88 i (en (p i).2)) rfl (vp_in_nI (by omega) (by omega)) ?_
                  rw [show ((sw (sr (sr σ 88 F) 89 H9) 88 i (en (p i).2)) 85 (nI k).toNatClampNeg) = nI (mG L k) from (by rw [nI_clamp (by omega), sw_ne _ _ _ (by decide), sr_n _ _ (by decide), sr_n _ _ (by decide), hMk.2.2])]
                  refine rw_max hX (by decide +kernel) lk10_182 (Nat.le_of_ble_eq_true rfl) ?_
                  rw [show (if nI ((p i).1) < nI (mG L k) then nI (mG L k) else nI ((p i).1)) = nI (max ((p i).1) (mG L k)) from mx_nat (by omega) (by omega)]
                  refine rw_go hX [(132, .iastore)] (by decide +kernel) (Ps := [vp_in (nI i) 50]) (pc' := 133) (lv' := [(0, .ref 66), (1, .int (nI v)), (2, .int (nI k)), (3, .int (nI i)), (4, .int (nI 0))]) (st' := []) (σ' := sw (sw (sr (sr σ 88 F) 89 H9) 88 i (en (p i).2)) 89 (nI i).toNatClampNeg (nI (max ((p i).1) (mG L k)))) rfl (vp_in_nI (by omega) (by omega)) ?_
                  rw [show (sw (sw (sr (sr σ 88 F) 89 H9) 88 i (en (p i).2)) 89 (nI i).toNatClampNeg (nI (max ((p i).1) (mG L k)))) = sw (sw (sr (sr σ 88 F) 89 H9) 88 i (en (p i).2)) 89 i (nI (max ((p i).1) (mG L k))) from (by rw [nI_clamp (by omega)])]
                  refine rw_go hX [(133, .iinc 3 1)] (by decide +kernel) (Ps := []) (pc' := 136) (lv' := [(0, .ref 66), (1, .int (nI v)), (2, .int (nI k)), (3, .int (nI i + nI 1)), (4, .int (nI 0))]) (st' := []) (σ' := sw (sw (sr (sr σ 88 F) 89 H9) 88 i (en (p i).2)) 89 i (nI (max ((p i).1) (mG L k)))) rfl True.intro ?_
                  rw [show (nI i + nI 1) = nI (i + 1) from nI_add _ _]
                  refine rw_go hX [(136, .goto (-129))] (by decide +kernel) (Ps := []) (pc' := 7) (lv' := [(0, .ref 66), (1, .int (nI v)), (2, .int (nI k)), (3, .int (nI (i + 1))), (4, .int (nI 0))]) (st' := []) (σ' := sw (sw (sr (sr σ 88 F) 89 H9) 88 i (en (p i).2)) 89 i (nI (max ((p i).1) (mG L k)))) rfl True.intro ?_
                  refine rw_lsub (ks := [0, 1, 2, 3]) (lv' := [(0, .ref 66), (1, .int (nI v)), (2, .int (nI k)), (3, .int (nI (i + 1)))]) rfl ?_
                  have e9 : mx2 p (cvP (V 3) L k v p) (i + 1) i = bt (V 3) (mG L k) v (p i) := by unfold mx2; rw [if_pos (by omega), cvP_y ⟨hi1, by omega⟩]
                  rw [sw_2b _ (by decide)]
                  exact ih7 (mB L k + mG L k - (i + 1)) (by omega) (i + 1) _ _ rfl (by omega) (by omega) (fun j hj => by
                    by_cases q : j = i
                    · subst q
                      rw [upd_s, upd_s, e9, hbt]
                      exact ⟨rfl, by rw [show max (p j).1 (mG L k) = (p j).1 by omega]⟩
                    · rw [upd_n _ _ q, upd_n _ _ q]
                      have z := hFG j hj
                      rw [show mx2 p (cvP (V 3) L k v p) (i + 1) j = mx2 p (cvP (V 3) L k v p) i j from by unfold mx2; exact mx2_i q]
                      exact z)
                · exact absurd (by simp only [cz, cc2]; decide +kernel) h98
              · replace h81 : ¬ (V 3 v ≥ V 3 s) := h81
                have hbt : bt (V 3) (mG L k) v (p i) = (mG L k, some v) := bt_eqY h51 (by rw [hs]; exact Int32.not_le.mp h81)
                refine rw_go hX [(84, .iconst 1), (85, .goto 4), (89, .istore 4), (91, .aload_n 0), (92, .getfield 74), (95, .iload_n 3), (96, .iload 4)] (by decide +kernel) (Ps := []) (pc' := 98) (lv' := [(0, .ref 66), (1, .int (nI v)), (2, .int (nI k)), (3, .int (nI i)), (4, .int (nI 1))]) (st' := [.int (nI 1), .int (nI i), .ref 88]) (σ' := sr (sr σ 88 F) 89 H9) rfl True.intro ?_
                refine rw_if hX (tgt := 105) (cnd := .eq) (off := 7) (by decide +kernel) (by decide) (fun h98 => ?_) (fun h98 => ?_)
                · exact absurd h98 (by simp only [cz, cc2]; decide +kernel)
                · skip
                  refine rw_go hX [(101, .iload_n 1), (102, .goto 9), (111, .iastore)] (by decide +kernel) (Ps := [vp_in (nI i) 50]) (pc' := 112) (lv' := [(0, .ref 66), (1, .int (nI v)), (2, .int (nI k)), (3, .int (nI i)), (4, .int (nI 1))]) (st' := []) (σ' := sw (sr (sr σ 88 F) 89 H9) 88 (nI i).toNatClampNeg (nI v)) rfl (vp_in_nI (by omega) (by omega)) ?_
                  rw [show (sw (sr (sr σ 88 F) 89 H9) 88 (nI i).toNatClampNeg (nI v)) = sw (sr (sr σ 88 F) 89 H9) 88 i (nI v) from (by rw [nI_clamp (by omega)])]
                  refine rw_go hX [(112, .aload_n 0), (113, .getfield 77), (116, .iload_n 3), (117, .aload_n 0), (118, .getfield 77), (121, .iload_n 3), (122, .iaload)] (by decide +kernel) (Ps := [vp_in (nI i) 50]) (pc' := 123) (lv' := [(0, .ref 66), (1, .int (nI v)), (2, .int (nI k)), (3, .int (nI i)), (4, .int (nI 1))]) (st' := [.int ((sw (sr (sr σ 88 F) 89 H9) 88 i (nI v)) 89 (nI i).toNatClampNeg), .int (nI i), .ref 89]) (σ' := sw (sr (sr σ 88 F) 89 H9) 88 i (nI v)) rfl (vp_in_nI (by omega) (by omega)) ?_
                  rw [show ((sw (sr (sr σ 88 F) 89 H9) 88 i (nI v)) 89 (nI i).toNatClampNeg) = nI ((p i).1) from (by rw [nI_clamp (by omega), sw_ne _ _ _ (by decide), sr_s, hFi.2])]
                  refine rw_go hX [(123, .aload_n 0), (124, .getfield 65), (127, .iload_n 2), (128, .iaload)] (by decide +kernel) (Ps := [vp_in (nI k) 1000]) (pc' := 129) (lv' := [(0, .ref 66), (1, .int (nI v)), (2, .int (nI k)), (3, .int (nI i)), (4, .int (nI 1))]) (st' := [.int ((sw (sr (sr σ 88 F) 89 H9) 88 i (nI v)) 85 (nI k).toNatClampNeg), .int (nI ((p i).1)), .int (nI i), .ref 89]) (σ' := sw (sr (sr σ 88 F) 89 H9) 88 i (nI v)) rfl (vp_in_nI (by omega) (by omega)) ?_
                  rw [show ((sw (sr (sr σ 88 F) 89 H9) 88 i (nI v)) 85 (nI k).toNatClampNeg) = nI (mG L k) from (by rw [nI_clamp (by omega), sw_ne _ _ _ (by decide), sr_n _ _ (by decide), sr_n _ _ (by decide), hMk.2.2])]
                  refine rw_max hX (by decide +kernel) lk10_182 (Nat.le_of_ble_eq_true rfl) ?_
                  rw [show (if nI ((p i).1) < nI (mG L k) then nI (mG L k) else nI ((p i).1)) = nI (max ((p i).1) (mG L k)) from mx_nat (by omega) (by omega)]
                  refine rw_go hX [(132, .iastore)] (by decide +kernel) (Ps := [vp_in (nI i) 50]) (pc' := 133) (lv' := [(0, .ref 66), (1, .int (nI v)), (2, .int (nI k)), (3, .int (nI i)), (4, .int (nI 1))]) (st' := []) (σ' := sw (sw (sr (sr σ 88 F) 89 H9) 88 i (nI v)) 89 (nI i).toNatClampNeg (nI (max ((p i).1) (mG L k)))) rfl (vp_in_nI (by omega) (by omega)) ?_
                  rw [show (sw (sw (sr (sr σ 88 F) 89 H9) 88 i (nI v)) 89 (nI i).toNatClampNeg (nI (max ((p i).1) (mG L k)))) = sw (sw (sr (sr σ 88 F) 89 H9) 88 i (nI v)) 89 i (nI (max ((p i).1) (mG L k))) from (by rw [nI_clamp (by omega)])]
                  refine rw_go hX [(133, .iinc 3 1)] (by decide +kernel) (Ps := []) (pc' := 136) (lv' := [(0, .ref 66), (1, .int (nI v)), (2, .int (nI k)), (3, .int (nI i + nI 1)), (4, .int (nI 1))]) (st' := []) (σ' := sw (sw (sr (sr σ 88 F) 89 H9) 88 i (nI v)) 89 i (nI (max ((p i).1) (mG L k)))) rfl True.intro ?_
                  rw [show (nI i + nI 1) = nI (i + 1) from nI_add _ _]
                  refine rw_go hX [(136, .goto (-129))] (by decide +kernel) (Ps := []) (pc' := 7) (lv' := [(0, .ref 66), (1, .int (nI v)), (2, .int (nI k)), (3, .int (nI (i + 1))), (4, .int (nI 1))]) (st' := []) (σ' := sw (sw (sr (sr σ 88 F) 89 H9) 88 i (nI v)) 89 i (nI (max ((p i).1) (mG L k)))) rfl True.intro ?_
                  refine rw_lsub (ks := [0, 1, 2, 3]) (lv' := [(0, .ref 66), (1, .int (nI v)), (2, .int (nI k)), (3, .int (nI (i + 1)))]) rfl ?_
                  have e9 : mx2 p (cvP (V 3) L k v p) (i + 1) i = bt (V 3) (mG L k) v (p i) := by unfold mx2; rw [if_pos (by omega), cvP_y ⟨hi1, by omega⟩]
                  rw [sw_2b _ (by decide)]
                  exact ih7 (mB L k + mG L k - (i + 1)) (by omega) (i + 1) _ _ rfl (by omega) (by omega) (fun j hj => by
                    by_cases q : j = i
                    · subst q
                      rw [upd_s, upd_s, e9, hbt]
                      exact ⟨rfl, by rw [show max (p j).1 (mG L k) = mG L k by omega]⟩
                    · rw [upd_n _ _ q, upd_n _ _ q]
                      have z := hFG j hj
                      rw [show mx2 p (cvP (V 3) L k v p) (i + 1) j = mx2 p (cvP (V 3) L k v p) i j from by unfold mx2; exact mx2_i q]
                      exact z)
  refine rw_lsub (ks := [0, 1, 2, 3]) (lv' := [(0, .ref 66), (1, .int (nI v)), (2, .int (nI k)), (3, .int (nI (mB L k)))]) rfl ?_
  have q := L7 (mG L k) (mB L k) (σ 88) (σ 89) (by omega) (Nat.le_refl _) (by omega) (fun j hj => by
    have e9 : mx2 p (cvP (V 3) L k v p) (mB L k) j = p j := by
      unfold mx2
      by_cases y : j < mB L k
      · rw [if_pos y, cvP_n (by omega)]
      · rw [if_neg y]
    rw [e9]
    exact hS j hj)
  rw [sr_id, sr_id] at q
  exact q
/-- .. and the row of the bytes as they were -/
def MQ9 (σ σ' : Mm) : Prop := MQu σ σ' ∧ σ' 91 = σ 91
theorem MQ9.trans {σ τ υ : Mm} (h : MQ9 σ τ) (g : MQ9 τ υ) : MQ9 σ υ := ⟨h.1.trans g.1, g.2.trans h.2⟩
theorem MQ9_M {σ τ : Mm} (h : FM σ τ) : MQ9 σ τ := ⟨MQu_M h, h.1 91 (by decide)⟩
theorem MQ9_k {σ τ : Mm} {ks : List Nat} (h : ∀ k, k ∉ ks → τ k = σ k) (g : ks.all (fun k => Nat.ble 75 k && Nat.ble k 91 || Nat.beq k 99) = true) (g9 : 91 ∉ ks) : MQ9 σ τ := ⟨MQu_k h g, h 91 g9⟩
set_option maxRecDepth 20000 in
set_option maxHeartbeats 4000000 in
theorem m_sources0 (l : Launch) (G : Gl) (σ : Mm) (V : Mm) (w ls : Nat) (hV : vw σ 67 = V) (hv : wf V) (hw : w < 5) (hAN : AN V σ) (hls : ls ≤ 50) : AMv l G 3 mX10_sources [.ref 66, .int (nI w), .int (nI ls)] σ (fun σ' => (∀ i, i < 50 → σ' 88 i = en (pM V w ls 5 i).2 ∧ σ' 89 i = nI (pM V w ls 5 i).1) ∧ AN V σ' ∧ MQ9 σ σ') := by
  refine rw_inV 10 (by decide +kernel) rfl rfl ?_
  intro E hE hX
  subst hE
  refine rw_go hX [(0, .iconst 0), (1, .istore_n 3)] (by decide +kernel) (Ps := []) (pc' := 2) (lv' := [(0, .ref 66), (1, .int (nI w)), (2, .int (nI ls)), (3, .int (nI 0))]) (st' := []) (σ' := σ) rfl True.intro ?_
  have L2 : ∀ (μ2 : Nat) (i : Nat), μ2 = 50 - i → (i ≤ 50) → RW E G 3 5 (QV E G (fun σ' => (∀ i, i < 50 → σ' 88 i = en (pM V w ls 5 i).2 ∧ σ' 89 i = nI (pM V w ls 5 i).1) ∧ AN V σ' ∧ MQ9 σ σ')) 2 [(0, .ref 66), (1, .int (nI w)), (2, .int (nI ls)), (3, .int (nI i))] [] (sr (sr σ 88 (fl (σ 88) 0 i (-(nI 1)))) 89 (fl (σ 89) 0 i (nI 0))) := by
    intro μ2
    induction μ2 using Nat.strongRecOn with
    | ind μ2 ih2 =>
      intro i hμ2 hi
      refine rw_go hX [(2, .iload_n 3), (3, .bipush 50)] (by decide +kernel) (Ps := []) (pc' := 5) (lv' := [(0, .ref 66), (1, .int (nI w)), (2, .int (nI ls)), (3, .int (nI i))]) (st' := [.int (nI 50), .int (nI i)]) (σ' := sr (sr σ 88 (fl (σ 88) 0 i (-(nI 1)))) 89 (fl (σ 89) 0 i (nI 0))) rfl True.intro ?_
      refine rw_icmp hX (tgt := 28) (cnd := .ge) (off := 23) (by decide +kernel) (by decide) (fun h5 => ?_) (fun h5 => ?_)
      · replace h5 := c2_geT h5
        have ei : i = 50 := by omega
        refine rw_go hX [(28, .iconst 0), (29, .istore_n 3)] (by decide +kernel) (Ps := []) (pc' := 30) (lv' := [(0, .ref 66), (1, .int (nI w)), (2, .int (nI ls)), (3, .int (nI 0))]) (st' := []) (σ' := sr (sr σ 88 (fl (σ 88) 0 i (-(nI 1)))) 89 (fl (σ 89) 0 i (nI 0))) rfl True.intro ?_
        have L30 : ∀ (μ30 : Nat) (v : Nat) (τ : Mm), μ30 = 5 - v → (v ≤ 5) → (AN V τ) → (MQ9 σ τ) → (∀ i, i < 50 → τ 88 i = en (pM V w ls v i).2 ∧ τ 89 i = nI (pM V w ls v i).1) → RW E G 3 5 (QV E G (fun σ' => (∀ i, i < 50 → σ' 88 i = en (pM V w ls 5 i).2 ∧ σ' 89 i = nI (pM V w ls 5 i).1) ∧ AN V σ' ∧ MQ9 σ σ')) 30 [(0, .ref 66), (1, .int (nI w)), (2, .int (nI ls)), (3, .int (nI v))] [] τ := by
          intro μ30
          induction μ30 using Nat.strongRecOn with
          | ind μ30 ih30 =>
            intro v τ hμ30 hvi hANt hq hP
            have hVt : vw τ 67 = V := (vw_of (fun j hj => hq.1.1 _ (by omega) (by omega) (by omega))).trans hV
            have h71 : τ 71 = V 4 := vw_at hVt 4 (by omega)
            refine rw_go hX [(30, .iload_n 3), (31, .iconst 5)] (by decide +kernel) (Ps := []) (pc' := 32) (lv' := [(0, .ref 66), (1, .int (nI w)), (2, .int (nI ls)), (3, .int (nI v))]) (st' := [.int (nI 5), .int (nI v)]) (σ' := τ) rfl True.intro ?_
            refine rw_icmp hX (tgt := 86) (cnd := .ge) (off := 54) (by decide +kernel) (by decide) (fun h32 => ?_) (fun h32 => ?_)
            · replace h32 := c2_geT h32
              have e5 : v = 5 := by omega
              rw [e5] at hP
              exact rw_vret hX (by decide +kernel) (⟨hP, hANt, hq⟩)
            · replace h32 := c2_geF h32
              refine rw_go hX [(35, .iload_n 3), (36, .iload_n 1)] (by decide +kernel) (Ps := []) (pc' := 37) (lv' := [(0, .ref 66), (1, .int (nI w)), (2, .int (nI ls)), (3, .int (nI v))]) (st' := [.int (nI w), .int (nI v)]) (σ' := τ) rfl True.intro ?_
              refine rw_icmp hX (tgt := 80) (cnd := .eq) (off := 43) (by decide +kernel) (by decide) (fun h37 => ?_) (fun h37 => ?_)
              · replace h37 := c2_eqT h37
                have hpm : pM V w ls (v + 1) = pM V w ls v := if_pos h37
                refine rw_go hX [(80, .iinc 3 1)] (by decide +kernel) (Ps := []) (pc' := 83) (lv' := [(0, .ref 66), (1, .int (nI w)), (2, .int (nI ls)), (3, .int (nI v + nI 1))]) (st' := []) (σ' := τ) rfl True.intro ?_
                rw [show (nI v + nI 1) = nI (v + 1) from nI_add _ _]
                refine rw_go hX [(83, .goto (-53))] (by decide +kernel) (Ps := []) (pc' := 30) (lv' := [(0, .ref 66), (1, .int (nI w)), (2, .int (nI ls)), (3, .int (nI (v + 1)))]) (st' := []) (σ' := τ) rfl True.intro ?_
                refine rw_lsub (ks := [0, 1, 2, 3]) (lv' := [(0, .ref 66), (1, .int (nI w)), (2, .int (nI ls)), (3, .int (nI (v + 1)))]) rfl ?_
                exact ih30 (5 - (v + 1)) (by omega) (v + 1) _ rfl (by omega) hANt hq (by rw [hpm]; exact hP)
              · replace h37 := c2_eqF h37
                have hvw : v ≠ w := h37
                refine rw_go hX [(40, .aload_n 0), (41, .iload_n 3)] (by decide +kernel) (Ps := []) (pc' := 42) (lv' := [(0, .ref 66), (1, .int (nI w)), (2, .int (nI ls)), (3, .int (nI v))]) (st' := [.int (nI v), .ref 66]) (σ' := τ) rfl True.intro ?_
                refine rw_callVi hX (as := [.int (nI v)]) (rest := []) (m_there _ _ _ V v hVt hv h32) (by decide +kernel) mvX10_isThere lk10_132 (ci := 9) rfl rfl rfl (by decide) (Nat.le_of_ble_eq_true rfl) rfl ?_
                intro r1 σ1 hr
                rw [hr.1, show r1 = bz (decide (0 < vS V v)) from hr.2]
                clear hr σ1 r1
                refine rw_if hX (tgt := 80) (cnd := .eq) (off := 35) (by decide +kernel) (by decide) (fun h45 => ?_) (fun h45 => ?_)
                · replace h45 := of_decide_eq_false (zb_eqT h45)
                  have hpm : pM V w ls (v + 1) = pM V w ls v := by rw [pM_n V ls hvw, ML_nil (by omega)]; rfl
                  refine rw_go hX [(80, .iinc 3 1)] (by decide +kernel) (Ps := []) (pc' := 83) (lv' := [(0, .ref 66), (1, .int (nI w)), (2, .int (nI ls)), (3, .int (nI v + nI 1))]) (st' := []) (σ' := τ) rfl True.intro ?_
                  rw [show (nI v + nI 1) = nI (v + 1) from nI_add _ _]
                  refine rw_go hX [(83, .goto (-53))] (by decide +kernel) (Ps := []) (pc' := 30) (lv' := [(0, .ref 66), (1, .int (nI w)), (2, .int (nI ls)), (3, .int (nI (v + 1)))]) (st' := []) (σ' := τ) rfl True.intro ?_
                  refine rw_lsub (ks := [0, 1, 2, 3]) (lv' := [(0, .ref 66), (1, .int (nI w)), (2, .int (nI ls)), (3, .int (nI (v + 1)))]) rfl ?_
                  exact ih30 (5 - (v + 1)) (by omega) (v + 1) _ rfl (by omega) hANt hq (by rw [hpm]; exact hP)
                · replace h45 := of_decide_eq_true (zb_eqF h45)
                  refine rw_go hX [(48, .aload_n 0), (49, .iload_n 1), (50, .iload_n 3), (51, .iload_n 2)] (by decide +kernel) (Ps := []) (pc' := 52) (lv' := [(0, .ref 66), (1, .int (nI w)), (2, .int (nI ls)), (3, .int (nI v))]) (st' := [.int (nI ls), .int (nI v), .int (nI w), .ref 66]) (σ' := τ) rfl True.intro ?_
                  refine rw_callVv hX (as := [.int (nI w), .int (nI v), .int (nI ls)]) (rest := []) (m_matches _ _ _ V w v ls hv hw h32 h71 hANt hls) (by decide +kernel) mvX10_matches lk10_240 (ci := 9) rfl rfl rfl (by decide) (Nat.le_of_ble_eq_true rfl) rfl ?_
                  intro τ2 ht2
                  obtain ⟨hM, hFM⟩ := ht2
                  have hMb := ML_b (ls := ls) hv hw h32
                  have h833 := hMb.1
                  have hAN2 := AN_k hANt (NI_of hFM.1 (by decide))
                  have hq2 := hq.trans (MQ9_M hFM)
                  have hP2 : ∀ i, i < 50 → τ2 88 i = en (pM V w ls v i).2 ∧ τ2 89 i = nI (pM V w ls v i).1 := by
                    rw [hFM.1 88 (by decide), hFM.1 89 (by decide)]
                    exact hP
                  refine rw_go hX [(55, .iconst 0), (56, .istore 4)] (by decide +kernel) (Ps := []) (pc' := 58) (lv' := [(0, .ref 66), (1, .int (nI w)), (2, .int (nI ls)), (3, .int (nI v)), (4, .int (nI 0))]) (st' := []) (σ' := τ2) rfl True.intro ?_
                  have L58 : ∀ (μ58 : Nat) (k : Nat) (τ : Mm), μ58 = (ML V w v ls).length - k → (k ≤ (ML V w v ls).length) → (MTm (ML V w v ls) τ) → (AN V τ) → (MQ9 σ τ) → (∀ i, i < 50 → τ 88 i = en (oS (V 3) v (mB (ML V w v ls)) (mG (ML V w v ls)) (pM V w ls v) k i).2 ∧ τ 89 i = nI (oS (V 3) v (mB (ML V w v ls)) (mG (ML V w v ls)) (pM V w ls v) k i).1) → RW E G 3 5 (QV E G (fun σ' => (∀ i, i < 50 → σ' 88 i = en (pM V w ls 5 i).2 ∧ σ' 89 i = nI (pM V w ls 5 i).1) ∧ AN V σ' ∧ MQ9 σ σ')) 58 [(0, .ref 66), (1, .int (nI w)), (2, .int (nI ls)), (3, .int (nI v)), (4, .int (nI k))] [] τ := by
                    intro μ58
                    induction μ58 using Nat.strongRecOn with
                    | ind μ58 ih58 =>
                      intro k τ hμ58 hk hMt hAN3 hq3 hO
                      have hVt : vw τ 67 = V := (vw_of (fun j hj => hq3.1.1 _ (by omega) (by omega) (by omega))).trans hV
                      refine rw_go hX [(58, .iload 4), (60, .aload_n 0), (61, .getfield 232)] (by decide +kernel) (Ps := []) (pc' := 64) (lv' := [(0, .ref 66), (1, .int (nI w)), (2, .int (nI ls)), (3, .int (nI v)), (4, .int (nI k))]) (st' := [.int (τ 66 20), .int (nI k)]) (σ' := τ) rfl True.intro ?_
                      rw [show (τ 66 20) = nI ((ML V w v ls).length) from (by rw [hMt.1])]
                      refine rw_icmp hX (tgt := 80) (cnd := .ge) (off := 16) (by decide +kernel) (by decide) (fun h64 => ?_) (fun h64 => ?_)
                      · replace h64 := c2_geT h64
                        have ek : k = (ML V w v ls).length := by omega
                        have hpm : ∀ i, i < 50 → τ 88 i = en (pM V w ls (v + 1) i).2 ∧ τ 89 i = nI (pM V w ls (v + 1) i).1 := by rw [pM_n V ls hvw, ← ek]; exact hO
                        refine rw_go hX [(80, .iinc 3 1)] (by decide +kernel) (Ps := []) (pc' := 83) (lv' := [(0, .ref 66), (1, .int (nI w)), (2, .int (nI ls)), (3, .int (nI v + nI 1)), (4, .int (nI k))]) (st' := []) (σ' := τ) rfl True.intro ?_
                        rw [show (nI v + nI 1) = nI (v + 1) from nI_add _ _]
                        refine rw_go hX [(83, .goto (-53))] (by decide +kernel) (Ps := []) (pc' := 30) (lv' := [(0, .ref 66), (1, .int (nI w)), (2, .int (nI ls)), (3, .int (nI (v + 1))), (4, .int (nI k))]) (st' := []) (σ' := τ) rfl True.intro ?_
                        refine rw_lsub (ks := [0, 1, 2, 3]) (lv' := [(0, .ref 66), (1, .int (nI w)), (2, .int (nI ls)), (3, .int (nI (v + 1)))]) rfl ?_
                        exact ih30 (5 - (v + 1)) (by omega) (v + 1) _ rfl (by omega) hAN3 hq3 hpm
                      · replace h64 := c2_geF h64
                        have hmk := ML_at hv hw h32 h64
                        have hl5 := lC_50 hv hw
                        refine rw_go hX [(67, .aload_n 0), (68, .iload_n 3), (69, .iload 4)] (by decide +kernel) (Ps := []) (pc' := 71) (lv' := [(0, .ref 66), (1, .int (nI w)), (2, .int (nI ls)), (3, .int (nI v)), (4, .int (nI k))]) (st' := [.int (nI k), .int (nI v), .ref 66]) (σ' := τ) rfl True.intro ?_
                        refine rw_callVv hX (as := [.int (nI v), .int (nI k)]) (rest := []) (m_covers _ _ _ V (ML V w v ls) v k (oS (V 3) v (mB (ML V w v ls)) (mG (ML V w v ls)) (pM V w ls v) k) hVt hMt h64 h32 (by omega) (by omega) h833 (fun i hi => gx_oS (pM_g hv hw i v (by omega)) h32 k (fun x hx => (hMb.2 x (by omega)).2.2.1)) hO) (by decide +kernel) mvX10_covers lk10_257 (ci := 9) rfl rfl rfl (by decide) (Nat.le_of_ble_eq_true rfl) rfl ?_
                        intro τ4 ht4
                        refine rw_go hX [(74, .iinc 4 1)] (by decide +kernel) (Ps := []) (pc' := 77) (lv' := [(0, .ref 66), (1, .int (nI w)), (2, .int (nI ls)), (3, .int (nI v)), (4, .int (nI k + nI 1))]) (st' := []) (σ' := τ4) rfl True.intro ?_
                        rw [show (nI k + nI 1) = nI (k + 1) from nI_add _ _]
                        refine rw_go hX [(77, .goto (-19))] (by decide +kernel) (Ps := []) (pc' := 58) (lv' := [(0, .ref 66), (1, .int (nI w)), (2, .int (nI ls)), (3, .int (nI v)), (4, .int (nI (k + 1)))]) (st' := []) (σ' := τ4) rfl True.intro ?_
                        refine rw_lsub (ks := [0, 1, 2, 3, 4]) (lv' := [(0, .ref 66), (1, .int (nI w)), (2, .int (nI ls)), (3, .int (nI v)), (4, .int (nI (k + 1)))]) rfl ?_
                        exact ih58 ((ML V w v ls).length - (k + 1)) (by omega) (k + 1) _ rfl (by omega) (MTm_k hMt (NI_of ht4.2 (by decide))) (AN_k hAN3 (NI_of ht4.2 (by decide))) (hq3.trans (MQ9_k ht4.2 (by decide) (by decide))) ht4.1
                  refine rw_lsub (ks := [0, 1, 2, 3, 4]) (lv' := [(0, .ref 66), (1, .int (nI w)), (2, .int (nI ls)), (3, .int (nI v)), (4, .int (nI 0))]) rfl ?_
                  exact L58 (ML V w v ls).length 0 _ rfl (by omega) hM hAN2 hq2 hP2
        refine rw_lsub (ks := [0, 1, 2, 3]) (lv' := [(0, .ref 66), (1, .int (nI w)), (2, .int (nI ls)), (3, .int (nI 0))]) rfl ?_
        have hk9 : ∀ q, q ∉ [88, 89] → (sr (sr σ 88 (fl (σ 88) 0 i (-(nI 1)))) 89 (fl (σ 89) 0 i (nI 0))) q = σ q := fun q hq => by
          simp only [List.mem_cons, List.not_mem_nil, or_false, not_or] at hq
          rw [sr_n _ _ hq.2, sr_n _ _ hq.1]
        exact L30 5 0 _ rfl (by omega) (AN_k hAN (NI_of hk9 (by decide))) (MQ9_k hk9 (by decide) (by decide)) (fun j hj => ⟨by rw [sr_n _ _ (by decide), sr_s, ei]; exact if_pos ⟨Nat.zero_le _, hj⟩, by rw [sr_s, ei]; exact if_pos ⟨Nat.zero_le _, hj⟩⟩)
      · replace h5 := c2_geF h5
        refine rw_go hX [(8, .aload_n 0), (9, .getfield 74), (12, .iload_n 3), (13, .iconst (-1)), (14, .iastore)] (by decide +kernel) (Ps := [vp_in (nI i) 50]) (pc' := 15) (lv' := [(0, .ref 66), (1, .int (nI w)), (2, .int (nI ls)), (3, .int (nI i))]) (st' := []) (σ' := sw (sr (sr σ 88 (fl (σ 88) 0 i (-(nI 1)))) 89 (fl (σ 89) 0 i (nI 0))) 88 (nI i).toNatClampNeg (-(nI 1))) rfl (vp_in_nI (by omega) (by omega)) ?_
        rw [show (sw (sr (sr σ 88 (fl (σ 88) 0 i (-(nI 1)))) 89 (fl (σ 89) 0 i (nI 0))) 88 (nI i).toNatClampNeg (-(nI 1))) = sw (sr (sr σ 88 (fl (σ 88) 0 i (-(nI 1)))) 89 (fl (σ 89) 0 i (nI 0))) 88 i (-(nI 1)) from (by rw [nI_clamp (by omega)])]
        refine rw_go hX [(15, .aload_n 0), (16, .getfield 77), (19, .iload_n 3), (20, .iconst 0), (21, .iastore)] (by decide +kernel) (Ps := [vp_in (nI i) 50]) (pc' := 22) (lv' := [(0, .ref 66), (1, .int (nI w)), (2, .int (nI ls)), (3, .int (nI i))]) (st' := []) (σ' := sw (sw (sr (sr σ 88 (fl (σ 88) 0 i (-(nI 1)))) 89 (fl (σ 89) 0 i (nI 0))) 88 i (-(nI 1))) 89 (nI i).toNatClampNeg (nI 0)) rfl (vp_in_nI (by omega) (by omega)) ?_
        rw [show (sw (sw (sr (sr σ 88 (fl (σ 88) 0 i (-(nI 1)))) 89 (fl (σ 89) 0 i (nI 0))) 88 i (-(nI 1))) 89 (nI i).toNatClampNeg (nI 0)) = sw (sw (sr (sr σ 88 (fl (σ 88) 0 i (-(nI 1)))) 89 (fl (σ 89) 0 i (nI 0))) 88 i (-(nI 1))) 89 i (nI 0) from (by rw [nI_clamp (by omega)])]
        refine rw_go hX [(22, .iinc 3 1)] (by decide +kernel) (Ps := []) (pc' := 25) (lv' := [(0, .ref 66), (1, .int (nI w)), (2, .int (nI ls)), (3, .int (nI i + nI 1))]) (st' := []) (σ' := sw (sw (sr (sr σ 88 (fl (σ 88) 0 i (-(nI 1)))) 89 (fl (σ 89) 0 i (nI 0))) 88 i (-(nI 1))) 89 i (nI 0)) rfl True.intro ?_
        rw [show (nI i + nI 1) = nI (i + 1) from nI_add _ _]
        refine rw_go hX [(25, .goto (-23))] (by decide +kernel) (Ps := []) (pc' := 2) (lv' := [(0, .ref 66), (1, .int (nI w)), (2, .int (nI ls)), (3, .int (nI (i + 1)))]) (st' := []) (σ' := sw (sw (sr (sr σ 88 (fl (σ 88) 0 i (-(nI 1)))) 89 (fl (σ 89) 0 i (nI 0))) 88 i (-(nI 1))) 89 i (nI 0)) rfl True.intro ?_
        refine rw_lsub (ks := [0, 1, 2, 3]) (lv' := [(0, .ref 66), (1, .int (nI w)), (2, .int (nI ls)), (3, .int (nI (i + 1)))]) rfl ?_
        rw [sw_2b _ (by decide), fl_1 _ _ (Nat.zero_le _), fl_1 _ _ (Nat.zero_le _)]
        exact ih2 (50 - (i + 1)) (by omega) (i + 1) rfl (by omega)
  refine rw_lsub (ks := [0, 1, 2, 3]) (lv' := [(0, .ref 66), (1, .int (nI w)), (2, .int (nI ls)), (3, .int (nI 0))]) rfl ?_
  have q := L2 50 0 rfl (by omega)
  rw [fl_0, fl_0, sr_id, sr_id] at q
  exact q
theorem m_sources (l : Launch) (G : Gl) (σ V : Mm) (w ls : Nat) (hV : vw σ 67 = V) (hv : wf V) (hw : w < 5) (hAN : AN V σ) (hls : ls ≤ 50) (h1 : 1 ≤ ls) : AMv l G 3 mX10_sources [.ref 66, .int (nI w), .int (nI ls)] σ (fun σ' => (∀ i, i < 50 → σ' 88 i = en (sT V w ls i)) ∧ AN V σ' ∧ MQu σ σ') :=
  (m_sources0 l G σ V w ls hV hv hw hAN hls).mono fun σ' h => ⟨fun i hi => by rw [sT_pM hv h1 hw i]; exact (h.1 i hi).1, h.2.1, h.2.2.1⟩
theorem m_sources9 (l : Launch) (G : Gl) (σ V : Mm) (w ls : Nat) (hV : vw σ 67 = V) (hv : wf V) (hw : w < 5) (hAN : AN V σ) (hls : ls ≤ 50) (h1 : 1 ≤ ls) : AMv l G 3 mX10_sources [.ref 66, .int (nI w), .int (nI ls)] σ (fun σ' => (∀ i, i < 50 → σ' 88 i = en (sT V w ls i)) ∧ AN V σ' ∧ MQ9 σ σ') :=
  (m_sources0 l G σ V w ls hV hv hw hAN hls).mono fun σ' h => ⟨fun i hi => by rw [sT_pM hv h1 hw i]; exact (h.1 i hi).1, h.2.1, h.2.2⟩
