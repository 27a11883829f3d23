/-! the host's sheets: items 62 (40 to a sheet), sizes 63, sorts 64 -/
theorem c_isSheet (l : Launch) (G : Gl) (σ : Mm) (s : Nat) (hs : s < 4) : AMi l G 0 mX9_isSheet [.int (nI s)] σ (fun r σ' => σ' = σ ∧ r = nI 1) :=
  (c_X9_isSheet l G σ (nI s)).mono fun r σ' h => ⟨h.1, by rw [h.2, decide_eq_true ⟨nI_pos' (by omega), nI_le (b := 3) (by omega) (by omega)⟩]; rfl⟩
theorem and255 (v : Int32) : v &&& nI 255 = nI (v.toBitVec.toNat % 2 ^ 8) := pk_and v 8 (by decide +kernel)
set_option maxRecDepth 20000 in
set_option maxHeartbeats 4000000 in
theorem c_sortOf (l : Launch) (G : Gl) (σ : Mm) (s : Nat) (hs : s < 4) : AMi l G 1 mX4_sortOf [.ref 61, .int (nI s)] σ (fun r σ' => σ' = σ ∧ r = σ 64 s) := by
  refine rw_inI 4 (by decide +kernel) rfl rfl ?_
  intro E hE hX
  subst hE
  refine rw_go hX [(0, .aload_n 0), (1, .getfield 18), (4, .iload_n 1)] (by decide +kernel) (Ps := []) (pc' := 5) (lv' := [(0, .ref 61), (1, .int (nI s))]) (st' := [.int (nI s), .ref 64]) (σ' := σ) rfl True.intro ?_
  refine rw_callSi hX (as := [.ref 64, .int (nI s)]) (rest := []) (c_pick _ _ _ 64 4 s (by decide +kernel) (by omega) hs) (by decide +kernel) msX9_pick (Or.inr lk4_25) rfl (by decide) (Nat.le_of_ble_eq_true rfl) rfl ?_
  intro r1 σ1 hr
  rw [hr.1, hr.2]
  clear hr σ1 r1
  exact rw_iret hX (by decide +kernel) (⟨rfl, rfl⟩)
set_option maxRecDepth 20000 in
set_option maxHeartbeats 4000000 in
theorem c_shMissing (l : Launch) (G : Gl) (σ : Mm) (s : Nat) (hs : s < 4) : AMi l G 2 mX4_isMissing [.ref 61, .int (nI s)] σ (fun r σ' => σ' = σ ∧ r = bz (decide (σ 64 s = -(nI 1)))) := by
  refine rw_inI 4 (by decide +kernel) rfl rfl ?_
  intro E hE hX
  subst hE
  refine rw_go hX [(0, .aload_n 0), (1, .iload_n 1)] (by decide +kernel) (Ps := []) (pc' := 2) (lv' := [(0, .ref 61), (1, .int (nI s))]) (st' := [.int (nI s), .ref 61]) (σ' := σ) rfl True.intro ?_
  refine rw_callVi hX (as := [.int (nI s)]) (rest := []) (c_sortOf _ _ _ s hs) (by decide +kernel) mvX4_sortOf lk4_21 (ci := 3) rfl rfl rfl (by decide) (Nat.le_of_ble_eq_true rfl) rfl ?_
  intro r1 σ1 hr
  rw [hr.1, hr.2]
  clear hr σ1 r1
  refine rw_go hX [(5, .iconst (-1))] (by decide +kernel) (Ps := []) (pc' := 6) (lv' := [(0, .ref 61), (1, .int (nI s))]) (st' := [.int (-(nI 1)), .int (σ 64 s)]) (σ' := σ) rfl True.intro ?_
  refine rw_icmp hX (tgt := 13) (cnd := .ne) (off := 7) (by decide +kernel) (by decide) (fun h6 => ?_) (fun h6 => ?_)
  · replace h6 : (σ 64 s ≠ (-(nI 1))) := h6
    refine rw_go hX [(13, .iconst 0)] (by decide +kernel) (Ps := []) (pc' := 14) (lv' := [(0, .ref 61), (1, .int (nI s))]) (st' := [.int (nI 0)]) (σ' := σ) rfl True.intro ?_
    exact rw_zret hX (by decide +kernel) (Or.inl rfl) (⟨rfl, by first | (rw [decide_eq_true (Classical.not_not.mp h6)]; rfl) | (rw [decide_eq_false h6]; rfl)⟩)
  · replace h6 : ¬ (σ 64 s ≠ (-(nI 1))) := h6
    refine rw_go hX [(9, .iconst 1), (10, .goto 4)] (by decide +kernel) (Ps := []) (pc' := 14) (lv' := [(0, .ref 61), (1, .int (nI s))]) (st' := [.int (nI 1)]) (σ' := σ) rfl True.intro ?_
    exact rw_zret hX (by decide +kernel) (Or.inr rfl) (⟨rfl, by first | (rw [decide_eq_true (Classical.not_not.mp h6)]; rfl) | (rw [decide_eq_false h6]; rfl)⟩)
set_option maxRecDepth 20000 in
set_option maxHeartbeats 4000000 in
theorem c_shSize (l : Launch) (G : Gl) (σ : Mm) (s : Nat) (hs : s < 4) : AMi l G 0 mX4_sizeOf [.ref 61, .int (nI s)] σ (fun r σ' => σ' = σ ∧ r = σ 63 s) := by
  refine rw_inI 4 (by decide +kernel) rfl rfl ?_
  intro E hE hX
  subst hE
  refine rw_go hX [(0, .iload_n 1)] (by decide +kernel) (Ps := []) (pc' := 1) (lv' := [(0, .ref 61), (1, .int (nI s))]) (st' := [.int (nI s)]) (σ' := σ) rfl True.intro ?_
  refine rw_if hX (tgt := 18) (cnd := .lt) (off := 17) (by decide +kernel) (by decide) (fun h1 => ?_) (fun h1 => ?_)
  · exact zn_ltT h1
  · clear h1
    refine rw_go hX [(4, .iload_n 1), (5, .iconst 4)] (by decide +kernel) (Ps := []) (pc' := 6) (lv' := [(0, .ref 61), (1, .int (nI s))]) (st' := [.int (nI 4), .int (nI s)]) (σ' := σ) rfl True.intro ?_
    refine rw_icmp hX (tgt := 18) (cnd := .ge) (off := 12) (by decide +kernel) (by decide) (fun h6 => ?_) (fun h6 => ?_)
    · replace h6 := c2_geT h6
      omega
    · replace h6 := c2_geF h6
      refine rw_go hX [(9, .aload_n 0), (10, .getfield 15), (13, .iload_n 1), (14, .iaload)] (by decide +kernel) (Ps := [vp_in (nI s) 4]) (pc' := 15) (lv' := [(0, .ref 61), (1, .int (nI s))]) (st' := [.int (σ 63 (nI s).toNatClampNeg)]) (σ' := σ) rfl (vp_in_nI (by omega) (by omega)) ?_
      rw [show (σ 63 (nI s).toNatClampNeg) = σ 63 s from (by rw [nI_clamp (by omega)])]
      refine rw_go hX [(15, .goto 4)] (by decide +kernel) (Ps := []) (pc' := 19) (lv' := [(0, .ref 61), (1, .int (nI s))]) (st' := [.int (σ 63 s)]) (σ' := σ) rfl True.intro ?_
      exact rw_iret hX (by decide +kernel) (⟨rfl, rfl⟩)
set_option maxRecDepth 20000 in
set_option maxHeartbeats 4000000 in
theorem c_shBecome (l : Launch) (G : Gl) (σ : Mm) (s n : Nat) (srt : Int32) (hs : s < 4) (hn : n ≤ 40) : AMv l G 2 mX4_become [.ref 61, .int (nI s), .int srt, .int (nI n)] σ (fun σ' => σ' = sr (sw (sw σ 64 s srt) 63 s (nI n)) 62 (fl (σ 62) (40 * s) (40 * s + 40) (nI 0))) := by
  refine rw_inV 4 (by decide +kernel) rfl rfl ?_
  intro E hE hX
  subst hE
  refine rw_go hX [(0, .iload_n 1)] (by decide +kernel) (Ps := []) (pc' := 1) (lv' := [(0, .ref 61), (1, .int (nI s)), (2, .int srt), (3, .int (nI n))]) (st' := [.int (nI s)]) (σ' := σ) rfl True.intro ?_
  refine rw_callSi hX (as := [.int (nI s)]) (rest := []) (c_isSheet _ _ _ s hs) (by decide +kernel) msX9_isSheet (Or.inr lk4_29) rfl (by decide) (Nat.le_of_ble_eq_true rfl) rfl ?_
  intro r1 σ1 hr
  rw [hr.1, hr.2]
  clear hr σ1 r1
  refine rw_if hX (tgt := 49) (cnd := .eq) (off := 45) (by decide +kernel) (by decide) (fun h4 => ?_) (fun h4 => ?_)
  · exact absurd h4 (by simp only [cz, cc2]; decide +kernel)
  · skip
    refine rw_go hX [(7, .iload_n 3)] (by decide +kernel) (Ps := []) (pc' := 8) (lv' := [(0, .ref 61), (1, .int (nI s)), (2, .int srt), (3, .int (nI n))]) (st' := [.int (nI n)]) (σ' := σ) rfl True.intro ?_
    refine rw_if hX (tgt := 49) (cnd := .lt) (off := 41) (by decide +kernel) (by decide) (fun h8 => ?_) (fun h8 => ?_)
    · exact zn_ltT h8
    · clear h8
      refine rw_go hX [(11, .iload_n 3), (12, .bipush 40)] (by decide +kernel) (Ps := []) (pc' := 14) (lv' := [(0, .ref 61), (1, .int (nI s)), (2, .int srt), (3, .int (nI n))]) (st' := [.int (nI 40), .int (nI n)]) (σ' := σ) rfl True.intro ?_
      refine rw_icmp hX (tgt := 49) (cnd := .gt) (off := 35) (by decide +kernel) (by decide) (fun h14 => ?_) (fun h14 => ?_)
      · replace h14 := c2_gtT h14
        omega
      · replace h14 := c2_gtF h14
        refine rw_go hX [(17, .aload_n 0), (18, .getfield 18), (21, .iload_n 1), (22, .iload_n 2), (23, .iastore)] (by decide +kernel) (Ps := [vp_in (nI s) 4]) (pc' := 24) (lv' := [(0, .ref 61), (1, .int (nI s)), (2, .int srt), (3, .int (nI n))]) (st' := []) (σ' := sw σ 64 (nI s).toNatClampNeg srt) rfl (vp_in_nI (by omega) (by omega)) ?_
        rw [show (sw σ 64 (nI s).toNatClampNeg srt) = sw σ 64 s srt from (by rw [nI_clamp (by omega)])]
        refine rw_go hX [(24, .aload_n 0), (25, .getfield 15), (28, .iload_n 1), (29, .iload_n 3), (30, .iastore)] (by decide +kernel) (Ps := [vp_in (nI s) 4]) (pc' := 31) (lv' := [(0, .ref 61), (1, .int (nI s)), (2, .int srt), (3, .int (nI n))]) (st' := []) (σ' := sw (sw σ 64 s srt) 63 (nI s).toNatClampNeg (nI n)) rfl (vp_in_nI (by omega) (by omega)) ?_
        rw [show (sw (sw σ 64 s srt) 63 (nI s).toNatClampNeg (nI n)) = sw (sw σ 64 s srt) 63 s (nI n) from (by rw [nI_clamp (by omega)])]
        refine rw_go hX [(31, .aload_n 0), (32, .getfield 9), (35, .iload_n 1), (36, .bipush 40), (38, .imul)] (by decide +kernel) (Ps := []) (pc' := 39) (lv' := [(0, .ref 61), (1, .int (nI s)), (2, .int srt), (3, .int (nI n))]) (st' := [.int (nI s * nI 40), .ref 62]) (σ' := sw (sw σ 64 s srt) 63 s (nI n)) rfl True.intro ?_
        rw [show (nI s * nI 40) = nI (40 * s) from (by rw [pk_mul, Nat.mul_comm])]
        refine rw_go hX [(39, .iload_n 1), (40, .iconst 1), (41, .iadd), (42, .bipush 40), (44, .imul)] (by decide +kernel) (Ps := []) (pc' := 45) (lv' := [(0, .ref 61), (1, .int (nI s)), (2, .int srt), (3, .int (nI n))]) (st' := [.int ((nI s + nI 1) * nI 40), .int (nI (40 * s)), .ref 62]) (σ' := sw (sw σ 64 s srt) 63 s (nI n)) rfl True.intro ?_
        rw [show ((nI s + nI 1) * nI 40) = nI (40 * s + 40) from (by rw [nI_add, pk_mul]; congr 1; omega)]
        refine rw_go hX [(45, .iconst 0)] (by decide +kernel) (Ps := []) (pc' := 46) (lv' := [(0, .ref 61), (1, .int (nI s)), (2, .int srt), (3, .int (nI n))]) (st' := [.int (nI 0), .int (nI (40 * s + 40)), .int (nI (40 * s)), .ref 62]) (σ' := sw (sw σ 64 s srt) 63 s (nI n)) rfl True.intro ?_
        refine rw_callSv hX (as := [.ref 62, .int (nI (40 * s)), .int (nI (40 * s + 40)), .int (nI 0)]) (rest := []) (c_J7_fill_fda19 _ _ _ 62 160 (40 * s) (40 * s + 40) (nI 0) (by decide +kernel) (by omega) (by omega) (by omega)) (by decide +kernel) msJ7_fill_fda19 (Or.inl lk4_33) rfl (by decide) (Nat.le_of_ble_eq_true rfl) rfl ?_
        intro σ1 hr
        rw [hr]
        clear hr σ1
        exact rw_vret hX (by decide +kernel) (by rw [sw_ne _ _ _ (by decide), sw_ne _ _ _ (by decide)])
set_option maxRecDepth 20000 in
set_option maxHeartbeats 4000000 in
theorem c_itemCell (l : Launch) (G : Gl) (σ : Mm) (s i n : Nat) (hs : s < 4) (hn : σ 63 s = nI n) (hn4 : n ≤ 40) (hi : i < 2 ^ 31) : AMi l G 1 mX4_itemCell [.ref 61, .int (nI s), .int (nI i)] σ (fun r σ' => σ' = σ ∧ r = if i < n then nI (40 * s + i) else -(nI 1)) := by
  refine rw_inI 4 (by decide +kernel) rfl rfl ?_
  intro E hE hX
  subst hE
  refine rw_go hX [(0, .iload_n 2)] (by decide +kernel) (Ps := []) (pc' := 1) (lv' := [(0, .ref 61), (1, .int (nI s)), (2, .int (nI i))]) (st' := [.int (nI i)]) (σ' := σ) rfl True.intro ?_
  refine rw_if hX (tgt := 22) (cnd := .lt) (off := 21) (by decide +kernel) (by decide) (fun h1 => ?_) (fun h1 => ?_)
  · exact zn_ltT h1
  · clear h1
    refine rw_go hX [(4, .iload_n 2), (5, .aload_n 0), (6, .iload_n 1)] (by decide +kernel) (Ps := []) (pc' := 7) (lv' := [(0, .ref 61), (1, .int (nI s)), (2, .int (nI i))]) (st' := [.int (nI s), .ref 61, .int (nI i)]) (σ' := σ) rfl True.intro ?_
    refine rw_callVi hX (as := [.int (nI s)]) (rest := [.int (nI i)]) (c_shSize _ _ _ s hs) (by decide +kernel) mvX4_sizeOf lk4_39 (ci := 3) rfl rfl rfl (by decide) (Nat.le_of_ble_eq_true rfl) rfl ?_
    intro r1 σ1 hr
    rw [hr.1, show r1 = nI n from hr.2.trans hn]
    clear hr σ1 r1
    refine rw_icmp hX (tgt := 22) (cnd := .ge) (off := 12) (by decide +kernel) (by decide) (fun h10 => ?_) (fun h10 => ?_)
    · replace h10 := c2_geT h10
      refine rw_go hX [(22, .iconst (-1))] (by decide +kernel) (Ps := []) (pc' := 23) (lv' := [(0, .ref 61), (1, .int (nI s)), (2, .int (nI i))]) (st' := [.int (-(nI 1))]) (σ' := σ) rfl True.intro ?_
      exact rw_iret hX (by decide +kernel) (⟨rfl, by first | (rw [if_pos h10, pk_mul, nI_add, Nat.mul_comm]) | (rw [if_neg (by omega)])⟩)
    · replace h10 := c2_geF h10
      refine rw_go hX [(13, .iload_n 1), (14, .bipush 40), (16, .imul), (17, .iload_n 2), (18, .iadd), (19, .goto 4)] (by decide +kernel) (Ps := []) (pc' := 23) (lv' := [(0, .ref 61), (1, .int (nI s)), (2, .int (nI i))]) (st' := [.int ((nI s * nI 40) + nI i)]) (σ' := σ) rfl True.intro ?_
      exact rw_iret hX (by decide +kernel) (⟨rfl, by first | (rw [if_pos h10, pk_mul, nI_add, Nat.mul_comm]) | (rw [if_neg (by omega)])⟩)
set_option maxRecDepth 20000 in
set_option maxHeartbeats 4000000 in
theorem c_itemAt (l : Launch) (G : Gl) (σ : Mm) (s i n : Nat) (hs : s < 4) (hn : σ 63 s = nI n) (hn4 : n ≤ 40) (hi : i < n) : AMi l G 2 mX4_itemAt [.ref 61, .int (nI s), .int (nI i)] σ (fun r σ' => σ' = σ ∧ r = σ 62 (40 * s + i)) := by
  refine rw_inI 4 (by decide +kernel) rfl rfl ?_
  intro E hE hX
  subst hE
  refine rw_go hX [(0, .aload_n 0), (1, .getfield 9), (4, .aload_n 0), (5, .iload_n 1), (6, .iload_n 2)] (by decide +kernel) (Ps := []) (pc' := 7) (lv' := [(0, .ref 61), (1, .int (nI s)), (2, .int (nI i))]) (st' := [.int (nI i), .int (nI s), .ref 61, .ref 62]) (σ' := σ) rfl True.intro ?_
  refine rw_callVi hX (as := [.int (nI s), .int (nI i)]) (rest := [.ref 62]) (c_itemCell _ _ _ s i n hs hn hn4 (by omega)) (by decide +kernel) mvX4_itemCell lk4_42 (ci := 3) rfl rfl rfl (by decide) (Nat.le_of_ble_eq_true rfl) rfl ?_
  intro r1 σ1 hr
  rw [hr.1, show r1 = nI (40 * s + i) from hr.2.trans (if_pos hi)]
  clear hr σ1 r1
  refine rw_callSi hX (as := [.ref 62, .int (nI (40 * s + i))]) (rest := []) (c_pick _ _ _ 62 160 (40 * s + i) (by decide +kernel) (by omega) (by omega)) (by decide +kernel) msX9_pick (Or.inr lk4_25) rfl (by decide) (Nat.le_of_ble_eq_true rfl) rfl ?_
  intro r1 σ1 hr
  rw [hr.1, hr.2]
  clear hr σ1 r1
  exact rw_iret hX (by decide +kernel) (⟨rfl, rfl⟩)
set_option maxRecDepth 20000 in
set_option maxHeartbeats 4000000 in
theorem c_setItem (l : Launch) (G : Gl) (σ : Mm) (s i n : Nat) (v : Int32) (hs : s < 4) (hn : σ 63 s = nI n) (hn4 : n ≤ 40) (hi : i < n) : AMv l G 2 mX4_setItem [.ref 61, .int (nI s), .int (nI i), .int v] σ (fun σ' => σ' = sw σ 62 (40 * s + i) (if σ 64 s = 0 then v &&& nI 255 else v)) := by
  refine rw_inV 4 (by decide +kernel) rfl rfl ?_
  intro E hE hX
  subst hE
  refine rw_go hX [(0, .aload_n 0), (1, .getfield 9), (4, .aload_n 0), (5, .iload_n 1), (6, .iload_n 2)] (by decide +kernel) (Ps := []) (pc' := 7) (lv' := [(0, .ref 61), (1, .int (nI s)), (2, .int (nI i)), (3, .int v)]) (st' := [.int (nI i), .int (nI s), .ref 61, .ref 62]) (σ' := σ) rfl True.intro ?_
  refine rw_callVi hX (as := [.int (nI s), .int (nI i)]) (rest := [.ref 62]) (c_itemCell _ _ _ s i n hs hn hn4 (by omega)) (by decide +kernel) mvX4_itemCell lk4_42 (ci := 3) rfl rfl rfl (by decide) (Nat.le_of_ble_eq_true rfl) rfl ?_
  intro r1 σ1 hr
  rw [hr.1, show r1 = nI (40 * s + i) from hr.2.trans (if_pos hi)]
  clear hr σ1 r1
  refine rw_go hX [(10, .aload_n 0), (11, .iload_n 1)] (by decide +kernel) (Ps := []) (pc' := 12) (lv' := [(0, .ref 61), (1, .int (nI s)), (2, .int (nI i)), (3, .int v)]) (st' := [.int (nI s), .ref 61, .int (nI (40 * s + i)), .ref 62]) (σ' := σ) rfl True.intro ?_
  refine rw_callVi hX (as := [.int (nI s)]) (rest := [.int (nI (40 * s + i)), .ref 62]) (c_sortOf _ _ _ s hs) (by decide +kernel) mvX4_sortOf lk4_21 (ci := 3) rfl rfl rfl (by decide) (Nat.le_of_ble_eq_true rfl) rfl ?_
  intro r1 σ1 hr
  rw [hr.1, hr.2]
  clear hr σ1 r1
  refine rw_if hX (tgt := 26) (cnd := .ne) (off := 11) (by decide +kernel) (by decide) (fun h15 => ?_) (fun h15 => ?_)
  · replace h15 : (σ 64 s ≠ 0) := h15
    refine rw_go hX [(26, .iload_n 3)] (by decide +kernel) (Ps := []) (pc' := 27) (lv' := [(0, .ref 61), (1, .int (nI s)), (2, .int (nI i)), (3, .int v)]) (st' := [.int v, .int (nI (40 * s + i)), .ref 62]) (σ' := σ) rfl True.intro ?_
    refine rw_callSv hX (as := [.ref 62, .int (nI (40 * s + i)), .int v]) (rest := []) (c_place _ _ _ 62 160 (40 * s + i) (v) (by decide +kernel) (by omega) (by omega)) (by decide +kernel) msX9_place (Or.inr lk4_46) rfl (by decide) (Nat.le_of_ble_eq_true rfl) rfl ?_
    intro σ1 hr
    rw [hr]
    clear hr σ1
    exact rw_vret hX (by decide +kernel) (by first | (rw [if_neg h15]) | (rw [if_pos (Classical.not_not.mp h15)]))
  · replace h15 : ¬ (σ 64 s ≠ 0) := h15
    refine rw_go hX [(18, .iload_n 3), (19, .sipush 255), (22, .iand), (23, .goto 4)] (by decide +kernel) (Ps := []) (pc' := 27) (lv' := [(0, .ref 61), (1, .int (nI s)), (2, .int (nI i)), (3, .int v)]) (st' := [.int (v &&& nI 255), .int (nI (40 * s + i)), .ref 62]) (σ' := σ) rfl True.intro ?_
    refine rw_callSv hX (as := [.ref 62, .int (nI (40 * s + i)), .int (v &&& nI 255)]) (rest := []) (c_place _ _ _ 62 160 (40 * s + i) (v &&& nI 255) (by decide +kernel) (by omega) (by omega)) (by decide +kernel) msX9_place (Or.inr lk4_46) rfl (by decide) (Nat.le_of_ble_eq_true rfl) rfl ?_
    intro σ1 hr
    rw [hr]
    clear hr σ1
    exact rw_vret hX (by decide +kernel) (by first | (rw [if_neg h15]) | (rw [if_pos (Classical.not_not.mp h15)]))
set_option maxRecDepth 20000 in
set_option maxHeartbeats 4000000 in
theorem c_move (l : Launch) (G : Gl) (σ : Mm) (s i t j n a b : Nat) (hs : s < 4) (ht : t < 4) (ha : σ 63 s = nI a) (hb : σ 63 t = nI b) (ha4 : a ≤ 40) (hb4 : b ≤ 40) (hn : i + n ≤ a) (hn2 : j + n ≤ b) : AMv l G 1 mX4_move [.ref 61, .int (nI s), .int (nI i), .int (nI t), .int (nI j), .int (nI n)] σ (fun σ' => σ' = sr σ 62 (va_cpy (σ 62) (σ 62) (40 * s + i) (40 * t + j) n)) := by
  refine rw_inV 4 (by decide +kernel) rfl rfl ?_
  intro E hE hX
  subst hE
  refine rw_go hX [(0, .iload 5)] (by decide +kernel) (Ps := []) (pc' := 2) (lv' := [(0, .ref 61), (1, .int (nI s)), (2, .int (nI i)), (3, .int (nI t)), (4, .int (nI j)), (5, .int (nI n))]) (st' := [.int (nI n)]) (σ' := σ) rfl True.intro ?_
  refine rw_if hX (tgt := 39) (cnd := .lt) (off := 37) (by decide +kernel) (by decide) (fun h2 => ?_) (fun h2 => ?_)
  · exact zn_ltT h2
  · clear h2
    refine rw_go hX [(5, .iload_n 2)] (by decide +kernel) (Ps := []) (pc' := 6) (lv' := [(0, .ref 61), (1, .int (nI s)), (2, .int (nI i)), (3, .int (nI t)), (4, .int (nI j)), (5, .int (nI n))]) (st' := [.int (nI i)]) (σ' := σ) rfl True.intro ?_
    refine rw_if hX (tgt := 39) (cnd := .lt) (off := 33) (by decide +kernel) (by decide) (fun h6 => ?_) (fun h6 => ?_)
    · exact zn_ltT h6
    · clear h6
      refine rw_go hX [(9, .iload 4)] (by decide +kernel) (Ps := []) (pc' := 11) (lv' := [(0, .ref 61), (1, .int (nI s)), (2, .int (nI i)), (3, .int (nI t)), (4, .int (nI j)), (5, .int (nI n))]) (st' := [.int (nI j)]) (σ' := σ) rfl True.intro ?_
      refine rw_if hX (tgt := 39) (cnd := .lt) (off := 28) (by decide +kernel) (by decide) (fun h11 => ?_) (fun h11 => ?_)
      · exact zn_ltT h11
      · clear h11
        refine rw_go hX [(14, .iload 5), (16, .aload_n 0), (17, .iload_n 1)] (by decide +kernel) (Ps := []) (pc' := 18) (lv' := [(0, .ref 61), (1, .int (nI s)), (2, .int (nI i)), (3, .int (nI t)), (4, .int (nI j)), (5, .int (nI n))]) (st' := [.int (nI s), .ref 61, .int (nI n)]) (σ' := σ) rfl True.intro ?_
        refine rw_callVi hX (as := [.int (nI s)]) (rest := [.int (nI n)]) (c_shSize _ _ _ s hs) (by decide +kernel) mvX4_sizeOf lk4_39 (ci := 3) rfl rfl rfl (by decide) (Nat.le_of_ble_eq_true rfl) rfl ?_
        intro r1 σ1 hr
        rw [hr.1, show r1 = nI a from hr.2.trans ha]
        clear hr σ1 r1
        refine rw_go hX [(21, .iload_n 2), (22, .isub)] (by decide +kernel) (Ps := []) (pc' := 23) (lv' := [(0, .ref 61), (1, .int (nI s)), (2, .int (nI i)), (3, .int (nI t)), (4, .int (nI j)), (5, .int (nI n))]) (st' := [.int (nI a - nI i), .int (nI n)]) (σ' := σ) rfl True.intro ?_
        rw [show (nI a - nI i) = nI (a - i) from pk_sub (by omega)]
        refine rw_icmp hX (tgt := 39) (cnd := .gt) (off := 16) (by decide +kernel) (by decide) (fun h23 => ?_) (fun h23 => ?_)
        · replace h23 := c2_gtT h23
          omega
        · replace h23 := c2_gtF h23
          refine rw_go hX [(26, .iload 5), (28, .aload_n 0), (29, .iload_n 3)] (by decide +kernel) (Ps := []) (pc' := 30) (lv' := [(0, .ref 61), (1, .int (nI s)), (2, .int (nI i)), (3, .int (nI t)), (4, .int (nI j)), (5, .int (nI n))]) (st' := [.int (nI t), .ref 61, .int (nI n)]) (σ' := σ) rfl True.intro ?_
          refine rw_callVi hX (as := [.int (nI t)]) (rest := [.int (nI n)]) (c_shSize _ _ _ t ht) (by decide +kernel) mvX4_sizeOf lk4_39 (ci := 3) rfl rfl rfl (by decide) (Nat.le_of_ble_eq_true rfl) rfl ?_
          intro r1 σ1 hr
          rw [hr.1, show r1 = nI b from hr.2.trans hb]
          clear hr σ1 r1
          refine rw_go hX [(33, .iload 4), (35, .isub)] (by decide +kernel) (Ps := []) (pc' := 36) (lv' := [(0, .ref 61), (1, .int (nI s)), (2, .int (nI i)), (3, .int (nI t)), (4, .int (nI j)), (5, .int (nI n))]) (st' := [.int (nI b - nI j), .int (nI n)]) (σ' := σ) rfl True.intro ?_
          rw [show (nI b - nI j) = nI (b - j) from pk_sub (by omega)]
          refine rw_icmp hX (tgt := 40) (cnd := .le) (off := 4) (by decide +kernel) (by decide) (fun h36 => ?_) (fun h36 => ?_)
          · replace h36 := c2_leT h36
            refine rw_go hX [(40, .iload_n 1)] (by decide +kernel) (Ps := []) (pc' := 41) (lv' := [(0, .ref 61), (1, .int (nI s)), (2, .int (nI i)), (3, .int (nI t)), (4, .int (nI j)), (5, .int (nI n))]) (st' := [.int (nI s)]) (σ' := σ) rfl True.intro ?_
            refine rw_callSi hX (as := [.int (nI s)]) (rest := []) (c_isSheet _ _ _ s hs) (by decide +kernel) msX9_isSheet (Or.inr lk4_29) rfl (by decide) (Nat.le_of_ble_eq_true rfl) rfl ?_
            intro r1 σ1 hr
            rw [hr.1, hr.2]
            clear hr σ1 r1
            refine rw_if hX (tgt := 80) (cnd := .eq) (off := 36) (by decide +kernel) (by decide) (fun h44 => ?_) (fun h44 => ?_)
            · exact absurd h44 (by simp only [cz, cc2]; decide +kernel)
            · skip
              refine rw_go hX [(47, .iload_n 3)] (by decide +kernel) (Ps := []) (pc' := 48) (lv' := [(0, .ref 61), (1, .int (nI s)), (2, .int (nI i)), (3, .int (nI t)), (4, .int (nI j)), (5, .int (nI n))]) (st' := [.int (nI t)]) (σ' := σ) rfl True.intro ?_
              refine rw_callSi hX (as := [.int (nI t)]) (rest := []) (c_isSheet _ _ _ t ht) (by decide +kernel) msX9_isSheet (Or.inr lk4_29) rfl (by decide) (Nat.le_of_ble_eq_true rfl) rfl ?_
              intro r1 σ1 hr
              rw [hr.1, hr.2]
              clear hr σ1 r1
              refine rw_if hX (tgt := 80) (cnd := .eq) (off := 29) (by decide +kernel) (by decide) (fun h51 => ?_) (fun h51 => ?_)
              · exact absurd h51 (by simp only [cz, cc2]; decide +kernel)
              · skip
                refine rw_go hX [(54, .aload_n 0), (55, .getfield 9), (58, .iload_n 1), (59, .bipush 40), (61, .imul), (62, .iload_n 2), (63, .iadd)] (by decide +kernel) (Ps := []) (pc' := 64) (lv' := [(0, .ref 61), (1, .int (nI s)), (2, .int (nI i)), (3, .int (nI t)), (4, .int (nI j)), (5, .int (nI n))]) (st' := [.int ((nI s * nI 40) + nI i), .ref 62]) (σ' := σ) rfl True.intro ?_
                rw [show ((nI s * nI 40) + nI i) = nI (40 * s + i) from (by rw [pk_mul, nI_add, Nat.mul_comm])]
                refine rw_go hX [(64, .aload_n 0), (65, .getfield 9), (68, .iload_n 3), (69, .bipush 40), (71, .imul), (72, .iload 4), (74, .iadd)] (by decide +kernel) (Ps := []) (pc' := 75) (lv' := [(0, .ref 61), (1, .int (nI s)), (2, .int (nI i)), (3, .int (nI t)), (4, .int (nI j)), (5, .int (nI n))]) (st' := [.int ((nI t * nI 40) + nI j), .ref 62, .int (nI (40 * s + i)), .ref 62]) (σ' := σ) rfl True.intro ?_
                rw [show ((nI t * nI 40) + nI j) = nI (40 * t + j) from (by rw [pk_mul, nI_add, Nat.mul_comm])]
                refine rw_go hX [(75, .iload 5)] (by decide +kernel) (Ps := []) (pc' := 77) (lv' := [(0, .ref 61), (1, .int (nI s)), (2, .int (nI i)), (3, .int (nI t)), (4, .int (nI j)), (5, .int (nI n))]) (st' := [.int (nI n), .int (nI (40 * t + j)), .ref 62, .int (nI (40 * s + i)), .ref 62]) (σ' := σ) rfl True.intro ?_
                refine rw_cpy hX (n0 := 160) (n1 := 160) (by decide +kernel) lk4_50 rfl rfl (Nat.le_of_ble_eq_true rfl) (nI_pos (by omega)) (nI_pos (by omega)) (nI_pos (by omega)) (by rw [nI_clamp (by omega), nI_clamp (by omega)]; omega) (by rw [nI_clamp (by omega), nI_clamp (by omega)]; omega) ?_
                rw [show (sr σ 62 (va_cpy (σ 62) (σ 62) (nI (40 * s + i)).toNatClampNeg (nI (40 * t + j)).toNatClampNeg (nI n).toNatClampNeg)) = sr σ 62 (va_cpy (σ 62) (σ 62) (40 * s + i) (40 * t + j) n) from (by rw [nI_clamp (by omega), nI_clamp (by omega), nI_clamp (by omega)])]
                exact rw_vret hX (by decide +kernel) (rfl)
          · replace h36 := c2_leF h36
            omega
