/-! the model: numbers, letters -/
theorem ite2 {x n : Int32} (h : ¬ (0 ≤ x ∧ x < n)) {α : Type} {b f : α} : (if x < 0 then b else if x < n then f else b) = b := by
  by_cases g : x < 0
  · rw [if_pos g]
  · rw [if_neg g, if_neg (fun z => h ⟨Int32.not_lt.mp g, z⟩)]
theorem in_O {x : Int32} {m : Nat} (hm : m < 2 ^ 30) : (0 ≤ x ∧ x ≤ nI m) ↔ (0 ≤ x ∧ x < nI (m + 1)) := by
  constructor
  · intro h
    obtain ⟨k, hk, rfl⟩ := rng (by omega) h
    exact ⟨h.1, nI_lt hk (by omega)⟩
  · intro h
    obtain ⟨k, hk, rfl⟩ := rngO (by omega) h
    exact ⟨h.1, nI_le (by omega) (by omega)⟩
theorem in_C {x : Int32} {n : Nat} (hn : n < 2 ^ 30) : (0 ≤ x ∧ x ≤ nI n - nI 1) ↔ (0 ≤ x ∧ x < nI n) := by
  rcases Nat.eq_zero_or_pos n with e | e
  · subst e
    constructor
    · intro h
      exact absurd (Int32.le_trans h.1 h.2) (by decide +kernel)
    · intro h
      exact absurd h.2 (Int32.not_lt.mpr h.1)
  · rw [pk_sub (by omega), in_O (by omega), show n - 1 + 1 = n by omega]
set_option maxRecDepth 20000 in
set_option maxHeartbeats 4000000 in
theorem m_in (l : Launch) (G : Gl) (σ : Mm) (x a b : Int64) : AMi l G 0 mX10_in [.long x, .long a, .long b] σ (fun r σ' => σ' = σ ∧ r = bz (decide (a ≤ x ∧ x ≤ b))) := by
  refine rw_inI 10 (by decide +kernel) rfl rfl ?_
  intro E hE hX
  subst hE
  refine rw_go hX [(0, .lload_n 0), (1, .lload_n 2), (2, .lcmp)] (by decide +kernel) (Ps := []) (pc' := 3) (lv' := [(0, .long x), (2, .long a), (4, .long b)]) (st' := [.int (lg_cmp x a)]) (σ' := σ) rfl True.intro ?_
  refine rw_if hX (tgt := 17) (cnd := .lt) (off := 14) (by decide +kernel) (by decide) (fun h3 => ?_) (fun h3 => ?_)
  · replace h3 : (lg_cmp x a < 0) := h3
    have e : ¬ (a ≤ x ∧ x ≤ b) := fun z => absurd ((lg_cmp_lt x a).mp h3) (Int64.not_lt.mpr z.1)
    refine rw_go hX [(17, .iconst 0)] (by decide +kernel) (Ps := []) (pc' := 18) (lv' := [(0, .long x), (2, .long a), (4, .long b)]) (st' := [.int (nI 0)]) (σ' := σ) rfl True.intro ?_
    exact rw_zret hX (by decide +kernel) (Or.inl rfl) (⟨rfl, by first | (rw [decide_eq_true e]; rfl) | (rw [decide_eq_false e]; rfl)⟩)
  · replace h3 : ¬ (lg_cmp x a < 0) := h3
    refine rw_go hX [(6, .lload_n 0), (7, .lload 4), (9, .lcmp)] (by decide +kernel) (Ps := []) (pc' := 10) (lv' := [(0, .long x), (2, .long a), (4, .long b)]) (st' := [.int (lg_cmp x b)]) (σ' := σ) rfl True.intro ?_
    refine rw_if hX (tgt := 17) (cnd := .gt) (off := 7) (by decide +kernel) (by decide) (fun h10 => ?_) (fun h10 => ?_)
    · replace h10 : (lg_cmp x b > 0) := h10
      have e : ¬ (a ≤ x ∧ x ≤ b) := fun z => absurd ((lg_cmp_gt x b).mp h10) (Int64.not_lt.mpr z.2)
      refine rw_go hX [(17, .iconst 0)] (by decide +kernel) (Ps := []) (pc' := 18) (lv' := [(0, .long x), (2, .long a), (4, .long b)]) (st' := [.int (nI 0)]) (σ' := σ) rfl True.intro ?_
      exact rw_zret hX (by decide +kernel) (Or.inl rfl) (⟨rfl, by first | (rw [decide_eq_true e]; rfl) | (rw [decide_eq_false e]; rfl)⟩)
    · replace h10 : ¬ (lg_cmp x b > 0) := h10
      have e : a ≤ x ∧ x ≤ b := ⟨Int64.not_lt.mp (fun z => h3 ((lg_cmp_lt x a).mpr z)), Int64.not_lt.mp (fun z => h10 ((lg_cmp_gt x b).mpr z))⟩
      refine rw_go hX [(13, .iconst 1), (14, .goto 4)] (by decide +kernel) (Ps := []) (pc' := 18) (lv' := [(0, .long x), (2, .long a), (4, .long b)]) (st' := [.int (nI 1)]) (σ' := σ) rfl True.intro ?_
      exact rw_zret hX (by decide +kernel) (Or.inr rfl) (⟨rfl, by first | (rw [decide_eq_true e]; rfl) | (rw [decide_eq_false e]; rfl)⟩)
theorem m_inI (l : Launch) (G : Gl) (σ : Mm) (x lo hi : Int32) (xv a b : Int64) (hx : xv = x.toInt64) (ha : a = lo.toInt64) (hb : b = hi.toInt64) : AMi l G 0 mX10_in [.long xv, .long a, .long b] σ (fun r σ' => σ' = σ ∧ r = bz (decide (lo ≤ x ∧ x ≤ hi))) :=
  (m_in l G σ xv a b).mono fun r σ' h => ⟨h.1, by
    rw [h.2, hx, ha, hb]
    congr 1
    refine decide_eq_decide.mpr ⟨fun z => ⟨?_, ?_⟩, fun z => ⟨?_, ?_⟩⟩
    · exact Int32.not_lt.mp fun y => absurd (Int32.toInt64_lt.mpr y) (Int64.not_lt.mpr z.1)
    · exact Int32.not_lt.mp fun y => absurd (Int32.toInt64_lt.mpr y) (Int64.not_lt.mpr z.2)
    · exact Int64.not_lt.mp fun y => absurd (Int32.toInt64_lt.mp y) (Int32.not_lt.mpr z.1)
    · exact Int64.not_lt.mp fun y => absurd (Int32.toInt64_lt.mp y) (Int32.not_lt.mpr z.2)⟩
set_option maxRecDepth 20000 in
set_option maxHeartbeats 4000000 in
theorem m_isWork (l : Launch) (G : Gl) (σ : Mm) (x : Int32) : AMi l G 1 mX10_isWork [.int x] σ (fun r σ' => σ' = σ ∧ r = bz (decide (0 ≤ x ∧ x ≤ 4))) := by
  refine rw_inI 10 (by decide +kernel) rfl rfl ?_
  intro E hE hX
  subst hE
  refine rw_go hX [(0, .iload_n 0), (1, .i2l), (2, .lconst 0), (3, .ldc2_w 103)] (by decide +kernel) (Ps := []) (pc' := 6) (lv' := [(0, .int x)]) (st' := [.long 4, .long (Int64.ofNat 0), .long (x.toInt64)]) (σ' := σ) rfl True.intro ?_
  refine rw_callSi hX (as := [.long (x.toInt64), .long (Int64.ofNat 0), .long 4]) (rest := []) (m_inI _ _ _ (x) (0) (4) _ _ _ rfl (by first | rfl | decide +kernel) (by first | rfl | decide +kernel)) (by decide +kernel) msX10_in (Or.inl lk10_105) rfl (by decide) (Nat.le_of_ble_eq_true rfl) rfl ?_
  intro r1 σ1 hr
  rw [hr.1, show r1 = bz (decide (0 ≤ x ∧ x ≤ 4)) from hr.2]
  clear hr σ1 r1
  exact rw_zret hX (by decide +kernel) (bz_01 _) (⟨rfl, rfl⟩)
set_option maxRecDepth 20000 in
set_option maxHeartbeats 4000000 in
theorem m_isSheet (l : Launch) (G : Gl) (σ : Mm) (x : Int32) : AMi l G 1 mX10_isSheet [.int x] σ (fun r σ' => σ' = σ ∧ r = bz (decide (0 ≤ x ∧ x ≤ 3))) := by
  refine rw_inI 10 (by decide +kernel) rfl rfl ?_
  intro E hE hX
  subst hE
  refine rw_go hX [(0, .iload_n 0), (1, .i2l), (2, .lconst 0), (3, .ldc2_w 238)] (by decide +kernel) (Ps := []) (pc' := 6) (lv' := [(0, .int x)]) (st' := [.long 3, .long (Int64.ofNat 0), .long (x.toInt64)]) (σ' := σ) rfl True.intro ?_
  refine rw_callSi hX (as := [.long (x.toInt64), .long (Int64.ofNat 0), .long 3]) (rest := []) (m_inI _ _ _ (x) (0) (3) _ _ _ rfl (by first | rfl | decide +kernel) (by first | rfl | decide +kernel)) (by decide +kernel) msX10_in (Or.inl lk10_105) rfl (by decide) (Nat.le_of_ble_eq_true rfl) rfl ?_
  intro r1 σ1 hr
  rw [hr.1, show r1 = bz (decide (0 ≤ x ∧ x ≤ 3)) from hr.2]
  clear hr σ1 r1
  exact rw_zret hX (by decide +kernel) (bz_01 _) (⟨rfl, rfl⟩)
set_option maxRecDepth 20000 in
set_option maxHeartbeats 4000000 in
theorem m_isLetter (l : Launch) (G : Gl) (σ : Mm) (x : Int32) : AMi l G 1 mX10_isLetter [.int x] σ (fun r σ' => σ' = σ ∧ r = bz (isL x)) := by
  refine rw_inI 10 (by decide +kernel) rfl rfl ?_
  intro E hE hX
  subst hE
  refine rw_go hX [(0, .iload_n 0), (1, .i2l), (2, .ldc2_w 143), (5, .ldc2_w 145)] (by decide +kernel) (Ps := []) (pc' := 8) (lv' := [(0, .int x)]) (st' := [.long 122, .long 97, .long (x.toInt64)]) (σ' := σ) rfl True.intro ?_
  refine rw_callSi hX (as := [.long (x.toInt64), .long 97, .long 122]) (rest := []) (m_inI _ _ _ (x) (97) (122) _ _ _ rfl (by first | rfl | decide +kernel) (by first | rfl | decide +kernel)) (by decide +kernel) msX10_in (Or.inl lk10_105) rfl (by decide) (Nat.le_of_ble_eq_true rfl) rfl ?_
  intro r1 σ1 hr
  rw [hr.1, show r1 = bz (isL x) from hr.2]
  clear hr σ1 r1
  exact rw_zret hX (by decide +kernel) (bz_01 _) (⟨rfl, rfl⟩)
set_option maxRecDepth 20000 in
set_option maxHeartbeats 4000000 in
theorem m_isDigit (l : Launch) (G : Gl) (σ : Mm) (x : Int32) : AMi l G 1 mX10_isDigit [.int x] σ (fun r σ' => σ' = σ ∧ r = bz (isD x)) := by
  refine rw_inI 10 (by decide +kernel) rfl rfl ?_
  intro E hE hX
  subst hE
  refine rw_go hX [(0, .iload_n 0), (1, .i2l), (2, .ldc2_w 147), (5, .ldc2_w 149)] (by decide +kernel) (Ps := []) (pc' := 8) (lv' := [(0, .int x)]) (st' := [.long 57, .long 48, .long (x.toInt64)]) (σ' := σ) rfl True.intro ?_
  refine rw_callSi hX (as := [.long (x.toInt64), .long 48, .long 57]) (rest := []) (m_inI _ _ _ (x) (48) (57) _ _ _ rfl (by first | rfl | decide +kernel) (by first | rfl | decide +kernel)) (by decide +kernel) msX10_in (Or.inl lk10_105) rfl (by decide) (Nat.le_of_ble_eq_true rfl) rfl ?_
  intro r1 σ1 hr
  rw [hr.1, show r1 = bz (isD x) from hr.2]
  clear hr σ1 r1
  exact rw_zret hX (by decide +kernel) (bz_01 _) (⟨rfl, rfl⟩)
set_option maxRecDepth 20000 in
set_option maxHeartbeats 4000000 in
theorem m_there (l : Launch) (G : Gl) (σ : Mm) (V : Mm) (w : Nat) (hV : vw σ 67 = V) (hv : wf V) (hw : w < 5) : AMi l G 0 mX10_isThere [.ref 66, .int (nI w)] σ (fun r σ' => σ' = σ ∧ r = bz (decide (0 < vS V w))) := by
  refine rw_inI 10 (by decide +kernel) rfl rfl ?_
  intro E hE hX
  subst hE
  have hs5 := wf_s50 hv hw
  refine rw_go hX [(0, .aload_n 0), (1, .getfield 13), (4, .iload_n 1), (5, .iaload)] (by decide +kernel) (Ps := [vp_in (nI w) 5]) (pc' := 6) (lv' := [(0, .ref 66), (1, .int (nI w))]) (st' := [.int (σ 68 (nI w).toNatClampNeg)]) (σ' := σ) rfl (vp_in_nI (by omega) (by omega)) ?_
  rw [show (σ 68 (nI w).toNatClampNeg) = nI (vS V w) from (by rw [nI_clamp (by omega), (vw_at hV 1 (by omega)), wf_s hv hw])]
  refine rw_if hX (tgt := 13) (cnd := .le) (off := 7) (by decide +kernel) (by decide) (fun h6 => ?_) (fun h6 => ?_)
  · replace h6 := zn_leT h6
    refine rw_go hX [(13, .iconst 0)] (by decide +kernel) (Ps := []) (pc' := 14) (lv' := [(0, .ref 66), (1, .int (nI w))]) (st' := [.int (nI 0)]) (σ' := σ) rfl True.intro ?_
    exact rw_zret hX (by decide +kernel) (Or.inl rfl) (⟨rfl, by first | (rw [decide_eq_true (by omega)]; rfl) | (rw [decide_eq_false (by omega)]; rfl)⟩)
  · replace h6 := zn_leF h6
    refine rw_go hX [(9, .iconst 1), (10, .goto 4)] (by decide +kernel) (Ps := []) (pc' := 14) (lv' := [(0, .ref 66), (1, .int (nI w))]) (st' := [.int (nI 1)]) (σ' := σ) rfl True.intro ?_
    exact rw_zret hX (by decide +kernel) (Or.inr rfl) (⟨rfl, by first | (rw [decide_eq_true (by omega)]; rfl) | (rw [decide_eq_false (by omega)]; rfl)⟩)
set_option maxRecDepth 20000 in
set_option maxHeartbeats 4000000 in
theorem m_worksThere (l : Launch) (G : Gl) (σ : Mm) (V : Mm) (hV : vw σ 67 = V) (hv : wf V) : AMi l G 1 mX10_worksThere [.ref 66] σ (fun r σ' => σ' = σ ∧ r = nI (thN V)) := by
  refine rw_inI 10 (by decide +kernel) rfl rfl ?_
  intro E hE hX
  subst hE
  refine rw_go hX [(0, .iconst 0), (1, .istore_n 1), (2, .iconst 0), (3, .istore_n 2)] (by decide +kernel) (Ps := []) (pc' := 4) (lv' := [(0, .ref 66), (1, .int (nI 0)), (2, .int (nI 0))]) (st' := []) (σ' := σ) rfl True.intro ?_
  have L4 : ∀ (μ4 : Nat) (w : Nat), μ4 = 5 - w → (w ≤ 5) → RW E G 1 3 (QI E G (fun r σ' => σ' = σ ∧ r = nI (thN V))) 4 [(0, .ref 66), (1, .int (nI (cB (fun w => decide (0 < vS V w)) w))), (2, .int (nI w))] [] σ := by
    intro μ4
    induction μ4 using Nat.strongRecOn with
    | ind μ4 ih4 =>
      intro w hμ4 hwi
      refine rw_go hX [(4, .iload_n 2), (5, .iconst 5)] (by decide +kernel) (Ps := []) (pc' := 6) (lv' := [(0, .ref 66), (1, .int (nI (cB (fun w => decide (0 < vS V w)) w))), (2, .int (nI w))]) (st' := [.int (nI 5), .int (nI w)]) (σ' := σ) rfl True.intro ?_
      refine rw_icmp hX (tgt := 31) (cnd := .ge) (off := 25) (by decide +kernel) (by decide) (fun h6 => ?_) (fun h6 => ?_)
      · replace h6 := c2_geT h6
        have e : w = 5 := by omega
        refine rw_go hX [(31, .iload_n 1)] (by decide +kernel) (Ps := []) (pc' := 32) (lv' := [(0, .ref 66), (1, .int (nI (cB (fun w => decide (0 < vS V w)) w))), (2, .int (nI w))]) (st' := [.int (nI (cB (fun w => decide (0 < vS V w)) w))]) (σ' := σ) rfl True.intro ?_
        exact rw_iret hX (by decide +kernel) (⟨rfl, by rw [e]; rfl⟩)
      · replace h6 := c2_geF h6
        refine rw_go hX [(9, .iload_n 1), (10, .aload_n 0), (11, .iload_n 2)] (by decide +kernel) (Ps := []) (pc' := 12) (lv' := [(0, .ref 66), (1, .int (nI (cB (fun w => decide (0 < vS V w)) w))), (2, .int (nI w))]) (st' := [.int (nI w), .ref 66, .int (nI (cB (fun w => decide (0 < vS V w)) w))]) (σ' := σ) rfl True.intro ?_
        refine rw_callVi hX (as := [.int (nI w)]) (rest := [.int (nI (cB (fun w => decide (0 < vS V w)) w))]) (m_there _ _ _ V w hV hv h6) (by decide +kernel) mvX10_isThere lk10_132 (ci := 9) rfl rfl rfl (by decide) (Nat.le_of_ble_eq_true rfl) rfl ?_
        intro r1 σ1 hr
        rw [hr.1, show r1 = bz (decide (0 < vS V w)) from hr.2]
        clear hr σ1 r1
        refine rw_if hX (tgt := 22) (cnd := .eq) (off := 7) (by decide +kernel) (by decide) (fun h15 => ?_) (fun h15 => ?_)
        · replace h15 := of_decide_eq_false (zb_eqT h15)
          refine rw_go hX [(22, .iconst 0), (23, .iadd)] (by decide +kernel) (Ps := []) (pc' := 24) (lv' := [(0, .ref 66), (1, .int (nI (cB (fun w => decide (0 < vS V w)) w))), (2, .int (nI w))]) (st' := [.int (nI (cB (fun w => decide (0 < vS V w)) w) + nI 0)]) (σ' := σ) rfl True.intro ?_
          rw [show (nI (cB (fun w => decide (0 < vS V w)) w) + nI 0) = nI (cB (fun w => decide (0 < vS V w)) w + 0) from nI_add _ _]
          refine rw_go hX [(24, .istore_n 1), (25, .iinc 2 1)] (by decide +kernel) (Ps := []) (pc' := 28) (lv' := [(0, .ref 66), (1, .int (nI (cB (fun w => decide (0 < vS V w)) w + 0))), (2, .int (nI w + nI 1))]) (st' := []) (σ' := σ) rfl True.intro ?_
          rw [show (nI w + nI 1) = nI (w + 1) from nI_add _ _]
          refine rw_go hX [(28, .goto (-24))] (by decide +kernel) (Ps := []) (pc' := 4) (lv' := [(0, .ref 66), (1, .int (nI (cB (fun w => decide (0 < vS V w)) w + 0))), (2, .int (nI (w + 1)))]) (st' := []) (σ' := σ) rfl True.intro ?_
          refine rw_lsub (ks := [0, 1, 2]) (lv' := [(0, .ref 66), (1, .int (nI (cB (fun w => decide (0 < vS V w)) w + 0))), (2, .int (nI (w + 1)))]) rfl ?_
          have q := ih4 (5 - (w + 1)) (by omega) (w + 1) rfl (by omega)
          rw [cB_n (k := w) (decide_eq_false h15)] at q
          rw [Nat.add_zero]
          exact q
        · replace h15 := of_decide_eq_true (zb_eqF h15)
          refine rw_go hX [(18, .iconst 1), (19, .goto 4), (23, .iadd)] (by decide +kernel) (Ps := []) (pc' := 24) (lv' := [(0, .ref 66), (1, .int (nI (cB (fun w => decide (0 < vS V w)) w))), (2, .int (nI w))]) (st' := [.int (nI (cB (fun w => decide (0 < vS V w)) w) + nI 1)]) (σ' := σ) rfl True.intro ?_
          rw [show (nI (cB (fun w => decide (0 < vS V w)) w) + nI 1) = nI (cB (fun w => decide (0 < vS V w)) w + 1) from nI_add _ _]
          refine rw_go hX [(24, .istore_n 1), (25, .iinc 2 1)] (by decide +kernel) (Ps := []) (pc' := 28) (lv' := [(0, .ref 66), (1, .int (nI (cB (fun w => decide (0 < vS V w)) w + 1))), (2, .int (nI w + nI 1))]) (st' := []) (σ' := σ) rfl True.intro ?_
          rw [show (nI w + nI 1) = nI (w + 1) from nI_add _ _]
          refine rw_go hX [(28, .goto (-24))] (by decide +kernel) (Ps := []) (pc' := 4) (lv' := [(0, .ref 66), (1, .int (nI (cB (fun w => decide (0 < vS V w)) w + 1))), (2, .int (nI (w + 1)))]) (st' := []) (σ' := σ) rfl True.intro ?_
          refine rw_lsub (ks := [0, 1, 2]) (lv' := [(0, .ref 66), (1, .int (nI (cB (fun w => decide (0 < vS V w)) w + 1))), (2, .int (nI (w + 1)))]) rfl ?_
          have q := ih4 (5 - (w + 1)) (by omega) (w + 1) rfl (by omega)
          rw [cB_y (k := w) (decide_eq_true h15)] at q
          exact q
  refine rw_lsub (ks := [0, 1, 2]) (lv' := [(0, .ref 66), (1, .int (nI 0)), (2, .int (nI 0))]) rfl ?_
  exact L4 5 0 rfl (by omega)
set_option maxRecDepth 20000 in
set_option maxHeartbeats 4000000 in
theorem m_byteAt (l : Launch) (G : Gl) (σ : Mm) (V : Mm) (w : Nat) (x : Int32) (hV : vw σ 67 = V) (hv : wf V) (hw : w < 5) : AMi l G 1 mX10_byteAt [.ref 66, .int (nI w), .int x] σ (fun r σ' => σ' = σ ∧ r = if 0 ≤ x ∧ x < nI (vS V w) then V 0 (50 * w + x.toNatClampNeg) else 0) := by
  refine rw_inI 10 (by decide +kernel) rfl rfl ?_
  intro E hE hX
  subst hE
  have hs5 := wf_s50 hv hw
  refine rw_go hX [(0, .iload_n 2), (1, .i2l), (2, .lconst 0), (3, .aload_n 0), (4, .getfield 13), (7, .iload_n 1), (8, .iaload)] (by decide +kernel) (Ps := [vp_in (nI w) 5]) (pc' := 9) (lv' := [(0, .ref 66), (1, .int (nI w)), (2, .int x)]) (st' := [.int (σ 68 (nI w).toNatClampNeg), .long (Int64.ofNat 0), .long (x.toInt64)]) (σ' := σ) rfl (vp_in_nI (by omega) (by omega)) ?_
  rw [show (σ 68 (nI w).toNatClampNeg) = nI (vS V w) from (by rw [nI_clamp (by omega), (vw_at hV 1 (by omega)), wf_s hv hw])]
  refine rw_go hX [(9, .iconst 1), (10, .isub), (11, .i2l)] (by decide +kernel) (Ps := []) (pc' := 12) (lv' := [(0, .ref 66), (1, .int (nI w)), (2, .int x)]) (st' := [.long ((nI (vS V w) - nI 1).toInt64), .long (Int64.ofNat 0), .long (x.toInt64)]) (σ' := σ) rfl True.intro ?_
  refine rw_callSi hX (as := [.long (x.toInt64), .long (Int64.ofNat 0), .long ((nI (vS V w) - nI 1).toInt64)]) (rest := []) (m_inI _ _ _ (x) (0) (nI (vS V w) - nI 1) _ _ _ rfl (by first | rfl | decide +kernel) (by first | rfl | decide +kernel)) (by decide +kernel) msX10_in (Or.inl lk10_105) rfl (by decide) (Nat.le_of_ble_eq_true rfl) rfl ?_
  intro r1 σ1 hr
  rw [hr.1, show r1 = bz (decide (0 ≤ x ∧ x < nI (vS V w))) from hr.2.trans (by rw [decide_eq_decide.mpr (in_C (by omega))])]
  clear hr σ1 r1
  refine rw_if hX (tgt := 32) (cnd := .eq) (off := 17) (by decide +kernel) (by decide) (fun h15 => ?_) (fun h15 => ?_)
  · replace h15 := of_decide_eq_false (zb_eqT h15)
    refine rw_go hX [(32, .iconst 0)] (by decide +kernel) (Ps := []) (pc' := 33) (lv' := [(0, .ref 66), (1, .int (nI w)), (2, .int x)]) (st' := [.int (nI 0)]) (σ' := σ) rfl True.intro ?_
    exact rw_iret hX (by decide +kernel) (⟨rfl, by first | (rw [if_pos h15, nI_clamp (by omega)]) | (rw [if_neg h15]; rfl)⟩)
  · replace h15 := of_decide_eq_true (zb_eqF h15)
    obtain ⟨i, hi, rfl⟩ := rngO (m := vS V w) (by omega) h15
    refine rw_go hX [(18, .aload_n 0), (19, .getfield 9), (22, .bipush 50), (24, .iload_n 1), (25, .imul)] (by decide +kernel) (Ps := []) (pc' := 26) (lv' := [(0, .ref 66), (1, .int (nI w)), (2, .int (nI i))]) (st' := [.int (nI 50 * nI w), .ref 67]) (σ' := σ) rfl True.intro ?_
    rw [show (nI 50 * nI w) = nI (50 * w) from pk_mul _ _]
    refine rw_go hX [(26, .iload_n 2), (27, .iadd)] (by decide +kernel) (Ps := []) (pc' := 28) (lv' := [(0, .ref 66), (1, .int (nI w)), (2, .int (nI i))]) (st' := [.int (nI (50 * w) + nI i), .ref 67]) (σ' := σ) rfl True.intro ?_
    rw [show (nI (50 * w) + nI i) = nI (50 * w + i) from nI_add _ _]
    refine rw_go hX [(28, .iaload)] (by decide +kernel) (Ps := [vp_in (nI (50 * w + i)) 250]) (pc' := 29) (lv' := [(0, .ref 66), (1, .int (nI w)), (2, .int (nI i))]) (st' := [.int (σ 67 (nI (50 * w + i)).toNatClampNeg)]) (σ' := σ) rfl (vp_in_nI (by omega) (by omega)) ?_
    rw [show (σ 67 (nI (50 * w + i)).toNatClampNeg) = V 0 (50 * w + i) from (by rw [nI_clamp (by omega), (vw_at hV 0 (by omega))])]
    refine rw_go hX [(29, .goto 4)] (by decide +kernel) (Ps := []) (pc' := 33) (lv' := [(0, .ref 66), (1, .int (nI w)), (2, .int (nI i))]) (st' := [.int (V 0 (50 * w + i))]) (σ' := σ) rfl True.intro ?_
    exact rw_iret hX (by decide +kernel) (⟨rfl, by first | (rw [if_pos h15, nI_clamp (by omega)]) | (rw [if_neg h15]; rfl)⟩)
