/-! rows filled, kinds, numbers -/
/-- as what a byte c is told by a kind, with a right ahead, b right behind; 0: it doesn't count -/
def tellK (k : Nat) (a c b : Int32) (q : Bool) : Int32 := match k with
  | 0 => if isL c then c else 0
  | 1 => if isL c && !q then c else 0
  | 2 => if isL c then c else if isD c && !isD a then nI 35 else 0
  | 3 => if isL c && !isL a && !isL b then nI 118 else if isL c then c else if isD c && !isD a then nI 35 else 0
  | 4 => if c = nI 10 then nI 47 else if isL c && !q then c else 0
  | _ => if isL c && !q && decide (c ≠ a) then c else 0
def cntK (k : Nat) (a c : Int32) (q : Bool) : Bool := match k with
  | 0 => isL c
  | 1 => isL c && !q
  | 2 => isL c || (isD c && !isD a)
  | 3 => isL c || (isD c && !isD a)
  | 4 => decide (c = nI 10) || (isL c && !q)
  | _ => isL c && !q && decide (c ≠ a)
theorem cntK_tellK {k : Nat} {a c b : Int32} {q : Bool} : cntK k a c q = decide (tellK k a c b q ≠ 0) := by
  unfold cntK tellK
  split <;> grind [isL, isD, nI]
set_option maxRecDepth 20000 in
set_option maxHeartbeats 4000000 in
theorem c_J7_fill_53178 (l : Launch) (G : Gl) (σ : Mm) (k n : Nat) (v : Int32) (hk : shapes[k]? = some (.inl (0, n))) (hn : n < 2 ^ 31) : AMv l G 0 mJ7_fill_53178 [.ref k, .int v] σ (fun σ' => σ' = sr σ k (fl (σ k) 0 n v)) := by
  refine rw_inV 12 (by decide +kernel) rfl rfl ?_
  intro E hE hX
  subst hE
  refine rw_go hX [(0, .iconst 0), (1, .istore_n 2), (2, .aload_n 0)] (by decide +kernel) (Ps := []) (pc' := 3) (lv' := [(0, .ref k), (1, .int v), (2, .int (nI 0))]) (st' := [.ref k]) (σ' := σ) rfl True.intro ?_
  refine rw_alenS hX hk (by decide +kernel) ?_
  refine rw_go hX [(4, .istore_n 3)] (by decide +kernel) (Ps := []) (pc' := 5) (lv' := [(0, .ref k), (1, .int v), (2, .int (nI 0)), (3, .int (nI n))]) (st' := []) (σ' := σ) rfl True.intro ?_
  have L5 : ∀ (μ5 : Nat) (i : Nat), μ5 = n - i → (i ≤ n) → RW E G 0 4 (QV E G (fun σ' => σ' = sr σ k (fl (σ k) 0 n v))) 5 [(0, .ref k), (1, .int v), (2, .int (nI i)), (3, .int (nI n))] [] (sr σ k (fl (σ k) 0 i v)) := by
    intro μ5
    induction μ5 using Nat.strongRecOn with
    | ind μ5 ih5 =>
      intro i hμ5 hi
      refine rw_go hX [(5, .iload_n 2), (6, .iload_n 3)] (by decide +kernel) (Ps := []) (pc' := 7) (lv' := [(0, .ref k), (1, .int v), (2, .int (nI i)), (3, .int (nI n))]) (st' := [.int (nI n), .int (nI i)]) (σ' := sr σ k (fl (σ k) 0 i v)) rfl True.intro ?_
      refine rw_icmp hX (tgt := 20) (cnd := .ge) (off := 13) (by decide +kernel) (by decide) (fun h7 => ?_) (fun h7 => ?_)
      · replace h7 := c2_geT h7
        have e : i = n := by omega
        subst e
        exact rw_vret hX (by decide +kernel) (rfl)
      · replace h7 := c2_geF h7
        have g := h7
        refine rw_go hX [(10, .aload_n 0), (11, .iload_n 2), (12, .iload_n 1)] (by decide +kernel) (Ps := []) (pc' := 13) (lv' := [(0, .ref k), (1, .int v), (2, .int (nI i)), (3, .int (nI n))]) (st' := [.int v, .int (nI i), .ref k]) (σ' := sr σ k (fl (σ k) 0 i v)) rfl True.intro ?_
        refine rw_iastS hX hk (by decide +kernel) (vp_in_nI g hn) ?_
        refine rw_go hX [(14, .iinc 2 1), (17, .goto (-12))] (by decide +kernel) (Ps := []) (pc' := 5) (lv' := [(0, .ref k), (1, .int v), (2, .int (nI i + nI 1)), (3, .int (nI n))]) (st' := []) (σ' := sw (sr σ k (fl (σ k) 0 i v)) k (nI i).toNatClampNeg v) rfl True.intro ?_
        refine rw_lsub (ks := [0, 1, 2, 3]) (lv' := [(0, .ref k), (1, .int v), (2, .int (nI i + nI 1)), (3, .int (nI n))]) rfl ?_
        rw [nI_add, nI_clamp (by omega), sw_sr, fl_1 _ _ (Nat.zero_le i)]
        exact ih5 (n - (i + 1)) (by omega) (i + 1) rfl (by omega)
  refine rw_lsub (ks := [0, 1, 2, 3]) (lv' := [(0, .ref k), (1, .int v), (2, .int (nI 0)), (3, .int (nI n))]) rfl ?_
  simpa only [fl_0, sr_id] using L5 n 0 (by omega) (Nat.zero_le n)
set_option maxRecDepth 20000 in
set_option maxHeartbeats 4000000 in
theorem c_J7_rangeCheck_23922 (l : Launch) (G : Gl) (σ : Mm) (n a b : Nat) (h1 : a ≤ b) (hbn : b ≤ n) (hn : n < 2 ^ 31) : AMv l G 0 mJ7_rangeCheck_23922 [.int (nI n), .int (nI a), .int (nI b)] σ (fun σ' => σ' = σ) := by
  refine rw_inV 12 (by decide +kernel) rfl rfl ?_
  intro E hE hX
  subst hE
  refine rw_go hX [(0, .iload_n 1), (1, .iload_n 2)] (by decide +kernel) (Ps := []) (pc' := 2) (lv' := [(0, .int (nI n)), (1, .int (nI a)), (2, .int (nI b))]) (st' := [.int (nI b), .int (nI a)]) (σ' := σ) rfl True.intro ?_
  refine rw_icmp hX (tgt := 46) (cnd := .le) (off := 44) (by decide +kernel) (by decide) (fun h2 => ?_) (fun h2 => ?_)
  · replace h2 := c2_leT h2
    refine rw_go hX [(46, .iload_n 1)] (by decide +kernel) (Ps := []) (pc' := 47) (lv' := [(0, .int (nI n)), (1, .int (nI a)), (2, .int (nI b))]) (st' := [.int (nI a)]) (σ' := σ) rfl True.intro ?_
    refine rw_if hX (tgt := 59) (cnd := .ge) (off := 12) (by decide +kernel) (by decide) (fun h47 => ?_) (fun h47 => ?_)
    · clear h47
      refine rw_go hX [(59, .iload_n 2), (60, .iload_n 0)] (by decide +kernel) (Ps := []) (pc' := 61) (lv' := [(0, .int (nI n)), (1, .int (nI a)), (2, .int (nI b))]) (st' := [.int (nI n), .int (nI b)]) (σ' := σ) rfl True.intro ?_
      refine rw_icmp hX (tgt := 73) (cnd := .le) (off := 12) (by decide +kernel) (by decide) (fun h61 => ?_) (fun h61 => ?_)
      · replace h61 := c2_leT h61
        exact rw_vret hX (by decide +kernel) (rfl)
      · replace h61 := c2_leF h61
        omega
    · exact zn_geF h47
  · replace h2 := c2_leF h2
    omega
set_option maxRecDepth 20000 in
set_option maxHeartbeats 4000000 in
theorem c_J7_fill_fda19 (l : Launch) (G : Gl) (σ : Mm) (k n a b : Nat) (v : Int32) (hk : shapes[k]? = some (.inl (0, n))) (h1 : a ≤ b) (hbn : b ≤ n) (hn : n < 2 ^ 31) : AMv l G 1 mJ7_fill_fda19 [.ref k, .int (nI a), .int (nI b), .int v] σ (fun σ' => σ' = sr σ k (fl (σ k) a b v)) := by
  refine rw_inV 12 (by decide +kernel) rfl rfl ?_
  intro E hE hX
  subst hE
  refine rw_go hX [(0, .aload_n 0)] (by decide +kernel) (Ps := []) (pc' := 1) (lv' := [(0, .ref k), (1, .int (nI a)), (2, .int (nI b)), (3, .int v)]) (st' := [.ref k]) (σ' := σ) rfl True.intro ?_
  refine rw_alenS hX hk (by decide +kernel) ?_
  refine rw_go hX [(2, .iload_n 1), (3, .iload_n 2)] (by decide +kernel) (Ps := []) (pc' := 4) (lv' := [(0, .ref k), (1, .int (nI a)), (2, .int (nI b)), (3, .int v)]) (st' := [.int (nI b), .int (nI a), .int (nI n)]) (σ' := σ) rfl True.intro ?_
  refine rw_callSv hX (as := [.int (nI n), .int (nI a), .int (nI b)]) (rest := []) (c_J7_rangeCheck_23922 _ _ _ n a b h1 hbn hn) (by decide +kernel) msJ7_rangeCheck_23922 (Or.inl lk12_13) rfl (by decide) (Nat.le_of_ble_eq_true rfl) rfl ?_
  intro σ1 hr
  rw [hr]
  clear hr σ1
  refine rw_go hX [(7, .iload_n 1), (8, .istore 4)] (by decide +kernel) (Ps := []) (pc' := 10) (lv' := [(0, .ref k), (1, .int (nI a)), (2, .int (nI b)), (3, .int v), (4, .int (nI a))]) (st' := []) (σ' := σ) rfl True.intro ?_
  have L10 : ∀ (μ10 : Nat) (i : Nat), μ10 = b - i → (a ≤ i) → (i ≤ b) → RW E G 1 5 (QV E G (fun σ' => σ' = sr σ k (fl (σ k) a b v))) 10 [(0, .ref k), (1, .int (nI a)), (2, .int (nI b)), (3, .int v), (4, .int (nI i))] [] (sr σ k (fl (σ k) a i v)) := by
    intro μ10
    induction μ10 using Nat.strongRecOn with
    | ind μ10 ih10 =>
      intro i hμ10 hia hi
      refine rw_go hX [(10, .iload 4), (12, .iload_n 2)] (by decide +kernel) (Ps := []) (pc' := 13) (lv' := [(0, .ref k), (1, .int (nI a)), (2, .int (nI b)), (3, .int v), (4, .int (nI i))]) (st' := [.int (nI b), .int (nI i)]) (σ' := sr σ k (fl (σ k) a i v)) rfl True.intro ?_
      refine rw_icmp hX (tgt := 27) (cnd := .ge) (off := 14) (by decide +kernel) (by decide) (fun h13 => ?_) (fun h13 => ?_)
      · replace h13 := c2_geT h13
        have e : i = b := by omega
        subst e
        exact rw_vret hX (by decide +kernel) (rfl)
      · replace h13 := c2_geF h13
        have g := h13
        refine rw_go hX [(16, .aload_n 0), (17, .iload 4), (19, .iload_n 3)] (by decide +kernel) (Ps := []) (pc' := 20) (lv' := [(0, .ref k), (1, .int (nI a)), (2, .int (nI b)), (3, .int v), (4, .int (nI i))]) (st' := [.int v, .int (nI i), .ref k]) (σ' := sr σ k (fl (σ k) a i v)) rfl True.intro ?_
        refine rw_iastS hX hk (by decide +kernel) (vp_in_nI (by omega) hn) ?_
        refine rw_go hX [(21, .iinc 4 1), (24, .goto (-14))] (by decide +kernel) (Ps := []) (pc' := 10) (lv' := [(0, .ref k), (1, .int (nI a)), (2, .int (nI b)), (3, .int v), (4, .int (nI i + nI 1))]) (st' := []) (σ' := sw (sr σ k (fl (σ k) a i v)) k (nI i).toNatClampNeg v) rfl True.intro ?_
        refine rw_lsub (ks := [0, 1, 2, 3, 4]) (lv' := [(0, .ref k), (1, .int (nI a)), (2, .int (nI b)), (3, .int v), (4, .int (nI i + nI 1))]) rfl ?_
        rw [nI_add, nI_clamp (by omega), sw_sr, fl_1 _ _ hia]
        exact ih10 (b - (i + 1)) (by omega) (i + 1) rfl (by omega) (by omega)
  refine rw_lsub (ks := [0, 1, 2, 3, 4]) (lv' := [(0, .ref k), (1, .int (nI a)), (2, .int (nI b)), (3, .int v), (4, .int (nI a))]) rfl ?_
  simpa only [fl_0, sr_id] using L10 (b - a) a rfl (Nat.le_refl a) h1
set_option maxRecDepth 20000 in
set_option maxHeartbeats 4000000 in
theorem c_X9_isRawByte (l : Launch) (G : Gl) (σ : Mm) (x : Int32) : AMi l G 1 mX9_isRawByte [.int x] σ (fun r σ' => σ' = σ ∧ r = bz (isL x || isD x || decide (x = nI 32) || decide (x = nI 10) || decide (x = nI 34))) := by
  refine rw_inI 9 (by decide +kernel) rfl rfl ?_
  intro E hE hX
  subst hE
  refine rw_go hX [(0, .iload_n 0)] (by decide +kernel) (Ps := []) (pc' := 1) (lv' := [(0, .int x)]) (st' := [.int x]) (σ' := σ) rfl True.intro ?_
  refine rw_callSi hX (as := [.int x]) (rest := []) (c_X9_isAtoZ _ _ _ x) (by decide +kernel) msX9_isAtoZ (Or.inl lk9_311) rfl (by decide) (Nat.le_of_ble_eq_true rfl) rfl ?_
  intro r1 σ1 hr
  rw [hr.1, hr.2]
  clear hr σ1 r1
  refine rw_if hX (tgt := 32) (cnd := .ne) (off := 28) (by decide +kernel) (by decide) (fun h4 => ?_) (fun h4 => ?_)
  · replace h4 := zb_neT h4
    refine rw_go hX [(32, .iconst 1), (33, .goto 4)] (by decide +kernel) (Ps := []) (pc' := 37) (lv' := [(0, .int x)]) (st' := [.int (nI 1)]) (σ' := σ) rfl True.intro ?_
    exact rw_zret hX (by decide +kernel) (Or.inr rfl) (⟨rfl, by clear hX; simp_all [bz, cc2, nI]⟩)
  · replace h4 := zb_neF h4
    refine rw_go hX [(7, .iload_n 0)] (by decide +kernel) (Ps := []) (pc' := 8) (lv' := [(0, .int x)]) (st' := [.int x]) (σ' := σ) rfl True.intro ?_
    refine rw_callSi hX (as := [.int x]) (rest := []) (c_X9_isDigit _ _ _ x) (by decide +kernel) msX9_isDigit (Or.inl lk9_314) rfl (by decide) (Nat.le_of_ble_eq_true rfl) rfl ?_
    intro r1 σ1 hr
    rw [hr.1, hr.2]
    clear hr σ1 r1
    refine rw_if hX (tgt := 32) (cnd := .ne) (off := 21) (by decide +kernel) (by decide) (fun h11 => ?_) (fun h11 => ?_)
    · replace h11 := zb_neT h11
      refine rw_go hX [(32, .iconst 1), (33, .goto 4)] (by decide +kernel) (Ps := []) (pc' := 37) (lv' := [(0, .int x)]) (st' := [.int (nI 1)]) (σ' := σ) rfl True.intro ?_
      exact rw_zret hX (by decide +kernel) (Or.inr rfl) (⟨rfl, by clear hX; simp_all [bz, cc2, nI]⟩)
    · replace h11 := zb_neF h11
      refine rw_go hX [(14, .iload_n 0), (15, .bipush 32)] (by decide +kernel) (Ps := []) (pc' := 17) (lv' := [(0, .int x)]) (st' := [.int (nI 32), .int x]) (σ' := σ) rfl True.intro ?_
      refine rw_icmp hX (tgt := 32) (cnd := .eq) (off := 15) (by decide +kernel) (by decide) (fun h17 => ?_) (fun h17 => ?_)
      · skip
        refine rw_go hX [(32, .iconst 1), (33, .goto 4)] (by decide +kernel) (Ps := []) (pc' := 37) (lv' := [(0, .int x)]) (st' := [.int (nI 1)]) (σ' := σ) rfl True.intro ?_
        exact rw_zret hX (by decide +kernel) (Or.inr rfl) (⟨rfl, by clear hX; simp_all [bz, cc2, nI]⟩)
      · skip
        refine rw_go hX [(20, .iload_n 0), (21, .bipush 10)] (by decide +kernel) (Ps := []) (pc' := 23) (lv' := [(0, .int x)]) (st' := [.int (nI 10), .int x]) (σ' := σ) rfl True.intro ?_
        refine rw_icmp hX (tgt := 32) (cnd := .eq) (off := 9) (by decide +kernel) (by decide) (fun h23 => ?_) (fun h23 => ?_)
        · skip
          refine rw_go hX [(32, .iconst 1), (33, .goto 4)] (by decide +kernel) (Ps := []) (pc' := 37) (lv' := [(0, .int x)]) (st' := [.int (nI 1)]) (σ' := σ) rfl True.intro ?_
          exact rw_zret hX (by decide +kernel) (Or.inr rfl) (⟨rfl, by clear hX; simp_all [bz, cc2, nI]⟩)
        · skip
          refine rw_go hX [(26, .iload_n 0), (27, .bipush 34)] (by decide +kernel) (Ps := []) (pc' := 29) (lv' := [(0, .int x)]) (st' := [.int (nI 34), .int x]) (σ' := σ) rfl True.intro ?_
          refine rw_icmp hX (tgt := 36) (cnd := .ne) (off := 7) (by decide +kernel) (by decide) (fun h29 => ?_) (fun h29 => ?_)
          · skip
            refine rw_go hX [(36, .iconst 0)] (by decide +kernel) (Ps := []) (pc' := 37) (lv' := [(0, .int x)]) (st' := [.int (nI 0)]) (σ' := σ) rfl True.intro ?_
            exact rw_zret hX (by decide +kernel) (Or.inl rfl) (⟨rfl, by clear hX; simp_all [bz, cc2, nI]⟩)
          · skip
            refine rw_go hX [(32, .iconst 1), (33, .goto 4)] (by decide +kernel) (Ps := []) (pc' := 37) (lv' := [(0, .int x)]) (st' := [.int (nI 1)]) (σ' := σ) rfl True.intro ?_
            exact rw_zret hX (by decide +kernel) (Or.inr rfl) (⟨rfl, by clear hX; simp_all [bz, cc2, nI]⟩)
set_option maxRecDepth 20000 in
set_option maxHeartbeats 4000000 in
theorem c_X9_areTwoWorks (l : Launch) (G : Gl) (σ : Mm) (x y : Int32) : AMi l G 1 mX9_areTwoWorks [.int x, .int y] σ (fun r σ' => σ' = σ ∧ r = bz (decide (0 ≤ x ∧ x ≤ 4 ∧ 0 ≤ y ∧ y ≤ 4 ∧ x ≠ y))) := by
  refine rw_inI 9 (by decide +kernel) rfl rfl ?_
  intro E hE hX
  subst hE
  refine rw_go hX [(0, .iload_n 0)] (by decide +kernel) (Ps := []) (pc' := 1) (lv' := [(0, .int x), (1, .int y)]) (st' := [.int x]) (σ' := σ) rfl True.intro ?_
  refine rw_callSi hX (as := [.int x]) (rest := []) (c_X9_isWork _ _ _ x) (by decide +kernel) msX9_isWork (Or.inl lk9_56) rfl (by decide) (Nat.le_of_ble_eq_true rfl) rfl ?_
  intro r1 σ1 hr
  rw [hr.1, hr.2]
  clear hr σ1 r1
  refine rw_if hX (tgt := 23) (cnd := .eq) (off := 19) (by decide +kernel) (by decide) (fun h4 => ?_) (fun h4 => ?_)
  · replace h4 := zb_eqT h4
    refine rw_go hX [(23, .iconst 0)] (by decide +kernel) (Ps := []) (pc' := 24) (lv' := [(0, .int x), (1, .int y)]) (st' := [.int (nI 0)]) (σ' := σ) rfl True.intro ?_
    exact rw_zret hX (by decide +kernel) (Or.inl rfl) (⟨rfl, by clear hX; grind [bz, cz, cc2, nI]⟩)
  · replace h4 := zb_eqF h4
    refine rw_go hX [(7, .iload_n 1)] (by decide +kernel) (Ps := []) (pc' := 8) (lv' := [(0, .int x), (1, .int y)]) (st' := [.int y]) (σ' := σ) rfl True.intro ?_
    refine rw_callSi hX (as := [.int y]) (rest := []) (c_X9_isWork _ _ _ y) (by decide +kernel) msX9_isWork (Or.inl lk9_56) rfl (by decide) (Nat.le_of_ble_eq_true rfl) rfl ?_
    intro r1 σ1 hr
    rw [hr.1, hr.2]
    clear hr σ1 r1
    refine rw_if hX (tgt := 23) (cnd := .eq) (off := 12) (by decide +kernel) (by decide) (fun h11 => ?_) (fun h11 => ?_)
    · replace h11 := zb_eqT h11
      refine rw_go hX [(23, .iconst 0)] (by decide +kernel) (Ps := []) (pc' := 24) (lv' := [(0, .int x), (1, .int y)]) (st' := [.int (nI 0)]) (σ' := σ) rfl True.intro ?_
      exact rw_zret hX (by decide +kernel) (Or.inl rfl) (⟨rfl, by clear hX; grind [bz, cz, cc2, nI]⟩)
    · replace h11 := zb_eqF h11
      refine rw_go hX [(14, .iload_n 0), (15, .iload_n 1)] (by decide +kernel) (Ps := []) (pc' := 16) (lv' := [(0, .int x), (1, .int y)]) (st' := [.int y, .int x]) (σ' := σ) rfl True.intro ?_
      refine rw_icmp hX (tgt := 23) (cnd := .eq) (off := 7) (by decide +kernel) (by decide) (fun h16 => ?_) (fun h16 => ?_)
      · skip
        refine rw_go hX [(23, .iconst 0)] (by decide +kernel) (Ps := []) (pc' := 24) (lv' := [(0, .int x), (1, .int y)]) (st' := [.int (nI 0)]) (σ' := σ) rfl True.intro ?_
        exact rw_zret hX (by decide +kernel) (Or.inl rfl) (⟨rfl, by clear hX; grind [bz, cz, cc2, nI]⟩)
      · skip
        refine rw_go hX [(19, .iconst 1), (20, .goto 4)] (by decide +kernel) (Ps := []) (pc' := 24) (lv' := [(0, .int x), (1, .int y)]) (st' := [.int (nI 1)]) (σ' := σ) rfl True.intro ?_
        exact rw_zret hX (by decide +kernel) (Or.inr rfl) (⟨rfl, by clear hX; grind [bz, cz, cc2, nI]⟩)
set_option maxRecDepth 20000 in
set_option maxHeartbeats 4000000 in
theorem c_X1_counts0 (l : Launch) (G : Gl) (σ : Mm) (a c : Int32) (q : Bool) : AMi l G 1 mX1_counts [.int (nI 0), .int a, .int c, .int (bz q)] σ (fun r σ' => σ' = σ ∧ r = bz (cntK 0 a c q)) := by
  refine rw_inI 1 (by decide +kernel) rfl rfl ?_
  intro E hE hX
  subst hE
  refine rw_go hX [(0, .iload_n 2)] (by decide +kernel) (Ps := []) (pc' := 1) (lv' := [(0, .int (nI 0)), (1, .int a), (2, .int c), (3, .int (bz q))]) (st' := [.int c]) (σ' := σ) rfl True.intro ?_
  refine rw_callSi hX (as := [.int c]) (rest := []) (c_X9_isAtoZ _ _ _ c) (by decide +kernel) msX9_isAtoZ (Or.inr lk1_9) rfl (by decide) (Nat.le_of_ble_eq_true rfl) rfl ?_
  intro r1 σ1 hr
  rw [hr.1, hr.2]
  clear hr σ1 r1
  refine rw_go hX [(4, .istore 4), (6, .iload_n 0)] (by decide +kernel) (Ps := []) (pc' := 7) (lv' := [(0, .int (nI 0)), (1, .int a), (2, .int c), (3, .int (bz q)), (4, .int (bz (isL c)))]) (st' := [.int (nI 0)]) (σ' := σ) rfl True.intro ?_
  · skip
    refine rw_tabOut hX (tgt := 121) (df := 114) (lo := 1) (hi := 5) (offs := #[33, 48, 48, 73, 94]) (len := 33) (by decide +kernel) (Or.inl (by decide +kernel)) (by decide) ?_
    refine rw_go hX [(121, .iload 4)] (by decide +kernel) (Ps := []) (pc' := 123) (lv' := [(0, .int (nI 0)), (1, .int a), (2, .int c), (3, .int (bz q)), (4, .int (bz (isL c)))]) (st' := [.int (bz (isL c))]) (σ' := σ) rfl True.intro ?_
    exact rw_zret hX (by decide +kernel) (bz_01 _) (⟨rfl, by clear hX; simp_all [bz, cntK, cc2]⟩)
set_option maxRecDepth 20000 in
set_option maxHeartbeats 4000000 in
theorem c_X1_counts1 (l : Launch) (G : Gl) (σ : Mm) (a c : Int32) (q : Bool) : AMi l G 1 mX1_counts [.int (nI 1), .int a, .int c, .int (bz q)] σ (fun r σ' => σ' = σ ∧ r = bz (cntK 1 a c q)) := by
  refine rw_inI 1 (by decide +kernel) rfl rfl ?_
  intro E hE hX
  subst hE
  refine rw_go hX [(0, .iload_n 2)] (by decide +kernel) (Ps := []) (pc' := 1) (lv' := [(0, .int (nI 1)), (1, .int a), (2, .int c), (3, .int (bz q))]) (st' := [.int c]) (σ' := σ) rfl True.intro ?_
  refine rw_callSi hX (as := [.int c]) (rest := []) (c_X9_isAtoZ _ _ _ c) (by decide +kernel) msX9_isAtoZ (Or.inr lk1_9) rfl (by decide) (Nat.le_of_ble_eq_true rfl) rfl ?_
  intro r1 σ1 hr
  rw [hr.1, hr.2]
  clear hr σ1 r1
  refine rw_go hX [(4, .istore 4), (6, .iload_n 0)] (by decide +kernel) (Ps := []) (pc' := 7) (lv' := [(0, .int (nI 1)), (1, .int a), (2, .int c), (3, .int (bz q)), (4, .int (bz (isL c)))]) (st' := [.int (nI 1)]) (σ' := σ) rfl True.intro ?_
  · skip
    refine rw_tabIn hX (tgt := 40) (df := 114) (lo := 1) (hi := 5) (offs := #[33, 48, 48, 73, 94]) (len := 33) (off := 33) (by decide +kernel) (by decide +kernel) (by decide +kernel) (by decide +kernel) (by decide) ?_
    refine rw_go hX [(40, .iload 4)] (by decide +kernel) (Ps := []) (pc' := 42) (lv' := [(0, .int (nI 1)), (1, .int a), (2, .int c), (3, .int (bz q)), (4, .int (bz (isL c)))]) (st' := [.int (bz (isL c))]) (σ' := σ) rfl True.intro ?_
    refine rw_if hX (tgt := 53) (cnd := .eq) (off := 11) (by decide +kernel) (by decide) (fun h42 => ?_) (fun h42 => ?_)
    · replace h42 := zb_eqT h42
      refine rw_go hX [(53, .iconst 0)] (by decide +kernel) (Ps := []) (pc' := 54) (lv' := [(0, .int (nI 1)), (1, .int a), (2, .int c), (3, .int (bz q)), (4, .int (bz (isL c)))]) (st' := [.int (nI 0)]) (σ' := σ) rfl True.intro ?_
      exact rw_zret hX (by decide +kernel) (Or.inl rfl) (⟨rfl, by clear hX; simp_all [bz, cntK, cc2]⟩)
    · replace h42 := zb_eqF h42
      refine rw_go hX [(45, .iload_n 3)] (by decide +kernel) (Ps := []) (pc' := 46) (lv' := [(0, .int (nI 1)), (1, .int a), (2, .int c), (3, .int (bz q)), (4, .int (bz (isL c)))]) (st' := [.int (bz q)]) (σ' := σ) rfl True.intro ?_
      refine rw_if hX (tgt := 53) (cnd := .ne) (off := 7) (by decide +kernel) (by decide) (fun h46 => ?_) (fun h46 => ?_)
      · replace h46 := zb_neT h46
        refine rw_go hX [(53, .iconst 0)] (by decide +kernel) (Ps := []) (pc' := 54) (lv' := [(0, .int (nI 1)), (1, .int a), (2, .int c), (3, .int (bz q)), (4, .int (bz (isL c)))]) (st' := [.int (nI 0)]) (σ' := σ) rfl True.intro ?_
        exact rw_zret hX (by decide +kernel) (Or.inl rfl) (⟨rfl, by clear hX; simp_all [bz, cntK, cc2]⟩)
      · replace h46 := zb_neF h46
        refine rw_go hX [(49, .iconst 1), (50, .goto 4)] (by decide +kernel) (Ps := []) (pc' := 54) (lv' := [(0, .int (nI 1)), (1, .int a), (2, .int c), (3, .int (bz q)), (4, .int (bz (isL c)))]) (st' := [.int (nI 1)]) (σ' := σ) rfl True.intro ?_
        exact rw_zret hX (by decide +kernel) (Or.inr rfl) (⟨rfl, by clear hX; simp_all [bz, cntK, cc2]⟩)
set_option maxRecDepth 20000 in
set_option maxHeartbeats 4000000 in
theorem c_X1_counts2 (l : Launch) (G : Gl) (σ : Mm) (a c : Int32) (q : Bool) : AMi l G 1 mX1_counts [.int (nI 2), .int a, .int c, .int (bz q)] σ (fun r σ' => σ' = σ ∧ r = bz (cntK 2 a c q)) := by
  refine rw_inI 1 (by decide +kernel) rfl rfl ?_
  intro E hE hX
  subst hE
  refine rw_go hX [(0, .iload_n 2)] (by decide +kernel) (Ps := []) (pc' := 1) (lv' := [(0, .int (nI 2)), (1, .int a), (2, .int c), (3, .int (bz q))]) (st' := [.int c]) (σ' := σ) rfl True.intro ?_
  refine rw_callSi hX (as := [.int c]) (rest := []) (c_X9_isAtoZ _ _ _ c) (by decide +kernel) msX9_isAtoZ (Or.inr lk1_9) rfl (by decide) (Nat.le_of_ble_eq_true rfl) rfl ?_
  intro r1 σ1 hr
  rw [hr.1, hr.2]
  clear hr σ1 r1
  refine rw_go hX [(4, .istore 4), (6, .iload_n 0)] (by decide +kernel) (Ps := []) (pc' := 7) (lv' := [(0, .int (nI 2)), (1, .int a), (2, .int c), (3, .int (bz q)), (4, .int (bz (isL c)))]) (st' := [.int (nI 2)]) (σ' := σ) rfl True.intro ?_
  · skip
    refine rw_tabIn hX (tgt := 55) (df := 114) (lo := 1) (hi := 5) (offs := #[33, 48, 48, 73, 94]) (len := 33) (off := 48) (by decide +kernel) (by decide +kernel) (by decide +kernel) (by decide +kernel) (by decide) ?_
    refine rw_go hX [(55, .iload 4)] (by decide +kernel) (Ps := []) (pc' := 57) (lv' := [(0, .int (nI 2)), (1, .int a), (2, .int c), (3, .int (bz q)), (4, .int (bz (isL c)))]) (st' := [.int (bz (isL c))]) (σ' := σ) rfl True.intro ?_
    refine rw_if hX (tgt := 74) (cnd := .ne) (off := 17) (by decide +kernel) (by decide) (fun h57 => ?_) (fun h57 => ?_)
    · replace h57 := zb_neT h57
      refine rw_go hX [(74, .iconst 1), (75, .goto 4)] (by decide +kernel) (Ps := []) (pc' := 79) (lv' := [(0, .int (nI 2)), (1, .int a), (2, .int c), (3, .int (bz q)), (4, .int (bz (isL c)))]) (st' := [.int (nI 1)]) (σ' := σ) rfl True.intro ?_
      exact rw_zret hX (by decide +kernel) (Or.inr rfl) (⟨rfl, by clear hX; simp_all [bz, cntK, cc2]⟩)
    · replace h57 := zb_neF h57
      refine rw_go hX [(60, .iload_n 2)] (by decide +kernel) (Ps := []) (pc' := 61) (lv' := [(0, .int (nI 2)), (1, .int a), (2, .int c), (3, .int (bz q)), (4, .int (bz (isL c)))]) (st' := [.int c]) (σ' := σ) rfl True.intro ?_
      refine rw_callSi hX (as := [.int c]) (rest := []) (c_X9_isDigit _ _ _ c) (by decide +kernel) msX9_isDigit (Or.inr lk1_13) rfl (by decide) (Nat.le_of_ble_eq_true rfl) rfl ?_
      intro r1 σ1 hr
      rw [hr.1, hr.2]
      clear hr σ1 r1
      refine rw_if hX (tgt := 78) (cnd := .eq) (off := 14) (by decide +kernel) (by decide) (fun h64 => ?_) (fun h64 => ?_)
      · replace h64 := zb_eqT h64
        refine rw_go hX [(78, .iconst 0)] (by decide +kernel) (Ps := []) (pc' := 79) (lv' := [(0, .int (nI 2)), (1, .int a), (2, .int c), (3, .int (bz q)), (4, .int (bz (isL c)))]) (st' := [.int (nI 0)]) (σ' := σ) rfl True.intro ?_
        exact rw_zret hX (by decide +kernel) (Or.inl rfl) (⟨rfl, by clear hX; simp_all [bz, cntK, cc2]⟩)
      · replace h64 := zb_eqF h64
        refine rw_go hX [(67, .iload_n 1)] (by decide +kernel) (Ps := []) (pc' := 68) (lv' := [(0, .int (nI 2)), (1, .int a), (2, .int c), (3, .int (bz q)), (4, .int (bz (isL c)))]) (st' := [.int a]) (σ' := σ) rfl True.intro ?_
        refine rw_callSi hX (as := [.int a]) (rest := []) (c_X9_isDigit _ _ _ a) (by decide +kernel) msX9_isDigit (Or.inr lk1_13) rfl (by decide) (Nat.le_of_ble_eq_true rfl) rfl ?_
        intro r1 σ1 hr
        rw [hr.1, hr.2]
        clear hr σ1 r1
        refine rw_if hX (tgt := 78) (cnd := .ne) (off := 7) (by decide +kernel) (by decide) (fun h71 => ?_) (fun h71 => ?_)
        · replace h71 := zb_neT h71
          refine rw_go hX [(78, .iconst 0)] (by decide +kernel) (Ps := []) (pc' := 79) (lv' := [(0, .int (nI 2)), (1, .int a), (2, .int c), (3, .int (bz q)), (4, .int (bz (isL c)))]) (st' := [.int (nI 0)]) (σ' := σ) rfl True.intro ?_
          exact rw_zret hX (by decide +kernel) (Or.inl rfl) (⟨rfl, by clear hX; simp_all [bz, cntK, cc2]⟩)
        · replace h71 := zb_neF h71
          refine rw_go hX [(74, .iconst 1), (75, .goto 4)] (by decide +kernel) (Ps := []) (pc' := 79) (lv' := [(0, .int (nI 2)), (1, .int a), (2, .int c), (3, .int (bz q)), (4, .int (bz (isL c)))]) (st' := [.int (nI 1)]) (σ' := σ) rfl True.intro ?_
          exact rw_zret hX (by decide +kernel) (Or.inr rfl) (⟨rfl, by clear hX; simp_all [bz, cntK, cc2]⟩)
set_option maxRecDepth 20000 in
set_option maxHeartbeats 4000000 in
theorem c_X1_counts3 (l : Launch) (G : Gl) (σ : Mm) (a c : Int32) (q : Bool) : AMi l G 1 mX1_counts [.int (nI 3), .int a, .int c, .int (bz q)] σ (fun r σ' => σ' = σ ∧ r = bz (cntK 3 a c q)) := by
  refine rw_inI 1 (by decide +kernel) rfl rfl ?_
  intro E hE hX
  subst hE
  refine rw_go hX [(0, .iload_n 2)] (by decide +kernel) (Ps := []) (pc' := 1) (lv' := [(0, .int (nI 3)), (1, .int a), (2, .int c), (3, .int (bz q))]) (st' := [.int c]) (σ' := σ) rfl True.intro ?_
  refine rw_callSi hX (as := [.int c]) (rest := []) (c_X9_isAtoZ _ _ _ c) (by decide +kernel) msX9_isAtoZ (Or.inr lk1_9) rfl (by decide) (Nat.le_of_ble_eq_true rfl) rfl ?_
  intro r1 σ1 hr
  rw [hr.1, hr.2]
  clear hr σ1 r1
  refine rw_go hX [(4, .istore 4), (6, .iload_n 0)] (by decide +kernel) (Ps := []) (pc' := 7) (lv' := [(0, .int (nI 3)), (1, .int a), (2, .int c), (3, .int (bz q)), (4, .int (bz (isL c)))]) (st' := [.int (nI 3)]) (σ' := σ) rfl True.intro ?_
  · skip
    refine rw_tabIn hX (tgt := 55) (df := 114) (lo := 1) (hi := 5) (offs := #[33, 48, 48, 73, 94]) (len := 33) (off := 48) (by decide +kernel) (by decide +kernel) (by decide +kernel) (by decide +kernel) (by decide) ?_
    refine rw_go hX [(55, .iload 4)] (by decide +kernel) (Ps := []) (pc' := 57) (lv' := [(0, .int (nI 3)), (1, .int a), (2, .int c), (3, .int (bz q)), (4, .int (bz (isL c)))]) (st' := [.int (bz (isL c))]) (σ' := σ) rfl True.intro ?_
    refine rw_if hX (tgt := 74) (cnd := .ne) (off := 17) (by decide +kernel) (by decide) (fun h57 => ?_) (fun h57 => ?_)
    · replace h57 := zb_neT h57
      refine rw_go hX [(74, .iconst 1), (75, .goto 4)] (by decide +kernel) (Ps := []) (pc' := 79) (lv' := [(0, .int (nI 3)), (1, .int a), (2, .int c), (3, .int (bz q)), (4, .int (bz (isL c)))]) (st' := [.int (nI 1)]) (σ' := σ) rfl True.intro ?_
      exact rw_zret hX (by decide +kernel) (Or.inr rfl) (⟨rfl, by clear hX; simp_all [bz, cntK, cc2]⟩)
    · replace h57 := zb_neF h57
      refine rw_go hX [(60, .iload_n 2)] (by decide +kernel) (Ps := []) (pc' := 61) (lv' := [(0, .int (nI 3)), (1, .int a), (2, .int c), (3, .int (bz q)), (4, .int (bz (isL c)))]) (st' := [.int c]) (σ' := σ) rfl True.intro ?_
      refine rw_callSi hX (as := [.int c]) (rest := []) (c_X9_isDigit _ _ _ c) (by decide +kernel) msX9_isDigit (Or.inr lk1_13) rfl (by decide) (Nat.le_of_ble_eq_true rfl) rfl ?_
      intro r1 σ1 hr
      rw [hr.1, hr.2]
      clear hr σ1 r1
      refine rw_if hX (tgt := 78) (cnd := .eq) (off := 14) (by decide +kernel) (by decide) (fun h64 => ?_) (fun h64 => ?_)
      · replace h64 := zb_eqT h64
        refine rw_go hX [(78, .iconst 0)] (by decide +kernel) (Ps := []) (pc' := 79) (lv' := [(0, .int (nI 3)), (1, .int a), (2, .int c), (3, .int (bz q)), (4, .int (bz (isL c)))]) (st' := [.int (nI 0)]) (σ' := σ) rfl True.intro ?_
        exact rw_zret hX (by decide +kernel) (Or.inl rfl) (⟨rfl, by clear hX; simp_all [bz, cntK, cc2]⟩)
      · replace h64 := zb_eqF h64
        refine rw_go hX [(67, .iload_n 1)] (by decide +kernel) (Ps := []) (pc' := 68) (lv' := [(0, .int (nI 3)), (1, .int a), (2, .int c), (3, .int (bz q)), (4, .int (bz (isL c)))]) (st' := [.int a]) (σ' := σ) rfl True.intro ?_
        refine rw_callSi hX (as := [.int a]) (rest := []) (c_X9_isDigit _ _ _ a) (by decide +kernel) msX9_isDigit (Or.inr lk1_13) rfl (by decide) (Nat.le_of_ble_eq_true rfl) rfl ?_
        intro r1 σ1 hr
        rw [hr.1, hr.2]
        clear hr σ1 r1
        refine rw_if hX (tgt := 78) (cnd := .ne) (off := 7) (by decide +kernel) (by decide) (fun h71 => ?_) (fun h71 => ?_)
        · replace h71 := zb_neT h71
          refine rw_go hX [(78, .iconst 0)] (by decide +kernel) (Ps := []) (pc' := 79) (lv' := [(0, .int (nI 3)), (1, .int a), (2, .int c), (3, .int (bz q)), (4, .int (bz (isL c)))]) (st' := [.int (nI 0)]) (σ' := σ) rfl True.intro ?_
          exact rw_zret hX (by decide +kernel) (Or.inl rfl) (⟨rfl, by clear hX; simp_all [bz, cntK, cc2]⟩)
        · replace h71 := zb_neF h71
          refine rw_go hX [(74, .iconst 1), (75, .goto 4)] (by decide +kernel) (Ps := []) (pc' := 79) (lv' := [(0, .int (nI 3)), (1, .int a), (2, .int c), (3, .int (bz q)), (4, .int (bz (isL c)))]) (st' := [.int (nI 1)]) (σ' := σ) rfl True.intro ?_
          exact rw_zret hX (by decide +kernel) (Or.inr rfl) (⟨rfl, by clear hX; simp_all [bz, cntK, cc2]⟩)
set_option maxRecDepth 20000 in
set_option maxHeartbeats 4000000 in
theorem c_X1_counts4 (l : Launch) (G : Gl) (σ : Mm) (a c : Int32) (q : Bool) : AMi l G 1 mX1_counts [.int (nI 4), .int a, .int c, .int (bz q)] σ (fun r σ' => σ' = σ ∧ r = bz (cntK 4 a c q)) := by
  refine rw_inI 1 (by decide +kernel) rfl rfl ?_
  intro E hE hX
  subst hE
  refine rw_go hX [(0, .iload_n 2)] (by decide +kernel) (Ps := []) (pc' := 1) (lv' := [(0, .int (nI 4)), (1, .int a), (2, .int c), (3, .int (bz q))]) (st' := [.int c]) (σ' := σ) rfl True.intro ?_
  refine rw_callSi hX (as := [.int c]) (rest := []) (c_X9_isAtoZ _ _ _ c) (by decide +kernel) msX9_isAtoZ (Or.inr lk1_9) rfl (by decide) (Nat.le_of_ble_eq_true rfl) rfl ?_
  intro r1 σ1 hr
  rw [hr.1, hr.2]
  clear hr σ1 r1
  refine rw_go hX [(4, .istore 4), (6, .iload_n 0)] (by decide +kernel) (Ps := []) (pc' := 7) (lv' := [(0, .int (nI 4)), (1, .int a), (2, .int c), (3, .int (bz q)), (4, .int (bz (isL c)))]) (st' := [.int (nI 4)]) (σ' := σ) rfl True.intro ?_
  · skip
    refine rw_tabIn hX (tgt := 80) (df := 114) (lo := 1) (hi := 5) (offs := #[33, 48, 48, 73, 94]) (len := 33) (off := 73) (by decide +kernel) (by decide +kernel) (by decide +kernel) (by decide +kernel) (by decide) ?_
    refine rw_go hX [(80, .iload_n 2), (81, .bipush 10)] (by decide +kernel) (Ps := []) (pc' := 83) (lv' := [(0, .int (nI 4)), (1, .int a), (2, .int c), (3, .int (bz q)), (4, .int (bz (isL c)))]) (st' := [.int (nI 10), .int c]) (σ' := σ) rfl True.intro ?_
    refine rw_icmp hX (tgt := 95) (cnd := .eq) (off := 12) (by decide +kernel) (by decide) (fun h83 => ?_) (fun h83 => ?_)
    · skip
      refine rw_go hX [(95, .iconst 1), (96, .goto 4)] (by decide +kernel) (Ps := []) (pc' := 100) (lv' := [(0, .int (nI 4)), (1, .int a), (2, .int c), (3, .int (bz q)), (4, .int (bz (isL c)))]) (st' := [.int (nI 1)]) (σ' := σ) rfl True.intro ?_
      exact rw_zret hX (by decide +kernel) (Or.inr rfl) (⟨rfl, by clear hX; simp_all [bz, cntK, cc2]⟩)
    · skip
      refine rw_go hX [(86, .iload 4)] (by decide +kernel) (Ps := []) (pc' := 88) (lv' := [(0, .int (nI 4)), (1, .int a), (2, .int c), (3, .int (bz q)), (4, .int (bz (isL c)))]) (st' := [.int (bz (isL c))]) (σ' := σ) rfl True.intro ?_
      refine rw_if hX (tgt := 99) (cnd := .eq) (off := 11) (by decide +kernel) (by decide) (fun h88 => ?_) (fun h88 => ?_)
      · replace h88 := zb_eqT h88
        refine rw_go hX [(99, .iconst 0)] (by decide +kernel) (Ps := []) (pc' := 100) (lv' := [(0, .int (nI 4)), (1, .int a), (2, .int c), (3, .int (bz q)), (4, .int (bz (isL c)))]) (st' := [.int (nI 0)]) (σ' := σ) rfl True.intro ?_
        exact rw_zret hX (by decide +kernel) (Or.inl rfl) (⟨rfl, by clear hX; simp_all [bz, cntK, cc2]⟩)
      · replace h88 := zb_eqF h88
        refine rw_go hX [(91, .iload_n 3)] (by decide +kernel) (Ps := []) (pc' := 92) (lv' := [(0, .int (nI 4)), (1, .int a), (2, .int c), (3, .int (bz q)), (4, .int (bz (isL c)))]) (st' := [.int (bz q)]) (σ' := σ) rfl True.intro ?_
        refine rw_if hX (tgt := 99) (cnd := .ne) (off := 7) (by decide +kernel) (by decide) (fun h92 => ?_) (fun h92 => ?_)
        · replace h92 := zb_neT h92
          refine rw_go hX [(99, .iconst 0)] (by decide +kernel) (Ps := []) (pc' := 100) (lv' := [(0, .int (nI 4)), (1, .int a), (2, .int c), (3, .int (bz q)), (4, .int (bz (isL c)))]) (st' := [.int (nI 0)]) (σ' := σ) rfl True.intro ?_
          exact rw_zret hX (by decide +kernel) (Or.inl rfl) (⟨rfl, by clear hX; simp_all [bz, cntK, cc2]⟩)
        · replace h92 := zb_neF h92
          refine rw_go hX [(95, .iconst 1), (96, .goto 4)] (by decide +kernel) (Ps := []) (pc' := 100) (lv' := [(0, .int (nI 4)), (1, .int a), (2, .int c), (3, .int (bz q)), (4, .int (bz (isL c)))]) (st' := [.int (nI 1)]) (σ' := σ) rfl True.intro ?_
          exact rw_zret hX (by decide +kernel) (Or.inr rfl) (⟨rfl, by clear hX; simp_all [bz, cntK, cc2]⟩)
set_option maxRecDepth 20000 in
set_option maxHeartbeats 4000000 in
theorem c_X1_counts5 (l : Launch) (G : Gl) (σ : Mm) (a c : Int32) (q : Bool) : AMi l G 1 mX1_counts [.int (nI 5), .int a, .int c, .int (bz q)] σ (fun r σ' => σ' = σ ∧ r = bz (cntK 5 a c q)) := by
  refine rw_inI 1 (by decide +kernel) rfl rfl ?_
  intro E hE hX
  subst hE
  refine rw_go hX [(0, .iload_n 2)] (by decide +kernel) (Ps := []) (pc' := 1) (lv' := [(0, .int (nI 5)), (1, .int a), (2, .int c), (3, .int (bz q))]) (st' := [.int c]) (σ' := σ) rfl True.intro ?_
  refine rw_callSi hX (as := [.int c]) (rest := []) (c_X9_isAtoZ _ _ _ c) (by decide +kernel) msX9_isAtoZ (Or.inr lk1_9) rfl (by decide) (Nat.le_of_ble_eq_true rfl) rfl ?_
  intro r1 σ1 hr
  rw [hr.1, hr.2]
  clear hr σ1 r1
  refine rw_go hX [(4, .istore 4), (6, .iload_n 0)] (by decide +kernel) (Ps := []) (pc' := 7) (lv' := [(0, .int (nI 5)), (1, .int a), (2, .int c), (3, .int (bz q)), (4, .int (bz (isL c)))]) (st' := [.int (nI 5)]) (σ' := σ) rfl True.intro ?_
  · skip
    refine rw_tabIn hX (tgt := 101) (df := 114) (lo := 1) (hi := 5) (offs := #[33, 48, 48, 73, 94]) (len := 33) (off := 94) (by decide +kernel) (by decide +kernel) (by decide +kernel) (by decide +kernel) (by decide) ?_
    refine rw_go hX [(101, .iload 4)] (by decide +kernel) (Ps := []) (pc' := 103) (lv' := [(0, .int (nI 5)), (1, .int a), (2, .int c), (3, .int (bz q)), (4, .int (bz (isL c)))]) (st' := [.int (bz (isL c))]) (σ' := σ) rfl True.intro ?_
    refine rw_if hX (tgt := 119) (cnd := .eq) (off := 16) (by decide +kernel) (by decide) (fun h103 => ?_) (fun h103 => ?_)
    · replace h103 := zb_eqT h103
      refine rw_go hX [(119, .iconst 0)] (by decide +kernel) (Ps := []) (pc' := 120) (lv' := [(0, .int (nI 5)), (1, .int a), (2, .int c), (3, .int (bz q)), (4, .int (bz (isL c)))]) (st' := [.int (nI 0)]) (σ' := σ) rfl True.intro ?_
      exact rw_zret hX (by decide +kernel) (Or.inl rfl) (⟨rfl, by clear hX; simp_all [bz, cntK, cc2]⟩)
    · replace h103 := zb_eqF h103
      refine rw_go hX [(106, .iload_n 3)] (by decide +kernel) (Ps := []) (pc' := 107) (lv' := [(0, .int (nI 5)), (1, .int a), (2, .int c), (3, .int (bz q)), (4, .int (bz (isL c)))]) (st' := [.int (bz q)]) (σ' := σ) rfl True.intro ?_
      refine rw_if hX (tgt := 119) (cnd := .ne) (off := 12) (by decide +kernel) (by decide) (fun h107 => ?_) (fun h107 => ?_)
      · replace h107 := zb_neT h107
        refine rw_go hX [(119, .iconst 0)] (by decide +kernel) (Ps := []) (pc' := 120) (lv' := [(0, .int (nI 5)), (1, .int a), (2, .int c), (3, .int (bz q)), (4, .int (bz (isL c)))]) (st' := [.int (nI 0)]) (σ' := σ) rfl True.intro ?_
        exact rw_zret hX (by decide +kernel) (Or.inl rfl) (⟨rfl, by clear hX; simp_all [bz, cntK, cc2]⟩)
      · replace h107 := zb_neF h107
        refine rw_go hX [(110, .iload_n 2), (111, .iload_n 1)] (by decide +kernel) (Ps := []) (pc' := 112) (lv' := [(0, .int (nI 5)), (1, .int a), (2, .int c), (3, .int (bz q)), (4, .int (bz (isL c)))]) (st' := [.int a, .int c]) (σ' := σ) rfl True.intro ?_
        refine rw_icmp hX (tgt := 119) (cnd := .eq) (off := 7) (by decide +kernel) (by decide) (fun h112 => ?_) (fun h112 => ?_)
        · skip
          refine rw_go hX [(119, .iconst 0)] (by decide +kernel) (Ps := []) (pc' := 120) (lv' := [(0, .int (nI 5)), (1, .int a), (2, .int c), (3, .int (bz q)), (4, .int (bz (isL c)))]) (st' := [.int (nI 0)]) (σ' := σ) rfl True.intro ?_
          exact rw_zret hX (by decide +kernel) (Or.inl rfl) (⟨rfl, by clear hX; simp_all [bz, cntK, cc2]⟩)
        · skip
          refine rw_go hX [(115, .iconst 1), (116, .goto 4)] (by decide +kernel) (Ps := []) (pc' := 120) (lv' := [(0, .int (nI 5)), (1, .int a), (2, .int c), (3, .int (bz q)), (4, .int (bz (isL c)))]) (st' := [.int (nI 1)]) (σ' := σ) rfl True.intro ?_
          exact rw_zret hX (by decide +kernel) (Or.inr rfl) (⟨rfl, by clear hX; simp_all [bz, cntK, cc2]⟩)
theorem c_X1_counts (l : Launch) (G : Gl) (σ : Mm) (k : Nat) (a c : Int32) (q : Bool) (hk : k < 6) : AMi l G 1 mX1_counts [.int (nI k), .int a, .int c, .int (bz q)] σ (fun r σ' => σ' = σ ∧ r = bz (cntK k a c q)) := by
  match k, hk with
  | 0, _ => exact c_X1_counts0 l G σ a c q
  | 1, _ => exact c_X1_counts1 l G σ a c q
  | 2, _ => exact c_X1_counts2 l G σ a c q
  | 3, _ => exact c_X1_counts3 l G σ a c q
  | 4, _ => exact c_X1_counts4 l G σ a c q
  | 5, _ => exact c_X1_counts5 l G σ a c q
set_option maxRecDepth 20000 in
set_option maxHeartbeats 4000000 in
theorem c_X1_toldAs (l : Launch) (G : Gl) (σ : Mm) (k : Nat) (a c b : Int32) (q : Bool) (hk : k < 6) (hcnt : cntK k a c q = true) : AMi l G 1 mX1_toldAs [.int (nI k), .int a, .int c, .int b] σ (fun r σ' => σ' = σ ∧ r = tellK k a c b q) := by
  refine rw_inI 1 (by decide +kernel) rfl rfl ?_
  intro E hE hX
  subst hE
  refine rw_go hX [(0, .iload_n 2)] (by decide +kernel) (Ps := []) (pc' := 1) (lv' := [(0, .int (nI k)), (1, .int a), (2, .int c), (3, .int b)]) (st' := [.int c]) (σ' := σ) rfl True.intro ?_
  refine rw_callSi hX (as := [.int c]) (rest := []) (c_X9_isDigit _ _ _ c) (by decide +kernel) msX9_isDigit (Or.inr lk1_13) rfl (by decide) (Nat.le_of_ble_eq_true rfl) rfl ?_
  intro r1 σ1 hr
  rw [hr.1, hr.2]
  clear hr σ1 r1
  refine rw_if hX (tgt := 10) (cnd := .eq) (off := 6) (by decide +kernel) (by decide) (fun h4 => ?_) (fun h4 => ?_)
  · replace h4 := zb_eqT h4
    refine rw_go hX [(10, .iload_n 2), (11, .bipush 10)] (by decide +kernel) (Ps := []) (pc' := 13) (lv' := [(0, .int (nI k)), (1, .int a), (2, .int c), (3, .int b)]) (st' := [.int (nI 10), .int c]) (σ' := σ) rfl True.intro ?_
    refine rw_icmp hX (tgt := 19) (cnd := .ne) (off := 6) (by decide +kernel) (by decide) (fun h13 => ?_) (fun h13 => ?_)
    · skip
      refine rw_go hX [(19, .iload_n 0), (20, .iconst 3)] (by decide +kernel) (Ps := []) (pc' := 21) (lv' := [(0, .int (nI k)), (1, .int a), (2, .int c), (3, .int b)]) (st' := [.int (nI 3), .int (nI k)]) (σ' := σ) rfl True.intro ?_
      refine rw_icmp hX (tgt := 41) (cnd := .ne) (off := 20) (by decide +kernel) (by decide) (fun h21 => ?_) (fun h21 => ?_)
      · replace h21 := c2_neT h21
        refine rw_go hX [(41, .iload_n 2)] (by decide +kernel) (Ps := []) (pc' := 42) (lv' := [(0, .int (nI k)), (1, .int a), (2, .int c), (3, .int b)]) (st' := [.int c]) (σ' := σ) rfl True.intro ?_
        exact rw_iret hX (by decide +kernel) (⟨rfl, by rcases (show k = 0 ∨ k = 1 ∨ k = 2 ∨ k = 3 ∨ k = 4 ∨ k = 5 by omega) with rfl | rfl | rfl | rfl | rfl | rfl <;> (clear hX; simp_all [cntK, tellK, cc2]) <;> grind [isL, isD, nI]⟩)
      · replace h21 := c2_neF h21
        refine rw_go hX [(24, .iload_n 1)] (by decide +kernel) (Ps := []) (pc' := 25) (lv' := [(0, .int (nI k)), (1, .int a), (2, .int c), (3, .int b)]) (st' := [.int a]) (σ' := σ) rfl True.intro ?_
        refine rw_callSi hX (as := [.int a]) (rest := []) (c_X9_isAtoZ _ _ _ a) (by decide +kernel) msX9_isAtoZ (Or.inr lk1_9) rfl (by decide) (Nat.le_of_ble_eq_true rfl) rfl ?_
        intro r1 σ1 hr
        rw [hr.1, hr.2]
        clear hr σ1 r1
        refine rw_if hX (tgt := 41) (cnd := .ne) (off := 13) (by decide +kernel) (by decide) (fun h28 => ?_) (fun h28 => ?_)
        · replace h28 := zb_neT h28
          refine rw_go hX [(41, .iload_n 2)] (by decide +kernel) (Ps := []) (pc' := 42) (lv' := [(0, .int (nI k)), (1, .int a), (2, .int c), (3, .int b)]) (st' := [.int c]) (σ' := σ) rfl True.intro ?_
          exact rw_iret hX (by decide +kernel) (⟨rfl, by rcases (show k = 0 ∨ k = 1 ∨ k = 2 ∨ k = 3 ∨ k = 4 ∨ k = 5 by omega) with rfl | rfl | rfl | rfl | rfl | rfl <;> (clear hX; simp_all [cntK, tellK, cc2]) <;> grind [isL, isD, nI]⟩)
        · replace h28 := zb_neF h28
          refine rw_go hX [(31, .iload_n 3)] (by decide +kernel) (Ps := []) (pc' := 32) (lv' := [(0, .int (nI k)), (1, .int a), (2, .int c), (3, .int b)]) (st' := [.int b]) (σ' := σ) rfl True.intro ?_
          refine rw_callSi hX (as := [.int b]) (rest := []) (c_X9_isAtoZ _ _ _ b) (by decide +kernel) msX9_isAtoZ (Or.inr lk1_9) rfl (by decide) (Nat.le_of_ble_eq_true rfl) rfl ?_
          intro r1 σ1 hr
          rw [hr.1, hr.2]
          clear hr σ1 r1
          refine rw_if hX (tgt := 41) (cnd := .ne) (off := 6) (by decide +kernel) (by decide) (fun h35 => ?_) (fun h35 => ?_)
          · replace h35 := zb_neT h35
            refine rw_go hX [(41, .iload_n 2)] (by decide +kernel) (Ps := []) (pc' := 42) (lv' := [(0, .int (nI k)), (1, .int a), (2, .int c), (3, .int b)]) (st' := [.int c]) (σ' := σ) rfl True.intro ?_
            exact rw_iret hX (by decide +kernel) (⟨rfl, by rcases (show k = 0 ∨ k = 1 ∨ k = 2 ∨ k = 3 ∨ k = 4 ∨ k = 5 by omega) with rfl | rfl | rfl | rfl | rfl | rfl <;> (clear hX; simp_all [cntK, tellK, cc2]) <;> grind [isL, isD, nI]⟩)
          · replace h35 := zb_neF h35
            refine rw_go hX [(38, .bipush 118)] (by decide +kernel) (Ps := []) (pc' := 40) (lv' := [(0, .int (nI k)), (1, .int a), (2, .int c), (3, .int b)]) (st' := [.int (nI 118)]) (σ' := σ) rfl True.intro ?_
            exact rw_iret hX (by decide +kernel) (⟨rfl, by rcases (show k = 0 ∨ k = 1 ∨ k = 2 ∨ k = 3 ∨ k = 4 ∨ k = 5 by omega) with rfl | rfl | rfl | rfl | rfl | rfl <;> (clear hX; simp_all [cntK, tellK, cc2]) <;> grind [isL, isD, nI]⟩)
    · skip
      refine rw_go hX [(16, .bipush 47)] (by decide +kernel) (Ps := []) (pc' := 18) (lv' := [(0, .int (nI k)), (1, .int a), (2, .int c), (3, .int b)]) (st' := [.int (nI 47)]) (σ' := σ) rfl True.intro ?_
      exact rw_iret hX (by decide +kernel) (⟨rfl, by rcases (show k = 0 ∨ k = 1 ∨ k = 2 ∨ k = 3 ∨ k = 4 ∨ k = 5 by omega) with rfl | rfl | rfl | rfl | rfl | rfl <;> (clear hX; simp_all [cntK, tellK, cc2]) <;> grind [isL, isD, nI]⟩)
  · replace h4 := zb_eqF h4
    refine rw_go hX [(7, .bipush 35)] (by decide +kernel) (Ps := []) (pc' := 9) (lv' := [(0, .int (nI k)), (1, .int a), (2, .int c), (3, .int b)]) (st' := [.int (nI 35)]) (σ' := σ) rfl True.intro ?_
    exact rw_iret hX (by decide +kernel) (⟨rfl, by rcases (show k = 0 ∨ k = 1 ∨ k = 2 ∨ k = 3 ∨ k = 4 ∨ k = 5 by omega) with rfl | rfl | rfl | rfl | rfl | rfl <;> (clear hX; simp_all [cntK, tellK, cc2]) <;> grind [isL, isD, nI]⟩)
set_option maxRecDepth 20000 in
set_option maxHeartbeats 4000000 in
theorem c_X5_nextNumber (l : Launch) (G : Gl) (σ : Mm) (z : Int32) : AMi l G 0 mX5_nextNumber [.int z] σ (fun r σ' => σ' = σ ∧ r = z * 1103515245 + nI 12345) := by
  refine rw_inI 5 (by decide +kernel) rfl rfl ?_
  intro E hE hX
  subst hE
  refine rw_go hX [(0, .iload_n 0), (1, .ldc 63), (3, .imul), (4, .sipush 12345), (7, .iadd)] (by decide +kernel) (Ps := []) (pc' := 8) (lv' := [(0, .int z)]) (st' := [.int ((z * 1103515245) + nI 12345)]) (σ' := σ) rfl True.intro ?_
  exact rw_iret hX (by decide +kernel) (⟨rfl, rfl⟩)
