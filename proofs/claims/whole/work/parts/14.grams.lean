/-! grams, marks, prints of one work -/
def mkF (f : Nat → Int32) (c : Nat) : Nat → Int32
  | 0 => nI 0
  | t + 1 => nI 31 * mkF f c t + f (c + t)
def mR (f ft : Nat → Int32) (w k : Nat) : Nat → (Nat → Int32)
  | 0 => f
  | g + 1 => upd (mR f ft w k g) (50 * w + g) (mkF ft (50 * w + g) k)
/-- the last of the least marks of a window -/
def llS (f : Nat → Int32) (b fr : Nat) : Nat → Nat
  | 0 => fr
  | j + 1 => if f (b + (fr + j + 1)) ≤ f (b + llS f b fr j) then fr + j + 1 else llS f b fr j
theorem llS_in (f : Nat → Int32) (b fr : Nat) : ∀ j, fr ≤ llS f b fr j ∧ llS f b fr j ≤ fr + j
  | 0 => ⟨Nat.le_refl _, Nat.le_refl _⟩
  | j + 1 => by
    have := llS_in f b fr j
    simp only [llS]
    split <;> omega
def pP (f fm : Nat → Int32) (w wide : Nat) : Nat → (Nat → Int32)
  | 0 => f
  | j + 1 => upd (pP f fm w wide j) (50 * w + llS fm (50 * w) j (wide - 1)) (nI 1)
def rdG (rt rn rm rg : Nat) (w k L : Nat) (σ : Mm) : Mm := sr (sr σ rm (mR (σ rm) (σ rt) w k (L + 1 - k))) rg (upd (σ rg) w (nI (L + 1 - k)))
/-- prints among the first i grams of a work -/
def pC (f : Nat → Int32) (w : Nat) : Nat → Nat
  | 0 => 0
  | g + 1 => if f (50 * w + g) ≠ 0 then pC f w g + 1 else pC f w g
theorem pC_le (f : Nat → Int32) (w : Nat) : ∀ i, pC f w i ≤ i
  | 0 => Nat.le_refl 0
  | i + 1 => by
    have := pC_le f w i
    simp only [pC]
    split <;> omega
def lkC (f : Nat → Int32) (a b : Nat) : Nat → Bool
  | 0 => true
  | t + 1 => lkC f a b t && decide (f (a + t) = f (b + t))
theorem lkC_iff (f : Nat → Int32) (a b : Nat) : ∀ k, lkC f a b k = true ↔ ∀ t, t < k → f (a + t) = f (b + t)
  | 0 => by simp [lkC]
  | k + 1 => by
    simp only [lkC, Bool.and_eq_true, decide_eq_true_eq, lkC_iff f a b k]
    constructor
    · intro h t ht
      rcases Nat.lt_succ_iff_lt_or_eq.mp ht with g | g
      · exact h.1 t g
      · rw [g]; exact h.2
    · exact fun h => ⟨fun t ht => h t (by omega), h k (by omega)⟩
theorem gN_max {L k : Nat} (hL : L ≤ 50) (hk : k ≤ 50) : (if nI 0 < nI L - nI k + nI 1 then nI L - nI k + nI 1 else nI 0) = nI (L + 1 - k) := by
  rcases Nat.lt_or_ge L k with h | h
  · have e : nI L - nI k + nI 1 = nI (L + 1) - nI k := by rw [← nI_add]; grind
    rw [e]
    rcases Nat.lt_or_ge (L + 1) k with g | g
    · rw [if_neg (show ¬ nI 0 < nI (L + 1) - nI k from fun z => Int32.lt_irrefl (Int32.lt_trans (pk_sneg (by omega) g) z)), show L + 1 - k = 0 by omega]
    · rw [pk_sub g, show L + 1 - k = 0 by omega, if_neg (show ¬ nI 0 < nI 0 from fun z => Int32.lt_irrefl z)]
  · rw [pk_sub h, nI_add, show L - k + 1 = L + 1 - k by omega]
    exact mx_r (Nat.zero_le _) (by omega)
set_option maxRecDepth 20000 in
set_option maxHeartbeats 4000000 in
theorem c_letterCount (l : Launch) (G : Gl) (σ : Mm) (w : Nat) (hw : w < 5) : AMi l G 1 mX3_letterCount [.ref 23, .int (nI w)] σ (fun r σ' => σ' = σ ∧ r = σ 24 w) := by
  refine rw_inI 3 (by decide +kernel) rfl rfl ?_
  intro E hE hX
  subst hE
  refine rw_go hX [(0, .iload_n 1)] (by decide +kernel) (Ps := []) (pc' := 1) (lv' := [(0, .ref 23), (1, .int (nI w))]) (st' := [.int (nI w)]) (σ' := σ) rfl True.intro ?_
  refine rw_callSi hX (as := [.int (nI w)]) (rest := []) (c_isWork _ _ _ w hw) (by decide +kernel) msX9_isWork (Or.inr lk3_34) rfl (by decide) (Nat.le_of_ble_eq_true rfl) rfl ?_
  intro r1 σ1 hr
  rw [hr.1, hr.2]
  clear hr σ1 r1
  refine rw_if hX (tgt := 16) (cnd := .eq) (off := 12) (by decide +kernel) (by decide) (fun h4 => ?_) (fun h4 => ?_)
  · exact absurd h4 (by simp only [cz, cc2]; decide +kernel)
  · skip
    refine rw_go hX [(7, .aload_n 0), (8, .getfield 9), (11, .iload_n 1), (12, .iaload), (13, .goto 4)] (by decide +kernel) (Ps := [vp_in (nI w) 5]) (pc' := 17) (lv' := [(0, .ref 23), (1, .int (nI w))]) (st' := [.int (σ 24 (nI w).toNatClampNeg)]) (σ' := σ) rfl (vp_in_nI hw (by omega)) ?_
    exact rw_iret hX (by decide +kernel) (⟨rfl, by rw [nI_clamp (by omega)]⟩)
set_option maxRecDepth 20000 in
set_option maxHeartbeats 4000000 in
theorem c_gramCount (l : Launch) (G : Gl) (σ : Mm) (w : Nat) (hw : w < 5) : AMi l G 1 mX3_gramCount [.ref 23, .int (nI w)] σ (fun r σ' => σ' = σ ∧ r = σ 25 w) := by
  refine rw_inI 3 (by decide +kernel) rfl rfl ?_
  intro E hE hX
  subst hE
  refine rw_go hX [(0, .iload_n 1)] (by decide +kernel) (Ps := []) (pc' := 1) (lv' := [(0, .ref 23), (1, .int (nI w))]) (st' := [.int (nI w)]) (σ' := σ) rfl True.intro ?_
  refine rw_callSi hX (as := [.int (nI w)]) (rest := []) (c_isWork _ _ _ w hw) (by decide +kernel) msX9_isWork (Or.inr lk3_34) rfl (by decide) (Nat.le_of_ble_eq_true rfl) rfl ?_
  intro r1 σ1 hr
  rw [hr.1, hr.2]
  clear hr σ1 r1
  refine rw_if hX (tgt := 16) (cnd := .eq) (off := 12) (by decide +kernel) (by decide) (fun h4 => ?_) (fun h4 => ?_)
  · exact absurd h4 (by simp only [cz, cc2]; decide +kernel)
  · skip
    refine rw_go hX [(7, .aload_n 0), (8, .getfield 15), (11, .iload_n 1), (12, .iaload), (13, .goto 4)] (by decide +kernel) (Ps := [vp_in (nI w) 5]) (pc' := 17) (lv' := [(0, .ref 23), (1, .int (nI w))]) (st' := [.int (σ 25 (nI w).toNatClampNeg)]) (σ' := σ) rfl (vp_in_nI hw (by omega)) ?_
    exact rw_iret hX (by decide +kernel) (⟨rfl, by rw [nI_clamp (by omega)]⟩)
set_option maxRecDepth 20000 in
set_option maxHeartbeats 4000000 in
theorem c_tellAt (l : Launch) (G : Gl) (σ : Mm) (w i : Nat) (hw : w < 5) (hi : i < 50) : AMi l G 1 mX3_tellAt [.ref 23, .int (nI w), .int (nI i)] σ (fun r σ' => σ' = σ ∧ r = σ 26 (50 * w + i)) := by
  refine rw_inI 3 (by decide +kernel) rfl rfl ?_
  intro E hE hX
  subst hE
  refine rw_go hX [(0, .aload_n 0), (1, .getfield 18), (4, .iload_n 1), (5, .iload_n 2)] (by decide +kernel) (Ps := []) (pc' := 6) (lv' := [(0, .ref 23), (1, .int (nI w)), (2, .int (nI i))]) (st' := [.int (nI i), .int (nI w), .ref 26]) (σ' := σ) rfl True.intro ?_
  refine rw_callSi hX (as := [.int (nI w), .int (nI i)]) (rest := [.ref 26]) (c_cellOf _ _ _ w i hw hi) (by decide +kernel) msX9_cellOf (Or.inr lk3_62) rfl (by decide) (Nat.le_of_ble_eq_true rfl) rfl ?_
  intro r1 σ1 hr
  rw [hr.1, hr.2]
  clear hr σ1 r1
  refine rw_callSi hX (as := [.ref 26, .int (nI (50 * w + i))]) (rest := []) (c_pick _ _ _ 26 250 (50 * w + i) (by decide +kernel) (by omega) (by omega)) (by decide +kernel) msX9_pick (Or.inr lk3_93) rfl (by decide) (Nat.le_of_ble_eq_true rfl) rfl ?_
  intro r1 σ1 hr
  rw [hr.1, hr.2]
  clear hr σ1 r1
  exact rw_iret hX (by decide +kernel) (⟨rfl, rfl⟩)
set_option maxRecDepth 20000 in
set_option maxHeartbeats 4000000 in
theorem c_placeAt (l : Launch) (G : Gl) (σ : Mm) (w i : Nat) (hw : w < 5) (hi : i < 50) : AMi l G 1 mX3_placeAt [.ref 23, .int (nI w), .int (nI i)] σ (fun r σ' => σ' = σ ∧ r = σ 27 (50 * w + i)) := by
  refine rw_inI 3 (by decide +kernel) rfl rfl ?_
  intro E hE hX
  subst hE
  refine rw_go hX [(0, .aload_n 0), (1, .getfield 21), (4, .iload_n 1), (5, .iload_n 2)] (by decide +kernel) (Ps := []) (pc' := 6) (lv' := [(0, .ref 23), (1, .int (nI w)), (2, .int (nI i))]) (st' := [.int (nI i), .int (nI w), .ref 27]) (σ' := σ) rfl True.intro ?_
  refine rw_callSi hX (as := [.int (nI w), .int (nI i)]) (rest := [.ref 27]) (c_cellOf _ _ _ w i hw hi) (by decide +kernel) msX9_cellOf (Or.inr lk3_62) rfl (by decide) (Nat.le_of_ble_eq_true rfl) rfl ?_
  intro r1 σ1 hr
  rw [hr.1, hr.2]
  clear hr σ1 r1
  refine rw_callSi hX (as := [.ref 27, .int (nI (50 * w + i))]) (rest := []) (c_pick _ _ _ 27 250 (50 * w + i) (by decide +kernel) (by omega) (by omega)) (by decide +kernel) msX9_pick (Or.inr lk3_93) rfl (by decide) (Nat.le_of_ble_eq_true rfl) rfl ?_
  intro r1 σ1 hr
  rw [hr.1, hr.2]
  clear hr σ1 r1
  exact rw_iret hX (by decide +kernel) (⟨rfl, rfl⟩)
set_option maxRecDepth 20000 in
set_option maxHeartbeats 4000000 in
theorem c_markAt (l : Launch) (G : Gl) (σ : Mm) (w i : Nat) (hw : w < 5) (hi : i < 50) : AMi l G 1 mX3_markAt [.ref 23, .int (nI w), .int (nI i)] σ (fun r σ' => σ' = σ ∧ r = σ 28 (50 * w + i)) := by
  refine rw_inI 3 (by decide +kernel) rfl rfl ?_
  intro E hE hX
  subst hE
  refine rw_go hX [(0, .aload_n 0), (1, .getfield 24), (4, .iload_n 1), (5, .iload_n 2)] (by decide +kernel) (Ps := []) (pc' := 6) (lv' := [(0, .ref 23), (1, .int (nI w)), (2, .int (nI i))]) (st' := [.int (nI i), .int (nI w), .ref 28]) (σ' := σ) rfl True.intro ?_
  refine rw_callSi hX (as := [.int (nI w), .int (nI i)]) (rest := [.ref 28]) (c_cellOf _ _ _ w i hw hi) (by decide +kernel) msX9_cellOf (Or.inr lk3_62) rfl (by decide) (Nat.le_of_ble_eq_true rfl) rfl ?_
  intro r1 σ1 hr
  rw [hr.1, hr.2]
  clear hr σ1 r1
  refine rw_callSi hX (as := [.ref 28, .int (nI (50 * w + i))]) (rest := []) (c_pick _ _ _ 28 250 (50 * w + i) (by decide +kernel) (by omega) (by omega)) (by decide +kernel) msX9_pick (Or.inr lk3_93) rfl (by decide) (Nat.le_of_ble_eq_true rfl) rfl ?_
  intro r1 σ1 hr
  rw [hr.1, hr.2]
  clear hr σ1 r1
  exact rw_iret hX (by decide +kernel) (⟨rfl, rfl⟩)
set_option maxRecDepth 20000 in
set_option maxHeartbeats 4000000 in
theorem c_formAt (l : Launch) (G : Gl) (σ : Mm) (w i : Nat) (hw : w < 5) (hi : i < 50) : AMi l G 1 mX3_formAt [.ref 23, .int (nI w), .int (nI i)] σ (fun r σ' => σ' = σ ∧ r = σ 29 (50 * w + i)) := by
  refine rw_inI 3 (by decide +kernel) rfl rfl ?_
  intro E hE hX
  subst hE
  refine rw_go hX [(0, .aload_n 0), (1, .getfield 27), (4, .iload_n 1), (5, .iload_n 2)] (by decide +kernel) (Ps := []) (pc' := 6) (lv' := [(0, .ref 23), (1, .int (nI w)), (2, .int (nI i))]) (st' := [.int (nI i), .int (nI w), .ref 29]) (σ' := σ) rfl True.intro ?_
  refine rw_callSi hX (as := [.int (nI w), .int (nI i)]) (rest := [.ref 29]) (c_cellOf _ _ _ w i hw hi) (by decide +kernel) msX9_cellOf (Or.inr lk3_62) rfl (by decide) (Nat.le_of_ble_eq_true rfl) rfl ?_
  intro r1 σ1 hr
  rw [hr.1, hr.2]
  clear hr σ1 r1
  refine rw_callSi hX (as := [.ref 29, .int (nI (50 * w + i))]) (rest := []) (c_pick _ _ _ 29 250 (50 * w + i) (by decide +kernel) (by omega) (by omega)) (by decide +kernel) msX9_pick (Or.inr lk3_93) rfl (by decide) (Nat.le_of_ble_eq_true rfl) rfl ?_
  intro r1 σ1 hr
  rw [hr.1, hr.2]
  clear hr σ1 r1
  exact rw_iret hX (by decide +kernel) (⟨rfl, rfl⟩)
set_option maxRecDepth 20000 in
set_option maxHeartbeats 4000000 in
theorem c_setForm (l : Launch) (G : Gl) (σ : Mm) (w i : Nat) (v : Int32) (hw : w < 5) (hi : i < 50) : AMv l G 1 mX3_setForm [.ref 23, .int (nI w), .int (nI i), .int v] σ (fun σ' => σ' = sw σ 29 (50 * w + i) v) := by
  refine rw_inV 3 (by decide +kernel) rfl rfl ?_
  intro E hE hX
  subst hE
  refine rw_go hX [(0, .aload_n 0), (1, .getfield 27), (4, .iload_n 1), (5, .iload_n 2)] (by decide +kernel) (Ps := []) (pc' := 6) (lv' := [(0, .ref 23), (1, .int (nI w)), (2, .int (nI i)), (3, .int v)]) (st' := [.int (nI i), .int (nI w), .ref 29]) (σ' := σ) rfl True.intro ?_
  refine rw_callSi hX (as := [.int (nI w), .int (nI i)]) (rest := [.ref 29]) (c_cellOf _ _ _ w i hw hi) (by decide +kernel) msX9_cellOf (Or.inr lk3_62) rfl (by decide) (Nat.le_of_ble_eq_true rfl) rfl ?_
  intro r1 σ1 hr
  rw [hr.1, hr.2]
  clear hr σ1 r1
  refine rw_go hX [(9, .iload_n 3)] (by decide +kernel) (Ps := []) (pc' := 10) (lv' := [(0, .ref 23), (1, .int (nI w)), (2, .int (nI i)), (3, .int v)]) (st' := [.int v, .int (nI (50 * w + i)), .ref 29]) (σ' := σ) rfl True.intro ?_
  refine rw_callSv hX (as := [.ref 29, .int (nI (50 * w + i)), .int v]) (rest := []) (c_place _ _ _ 29 250 (50 * w + i) v (by decide +kernel) (by omega) (by omega)) (by decide +kernel) msX9_place (Or.inr lk3_69) rfl (by decide) (Nat.le_of_ble_eq_true rfl) rfl ?_
  intro σ1 hr
  rw [hr]
  clear hr σ1
  exact rw_vret hX (by decide +kernel) (rfl)
set_option maxRecDepth 20000 in
set_option maxHeartbeats 4000000 in
theorem c_setPrint (l : Launch) (G : Gl) (σ : Mm) (w i : Nat) (v : Int32) (hw : w < 5) (hi : i < 50) (hz : v = 0 ∨ v = 1) : AMv l G 1 mX3_setPrint [.ref 23, .int (nI w), .int (nI i), .int v] σ (fun σ' => σ' = sw σ 30 (50 * w + i) v) := by
  refine rw_inV 3 (by decide +kernel) rfl rfl ?_
  intro E hE hX
  subst hE
  refine rw_go hX [(0, .iload_n 1), (1, .iload_n 2)] (by decide +kernel) (Ps := []) (pc' := 2) (lv' := [(0, .ref 23), (1, .int (nI w)), (2, .int (nI i)), (3, .int v)]) (st' := [.int (nI i), .int (nI w)]) (σ' := σ) rfl True.intro ?_
  refine rw_callSi hX (as := [.int (nI w), .int (nI i)]) (rest := []) (c_cellOf _ _ _ w i hw hi) (by decide +kernel) msX9_cellOf (Or.inr lk3_62) rfl (by decide) (Nat.le_of_ble_eq_true rfl) rfl ?_
  intro r1 σ1 hr
  rw [hr.1, hr.2]
  clear hr σ1 r1
  refine rw_go hX [(5, .istore 4), (7, .iload 4)] (by decide +kernel) (Ps := []) (pc' := 9) (lv' := [(0, .ref 23), (1, .int (nI w)), (2, .int (nI i)), (3, .int v), (4, .int (nI (50 * w + i)))]) (st' := [.int (nI (50 * w + i))]) (σ' := σ) rfl True.intro ?_
  refine rw_if hX (tgt := 30) (cnd := .lt) (off := 21) (by decide +kernel) (by decide) (fun h9 => ?_) (fun h9 => ?_)
  · exact zn_ltT h9
  · clear h9
    refine rw_go hX [(12, .iload 4), (14, .aload_n 0), (15, .getfield 30), (18, .arraylength)] (by decide +kernel) (Ps := []) (pc' := 19) (lv' := [(0, .ref 23), (1, .int (nI w)), (2, .int (nI i)), (3, .int v), (4, .int (nI (50 * w + i)))]) (st' := [.int (nI 250), .int (nI (50 * w + i))]) (σ' := σ) rfl True.intro ?_
    refine rw_icmp hX (tgt := 30) (cnd := .ge) (off := 11) (by decide +kernel) (by decide) (fun h19 => ?_) (fun h19 => ?_)
    · replace h19 := c2_geT h19
      omega
    · replace h19 := c2_geF h19
      refine rw_go hX [(22, .aload_n 0), (23, .getfield 30), (26, .iload 4), (28, .iload_n 3), (29, .bastore)] (by decide +kernel) (Ps := [vp_in (nI (50 * w + i)) 250, v = 0 ∨ v = 1]) (pc' := 30) (lv' := [(0, .ref 23), (1, .int (nI w)), (2, .int (nI i)), (3, .int v), (4, .int (nI (50 * w + i)))]) (st' := []) (σ' := sw σ 30 (nI (50 * w + i)).toNatClampNeg v) rfl (⟨vp_in_nI (by omega) (by omega), hz⟩) ?_
      exact rw_vret hX (by decide +kernel) (by rw [nI_clamp (by omega)])
set_option maxRecDepth 20000 in
set_option maxHeartbeats 4000000 in
theorem c_isPrint (l : Launch) (G : Gl) (σ : Mm) (w i n : Nat) (hw : w < 5) (hi : i < 50) (hg : σ 25 w = nI n) (hn : n ≤ 50) : AMi l G 2 mX3_isPrint [.ref 23, .int (nI w), .int (nI i)] σ (fun r σ' => σ' = σ ∧ r = bz (decide (i < n) && decide (σ 30 (50 * w + i) ≠ 0))) := by
  refine rw_inI 3 (by decide +kernel) rfl rfl ?_
  intro E hE hX
  subst hE
  refine rw_go hX [(0, .iload_n 2), (1, .aload_n 0), (2, .iload_n 1)] (by decide +kernel) (Ps := []) (pc' := 3) (lv' := [(0, .ref 23), (1, .int (nI w)), (2, .int (nI i))]) (st' := [.int (nI w), .ref 23, .int (nI i)]) (σ' := σ) rfl True.intro ?_
  refine rw_callVi hX (as := [.int (nI w)]) (rest := [.int (nI i)]) (c_gramCount _ _ _ w hw) (by decide +kernel) mvX3_gramCount lk3_79 (ci := 2) rfl rfl rfl (by decide) (Nat.le_of_ble_eq_true rfl) rfl ?_
  intro r1 σ1 hr
  rw [hr.1, hr.2, hg]
  clear hr σ1 r1
  refine rw_icmp hX (tgt := 17) (cnd := .ge) (off := 11) (by decide +kernel) (by decide) (fun h6 => ?_) (fun h6 => ?_)
  · replace h6 := c2_geT h6
    refine rw_go hX [(17, .iconst (-1)), (18, .istore_n 3), (19, .iload_n 3)] (by decide +kernel) (Ps := []) (pc' := 20) (lv' := [(0, .ref 23), (1, .int (nI w)), (2, .int (nI i)), (3, .int (-(nI 1)))]) (st' := [.int (-(nI 1))]) (σ' := σ) rfl True.intro ?_
    refine rw_if hX (tgt := 45) (cnd := .lt) (off := 25) (by decide +kernel) (by decide) (fun h20 => ?_) (fun h20 => ?_)
    · skip
      refine rw_go hX [(45, .iconst 0)] (by decide +kernel) (Ps := []) (pc' := 46) (lv' := [(0, .ref 23), (1, .int (nI w)), (2, .int (nI i)), (3, .int (-(nI 1)))]) (st' := [.int (nI 0)]) (σ' := σ) rfl True.intro ?_
      exact rw_zret hX (by decide +kernel) (Or.inl rfl) (⟨rfl, by clear hX; first | (rw [decide_eq_false (show ¬ i < n by omega)]; rfl) | (rw [decide_eq_true (show i < n by omega), decide_eq_true (show σ 30 (50 * w + i) ≠ 0 from h38)]; rfl) | (rw [decide_eq_true (show i < n by omega), decide_eq_false (fun z => z h38)]; rfl)⟩)
    · exact absurd (by simp only [cz, cc2]; decide +kernel) h20
  · replace h6 := c2_geF h6
    refine rw_go hX [(9, .iload_n 1), (10, .iload_n 2)] (by decide +kernel) (Ps := []) (pc' := 11) (lv' := [(0, .ref 23), (1, .int (nI w)), (2, .int (nI i))]) (st' := [.int (nI i), .int (nI w)]) (σ' := σ) rfl True.intro ?_
    refine rw_callSi hX (as := [.int (nI w), .int (nI i)]) (rest := []) (c_cellOf _ _ _ w i hw hi) (by decide +kernel) msX9_cellOf (Or.inr lk3_62) rfl (by decide) (Nat.le_of_ble_eq_true rfl) rfl ?_
    intro r1 σ1 hr
    rw [hr.1, hr.2]
    clear hr σ1 r1
    refine rw_go hX [(14, .goto 4), (18, .istore_n 3), (19, .iload_n 3)] (by decide +kernel) (Ps := []) (pc' := 20) (lv' := [(0, .ref 23), (1, .int (nI w)), (2, .int (nI i)), (3, .int (nI (50 * w + i)))]) (st' := [.int (nI (50 * w + i))]) (σ' := σ) rfl True.intro ?_
    refine rw_if hX (tgt := 45) (cnd := .lt) (off := 25) (by decide +kernel) (by decide) (fun h20 => ?_) (fun h20 => ?_)
    · exact zn_ltT h20
    · clear h20
      skip
      refine rw_go hX [(23, .iload_n 3), (24, .aload_n 0), (25, .getfield 30), (28, .arraylength)] (by decide +kernel) (Ps := []) (pc' := 29) (lv' := [(0, .ref 23), (1, .int (nI w)), (2, .int (nI i)), (3, .int (nI (50 * w + i)))]) (st' := [.int (nI 250), .int (nI (50 * w + i))]) (σ' := σ) rfl True.intro ?_
      refine rw_icmp hX (tgt := 45) (cnd := .ge) (off := 16) (by decide +kernel) (by decide) (fun h29 => ?_) (fun h29 => ?_)
      · replace h29 := c2_geT h29
        skip
        refine rw_go hX [(45, .iconst 0)] (by decide +kernel) (Ps := []) (pc' := 46) (lv' := [(0, .ref 23), (1, .int (nI w)), (2, .int (nI i)), (3, .int (nI (50 * w + i)))]) (st' := [.int (nI 0)]) (σ' := σ) rfl True.intro ?_
        exact rw_zret hX (by decide +kernel) (Or.inl rfl) (⟨rfl, by clear hX; first | (rw [decide_eq_false (show ¬ i < n by omega)]; rfl) | (rw [decide_eq_true (show i < n by omega), decide_eq_true (show σ 30 (50 * w + i) ≠ 0 from h38)]; rfl) | (rw [decide_eq_true (show i < n by omega), decide_eq_false (fun z => z h38)]; rfl)⟩)
      · replace h29 := c2_geF h29
        refine rw_go hX [(32, .aload_n 0), (33, .getfield 30), (36, .iload_n 3), (37, .baload)] (by decide +kernel) (Ps := [vp_in (nI (50 * w + i)) 250]) (pc' := 38) (lv' := [(0, .ref 23), (1, .int (nI w)), (2, .int (nI i)), (3, .int (nI (50 * w + i)))]) (st' := [.int (σ 30 (nI (50 * w + i)).toNatClampNeg)]) (σ' := σ) rfl (vp_in_nI (by omega) (by omega)) ?_
        rw [show (σ 30 (nI (50 * w + i)).toNatClampNeg) = σ 30 (50 * w + i) from (by rw [nI_clamp (by omega)])]
        refine rw_if hX (tgt := 45) (cnd := .eq) (off := 7) (by decide +kernel) (by decide) (fun h38 => ?_) (fun h38 => ?_)
        · replace h38 : (σ 30 (50 * w + i) = 0) := h38
          refine rw_go hX [(45, .iconst 0)] (by decide +kernel) (Ps := []) (pc' := 46) (lv' := [(0, .ref 23), (1, .int (nI w)), (2, .int (nI i)), (3, .int (nI (50 * w + i)))]) (st' := [.int (nI 0)]) (σ' := σ) rfl True.intro ?_
          exact rw_zret hX (by decide +kernel) (Or.inl rfl) (⟨rfl, by clear hX; first | (rw [decide_eq_false (show ¬ i < n by omega)]; rfl) | (rw [decide_eq_true (show i < n by omega), decide_eq_true (show σ 30 (50 * w + i) ≠ 0 from h38)]; rfl) | (rw [decide_eq_true (show i < n by omega), decide_eq_false (fun z => z h38)]; rfl)⟩)
        · replace h38 : ¬ (σ 30 (50 * w + i) = 0) := h38
          refine rw_go hX [(41, .iconst 1), (42, .goto 4)] (by decide +kernel) (Ps := []) (pc' := 46) (lv' := [(0, .ref 23), (1, .int (nI w)), (2, .int (nI i)), (3, .int (nI (50 * w + i)))]) (st' := [.int (nI 1)]) (σ' := σ) rfl True.intro ?_
          exact rw_zret hX (by decide +kernel) (Or.inr rfl) (⟨rfl, by clear hX; first | (rw [decide_eq_false (show ¬ i < n by omega)]; rfl) | (rw [decide_eq_true (show i < n by omega), decide_eq_true (show σ 30 (50 * w + i) ≠ 0 from h38)]; rfl) | (rw [decide_eq_true (show i < n by omega), decide_eq_false (fun z => z h38)]; rfl)⟩)
set_option maxRecDepth 20000 in
set_option maxHeartbeats 4000000 in
theorem c_printCount (l : Launch) (G : Gl) (σ : Mm) (w n : Nat) (hw : w < 5) (hg : σ 25 w = nI n) (hn : n ≤ 50) : AMi l G 3 mX3_printCount [.ref 23, .int (nI w)] σ (fun r σ' => σ' = σ ∧ r = nI (pC (σ 30) w n)) := by
  refine rw_inI 3 (by decide +kernel) rfl rfl ?_
  intro E hE hX
  subst hE
  refine rw_go hX [(0, .iconst 0), (1, .istore_n 2), (2, .iconst 0), (3, .istore_n 3)] (by decide +kernel) (Ps := []) (pc' := 4) (lv' := [(0, .ref 23), (1, .int (nI w)), (2, .int (nI 0)), (3, .int (nI 0))]) (st' := []) (σ' := σ) rfl True.intro ?_
  have L4 : ∀ (μ : Nat) (i : Nat), μ = n - i → (i ≤ n) → RW E G 3 4 (QI E G (fun r σ' => σ' = σ ∧ r = nI (pC (σ 30) w n))) 4 [(0, .ref 23), (1, .int (nI w)), (2, .int (nI (pC (σ 30) w i))), (3, .int (nI i))] [] σ := by
    intro μ
    induction μ using Nat.strongRecOn with
    | ind μ ih =>
      intro i hμ hi
      refine rw_go hX [(4, .iload_n 3), (5, .aload_n 0), (6, .iload_n 1)] (by decide +kernel) (Ps := []) (pc' := 7) (lv' := [(0, .ref 23), (1, .int (nI w)), (2, .int (nI (pC (σ 30) w i))), (3, .int (nI i))]) (st' := [.int (nI w), .ref 23, .int (nI i)]) (σ' := σ) rfl True.intro ?_
      refine rw_callVi hX (as := [.int (nI w)]) (rest := [.int (nI i)]) (c_gramCount _ _ _ w hw) (by decide +kernel) mvX3_gramCount lk3_79 (ci := 2) rfl rfl rfl (by decide) (Nat.le_of_ble_eq_true rfl) rfl ?_
      intro r1 σ1 hr
      rw [hr.1, hr.2, hg]
      clear hr σ1 r1
      refine rw_icmp hX (tgt := 31) (cnd := .ge) (off := 21) (by decide +kernel) (by decide) (fun h10 => ?_) (fun h10 => ?_)
      · replace h10 := c2_geT h10
        have e : i = n := by omega
        refine rw_go hX [(31, .iload_n 2)] (by decide +kernel) (Ps := []) (pc' := 32) (lv' := [(0, .ref 23), (1, .int (nI w)), (2, .int (nI (pC (σ 30) w i))), (3, .int (nI i))]) (st' := [.int (nI (pC (σ 30) w i))]) (σ' := σ) rfl True.intro ?_
        exact rw_iret hX (by decide +kernel) (⟨rfl, by rw [e]⟩)
      · replace h10 := c2_geF h10
        refine rw_go hX [(13, .iload_n 2), (14, .aload_n 0), (15, .iload_n 1), (16, .iload_n 3)] (by decide +kernel) (Ps := []) (pc' := 17) (lv' := [(0, .ref 23), (1, .int (nI w)), (2, .int (nI (pC (σ 30) w i))), (3, .int (nI i))]) (st' := [.int (nI i), .int (nI w), .ref 23, .int (nI (pC (σ 30) w i))]) (σ' := σ) rfl True.intro ?_
        refine rw_callVi hX (as := [.int (nI w), .int (nI i)]) (rest := [.int (nI (pC (σ 30) w i))]) (c_isPrint _ _ _ w i n hw (by omega) hg hn) (by decide +kernel) mvX3_isPrint lk3_97 (ci := 2) rfl rfl rfl (by decide) (Nat.le_of_ble_eq_true rfl) rfl ?_
        intro r1 σ1 hr
        rw [hr.1, hr.2]
        clear hr σ1 r1
        refine rw_callSi hX (as := [.int (bz (decide (i < n) && decide (σ 30 (50 * w + i) ≠ 0)))]) (rest := [.int (nI (pC (σ 30) w i))]) (c_X9_asNumber _ _ _ (decide (i < n) && decide (σ 30 (50 * w + i) ≠ 0))) (by decide +kernel) msX9_asNumber (Or.inr lk3_101) rfl (by decide) (Nat.le_of_ble_eq_true rfl) rfl ?_
        intro r1 σ1 hr
        rw [hr.1, hr.2]
        clear hr σ1 r1
        refine rw_go hX [(23, .iadd), (24, .istore_n 2), (25, .iinc 3 1), (28, .goto (-24))] (by decide +kernel) (Ps := []) (pc' := 4) (lv' := [(0, .ref 23), (1, .int (nI w)), (2, .int (nI (pC (σ 30) w i) + bz (decide (i < n) && decide (σ 30 (50 * w + i) ≠ 0)))), (3, .int (nI i + nI 1))]) (st' := []) (σ' := σ) rfl True.intro ?_
        refine rw_lsub (ks := [0, 1, 2, 3]) (lv' := [(0, .ref 23), (1, .int (nI w)), (2, .int (nI (pC (σ 30) w i) + bz (decide (i < n) && decide (σ 30 (50 * w + i) ≠ 0)))), (3, .int (nI i + nI 1))]) rfl ?_
        have q := ih (n - (i + 1)) (by omega) (i + 1) rfl (by omega)
        rw [nI_add i 1]
        have e2 : nI (pC (σ 30) w i) + bz (decide (i < n) && decide (σ 30 (50 * w + i) ≠ 0)) = nI (pC (σ 30) w (i + 1)) := by
          rw [decide_eq_true (show i < n by omega), Bool.true_and]
          simp only [pC]
          by_cases g : σ 30 (50 * w + i) ≠ 0
          · rw [decide_eq_true g, if_pos g]; exact nI_add _ 1
          · rw [decide_eq_false g, if_neg g]; exact nI_add _ 0
        rw [e2]
        exact q
  refine rw_lsub (ks := [0, 1, 2, 3]) (lv' := [(0, .ref 23), (1, .int (nI w)), (2, .int (nI 0)), (3, .int (nI 0))]) rfl ?_
  exact L4 n 0 rfl (by omega)
set_option maxRecDepth 20000 in
set_option maxHeartbeats 4000000 in
theorem c_printAt (l : Launch) (G : Gl) (σ : Mm) (w n : Nat) (k : Int32) (hw : w < 5) (hg : σ 25 w = nI n) (hn : n ≤ 50) : AMi l G 3 mX3_printAt [.ref 23, .int (nI w), .int k] σ (fun r σ' => σ' = σ ∧ ((∃ g, g < n ∧ σ 30 (50 * w + g) ≠ 0 ∧ nI (pC (σ 30) w g) = k ∧ r = nI g) ∨ ((∀ g, g < n → σ 30 (50 * w + g) ≠ 0 → nI (pC (σ 30) w g) ≠ k) ∧ r = -(nI 1)))) := by
  refine rw_inI 3 (by decide +kernel) rfl rfl ?_
  intro E hE hX
  subst hE
  refine rw_go hX [(0, .iconst 0), (1, .istore_n 3), (2, .iconst 0), (3, .istore 4)] (by decide +kernel) (Ps := []) (pc' := 5) (lv' := [(0, .ref 23), (1, .int (nI w)), (2, .int k), (3, .int (nI 0)), (4, .int (nI 0))]) (st' := []) (σ' := σ) rfl True.intro ?_
  have L5 : ∀ (μ : Nat) (i : Nat), μ = n - i → (i ≤ n) → (∀ g, g < i → σ 30 (50 * w + g) ≠ 0 → nI (pC (σ 30) w g) ≠ k) → RW E G 3 5 (QI E G (fun r σ' => σ' = σ ∧ ((∃ g, g < n ∧ σ 30 (50 * w + g) ≠ 0 ∧ nI (pC (σ 30) w g) = k ∧ r = nI g) ∨ ((∀ g, g < n → σ 30 (50 * w + g) ≠ 0 → nI (pC (σ 30) w g) ≠ k) ∧ r = -(nI 1))))) 5 [(0, .ref 23), (1, .int (nI w)), (2, .int k), (3, .int (nI (pC (σ 30) w i))), (4, .int (nI i))] [] σ := by
    intro μ
    induction μ using Nat.strongRecOn with
    | ind μ ih =>
      intro i hμ hi hno
      refine rw_go hX [(5, .iload 4), (7, .aload_n 0), (8, .iload_n 1)] (by decide +kernel) (Ps := []) (pc' := 9) (lv' := [(0, .ref 23), (1, .int (nI w)), (2, .int k), (3, .int (nI (pC (σ 30) w i))), (4, .int (nI i))]) (st' := [.int (nI w), .ref 23, .int (nI i)]) (σ' := σ) rfl True.intro ?_
      refine rw_callVi hX (as := [.int (nI w)]) (rest := [.int (nI i)]) (c_gramCount _ _ _ w hw) (by decide +kernel) mvX3_gramCount lk3_79 (ci := 2) rfl rfl rfl (by decide) (Nat.le_of_ble_eq_true rfl) rfl ?_
      intro r1 σ1 hr
      rw [hr.1, hr.2, hg]
      clear hr σ1 r1
      refine rw_icmp hX (tgt := 42) (cnd := .ge) (off := 30) (by decide +kernel) (by decide) (fun h12 => ?_) (fun h12 => ?_)
      · replace h12 := c2_geT h12
        have e : i = n := by omega
        refine rw_go hX [(42, .iconst (-1))] (by decide +kernel) (Ps := []) (pc' := 43) (lv' := [(0, .ref 23), (1, .int (nI w)), (2, .int k), (3, .int (nI (pC (σ 30) w i))), (4, .int (nI i))]) (st' := [.int (-(nI 1))]) (σ' := σ) rfl True.intro ?_
        exact rw_iret hX (by decide +kernel) (⟨rfl, Or.inr ⟨fun g hg => hno g (by omega), rfl⟩⟩)
      · replace h12 := c2_geF h12
        refine rw_go hX [(15, .aload_n 0), (16, .iload_n 1), (17, .iload 4)] (by decide +kernel) (Ps := []) (pc' := 19) (lv' := [(0, .ref 23), (1, .int (nI w)), (2, .int k), (3, .int (nI (pC (σ 30) w i))), (4, .int (nI i))]) (st' := [.int (nI i), .int (nI w), .ref 23]) (σ' := σ) rfl True.intro ?_
        refine rw_callVi hX (as := [.int (nI w), .int (nI i)]) (rest := []) (c_isPrint _ _ _ w i n hw (by omega) hg hn) (by decide +kernel) mvX3_isPrint lk3_97 (ci := 2) rfl rfl rfl (by decide) (Nat.le_of_ble_eq_true rfl) rfl ?_
        intro r1 σ1 hr
        rw [hr.1, hr.2]
        clear hr σ1 r1
        refine rw_if hX (tgt := 36) (cnd := .eq) (off := 14) (by decide +kernel) (by decide) (fun h22 => ?_) (fun h22 => ?_)
        · replace h22 := zb_eqT h22
          rw [decide_eq_true (show i < n by omega), Bool.true_and] at h22
          replace h22 := of_decide_eq_false h22
          refine rw_go hX [(36, .iinc 4 1), (39, .goto (-34))] (by decide +kernel) (Ps := []) (pc' := 5) (lv' := [(0, .ref 23), (1, .int (nI w)), (2, .int k), (3, .int (nI (pC (σ 30) w i))), (4, .int (nI i + nI 1))]) (st' := []) (σ' := σ) rfl True.intro ?_
          refine rw_lsub (ks := [0, 1, 2, 3, 4]) (lv' := [(0, .ref 23), (1, .int (nI w)), (2, .int k), (3, .int (nI (pC (σ 30) w i))), (4, .int (nI i + nI 1))]) rfl ?_
          have q := ih (n - (i + 1)) (by omega) (i + 1) rfl (by omega) (lt_s hno (fun z => absurd z h22))
          rw [show pC (σ 30) w (i + 1) = pC (σ 30) w i from if_neg h22] at q
          rw [nI_add]
          exact q
        · replace h22 := zb_eqF h22
          rw [decide_eq_true (show i < n by omega), Bool.true_and] at h22
          replace h22 := of_decide_eq_true h22
          refine rw_go hX [(25, .iload_n 3), (26, .iload_n 2)] (by decide +kernel) (Ps := []) (pc' := 27) (lv' := [(0, .ref 23), (1, .int (nI w)), (2, .int k), (3, .int (nI (pC (σ 30) w i))), (4, .int (nI i))]) (st' := [.int k, .int (nI (pC (σ 30) w i))]) (σ' := σ) rfl True.intro ?_
          refine rw_icmp hX (tgt := 33) (cnd := .ne) (off := 6) (by decide +kernel) (by decide) (fun h27 => ?_) (fun h27 => ?_)
          · replace h27 : (nI (pC (σ 30) w i) ≠ k) := h27
            skip
            refine rw_go hX [(33, .iinc 3 1), (36, .iinc 4 1), (39, .goto (-34))] (by decide +kernel) (Ps := []) (pc' := 5) (lv' := [(0, .ref 23), (1, .int (nI w)), (2, .int k), (3, .int (nI (pC (σ 30) w i) + nI 1)), (4, .int (nI i + nI 1))]) (st' := []) (σ' := σ) rfl True.intro ?_
            refine rw_lsub (ks := [0, 1, 2, 3, 4]) (lv' := [(0, .ref 23), (1, .int (nI w)), (2, .int k), (3, .int (nI (pC (σ 30) w i) + nI 1)), (4, .int (nI i + nI 1))]) rfl ?_
            have q := ih (n - (i + 1)) (by omega) (i + 1) rfl (by omega) (lt_s hno (fun z => h27))
            rw [show pC (σ 30) w (i + 1) = pC (σ 30) w i + 1 from if_pos h22] at q
            rw [nI_add, nI_add]
            exact q
          · replace h27 : ¬ (nI (pC (σ 30) w i) ≠ k) := h27
            skip
            refine rw_go hX [(30, .iload 4)] (by decide +kernel) (Ps := []) (pc' := 32) (lv' := [(0, .ref 23), (1, .int (nI w)), (2, .int k), (3, .int (nI (pC (σ 30) w i))), (4, .int (nI i))]) (st' := [.int (nI i)]) (σ' := σ) rfl True.intro ?_
            exact rw_iret hX (by decide +kernel) (⟨rfl, Or.inl ⟨i, h12, h22, Classical.not_not.mp h27, rfl⟩⟩)
  refine rw_lsub (ks := [0, 1, 2, 3, 4]) (lv' := [(0, .ref 23), (1, .int (nI w)), (2, .int k), (3, .int (nI 0)), (4, .int (nI 0))]) rfl ?_
  exact L5 n 0 rfl (by omega) (fun g hg => absurd hg (Nat.not_lt_zero g))
set_option maxRecDepth 20000 in
set_option maxHeartbeats 4000000 in
theorem c_areLikeCells (l : Launch) (G : Gl) (σ : Mm) (a b k : Nat) (ha : a + k ≤ 250) (hb : b + k ≤ 250) : AMi l G 1 mX3_areLikeCells [.ref 23, .int (nI a), .int (nI b), .int (nI k)] σ (fun r σ' => σ' = σ ∧ r = bz (lkC (σ 26) a b k)) := by
  refine rw_inI 3 (by decide +kernel) rfl rfl ?_
  intro E hE hX
  subst hE
  refine rw_go hX [(0, .iconst 0), (1, .istore 4)] (by decide +kernel) (Ps := []) (pc' := 3) (lv' := [(0, .ref 23), (1, .int (nI a)), (2, .int (nI b)), (3, .int (nI k)), (4, .int (nI 0))]) (st' := []) (σ' := σ) rfl True.intro ?_
  have L3 : ∀ (μ : Nat) (t : Nat), μ = k - t → (t ≤ k) → (lkC (σ 26) a b t = true) → RW E G 1 5 (QI E G (fun r σ' => σ' = σ ∧ r = bz (lkC (σ 26) a b k))) 3 [(0, .ref 23), (1, .int (nI a)), (2, .int (nI b)), (3, .int (nI k)), (4, .int (nI t))] [] σ := by
    intro μ
    induction μ using Nat.strongRecOn with
    | ind μ ih =>
      intro t hμ ht hs
      refine rw_go hX [(3, .iload 4), (5, .iload_n 3)] (by decide +kernel) (Ps := []) (pc' := 6) (lv' := [(0, .ref 23), (1, .int (nI a)), (2, .int (nI b)), (3, .int (nI k)), (4, .int (nI t))]) (st' := [.int (nI k), .int (nI t)]) (σ' := σ) rfl True.intro ?_
      refine rw_icmp hX (tgt := 42) (cnd := .ge) (off := 36) (by decide +kernel) (by decide) (fun h6 => ?_) (fun h6 => ?_)
      · replace h6 := c2_geT h6
        have e : t = k := by omega
        refine rw_go hX [(42, .iconst 1)] (by decide +kernel) (Ps := []) (pc' := 43) (lv' := [(0, .ref 23), (1, .int (nI a)), (2, .int (nI b)), (3, .int (nI k)), (4, .int (nI t))]) (st' := [.int (nI 1)]) (σ' := σ) rfl True.intro ?_
        exact rw_zret hX (by decide +kernel) (Or.inr rfl) (⟨rfl, by rw [← e, hs]; rfl⟩)
      · replace h6 := c2_geF h6
        refine rw_go hX [(9, .aload_n 0), (10, .getfield 18), (13, .iload_n 1), (14, .iload 4), (16, .iadd)] (by decide +kernel) (Ps := []) (pc' := 17) (lv' := [(0, .ref 23), (1, .int (nI a)), (2, .int (nI b)), (3, .int (nI k)), (4, .int (nI t))]) (st' := [.int (nI a + nI t), .ref 26]) (σ' := σ) rfl True.intro ?_
        rw [show (nI a + nI t) = nI (a + t) from nI_add a t]
        refine rw_callSi hX (as := [.ref 26, .int (nI (a + t))]) (rest := []) (c_pick _ _ _ 26 250 (a + t) (by decide +kernel) (by omega) (by omega)) (by decide +kernel) msX9_pick (Or.inr lk3_93) rfl (by decide) (Nat.le_of_ble_eq_true rfl) rfl ?_
        intro r1 σ1 hr
        rw [hr.1, hr.2]
        clear hr σ1 r1
        refine rw_go hX [(20, .aload_n 0), (21, .getfield 18), (24, .iload_n 2), (25, .iload 4), (27, .iadd)] (by decide +kernel) (Ps := []) (pc' := 28) (lv' := [(0, .ref 23), (1, .int (nI a)), (2, .int (nI b)), (3, .int (nI k)), (4, .int (nI t))]) (st' := [.int (nI b + nI t), .ref 26, .int (σ 26 (a + t))]) (σ' := σ) rfl True.intro ?_
        rw [show (nI b + nI t) = nI (b + t) from nI_add b t]
        refine rw_callSi hX (as := [.ref 26, .int (nI (b + t))]) (rest := [.int (σ 26 (a + t))]) (c_pick _ _ _ 26 250 (b + t) (by decide +kernel) (by omega) (by omega)) (by decide +kernel) msX9_pick (Or.inr lk3_93) rfl (by decide) (Nat.le_of_ble_eq_true rfl) rfl ?_
        intro r1 σ1 hr
        rw [hr.1, hr.2]
        clear hr σ1 r1
        refine rw_icmp hX (tgt := 36) (cnd := .eq) (off := 5) (by decide +kernel) (by decide) (fun h31 => ?_) (fun h31 => ?_)
        · replace h31 : (σ 26 (a + t) = σ 26 (b + t)) := h31
          refine rw_go hX [(36, .iinc 4 1), (39, .goto (-36))] (by decide +kernel) (Ps := []) (pc' := 3) (lv' := [(0, .ref 23), (1, .int (nI a)), (2, .int (nI b)), (3, .int (nI k)), (4, .int (nI t + nI 1))]) (st' := []) (σ' := σ) rfl True.intro ?_
          refine rw_lsub (ks := [0, 1, 2, 3, 4]) (lv' := [(0, .ref 23), (1, .int (nI a)), (2, .int (nI b)), (3, .int (nI k)), (4, .int (nI t + nI 1))]) rfl ?_
          rw [nI_add]
          exact ih (k - (t + 1)) (by omega) (t + 1) rfl (by omega) (by simp only [lkC, hs, Bool.true_and]; exact decide_eq_true h31)
        · replace h31 : ¬ (σ 26 (a + t) = σ 26 (b + t)) := h31
          refine rw_go hX [(34, .iconst 0)] (by decide +kernel) (Ps := []) (pc' := 35) (lv' := [(0, .ref 23), (1, .int (nI a)), (2, .int (nI b)), (3, .int (nI k)), (4, .int (nI t))]) (st' := [.int (nI 0)]) (σ' := σ) rfl True.intro ?_
          exact rw_zret hX (by decide +kernel) (Or.inl rfl) (⟨rfl, by
  have e : lkC (σ 26) a b k = false := by
    rw [Bool.eq_false_iff]
    intro z
    exact h31 ((lkC_iff _ _ _ _).mp z t h6)
  rw [e]; rfl⟩)
  refine rw_lsub (ks := [0, 1, 2, 3, 4]) (lv' := [(0, .ref 23), (1, .int (nI a)), (2, .int (nI b)), (3, .int (nI k)), (4, .int (nI 0))]) rfl ?_
  exact L3 k 0 rfl (by omega) rfl
set_option maxRecDepth 20000 in
set_option maxHeartbeats 4000000 in
theorem c_lastOfLeast (l : Launch) (G : Gl) (σ : Mm) (w fr wide : Nat) (hw : w < 5) (h1 : 1 ≤ wide) (h2 : fr + wide ≤ 50) : AMi l G 2 mX3_lastOfLeast [.ref 23, .int (nI w), .int (nI fr), .int (nI wide)] σ (fun r σ' => σ' = σ ∧ r = nI (llS (σ 28) (50 * w) fr (wide - 1))) := by
  refine rw_inI 3 (by decide +kernel) rfl rfl ?_
  intro E hE hX
  subst hE
  refine rw_go hX [(0, .iload_n 2), (1, .istore 4), (3, .iload_n 2), (4, .iconst 1), (5, .iadd), (6, .istore 5)] (by decide +kernel) (Ps := []) (pc' := 8) (lv' := [(0, .ref 23), (1, .int (nI w)), (2, .int (nI fr)), (3, .int (nI wide)), (4, .int (nI fr)), (5, .int (nI fr + nI 1))]) (st' := []) (σ' := σ) rfl True.intro ?_
  have L8 : ∀ (μ : Nat) (j : Nat), μ = wide - j → (j + 1 ≤ wide) → RW E G 2 6 (QI E G (fun r σ' => σ' = σ ∧ r = nI (llS (σ 28) (50 * w) fr (wide - 1)))) 8 [(0, .ref 23), (1, .int (nI w)), (2, .int (nI fr)), (3, .int (nI wide)), (4, .int (nI (llS (σ 28) (50 * w) fr j))), (5, .int (nI (fr + j + 1)))] [] σ := by
    intro μ
    induction μ using Nat.strongRecOn with
    | ind μ ih =>
      intro j hμ hj
      have hlj := llS_in (σ 28) (50 * w) fr j
      refine rw_go hX [(8, .iload 5), (10, .iload_n 2), (11, .iload_n 3), (12, .iadd)] (by decide +kernel) (Ps := []) (pc' := 13) (lv' := [(0, .ref 23), (1, .int (nI w)), (2, .int (nI fr)), (3, .int (nI wide)), (4, .int (nI (llS (σ 28) (50 * w) fr j))), (5, .int (nI (fr + j + 1)))]) (st' := [.int (nI fr + nI wide), .int (nI (fr + j + 1))]) (σ' := σ) rfl True.intro ?_
      rw [show (nI fr + nI wide) = nI (fr + wide) from nI_add fr wide]
      refine rw_icmp hX (tgt := 43) (cnd := .ge) (off := 30) (by decide +kernel) (by decide) (fun h13 => ?_) (fun h13 => ?_)
      · replace h13 := c2_geT h13
        have e : j = wide - 1 := by omega
        refine rw_go hX [(43, .iload 4)] (by decide +kernel) (Ps := []) (pc' := 45) (lv' := [(0, .ref 23), (1, .int (nI w)), (2, .int (nI fr)), (3, .int (nI wide)), (4, .int (nI (llS (σ 28) (50 * w) fr j))), (5, .int (nI (fr + j + 1)))]) (st' := [.int (nI (llS (σ 28) (50 * w) fr j))]) (σ' := σ) rfl True.intro ?_
        exact rw_iret hX (by decide +kernel) (⟨rfl, by rw [e]⟩)
      · replace h13 := c2_geF h13
        refine rw_go hX [(16, .aload_n 0), (17, .iload_n 1), (18, .iload 5)] (by decide +kernel) (Ps := []) (pc' := 20) (lv' := [(0, .ref 23), (1, .int (nI w)), (2, .int (nI fr)), (3, .int (nI wide)), (4, .int (nI (llS (σ 28) (50 * w) fr j))), (5, .int (nI (fr + j + 1)))]) (st' := [.int (nI (fr + j + 1)), .int (nI w), .ref 23]) (σ' := σ) rfl True.intro ?_
        refine rw_callVi hX (as := [.int (nI w), .int (nI (fr + j + 1))]) (rest := []) (c_markAt _ _ _ w (fr + j + 1) hw (by omega)) (by decide +kernel) mvX3_markAt lk3_90 (ci := 2) rfl rfl rfl (by decide) (Nat.le_of_ble_eq_true rfl) rfl ?_
        intro r1 σ1 hr
        rw [hr.1, hr.2]
        clear hr σ1 r1
        refine rw_go hX [(23, .aload_n 0), (24, .iload_n 1), (25, .iload 4)] (by decide +kernel) (Ps := []) (pc' := 27) (lv' := [(0, .ref 23), (1, .int (nI w)), (2, .int (nI fr)), (3, .int (nI wide)), (4, .int (nI (llS (σ 28) (50 * w) fr j))), (5, .int (nI (fr + j + 1)))]) (st' := [.int (nI (llS (σ 28) (50 * w) fr j)), .int (nI w), .ref 23, .int (σ 28 (50 * w + (fr + j + 1)))]) (σ' := σ) rfl True.intro ?_
        refine rw_callVi hX (as := [.int (nI w), .int (nI (llS (σ 28) (50 * w) fr j))]) (rest := [.int (σ 28 (50 * w + (fr + j + 1)))]) (c_markAt _ _ _ w (llS (σ 28) (50 * w) fr j) hw (by omega)) (by decide +kernel) mvX3_markAt lk3_90 (ci := 2) rfl rfl rfl (by decide) (Nat.le_of_ble_eq_true rfl) rfl ?_
        intro r1 σ1 hr
        rw [hr.1, hr.2]
        clear hr σ1 r1
        refine rw_icmp hX (tgt := 37) (cnd := .gt) (off := 7) (by decide +kernel) (by decide) (fun h30 => ?_) (fun h30 => ?_)
        · replace h30 : (σ 28 (50 * w + (fr + j + 1)) > σ 28 (50 * w + llS (σ 28) (50 * w) fr j)) := h30
          refine rw_go hX [(37, .iinc 5 1), (40, .goto (-32))] (by decide +kernel) (Ps := []) (pc' := 8) (lv' := [(0, .ref 23), (1, .int (nI w)), (2, .int (nI fr)), (3, .int (nI wide)), (4, .int (nI (llS (σ 28) (50 * w) fr j))), (5, .int (nI (fr + j + 1) + nI 1))]) (st' := []) (σ' := σ) rfl True.intro ?_
          refine rw_lsub (ks := [0, 1, 2, 3, 4, 5]) (lv' := [(0, .ref 23), (1, .int (nI w)), (2, .int (nI fr)), (3, .int (nI wide)), (4, .int (nI (llS (σ 28) (50 * w) fr j))), (5, .int (nI (fr + j + 1) + nI 1))]) rfl ?_
          have q := ih (wide - (j + 1)) (by omega) (j + 1) rfl (by omega)
          rw [show llS (σ 28) (50 * w) fr (j + 1) = llS (σ 28) (50 * w) fr j from if_neg (Int32.not_le.mpr h30)] at q
          rw [nI_add]
          exact q
        · replace h30 : ¬ (σ 28 (50 * w + (fr + j + 1)) > σ 28 (50 * w + llS (σ 28) (50 * w) fr j)) := h30
          refine rw_go hX [(33, .iload 5), (35, .istore 4), (37, .iinc 5 1), (40, .goto (-32))] (by decide +kernel) (Ps := []) (pc' := 8) (lv' := [(0, .ref 23), (1, .int (nI w)), (2, .int (nI fr)), (3, .int (nI wide)), (4, .int (nI (fr + j + 1))), (5, .int (nI (fr + j + 1) + nI 1))]) (st' := []) (σ' := σ) rfl True.intro ?_
          refine rw_lsub (ks := [0, 1, 2, 3, 4, 5]) (lv' := [(0, .ref 23), (1, .int (nI w)), (2, .int (nI fr)), (3, .int (nI wide)), (4, .int (nI (fr + j + 1))), (5, .int (nI (fr + j + 1) + nI 1))]) rfl ?_
          have q := ih (wide - (j + 1)) (by omega) (j + 1) rfl (by omega)
          rw [show llS (σ 28) (50 * w) fr (j + 1) = fr + j + 1 from if_pos (Int32.not_lt.mp h30)] at q
          rw [nI_add]
          exact q
  refine rw_lsub (ks := [0, 1, 2, 3, 4, 5]) (lv' := [(0, .ref 23), (1, .int (nI w)), (2, .int (nI fr)), (3, .int (nI wide)), (4, .int (nI fr)), (5, .int (nI fr + nI 1))]) rfl ?_
  rw [nI_add]
  exact L8 wide 0 rfl (by omega)
set_option maxRecDepth 20000 in
set_option maxHeartbeats 4000000 in
theorem c_readGrams (l : Launch) (G : Gl) (σ : Mm) (w k L : Nat) (hw : w < 5) (hL : σ 24 w = nI L) (hL5 : L ≤ 50) (hk : 1 ≤ k) (hk6 : k ≤ 6) : AMv l G 2 mX3_readGrams [.ref 23, .int (nI w), .int (nI k)] σ (fun σ' => σ' = rdG 26 24 28 25 w k L σ) := by
  refine rw_inV 3 (by decide +kernel) rfl rfl ?_
  intro E hE hX
  subst hE
  refine rw_go hX [(0, .iload_n 1)] (by decide +kernel) (Ps := []) (pc' := 1) (lv' := [(0, .ref 23), (1, .int (nI w)), (2, .int (nI k))]) (st' := [.int (nI w)]) (σ' := σ) rfl True.intro ?_
  refine rw_callSi hX (as := [.int (nI w)]) (rest := []) (c_isWork _ _ _ w hw) (by decide +kernel) msX9_isWork (Or.inr lk3_34) rfl (by decide) (Nat.le_of_ble_eq_true rfl) rfl ?_
  intro r1 σ1 hr
  rw [hr.1, hr.2]
  clear hr σ1 r1
  refine rw_if hX (tgt := 8) (cnd := .ne) (off := 4) (by decide +kernel) (by decide) (fun h4 => ?_) (fun h4 => ?_)
  · skip
    refine rw_go hX [(8, .iconst 0), (9, .aload_n 0), (10, .getfield 9), (13, .iload_n 1), (14, .iaload)] (by decide +kernel) (Ps := [vp_in (nI w) 5]) (pc' := 15) (lv' := [(0, .ref 23), (1, .int (nI w)), (2, .int (nI k))]) (st' := [.int (σ 24 (nI w).toNatClampNeg), .int (nI 0)]) (σ' := σ) rfl (vp_in_nI hw (by omega)) ?_
    rw [show (σ 24 (nI w).toNatClampNeg) = nI L from (by rw [nI_clamp (by omega), hL])]
    refine rw_go hX [(15, .iload_n 2), (16, .isub), (17, .iconst 1), (18, .iadd)] (by decide +kernel) (Ps := []) (pc' := 19) (lv' := [(0, .ref 23), (1, .int (nI w)), (2, .int (nI k))]) (st' := [.int ((nI L - nI k) + nI 1), .int (nI 0)]) (σ' := σ) rfl True.intro ?_
    refine rw_max hX (by decide +kernel) lk3_73 (Nat.le_of_ble_eq_true rfl) ?_
    rw [show (if nI 0 < ((nI L - nI k) + nI 1) then ((nI L - nI k) + nI 1) else nI 0) = nI (L + 1 - k) from gN_max hL5 (by omega)]
    refine rw_go hX [(22, .istore_n 3), (23, .iconst 0), (24, .istore 4)] (by decide +kernel) (Ps := []) (pc' := 26) (lv' := [(0, .ref 23), (1, .int (nI w)), (2, .int (nI k)), (3, .int (nI (L + 1 - k))), (4, .int (nI 0))]) (st' := []) (σ' := σ) rfl True.intro ?_
    have L26 : ∀ (μ : Nat) (g : Nat), μ = L + 1 - k - g → (g ≤ L + 1 - k) → RW E G 2 7 (QV E G (fun σ' => σ' = rdG 26 24 28 25 w k L σ)) 26 [(0, .ref 23), (1, .int (nI w)), (2, .int (nI k)), (3, .int (nI (L + 1 - k))), (4, .int (nI g))] [] (sr σ 28 (mR (σ 28) (σ 26) w k g)) := by
      intro μ
      induction μ using Nat.strongRecOn with
      | ind μ ih =>
        intro g hμ hg
        refine rw_go hX [(26, .iload 4), (28, .iload_n 3)] (by decide +kernel) (Ps := []) (pc' := 29) (lv' := [(0, .ref 23), (1, .int (nI w)), (2, .int (nI k)), (3, .int (nI (L + 1 - k))), (4, .int (nI g))]) (st' := [.int (nI (L + 1 - k)), .int (nI g)]) (σ' := sr σ 28 (mR (σ 28) (σ 26) w k g)) rfl True.intro ?_
        refine rw_icmp hX (tgt := 89) (cnd := .ge) (off := 60) (by decide +kernel) (by decide) (fun h29 => ?_) (fun h29 => ?_)
        · replace h29 := c2_geT h29
          have e : g = L + 1 - k := by omega
          refine rw_go hX [(89, .aload_n 0), (90, .getfield 15), (93, .iload_n 1), (94, .iload_n 3), (95, .iastore)] (by decide +kernel) (Ps := [vp_in (nI w) 5]) (pc' := 96) (lv' := [(0, .ref 23), (1, .int (nI w)), (2, .int (nI k)), (3, .int (nI (L + 1 - k))), (4, .int (nI g))]) (st' := []) (σ' := sw (sr σ 28 (mR (σ 28) (σ 26) w k g)) 25 (nI w).toNatClampNeg (nI (L + 1 - k))) rfl (vp_in_nI hw (by omega)) ?_
          exact rw_vret hX (by decide +kernel) (by rw [e, nI_clamp (by omega), sw_def, sr_n _ _ (by decide)]; rfl)
        · replace h29 := c2_geF h29
          refine rw_go hX [(32, .iconst 0), (33, .istore 5), (35, .iconst 0), (36, .istore 6)] (by decide +kernel) (Ps := []) (pc' := 38) (lv' := [(0, .ref 23), (1, .int (nI w)), (2, .int (nI k)), (3, .int (nI (L + 1 - k))), (4, .int (nI g)), (5, .int (nI 0)), (6, .int (nI 0))]) (st' := []) (σ' := sr σ 28 (mR (σ 28) (σ 26) w k g)) rfl True.intro ?_
          have L38 : ∀ (μ : Nat) (t : Nat), μ = k - t → (t ≤ k) → RW E G 2 7 (QV E G (fun σ' => σ' = rdG 26 24 28 25 w k L σ)) 38 [(0, .ref 23), (1, .int (nI w)), (2, .int (nI k)), (3, .int (nI (L + 1 - k))), (4, .int (nI g)), (5, .int (mkF (σ 26) (50 * w + g) t)), (6, .int (nI t))] [] (sr σ 28 (mR (σ 28) (σ 26) w k g)) := by
            intro μ
            induction μ using Nat.strongRecOn with
            | ind μ ih =>
              intro t hμ ht
              refine rw_go hX [(38, .iload 6), (40, .iload_n 2)] (by decide +kernel) (Ps := []) (pc' := 41) (lv' := [(0, .ref 23), (1, .int (nI w)), (2, .int (nI k)), (3, .int (nI (L + 1 - k))), (4, .int (nI g)), (5, .int (mkF (σ 26) (50 * w + g) t)), (6, .int (nI t))]) (st' := [.int (nI k), .int (nI t)]) (σ' := sr σ 28 (mR (σ 28) (σ 26) w k g)) rfl True.intro ?_
              refine rw_icmp hX (tgt := 68) (cnd := .ge) (off := 27) (by decide +kernel) (by decide) (fun h41 => ?_) (fun h41 => ?_)
              · replace h41 := c2_geT h41
                have e : t = k := by omega
                rw [show (mkF (σ 26) (50 * w + g) t) = mkF (σ 26) (50 * w + g) k from (by rw [e])]
                refine rw_go hX [(68, .aload_n 0), (69, .getfield 24), (72, .iload_n 1), (73, .iload 4)] (by decide +kernel) (Ps := []) (pc' := 75) (lv' := [(0, .ref 23), (1, .int (nI w)), (2, .int (nI k)), (3, .int (nI (L + 1 - k))), (4, .int (nI g)), (5, .int (mkF (σ 26) (50 * w + g) k)), (6, .int (nI t))]) (st' := [.int (nI g), .int (nI w), .ref 28]) (σ' := sr σ 28 (mR (σ 28) (σ 26) w k g)) rfl True.intro ?_
                refine rw_callSi hX (as := [.int (nI w), .int (nI g)]) (rest := [.ref 28]) (c_cellOf _ _ _ w g hw (by omega)) (by decide +kernel) msX9_cellOf (Or.inr lk3_62) rfl (by decide) (Nat.le_of_ble_eq_true rfl) rfl ?_
                intro r1 σ1 hr
                rw [hr.1, hr.2]
                clear hr σ1 r1
                refine rw_go hX [(78, .iload 5)] (by decide +kernel) (Ps := []) (pc' := 80) (lv' := [(0, .ref 23), (1, .int (nI w)), (2, .int (nI k)), (3, .int (nI (L + 1 - k))), (4, .int (nI g)), (5, .int (mkF (σ 26) (50 * w + g) k)), (6, .int (nI t))]) (st' := [.int (mkF (σ 26) (50 * w + g) k), .int (nI (50 * w + g)), .ref 28]) (σ' := sr σ 28 (mR (σ 28) (σ 26) w k g)) rfl True.intro ?_
                refine rw_callSv hX (as := [.ref 28, .int (nI (50 * w + g)), .int (mkF (σ 26) (50 * w + g) k)]) (rest := []) (c_place _ _ _ 28 250 (50 * w + g) _ (by decide +kernel) (by omega) (by omega)) (by decide +kernel) msX9_place (Or.inr lk3_69) rfl (by decide) (Nat.le_of_ble_eq_true rfl) rfl ?_
                intro σ1 hr
                rw [hr]
                clear hr σ1
                refine rw_go hX [(83, .iinc 4 1), (86, .goto (-60))] (by decide +kernel) (Ps := []) (pc' := 26) (lv' := [(0, .ref 23), (1, .int (nI w)), (2, .int (nI k)), (3, .int (nI (L + 1 - k))), (4, .int (nI g + nI 1)), (5, .int (mkF (σ 26) (50 * w + g) k)), (6, .int (nI t))]) (st' := []) (σ' := sw (sr σ 28 (mR (σ 28) (σ 26) w k g)) 28 (50 * w + g) (mkF (σ 26) (50 * w + g) k)) rfl True.intro ?_
                refine rw_lsub (ks := [0, 1, 2, 3, 4]) (lv' := [(0, .ref 23), (1, .int (nI w)), (2, .int (nI k)), (3, .int (nI (L + 1 - k))), (4, .int (nI g + nI 1))]) rfl ?_
                rw [nI_add, sw_sr]
                exact ih (L + 1 - k - (g + 1)) (by omega) (g + 1) rfl (by omega)
              · replace h41 := c2_geF h41
                refine rw_go hX [(44, .bipush 31), (46, .iload 5), (48, .imul), (49, .aload_n 0), (50, .iload_n 1), (51, .iload 4), (53, .iload 6), (55, .iadd)] (by decide +kernel) (Ps := []) (pc' := 56) (lv' := [(0, .ref 23), (1, .int (nI w)), (2, .int (nI k)), (3, .int (nI (L + 1 - k))), (4, .int (nI g)), (5, .int (mkF (σ 26) (50 * w + g) t)), (6, .int (nI t))]) (st' := [.int (nI g + nI t), .int (nI w), .ref 23, .int (nI 31 * mkF (σ 26) (50 * w + g) t)]) (σ' := sr σ 28 (mR (σ 28) (σ 26) w k g)) rfl True.intro ?_
                rw [show (nI g + nI t) = nI (g + t) from nI_add g t]
                refine rw_callVi hX (as := [.int (nI w), .int (nI (g + t))]) (rest := [.int (nI 31 * mkF (σ 26) (50 * w + g) t)]) (c_tellAt _ _ _ w (g + t) hw (by omega)) (by decide +kernel) mvX3_tellAt lk3_76 (ci := 2) rfl rfl rfl (by decide) (Nat.le_of_ble_eq_true rfl) rfl ?_
                intro r1 σ1 hr
                rw [hr.1, hr.2]
                clear hr σ1 r1
                refine rw_go hX [(59, .iadd), (60, .istore 5), (62, .iinc 6 1), (65, .goto (-27))] (by decide +kernel) (Ps := []) (pc' := 38) (lv' := [(0, .ref 23), (1, .int (nI w)), (2, .int (nI k)), (3, .int (nI (L + 1 - k))), (4, .int (nI g)), (5, .int ((nI 31 * mkF (σ 26) (50 * w + g) t) + (sr σ 28 (mR (σ 28) (σ 26) w k g)) 26 (50 * w + (g + t)))), (6, .int (nI t + nI 1))]) (st' := []) (σ' := sr σ 28 (mR (σ 28) (σ 26) w k g)) rfl True.intro ?_
                refine rw_lsub (ks := [0, 1, 2, 3, 4, 5, 6]) (lv' := [(0, .ref 23), (1, .int (nI w)), (2, .int (nI k)), (3, .int (nI (L + 1 - k))), (4, .int (nI g)), (5, .int ((nI 31 * mkF (σ 26) (50 * w + g) t) + (sr σ 28 (mR (σ 28) (σ 26) w k g)) 26 (50 * w + (g + t)))), (6, .int (nI t + nI 1))]) rfl ?_
                rw [nI_add, sr_n _ _ (by decide), ← Nat.add_assoc]
                exact ih (k - (t + 1)) (by omega) (t + 1) rfl (by omega)
          refine rw_lsub (ks := [0, 1, 2, 3, 4, 5, 6]) (lv' := [(0, .ref 23), (1, .int (nI w)), (2, .int (nI k)), (3, .int (nI (L + 1 - k))), (4, .int (nI g)), (5, .int (nI 0)), (6, .int (nI 0))]) rfl ?_
          exact L38 k 0 rfl (by omega)
    refine rw_lsub (ks := [0, 1, 2, 3, 4]) (lv' := [(0, .ref 23), (1, .int (nI w)), (2, .int (nI k)), (3, .int (nI (L + 1 - k))), (4, .int (nI 0))]) rfl ?_
    have q := L26 (L + 1 - k) 0 rfl (by omega)
    simp only [mR, sr_id] at q
    exact q
  · exact absurd (by simp only [cz, cc2]; decide +kernel) h4
/-- prints of a work of n grams -/
def rdP (rm rp : Nat) (w nn n : Nat) (σ : Mm) : Mm := if n = 0 then σ else sr σ rp (pP (fl (σ rp) (50 * w) (50 * w + n) (nI 0)) (σ rm) w (min nn n) (n - min nn n + 1))
theorem mn_min {a b : Nat} (ha : a < 2 ^ 31) (hb : b < 2 ^ 31) : (if nI b < nI a then nI b else nI a) = nI (min a b) := by
  rcases Nat.le_total a b with h | h
  · rw [mn_r h hb, Nat.min_eq_left h]
  · rw [mn_l h ha, Nat.min_eq_right h]
set_option maxRecDepth 20000 in
set_option maxHeartbeats 4000000 in
theorem c_readPrints (l : Launch) (G : Gl) (σ : Mm) (w nn n : Nat) (hw : w < 5) (hg0 : σ 25 w = nI n) (hn : n ≤ 50) (h1 : 1 ≤ nn) (h6 : nn ≤ 6) : AMv l G 3 mX3_readPrints [.ref 23, .int (nI w), .int (nI nn)] σ (fun σ' => σ' = rdP 28 30 w nn n σ) := by
  refine rw_inV 3 (by decide +kernel) rfl rfl ?_
  intro E hE hX
  subst hE
  refine rw_go hX [(0, .aload_n 0), (1, .iload_n 1)] (by decide +kernel) (Ps := []) (pc' := 2) (lv' := [(0, .ref 23), (1, .int (nI w)), (2, .int (nI nn))]) (st' := [.int (nI w), .ref 23]) (σ' := σ) rfl True.intro ?_
  refine rw_callVi hX (as := [.int (nI w)]) (rest := []) (c_gramCount _ _ _ w hw) (by decide +kernel) mvX3_gramCount lk3_79 (ci := 2) rfl rfl rfl (by decide) (Nat.le_of_ble_eq_true rfl) rfl ?_
  intro r1 σ1 hr
  rw [hr.1, hr.2, hg0]
  clear hr σ1 r1
  refine rw_go hX [(5, .istore_n 3), (6, .iload_n 2), (7, .iload_n 3)] (by decide +kernel) (Ps := []) (pc' := 8) (lv' := [(0, .ref 23), (1, .int (nI w)), (2, .int (nI nn)), (3, .int (nI n))]) (st' := [.int (nI n), .int (nI nn)]) (σ' := σ) rfl True.intro ?_
  refine rw_min hX (by decide +kernel) lk3_47 (Nat.le_of_ble_eq_true rfl) ?_
  rw [show (if nI n < nI nn then nI n else nI nn) = nI (min nn n) from mn_min (by omega) (by omega)]
  refine rw_go hX [(11, .istore 4), (13, .iconst 0), (14, .istore 5)] (by decide +kernel) (Ps := []) (pc' := 16) (lv' := [(0, .ref 23), (1, .int (nI w)), (2, .int (nI nn)), (3, .int (nI n)), (4, .int (nI (min nn n))), (5, .int (nI 0))]) (st' := []) (σ' := σ) rfl True.intro ?_
  have L16 : ∀ (μ : Nat) (g : Nat), μ = n - g → (g ≤ n) → RW E G 3 6 (QV E G (fun σ' => σ' = rdP 28 30 w nn n σ)) 16 [(0, .ref 23), (1, .int (nI w)), (2, .int (nI nn)), (3, .int (nI n)), (4, .int (nI (min nn n))), (5, .int (nI g))] [] (sr σ 30 (fl (σ 30) (50 * w) (50 * w + g) (nI 0))) := by
    intro μ
    induction μ using Nat.strongRecOn with
    | ind μ ih =>
      intro g hμ hg
      refine rw_go hX [(16, .iload 5), (18, .iload_n 3)] (by decide +kernel) (Ps := []) (pc' := 19) (lv' := [(0, .ref 23), (1, .int (nI w)), (2, .int (nI nn)), (3, .int (nI n)), (4, .int (nI (min nn n))), (5, .int (nI g))]) (st' := [.int (nI n), .int (nI g)]) (σ' := sr σ 30 (fl (σ 30) (50 * w) (50 * w + g) (nI 0))) rfl True.intro ?_
      refine rw_icmp hX (tgt := 36) (cnd := .ge) (off := 17) (by decide +kernel) (by decide) (fun h19 => ?_) (fun h19 => ?_)
      · replace h19 := c2_geT h19
        have e : g = n := by omega
        rw [show (fl (σ 30) (50 * w) (50 * w + g) (nI 0)) = fl (σ 30) (50 * w) (50 * w + n) (nI 0) from (by rw [e])]
        refine rw_go hX [(36, .iload 4)] (by decide +kernel) (Ps := []) (pc' := 38) (lv' := [(0, .ref 23), (1, .int (nI w)), (2, .int (nI nn)), (3, .int (nI n)), (4, .int (nI (min nn n))), (5, .int (nI g))]) (st' := [.int (nI (min nn n))]) (σ' := sr σ 30 (fl (σ 30) (50 * w) (50 * w + n) (nI 0))) rfl True.intro ?_
        refine rw_if hX (tgt := 42) (cnd := .gt) (off := 4) (by decide +kernel) (by decide) (fun h38 => ?_) (fun h38 => ?_)
        · replace h38 := zn_gtT h38
          refine rw_go hX [(42, .iconst 0), (43, .istore 5)] (by decide +kernel) (Ps := []) (pc' := 45) (lv' := [(0, .ref 23), (1, .int (nI w)), (2, .int (nI nn)), (3, .int (nI n)), (4, .int (nI (min nn n))), (5, .int (nI 0))]) (st' := []) (σ' := sr σ 30 (fl (σ 30) (50 * w) (50 * w + n) (nI 0))) rfl True.intro ?_
          have L45 : ∀ (μ : Nat) (j : Nat), μ = n + 1 - j → (j ≤ n - min nn n + 1) → RW E G 3 6 (QV E G (fun σ' => σ' = rdP 28 30 w nn n σ)) 45 [(0, .ref 23), (1, .int (nI w)), (2, .int (nI nn)), (3, .int (nI n)), (4, .int (nI (min nn n))), (5, .int (nI j))] [] (sr σ 30 (pP (fl (σ 30) (50 * w) (50 * w + n) (nI 0)) (σ 28) w (min nn n) j)) := by
            intro μ
            induction μ using Nat.strongRecOn with
            | ind μ ih =>
              intro j hμ hj
              refine rw_go hX [(45, .iload 5), (47, .iload_n 3), (48, .iload 4), (50, .isub)] (by decide +kernel) (Ps := []) (pc' := 51) (lv' := [(0, .ref 23), (1, .int (nI w)), (2, .int (nI nn)), (3, .int (nI n)), (4, .int (nI (min nn n))), (5, .int (nI j))]) (st' := [.int (nI n - nI (min nn n)), .int (nI j)]) (σ' := sr σ 30 (pP (fl (σ 30) (50 * w) (50 * w + n) (nI 0)) (σ 28) w (min nn n) j)) rfl True.intro ?_
              rw [show (nI n - nI (min nn n)) = nI (n - min nn n) from pk_sub (Nat.min_le_right _ _)]
              refine rw_icmp hX (tgt := 75) (cnd := .gt) (off := 24) (by decide +kernel) (by decide) (fun h51 => ?_) (fun h51 => ?_)
              · replace h51 := c2_gtT h51
                have e2 : j = n - min nn n + 1 := by omega
                exact rw_vret hX (by decide +kernel) (by rw [e2]; exact (if_neg (by omega)).symm)
              · replace h51 := c2_gtF h51
                have hlj := llS_in (σ 28) (50 * w) j (min nn n - 1)
                refine rw_go hX [(54, .aload_n 0), (55, .iload_n 1), (56, .aload_n 0), (57, .iload_n 1), (58, .iload 5), (60, .iload 4)] (by decide +kernel) (Ps := []) (pc' := 62) (lv' := [(0, .ref 23), (1, .int (nI w)), (2, .int (nI nn)), (3, .int (nI n)), (4, .int (nI (min nn n))), (5, .int (nI j))]) (st' := [.int (nI (min nn n)), .int (nI j), .int (nI w), .ref 23, .int (nI w), .ref 23]) (σ' := sr σ 30 (pP (fl (σ 30) (50 * w) (50 * w + n) (nI 0)) (σ 28) w (min nn n) j)) rfl True.intro ?_
                refine rw_callVi hX (as := [.int (nI w), .int (nI j), .int (nI (min nn n))]) (rest := [.int (nI w), .ref 23]) (c_lastOfLeast _ _ _ w j (min nn n) hw (by omega) (by omega)) (by decide +kernel) mvX3_lastOfLeast lk3_86 (ci := 2) rfl rfl rfl (by decide) (Nat.le_of_ble_eq_true rfl) rfl ?_
                intro r1 σ1 hr
                rw [hr.1, hr.2]
                clear hr σ1 r1
                refine rw_go hX [(65, .iconst 1)] (by decide +kernel) (Ps := []) (pc' := 66) (lv' := [(0, .ref 23), (1, .int (nI w)), (2, .int (nI nn)), (3, .int (nI n)), (4, .int (nI (min nn n))), (5, .int (nI j))]) (st' := [.int (nI 1), .int (nI (llS ((sr σ 30 (pP (fl (σ 30) (50 * w) (50 * w + n) (nI 0)) (σ 28) w (min nn n) j)) 28) (50 * w) j (min nn n - 1))), .int (nI w), .ref 23]) (σ' := sr σ 30 (pP (fl (σ 30) (50 * w) (50 * w + n) (nI 0)) (σ 28) w (min nn n) j)) rfl True.intro ?_
                refine rw_callVv hX (as := [.int (nI w), .int (nI (llS ((sr σ 30 (pP (fl (σ 30) (50 * w) (50 * w + n) (nI 0)) (σ 28) w (min nn n) j)) 28) (50 * w) j (min nn n - 1))), .int (nI 1)]) (rest := []) (c_setPrint _ _ _ w (llS ((sr σ 30 (pP (fl (σ 30) (50 * w) (50 * w + n) (nI 0)) (σ 28) w (min nn n) j)) 28) (50 * w) j (min nn n - 1)) (nI 1) hw (by rw [sr_n _ _ (by decide)]; omega) (Or.inr rfl)) (by decide +kernel) mvX3_setPrint lk3_82 (ci := 2) rfl rfl rfl (by decide) (Nat.le_of_ble_eq_true rfl) rfl ?_
                intro σ1 hr
                rw [hr]
                clear hr σ1
                refine rw_go hX [(69, .iinc 5 1), (72, .goto (-27))] (by decide +kernel) (Ps := []) (pc' := 45) (lv' := [(0, .ref 23), (1, .int (nI w)), (2, .int (nI nn)), (3, .int (nI n)), (4, .int (nI (min nn n))), (5, .int (nI j + nI 1))]) (st' := []) (σ' := sw (sr σ 30 (pP (fl (σ 30) (50 * w) (50 * w + n) (nI 0)) (σ 28) w (min nn n) j)) 30 (50 * w + llS ((sr σ 30 (pP (fl (σ 30) (50 * w) (50 * w + n) (nI 0)) (σ 28) w (min nn n) j)) 28) (50 * w) j (min nn n - 1)) (nI 1)) rfl True.intro ?_
                refine rw_lsub (ks := [0, 1, 2, 3, 4, 5]) (lv' := [(0, .ref 23), (1, .int (nI w)), (2, .int (nI nn)), (3, .int (nI n)), (4, .int (nI (min nn n))), (5, .int (nI j + nI 1))]) rfl ?_
                rw [nI_add, sw_sr, sr_n _ _ (by decide)]
                exact ih (n + 1 - (j + 1)) (by omega) (j + 1) rfl (by omega)
          refine rw_lsub (ks := [0, 1, 2, 3, 4, 5]) (lv' := [(0, .ref 23), (1, .int (nI w)), (2, .int (nI nn)), (3, .int (nI n)), (4, .int (nI (min nn n))), (5, .int (nI 0))]) rfl ?_
          exact L45 (n + 1) 0 rfl (by omega)
        · replace h38 := zn_gtF h38
          exact rw_vret hX (by decide +kernel) (by have e0 : n = 0 := by omega
  subst e0
  rw [Nat.add_zero, fl_0, sr_id]; exact (if_pos rfl).symm)
      · replace h19 := c2_geF h19
        refine rw_go hX [(22, .aload_n 0), (23, .iload_n 1), (24, .iload 5), (26, .iconst 0)] (by decide +kernel) (Ps := []) (pc' := 27) (lv' := [(0, .ref 23), (1, .int (nI w)), (2, .int (nI nn)), (3, .int (nI n)), (4, .int (nI (min nn n))), (5, .int (nI g))]) (st' := [.int (nI 0), .int (nI g), .int (nI w), .ref 23]) (σ' := sr σ 30 (fl (σ 30) (50 * w) (50 * w + g) (nI 0))) rfl True.intro ?_
        refine rw_callVv hX (as := [.int (nI w), .int (nI g), .int (nI 0)]) (rest := []) (c_setPrint _ _ _ w g (nI 0) hw (by omega) (Or.inl rfl)) (by decide +kernel) mvX3_setPrint lk3_82 (ci := 2) rfl rfl rfl (by decide) (Nat.le_of_ble_eq_true rfl) rfl ?_
        intro σ1 hr
        rw [hr]
        clear hr σ1
        refine rw_go hX [(30, .iinc 5 1), (33, .goto (-17))] (by decide +kernel) (Ps := []) (pc' := 16) (lv' := [(0, .ref 23), (1, .int (nI w)), (2, .int (nI nn)), (3, .int (nI n)), (4, .int (nI (min nn n))), (5, .int (nI g + nI 1))]) (st' := []) (σ' := sw (sr σ 30 (fl (σ 30) (50 * w) (50 * w + g) (nI 0))) 30 (50 * w + g) (nI 0)) rfl True.intro ?_
        refine rw_lsub (ks := [0, 1, 2, 3, 4, 5]) (lv' := [(0, .ref 23), (1, .int (nI w)), (2, .int (nI nn)), (3, .int (nI n)), (4, .int (nI (min nn n))), (5, .int (nI g + nI 1))]) rfl ?_
        rw [nI_add, sw_sr, fl_1 _ _ (by omega)]
        exact ih (n - (g + 1)) (by omega) (g + 1) rfl (by omega)
  refine rw_lsub (ks := [0, 1, 2, 3, 4, 5]) (lv' := [(0, .ref 23), (1, .int (nI w)), (2, .int (nI nn)), (3, .int (nI n)), (4, .int (nI (min nn n))), (5, .int (nI 0))]) rfl ?_
  have q := L16 n 0 rfl (by omega)
  rw [Nat.add_zero, fl_0, sr_id] at q
  exact q
