/-! grams, marks, prints of one work -/
def mkF (f : Nat → Int32) (c : Nat) : Nat → Int32
  | 0 => nI 0
  | t + 1 => nI 31 * mkF f c t + f (c + t)
def mR (f ft : Nat → Int32) (w k : Nat) : Nat → (Nat → Int32)
  | 0 => f
  | g + 1 => upd (mR f ft w k g) (50 * w + g) (mkF ft (50 * w + g) k)
/-- the last of the least marks of a window -/
def llS (f : Nat → Int32) (b fr : Nat) : Nat → Nat
  | 0 => fr
  | j + 1 => if f (b + (fr + j + 1)) ≤ f (b + llS f b fr j) then fr + j + 1 else llS f b fr j
theorem llS_in (f : Nat → Int32) (b fr : Nat) : ∀ j, fr ≤ llS f b fr j ∧ llS f b fr j ≤ fr + j
  | 0 => ⟨Nat.le_refl _, Nat.le_refl _⟩
  | j + 1 => by
    have := llS_in f b fr j
    simp only [llS]
    split <;> omega
def pP (f fm : Nat → Int32) (w wide : Nat) : Nat → (Nat → Int32)
  | 0 => f
  | j + 1 => upd (pP f fm w wide j) (50 * w + llS fm (50 * w) j (wide - 1)) (nI 1)
theorem mkF_1 (f : Nat → Int32) (c t : Nat) : mkF f c (t + 1) = nI 31 * mkF f c t + f (c + t) := rfl
theorem mR_1 (f ft : Nat → Int32) (w k g : Nat) : mR f ft w k (g + 1) = upd (mR f ft w k g) (50 * w + g) (mkF ft (50 * w + g) k) := rfl
theorem pP_1 (f fm : Nat → Int32) (w wide j : Nat) : pP f fm w wide (j + 1) = upd (pP f fm w wide j) (50 * w + llS fm (50 * w) j (wide - 1)) (nI 1) := rfl
def rdG (rt rn rm rg : Nat) (w k L : Nat) (σ : Mm) : Mm := sr (sr σ rm (mR (σ rm) (σ rt) w k (L + 1 - k))) rg (upd (σ rg) w (nI (L + 1 - k)))
/-- prints among the first i grams of a work -/
def pC (f : Nat → Int32) (w : Nat) : Nat → Nat
  | 0 => 0
  | g + 1 => if f (50 * w + g) ≠ 0 then pC f w g + 1 else pC f w g
theorem pC_le (f : Nat → Int32) (w : Nat) : ∀ i, pC f w i ≤ i
  | 0 => Nat.le_refl 0
  | i + 1 => by
    have := pC_le f w i
    simp only [pC]
    split <;> omega
def lkC (f : Nat → Int32) (a b : Nat) : Nat → Bool
  | 0 => true
  | t + 1 => lkC f a b t && decide (f (a + t) = f (b + t))
theorem lkC_iff (f : Nat → Int32) (a b : Nat) : ∀ k, lkC f a b k = true ↔ ∀ t, t < k → f (a + t) = f (b + t)
  | 0 => by simp [lkC]
  | k + 1 => by
    simp only [lkC, Bool.and_eq_true, decide_eq_true_eq, lkC_iff f a b k]
    constructor
    · intro h t ht
      rcases Nat.lt_succ_iff_lt_or_eq.mp ht with g | g
      · exact h.1 t g
      · rw [g]; exact h.2
    · exact fun h => ⟨fun t ht => h t (by omega), h k (by omega)⟩
theorem gN_max {L k : Nat} (hL : L ≤ 50) (hk : k ≤ 50) : (if nI 0 < nI L - nI k + nI 1 then nI L - nI k + nI 1 else nI 0) = nI (L + 1 - k) := by
  rcases Nat.lt_or_ge L k with h | h
  · have e : nI L - nI k + nI 1 = nI (L + 1) - nI k := by rw [← nI_add]; grind
    rw [e]
    rcases Nat.lt_or_ge (L + 1) k with g | g
    · rw [if_neg (show ¬ nI 0 < nI (L + 1) - nI k from fun z => Int32.lt_irrefl (Int32.lt_trans (pk_sneg (by omega) g) z)), show L + 1 - k = 0 by omega]
    · rw [pk_sub g, show L + 1 - k = 0 by omega, if_neg (show ¬ nI 0 < nI 0 from fun z => Int32.lt_irrefl z)]
  · rw [pk_sub h, nI_add, show L - k + 1 = L + 1 - k by omega]
    exact mx_r (Nat.zero_le _) (by omega)
set_option maxRecDepth 20000 in
set_option maxHeartbeats 4000000 in
theorem c_letterCount (l : Launch) (G : Gl) (σ : Mm) (w : Nat) (hw : w < 5) : AMi l G 1 mX3_letterCount [.ref 23, .int (nI w)] σ (fun r σ' => σ' = σ ∧ r = σ 24 w) := by
  refine rw_inI 3 (by decide +kernel) rfl rfl ?_
  intro E hE hX
  subst hE
  refine rw_go hX [(0, .iload_n 1)] (by decide +kernel) (Ps := []) (pc' := 1) (lv' := [(0, .ref 23), (1, .int (nI w))]) (st' := [.int (nI w)]) (σ' := σ) rfl True.intro ?_
  refine rw_callSi hX (as := [.int (nI w)]) (rest := []) (c_isWork _ _ _ w hw) (by decide +kernel) msX9_isWork (Or.inr lk3_34) rfl (by decide) (Nat.le_of_ble_eq_true rfl) rfl ?_
  intro r1 σ1 hr
  rw [hr.1, hr.2]
  clear hr σ1 r1
  refine rw_if hX (tgt := 16) (cnd := .eq) (off := 12) (by decide +kernel) (by decide) (fun h4 => ?_) (fun h4 => ?_)
  · exact absurd h4 (by simp only [cz, cc2]; decide +kernel)
  · skip
    refine rw_go hX [(7, .aload_n 0), (8, .getfield 9), (11, .iload_n 1), (12, .iaload), (13, .goto 4)] (by decide +kernel) (Ps := [vp_in (nI w) 5]) (pc' := 17) (lv' := [(0, .ref 23), (1, .int (nI w))]) (st' := [.int (σ 24 (nI w).toNatClampNeg)]) (σ' := σ) rfl (vp_in_nI hw (by omega)) ?_
    exact rw_iret hX (by decide +kernel) (⟨rfl, by rw [nI_clamp (by omega)]⟩)
set_option maxRecDepth 20000 in
set_option maxHeartbeats 4000000 in
theorem c_gramCount (l : Launch) (G : Gl) (σ : Mm) (w : Nat) (hw : w < 5) : AMi l G 1 mX3_gramCount [.ref 23, .int (nI w)] σ (fun r σ' => σ' = σ ∧ r = σ 25 w) := by
  refine rw_inI 3 (by decide +kernel) rfl rfl ?_
  intro E hE hX
  subst hE
  refine rw_go hX [(0, .iload_n 1)] (by decide +kernel) (Ps := []) (pc' := 1) (lv' := [(0, .ref 23), (1, .int (nI w))]) (st' := [.int (nI w)]) (σ' := σ) rfl True.intro ?_
  refine rw_callSi hX (as := [.int (nI w)]) (rest := []) (c_isWork _ _ _ w hw) (by decide +kernel) msX9_isWork (Or.inr lk3_34) rfl (by decide) (Nat.le_of_ble_eq_true rfl) rfl ?_
  intro r1 σ1 hr
  rw [hr.1, hr.2]
  clear hr σ1 r1
  refine rw_if hX (tgt := 16) (cnd := .eq) (off := 12) (by decide +kernel) (by decide) (fun h4 => ?_) (fun h4 => ?_)
  · exact absurd h4 (by simp only [cz, cc2]; decide +kernel)
  · skip
    refine rw_go hX [(7, .aload_n 0), (8, .getfield 15), (11, .iload_n 1), (12, .iaload), (13, .goto 4)] (by decide +kernel) (Ps := [vp_in (nI w) 5]) (pc' := 17) (lv' := [(0, .ref 23), (1, .int (nI w))]) (st' := [.int (σ 25 (nI w).toNatClampNeg)]) (σ' := σ) rfl (vp_in_nI hw (by omega)) ?_
    exact rw_iret hX (by decide +kernel) (⟨rfl, by rw [nI_clamp (by omega)]⟩)
set_option maxRecDepth 20000 in
set_option maxHeartbeats 4000000 in
theorem c_tellAt (l : Launch) (G : Gl) (σ : Mm) (w i : Nat) (hw : w < 5) (hi : i < 50) : AMi l G 1 mX3_tellAt [.ref 23, .int (nI w), .int (nI i)] σ (fun r σ' => σ' = σ ∧ r = σ 26 (50 * w + i)) := by
  refine rw_inI 3 (by decide +kernel) rfl rfl ?_
  intro E hE hX
  subst hE
  refine rw_go hX [(0, .aload_n 0), (1, .getfield 18), (4, .iload_n 1), (5, .iload_n 2)] (by decide +kernel) (Ps := []) (pc' := 6) (lv' := [(0, .ref 23), (1, .int (nI w)), (2, .int (nI i))]) (st' := [.int (nI i), .int (nI w), .ref 26]) (σ' := σ) rfl True.intro ?_
  refine rw_callSi hX (as := [.int (nI w), .int (nI i)]) (rest := [.ref 26]) (c_cellOf _ _ _ w i hw hi) (by decide +kernel) msX9_cellOf (Or.inr lk3_62) rfl (by decide) (Nat.le_of_ble_eq_true rfl) rfl ?_
  intro r1 σ1 hr
  rw [hr.1, hr.2]
  clear hr σ1 r1
  refine rw_callSi hX (as := [.ref 26, .int (nI (50 * w + i))]) (rest := []) (c_pick _ _ _ 26 250 (50 * w + i) (by decide +kernel) (by omega) (by omega)) (by decide +kernel) msX9_pick (Or.inr lk3_93) rfl (by decide) (Nat.le_of_ble_eq_true rfl) rfl ?_
  intro r1 σ1 hr
  rw [hr.1, hr.2]
  clear hr σ1 r1
  exact rw_iret hX (by decide +kernel) (⟨rfl, rfl⟩)
set_option maxRecDepth 20000 in
set_option maxHeartbeats 4000000 in
theorem c_placeAt (l : Launch) (G : Gl) (σ : Mm) (w i : Nat) (hw : w < 5) (hi : i < 50) : AMi l G 1 mX3_placeAt [.ref 23, .int (nI w), .int (nI i)] σ (fun r σ' => σ' = σ ∧ r = σ 27 (50 * w + i)) := by
  refine rw_inI 3 (by decide +kernel) rfl rfl ?_
  intro E hE hX
  subst hE
  refine rw_go hX [(0, .aload_n 0), (1, .getfield 21), (4, .iload_n 1), (5, .iload_n 2)] (by decide +kernel) (Ps := []) (pc' := 6) (lv' := [(0, .ref 23), (1, .int (nI w)), (2, .int (nI i))]) (st' := [.int (nI i), .int (nI w), .ref 27]) (σ' := σ) rfl True.intro ?_
  refine rw_callSi hX (as := [.int (nI w), .int (nI i)]) (rest := [.ref 27]) (c_cellOf _ _ _ w i hw hi) (by decide +kernel) msX9_cellOf (Or.inr lk3_62) rfl (by decide) (Nat.le_of_ble_eq_true rfl) rfl ?_
  intro r1 σ1 hr
  rw [hr.1, hr.2]
  clear hr σ1 r1
  refine rw_callSi hX (as := [.ref 27, .int (nI (50 * w + i))]) (rest := []) (c_pick _ _ _ 27 250 (50 * w + i) (by decide +kernel) (by omega) (by omega)) (by decide +kernel) msX9_pick (Or.inr lk3_93) rfl (by decide) (Nat.le_of_ble_eq_true rfl) rfl ?_
  intro r1 σ1 hr
  rw [hr.1, hr.2]
  clear hr σ1 r1
  exact rw_iret hX (by decide +kernel) (⟨rfl, rfl⟩)
set_option maxRecDepth 20000 in
set_option maxHeartbeats 4000000 in
theorem c_markAt (l : Launch) (G : Gl) (σ : Mm) (w i : Nat) (hw : w < 5) (hi : i < 50) : AMi l G 1 mX3_markAt [.ref 23, .int (nI w), .int (nI i)] σ (fun r σ' => σ' = σ ∧ r = σ 28 (50 * w + i)) := by
  refine rw_inI 3 (by decide +kernel) rfl rfl ?_
  intro E hE hX
  subst hE
  refine rw_go hX [(0, .aload_n 0), (1, .getfield 24), (4, .iload_n 1), (5, .iload_n 2)] (by decide +kernel) (Ps := []) (pc' := 6) (lv' := [(0, .ref 23), (1, .int (nI w)), (2, .int (nI i))]) (st' := [.int (nI i), .int (nI w), .ref 28]) (σ' := σ) rfl True.intro ?_
  refine rw_callSi hX (as := [.int (nI w), .int (nI i)]) (rest := [.ref 28]) (c_cellOf _ _ _ w i hw hi) (by decide +kernel) msX9_cellOf (Or.inr lk3_62) rfl (by decide) (Nat.le_of_ble_eq_true rfl) rfl ?_
  intro r1 σ1 hr
  rw [hr.1, hr.2]
  clear hr σ1 r1
  refine rw_callSi hX (as := [.ref 28, .int (nI (50 * w + i))]) (rest := []) (c_pick _ _ _ 28 250 (50 * w + i) (by decide +kernel) (by omega) (by omega)) (by decide +kernel) msX9_pick (Or.inr lk3_93) rfl (by decide) (Nat.le_of_ble_eq_true rfl) rfl ?_
  intro r1 σ1 hr
  rw [hr.1, hr.2]
  clear hr σ1 r1
  exact rw_iret hX (by decide +kernel) (⟨rfl, rfl⟩)
set_option maxRecDepth 20000 in
set_option maxHeartbeats 4000000 in
theorem c_formAt (l : Launch) (G : Gl) (σ : Mm) (w i : Nat) (hw : w < 5) (hi : i < 50) : AMi l G 1 mX3_formAt [.ref 23, .int (nI w), .int (nI i)] σ (fun r σ' => σ' = σ ∧ r = σ 29 (50 * w + i)) := by
  refine rw_inI 3 (by decide +kernel) rfl rfl ?_
  intro E hE hX
  subst hE
  refine rw_go hX [(0, .aload_n 0), (1, .getfield 27), (4, .iload_n 1), (5, .iload_n 2)] (by decide +kernel) (Ps := []) (pc' := 6) (lv' := [(0, .ref 23), (1, .int (nI w)), (2, .int (nI i))]) (st' := [.int (nI i), .int (nI w), .ref 29]) (σ' := σ) rfl True.intro ?_
  refine rw_callSi hX (as := [.int (nI w), .int (nI i)]) (rest := [.ref 29]) (c_cellOf _ _ _ w i hw hi) (by decide +kernel) msX9_cellOf (Or.inr lk3_62) rfl (by decide) (Nat.le_of_ble_eq_true rfl) rfl ?_
  intro r1 σ1 hr
  rw [hr.1, hr.2]
  clear hr σ1 r1
  refine rw_callSi hX (as := [.ref 29, .int (nI (50 * w + i))]) (rest := []) (c_pick _ _ _ 29 250 (50 * w + i) (by decide +kernel) (by omega) (by omega)) (by decide +kernel) msX9_pick (Or.inr lk3_93) rfl (by decide) (Nat.le_of_ble_eq_true rfl) rfl ?_
  intro r1 σ1 hr
  rw [hr.1, hr.2]
  clear hr σ1 r1
  exact rw_iret hX (by decide +kernel) (⟨rfl, rfl⟩)
set_option maxRecDepth 20000 in
set_option maxHeartbeats 4000000 in
theorem c_setForm (l : Launch) (G : Gl) (σ : Mm) (w i : Nat) (v : Int32) (hw : w < 5) (hi : i < 50) : AMv l G 1 mX3_setForm [.ref 23, .int (nI w), .int (nI i), .int v] σ (fun σ' => σ' = sw σ 29 (50 * w + i) v) := by
  refine rw_inV 3 (by decide +kernel) rfl rfl ?_
  intro E hE hX
  subst hE
  refine rw_go hX [(0, .aload_n 0), (1, .getfield 27), (4, .iload_n 1), (5, .iload_n 2)] (by decide +kernel) (Ps := []) (pc' := 6) (lv' := [(0, .ref 23), (1, .int (nI w)), (2, .int (nI i)), (3, .int v)]) (st' := [.int (nI i), .int (nI w), .ref 29]) (σ' := σ) rfl True.intro ?_
  refine rw_callSi hX (as := [.int (nI w), .int (nI i)]) (rest := [.ref 29]) (c_cellOf _ _ _ w i hw hi) (by decide +kernel) msX9_cellOf (Or.inr lk3_62) rfl (by decide) (Nat.le_of_ble_eq_true rfl) rfl ?_
  intro r1 σ1 hr
  rw [hr.1, hr.2]
  clear hr σ1 r1
  refine rw_go hX [(9, .iload_n 3)] (by decide +kernel) (Ps := []) (pc' := 10) (lv' := [(0, .ref 23), (1, .int (nI w)), (2, .int (nI i)), (3, .int v)]) (st' := [.int v, .int (nI (50 * w + i)), .ref 29]) (σ' := σ) rfl True.intro ?_
  refine rw_callSv hX (as := [.ref 29, .int (nI (50 * w + i)), .int v]) (rest := []) (c_place _ _ _ 29 250 (50 * w + i) v (by decide +kernel) (by omega) (by omega)) (by decide +kernel) msX9_place (Or.inr lk3_69) rfl (by decide) (Nat.le_of_ble_eq_true rfl) rfl ?_
  intro σ1 hr
  rw [hr]
  clear hr σ1
  exact rw_vret hX (by decide +kernel) (rfl)
set_option maxRecDepth 20000 in
set_option maxHeartbeats 4000000 in
theorem c_setPrint (l : Launch) (G : Gl) (σ : Mm) (w i : Nat) (v : Int32) (hw : w < 5) (hi : i < 50) (hz : v = 0 ∨ v = 1) : AMv l G 1 mX3_setPrint [.ref 23, .int (nI w), .int (nI i), .int v] σ (fun σ' => σ' = sw σ 30 (50 * w + i) v) := by
  refine rw_inV 3 (by decide +kernel) rfl rfl ?_
  intro E hE hX
  subst hE
  refine rw_go hX [(0, .iload_n 1), (1, .iload_n 2)] (by decide +kernel) (Ps := []) (pc' := 2) (lv' := [(0, .ref 23), (1, .int (nI w)), (2, .int (nI i)), (3, .int v)]) (st' := [.int (nI i), .int (nI w)]) (σ' := σ) rfl True.intro ?_
  refine rw_callSi hX (as := [.int (nI w), .int (nI i)]) (rest := []) (c_cellOf _ _ _ w i hw hi) (by decide +kernel) msX9_cellOf (Or.inr lk3_62) rfl (by decide) (Nat.le_of_ble_eq_true rfl) rfl ?_
  intro r1 σ1 hr
  rw [hr.1, hr.2]
  clear hr σ1 r1
  refine rw_go hX [(5, .istore 4), (7, .iload 4)] (by decide +kernel) (Ps := []) (pc' := 9) (lv' := [(0, .ref 23), (1, .int (nI w)), (2, .int (nI i)), (3, .int v), (4, .int (nI (50 * w + i)))]) (st' := [.int (nI (50 * w + i))]) (σ' := σ) rfl True.intro ?_
  refine rw_if hX (tgt := 30) (cnd := .lt) (off := 21) (by decide +kernel) (by decide) (fun h9 => ?_) (fun h9 => ?_)
  · exact zn_ltT h9
  · clear h9
    refine rw_go hX [(12, .iload 4), (14, .aload_n 0), (15, .getfield 30), (18, .arraylength)] (by decide +kernel) (Ps := []) (pc' := 19) (lv' := [(0, .ref 23), (1, .int (nI w)), (2, .int (nI i)), (3, .int v), (4, .int (nI (50 * w + i)))]) (st' := [.int (nI 250), .int (nI (50 * w + i))]) (σ' := σ) rfl True.intro ?_
    refine rw_icmp hX (tgt := 30) (cnd := .ge) (off := 11) (by decide +kernel) (by decide) (fun h19 => ?_) (fun h19 => ?_)
    · replace h19 := c2_geT h19
      omega
    · replace h19 := c2_geF h19
      refine rw_go hX [(22, .aload_n 0), (23, .getfield 30), (26, .iload 4), (28, .iload_n 3), (29, .bastore)] (by decide +kernel) (Ps := [vp_in (nI (50 * w + i)) 250, v = 0 ∨ v = 1]) (pc' := 30) (lv' := [(0, .ref 23), (1, .int (nI w)), (2, .int (nI i)), (3, .int v), (4, .int (nI (50 * w + i)))]) (st' := []) (σ' := sw σ 30 (nI (50 * w + i)).toNatClampNeg v) rfl (⟨vp_in_nI (by omega) (by omega), hz⟩) ?_
      exact rw_vret hX (by decide +kernel) (by rw [nI_clamp (by omega)])
