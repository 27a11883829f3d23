/-! what a shelf tells: rows of bytes, sizes, kinds, days, rules -/
def vw (σ : Mm) (b : Nat) : Mm := fun j => if j < 5 then σ (b + j) else fun _ => 0
theorem vw_sr (σ : Mm) {k b : Nat} (f : Nat → Int32) (h : k < b ∨ b + 5 ≤ k) : vw (sr σ k f) b = vw σ b := by
  funext j
  unfold vw
  by_cases g : j < 5
  · rw [if_pos g, if_pos g, sr_n _ _ (by omega)]
  · rw [if_neg g, if_neg g]
theorem vw_at {σ V : Mm} {b : Nat} (h : vw σ b = V) (j : Nat) (hj : j < 5) : σ (b + j) = V j := by
  rw [← h]
  unfold vw
  rw [if_pos hj]
def vS (V : Mm) (w : Nat) : Nat := (V 1 w).toNatClampNeg
def vK (V : Mm) (w : Nat) : Nat := (V 2 w).toNatClampNeg
def vD (V : Mm) (w : Nat) : Nat := (V 3 w).toNatClampNeg
def vR (V : Mm) (r : Nat) : Nat := (V 4 r).toNatClampNeg
/-- the numbers of a shelf are as they may be -/
def wf (V : Mm) : Prop := (∀ w, w < 5 → (V 1 w = nI (vS V w) ∧ vS V w ≤ 50) ∧ (V 2 w = nI (vK V w) ∧ vK V w < 6) ∧ (V 3 w = nI (vD V w) ∧ vD V w < 100)) ∧
  ((V 4 0 = nI (vR V 0) ∧ 2 ≤ vR V 0 ∧ vR V 0 ≤ 6) ∧ (V 4 1 = nI (vR V 1) ∧ 1 ≤ vR V 1 ∧ vR V 1 ≤ 6) ∧ (V 4 2 = nI (vR V 2) ∧ 2 ≤ vR V 2 ∧ vR V 2 ≤ 6) ∧
   (V 4 3 = -(nI 1) ∨ (V 4 3 = nI (vR V 3) ∧ vR V 3 < 5)) ∧ (V 4 4 = nI (vR V 4) ∧ 1 ≤ vR V 4 ∧ vR V 4 ≤ 50) ∧ (V 4 5 = nI (vR V 5) ∧ vR V 5 ≤ 100))
theorem wf_s {V : Mm} (h : wf V) {w : Nat} (hw : w < 5) : V 1 w = nI (vS V w) := (h.1 w hw).1.1
theorem wf_s50 {V : Mm} (h : wf V) {w : Nat} (hw : w < 5) : vS V w ≤ 50 := (h.1 w hw).1.2
theorem wf_k {V : Mm} (h : wf V) {w : Nat} (hw : w < 5) : V 2 w = nI (vK V w) := (h.1 w hw).2.1.1
theorem wf_k6 {V : Mm} (h : wf V) {w : Nat} (hw : w < 5) : vK V w < 6 := (h.1 w hw).2.1.2
/-- letters: the byte right ahead, right behind, whether it is quoted, as what it is told (0: it doesn't count) -/
def ahV (V : Mm) (w i : Nat) : Int32 := if i = 0 then -(nI 1) else V 0 (50 * w + (i - 1))
def bhV (V : Mm) (w i : Nat) : Int32 := if i + 1 < vS V w then V 0 (50 * w + (i + 1)) else -(nI 1)
def qd (V : Mm) (w : Nat) : Nat → Bool
  | 0 => false
  | i + 1 => if V 0 (50 * w + i) = nI 34 then !qd V w i else qd V w i
def tl (V : Mm) (w i : Nat) : Int32 := tellK (vK V w) (ahV V w i) (V 0 (50 * w + i)) (bhV V w i) (qd V w i)
def ltN (V : Mm) (w : Nat) : Nat → Nat
  | 0 => 0
  | i + 1 => if tl V w i ≠ 0 then ltN V w i + 1 else ltN V w i
/-- the row of letters, the row of their places, behind i bytes -/
def tR (f : Nat → Int32) (V : Mm) (w : Nat) : Nat → (Nat → Int32)
  | 0 => f
  | i + 1 => if tl V w i ≠ 0 then upd (tR f V w i) (50 * w + ltN V w i) (tl V w i) else tR f V w i
def pR (f : Nat → Int32) (V : Mm) (w : Nat) : Nat → (Nat → Int32)
  | 0 => f
  | i + 1 => if tl V w i ≠ 0 then upd (pR f V w i) (50 * w + ltN V w i) (nI i) else pR f V w i
theorem ltN_le (V : Mm) (w : Nat) : ∀ i, ltN V w i ≤ i
  | 0 => Nat.le_refl 0
  | i + 1 => by
    have := ltN_le V w i
    simp only [ltN]
    split <;> omega
def lC (V : Mm) (w : Nat) : Nat := ltN V w (vS V w)
/-- the letters of a work read, into rows rt, rp and a count in rn -/
def rdL (rt rp rn : Nat) (V : Mm) (w : Nat) (σ : Mm) : Mm := sr (sr (sr σ rt (tR (σ rt) V w (vS V w))) rp (pR (σ rp) V w (vS V w))) rn (upd (σ rn) w (nI (lC V w)))
theorem nI5 {w : Nat} (hw : w < 5) : 0 ≤ nI w ∧ nI w ≤ 4 := ⟨nI_pos' (by omega), nI_le (b := 4) (by omega) (by omega)⟩
theorem c_isWork (l : Launch) (G : Gl) (σ : Mm) (w : Nat) (hw : w < 5) : AMi l G 0 mX9_isWork [.int (nI w)] σ (fun r σ' => σ' = σ ∧ r = nI 1) :=
  (c_X9_isWork l G σ (nI w)).mono fun r σ' h => ⟨h.1, by rw [h.2, decide_eq_true (nI5 hw)]; rfl⟩
theorem c_cellOf (l : Launch) (G : Gl) (σ : Mm) (w i : Nat) (hw : w < 5) (hi : i < 50) : AMi l G 0 mX9_cellOf [.int (nI w), .int (nI i)] σ (fun r σ' => σ' = σ ∧ r = nI (50 * w + i)) :=
  (c_X9_cellOf l G σ (nI w) (nI i)).mono fun r σ' h => ⟨h.1, by
    rw [h.2, if_pos ⟨(nI5 hw).1, (nI5 hw).2, nI_pos' (by omega), nI_lt (b := 50) hi (by omega)⟩, show (50 : Int32) = nI 50 from rfl, pk_mul, nI_add, Nat.mul_comm]⟩
theorem c_pick (l : Launch) (G : Gl) (σ : Mm) (k n i : Nat) (hk : shapes[k]? = some (.inl (0, n))) (hn : n < 2 ^ 31) (hi : i < n) : AMi l G 0 mX9_pick [.ref k, .int (nI i)] σ (fun r σ' => σ' = σ ∧ r = σ k i) :=
  (c_X9_pick l G σ k n (nI i) hk hn).mono fun r σ' h => ⟨h.1, by rw [h.2, rpick_in hi hn]⟩
theorem c_pickN (l : Launch) (G : Gl) (σ : Mm) (k n : Nat) (hk : shapes[k]? = some (.inl (0, n))) (hn : n < 2 ^ 31) : AMi l G 0 mX9_pick [.ref k, .int (-(nI 1))] σ (fun r σ' => σ' = σ ∧ r = -(nI 1)) :=
  (c_X9_pick l G σ k n (-(nI 1)) hk hn).mono fun r σ' h => ⟨h.1, by rw [h.2, rpick, if_neg (fun z => absurd z.1 (by decide +kernel))]⟩
theorem c_place (l : Launch) (G : Gl) (σ : Mm) (k n i : Nat) (v : Int32) (hk : shapes[k]? = some (.inl (0, n))) (hn : n < 2 ^ 31) (hi : i < n) : AMv l G 0 mX9_place [.ref k, .int (nI i), .int v] σ (fun σ' => σ' = sw σ k i v) :=
  (c_X9_place l G σ k n (nI i) v hk hn).mono fun σ' h => by rw [h, if_pos ⟨nI_pos' (by omega), nI_lt hi hn⟩, nI_clamp (by omega)]
/-- the three shelves' first cells -/
def isO (o : Nat) : Prop := o = 1 ∨ (o = 8 ∨ o = 15)
theorem ltN_1 {V : Mm} {w i : Nat} (h : tl V w i ≠ 0) : ltN V w (i + 1) = ltN V w i + 1 := if_pos h
theorem ltN_0 {V : Mm} {w i : Nat} (h : tl V w i = 0) : ltN V w (i + 1) = ltN V w i := if_neg (fun z => z h)
theorem tR_1 {f : Nat → Int32} {V : Mm} {w i : Nat} (h : tl V w i ≠ 0) : tR f V w (i + 1) = upd (tR f V w i) (50 * w + ltN V w i) (tl V w i) := if_pos h
theorem tR_0 {f : Nat → Int32} {V : Mm} {w i : Nat} (h : tl V w i = 0) : tR f V w (i + 1) = tR f V w i := if_neg (fun z => z h)
theorem pR_1 {f : Nat → Int32} {V : Mm} {w i : Nat} (h : tl V w i ≠ 0) : pR f V w (i + 1) = upd (pR f V w i) (50 * w + ltN V w i) (nI i) := if_pos h
theorem pR_0 {f : Nat → Int32} {V : Mm} {w i : Nat} (h : tl V w i = 0) : pR f V w (i + 1) = pR f V w i := if_neg (fun z => z h)
theorem qd_e {V : Mm} {w i : Nat} (h : V 0 (50 * w + i) = nI 34) : qd V w (i + 1) = !qd V w i := if_pos h
theorem qd_n {V : Mm} {w i : Nat} (h : V 0 (50 * w + i) ≠ nI 34) : qd V w (i + 1) = qd V w i := if_neg h
theorem sw_sr2 (σ : Mm) {k j : Nat} (f g : Nat → Int32) (i : Nat) (x : Int32) (h : j ≠ k) : sw (sr (sr σ k f) j g) k i x = sr (sr σ k (upd f i x)) j g := by
  unfold sw
  rw [sr_n _ _ (Ne.symm h), sr_s, sr_comm _ _ _ h, sr_sr, sr_comm _ _ _ (Ne.symm h)]
theorem mn_l {a b : Nat} (h : a ≤ b) (hb : b < 2 ^ 31) : (if nI a < nI b then nI a else nI b) = nI a := by
  by_cases e : a = b
  · subst e; simp
  · rw [if_pos (nI_lt (by omega) hb)]
theorem mn_r {a b : Nat} (h : b ≤ a) (ha : a < 2 ^ 31) : (if nI a < nI b then nI a else nI b) = nI b := if_neg (nI_nlt h ha)
theorem mx_l {a b : Nat} (h : b ≤ a) (ha : a < 2 ^ 31) : (if nI a < nI b then nI b else nI a) = nI a := if_neg (nI_nlt h ha)
theorem mx_r {a b : Nat} (h : a ≤ b) (hb : b < 2 ^ 31) : (if nI a < nI b then nI b else nI a) = nI b := by
  by_cases e : a = b
  · subst e; simp
  · rw [if_pos (nI_lt (by omega) hb)]

theorem byteAt_eq {f : Nat → Int32} {w : Nat} {i z v : Int32} (hw : w < 5) (h : (i < z ∧ v = rpick f 250 (if 0 ≤ nI w ∧ nI w ≤ 4 ∧ 0 ≤ i ∧ i < 50 then nI w * 50 + i else -1)) ∨ (¬ i < z ∧ v = -(nI 1))) : v = if i < z ∧ 0 ≤ i ∧ i < 50 then f (50 * w + i.toNatClampNeg) else -(nI 1) := by
  rcases h with ⟨h, rfl⟩ | ⟨h, rfl⟩
  · by_cases g : 0 ≤ i ∧ i < 50
    · rw [if_pos ⟨(nI5 hw).1, (nI5 hw).2, g.1, g.2⟩, if_pos ⟨h, g.1, g.2⟩]
      obtain ⟨j, hj, rfl⟩ := nI_of (Int32.not_lt.mpr g.1)
      have hj5 : j < 50 := (nI_ltI (b := 50) hj (by omega)).mp g.2
      rw [show (50 : Int32) = nI 50 from rfl, pk_mul, nI_add, rpick_in (by omega) (by omega), nI_clamp hj, Nat.mul_comm]
    · rw [if_neg (fun z => g z.2.2), if_neg (fun z => g z.2)]
      rw [rpick, if_neg (fun z => absurd z.1 (by decide +kernel))]
  · rw [if_neg (fun z => h z.1)]
set_option maxRecDepth 20000 in
set_option maxHeartbeats 4000000 in
theorem c_sizeOf_1 (l : Launch) (G : Gl) (σ : Mm) (w : Nat) (hw : w < 5) : AMi l G 1 mX5_sizeOf [.ref 1, .int (nI w)] σ (fun r σ' => σ' = σ ∧ r = σ 3 w) := by
  refine rw_inI 5 (by decide +kernel) rfl rfl ?_
  intro E hE hX
  subst hE
  refine rw_go hX [(0, .iload_n 1)] (by decide +kernel) (Ps := []) (pc' := 1) (lv' := [(0, .ref 1), (1, .int (nI w))]) (st' := [.int (nI w)]) (σ' := σ) rfl True.intro ?_
  refine rw_callSi hX (as := [.int (nI w)]) (rest := []) (c_isWork _ _ _ w hw) (by decide +kernel) msX9_isWork (Or.inr lk5_36) rfl (by decide) (Nat.le_of_ble_eq_true rfl) rfl ?_
  intro r1 σ1 hr
  rw [hr.1, hr.2]
  clear hr σ1 r1
  refine rw_if hX (tgt := 16) (cnd := .eq) (off := 12) (by decide +kernel) (by decide) (fun h4 => ?_) (fun h4 => ?_)
  · exact absurd h4 (by simp only [cz, cc2]; decide +kernel)
  · skip
    refine rw_go hX [(7, .aload_n 0), (8, .getfield 15), (11, .iload_n 1), (12, .iaload), (13, .goto 4)] (by decide +kernel) (Ps := [vp_in (nI w) 5]) (pc' := 17) (lv' := [(0, .ref 1), (1, .int (nI w))]) (st' := [.int (σ 3 (nI w).toNatClampNeg)]) (σ' := σ) rfl (vp_in_nI hw (by omega)) ?_
    exact rw_iret hX (by decide +kernel) (⟨rfl, by rw [nI_clamp (by omega)]⟩)
set_option maxRecDepth 20000 in
set_option maxHeartbeats 4000000 in
theorem c_sizeOf_8 (l : Launch) (G : Gl) (σ : Mm) (w : Nat) (hw : w < 5) : AMi l G 1 mX5_sizeOf [.ref 8, .int (nI w)] σ (fun r σ' => σ' = σ ∧ r = σ 10 w) := by
  refine rw_inI 5 (by decide +kernel) rfl rfl ?_
  intro E hE hX
  subst hE
  refine rw_go hX [(0, .iload_n 1)] (by decide +kernel) (Ps := []) (pc' := 1) (lv' := [(0, .ref 8), (1, .int (nI w))]) (st' := [.int (nI w)]) (σ' := σ) rfl True.intro ?_
  refine rw_callSi hX (as := [.int (nI w)]) (rest := []) (c_isWork _ _ _ w hw) (by decide +kernel) msX9_isWork (Or.inr lk5_36) rfl (by decide) (Nat.le_of_ble_eq_true rfl) rfl ?_
  intro r1 σ1 hr
  rw [hr.1, hr.2]
  clear hr σ1 r1
  refine rw_if hX (tgt := 16) (cnd := .eq) (off := 12) (by decide +kernel) (by decide) (fun h4 => ?_) (fun h4 => ?_)
  · exact absurd h4 (by simp only [cz, cc2]; decide +kernel)
  · skip
    refine rw_go hX [(7, .aload_n 0), (8, .getfield 15), (11, .iload_n 1), (12, .iaload), (13, .goto 4)] (by decide +kernel) (Ps := [vp_in (nI w) 5]) (pc' := 17) (lv' := [(0, .ref 8), (1, .int (nI w))]) (st' := [.int (σ 10 (nI w).toNatClampNeg)]) (σ' := σ) rfl (vp_in_nI hw (by omega)) ?_
    exact rw_iret hX (by decide +kernel) (⟨rfl, by rw [nI_clamp (by omega)]⟩)
set_option maxRecDepth 20000 in
set_option maxHeartbeats 4000000 in
theorem c_sizeOf_15 (l : Launch) (G : Gl) (σ : Mm) (w : Nat) (hw : w < 5) : AMi l G 1 mX5_sizeOf [.ref 15, .int (nI w)] σ (fun r σ' => σ' = σ ∧ r = σ 17 w) := by
  refine rw_inI 5 (by decide +kernel) rfl rfl ?_
  intro E hE hX
  subst hE
  refine rw_go hX [(0, .iload_n 1)] (by decide +kernel) (Ps := []) (pc' := 1) (lv' := [(0, .ref 15), (1, .int (nI w))]) (st' := [.int (nI w)]) (σ' := σ) rfl True.intro ?_
  refine rw_callSi hX (as := [.int (nI w)]) (rest := []) (c_isWork _ _ _ w hw) (by decide +kernel) msX9_isWork (Or.inr lk5_36) rfl (by decide) (Nat.le_of_ble_eq_true rfl) rfl ?_
  intro r1 σ1 hr
  rw [hr.1, hr.2]
  clear hr σ1 r1
  refine rw_if hX (tgt := 16) (cnd := .eq) (off := 12) (by decide +kernel) (by decide) (fun h4 => ?_) (fun h4 => ?_)
  · exact absurd h4 (by simp only [cz, cc2]; decide +kernel)
  · skip
    refine rw_go hX [(7, .aload_n 0), (8, .getfield 15), (11, .iload_n 1), (12, .iaload), (13, .goto 4)] (by decide +kernel) (Ps := [vp_in (nI w) 5]) (pc' := 17) (lv' := [(0, .ref 15), (1, .int (nI w))]) (st' := [.int (σ 17 (nI w).toNatClampNeg)]) (σ' := σ) rfl (vp_in_nI hw (by omega)) ?_
    exact rw_iret hX (by decide +kernel) (⟨rfl, by rw [nI_clamp (by omega)]⟩)
theorem c_sizeOf (l : Launch) (G : Gl) (σ : Mm) (o : Nat) (ho : isO o) (w : Nat) (hw : w < 5) : AMi l G 1 mX5_sizeOf [.ref (o), .int (nI w)] σ (fun r σ' => σ' = σ ∧ r = σ (o + 2) w) := by
  rcases ho with rfl | rfl | rfl
  · exact c_sizeOf_1 l G σ w hw
  · exact c_sizeOf_8 l G σ w hw
  · exact c_sizeOf_15 l G σ w hw
set_option maxRecDepth 20000 in
set_option maxHeartbeats 4000000 in
theorem c_byteAt0_1 (l : Launch) (G : Gl) (σ : Mm) (w : Nat) (i : Int32) (hw : w < 5) : AMi l G 2 mX5_byteAt [.ref 1, .int (nI w), .int i] σ (fun r σ' => σ' = σ ∧ r = if i < σ 3 w ∧ 0 ≤ i ∧ i < 50 then σ 2 (50 * w + i.toNatClampNeg) else -(nI 1)) := by
  refine rw_inI 5 (by decide +kernel) rfl rfl ?_
  intro E hE hX
  subst hE
  refine rw_go hX [(0, .iload_n 2), (1, .aload_n 0), (2, .iload_n 1)] (by decide +kernel) (Ps := []) (pc' := 3) (lv' := [(0, .ref 1), (1, .int (nI w)), (2, .int i)]) (st' := [.int (nI w), .ref 1, .int i]) (σ' := σ) rfl True.intro ?_
  refine rw_callVi hX (as := [.int (nI w)]) (rest := [.int i]) (c_sizeOf_1 _ _ _ w hw) (by decide +kernel) mvX5_sizeOf lk5_40 (ci := 4) rfl rfl rfl (by decide) (Nat.le_of_ble_eq_true rfl) rfl ?_
  intro r1 σ1 hr
  rw [hr.1, hr.2]
  clear hr σ1 r1
  refine rw_icmp hX (tgt := 24) (cnd := .ge) (off := 18) (by decide +kernel) (by decide) (fun h6 => ?_) (fun h6 => ?_)
  · skip
    refine rw_go hX [(24, .iconst (-1))] (by decide +kernel) (Ps := []) (pc' := 25) (lv' := [(0, .ref 1), (1, .int (nI w)), (2, .int i)]) (st' := [.int (-(nI 1))]) (σ' := σ) rfl True.intro ?_
    exact rw_iret hX (by decide +kernel) (⟨rfl, byteAt_eq hw (by simp only [cc2] at h6; first | exact Or.inl ⟨Int32.not_le.mp h6, rfl⟩ | exact Or.inr ⟨Int32.not_lt.mpr h6, rfl⟩)⟩)
  · skip
    refine rw_go hX [(9, .aload_n 0), (10, .getfield 9), (13, .iload_n 1), (14, .iload_n 2)] (by decide +kernel) (Ps := []) (pc' := 15) (lv' := [(0, .ref 1), (1, .int (nI w)), (2, .int i)]) (st' := [.int i, .int (nI w), .ref 2]) (σ' := σ) rfl True.intro ?_
    refine rw_callSi hX (as := [.int (nI w), .int i]) (rest := [.ref 2]) (c_X9_cellOf _ _ _ (nI w) i) (by decide +kernel) msX9_cellOf (Or.inr lk5_44) rfl (by decide) (Nat.le_of_ble_eq_true rfl) rfl ?_
    intro r1 σ1 hr
    rw [hr.1, hr.2]
    clear hr σ1 r1
    refine rw_callSi hX (as := [.ref 2, .int (if 0 ≤ nI w ∧ nI w ≤ 4 ∧ 0 ≤ i ∧ i < 50 then nI w * 50 + i else -1)]) (rest := []) (c_X9_pick _ _ _ 2 250 _ (by decide +kernel) (by omega)) (by decide +kernel) msX9_pick (Or.inr lk5_48) rfl (by decide) (Nat.le_of_ble_eq_true rfl) rfl ?_
    intro r1 σ1 hr
    rw [hr.1, hr.2]
    clear hr σ1 r1
    refine rw_go hX [(21, .goto 4)] (by decide +kernel) (Ps := []) (pc' := 25) (lv' := [(0, .ref 1), (1, .int (nI w)), (2, .int i)]) (st' := [.int (rpick (σ 2) 250 (if 0 ≤ nI w ∧ nI w ≤ 4 ∧ 0 ≤ i ∧ i < 50 then nI w * 50 + i else -1))]) (σ' := σ) rfl True.intro ?_
    exact rw_iret hX (by decide +kernel) (⟨rfl, byteAt_eq hw (by simp only [cc2] at h6; first | exact Or.inl ⟨Int32.not_le.mp h6, rfl⟩ | exact Or.inr ⟨Int32.not_lt.mpr h6, rfl⟩)⟩)
set_option maxRecDepth 20000 in
set_option maxHeartbeats 4000000 in
theorem c_byteAt0_8 (l : Launch) (G : Gl) (σ : Mm) (w : Nat) (i : Int32) (hw : w < 5) : AMi l G 2 mX5_byteAt [.ref 8, .int (nI w), .int i] σ (fun r σ' => σ' = σ ∧ r = if i < σ 10 w ∧ 0 ≤ i ∧ i < 50 then σ 9 (50 * w + i.toNatClampNeg) else -(nI 1)) := by
  refine rw_inI 5 (by decide +kernel) rfl rfl ?_
  intro E hE hX
  subst hE
  refine rw_go hX [(0, .iload_n 2), (1, .aload_n 0), (2, .iload_n 1)] (by decide +kernel) (Ps := []) (pc' := 3) (lv' := [(0, .ref 8), (1, .int (nI w)), (2, .int i)]) (st' := [.int (nI w), .ref 8, .int i]) (σ' := σ) rfl True.intro ?_
  refine rw_callVi hX (as := [.int (nI w)]) (rest := [.int i]) (c_sizeOf_8 _ _ _ w hw) (by decide +kernel) mvX5_sizeOf lk5_40 (ci := 4) rfl rfl rfl (by decide) (Nat.le_of_ble_eq_true rfl) rfl ?_
  intro r1 σ1 hr
  rw [hr.1, hr.2]
  clear hr σ1 r1
  refine rw_icmp hX (tgt := 24) (cnd := .ge) (off := 18) (by decide +kernel) (by decide) (fun h6 => ?_) (fun h6 => ?_)
  · skip
    refine rw_go hX [(24, .iconst (-1))] (by decide +kernel) (Ps := []) (pc' := 25) (lv' := [(0, .ref 8), (1, .int (nI w)), (2, .int i)]) (st' := [.int (-(nI 1))]) (σ' := σ) rfl True.intro ?_
    exact rw_iret hX (by decide +kernel) (⟨rfl, byteAt_eq hw (by simp only [cc2] at h6; first | exact Or.inl ⟨Int32.not_le.mp h6, rfl⟩ | exact Or.inr ⟨Int32.not_lt.mpr h6, rfl⟩)⟩)
  · skip
    refine rw_go hX [(9, .aload_n 0), (10, .getfield 9), (13, .iload_n 1), (14, .iload_n 2)] (by decide +kernel) (Ps := []) (pc' := 15) (lv' := [(0, .ref 8), (1, .int (nI w)), (2, .int i)]) (st' := [.int i, .int (nI w), .ref 9]) (σ' := σ) rfl True.intro ?_
    refine rw_callSi hX (as := [.int (nI w), .int i]) (rest := [.ref 9]) (c_X9_cellOf _ _ _ (nI w) i) (by decide +kernel) msX9_cellOf (Or.inr lk5_44) rfl (by decide) (Nat.le_of_ble_eq_true rfl) rfl ?_
    intro r1 σ1 hr
    rw [hr.1, hr.2]
    clear hr σ1 r1
    refine rw_callSi hX (as := [.ref 9, .int (if 0 ≤ nI w ∧ nI w ≤ 4 ∧ 0 ≤ i ∧ i < 50 then nI w * 50 + i else -1)]) (rest := []) (c_X9_pick _ _ _ 9 250 _ (by decide +kernel) (by omega)) (by decide +kernel) msX9_pick (Or.inr lk5_48) rfl (by decide) (Nat.le_of_ble_eq_true rfl) rfl ?_
    intro r1 σ1 hr
    rw [hr.1, hr.2]
    clear hr σ1 r1
    refine rw_go hX [(21, .goto 4)] (by decide +kernel) (Ps := []) (pc' := 25) (lv' := [(0, .ref 8), (1, .int (nI w)), (2, .int i)]) (st' := [.int (rpick (σ 9) 250 (if 0 ≤ nI w ∧ nI w ≤ 4 ∧ 0 ≤ i ∧ i < 50 then nI w * 50 + i else -1))]) (σ' := σ) rfl True.intro ?_
    exact rw_iret hX (by decide +kernel) (⟨rfl, byteAt_eq hw (by simp only [cc2] at h6; first | exact Or.inl ⟨Int32.not_le.mp h6, rfl⟩ | exact Or.inr ⟨Int32.not_lt.mpr h6, rfl⟩)⟩)
set_option maxRecDepth 20000 in
set_option maxHeartbeats 4000000 in
theorem c_byteAt0_15 (l : Launch) (G : Gl) (σ : Mm) (w : Nat) (i : Int32) (hw : w < 5) : AMi l G 2 mX5_byteAt [.ref 15, .int (nI w), .int i] σ (fun r σ' => σ' = σ ∧ r = if i < σ 17 w ∧ 0 ≤ i ∧ i < 50 then σ 16 (50 * w + i.toNatClampNeg) else -(nI 1)) := by
  refine rw_inI 5 (by decide +kernel) rfl rfl ?_
  intro E hE hX
  subst hE
  refine rw_go hX [(0, .iload_n 2), (1, .aload_n 0), (2, .iload_n 1)] (by decide +kernel) (Ps := []) (pc' := 3) (lv' := [(0, .ref 15), (1, .int (nI w)), (2, .int i)]) (st' := [.int (nI w), .ref 15, .int i]) (σ' := σ) rfl True.intro ?_
  refine rw_callVi hX (as := [.int (nI w)]) (rest := [.int i]) (c_sizeOf_15 _ _ _ w hw) (by decide +kernel) mvX5_sizeOf lk5_40 (ci := 4) rfl rfl rfl (by decide) (Nat.le_of_ble_eq_true rfl) rfl ?_
  intro r1 σ1 hr
  rw [hr.1, hr.2]
  clear hr σ1 r1
  refine rw_icmp hX (tgt := 24) (cnd := .ge) (off := 18) (by decide +kernel) (by decide) (fun h6 => ?_) (fun h6 => ?_)
  · skip
    refine rw_go hX [(24, .iconst (-1))] (by decide +kernel) (Ps := []) (pc' := 25) (lv' := [(0, .ref 15), (1, .int (nI w)), (2, .int i)]) (st' := [.int (-(nI 1))]) (σ' := σ) rfl True.intro ?_
    exact rw_iret hX (by decide +kernel) (⟨rfl, byteAt_eq hw (by simp only [cc2] at h6; first | exact Or.inl ⟨Int32.not_le.mp h6, rfl⟩ | exact Or.inr ⟨Int32.not_lt.mpr h6, rfl⟩)⟩)
  · skip
    refine rw_go hX [(9, .aload_n 0), (10, .getfield 9), (13, .iload_n 1), (14, .iload_n 2)] (by decide +kernel) (Ps := []) (pc' := 15) (lv' := [(0, .ref 15), (1, .int (nI w)), (2, .int i)]) (st' := [.int i, .int (nI w), .ref 16]) (σ' := σ) rfl True.intro ?_
    refine rw_callSi hX (as := [.int (nI w), .int i]) (rest := [.ref 16]) (c_X9_cellOf _ _ _ (nI w) i) (by decide +kernel) msX9_cellOf (Or.inr lk5_44) rfl (by decide) (Nat.le_of_ble_eq_true rfl) rfl ?_
    intro r1 σ1 hr
    rw [hr.1, hr.2]
    clear hr σ1 r1
    refine rw_callSi hX (as := [.ref 16, .int (if 0 ≤ nI w ∧ nI w ≤ 4 ∧ 0 ≤ i ∧ i < 50 then nI w * 50 + i else -1)]) (rest := []) (c_X9_pick _ _ _ 16 250 _ (by decide +kernel) (by omega)) (by decide +kernel) msX9_pick (Or.inr lk5_48) rfl (by decide) (Nat.le_of_ble_eq_true rfl) rfl ?_
    intro r1 σ1 hr
    rw [hr.1, hr.2]
    clear hr σ1 r1
    refine rw_go hX [(21, .goto 4)] (by decide +kernel) (Ps := []) (pc' := 25) (lv' := [(0, .ref 15), (1, .int (nI w)), (2, .int i)]) (st' := [.int (rpick (σ 16) 250 (if 0 ≤ nI w ∧ nI w ≤ 4 ∧ 0 ≤ i ∧ i < 50 then nI w * 50 + i else -1))]) (σ' := σ) rfl True.intro ?_
    exact rw_iret hX (by decide +kernel) (⟨rfl, byteAt_eq hw (by simp only [cc2] at h6; first | exact Or.inl ⟨Int32.not_le.mp h6, rfl⟩ | exact Or.inr ⟨Int32.not_lt.mpr h6, rfl⟩)⟩)
theorem c_byteAt0 (l : Launch) (G : Gl) (σ : Mm) (o : Nat) (ho : isO o) (w : Nat) (i : Int32) (hw : w < 5) : AMi l G 2 mX5_byteAt [.ref (o), .int (nI w), .int i] σ (fun r σ' => σ' = σ ∧ r = if i < σ (o + 2) w ∧ 0 ≤ i ∧ i < 50 then σ (o + 1) (50 * w + i.toNatClampNeg) else -(nI 1)) := by
  rcases ho with rfl | rfl | rfl
  · exact c_byteAt0_1 l G σ w i hw
  · exact c_byteAt0_8 l G σ w i hw
  · exact c_byteAt0_15 l G σ w i hw
theorem c_size (l : Launch) (G : Gl) (σ : Mm) (o : Nat) (ho : isO o) (V : Mm) (hV : vw σ (o + 1) = V) (hv : wf V) (w : Nat) (hw : w < 5) : AMi l G 1 mX5_sizeOf [.ref o, .int (nI w)] σ (fun r σ' => σ' = σ ∧ r = nI (vS V w)) :=
  (c_sizeOf l G σ o ho w hw).mono fun r σ' h => ⟨h.1, by rw [h.2, show o + 2 = o + 1 + 1 from rfl, vw_at hV 1 (by omega), wf_s hv hw]⟩
theorem c_byteAt (l : Launch) (G : Gl) (σ : Mm) (o : Nat) (ho : isO o) (V : Mm) (hV : vw σ (o + 1) = V) (hv : wf V) (w i : Nat) (hw : w < 5) (hi : i < vS V w) : AMi l G 2 mX5_byteAt [.ref o, .int (nI w), .int (nI i)] σ (fun r σ' => σ' = σ ∧ r = V 0 (50 * w + i)) :=
  (c_byteAt0 l G σ o ho w (nI i) hw).mono fun r σ' h => ⟨h.1, by
    have h5 := wf_s50 hv hw
    rw [h.2, show o + 2 = o + 1 + 1 from rfl, show o + 1 = o + 1 + 0 from rfl, show o + 1 + 0 + 1 = o + 1 + 1 from rfl, vw_at hV 1 (by omega), vw_at hV 0 (by omega), wf_s hv hw, if_pos ⟨nI_lt hi (by omega), nI_pos' (by omega), nI_lt (b := 50) (by omega) (by omega)⟩, nI_clamp (by omega)]⟩
theorem c_byteAtP (l : Launch) (G : Gl) (σ : Mm) (o : Nat) (ho : isO o) (V : Mm) (hV : vw σ (o + 1) = V) (hv : wf V) (w i : Nat) (hw : w < 5) (hi : i < vS V w) : AMi l G 2 mX5_byteAt [.ref o, .int (nI w), .int (nI i - nI 1)] σ (fun r σ' => σ' = σ ∧ r = ahV V w i) :=
  (c_byteAt0 l G σ o ho w (nI i - nI 1) hw).mono fun r σ' h => ⟨h.1, by
    have h5 := wf_s50 hv hw
    rw [h.2, show o + 2 = o + 1 + 1 from rfl, show o + 1 = o + 1 + 0 from rfl, show o + 1 + 0 + 1 = o + 1 + 1 from rfl, vw_at hV 1 (by omega), vw_at hV 0 (by omega), wf_s hv hw]
    unfold ahV
    cases i with
    | zero => rw [if_neg (fun z => absurd z.2.1 (by decide +kernel)), if_pos rfl]
    | succ i => rw [pk_sub (by omega), if_pos ⟨nI_lt (by omega) (by omega), nI_pos' (by omega), nI_lt (b := 50) (by omega) (by omega)⟩, nI_clamp (by omega), if_neg (by omega)]⟩
theorem c_byteAtB (l : Launch) (G : Gl) (σ : Mm) (o : Nat) (ho : isO o) (V : Mm) (hV : vw σ (o + 1) = V) (hv : wf V) (w i : Nat) (hw : w < 5) (hi : i < vS V w) : AMi l G 2 mX5_byteAt [.ref o, .int (nI w), .int (nI i + nI 1)] σ (fun r σ' => σ' = σ ∧ r = bhV V w i) :=
  (c_byteAt0 l G σ o ho w (nI i + nI 1) hw).mono fun r σ' h => ⟨h.1, by
    have h5 := wf_s50 hv hw
    rw [h.2, show o + 2 = o + 1 + 1 from rfl, show o + 1 = o + 1 + 0 from rfl, show o + 1 + 0 + 1 = o + 1 + 1 from rfl, vw_at hV 1 (by omega), vw_at hV 0 (by omega), wf_s hv hw, nI_add]
    unfold bhV
    by_cases g : i + 1 < vS V w
    · rw [if_pos ⟨nI_lt g (by omega), nI_pos' (by omega), nI_lt (b := 50) (by omega) (by omega)⟩, nI_clamp (by omega), if_pos g]
    · rw [if_neg (fun z => nI_nlt (by omega) (by omega) z.1), if_neg g]⟩
set_option maxRecDepth 20000 in
set_option maxHeartbeats 4000000 in
theorem c_lose_1 (l : Launch) (G : Gl) (σ : Mm) (w : Nat) (hw : w < 5) : AMv l G 1 mX5_lose [.ref 1, .int (nI w)] σ (fun σ' => σ' = sw σ 3 w (nI 0)) := by
  refine rw_inV 5 (by decide +kernel) rfl rfl ?_
  intro E hE hX
  subst hE
  refine rw_go hX [(0, .aload_n 0), (1, .getfield 15), (4, .iload_n 1), (5, .iconst 0)] (by decide +kernel) (Ps := []) (pc' := 6) (lv' := [(0, .ref 1), (1, .int (nI w))]) (st' := [.int (nI 0), .int (nI w), .ref 3]) (σ' := σ) rfl True.intro ?_
  refine rw_callSv hX (as := [.ref 3, .int (nI w), .int (nI 0)]) (rest := []) (c_place _ _ _ 3 5 w (nI 0) (by decide +kernel) (by omega) hw) (by decide +kernel) msX9_place (Or.inr lk5_56) rfl (by decide) (Nat.le_of_ble_eq_true rfl) rfl ?_
  intro σ1 hr
  rw [hr]
  clear hr σ1
  exact rw_vret hX (by decide +kernel) (rfl)
set_option maxRecDepth 20000 in
set_option maxHeartbeats 4000000 in
theorem c_lose_8 (l : Launch) (G : Gl) (σ : Mm) (w : Nat) (hw : w < 5) : AMv l G 1 mX5_lose [.ref 8, .int (nI w)] σ (fun σ' => σ' = sw σ 10 w (nI 0)) := by
  refine rw_inV 5 (by decide +kernel) rfl rfl ?_
  intro E hE hX
  subst hE
  refine rw_go hX [(0, .aload_n 0), (1, .getfield 15), (4, .iload_n 1), (5, .iconst 0)] (by decide +kernel) (Ps := []) (pc' := 6) (lv' := [(0, .ref 8), (1, .int (nI w))]) (st' := [.int (nI 0), .int (nI w), .ref 10]) (σ' := σ) rfl True.intro ?_
  refine rw_callSv hX (as := [.ref 10, .int (nI w), .int (nI 0)]) (rest := []) (c_place _ _ _ 10 5 w (nI 0) (by decide +kernel) (by omega) hw) (by decide +kernel) msX9_place (Or.inr lk5_56) rfl (by decide) (Nat.le_of_ble_eq_true rfl) rfl ?_
  intro σ1 hr
  rw [hr]
  clear hr σ1
  exact rw_vret hX (by decide +kernel) (rfl)
set_option maxRecDepth 20000 in
set_option maxHeartbeats 4000000 in
theorem c_lose_15 (l : Launch) (G : Gl) (σ : Mm) (w : Nat) (hw : w < 5) : AMv l G 1 mX5_lose [.ref 15, .int (nI w)] σ (fun σ' => σ' = sw σ 17 w (nI 0)) := by
  refine rw_inV 5 (by decide +kernel) rfl rfl ?_
  intro E hE hX
  subst hE
  refine rw_go hX [(0, .aload_n 0), (1, .getfield 15), (4, .iload_n 1), (5, .iconst 0)] (by decide +kernel) (Ps := []) (pc' := 6) (lv' := [(0, .ref 15), (1, .int (nI w))]) (st' := [.int (nI 0), .int (nI w), .ref 17]) (σ' := σ) rfl True.intro ?_
  refine rw_callSv hX (as := [.ref 17, .int (nI w), .int (nI 0)]) (rest := []) (c_place _ _ _ 17 5 w (nI 0) (by decide +kernel) (by omega) hw) (by decide +kernel) msX9_place (Or.inr lk5_56) rfl (by decide) (Nat.le_of_ble_eq_true rfl) rfl ?_
  intro σ1 hr
  rw [hr]
  clear hr σ1
  exact rw_vret hX (by decide +kernel) (rfl)
theorem c_lose (l : Launch) (G : Gl) (σ : Mm) (o : Nat) (ho : isO o) (w : Nat) (hw : w < 5) : AMv l G 1 mX5_lose [.ref (o), .int (nI w)] σ (fun σ' => σ' = sw σ (o + 2) w (nI 0)) := by
  rcases ho with rfl | rfl | rfl
  · exact c_lose_1 l G σ w hw
  · exact c_lose_8 l G σ w hw
  · exact c_lose_15 l G σ w hw
