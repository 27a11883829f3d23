/-! the class's own small methods -/
def XQ (σ σ' : Mm) : Prop := ∀ k, k < 15 ∨ 60 < k → σ' k = σ k
theorem XQ.trans {σ τ υ : Mm} (h : XQ σ τ) (g : XQ τ υ) : XQ σ υ := fun k hk => (g k hk).trans (h k hk)
theorem XQ_S {σ τ : Mm} (h : SQ σ τ) : XQ σ τ := fun k hk => h k (by omega)
theorem XQ_rfl (σ : Mm) : XQ σ σ := fun _ _ => rfl
theorem rng {x : Int32} {m : Nat} (hm : m < 2 ^ 31) (h : 0 ≤ x ∧ x ≤ nI m) : ∃ k, k < m + 1 ∧ x = nI k := by
  obtain ⟨k, h1, h2⟩ := nI_of2 (nI_toInt hm) (Int32.not_lt.mpr h.1) h.2
  exact ⟨k, by omega, h2⟩
theorem rngO {x : Int32} {m : Nat} (hm : m < 2 ^ 31) (h : 0 ≤ x ∧ x < nI m) : ∃ k, k < m ∧ x = nI k := by
  obtain ⟨k, h1, h2⟩ := rng hm ⟨h.1, Int32.le_of_lt h.2⟩
  refine ⟨k, ?_, h2⟩
  have h3 := h.2
  rw [h2] at h3
  exact (nI_ltI (by omega) hm).mp h3
theorem rngC {x : Int32} {m : Nat} (hm : m < 2 ^ 31) (h1 : ¬ x < 0) (h2 : ¬ x ≥ nI m) : ∃ k, k < m ∧ x = nI k := rngO hm ⟨Int32.not_lt.mp h1, Int32.not_le.mp h2⟩
def shN (c L q : Nat) : Nat := if q = 0 then c else if L = 0 then 0 else 100 * c / L
theorem shN_100 {c L q : Nat} (h : c ≤ L) (hL : L ≤ 50) : shN c L q ≤ 100 := by
  unfold shN
  split
  · omega
  · split
    · omega
    · exact Nat.div_le_of_le_mul (by rw [Nat.mul_comm]; exact Nat.mul_le_mul h (Nat.le_refl _))
/-- the shelf that is thought of -/
def drV (V : Mm) (w : Nat) (z : Int32) (n : Nat) : Mm := fun j => if j = 0 then drR (V 0) w (vS V w) z n else V j
theorem drV_n (V : Mm) (w : Nat) (z : Int32) (n : Nat) {j : Nat} (h : j ≠ 0) : drV V w z n j = V j := if_neg h
theorem wf_V {V V' : Mm} (h : wf V) (e : ∀ j, j ≠ 0 → V' j = V j) : wf V' := by
  unfold wf vS vK vD vR at *
  rw [e 1 (by decide), e 2 (by decide), e 3 (by decide), e 4 (by decide)]
  exact h
theorem wf_dr {V : Mm} (h : wf V) (w : Nat) (z : Int32) (n : Nat) : wf (drV V w z n) := wf_V h fun j hj => drV_n V w z n hj
theorem tkM_vw {σ V : Mm} {a b : Nat} (hab : a + 5 < b ∨ b + 5 < a) (hV : vw σ (a + 1) = V) : vw (tkM a b σ) (b + 1) = V ∧ ∀ k, k ∉ [b + 1, b + 2, b + 3, b + 4, b + 5] → tkM a b σ k = σ k := by
  refine ⟨?_, fun k hk => ?_⟩
  · rw [← hV]
    funext j
    unfold vw
    by_cases g : j < 5
    · rw [if_pos g, if_pos g]
      unfold tkM
      rcases (show j = 0 ∨ j = 1 ∨ j = 2 ∨ j = 3 ∨ j = 4 by omega) with rfl | rfl | rfl | rfl | rfl
      · rw [sr_n _ _ (by omega), sr_n _ _ (by omega), sr_n _ _ (by omega), sr_n _ _ (by omega), Nat.add_zero, sr_s, Nat.add_zero]
      · rw [sr_n _ _ (by omega), sr_n _ _ (by omega), sr_n _ _ (by omega), sr_s]
      · rw [sr_n _ _ (by omega), sr_n _ _ (by omega), sr_s]
      · rw [sr_n _ _ (by omega), sr_s]
      · rw [sr_s]
    · rw [if_neg g, if_neg g]
  · simp only [List.mem_cons, List.not_mem_nil, or_false, not_or] at hk
    unfold tkM
    rw [sr_n _ _ hk.2.2.2.2, sr_n _ _ hk.2.2.2.1, sr_n _ _ hk.2.2.1, sr_n _ _ hk.2.1, sr_n _ _ hk.1]
/-- the first number that is otherwise -/
def FO (E : Nat → Prop) (a b : Nat) (r : Int32) : Prop := (∃ i, r = nI i ∧ i < max a b ∧ (∀ j, j < i → j < a ∧ j < b ∧ E j) ∧ (i < a → i < b → ¬ E i)) ∨ (r = -(nI 1) ∧ a = b ∧ ∀ j, j < a → E j)
theorem m1_ne {n : Nat} (h : n < 2 ^ 31) : (nI n : Int32) ≠ -(nI 1) := by
  intro z
  have := nI_pos' h
  rw [z] at this
  exact absurd this (by decide +kernel)
theorem FO_no {E : Nat → Prop} {a b : Nat} {r : Int32} (h : FO E a b r) (ha : a < 2 ^ 30) (hb : b < 2 ^ 30) : r = -(nI 1) ↔ (a = b ∧ ∀ j, j < b → E j) := by
  rcases h with ⟨i, h1, h2, h3, h4⟩ | ⟨h1, h2, h3⟩
  · constructor
    · intro z; rw [h1] at z; exact absurd z (m1_ne (by omega))
    · rintro ⟨z1, z2⟩; exact absurd (z2 i (by omega)) (h4 (by omega) (by omega))
  · exact ⟨fun _ => ⟨h2, by rw [← h2]; exact h3⟩, fun _ => h1⟩
theorem FO_u {E E' : Nat → Prop} {a b : Nat} {r r' : Int32} (h : FO E a b r) (h' : FO E' a b r') (e : ∀ j, j < a → j < b → (E j ↔ E' j)) : r = r' := by
  rcases h with ⟨i, h1, h2, h3, h4⟩ | ⟨h1, h2, h3⟩ <;> rcases h' with ⟨k, g1, g2, g3, g4⟩ | ⟨g1, g2, g3⟩
  · rw [h1, g1]
    rcases Nat.lt_trichotomy i k with q | q | q
    · obtain ⟨x1, x2, x3⟩ := g3 i q
      exact absurd ((e i x1 x2).mpr x3) (h4 x1 x2)
    · rw [q]
    · obtain ⟨x1, x2, x3⟩ := h3 k q
      exact absurd ((e k x1 x2).mp x3) (g4 x1 x2)
  · exact absurd ((e i (by omega) (by omega)).mpr (g3 i (by omega))) (h4 (by omega) (by omega))
  · exact absurd ((e k (by omega) (by omega)).mp (h3 k (by omega))) (g4 (by omega) (by omega))
  · rw [h1, g1]
def LTd (W : Nat → Prop) (r : Int32) : Prop := (∃ ls, 1 ≤ ls ∧ ls ≤ 50 ∧ W ls ∧ (∀ x, 1 ≤ x → x < ls → ¬ W x) ∧ r = nI ls) ∨ (r = -(nI 1) ∧ ∀ x, 1 ≤ x → x ≤ 50 → ¬ W x)
def GTd (W : Nat → Prop) (r : Int32) : Prop := (∃ ls, 1 ≤ ls ∧ ls ≤ 50 ∧ W ls ∧ (∀ x, ls < x → x ≤ 50 → ¬ W x) ∧ r = nI ls) ∨ (r = -(nI 1) ∧ ∀ x, 1 ≤ x → x ≤ 50 → ¬ W x)
theorem LTd_u {W W' : Nat → Prop} {r r' : Int32} (h : LTd W r) (h' : LTd W' r') (e : ∀ x, 1 ≤ x → x ≤ 50 → (W x ↔ W' x)) : r = r' := by
  rcases h with ⟨i, h1, h2, h3, h4, h5⟩ | ⟨h1, h2⟩ <;> rcases h' with ⟨k, g1, g2, g3, g4, g5⟩ | ⟨g1, g2⟩
  · rw [h5, g5]
    rcases Nat.lt_trichotomy i k with q | q | q
    · exact absurd ((e i h1 h2).mp h3) (g4 i h1 q)
    · rw [q]
    · exact absurd ((e k g1 g2).mpr g3) (h4 k g1 q)
  · exact absurd ((e i h1 h2).mp h3) (g2 i h1 h2)
  · exact absurd ((e k g1 g2).mpr g3) (h2 k g1 g2)
  · rw [h1, g1]
theorem GTd_u {W W' : Nat → Prop} {r r' : Int32} (h : GTd W r) (h' : GTd W' r') (e : ∀ x, 1 ≤ x → x ≤ 50 → (W x ↔ W' x)) : r = r' := by
  rcases h with ⟨i, h1, h2, h3, h4, h5⟩ | ⟨h1, h2⟩ <;> rcases h' with ⟨k, g1, g2, g3, g4, g5⟩ | ⟨g1, g2⟩
  · rw [h5, g5]
    rcases Nat.lt_trichotomy i k with q | q | q
    · exact absurd ((e k g1 g2).mpr g3) (h4 k q g2)
    · rw [q]
    · exact absurd ((e i h1 h2).mp h3) (g4 i q h2)
  · exact absurd ((e i h1 h2).mp h3) (g2 i h1 h2)
  · exact absurd ((e k g1 g2).mpr g3) (h2 k g1 g2)
  · rw [h1, g1]
def Eq62 (V σ : Mm) (s w : Nat) (S : Nat → Option Nat) (j : Nat) : Prop := σ 62 (40 * s + j) = nI (PL V w (tPi S (lC V w) j))
def WTc (V σ : Mm) (s w n ls : Nat) : Prop := 2 * spN (sT V w ls) (lC V w) = n ∧ ∀ j, j < n → Eq62 V σ s w (sT V w ls) j
def rawB (x : Int32) : Bool := isL x || isD x || decide (x = nI 32) || decide (x = nI 10) || decide (x = nI 34)
def rawA (f : Nat → Int32) (n : Nat) : Prop := 0 < n ∧ ∀ j, j < n → rawB (f j) = true
set_option maxRecDepth 20000 in
set_option maxHeartbeats 4000000 in
theorem c_missing (l : Launch) (G : Gl) (σ : Mm) (V : Mm) (w : Nat) (hV : vw σ 2 = V) (hv : wf V) (hw : w < 5) : AMi l G 2 mX9_isMissing [.ref 0, .int (nI w)] σ (fun r σ' => σ' = σ ∧ r = bz (decide (vS V w = 0))) := by
  refine rw_inI 9 (by decide +kernel) rfl rfl ?_
  intro E hE hX
  subst hE
  have hs5 := wf_s50 hv hw
  refine rw_go hX [(0, .aload_n 0), (1, .getfield 12), (4, .iload_n 1)] (by decide +kernel) (Ps := []) (pc' := 5) (lv' := [(0, .ref 0), (1, .int (nI w))]) (st' := [.int (nI w), .ref 1]) (σ' := σ) rfl True.intro ?_
  refine rw_callVi hX (as := [.int (nI w)]) (rest := []) (c_size _ _ _ 1 (Or.inl rfl) V hV hv w hw) (by decide +kernel) mvX5_sizeOf lk9_81 (ci := 4) rfl rfl rfl (by decide) (Nat.le_of_ble_eq_true rfl) rfl ?_
  intro r1 σ1 hr
  rw [hr.1, show r1 = nI (vS V w) from hr.2]
  clear hr σ1 r1
  refine rw_if hX (tgt := 15) (cnd := .gt) (off := 7) (by decide +kernel) (by decide) (fun h8 => ?_) (fun h8 => ?_)
  · replace h8 := zn_gtT h8
    refine rw_go hX [(15, .iconst 0)] (by decide +kernel) (Ps := []) (pc' := 16) (lv' := [(0, .ref 0), (1, .int (nI w))]) (st' := [.int (nI 0)]) (σ' := σ) rfl True.intro ?_
    exact rw_zret hX (by decide +kernel) (Or.inl rfl) (⟨rfl, by first | (rw [decide_eq_true (by omega)]; rfl) | (rw [decide_eq_false (by omega)]; rfl)⟩)
  · replace h8 := zn_gtF h8
    refine rw_go hX [(11, .iconst 1), (12, .goto 4)] (by decide +kernel) (Ps := []) (pc' := 16) (lv' := [(0, .ref 0), (1, .int (nI w))]) (st' := [.int (nI 1)]) (σ' := σ) rfl True.intro ?_
    exact rw_zret hX (by decide +kernel) (Or.inr rfl) (⟨rfl, by first | (rw [decide_eq_true (by omega)]; rfl) | (rw [decide_eq_false (by omega)]; rfl)⟩)
set_option maxRecDepth 20000 in
set_option maxHeartbeats 4000000 in
theorem c_tape1 (l : Launch) (G : Gl) (σ : Mm) (v : Int32) (t : Nat) (ht : σ 0 6 = nI t) (ht5 : t < 50) : AMv l G 0 mX9_tapeByte [.ref 0, .int v, .int (nI 1)] σ (fun σ' => σ' = sw (sw σ 65 t v) 0 6 (nI (t + 1))) := by
  refine rw_inV 9 (by decide +kernel) rfl rfl ?_
  intro E hE hX
  subst hE
  refine rw_go hX [(0, .iload_n 2)] (by decide +kernel) (Ps := []) (pc' := 1) (lv' := [(0, .ref 0), (1, .int v), (2, .int (nI 1))]) (st' := [.int (nI 1)]) (σ' := σ) rfl True.intro ?_
  refine rw_if hX (tgt := 43) (cnd := .eq) (off := 42) (by decide +kernel) (by decide) (fun h1 => ?_) (fun h1 => ?_)
  · exact absurd h1 (by simp only [cz, cc2]; decide +kernel)
  · skip
    refine rw_go hX [(4, .aload_n 0), (5, .getfield 40)] (by decide +kernel) (Ps := []) (pc' := 8) (lv' := [(0, .ref 0), (1, .int v), (2, .int (nI 1))]) (st' := [.int (σ 0 6)]) (σ' := σ) rfl True.intro ?_
    rw [show (σ 0 6) = nI t from (by rw [ht])]
    refine rw_if hX (tgt := 43) (cnd := .lt) (off := 35) (by decide +kernel) (by decide) (fun h8 => ?_) (fun h8 => ?_)
    · exact zn_ltT h8
    · clear h8
      refine rw_go hX [(11, .aload_n 0), (12, .getfield 40)] (by decide +kernel) (Ps := []) (pc' := 15) (lv' := [(0, .ref 0), (1, .int v), (2, .int (nI 1))]) (st' := [.int (σ 0 6)]) (σ' := σ) rfl True.intro ?_
      rw [show (σ 0 6) = nI t from (by rw [ht])]
      refine rw_go hX [(15, .aload_n 0), (16, .getfield 36), (19, .arraylength)] (by decide +kernel) (Ps := []) (pc' := 20) (lv' := [(0, .ref 0), (1, .int v), (2, .int (nI 1))]) (st' := [.int (nI 50), .int (nI t)]) (σ' := σ) rfl True.intro ?_
      refine rw_icmp hX (tgt := 43) (cnd := .ge) (off := 23) (by decide +kernel) (by decide) (fun h20 => ?_) (fun h20 => ?_)
      · replace h20 := c2_geT h20
        omega
      · replace h20 := c2_geF h20
        refine rw_go hX [(23, .aload_n 0), (24, .getfield 36), (27, .aload_n 0), (28, .getfield 40)] (by decide +kernel) (Ps := []) (pc' := 31) (lv' := [(0, .ref 0), (1, .int v), (2, .int (nI 1))]) (st' := [.int (σ 0 6), .ref 65]) (σ' := σ) rfl True.intro ?_
        rw [show (σ 0 6) = nI t from (by rw [ht])]
        refine rw_go hX [(31, .iload_n 1), (32, .iastore)] (by decide +kernel) (Ps := [vp_in (nI t) 50]) (pc' := 33) (lv' := [(0, .ref 0), (1, .int v), (2, .int (nI 1))]) (st' := []) (σ' := sw σ 65 (nI t).toNatClampNeg v) rfl (vp_in_nI (by omega) (by omega)) ?_
        rw [show (sw σ 65 (nI t).toNatClampNeg v) = sw σ 65 t v from (by rw [nI_clamp (by omega)])]
        refine rw_go hX [(33, .aload_n 0), (34, .dup), (35, .getfield 40)] (by decide +kernel) (Ps := []) (pc' := 38) (lv' := [(0, .ref 0), (1, .int v), (2, .int (nI 1))]) (st' := [.int ((sw σ 65 t v) 0 6), .ref 0]) (σ' := sw σ 65 t v) rfl True.intro ?_
        rw [show ((sw σ 65 t v) 0 6) = nI t from (by rw [sw_ne _ _ _ (by decide), ht])]
        refine rw_go hX [(38, .iconst 1), (39, .iadd)] (by decide +kernel) (Ps := []) (pc' := 40) (lv' := [(0, .ref 0), (1, .int v), (2, .int (nI 1))]) (st' := [.int (nI t + nI 1), .ref 0]) (σ' := sw σ 65 t v) rfl True.intro ?_
        rw [show (nI t + nI 1) = nI (t + 1) from nI_add _ _]
        refine rw_go hX [(40, .putfield 40)] (by decide +kernel) (Ps := []) (pc' := 43) (lv' := [(0, .ref 0), (1, .int v), (2, .int (nI 1))]) (st' := []) (σ' := sw (sw σ 65 t v) 0 6 (nI (t + 1))) rfl True.intro ?_
        exact rw_vret hX (by decide +kernel) (rfl)
set_option maxRecDepth 20000 in
set_option maxHeartbeats 4000000 in
theorem c_tape0 (l : Launch) (G : Gl) (σ : Mm) (v : Int32) : AMv l G 0 mX9_tapeByte [.ref 0, .int v, .int (nI 0)] σ (fun σ' => σ' = σ) := by
  refine rw_inV 9 (by decide +kernel) rfl rfl ?_
  intro E hE hX
  subst hE
  refine rw_go hX [(0, .iload_n 2)] (by decide +kernel) (Ps := []) (pc' := 1) (lv' := [(0, .ref 0), (1, .int v), (2, .int (nI 0))]) (st' := [.int (nI 0)]) (σ' := σ) rfl True.intro ?_
  refine rw_if hX (tgt := 43) (cnd := .eq) (off := 42) (by decide +kernel) (by decide) (fun h1 => ?_) (fun h1 => ?_)
  · skip
    exact rw_vret hX (by decide +kernel) (rfl)
  · exact absurd (by simp only [cz, cc2]; decide +kernel) h1
set_option maxRecDepth 20000 in
set_option maxHeartbeats 4000000 in
theorem c_rawText (l : Launch) (G : Gl) (σ : Mm) (t : Nat) (ht5 : t ≤ 50) : AMi l G 2 mX9_isRawText [.ref 0, .int (nI t)] σ (fun r σ' => σ' = σ ∧ ((rawA (σ 65) t ∧ r = nI 1) ∨ (¬ rawA (σ 65) t ∧ r = nI 0))) := by
  refine rw_inI 9 (by decide +kernel) rfl rfl ?_
  intro E hE hX
  subst hE
  refine rw_go hX [(0, .iconst 0), (1, .istore_n 2)] (by decide +kernel) (Ps := []) (pc' := 2) (lv' := [(0, .ref 0), (1, .int (nI t)), (2, .int (nI 0))]) (st' := []) (σ' := σ) rfl True.intro ?_
  have L2 : ∀ (μ2 : Nat) (i : Nat), μ2 = t - i → (i ≤ t) → (∀ j, j < i → rawB (σ 65 j) = true) → RW E G 2 3 (QI E G (fun r σ' => σ' = σ ∧ ((rawA (σ 65) t ∧ r = nI 1) ∨ (¬ rawA (σ 65) t ∧ r = nI 0)))) 2 [(0, .ref 0), (1, .int (nI t)), (2, .int (nI i))] [] σ := by
    intro μ2
    induction μ2 using Nat.strongRecOn with
    | ind μ2 ih2 =>
      intro i hμ2 hi hr0
      refine rw_go hX [(2, .iload_n 2), (3, .iload_n 1)] (by decide +kernel) (Ps := []) (pc' := 4) (lv' := [(0, .ref 0), (1, .int (nI t)), (2, .int (nI i))]) (st' := [.int (nI t), .int (nI i)]) (σ' := σ) rfl True.intro ?_
      refine rw_icmp hX (tgt := 36) (cnd := .ge) (off := 32) (by decide +kernel) (by decide) (fun h4 => ?_) (fun h4 => ?_)
      · replace h4 := c2_geT h4
        have e : i = t := by omega
        refine rw_go hX [(36, .iload_n 1)] (by decide +kernel) (Ps := []) (pc' := 37) (lv' := [(0, .ref 0), (1, .int (nI t)), (2, .int (nI i))]) (st' := [.int (nI t)]) (σ' := σ) rfl True.intro ?_
        refine rw_if hX (tgt := 44) (cnd := .le) (off := 7) (by decide +kernel) (by decide) (fun h37 => ?_) (fun h37 => ?_)
        · replace h37 := zn_leT h37
          refine rw_go hX [(44, .iconst 0)] (by decide +kernel) (Ps := []) (pc' := 45) (lv' := [(0, .ref 0), (1, .int (nI t)), (2, .int (nI i))]) (st' := [.int (nI 0)]) (σ' := σ) rfl True.intro ?_
          exact rw_zret hX (by decide +kernel) (by first | exact Or.inl rfl | exact Or.inr rfl) (⟨rfl, by first | exact Or.inl ⟨⟨by omega, by rw [← e]; exact hr0⟩, rfl⟩ | exact Or.inr ⟨fun z => by have := z.1; omega, rfl⟩⟩)
        · replace h37 := zn_leF h37
          refine rw_go hX [(40, .iconst 1), (41, .goto 4)] (by decide +kernel) (Ps := []) (pc' := 45) (lv' := [(0, .ref 0), (1, .int (nI t)), (2, .int (nI i))]) (st' := [.int (nI 1)]) (σ' := σ) rfl True.intro ?_
          exact rw_zret hX (by decide +kernel) (by first | exact Or.inl rfl | exact Or.inr rfl) (⟨rfl, by first | exact Or.inl ⟨⟨by omega, by rw [← e]; exact hr0⟩, rfl⟩ | exact Or.inr ⟨fun z => by have := z.1; omega, rfl⟩⟩)
      · replace h4 := c2_geF h4
        refine rw_go hX [(7, .iload_n 2), (8, .aload_n 0), (9, .getfield 36), (12, .arraylength)] (by decide +kernel) (Ps := []) (pc' := 13) (lv' := [(0, .ref 0), (1, .int (nI t)), (2, .int (nI i))]) (st' := [.int (nI 50), .int (nI i)]) (σ' := σ) rfl True.intro ?_
        refine rw_icmp hX (tgt := 36) (cnd := .ge) (off := 23) (by decide +kernel) (by decide) (fun h13 => ?_) (fun h13 => ?_)
        · replace h13 := c2_geT h13
          omega
        · replace h13 := c2_geF h13
          refine rw_go hX [(16, .aload_n 0), (17, .getfield 36), (20, .iload_n 2), (21, .iaload)] (by decide +kernel) (Ps := [vp_in (nI i) 50]) (pc' := 22) (lv' := [(0, .ref 0), (1, .int (nI t)), (2, .int (nI i))]) (st' := [.int (σ 65 (nI i).toNatClampNeg)]) (σ' := σ) rfl (vp_in_nI (by omega) (by omega)) ?_
          rw [show (σ 65 (nI i).toNatClampNeg) = σ 65 i from (by rw [nI_clamp (by omega)])]
          refine rw_callSi hX (as := [.int (σ 65 i)]) (rest := []) (c_X9_isRawByte _ _ _ (σ 65 i)) (by decide +kernel) msX9_isRawByte (Or.inl lk9_320) rfl (by decide) (Nat.le_of_ble_eq_true rfl) rfl ?_
          intro r1 σ1 hr
          rw [hr.1, show r1 = bz (rawB (σ 65 i)) from hr.2]
          clear hr σ1 r1
          refine rw_if hX (tgt := 30) (cnd := .ne) (off := 5) (by decide +kernel) (by decide) (fun h25 => ?_) (fun h25 => ?_)
          · replace h25 := zb_neT h25
            refine rw_go hX [(30, .iinc 2 1), (33, .goto (-31))] (by decide +kernel) (Ps := []) (pc' := 2) (lv' := [(0, .ref 0), (1, .int (nI t)), (2, .int (nI i + nI 1))]) (st' := []) (σ' := σ) rfl True.intro ?_
            refine rw_lsub (ks := [0, 1, 2]) (lv' := [(0, .ref 0), (1, .int (nI t)), (2, .int (nI i + nI 1))]) rfl ?_
            rw [nI_add]
            exact ih2 (t - (i + 1)) (by omega) (i + 1) rfl (by omega) (fun j hj => by
              rcases Nat.lt_or_ge j i with q | q
              · exact hr0 j q
              · rw [show j = i by omega]; exact h25)
          · replace h25 := zb_neF h25
            have hno : ¬ rawA (σ 65) t := fun z => by rw [z.2 i (by omega)] at h25; cases h25
            refine rw_go hX [(28, .iconst 0)] (by decide +kernel) (Ps := []) (pc' := 29) (lv' := [(0, .ref 0), (1, .int (nI t)), (2, .int (nI i))]) (st' := [.int (nI 0)]) (σ' := σ) rfl True.intro ?_
            exact rw_zret hX (by decide +kernel) (by first | exact Or.inl rfl | exact Or.inr rfl) (⟨rfl, Or.inr ⟨hno, rfl⟩⟩)
  refine rw_lsub (ks := [0, 1, 2]) (lv' := [(0, .ref 0), (1, .int (nI t)), (2, .int (nI 0))]) rfl ?_
  exact L2 t 0 rfl (by omega) (fun j hj => by omega)
set_option maxRecDepth 20000 in
set_option maxHeartbeats 4000000 in
theorem c_tellShare (l : Launch) (G : Gl) (σ : Mm) (w c L q : Nat) (hw : w < 5) (hc : σ 53 1 = nI c) (hcL : c ≤ L) (hL : σ 24 w = nI L) (hL5 : L ≤ 50) (hq : q < 2) : AMi l G 2 mX9_tellShare [.ref 0, .int (nI w), .int (nI q)] σ (fun r σ' => σ' = σ ∧ r = nI (shN c L q)) := by
  refine rw_inI 9 (by decide +kernel) rfl rfl ?_
  intro E hE hX
  subst hE
  refine rw_go hX [(0, .aload_n 0), (1, .getfield 25), (4, .getfield 227), (7, .getfield 323)] (by decide +kernel) (Ps := []) (pc' := 10) (lv' := [(0, .ref 0), (1, .int (nI w)), (2, .int (nI q))]) (st' := [.int (σ 53 1)]) (σ' := σ) rfl True.intro ?_
  rw [show (σ 53 1) = nI c from (by rw [hc])]
  refine rw_go hX [(10, .istore_n 3), (11, .aload_n 0), (12, .getfield 25), (15, .getfield 105), (18, .iload_n 1)] (by decide +kernel) (Ps := []) (pc' := 19) (lv' := [(0, .ref 0), (1, .int (nI w)), (2, .int (nI q)), (3, .int (nI c))]) (st' := [.int (nI w), .ref 23]) (σ' := σ) rfl True.intro ?_
  refine rw_callVi hX (as := [.int (nI w)]) (rest := []) (c_letterCount _ _ _ w hw) (by decide +kernel) mvX3_letterCount lk9_115 (ci := 2) rfl rfl rfl (by decide) (Nat.le_of_ble_eq_true rfl) rfl ?_
  intro r1 σ1 hr
  rw [hr.1, show r1 = nI L from hr.2.trans hL]
  clear hr σ1 r1
  refine rw_go hX [(22, .istore 4), (24, .iload_n 2)] (by decide +kernel) (Ps := []) (pc' := 25) (lv' := [(0, .ref 0), (1, .int (nI w)), (2, .int (nI q)), (3, .int (nI c)), (4, .int (nI L))]) (st' := [.int (nI q)]) (σ' := σ) rfl True.intro ?_
  refine rw_if hX (tgt := 30) (cnd := .ne) (off := 5) (by decide +kernel) (by decide) (fun h25 => ?_) (fun h25 => ?_)
  · replace h25 := zn_neT h25
    refine rw_go hX [(30, .iload 4)] (by decide +kernel) (Ps := []) (pc' := 32) (lv' := [(0, .ref 0), (1, .int (nI w)), (2, .int (nI q)), (3, .int (nI c)), (4, .int (nI L))]) (st' := [.int (nI L)]) (σ' := σ) rfl True.intro ?_
    refine rw_if hX (tgt := 39) (cnd := .gt) (off := 7) (by decide +kernel) (by decide) (fun h32 => ?_) (fun h32 => ?_)
    · replace h32 := zn_gtT h32
      refine rw_go hX [(39, .bipush 100), (41, .iload_n 3), (42, .imul)] (by decide +kernel) (Ps := []) (pc' := 43) (lv' := [(0, .ref 0), (1, .int (nI w)), (2, .int (nI q)), (3, .int (nI c)), (4, .int (nI L))]) (st' := [.int (nI 100 * nI c)]) (σ' := σ) rfl True.intro ?_
      rw [show (nI 100 * nI c) = nI (100 * c) from pk_mul _ _]
      refine rw_go hX [(43, .iload 4), (45, .idiv)] (by decide +kernel) (Ps := [¬ (nI L) = 0]) (pc' := 46) (lv' := [(0, .ref 0), (1, .int (nI w)), (2, .int (nI q)), (3, .int (nI c)), (4, .int (nI L))]) (st' := [.int (nI (100 * c) / nI L)]) (σ' := σ) rfl (fun z9 => by have := zn_eqT z9; omega) ?_
      exact rw_iret hX (by decide +kernel) (⟨rfl, by
  unfold shN
  first
  | rw [if_pos h25]
  | rw [if_neg (by omega), if_pos (by omega)]
  | rw [if_neg (by omega), if_neg (by omega), pk_div (by omega) (by omega) (by omega)]⟩)
    · replace h32 := zn_gtF h32
      refine rw_go hX [(35, .iconst 0), (36, .goto 10)] (by decide +kernel) (Ps := []) (pc' := 46) (lv' := [(0, .ref 0), (1, .int (nI w)), (2, .int (nI q)), (3, .int (nI c)), (4, .int (nI L))]) (st' := [.int (nI 0)]) (σ' := σ) rfl True.intro ?_
      exact rw_iret hX (by decide +kernel) (⟨rfl, by
  unfold shN
  first
  | rw [if_pos h25]
  | rw [if_neg (by omega), if_pos (by omega)]
  | rw [if_neg (by omega), if_neg (by omega), pk_div (by omega) (by omega) (by omega)]⟩)
  · replace h25 := zn_neF h25
    refine rw_go hX [(28, .iload_n 3)] (by decide +kernel) (Ps := []) (pc' := 29) (lv' := [(0, .ref 0), (1, .int (nI w)), (2, .int (nI q)), (3, .int (nI c)), (4, .int (nI L))]) (st' := [.int (nI c)]) (σ' := σ) rfl True.intro ?_
    exact rw_iret hX (by decide +kernel) (⟨rfl, by
  unfold shN
  first
  | rw [if_pos h25]
  | rw [if_neg (by omega), if_pos (by omega)]
  | rw [if_neg (by omega), if_neg (by omega), pk_div (by omega) (by omega) (by omega)]⟩)
set_option maxRecDepth 20000 in
set_option maxHeartbeats 4000000 in
theorem c_drawIn (l : Launch) (G : Gl) (σ : Mm) (V : Mm) (w n : Nat) (z : Int32) (hV : vw σ 2 = V) (hv : wf V) (hw : w < 5) (hs1 : 1 ≤ vS V w) (hn : n ≤ 20) : AMv l G 3 mX9_drawInThought [.ref 0, .int (nI w), .int z, .int (nI n)] σ (fun σ' => vw σ' 16 = drV V w z n ∧ XQ σ σ') := by
  refine rw_inV 9 (by decide +kernel) rfl rfl ?_
  intro E hE hX
  subst hE
  obtain ⟨ht1, ht2⟩ := tkM_vw (a := 1) (b := 15) (by decide) hV
  have h17 : tkM 1 15 σ 17 w = nI (vS V w) := (congrFun (vw_at ht1 1 (by omega)) w).trans (wf_s hv hw)
  have h16 : tkM 1 15 σ 16 = V 0 := vw_at ht1 0 (by omega)
  refine rw_go hX [(0, .aload_n 0), (1, .getfield 19), (4, .aload_n 0), (5, .getfield 12)] (by decide +kernel) (Ps := []) (pc' := 8) (lv' := [(0, .ref 0), (1, .int (nI w)), (2, .int z), (3, .int (nI n))]) (st' := [.ref 1, .ref 15]) (σ' := σ) rfl True.intro ?_
  refine rw_callVv hX (as := [.ref 1]) (rest := []) (c_take_15_1 _ _ _) (by decide +kernel) mvX5_take lk9_258 (ci := 4) rfl rfl rfl (by decide) (Nat.le_of_ble_eq_true rfl) rfl ?_
  intro σ1 hr
  rw [hr]
  clear hr σ1
  refine rw_go hX [(11, .aload_n 0), (12, .getfield 19), (15, .iload_n 1), (16, .iload_n 2), (17, .iload_n 3)] (by decide +kernel) (Ps := []) (pc' := 18) (lv' := [(0, .ref 0), (1, .int (nI w)), (2, .int z), (3, .int (nI n))]) (st' := [.int (nI n), .int z, .int (nI w), .ref 15]) (σ' := tkM 1 15 σ) rfl True.intro ?_
  refine rw_callVv hX (as := [.int (nI w), .int z, .int (nI n)]) (rest := []) (c_draw _ _ _ w (vS V w) n z hw h17 hs1 (wf_s50 hv hw) hn) (by decide +kernel) mvX5_draw lk9_326 (ci := 4) rfl rfl rfl (by decide) (Nat.le_of_ble_eq_true rfl) rfl ?_
  intro σ1 hr
  rw [hr]
  clear hr σ1
  exact rw_vret hX (by decide +kernel) (by
  refine ⟨?_, fun k hk => by rw [sr_n _ _ (by omega)]; exact ht2 k (by simp only [List.mem_cons, List.not_mem_nil, or_false]; omega)⟩
  rw [h16]
  funext j
  by_cases g : j = 0
  · subst g
    unfold vw drV
    rw [if_pos (by decide), if_pos rfl, Nat.add_zero, sr_s]
  · rw [drV_n V w z n g, ← congrFun ht1 j]
    unfold vw
    by_cases g2 : j < 5
    · rw [if_pos g2, if_pos g2, sr_n _ _ (by omega)]
    · rw [if_neg g2, if_neg g2])
set_option maxRecDepth 20000 in
set_option maxHeartbeats 4000000 in
theorem c_firstO (l : Launch) (G : Gl) (σ : Mm) (V : Mm) (S : Nat → Option Nat) (s w n : Nat) (hv : wf V) (hw : w < 5) (hs : s < 4) (hD : DV S (lC V w) σ) (hR : RD V w σ) (hn : σ 63 s = nI n) (hn4 : n ≤ 40) : AMi l G 3 mX9_firstOtherwise [.ref 0, .int (nI s), .int (nI w)] σ (fun r σ' => σ' = σ ∧ FO (Eq62 V σ s w S) (2 * spN S (lC V w)) n r) := by
  refine rw_inI 9 (by decide +kernel) rfl rfl ?_
  intro E hE hX
  subst hE
  have hL5 := lC_50 hv hw
  have hsn := spN_50 (s := S) hL5
  refine rw_go hX [(0, .iconst 2), (1, .aload_n 0), (2, .getfield 25), (5, .getfield 227), (8, .getfield 234)] (by decide +kernel) (Ps := []) (pc' := 11) (lv' := [(0, .ref 0), (1, .int (nI s)), (2, .int (nI w))]) (st' := [.int (σ 53 0), .int (nI 2)]) (σ' := σ) rfl True.intro ?_
  rw [show (σ 53 0) = nI (spN S (lC V w)) from (by rw [hD.1])]
  refine rw_go hX [(11, .imul)] (by decide +kernel) (Ps := []) (pc' := 12) (lv' := [(0, .ref 0), (1, .int (nI s)), (2, .int (nI w))]) (st' := [.int (nI 2 * nI (spN S (lC V w)))]) (σ' := σ) rfl True.intro ?_
  rw [show (nI 2 * nI (spN S (lC V w))) = nI (2 * spN S (lC V w)) from pk_mul _ _]
  refine rw_go hX [(12, .istore_n 3), (13, .aload_n 0), (14, .getfield 32), (17, .iload_n 1)] (by decide +kernel) (Ps := []) (pc' := 18) (lv' := [(0, .ref 0), (1, .int (nI s)), (2, .int (nI w)), (3, .int (nI (2 * spN S (lC V w))))]) (st' := [.int (nI s), .ref 61]) (σ' := σ) rfl True.intro ?_
  refine rw_callVi hX (as := [.int (nI s)]) (rest := []) (c_shSize _ _ _ s hs) (by decide +kernel) mvX4_sizeOf lk9_268 (ci := 3) rfl rfl rfl (by decide) (Nat.le_of_ble_eq_true rfl) rfl ?_
  intro r1 σ1 hr
  rw [hr.1, show r1 = nI n from hr.2.trans hn]
  clear hr σ1 r1
  refine rw_go hX [(21, .istore 4), (23, .iconst 0), (24, .istore 5)] (by decide +kernel) (Ps := []) (pc' := 26) (lv' := [(0, .ref 0), (1, .int (nI s)), (2, .int (nI w)), (3, .int (nI (2 * spN S (lC V w)))), (4, .int (nI n)), (5, .int (nI 0))]) (st' := []) (σ' := σ) rfl True.intro ?_
  have L26 : ∀ (μ26 : Nat) (i : Nat), μ26 = 100 - i → (i ≤ max (2 * spN S (lC V w)) n) → (∀ j, j < i → j < 2 * spN S (lC V w) ∧ j < n ∧ Eq62 V σ s w S j) → RW E G 3 6 (QI E G (fun r σ' => σ' = σ ∧ FO (Eq62 V σ s w S) (2 * spN S (lC V w)) n r)) 26 [(0, .ref 0), (1, .int (nI s)), (2, .int (nI w)), (3, .int (nI (2 * spN S (lC V w)))), (4, .int (nI n)), (5, .int (nI i))] [] σ := by
    intro μ26
    induction μ26 using Nat.strongRecOn with
    | ind μ26 ih26 =>
      intro i hμ26 hi hA
      refine rw_go hX [(26, .iload 5), (28, .iload_n 3)] (by decide +kernel) (Ps := []) (pc' := 29) (lv' := [(0, .ref 0), (1, .int (nI s)), (2, .int (nI w)), (3, .int (nI (2 * spN S (lC V w)))), (4, .int (nI n)), (5, .int (nI i))]) (st' := [.int (nI (2 * spN S (lC V w))), .int (nI i)]) (σ' := σ) rfl True.intro ?_
      refine rw_icmp hX (tgt := 39) (cnd := .lt) (off := 10) (by decide +kernel) (by decide) (fun h29 => ?_) (fun h29 => ?_)
      · replace h29 := c2_ltT h29
        refine rw_go hX [(39, .iload 5), (41, .iload_n 3)] (by decide +kernel) (Ps := []) (pc' := 42) (lv' := [(0, .ref 0), (1, .int (nI s)), (2, .int (nI w)), (3, .int (nI (2 * spN S (lC V w)))), (4, .int (nI n)), (5, .int (nI i))]) (st' := [.int (nI (2 * spN S (lC V w))), .int (nI i)]) (σ' := σ) rfl True.intro ?_
        refine rw_icmp hX (tgt := 75) (cnd := .ge) (off := 33) (by decide +kernel) (by decide) (fun h42 => ?_) (fun h42 => ?_)
        · replace h42 := c2_geT h42
          have hni : i < 2 * spN S (lC V w) → i < n → ¬ Eq62 V σ s w S i := fun _ _ => by omega
          refine rw_go hX [(75, .iload 5)] (by decide +kernel) (Ps := []) (pc' := 77) (lv' := [(0, .ref 0), (1, .int (nI s)), (2, .int (nI w)), (3, .int (nI (2 * spN S (lC V w)))), (4, .int (nI n)), (5, .int (nI i))]) (st' := [.int (nI i)]) (σ' := σ) rfl True.intro ?_
          exact rw_iret hX (by decide +kernel) (⟨rfl, Or.inl ⟨i, rfl, by omega, hA, hni⟩⟩)
        · replace h42 := c2_geF h42
          refine rw_go hX [(45, .iload 5), (47, .iload 4)] (by decide +kernel) (Ps := []) (pc' := 49) (lv' := [(0, .ref 0), (1, .int (nI s)), (2, .int (nI w)), (3, .int (nI (2 * spN S (lC V w)))), (4, .int (nI n)), (5, .int (nI i))]) (st' := [.int (nI n), .int (nI i)]) (σ' := σ) rfl True.intro ?_
          refine rw_icmp hX (tgt := 75) (cnd := .ge) (off := 26) (by decide +kernel) (by decide) (fun h49 => ?_) (fun h49 => ?_)
          · replace h49 := c2_geT h49
            have hni : i < 2 * spN S (lC V w) → i < n → ¬ Eq62 V σ s w S i := fun _ _ => by omega
            refine rw_go hX [(75, .iload 5)] (by decide +kernel) (Ps := []) (pc' := 77) (lv' := [(0, .ref 0), (1, .int (nI s)), (2, .int (nI w)), (3, .int (nI (2 * spN S (lC V w)))), (4, .int (nI n)), (5, .int (nI i))]) (st' := [.int (nI i)]) (σ' := σ) rfl True.intro ?_
            exact rw_iret hX (by decide +kernel) (⟨rfl, Or.inl ⟨i, rfl, by omega, hA, hni⟩⟩)
          · replace h49 := c2_geF h49
            refine rw_go hX [(52, .aload_n 0), (53, .getfield 32), (56, .iload_n 1), (57, .iload 5)] (by decide +kernel) (Ps := []) (pc' := 59) (lv' := [(0, .ref 0), (1, .int (nI s)), (2, .int (nI w)), (3, .int (nI (2 * spN S (lC V w)))), (4, .int (nI n)), (5, .int (nI i))]) (st' := [.int (nI i), .int (nI s), .ref 61]) (σ' := σ) rfl True.intro ?_
            refine rw_callVi hX (as := [.int (nI s), .int (nI i)]) (rest := []) (c_itemAt _ _ _ s i n hs hn hn4 (by omega)) (by decide +kernel) mvX4_itemAt lk9_329 (ci := 3) rfl rfl rfl (by decide) (Nat.le_of_ble_eq_true rfl) rfl ?_
            intro r1 σ1 hr
            rw [hr.1, show r1 = σ 62 (40 * s + i) from hr.2]
            clear hr σ1 r1
            refine rw_go hX [(62, .aload_n 0), (63, .getfield 25), (66, .iload_n 2), (67, .iload 5)] (by decide +kernel) (Ps := []) (pc' := 69) (lv' := [(0, .ref 0), (1, .int (nI s)), (2, .int (nI w)), (3, .int (nI (2 * spN S (lC V w)))), (4, .int (nI n)), (5, .int (nI i))]) (st' := [.int (nI i), .int (nI w), .ref 22, .int (σ 62 (40 * s + i))]) (σ' := σ) rfl True.intro ?_
            refine rw_callVi hX (as := [.int (nI w), .int (nI i)]) (rest := [.int (σ 62 (40 * s + i))]) (c_toldPlace _ _ _ V S w i hv hw hD hR (by omega)) (by decide +kernel) mvX8_toldPlace lk9_240 (ci := 7) rfl rfl rfl (by decide) (Nat.le_of_ble_eq_true rfl) rfl ?_
            intro r1 σ1 hr
            rw [hr.1, show r1 = nI (PL V w (tPi S (lC V w) i)) from hr.2]
            clear hr σ1 r1
            refine rw_icmp hX (tgt := 78) (cnd := .eq) (off := 6) (by decide +kernel) (by decide) (fun h72 => ?_) (fun h72 => ?_)
            · replace h72 : (σ 62 (40 * s + i) = nI (PL V w (tPi S (lC V w) i))) := h72
              refine rw_go hX [(78, .iinc 5 1), (81, .goto (-55))] (by decide +kernel) (Ps := []) (pc' := 26) (lv' := [(0, .ref 0), (1, .int (nI s)), (2, .int (nI w)), (3, .int (nI (2 * spN S (lC V w)))), (4, .int (nI n)), (5, .int (nI i + nI 1))]) (st' := []) (σ' := σ) rfl True.intro ?_
              refine rw_lsub (ks := [0, 1, 2, 3, 4, 5]) (lv' := [(0, .ref 0), (1, .int (nI s)), (2, .int (nI w)), (3, .int (nI (2 * spN S (lC V w)))), (4, .int (nI n)), (5, .int (nI i + nI 1))]) rfl ?_
              rw [nI_add]
              exact ih26 (100 - (i + 1)) (by omega) (i + 1) rfl (by omega) (fun j hj => by
                rcases Nat.lt_or_ge j i with q | q
                · exact hA j q
                · rw [show j = i by omega]; exact ⟨by omega, by omega, h72⟩)
            · replace h72 : ¬ (σ 62 (40 * s + i) = nI (PL V w (tPi S (lC V w) i))) := h72
              have hni : i < 2 * spN S (lC V w) → i < n → ¬ Eq62 V σ s w S i := fun _ _ => h72
              refine rw_go hX [(75, .iload 5)] (by decide +kernel) (Ps := []) (pc' := 77) (lv' := [(0, .ref 0), (1, .int (nI s)), (2, .int (nI w)), (3, .int (nI (2 * spN S (lC V w)))), (4, .int (nI n)), (5, .int (nI i))]) (st' := [.int (nI i)]) (σ' := σ) rfl True.intro ?_
              exact rw_iret hX (by decide +kernel) (⟨rfl, Or.inl ⟨i, rfl, by omega, hA, hni⟩⟩)
      · replace h29 := c2_ltF h29
        refine rw_go hX [(32, .iload 5), (34, .iload 4)] (by decide +kernel) (Ps := []) (pc' := 36) (lv' := [(0, .ref 0), (1, .int (nI s)), (2, .int (nI w)), (3, .int (nI (2 * spN S (lC V w)))), (4, .int (nI n)), (5, .int (nI i))]) (st' := [.int (nI n), .int (nI i)]) (σ' := σ) rfl True.intro ?_
        refine rw_icmp hX (tgt := 84) (cnd := .ge) (off := 48) (by decide +kernel) (by decide) (fun h36 => ?_) (fun h36 => ?_)
        · replace h36 := c2_geT h36
          have e : 2 * spN S (lC V w) = n := by
            rcases Nat.eq_zero_or_pos i with q | q
            · omega
            · have := hA (i - 1) (by omega)
              omega
          refine rw_go hX [(84, .iconst (-1))] (by decide +kernel) (Ps := []) (pc' := 85) (lv' := [(0, .ref 0), (1, .int (nI s)), (2, .int (nI w)), (3, .int (nI (2 * spN S (lC V w)))), (4, .int (nI n)), (5, .int (nI i))]) (st' := [.int (-(nI 1))]) (σ' := σ) rfl True.intro ?_
          exact rw_iret hX (by decide +kernel) (⟨rfl, Or.inr ⟨rfl, e, fun j hj => (hA j (by omega)).2.2⟩⟩)
        · replace h36 := c2_geF h36
          refine rw_go hX [(39, .iload 5), (41, .iload_n 3)] (by decide +kernel) (Ps := []) (pc' := 42) (lv' := [(0, .ref 0), (1, .int (nI s)), (2, .int (nI w)), (3, .int (nI (2 * spN S (lC V w)))), (4, .int (nI n)), (5, .int (nI i))]) (st' := [.int (nI (2 * spN S (lC V w))), .int (nI i)]) (σ' := σ) rfl True.intro ?_
          refine rw_icmp hX (tgt := 75) (cnd := .ge) (off := 33) (by decide +kernel) (by decide) (fun h42 => ?_) (fun h42 => ?_)
          · replace h42 := c2_geT h42
            have hni : i < 2 * spN S (lC V w) → i < n → ¬ Eq62 V σ s w S i := fun _ _ => by omega
            refine rw_go hX [(75, .iload 5)] (by decide +kernel) (Ps := []) (pc' := 77) (lv' := [(0, .ref 0), (1, .int (nI s)), (2, .int (nI w)), (3, .int (nI (2 * spN S (lC V w)))), (4, .int (nI n)), (5, .int (nI i))]) (st' := [.int (nI i)]) (σ' := σ) rfl True.intro ?_
            exact rw_iret hX (by decide +kernel) (⟨rfl, Or.inl ⟨i, rfl, by omega, hA, hni⟩⟩)
          · replace h42 := c2_geF h42
            refine rw_go hX [(45, .iload 5), (47, .iload 4)] (by decide +kernel) (Ps := []) (pc' := 49) (lv' := [(0, .ref 0), (1, .int (nI s)), (2, .int (nI w)), (3, .int (nI (2 * spN S (lC V w)))), (4, .int (nI n)), (5, .int (nI i))]) (st' := [.int (nI n), .int (nI i)]) (σ' := σ) rfl True.intro ?_
            refine rw_icmp hX (tgt := 75) (cnd := .ge) (off := 26) (by decide +kernel) (by decide) (fun h49 => ?_) (fun h49 => ?_)
            · replace h49 := c2_geT h49
              have hni : i < 2 * spN S (lC V w) → i < n → ¬ Eq62 V σ s w S i := fun _ _ => by omega
              refine rw_go hX [(75, .iload 5)] (by decide +kernel) (Ps := []) (pc' := 77) (lv' := [(0, .ref 0), (1, .int (nI s)), (2, .int (nI w)), (3, .int (nI (2 * spN S (lC V w)))), (4, .int (nI n)), (5, .int (nI i))]) (st' := [.int (nI i)]) (σ' := σ) rfl True.intro ?_
              exact rw_iret hX (by decide +kernel) (⟨rfl, Or.inl ⟨i, rfl, by omega, hA, hni⟩⟩)
            · replace h49 := c2_geF h49
              refine rw_go hX [(52, .aload_n 0), (53, .getfield 32), (56, .iload_n 1), (57, .iload 5)] (by decide +kernel) (Ps := []) (pc' := 59) (lv' := [(0, .ref 0), (1, .int (nI s)), (2, .int (nI w)), (3, .int (nI (2 * spN S (lC V w)))), (4, .int (nI n)), (5, .int (nI i))]) (st' := [.int (nI i), .int (nI s), .ref 61]) (σ' := σ) rfl True.intro ?_
              refine rw_callVi hX (as := [.int (nI s), .int (nI i)]) (rest := []) (c_itemAt _ _ _ s i n hs hn hn4 (by omega)) (by decide +kernel) mvX4_itemAt lk9_329 (ci := 3) rfl rfl rfl (by decide) (Nat.le_of_ble_eq_true rfl) rfl ?_
              intro r1 σ1 hr
              rw [hr.1, show r1 = σ 62 (40 * s + i) from hr.2]
              clear hr σ1 r1
              refine rw_go hX [(62, .aload_n 0), (63, .getfield 25), (66, .iload_n 2), (67, .iload 5)] (by decide +kernel) (Ps := []) (pc' := 69) (lv' := [(0, .ref 0), (1, .int (nI s)), (2, .int (nI w)), (3, .int (nI (2 * spN S (lC V w)))), (4, .int (nI n)), (5, .int (nI i))]) (st' := [.int (nI i), .int (nI w), .ref 22, .int (σ 62 (40 * s + i))]) (σ' := σ) rfl True.intro ?_
              refine rw_callVi hX (as := [.int (nI w), .int (nI i)]) (rest := [.int (σ 62 (40 * s + i))]) (c_toldPlace _ _ _ V S w i hv hw hD hR (by omega)) (by decide +kernel) mvX8_toldPlace lk9_240 (ci := 7) rfl rfl rfl (by decide) (Nat.le_of_ble_eq_true rfl) rfl ?_
              intro r1 σ1 hr
              rw [hr.1, show r1 = nI (PL V w (tPi S (lC V w) i)) from hr.2]
              clear hr σ1 r1
              refine rw_icmp hX (tgt := 78) (cnd := .eq) (off := 6) (by decide +kernel) (by decide) (fun h72 => ?_) (fun h72 => ?_)
              · replace h72 : (σ 62 (40 * s + i) = nI (PL V w (tPi S (lC V w) i))) := h72
                refine rw_go hX [(78, .iinc 5 1), (81, .goto (-55))] (by decide +kernel) (Ps := []) (pc' := 26) (lv' := [(0, .ref 0), (1, .int (nI s)), (2, .int (nI w)), (3, .int (nI (2 * spN S (lC V w)))), (4, .int (nI n)), (5, .int (nI i + nI 1))]) (st' := []) (σ' := σ) rfl True.intro ?_
                refine rw_lsub (ks := [0, 1, 2, 3, 4, 5]) (lv' := [(0, .ref 0), (1, .int (nI s)), (2, .int (nI w)), (3, .int (nI (2 * spN S (lC V w)))), (4, .int (nI n)), (5, .int (nI i + nI 1))]) rfl ?_
                rw [nI_add]
                exact ih26 (100 - (i + 1)) (by omega) (i + 1) rfl (by omega) (fun j hj => by
                  rcases Nat.lt_or_ge j i with q | q
                  · exact hA j q
                  · rw [show j = i by omega]; exact ⟨by omega, by omega, h72⟩)
              · replace h72 : ¬ (σ 62 (40 * s + i) = nI (PL V w (tPi S (lC V w) i))) := h72
                have hni : i < 2 * spN S (lC V w) → i < n → ¬ Eq62 V σ s w S i := fun _ _ => h72
                refine rw_go hX [(75, .iload 5)] (by decide +kernel) (Ps := []) (pc' := 77) (lv' := [(0, .ref 0), (1, .int (nI s)), (2, .int (nI w)), (3, .int (nI (2 * spN S (lC V w)))), (4, .int (nI n)), (5, .int (nI i))]) (st' := [.int (nI i)]) (σ' := σ) rfl True.intro ?_
                exact rw_iret hX (by decide +kernel) (⟨rfl, Or.inl ⟨i, rfl, by omega, hA, hni⟩⟩)
  refine rw_lsub (ks := [0, 1, 2, 3, 4, 5]) (lv' := [(0, .ref 0), (1, .int (nI s)), (2, .int (nI w)), (3, .int (nI (2 * spN S (lC V w)))), (4, .int (nI n)), (5, .int (nI 0))]) rfl ?_
  exact L26 100 0 rfl (by omega) (fun j hj => by omega)
set_option maxRecDepth 20000 in
set_option maxHeartbeats 4000000 in
theorem c_wouldTell (l : Launch) (G : Gl) (σ : Mm) (V : Mm) (s w n ls : Nat) (hv : wf V) (hw : w < 5) (hs : s < 4) (hls : ls ≤ 50) (hT : TR V w σ) (hR : RD V w σ) (hn : σ 63 s = nI n) (hn4 : n ≤ 40) : AMi l G 4 mX9_wouldTell [.ref 0, .int (nI s), .int (nI w), .int (nI ls)] σ (fun r σ' => TR V w σ' ∧ (∀ k, k ∉ [53, 56, 57, 58, 59] → σ' k = σ k) ∧ r = bz (pz (WTc V σ s w n ls))) := by
  refine rw_inI 9 (by decide +kernel) rfl rfl ?_
  intro E hE hX
  subst hE
  have hL5 := lC_50 hv hw
  have hsn := spN_50 (s := sT V w ls) hL5
  refine rw_go hX [(0, .aload_n 0), (1, .getfield 25), (4, .getfield 227), (7, .iload_n 3)] (by decide +kernel) (Ps := []) (pc' := 8) (lv' := [(0, .ref 0), (1, .int (nI s)), (2, .int (nI w)), (3, .int (nI ls))]) (st' := [.int (nI ls), .ref 53]) (σ' := σ) rfl True.intro ?_
  refine rw_callVv hX (as := [.int (nI ls)]) (rest := []) (c_divideV _ _ _ V w ls hv hw hls hT) (by decide +kernel) mvX7_divide lk9_332 (ci := 6) rfl rfl rfl (by decide) (Nat.le_of_ble_eq_true rfl) rfl ?_
  intro τ1 ht1
  obtain ⟨hT1, hD1, hk1⟩ := ht1
  have h62 : ∀ j, Eq62 V τ1 s w (sT V w ls) j ↔ Eq62 V σ s w (sT V w ls) j := fun j => by unfold Eq62; rw [hk1 62 (by decide)]
  refine rw_go hX [(11, .aload_n 0), (12, .iload_n 1), (13, .iload_n 2)] (by decide +kernel) (Ps := []) (pc' := 14) (lv' := [(0, .ref 0), (1, .int (nI s)), (2, .int (nI w)), (3, .int (nI ls))]) (st' := [.int (nI w), .int (nI s), .ref 0]) (σ' := τ1) rfl True.intro ?_
  refine rw_callVi hX (as := [.int (nI s), .int (nI w)]) (rest := []) (c_firstO _ _ _ V (sT V w ls) s w n hv hw hs hD1 (RD_k hR (NI_of hk1 (by decide))) (by rw [hk1 63 (by decide)]; exact hn) hn4) (by decide +kernel) mvX9_firstOtherwise lk9_269 (ci := 8) rfl rfl rfl (by decide) (Nat.le_of_ble_eq_true rfl) rfl ?_
  intro r1 σ1 hr
  rw [hr.1]
  have hF := FO_no hr.2 (by omega) (by omega)
  refine rw_go hX [(17, .iconst (-1))] (by decide +kernel) (Ps := []) (pc' := 18) (lv' := [(0, .ref 0), (1, .int (nI s)), (2, .int (nI w)), (3, .int (nI ls))]) (st' := [.int (-(nI 1)), .int r1]) (σ' := τ1) rfl True.intro ?_
  refine rw_icmp hX (tgt := 25) (cnd := .ne) (off := 7) (by decide +kernel) (by decide) (fun h18 => ?_) (fun h18 => ?_)
  · have e : pz (WTc V σ s w n ls) = false := pz_f fun z => h18 (hF.mpr ⟨z.1, fun j hj => (h62 j).mpr (z.2 j hj)⟩)
    refine rw_go hX [(25, .iconst 0)] (by decide +kernel) (Ps := []) (pc' := 26) (lv' := [(0, .ref 0), (1, .int (nI s)), (2, .int (nI w)), (3, .int (nI ls))]) (st' := [.int (nI 0)]) (σ' := τ1) rfl True.intro ?_
    exact rw_zret hX (by decide +kernel) (Or.inl rfl) (⟨hT1, hk1, by rw [e]; rfl⟩)
  · have h18b := hF.mp (Classical.not_not.mp h18)
    have e : pz (WTc V σ s w n ls) = true := pz_t ⟨h18b.1, fun j hj => (h62 j).mp (h18b.2 j hj)⟩
    refine rw_go hX [(21, .iconst 1), (22, .goto 4)] (by decide +kernel) (Ps := []) (pc' := 26) (lv' := [(0, .ref 0), (1, .int (nI s)), (2, .int (nI w)), (3, .int (nI ls))]) (st' := [.int (nI 1)]) (σ' := τ1) rfl True.intro ?_
    exact rw_zret hX (by decide +kernel) (Or.inr rfl) (⟨hT1, hk1, by rw [e]; rfl⟩)
set_option maxRecDepth 20000 in
set_option maxHeartbeats 4000000 in
theorem c_leastTold (l : Launch) (G : Gl) (σ : Mm) (V : Mm) (s w n : Nat) (hv : wf V) (hw : w < 5) (hs : s < 4) (hT : TR V w σ) (hR : RD V w σ) (hn : σ 63 s = nI n) (hn4 : n ≤ 40) : AMi l G 5 mX9_leastTold [.ref 0, .int (nI s), .int (nI w)] σ (fun r σ' => SQ σ σ' ∧ LTd (WTc V σ s w n) r) := by
  refine rw_inI 9 (by decide +kernel) rfl rfl ?_
  intro E hE hX
  subst hE
  refine rw_go hX [(0, .getstatic 131), (3, .iconst 4), (4, .iaload)] (by decide +kernel) (Ps := [vp_in (nI 4) 6]) (pc' := 5) (lv' := [(0, .ref 0), (1, .int (nI s)), (2, .int (nI w))]) (st' := [.int ((stL 1).getD (nI 4).toNatClampNeg 0)]) (σ' := σ) rfl (vp_in_nI (by omega) (by omega)) ?_
  rw [show ((stL 1).getD (nI 4).toNatClampNeg 0) = nI 1 from (by decide +kernel)]
  refine rw_go hX [(5, .istore_n 3)] (by decide +kernel) (Ps := []) (pc' := 6) (lv' := [(0, .ref 0), (1, .int (nI s)), (2, .int (nI w)), (3, .int (nI 1))]) (st' := []) (σ' := σ) rfl True.intro ?_
  have L6 : ∀ (μ6 : Nat) (ls : Nat) (τ : Mm), μ6 = 51 - ls → (1 ≤ ls ∧ ls ≤ 51) → (∀ x, 1 ≤ x → x < ls → ¬ WTc V σ s w n x) → (TR V w τ) → (∀ k, k ∉ [53, 56, 57, 58, 59] → τ k = σ k) → RW E G 5 4 (QI E G (fun r σ' => SQ σ σ' ∧ LTd (WTc V σ s w n) r)) 6 [(0, .ref 0), (1, .int (nI s)), (2, .int (nI w)), (3, .int (nI ls))] [] τ := by
    intro μ6
    induction μ6 using Nat.strongRecOn with
    | ind μ6 ih6 =>
      intro ls τ hμ6 hls hno hT hk
      have hEq : ∀ x, WTc V τ s w n x ↔ WTc V σ s w n x := fun x => by unfold WTc Eq62; rw [hk 62 (by decide)]
      refine rw_go hX [(6, .iload_n 3), (7, .getstatic 134), (10, .iconst 4), (11, .iaload)] (by decide +kernel) (Ps := [vp_in (nI 4) 6]) (pc' := 12) (lv' := [(0, .ref 0), (1, .int (nI s)), (2, .int (nI w)), (3, .int (nI ls))]) (st' := [.int ((stL 2).getD (nI 4).toNatClampNeg 0), .int (nI ls)]) (σ' := τ) rfl (vp_in_nI (by omega) (by omega)) ?_
      rw [show ((stL 2).getD (nI 4).toNatClampNeg 0) = nI 50 from (by decide +kernel)]
      refine rw_icmp hX (tgt := 33) (cnd := .gt) (off := 21) (by decide +kernel) (by decide) (fun h12 => ?_) (fun h12 => ?_)
      · replace h12 := c2_gtT h12
        refine rw_go hX [(33, .iconst (-1))] (by decide +kernel) (Ps := []) (pc' := 34) (lv' := [(0, .ref 0), (1, .int (nI s)), (2, .int (nI w)), (3, .int (nI ls))]) (st' := [.int (-(nI 1))]) (σ' := τ) rfl True.intro ?_
        exact rw_iret hX (by decide +kernel) (⟨SQ_of hk (by decide), Or.inr ⟨rfl, fun x h1 h2 => hno x (by omega) (by omega)⟩⟩)
      · replace h12 := c2_gtF h12
        refine rw_go hX [(15, .aload_n 0), (16, .iload_n 1), (17, .iload_n 2), (18, .iload_n 3)] (by decide +kernel) (Ps := []) (pc' := 19) (lv' := [(0, .ref 0), (1, .int (nI s)), (2, .int (nI w)), (3, .int (nI ls))]) (st' := [.int (nI ls), .int (nI w), .int (nI s), .ref 0]) (σ' := τ) rfl True.intro ?_
        refine rw_callVi hX (as := [.int (nI s), .int (nI w), .int (nI ls)]) (rest := []) (c_wouldTell _ _ _ V s w n ls hv hw hs (by omega) hT (RD_k hR (NI_of hk (by decide))) (by rw [hk 63 (by decide)]; exact hn) hn4) (by decide +kernel) mvX9_wouldTell lk9_335 (ci := 8) rfl rfl rfl (by decide) (Nat.le_of_ble_eq_true rfl) rfl ?_
        intro r1 τ2 hr
        obtain ⟨hT2, hk2, hr2⟩ := hr
        rw [hr2]
        have hk3 : ∀ k, k ∉ [53, 56, 57, 58, 59] → τ2 k = σ k := fun k hk9 => (hk2 k hk9).trans (hk k hk9)
        refine rw_if hX (tgt := 27) (cnd := .eq) (off := 5) (by decide +kernel) (by decide) (fun h22 => ?_) (fun h22 => ?_)
        · replace h22 := zb_eqT h22
          have hw9 : ¬ WTc V σ s w n ls := fun z => by rw [pz_t ((hEq ls).mpr z)] at h22; cases h22
          refine rw_go hX [(27, .iinc 3 1), (30, .goto (-24))] (by decide +kernel) (Ps := []) (pc' := 6) (lv' := [(0, .ref 0), (1, .int (nI s)), (2, .int (nI w)), (3, .int (nI ls + nI 1))]) (st' := []) (σ' := τ2) rfl True.intro ?_
          refine rw_lsub (ks := [0, 1, 2, 3]) (lv' := [(0, .ref 0), (1, .int (nI s)), (2, .int (nI w)), (3, .int (nI ls + nI 1))]) rfl ?_
          rw [nI_add]
          exact ih6 (51 - (ls + 1)) (by omega) (ls + 1) _ rfl (by omega) (fun x h1 h2 => by
            rcases Nat.lt_or_ge x ls with q | q
            · exact hno x h1 q
            · rw [show x = ls by omega]; exact hw9) hT2 hk3
        · replace h22 := zb_eqF h22
          have hw9 : WTc V σ s w n ls := by
            by_cases z : WTc V σ s w n ls
            · exact z
            · rw [pz_f (fun y => z ((hEq ls).mp y))] at h22; cases h22
          refine rw_go hX [(25, .iload_n 3)] (by decide +kernel) (Ps := []) (pc' := 26) (lv' := [(0, .ref 0), (1, .int (nI s)), (2, .int (nI w)), (3, .int (nI ls))]) (st' := [.int (nI ls)]) (σ' := τ2) rfl True.intro ?_
          exact rw_iret hX (by decide +kernel) (⟨SQ_of hk3 (by decide), Or.inl ⟨ls, by omega, by omega, hw9, hno, rfl⟩⟩)
  refine rw_lsub (ks := [0, 1, 2, 3]) (lv' := [(0, .ref 0), (1, .int (nI s)), (2, .int (nI w)), (3, .int (nI 1))]) rfl ?_
  exact L6 50 1 _ rfl (by omega) (fun x h1 h2 => by omega) hT (fun _ _ => rfl)
set_option maxRecDepth 20000 in
set_option maxHeartbeats 4000000 in
theorem c_greatestTold (l : Launch) (G : Gl) (σ : Mm) (V : Mm) (s w n : Nat) (hv : wf V) (hw : w < 5) (hs : s < 4) (hT : TR V w σ) (hR : RD V w σ) (hn : σ 63 s = nI n) (hn4 : n ≤ 40) : AMi l G 5 mX9_greatestTold [.ref 0, .int (nI s), .int (nI w)] σ (fun r σ' => SQ σ σ' ∧ GTd (WTc V σ s w n) r) := by
  refine rw_inI 9 (by decide +kernel) rfl rfl ?_
  intro E hE hX
  subst hE
  refine rw_go hX [(0, .getstatic 134), (3, .iconst 4), (4, .iaload)] (by decide +kernel) (Ps := [vp_in (nI 4) 6]) (pc' := 5) (lv' := [(0, .ref 0), (1, .int (nI s)), (2, .int (nI w))]) (st' := [.int ((stL 2).getD (nI 4).toNatClampNeg 0)]) (σ' := σ) rfl (vp_in_nI (by omega) (by omega)) ?_
  rw [show ((stL 2).getD (nI 4).toNatClampNeg 0) = nI 50 from (by decide +kernel)]
  refine rw_go hX [(5, .istore_n 3)] (by decide +kernel) (Ps := []) (pc' := 6) (lv' := [(0, .ref 0), (1, .int (nI s)), (2, .int (nI w)), (3, .int (nI 50))]) (st' := []) (σ' := σ) rfl True.intro ?_
  have L6 : ∀ (μ6 : Nat) (ls : Nat) (τ : Mm), μ6 = ls → (ls ≤ 50) → (∀ x, ls < x → x ≤ 50 → ¬ WTc V σ s w n x) → (TR V w τ) → (∀ k, k ∉ [53, 56, 57, 58, 59] → τ k = σ k) → RW E G 5 4 (QI E G (fun r σ' => SQ σ σ' ∧ GTd (WTc V σ s w n) r)) 6 [(0, .ref 0), (1, .int (nI s)), (2, .int (nI w)), (3, .int (nI ls))] [] τ := by
    intro μ6
    induction μ6 using Nat.strongRecOn with
    | ind μ6 ih6 =>
      intro ls τ hμ6 hls hno hT hk
      have hEq : ∀ x, WTc V τ s w n x ↔ WTc V σ s w n x := fun x => by unfold WTc Eq62; rw [hk 62 (by decide)]
      refine rw_go hX [(6, .iload_n 3), (7, .getstatic 131), (10, .iconst 4), (11, .iaload)] (by decide +kernel) (Ps := [vp_in (nI 4) 6]) (pc' := 12) (lv' := [(0, .ref 0), (1, .int (nI s)), (2, .int (nI w)), (3, .int (nI ls))]) (st' := [.int ((stL 1).getD (nI 4).toNatClampNeg 0), .int (nI ls)]) (σ' := τ) rfl (vp_in_nI (by omega) (by omega)) ?_
      rw [show ((stL 1).getD (nI 4).toNatClampNeg 0) = nI 1 from (by decide +kernel)]
      refine rw_icmp hX (tgt := 33) (cnd := .lt) (off := 21) (by decide +kernel) (by decide) (fun h12 => ?_) (fun h12 => ?_)
      · replace h12 := c2_ltT h12
        refine rw_go hX [(33, .iconst (-1))] (by decide +kernel) (Ps := []) (pc' := 34) (lv' := [(0, .ref 0), (1, .int (nI s)), (2, .int (nI w)), (3, .int (nI ls))]) (st' := [.int (-(nI 1))]) (σ' := τ) rfl True.intro ?_
        exact rw_iret hX (by decide +kernel) (⟨SQ_of hk (by decide), Or.inr ⟨rfl, fun x h1 h2 => hno x (by omega) (by omega)⟩⟩)
      · replace h12 := c2_ltF h12
        refine rw_go hX [(15, .aload_n 0), (16, .iload_n 1), (17, .iload_n 2), (18, .iload_n 3)] (by decide +kernel) (Ps := []) (pc' := 19) (lv' := [(0, .ref 0), (1, .int (nI s)), (2, .int (nI w)), (3, .int (nI ls))]) (st' := [.int (nI ls), .int (nI w), .int (nI s), .ref 0]) (σ' := τ) rfl True.intro ?_
        refine rw_callVi hX (as := [.int (nI s), .int (nI w), .int (nI ls)]) (rest := []) (c_wouldTell _ _ _ V s w n ls hv hw hs (by omega) hT (RD_k hR (NI_of hk (by decide))) (by rw [hk 63 (by decide)]; exact hn) hn4) (by decide +kernel) mvX9_wouldTell lk9_335 (ci := 8) rfl rfl rfl (by decide) (Nat.le_of_ble_eq_true rfl) rfl ?_
        intro r1 τ2 hr
        obtain ⟨hT2, hk2, hr2⟩ := hr
        rw [hr2]
        have hk3 : ∀ k, k ∉ [53, 56, 57, 58, 59] → τ2 k = σ k := fun k hk9 => (hk2 k hk9).trans (hk k hk9)
        refine rw_if hX (tgt := 27) (cnd := .eq) (off := 5) (by decide +kernel) (by decide) (fun h22 => ?_) (fun h22 => ?_)
        · replace h22 := zb_eqT h22
          have hw9 : ¬ WTc V σ s w n ls := fun z => by rw [pz_t ((hEq ls).mpr z)] at h22; cases h22
          refine rw_go hX [(27, .iinc 3 (-1)), (30, .goto (-24))] (by decide +kernel) (Ps := []) (pc' := 6) (lv' := [(0, .ref 0), (1, .int (nI s)), (2, .int (nI w)), (3, .int (nI ls + (-(nI 1))))]) (st' := []) (σ' := τ2) rfl True.intro ?_
          refine rw_lsub (ks := [0, 1, 2, 3]) (lv' := [(0, .ref 0), (1, .int (nI s)), (2, .int (nI w)), (3, .int (nI ls + (-(nI 1))))]) rfl ?_
          rw [show nI ls + (-(nI 1)) = nI (ls - 1) from by
            have q := pk_m1 (ls - 1)
            rw [show ls - 1 + 1 = ls by omega] at q
            exact q]
          exact ih6 (ls - 1) (by omega) (ls - 1) _ rfl (by omega) (fun x h1 h2 => by
            rcases Nat.lt_or_ge ls x with q | q
            · exact hno x q h2
            · rw [show x = ls by omega]; exact hw9) hT2 hk3
        · replace h22 := zb_eqF h22
          have hw9 : WTc V σ s w n ls := by
            by_cases z : WTc V σ s w n ls
            · exact z
            · rw [pz_f (fun y => z ((hEq ls).mp y))] at h22; cases h22
          refine rw_go hX [(25, .iload_n 3)] (by decide +kernel) (Ps := []) (pc' := 26) (lv' := [(0, .ref 0), (1, .int (nI s)), (2, .int (nI w)), (3, .int (nI ls))]) (st' := [.int (nI ls)]) (σ' := τ2) rfl True.intro ?_
          exact rw_iret hX (by decide +kernel) (⟨SQ_of hk3 (by decide), Or.inl ⟨ls, by omega, by omega, hw9, hno, rfl⟩⟩)
  refine rw_lsub (ks := [0, 1, 2, 3]) (lv' := [(0, .ref 0), (1, .int (nI s)), (2, .int (nI w)), (3, .int (nI 50))]) rfl ?_
  exact L6 50 50 _ rfl (by omega) (fun x h1 h2 => by omega) hT (fun _ _ => rfl)
