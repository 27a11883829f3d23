/-! the model: what is covered; where spans begin and end -/
theorem en_31 {s : Nat → Option Nat} (hs5 : ∀ i v, s i = some v → v < 5) (i : Nat) : ∀ v, s i = some v → v < 2 ^ 31 := fun v h => by have := hs5 i v h; omega
def bsp (s : Nat → Option Nat) (i : Nat) : Bool := (s i).isSome && !gs s i
theorem spN_1 (s : Nat → Option Nat) (i : Nat) : spN s (i + 1) = spN s i + (if bsp s i = true then 1 else 0) := by
  unfold bsp
  simp only [spN]
  cases h1 : (s i).isSome <;> cases h2 : gs s i <;> simp
theorem cvN_1 (s : Nat → Option Nat) (i : Nat) : cvN s (i + 1) = cvN s i + (if (s i).isSome = true then 1 else 0) := by
  simp only [cvN]
  cases h1 : (s i).isSome <;> simp
theorem tyN_1 (s : Nat → Option Nat) (w i : Nat) : tyN s w (i + 1) = tyN s w i + (if s i = some w then 1 else 0) := by
  simp only [tyN]
  by_cases h1 : s i = some w
  · rw [if_pos h1, if_pos h1]
  · rw [if_neg h1, if_neg h1]; rfl
theorem spN_up (s : Nat → Option Nat) {i : Nat} : ∀ {j : Nat}, i ≤ j → spN s i ≤ spN s j
  | 0, h => by rw [show i = 0 by omega]; exact Nat.le_refl _
  | j + 1, h => by
    by_cases e : i = j + 1
    · rw [e]; exact Nat.le_refl _
    · have := spN_up s (i := i) (j := j) (by omega)
      rw [spN_1]
      omega
theorem spA_eq {s : Nat → Option Nat} {k i L : Nat} (h : bsp s i = true) (hk : spN s i = k) (hi : i < L) : spA s k L = i := by
  have h9 : k < spN s L := by
    have a := spN_1 s i
    rw [if_pos h] at a
    have := spN_up s (i := i + 1) (j := L) (by omega)
    omega
  obtain ⟨a1, a2, a3, a4⟩ := spA_in h9
  have b : bsp s (spA s k L) = true := by unfold bsp; rw [a2, a3]; rfl
  rcases Nat.lt_trichotomy (spA s k L) i with q | q | q
  · have e := spN_1 s (spA s k L)
    rw [if_pos b] at e
    have := spN_up s (i := spA s k L + 1) (j := i) (by omega)
    omega
  · exact q
  · have e := spN_1 s i
    rw [if_pos h] at e
    have := spN_up s (i := i + 1) (j := spA s k L) (by omega)
    omega
theorem spZ_eq {s : Nat → Option Nat} {k i : Nat} : ∀ {L : Nat}, i < L → (s i).isSome = true → spN s (i + 1) = k + 1 → (∀ j, i < j → j < L → (s j).isSome = true → spN s (j + 1) ≠ k + 1) → spZ s k L = i
  | 0, h, _, _, _ => by omega
  | L + 1, h, h1, h2, h3 => by
    by_cases e : i = L
    · subst e; exact if_pos ⟨h1, h2⟩
    · have c : ¬ ((s L).isSome = true ∧ spN s (L + 1) = k + 1) := fun z => h3 L (by omega) (by omega) z.1 z.2
      show (if (s L).isSome = true ∧ spN s (L + 1) = k + 1 then L else spZ s k L) = i
      rw [if_neg c]
      exact spZ_eq (by omega) h1 h2 (fun j a b => h3 j a (by omega))
theorem run_end {s : Nat → Option Nat} {k i : Nat} (h1 : (s i).isSome = true) (h2 : spN s (i + 1) = k + 1) (h3 : s (i + 1) ≠ s i) : ∀ j, i < j → (s j).isSome = true → k + 2 ≤ spN s (j + 1)
  | 0, h, _ => by omega
  | j + 1, h, hj => by
    have hup := spN_up s (i := i + 1) (j := j + 1) (by omega)
    have e := spN_1 s (j + 1)
    unfold bsp at e
    rw [hj, Bool.true_and] at e
    cases g : gs s (j + 1) with
    | false => rw [g, if_pos (by rfl)] at e; omega
    | true =>
      have g2 : s (j + 1) = s j := of_decide_eq_true g
      by_cases q : i = j
      · subst q; exact absurd g2 h3
      · have := run_end h1 h2 h3 j (by omega) (by rw [← g2]; exact hj)
        have := spN_up s (i := j + 1) (j := j + 1 + 1) (by omega)
        omega
set_option maxRecDepth 20000 in
set_option maxHeartbeats 4000000 in
theorem m_covered (l : Launch) (G : Gl) (σ : Mm) (s : Nat → Option Nat) (L w : Nat) (hw : w < 5) (hL : σ 77 w = nI L) (hL5 : L ≤ 50) (hs : ∀ i, i < 50 → σ 88 i = en (s i)) (hs5 : ∀ i v, s i = some v → v < 5) : AMi l G 0 mX10_covered [.ref 66, .int (nI w)] σ (fun r σ' => σ' = σ ∧ r = nI (cvN s L)) := by
  refine rw_inI 10 (by decide +kernel) rfl rfl ?_
  intro E hE hX
  subst hE
  refine rw_go hX [(0, .iconst 0), (1, .istore_n 2), (2, .iconst 0), (3, .istore_n 3)] (by decide +kernel) (Ps := []) (pc' := 4) (lv' := [(0, .ref 66), (1, .int (nI w)), (2, .int (nI 0)), (3, .int (nI 0))]) (st' := []) (σ' := σ) rfl True.intro ?_
  have L4 : ∀ (μ4 : Nat) (i : Nat), μ4 = L - i → (i ≤ L) → RW E G 0 4 (QI E G (fun r σ' => σ' = σ ∧ r = nI (cvN s L))) 4 [(0, .ref 66), (1, .int (nI w)), (2, .int (nI (cvN s i))), (3, .int (nI i))] [] σ := by
    intro μ4
    induction μ4 using Nat.strongRecOn with
    | ind μ4 ih4 =>
      intro i hμ4 hi
      refine rw_go hX [(4, .iload_n 3), (5, .aload_n 0), (6, .getfield 40), (9, .iload_n 1), (10, .iaload)] (by decide +kernel) (Ps := [vp_in (nI w) 5]) (pc' := 11) (lv' := [(0, .ref 66), (1, .int (nI w)), (2, .int (nI (cvN s i))), (3, .int (nI i))]) (st' := [.int (σ 77 (nI w).toNatClampNeg), .int (nI i)]) (σ' := σ) rfl (vp_in_nI (by omega) (by omega)) ?_
      rw [show (σ 77 (nI w).toNatClampNeg) = nI L from (by rw [nI_clamp (by omega), hL])]
      refine rw_icmp hX (tgt := 37) (cnd := .ge) (off := 26) (by decide +kernel) (by decide) (fun h11 => ?_) (fun h11 => ?_)
      · replace h11 := c2_geT h11
        have ei : i = L := by omega
        refine rw_go hX [(37, .iload_n 2)] (by decide +kernel) (Ps := []) (pc' := 38) (lv' := [(0, .ref 66), (1, .int (nI w)), (2, .int (nI (cvN s i))), (3, .int (nI i))]) (st' := [.int (nI (cvN s i))]) (σ' := σ) rfl True.intro ?_
        exact rw_iret hX (by decide +kernel) (⟨rfl, by rw [ei]⟩)
      · replace h11 := c2_geF h11
        refine rw_go hX [(14, .iload_n 2), (15, .aload_n 0), (16, .getfield 74), (19, .iload_n 3), (20, .iaload)] (by decide +kernel) (Ps := [vp_in (nI i) 50]) (pc' := 21) (lv' := [(0, .ref 66), (1, .int (nI w)), (2, .int (nI (cvN s i))), (3, .int (nI i))]) (st' := [.int (σ 88 (nI i).toNatClampNeg), .int (nI (cvN s i))]) (σ' := σ) rfl (vp_in_nI (by omega) (by omega)) ?_
        rw [show (σ 88 (nI i).toNatClampNeg) = en (s i) from (by rw [nI_clamp (by omega), hs i (by omega)])]
        refine rw_if hX (tgt := 28) (cnd := .lt) (off := 7) (by decide +kernel) (by decide) (fun h21 => ?_) (fun h21 => ?_)
        · replace h21 : (en (s i) < 0) := h21
          have hn : ¬ (s i).isSome = true := by rw [(en_lt0 (en_31 hs5 i)).mp h21]; decide
          refine rw_go hX [(28, .iconst 0), (29, .iadd)] (by decide +kernel) (Ps := []) (pc' := 30) (lv' := [(0, .ref 66), (1, .int (nI w)), (2, .int (nI (cvN s i))), (3, .int (nI i))]) (st' := [.int (nI (cvN s i) + nI 0)]) (σ' := σ) rfl True.intro ?_
          rw [show (nI (cvN s i) + nI 0) = nI (cvN s i + 0) from nI_add _ _]
          refine rw_go hX [(30, .istore_n 2), (31, .iinc 3 1)] (by decide +kernel) (Ps := []) (pc' := 34) (lv' := [(0, .ref 66), (1, .int (nI w)), (2, .int (nI (cvN s i + 0))), (3, .int (nI i + nI 1))]) (st' := []) (σ' := σ) rfl True.intro ?_
          rw [show (nI i + nI 1) = nI (i + 1) from nI_add _ _]
          refine rw_go hX [(34, .goto (-30))] (by decide +kernel) (Ps := []) (pc' := 4) (lv' := [(0, .ref 66), (1, .int (nI w)), (2, .int (nI (cvN s i + 0))), (3, .int (nI (i + 1)))]) (st' := []) (σ' := σ) rfl True.intro ?_
          refine rw_lsub (ks := [0, 1, 2, 3]) (lv' := [(0, .ref 66), (1, .int (nI w)), (2, .int (nI (cvN s i + 0))), (3, .int (nI (i + 1)))]) rfl ?_
          have q := ih4 (L - (i + 1)) (by omega) (i + 1) rfl (by omega)
          rw [cvN_1, if_neg hn] at q
          exact q
        · replace h21 : ¬ (en (s i) < 0) := h21
          have hy : (s i).isSome = true := by
            cases z : (s i).isSome with
            | true => rfl
            | false => exact absurd ((en_lt0 (en_31 hs5 i)).mpr z) h21
          refine rw_go hX [(24, .iconst 1), (25, .goto 4), (29, .iadd)] (by decide +kernel) (Ps := []) (pc' := 30) (lv' := [(0, .ref 66), (1, .int (nI w)), (2, .int (nI (cvN s i))), (3, .int (nI i))]) (st' := [.int (nI (cvN s i) + nI 1)]) (σ' := σ) rfl True.intro ?_
          rw [show (nI (cvN s i) + nI 1) = nI (cvN s i + 1) from nI_add _ _]
          refine rw_go hX [(30, .istore_n 2), (31, .iinc 3 1)] (by decide +kernel) (Ps := []) (pc' := 34) (lv' := [(0, .ref 66), (1, .int (nI w)), (2, .int (nI (cvN s i + 1))), (3, .int (nI i + nI 1))]) (st' := []) (σ' := σ) rfl True.intro ?_
          rw [show (nI i + nI 1) = nI (i + 1) from nI_add _ _]
          refine rw_go hX [(34, .goto (-30))] (by decide +kernel) (Ps := []) (pc' := 4) (lv' := [(0, .ref 66), (1, .int (nI w)), (2, .int (nI (cvN s i + 1))), (3, .int (nI (i + 1)))]) (st' := []) (σ' := σ) rfl True.intro ?_
          refine rw_lsub (ks := [0, 1, 2, 3]) (lv' := [(0, .ref 66), (1, .int (nI w)), (2, .int (nI (cvN s i + 1))), (3, .int (nI (i + 1)))]) rfl ?_
          have q := ih4 (L - (i + 1)) (by omega) (i + 1) rfl (by omega)
          rw [cvN_1, if_pos hy] at q
          exact q
  refine rw_lsub (ks := [0, 1, 2, 3]) (lv' := [(0, .ref 66), (1, .int (nI w)), (2, .int (nI 0)), (3, .int (nI 0))]) rfl ?_
  exact L4 L 0 rfl (by omega)
set_option maxRecDepth 20000 in
set_option maxHeartbeats 4000000 in
theorem m_inHundred (l : Launch) (G : Gl) (σ : Mm) (s : Nat → Option Nat) (L w : Nat) (hw : w < 5) (hL : σ 77 w = nI L) (hL5 : L ≤ 50) (hs : ∀ i, i < 50 → σ 88 i = en (s i)) (hs5 : ∀ i v, s i = some v → v < 5) : AMi l G 1 mX10_inHundred [.ref 66, .int (nI w)] σ (fun r σ' => σ' = σ ∧ r = nI (shN (cvN s L) L 1)) := by
  refine rw_inI 10 (by decide +kernel) rfl rfl ?_
  intro E hE hX
  subst hE
  have hcv := cvN_le s L
  refine rw_go hX [(0, .aload_n 0), (1, .getfield 40), (4, .iload_n 1), (5, .iaload)] (by decide +kernel) (Ps := [vp_in (nI w) 5]) (pc' := 6) (lv' := [(0, .ref 66), (1, .int (nI w))]) (st' := [.int (σ 77 (nI w).toNatClampNeg)]) (σ' := σ) rfl (vp_in_nI (by omega) (by omega)) ?_
  rw [show (σ 77 (nI w).toNatClampNeg) = nI L from (by rw [nI_clamp (by omega), hL])]
  refine rw_if hX (tgt := 13) (cnd := .ne) (off := 7) (by decide +kernel) (by decide) (fun h6 => ?_) (fun h6 => ?_)
  · replace h6 := zn_neT h6
    refine rw_go hX [(13, .bipush 100), (15, .aload_n 0), (16, .iload_n 1)] (by decide +kernel) (Ps := []) (pc' := 17) (lv' := [(0, .ref 66), (1, .int (nI w))]) (st' := [.int (nI w), .ref 66, .int (nI 100)]) (σ' := σ) rfl True.intro ?_
    refine rw_callVi hX (as := [.int (nI w)]) (rest := [.int (nI 100)]) (m_covered _ _ _ s L w hw hL hL5 hs hs5) (by decide +kernel) mvX10_covered lk10_261 (ci := 9) rfl rfl rfl (by decide) (Nat.le_of_ble_eq_true rfl) rfl ?_
    intro r1 σ1 hr
    rw [hr.1, show r1 = nI (cvN s L) from hr.2]
    clear hr σ1 r1
    refine rw_go hX [(20, .imul)] (by decide +kernel) (Ps := []) (pc' := 21) (lv' := [(0, .ref 66), (1, .int (nI w))]) (st' := [.int (nI 100 * nI (cvN s L))]) (σ' := σ) rfl True.intro ?_
    rw [show (nI 100 * nI (cvN s L)) = nI (100 * cvN s L) from pk_mul _ _]
    refine rw_go hX [(21, .aload_n 0), (22, .getfield 40), (25, .iload_n 1), (26, .iaload)] (by decide +kernel) (Ps := [vp_in (nI w) 5]) (pc' := 27) (lv' := [(0, .ref 66), (1, .int (nI w))]) (st' := [.int (σ 77 (nI w).toNatClampNeg), .int (nI (100 * cvN s L))]) (σ' := σ) rfl (vp_in_nI (by omega) (by omega)) ?_
    rw [show (σ 77 (nI w).toNatClampNeg) = nI L from (by rw [nI_clamp (by omega), hL])]
    refine rw_go hX [(27, .idiv)] (by decide +kernel) (Ps := [¬ (nI L) = 0]) (pc' := 28) (lv' := [(0, .ref 66), (1, .int (nI w))]) (st' := [.int (nI (100 * cvN s L) / nI L)]) (σ' := σ) rfl (fun z9 => by have := zn_eqT z9; omega) ?_
    exact rw_iret hX (by decide +kernel) (⟨rfl, by
  unfold shN
  rw [if_neg (show ¬ 1 = 0 by decide)]
  first
  | rw [if_pos h6]
  | rw [if_neg (show ¬ L = 0 by omega), pk_div (by omega) (by omega) (by omega)]⟩)
  · replace h6 := zn_neF h6
    refine rw_go hX [(9, .iconst 0), (10, .goto 18)] (by decide +kernel) (Ps := []) (pc' := 28) (lv' := [(0, .ref 66), (1, .int (nI w))]) (st' := [.int (nI 0)]) (σ' := σ) rfl True.intro ?_
    exact rw_iret hX (by decide +kernel) (⟨rfl, by
  unfold shN
  rw [if_neg (show ¬ 1 = 0 by decide)]
  first
  | rw [if_pos h6]
  | rw [if_neg (show ¬ L = 0 by omega), pk_div (by omega) (by omega) (by omega)]⟩)
set_option maxRecDepth 20000 in
set_option maxHeartbeats 4000000 in
theorem m_beginsSpan (l : Launch) (G : Gl) (σ : Mm) (s : Nat → Option Nat) (i : Nat) (hs : ∀ i, i < 50 → σ 88 i = en (s i)) (hs5 : ∀ i v, s i = some v → v < 5) (hi : i < 50) : AMi l G 0 mX10_beginsSpan [.ref 66, .int (nI i)] σ (fun r σ' => σ' = σ ∧ r = bz (bsp s i)) := by
  refine rw_inI 10 (by decide +kernel) rfl rfl ?_
  intro E hE hX
  subst hE
  refine rw_go hX [(0, .aload_n 0), (1, .getfield 74), (4, .iload_n 1), (5, .iaload)] (by decide +kernel) (Ps := [vp_in (nI i) 50]) (pc' := 6) (lv' := [(0, .ref 66), (1, .int (nI i))]) (st' := [.int (σ 88 (nI i).toNatClampNeg)]) (σ' := σ) rfl (vp_in_nI (by omega) (by omega)) ?_
  rw [show (σ 88 (nI i).toNatClampNeg) = en (s i) from (by rw [nI_clamp (by omega), hs i hi])]
  refine rw_if hX (tgt := 34) (cnd := .lt) (off := 28) (by decide +kernel) (by decide) (fun h6 => ?_) (fun h6 => ?_)
  · replace h6 : (en (s i) < 0) := h6
    have e : bsp s i = false := by unfold bsp; rw [(en_lt0 (en_31 hs5 i)).mp h6]; rfl
    refine rw_go hX [(34, .iconst 0)] (by decide +kernel) (Ps := []) (pc' := 35) (lv' := [(0, .ref 66), (1, .int (nI i))]) (st' := [.int (nI 0)]) (σ' := σ) rfl True.intro ?_
    exact rw_zret hX (by decide +kernel) (Or.inl rfl) (⟨rfl, by rw [e]; rfl⟩)
  · replace h6 : ¬ (en (s i) < 0) := h6
    have hy : (s i).isSome = true := by
      cases z : (s i).isSome with
      | true => rfl
      | false => exact absurd ((en_lt0 (en_31 hs5 i)).mpr z) h6
    refine rw_go hX [(9, .iload_n 1)] (by decide +kernel) (Ps := []) (pc' := 10) (lv' := [(0, .ref 66), (1, .int (nI i))]) (st' := [.int (nI i)]) (σ' := σ) rfl True.intro ?_
    refine rw_if hX (tgt := 30) (cnd := .eq) (off := 20) (by decide +kernel) (by decide) (fun h10 => ?_) (fun h10 => ?_)
    · replace h10 := zn_eqT h10
      have e : bsp s i = true := by
        unfold bsp gs
        rw [h10] at hy ⊢
        rw [hy, decide_eq_false (fun z => by rw [show s 0 = none from z] at hy; cases hy)]
        rfl
      refine rw_go hX [(30, .iconst 1), (31, .goto 4)] (by decide +kernel) (Ps := []) (pc' := 35) (lv' := [(0, .ref 66), (1, .int (nI i))]) (st' := [.int (nI 1)]) (σ' := σ) rfl True.intro ?_
      exact rw_zret hX (by decide +kernel) (Or.inr rfl) (⟨rfl, by rw [e]; rfl⟩)
    · replace h10 := zn_eqF h10
      have ha : ahd s i = s (i - 1) := by
        obtain ⟨j, rfl⟩ : ∃ j, i = j + 1 := ⟨i - 1, by omega⟩
        rw [Nat.add_sub_cancel]; rfl
      refine rw_go hX [(13, .aload_n 0), (14, .getfield 74), (17, .iload_n 1), (18, .iconst 1), (19, .isub)] (by decide +kernel) (Ps := []) (pc' := 20) (lv' := [(0, .ref 66), (1, .int (nI i))]) (st' := [.int (nI i - nI 1), .ref 88]) (σ' := σ) rfl True.intro ?_
      rw [show (nI i - nI 1) = nI (i - 1) from pk_sub (by omega)]
      refine rw_go hX [(20, .iaload)] (by decide +kernel) (Ps := [vp_in (nI (i - 1)) 50]) (pc' := 21) (lv' := [(0, .ref 66), (1, .int (nI i))]) (st' := [.int (σ 88 (nI (i - 1)).toNatClampNeg)]) (σ' := σ) rfl (vp_in_nI (by omega) (by omega)) ?_
      rw [show (σ 88 (nI (i - 1)).toNatClampNeg) = en (s (i - 1)) from (by rw [nI_clamp (by omega), hs (i - 1) (by omega)])]
      refine rw_go hX [(21, .aload_n 0), (22, .getfield 74), (25, .iload_n 1), (26, .iaload)] (by decide +kernel) (Ps := [vp_in (nI i) 50]) (pc' := 27) (lv' := [(0, .ref 66), (1, .int (nI i))]) (st' := [.int (σ 88 (nI i).toNatClampNeg), .int (en (s (i - 1)))]) (σ' := σ) rfl (vp_in_nI (by omega) (by omega)) ?_
      rw [show (σ 88 (nI i).toNatClampNeg) = en (s i) from (by rw [nI_clamp (by omega), hs i hi])]
      refine rw_icmp hX (tgt := 34) (cnd := .eq) (off := 7) (by decide +kernel) (by decide) (fun h27 => ?_) (fun h27 => ?_)
      · replace h27 : (en (s (i - 1)) = en (s i)) := h27
        have e : bsp s i = false := by unfold bsp gs; rw [ha, decide_eq_true (en_inj (en_31 hs5 _) (en_31 hs5 _) h27).symm]; exact Bool.and_false _
        refine rw_go hX [(34, .iconst 0)] (by decide +kernel) (Ps := []) (pc' := 35) (lv' := [(0, .ref 66), (1, .int (nI i))]) (st' := [.int (nI 0)]) (σ' := σ) rfl True.intro ?_
        exact rw_zret hX (by decide +kernel) (Or.inl rfl) (⟨rfl, by rw [e]; rfl⟩)
      · replace h27 : ¬ (en (s (i - 1)) = en (s i)) := h27
        have e : bsp s i = true := by unfold bsp gs; rw [hy, ha, decide_eq_false (fun z => h27 (by rw [z]))]; rfl
        refine rw_go hX [(30, .iconst 1), (31, .goto 4)] (by decide +kernel) (Ps := []) (pc' := 35) (lv' := [(0, .ref 66), (1, .int (nI i))]) (st' := [.int (nI 1)]) (σ' := σ) rfl True.intro ?_
        exact rw_zret hX (by decide +kernel) (Or.inr rfl) (⟨rfl, by rw [e]; rfl⟩)
set_option maxRecDepth 20000 in
set_option maxHeartbeats 4000000 in
theorem m_spans (l : Launch) (G : Gl) (σ : Mm) (s : Nat → Option Nat) (L w : Nat) (hw : w < 5) (hL : σ 77 w = nI L) (hL5 : L ≤ 50) (hs : ∀ i, i < 50 → σ 88 i = en (s i)) (hs5 : ∀ i v, s i = some v → v < 5) : AMi l G 1 mX10_spans [.ref 66, .int (nI w)] σ (fun r σ' => σ' = σ ∧ r = nI (spN s L)) := by
  refine rw_inI 10 (by decide +kernel) rfl rfl ?_
  intro E hE hX
  subst hE
  refine rw_go hX [(0, .iconst 0), (1, .istore_n 2), (2, .iconst 0), (3, .istore_n 3)] (by decide +kernel) (Ps := []) (pc' := 4) (lv' := [(0, .ref 66), (1, .int (nI w)), (2, .int (nI 0)), (3, .int (nI 0))]) (st' := []) (σ' := σ) rfl True.intro ?_
  have L4 : ∀ (μ4 : Nat) (i : Nat), μ4 = L - i → (i ≤ L) → RW E G 1 4 (QI E G (fun r σ' => σ' = σ ∧ r = nI (spN s L))) 4 [(0, .ref 66), (1, .int (nI w)), (2, .int (nI (spN s i))), (3, .int (nI i))] [] σ := by
    intro μ4
    induction μ4 using Nat.strongRecOn with
    | ind μ4 ih4 =>
      intro i hμ4 hi
      refine rw_go hX [(4, .iload_n 3), (5, .aload_n 0), (6, .getfield 40), (9, .iload_n 1), (10, .iaload)] (by decide +kernel) (Ps := [vp_in (nI w) 5]) (pc' := 11) (lv' := [(0, .ref 66), (1, .int (nI w)), (2, .int (nI (spN s i))), (3, .int (nI i))]) (st' := [.int (σ 77 (nI w).toNatClampNeg), .int (nI i)]) (σ' := σ) rfl (vp_in_nI (by omega) (by omega)) ?_
      rw [show (σ 77 (nI w).toNatClampNeg) = nI L from (by rw [nI_clamp (by omega), hL])]
      refine rw_icmp hX (tgt := 36) (cnd := .ge) (off := 25) (by decide +kernel) (by decide) (fun h11 => ?_) (fun h11 => ?_)
      · replace h11 := c2_geT h11
        have ei : i = L := by omega
        refine rw_go hX [(36, .iload_n 2)] (by decide +kernel) (Ps := []) (pc' := 37) (lv' := [(0, .ref 66), (1, .int (nI w)), (2, .int (nI (spN s i))), (3, .int (nI i))]) (st' := [.int (nI (spN s i))]) (σ' := σ) rfl True.intro ?_
        exact rw_iret hX (by decide +kernel) (⟨rfl, by rw [ei]⟩)
      · replace h11 := c2_geF h11
        refine rw_go hX [(14, .iload_n 2), (15, .aload_n 0), (16, .iload_n 3)] (by decide +kernel) (Ps := []) (pc' := 17) (lv' := [(0, .ref 66), (1, .int (nI w)), (2, .int (nI (spN s i))), (3, .int (nI i))]) (st' := [.int (nI i), .ref 66, .int (nI (spN s i))]) (σ' := σ) rfl True.intro ?_
        refine rw_callVi hX (as := [.int (nI i)]) (rest := [.int (nI (spN s i))]) (m_beginsSpan _ _ _ s i hs hs5 (by omega)) (by decide +kernel) mvX10_beginsSpan lk10_264 (ci := 9) rfl rfl rfl (by decide) (Nat.le_of_ble_eq_true rfl) rfl ?_
        intro r1 σ1 hr
        rw [hr.1, show r1 = bz (bsp s i) from hr.2]
        clear hr σ1 r1
        refine rw_if hX (tgt := 27) (cnd := .eq) (off := 7) (by decide +kernel) (by decide) (fun h20 => ?_) (fun h20 => ?_)
        · replace h20 := zb_eqT h20
          refine rw_go hX [(27, .iconst 0), (28, .iadd)] (by decide +kernel) (Ps := []) (pc' := 29) (lv' := [(0, .ref 66), (1, .int (nI w)), (2, .int (nI (spN s i))), (3, .int (nI i))]) (st' := [.int (nI (spN s i) + nI 0)]) (σ' := σ) rfl True.intro ?_
          rw [show (nI (spN s i) + nI 0) = nI (spN s i + 0) from nI_add _ _]
          refine rw_go hX [(29, .istore_n 2), (30, .iinc 3 1)] (by decide +kernel) (Ps := []) (pc' := 33) (lv' := [(0, .ref 66), (1, .int (nI w)), (2, .int (nI (spN s i + 0))), (3, .int (nI i + nI 1))]) (st' := []) (σ' := σ) rfl True.intro ?_
          rw [show (nI i + nI 1) = nI (i + 1) from nI_add _ _]
          refine rw_go hX [(33, .goto (-29))] (by decide +kernel) (Ps := []) (pc' := 4) (lv' := [(0, .ref 66), (1, .int (nI w)), (2, .int (nI (spN s i + 0))), (3, .int (nI (i + 1)))]) (st' := []) (σ' := σ) rfl True.intro ?_
          refine rw_lsub (ks := [0, 1, 2, 3]) (lv' := [(0, .ref 66), (1, .int (nI w)), (2, .int (nI (spN s i + 0))), (3, .int (nI (i + 1)))]) rfl ?_
          have q := ih4 (L - (i + 1)) (by omega) (i + 1) rfl (by omega)
          rw [spN_1, if_neg (by rw [h20]; decide)] at q
          exact q
        · replace h20 := zb_eqF h20
          refine rw_go hX [(23, .iconst 1), (24, .goto 4), (28, .iadd)] (by decide +kernel) (Ps := []) (pc' := 29) (lv' := [(0, .ref 66), (1, .int (nI w)), (2, .int (nI (spN s i))), (3, .int (nI i))]) (st' := [.int (nI (spN s i) + nI 1)]) (σ' := σ) rfl True.intro ?_
          rw [show (nI (spN s i) + nI 1) = nI (spN s i + 1) from nI_add _ _]
          refine rw_go hX [(29, .istore_n 2), (30, .iinc 3 1)] (by decide +kernel) (Ps := []) (pc' := 33) (lv' := [(0, .ref 66), (1, .int (nI w)), (2, .int (nI (spN s i + 1))), (3, .int (nI i + nI 1))]) (st' := []) (σ' := σ) rfl True.intro ?_
          rw [show (nI i + nI 1) = nI (i + 1) from nI_add _ _]
          refine rw_go hX [(33, .goto (-29))] (by decide +kernel) (Ps := []) (pc' := 4) (lv' := [(0, .ref 66), (1, .int (nI w)), (2, .int (nI (spN s i + 1))), (3, .int (nI (i + 1)))]) (st' := []) (σ' := σ) rfl True.intro ?_
          refine rw_lsub (ks := [0, 1, 2, 3]) (lv' := [(0, .ref 66), (1, .int (nI w)), (2, .int (nI (spN s i + 1))), (3, .int (nI (i + 1)))]) rfl ?_
          have q := ih4 (L - (i + 1)) (by omega) (i + 1) rfl (by omega)
          rw [spN_1, if_pos h20] at q
          exact q
  refine rw_lsub (ks := [0, 1, 2, 3]) (lv' := [(0, .ref 66), (1, .int (nI w)), (2, .int (nI 0)), (3, .int (nI 0))]) rfl ?_
  exact L4 L 0 rfl (by omega)
set_option maxRecDepth 20000 in
set_option maxHeartbeats 4000000 in
theorem m_spanAt (l : Launch) (G : Gl) (σ : Mm) (s : Nat → Option Nat) (L k : Nat) (hs : ∀ i, i < 50 → σ 88 i = en (s i)) (hs5 : ∀ i v, s i = some v → v < 5) (hL5 : L ≤ 50) (hk : k < spN s L) : AMi l G 1 mX10_spanAt [.ref 66, .int (nI k)] σ (fun r σ' => σ' = σ ∧ r = nI (spA s k L)) := by
  refine rw_inI 10 (by decide +kernel) rfl rfl ?_
  intro E hE hX
  subst hE
  refine rw_go hX [(0, .iload_n 1), (1, .istore_n 2), (2, .iconst 0), (3, .istore_n 3)] (by decide +kernel) (Ps := []) (pc' := 4) (lv' := [(0, .ref 66), (1, .int (nI k)), (2, .int (nI k)), (3, .int (nI 0))]) (st' := []) (σ' := σ) rfl True.intro ?_
  have L4 : ∀ (μ4 : Nat) (i : Nat), μ4 = L - i → (spN s i ≤ k) → RW E G 1 4 (QI E G (fun r σ' => σ' = σ ∧ r = nI (spA s k L))) 4 [(0, .ref 66), (1, .int (nI k)), (2, .int (nI (k - spN s i))), (3, .int (nI i))] [] σ := by
    intro μ4
    induction μ4 using Nat.strongRecOn with
    | ind μ4 ih4 =>
      intro i hμ4 hle
      have hiL : i < L := by
        rcases Nat.lt_or_ge i L with q | q
        · exact q
        · have := spN_up s q
          omega
      have hk5 := spN_50 (s := s) hL5
      have hs1 := spN_1 s i
      refine rw_go hX [(4, .aload_n 0), (5, .iload_n 3)] (by decide +kernel) (Ps := []) (pc' := 6) (lv' := [(0, .ref 66), (1, .int (nI k)), (2, .int (nI (k - spN s i))), (3, .int (nI i))]) (st' := [.int (nI i), .ref 66]) (σ' := σ) rfl True.intro ?_
      refine rw_callVi hX (as := [.int (nI i)]) (rest := []) (m_beginsSpan _ _ _ s i hs hs5 (by omega)) (by decide +kernel) mvX10_beginsSpan lk10_264 (ci := 9) rfl rfl rfl (by decide) (Nat.le_of_ble_eq_true rfl) rfl ?_
      intro r1 σ1 hr
      rw [hr.1, show r1 = bz (bsp s i) from hr.2]
      clear hr σ1 r1
      refine rw_if hX (tgt := 16) (cnd := .eq) (off := 7) (by decide +kernel) (by decide) (fun h9 => ?_) (fun h9 => ?_)
      · replace h9 := zb_eqT h9
        skip
        refine rw_go hX [(16, .iload_n 2), (17, .aload_n 0), (18, .iload_n 3)] (by decide +kernel) (Ps := []) (pc' := 19) (lv' := [(0, .ref 66), (1, .int (nI k)), (2, .int (nI (k - spN s i))), (3, .int (nI i))]) (st' := [.int (nI i), .ref 66, .int (nI (k - spN s i))]) (σ' := σ) rfl True.intro ?_
        refine rw_callVi hX (as := [.int (nI i)]) (rest := [.int (nI (k - spN s i))]) (m_beginsSpan _ _ _ s i hs hs5 (by omega)) (by decide +kernel) mvX10_beginsSpan lk10_264 (ci := 9) rfl rfl rfl (by decide) (Nat.le_of_ble_eq_true rfl) rfl ?_
        intro r1 σ1 hr
        rw [hr.1, show r1 = bz (bsp s i) from hr.2]
        clear hr σ1 r1
        refine rw_if hX (tgt := 29) (cnd := .eq) (off := 7) (by decide +kernel) (by decide) (fun h22 => ?_) (fun h22 => ?_)
        · replace h22 := zb_eqT h22
          rw [h9, if_neg (by decide)] at hs1
          refine rw_go hX [(29, .iconst 0), (30, .isub), (31, .istore_n 2), (32, .iinc 3 1)] (by decide +kernel) (Ps := []) (pc' := 35) (lv' := [(0, .ref 66), (1, .int (nI k)), (2, .int (nI (k - spN s i) - nI 0)), (3, .int (nI i + nI 1))]) (st' := []) (σ' := σ) rfl True.intro ?_
          rw [show (nI i + nI 1) = nI (i + 1) from nI_add _ _]
          refine rw_go hX [(35, .goto (-31))] (by decide +kernel) (Ps := []) (pc' := 4) (lv' := [(0, .ref 66), (1, .int (nI k)), (2, .int (nI (k - spN s i) - nI 0)), (3, .int (nI (i + 1)))]) (st' := []) (σ' := σ) rfl True.intro ?_
          refine rw_lsub (ks := [0, 1, 2, 3]) (lv' := [(0, .ref 66), (1, .int (nI k)), (2, .int (nI (k - spN s i) - nI 0)), (3, .int (nI (i + 1)))]) rfl ?_
          have q := ih4 (L - (i + 1)) (by omega) (i + 1) rfl (by rw [hs1]; omega)
          rw [hs1] at q
          rw [show (nI (k - spN s i) - nI 0) = nI (k - (spN s i + 0)) from by rw [pk_sub (Nat.zero_le _)]; rfl]
          exact q
        · replace h22 := zb_eqF h22
          rw [h9] at h22; cases h22
      · replace h9 := zb_eqF h9
        skip
        refine rw_go hX [(12, .iload_n 2)] (by decide +kernel) (Ps := []) (pc' := 13) (lv' := [(0, .ref 66), (1, .int (nI k)), (2, .int (nI (k - spN s i))), (3, .int (nI i))]) (st' := [.int (nI (k - spN s i))]) (σ' := σ) rfl True.intro ?_
        refine rw_if hX (tgt := 38) (cnd := .le) (off := 25) (by decide +kernel) (by decide) (fun h13 => ?_) (fun h13 => ?_)
        · replace h13 := zn_leT h13
          refine rw_go hX [(38, .iload_n 3)] (by decide +kernel) (Ps := []) (pc' := 39) (lv' := [(0, .ref 66), (1, .int (nI k)), (2, .int (nI (k - spN s i))), (3, .int (nI i))]) (st' := [.int (nI i)]) (σ' := σ) rfl True.intro ?_
          exact rw_iret hX (by decide +kernel) (⟨rfl, by rw [spA_eq h9 (by omega) hiL]⟩)
        · replace h13 := zn_leF h13
          refine rw_go hX [(16, .iload_n 2), (17, .aload_n 0), (18, .iload_n 3)] (by decide +kernel) (Ps := []) (pc' := 19) (lv' := [(0, .ref 66), (1, .int (nI k)), (2, .int (nI (k - spN s i))), (3, .int (nI i))]) (st' := [.int (nI i), .ref 66, .int (nI (k - spN s i))]) (σ' := σ) rfl True.intro ?_
          refine rw_callVi hX (as := [.int (nI i)]) (rest := [.int (nI (k - spN s i))]) (m_beginsSpan _ _ _ s i hs hs5 (by omega)) (by decide +kernel) mvX10_beginsSpan lk10_264 (ci := 9) rfl rfl rfl (by decide) (Nat.le_of_ble_eq_true rfl) rfl ?_
          intro r1 σ1 hr
          rw [hr.1, show r1 = bz (bsp s i) from hr.2]
          clear hr σ1 r1
          refine rw_if hX (tgt := 29) (cnd := .eq) (off := 7) (by decide +kernel) (by decide) (fun h22 => ?_) (fun h22 => ?_)
          · replace h22 := zb_eqT h22
            rw [h9] at h22; cases h22
          · replace h22 := zb_eqF h22
            rw [h9, if_pos rfl] at hs1
            refine rw_go hX [(25, .iconst 1), (26, .goto 4), (30, .isub), (31, .istore_n 2), (32, .iinc 3 1)] (by decide +kernel) (Ps := []) (pc' := 35) (lv' := [(0, .ref 66), (1, .int (nI k)), (2, .int (nI (k - spN s i) - nI 1)), (3, .int (nI i + nI 1))]) (st' := []) (σ' := σ) rfl True.intro ?_
            rw [show (nI i + nI 1) = nI (i + 1) from nI_add _ _]
            refine rw_go hX [(35, .goto (-31))] (by decide +kernel) (Ps := []) (pc' := 4) (lv' := [(0, .ref 66), (1, .int (nI k)), (2, .int (nI (k - spN s i) - nI 1)), (3, .int (nI (i + 1)))]) (st' := []) (σ' := σ) rfl True.intro ?_
            refine rw_lsub (ks := [0, 1, 2, 3]) (lv' := [(0, .ref 66), (1, .int (nI k)), (2, .int (nI (k - spN s i) - nI 1)), (3, .int (nI (i + 1)))]) rfl ?_
            have q := ih4 (L - (i + 1)) (by omega) (i + 1) rfl (by rw [hs1]; omega)
            rw [hs1] at q
            rw [show (nI (k - spN s i) - nI 1) = nI (k - (spN s i + 1)) from by rw [pk_sub (by omega), Nat.sub_sub]]
            exact q
  refine rw_lsub (ks := [0, 1, 2, 3]) (lv' := [(0, .ref 66), (1, .int (nI k)), (2, .int (nI k)), (3, .int (nI 0))]) rfl ?_
  exact L4 L 0 rfl (Nat.zero_le _)
set_option maxRecDepth 20000 in
set_option maxHeartbeats 4000000 in
theorem m_spanEnd (l : Launch) (G : Gl) (σ : Mm) (s : Nat → Option Nat) (L w k : Nat) (hw : w < 5) (hL : σ 77 w = nI L) (hL5 : L ≤ 50) (hs : ∀ i, i < 50 → σ 88 i = en (s i)) (hs5 : ∀ i v, s i = some v → v < 5) (hk : k < spN s L) : AMi l G 0 mX10_spanEnd [.ref 66, .int (nI w), .int (nI (spA s k L))] σ (fun r σ' => σ' = σ ∧ r = nI (spZ s k L)) := by
  refine rw_inI 10 (by decide +kernel) rfl rfl ?_
  intro E hE hX
  subst hE
  obtain ⟨hA1, hA2, hA3, hA4⟩ := spA_in hk
  obtain ⟨a, ha⟩ : ∃ a, a = spA s k L := ⟨_, rfl⟩
  rw [← ha] at hA1 hA2 hA3 hA4 ⊢
  refine rw_go hX [(0, .iload_n 2), (1, .istore_n 3)] (by decide +kernel) (Ps := []) (pc' := 2) (lv' := [(0, .ref 66), (1, .int (nI w)), (2, .int (nI a)), (3, .int (nI a))]) (st' := []) (σ' := σ) rfl True.intro ?_
  have L2 : ∀ (μ2 : Nat) (i : Nat), μ2 = L - i → (i < L) → (s i = s a) → (spN s (i + 1) = k + 1) → RW E G 0 4 (QI E G (fun r σ' => σ' = σ ∧ r = nI (spZ s k L))) 2 [(0, .ref 66), (1, .int (nI w)), (2, .int (nI a)), (3, .int (nI i))] [] σ := by
    intro μ2
    induction μ2 using Nat.strongRecOn with
    | ind μ2 ih2 =>
      intro i hμ2 hi hsi hki
      refine rw_go hX [(2, .iload_n 3), (3, .iconst 1), (4, .iadd)] (by decide +kernel) (Ps := []) (pc' := 5) (lv' := [(0, .ref 66), (1, .int (nI w)), (2, .int (nI a)), (3, .int (nI i))]) (st' := [.int (nI i + nI 1)]) (σ' := σ) rfl True.intro ?_
      rw [show (nI i + nI 1) = nI (i + 1) from nI_add _ _]
      refine rw_go hX [(5, .aload_n 0), (6, .getfield 40), (9, .iload_n 1), (10, .iaload)] (by decide +kernel) (Ps := [vp_in (nI w) 5]) (pc' := 11) (lv' := [(0, .ref 66), (1, .int (nI w)), (2, .int (nI a)), (3, .int (nI i))]) (st' := [.int (σ 77 (nI w).toNatClampNeg), .int (nI (i + 1))]) (σ' := σ) rfl (vp_in_nI (by omega) (by omega)) ?_
      rw [show (σ 77 (nI w).toNatClampNeg) = nI L from (by rw [nI_clamp (by omega), hL])]
      refine rw_icmp hX (tgt := 37) (cnd := .ge) (off := 26) (by decide +kernel) (by decide) (fun h11 => ?_) (fun h11 => ?_)
      · replace h11 := c2_geT h11
        have hfin : spZ s k L = i := spZ_eq hi (by rw [hsi]; exact hA2) hki (fun j h1 h2 _ => by omega)
        refine rw_go hX [(37, .iload_n 3)] (by decide +kernel) (Ps := []) (pc' := 38) (lv' := [(0, .ref 66), (1, .int (nI w)), (2, .int (nI a)), (3, .int (nI i))]) (st' := [.int (nI i)]) (σ' := σ) rfl True.intro ?_
        exact rw_iret hX (by decide +kernel) (⟨rfl, by rw [hfin]⟩)
      · replace h11 := c2_geF h11
        refine rw_go hX [(14, .aload_n 0), (15, .getfield 74), (18, .iload_n 3), (19, .iconst 1), (20, .iadd)] (by decide +kernel) (Ps := []) (pc' := 21) (lv' := [(0, .ref 66), (1, .int (nI w)), (2, .int (nI a)), (3, .int (nI i))]) (st' := [.int (nI i + nI 1), .ref 88]) (σ' := σ) rfl True.intro ?_
        rw [show (nI i + nI 1) = nI (i + 1) from nI_add _ _]
        refine rw_go hX [(21, .iaload)] (by decide +kernel) (Ps := [vp_in (nI (i + 1)) 50]) (pc' := 22) (lv' := [(0, .ref 66), (1, .int (nI w)), (2, .int (nI a)), (3, .int (nI i))]) (st' := [.int (σ 88 (nI (i + 1)).toNatClampNeg)]) (σ' := σ) rfl (vp_in_nI (by omega) (by omega)) ?_
        rw [show (σ 88 (nI (i + 1)).toNatClampNeg) = en (s (i + 1)) from (by rw [nI_clamp (by omega), hs (i + 1) (by omega)])]
        refine rw_go hX [(22, .aload_n 0), (23, .getfield 74), (26, .iload_n 2), (27, .iaload)] (by decide +kernel) (Ps := [vp_in (nI a) 50]) (pc' := 28) (lv' := [(0, .ref 66), (1, .int (nI w)), (2, .int (nI a)), (3, .int (nI i))]) (st' := [.int (σ 88 (nI a).toNatClampNeg), .int (en (s (i + 1)))]) (σ' := σ) rfl (vp_in_nI (by omega) (by omega)) ?_
        rw [show (σ 88 (nI a).toNatClampNeg) = en (s a) from (by rw [nI_clamp (by omega), hs a (by omega)])]
        refine rw_icmp hX (tgt := 37) (cnd := .ne) (off := 9) (by decide +kernel) (by decide) (fun h28 => ?_) (fun h28 => ?_)
        · replace h28 : (en (s (i + 1)) ≠ en (s a)) := h28
          have hne : s (i + 1) ≠ s i := fun z => h28 (by rw [z, hsi])
          have hfin : spZ s k L = i := spZ_eq hi (by rw [hsi]; exact hA2) hki (fun j h1 h2 h3 => by
            have := run_end (by rw [hsi]; exact hA2) hki hne j h1 h3
            omega)
          refine rw_go hX [(37, .iload_n 3)] (by decide +kernel) (Ps := []) (pc' := 38) (lv' := [(0, .ref 66), (1, .int (nI w)), (2, .int (nI a)), (3, .int (nI i))]) (st' := [.int (nI i)]) (σ' := σ) rfl True.intro ?_
          exact rw_iret hX (by decide +kernel) (⟨rfl, by rw [hfin]⟩)
        · replace h28 : en (s (i + 1)) = en (s a) := Classical.not_not.mp h28
          have hse : s (i + 1) = s a := en_inj (en_31 hs5 _) (en_31 hs5 _) h28
          refine rw_go hX [(31, .iinc 3 1)] (by decide +kernel) (Ps := []) (pc' := 34) (lv' := [(0, .ref 66), (1, .int (nI w)), (2, .int (nI a)), (3, .int (nI i + nI 1))]) (st' := []) (σ' := σ) rfl True.intro ?_
          rw [show (nI i + nI 1) = nI (i + 1) from nI_add _ _]
          refine rw_go hX [(34, .goto (-32))] (by decide +kernel) (Ps := []) (pc' := 2) (lv' := [(0, .ref 66), (1, .int (nI w)), (2, .int (nI a)), (3, .int (nI (i + 1)))]) (st' := []) (σ' := σ) rfl True.intro ?_
          refine rw_lsub (ks := [0, 1, 2, 3]) (lv' := [(0, .ref 66), (1, .int (nI w)), (2, .int (nI a)), (3, .int (nI (i + 1)))]) rfl ?_
          exact ih2 (L - (i + 1)) (by omega) (i + 1) rfl (by omega) hse (by rw [spN_1, hki]; unfold bsp gs; rw [show ahd s (i + 1) = s i from rfl, hse, hsi, decide_eq_true rfl]; simp)
  refine rw_lsub (ks := [0, 1, 2, 3]) (lv' := [(0, .ref 66), (1, .int (nI w)), (2, .int (nI a)), (3, .int (nI a))]) rfl ?_
  exact L2 (L - a) a rfl hA1 rfl (by rw [spN_1, hA4]; unfold bsp; rw [hA2, hA3]; rfl)
set_option maxRecDepth 20000 in
set_option maxHeartbeats 4000000 in
theorem m_mostSource (l : Launch) (G : Gl) (σ : Mm) (s : Nat → Option Nat) (L w : Nat) (hw : w < 5) (hL : σ 77 w = nI L) (hL5 : L ≤ 50) (hs : ∀ i, i < 50 → σ 88 i = en (s i)) (hs5 : ∀ i v, s i = some v → v < 5) : AMi l G 0 mX10_mostSource [.ref 66, .int (nI w)] σ (fun r σ' => σ' = σ ∧ r = en (msS (fun v => tyN s v L) 5).1) := by
  refine rw_inI 10 (by decide +kernel) rfl rfl ?_
  intro E hE hX
  subst hE
  refine rw_go hX [(0, .iconst (-1)), (1, .istore_n 2), (2, .iconst 0), (3, .istore_n 3), (4, .iconst 0), (5, .istore 4)] (by decide +kernel) (Ps := []) (pc' := 7) (lv' := [(0, .ref 66), (1, .int (nI w)), (2, .int (-(nI 1))), (3, .int (nI 0)), (4, .int (nI 0))]) (st' := []) (σ' := σ) rfl True.intro ?_
  have L7 : ∀ (μ7 : Nat) (v : Nat), μ7 = 5 - v → (v ≤ 5) → RW E G 0 7 (QI E G (fun r σ' => σ' = σ ∧ r = en (msS (fun v => tyN s v L) 5).1)) 7 [(0, .ref 66), (1, .int (nI w)), (2, .int (en (msS (fun v => tyN s v L) v).1)), (3, .int (nI ((msS (fun v => tyN s v L) v).2))), (4, .int (nI v))] [] σ := by
    intro μ7
    induction μ7 using Nat.strongRecOn with
    | ind μ7 ih7 =>
      intro v hμ7 hvi
      have hms := msS_le (T := (fun v => tyN s v L)) (C := 50) (fun x _ => Nat.le_trans (tyN_le s x L) hL5) v hvi
      refine rw_go hX [(7, .iload 4), (9, .iconst 5)] (by decide +kernel) (Ps := []) (pc' := 10) (lv' := [(0, .ref 66), (1, .int (nI w)), (2, .int (en (msS (fun v => tyN s v L) v).1)), (3, .int (nI ((msS (fun v => tyN s v L) v).2))), (4, .int (nI v))]) (st' := [.int (nI 5), .int (nI v)]) (σ' := σ) rfl True.intro ?_
      refine rw_icmp hX (tgt := 84) (cnd := .ge) (off := 74) (by decide +kernel) (by decide) (fun h10 => ?_) (fun h10 => ?_)
      · replace h10 := c2_geT h10
        have e5 : v = 5 := by omega
        refine rw_go hX [(84, .iload_n 2)] (by decide +kernel) (Ps := []) (pc' := 85) (lv' := [(0, .ref 66), (1, .int (nI w)), (2, .int (en (msS (fun v => tyN s v L) v).1)), (3, .int (nI ((msS (fun v => tyN s v L) v).2))), (4, .int (nI v))]) (st' := [.int (en (msS (fun v => tyN s v L) v).1)]) (σ' := σ) rfl True.intro ?_
        exact rw_iret hX (by decide +kernel) (⟨rfl, by rw [e5]⟩)
      · replace h10 := c2_geF h10
        refine rw_go hX [(13, .iconst 0), (14, .istore 5), (16, .iconst 0), (17, .istore 6)] (by decide +kernel) (Ps := []) (pc' := 19) (lv' := [(0, .ref 66), (1, .int (nI w)), (2, .int (en (msS (fun v => tyN s v L) v).1)), (3, .int (nI ((msS (fun v => tyN s v L) v).2))), (4, .int (nI v)), (5, .int (nI 0)), (6, .int (nI 0))]) (st' := []) (σ' := σ) rfl True.intro ?_
        have L19 : ∀ (μ19 : Nat) (i : Nat), μ19 = L - i → (i ≤ L) → RW E G 0 7 (QI E G (fun r σ' => σ' = σ ∧ r = en (msS (fun v => tyN s v L) 5).1)) 19 [(0, .ref 66), (1, .int (nI w)), (2, .int (en (msS (fun v => tyN s v L) v).1)), (3, .int (nI ((msS (fun v => tyN s v L) v).2))), (4, .int (nI v)), (5, .int (nI (tyN s v i))), (6, .int (nI i))] [] σ := by
          intro μ19
          induction μ19 using Nat.strongRecOn with
          | ind μ19 ih19 =>
            intro i hμ19 hi
            have hty := tyN_le s v i
            refine rw_go hX [(19, .iload 6), (21, .aload_n 0), (22, .getfield 40), (25, .iload_n 1), (26, .iaload)] (by decide +kernel) (Ps := [vp_in (nI w) 5]) (pc' := 27) (lv' := [(0, .ref 66), (1, .int (nI w)), (2, .int (en (msS (fun v => tyN s v L) v).1)), (3, .int (nI ((msS (fun v => tyN s v L) v).2))), (4, .int (nI v)), (5, .int (nI (tyN s v i))), (6, .int (nI i))]) (st' := [.int (σ 77 (nI w).toNatClampNeg), .int (nI i)]) (σ' := σ) rfl (vp_in_nI (by omega) (by omega)) ?_
            rw [show (σ 77 (nI w).toNatClampNeg) = nI L from (by rw [nI_clamp (by omega), hL])]
            refine rw_icmp hX (tgt := 58) (cnd := .ge) (off := 31) (by decide +kernel) (by decide) (fun h27 => ?_) (fun h27 => ?_)
            · replace h27 := c2_geT h27
              have ei : i = L := by omega
              refine rw_go hX [(58, .iload 5), (60, .iload_n 3)] (by decide +kernel) (Ps := []) (pc' := 61) (lv' := [(0, .ref 66), (1, .int (nI w)), (2, .int (en (msS (fun v => tyN s v L) v).1)), (3, .int (nI ((msS (fun v => tyN s v L) v).2))), (4, .int (nI v)), (5, .int (nI (tyN s v i))), (6, .int (nI i))]) (st' := [.int (nI ((msS (fun v => tyN s v L) v).2)), .int (nI (tyN s v i))]) (σ' := σ) rfl True.intro ?_
              refine rw_icmp hX (tgt := 69) (cnd := .le) (off := 8) (by decide +kernel) (by decide) (fun h61 => ?_) (fun h61 => ?_)
              · replace h61 := c2_leT h61
                refine rw_go hX [(69, .iload_n 2), (70, .istore_n 2), (71, .iload_n 3), (72, .iload 5)] (by decide +kernel) (Ps := []) (pc' := 74) (lv' := [(0, .ref 66), (1, .int (nI w)), (2, .int (en (msS (fun v => tyN s v L) v).1)), (3, .int (nI ((msS (fun v => tyN s v L) v).2))), (4, .int (nI v)), (5, .int (nI (tyN s v i))), (6, .int (nI i))]) (st' := [.int (nI (tyN s v i)), .int (nI ((msS (fun v => tyN s v L) v).2))]) (σ' := σ) rfl True.intro ?_
                refine rw_max hX (by decide +kernel) lk10_182 (Nat.le_of_ble_eq_true rfl) ?_
                rw [show (if nI ((msS (fun v => tyN s v L) v).2) < nI (tyN s v i) then nI (tyN s v i) else nI ((msS (fun v => tyN s v L) v).2)) = nI (max ((msS (fun v => tyN s v L) v).2) (tyN s v i)) from mx_nat (by omega) (by omega)]
                refine rw_go hX [(77, .istore_n 3), (78, .iinc 4 1)] (by decide +kernel) (Ps := []) (pc' := 81) (lv' := [(0, .ref 66), (1, .int (nI w)), (2, .int (en (msS (fun v => tyN s v L) v).1)), (3, .int (nI (max ((msS (fun v => tyN s v L) v).2) (tyN s v i)))), (4, .int (nI v + nI 1)), (5, .int (nI (tyN s v i))), (6, .int (nI i))]) (st' := []) (σ' := σ) rfl True.intro ?_
                rw [show (nI v + nI 1) = nI (v + 1) from nI_add _ _]
                refine rw_go hX [(81, .goto (-74))] (by decide +kernel) (Ps := []) (pc' := 7) (lv' := [(0, .ref 66), (1, .int (nI w)), (2, .int (en (msS (fun v => tyN s v L) v).1)), (3, .int (nI (max ((msS (fun v => tyN s v L) v).2) (tyN s v i)))), (4, .int (nI (v + 1))), (5, .int (nI (tyN s v i))), (6, .int (nI i))]) (st' := []) (σ' := σ) rfl True.intro ?_
                refine rw_lsub (ks := [0, 1, 2, 3, 4]) (lv' := [(0, .ref 66), (1, .int (nI w)), (2, .int (en (msS (fun v => tyN s v L) v).1)), (3, .int (nI (max ((msS (fun v => tyN s v L) v).2) (tyN s v i)))), (4, .int (nI (v + 1)))]) rfl ?_
                have eT : tyN s v i = tyN s v L := by rw [ei]
                rw [eT] at h61 ⊢
                have q := ih7 (5 - (v + 1)) (by omega) (v + 1) rfl (by omega)
                rw [msS_n (T := (fun v => tyN s v L)) (w := v) (Nat.not_lt.mpr h61)] at q
                rw [show max (msS (fun v => tyN s v L) v).2 (tyN s v L) = (msS (fun v => tyN s v L) v).2 by omega]
                exact q
              · replace h61 := c2_leF h61
                refine rw_go hX [(64, .iload 4), (66, .goto 4), (70, .istore_n 2), (71, .iload_n 3), (72, .iload 5)] (by decide +kernel) (Ps := []) (pc' := 74) (lv' := [(0, .ref 66), (1, .int (nI w)), (2, .int (nI v)), (3, .int (nI ((msS (fun v => tyN s v L) v).2))), (4, .int (nI v)), (5, .int (nI (tyN s v i))), (6, .int (nI i))]) (st' := [.int (nI (tyN s v i)), .int (nI ((msS (fun v => tyN s v L) v).2))]) (σ' := σ) rfl True.intro ?_
                refine rw_max hX (by decide +kernel) lk10_182 (Nat.le_of_ble_eq_true rfl) ?_
                rw [show (if nI ((msS (fun v => tyN s v L) v).2) < nI (tyN s v i) then nI (tyN s v i) else nI ((msS (fun v => tyN s v L) v).2)) = nI (max ((msS (fun v => tyN s v L) v).2) (tyN s v i)) from mx_nat (by omega) (by omega)]
                refine rw_go hX [(77, .istore_n 3), (78, .iinc 4 1)] (by decide +kernel) (Ps := []) (pc' := 81) (lv' := [(0, .ref 66), (1, .int (nI w)), (2, .int (nI v)), (3, .int (nI (max ((msS (fun v => tyN s v L) v).2) (tyN s v i)))), (4, .int (nI v + nI 1)), (5, .int (nI (tyN s v i))), (6, .int (nI i))]) (st' := []) (σ' := σ) rfl True.intro ?_
                rw [show (nI v + nI 1) = nI (v + 1) from nI_add _ _]
                refine rw_go hX [(81, .goto (-74))] (by decide +kernel) (Ps := []) (pc' := 7) (lv' := [(0, .ref 66), (1, .int (nI w)), (2, .int (nI v)), (3, .int (nI (max ((msS (fun v => tyN s v L) v).2) (tyN s v i)))), (4, .int (nI (v + 1))), (5, .int (nI (tyN s v i))), (6, .int (nI i))]) (st' := []) (σ' := σ) rfl True.intro ?_
                refine rw_lsub (ks := [0, 1, 2, 3, 4]) (lv' := [(0, .ref 66), (1, .int (nI w)), (2, .int (nI v)), (3, .int (nI (max ((msS (fun v => tyN s v L) v).2) (tyN s v i)))), (4, .int (nI (v + 1)))]) rfl ?_
                have eT : tyN s v i = tyN s v L := by rw [ei]
                rw [eT] at h61 ⊢
                have q := ih7 (5 - (v + 1)) (by omega) (v + 1) rfl (by omega)
                rw [msS_y (T := (fun v => tyN s v L)) (w := v) h61] at q
                rw [show max (msS (fun v => tyN s v L) v).2 (tyN s v L) = tyN s v L by omega]
                exact q
            · replace h27 := c2_geF h27
              refine rw_go hX [(30, .iload 5), (32, .aload_n 0), (33, .getfield 74), (36, .iload 6), (38, .iaload)] (by decide +kernel) (Ps := [vp_in (nI i) 50]) (pc' := 39) (lv' := [(0, .ref 66), (1, .int (nI w)), (2, .int (en (msS (fun v => tyN s v L) v).1)), (3, .int (nI ((msS (fun v => tyN s v L) v).2))), (4, .int (nI v)), (5, .int (nI (tyN s v i))), (6, .int (nI i))]) (st' := [.int (σ 88 (nI i).toNatClampNeg), .int (nI (tyN s v i))]) (σ' := σ) rfl (vp_in_nI (by omega) (by omega)) ?_
              rw [show (σ 88 (nI i).toNatClampNeg) = en (s i) from (by rw [nI_clamp (by omega), hs i (by omega)])]
              refine rw_go hX [(39, .iload 4)] (by decide +kernel) (Ps := []) (pc' := 41) (lv' := [(0, .ref 66), (1, .int (nI w)), (2, .int (en (msS (fun v => tyN s v L) v).1)), (3, .int (nI ((msS (fun v => tyN s v L) v).2))), (4, .int (nI v)), (5, .int (nI (tyN s v i))), (6, .int (nI i))]) (st' := [.int (nI v), .int (en (s i)), .int (nI (tyN s v i))]) (σ' := σ) rfl True.intro ?_
              refine rw_icmp hX (tgt := 48) (cnd := .ne) (off := 7) (by decide +kernel) (by decide) (fun h41 => ?_) (fun h41 => ?_)
              · replace h41 : (en (s i) ≠ nI v) := h41
                have hsv : ¬ s i = some v := fun z => h41 (by rw [z]; rfl)
                refine rw_go hX [(48, .iconst 0), (49, .iadd)] (by decide +kernel) (Ps := []) (pc' := 50) (lv' := [(0, .ref 66), (1, .int (nI w)), (2, .int (en (msS (fun v => tyN s v L) v).1)), (3, .int (nI ((msS (fun v => tyN s v L) v).2))), (4, .int (nI v)), (5, .int (nI (tyN s v i))), (6, .int (nI i))]) (st' := [.int (nI (tyN s v i) + nI 0)]) (σ' := σ) rfl True.intro ?_
                rw [show (nI (tyN s v i) + nI 0) = nI (tyN s v i + 0) from nI_add _ _]
                refine rw_go hX [(50, .istore 5), (52, .iinc 6 1)] (by decide +kernel) (Ps := []) (pc' := 55) (lv' := [(0, .ref 66), (1, .int (nI w)), (2, .int (en (msS (fun v => tyN s v L) v).1)), (3, .int (nI ((msS (fun v => tyN s v L) v).2))), (4, .int (nI v)), (5, .int (nI (tyN s v i + 0))), (6, .int (nI i + nI 1))]) (st' := []) (σ' := σ) rfl True.intro ?_
                rw [show (nI i + nI 1) = nI (i + 1) from nI_add _ _]
                refine rw_go hX [(55, .goto (-36))] (by decide +kernel) (Ps := []) (pc' := 19) (lv' := [(0, .ref 66), (1, .int (nI w)), (2, .int (en (msS (fun v => tyN s v L) v).1)), (3, .int (nI ((msS (fun v => tyN s v L) v).2))), (4, .int (nI v)), (5, .int (nI (tyN s v i + 0))), (6, .int (nI (i + 1)))]) (st' := []) (σ' := σ) rfl True.intro ?_
                refine rw_lsub (ks := [0, 1, 2, 3, 4, 5, 6]) (lv' := [(0, .ref 66), (1, .int (nI w)), (2, .int (en (msS (fun v => tyN s v L) v).1)), (3, .int (nI ((msS (fun v => tyN s v L) v).2))), (4, .int (nI v)), (5, .int (nI (tyN s v i + 0))), (6, .int (nI (i + 1)))]) rfl ?_
                have q := ih19 (L - (i + 1)) (by omega) (i + 1) rfl (by omega)
                rw [tyN_1, if_neg hsv] at q
                exact q
              · replace h41 : en (s i) = nI v := Classical.not_not.mp h41
                have hsv : s i = some v := en_inj (en_31 hs5 i) (fun z hz => by cases hz; omega) h41
                refine rw_go hX [(44, .iconst 1), (45, .goto 4), (49, .iadd)] (by decide +kernel) (Ps := []) (pc' := 50) (lv' := [(0, .ref 66), (1, .int (nI w)), (2, .int (en (msS (fun v => tyN s v L) v).1)), (3, .int (nI ((msS (fun v => tyN s v L) v).2))), (4, .int (nI v)), (5, .int (nI (tyN s v i))), (6, .int (nI i))]) (st' := [.int (nI (tyN s v i) + nI 1)]) (σ' := σ) rfl True.intro ?_
                rw [show (nI (tyN s v i) + nI 1) = nI (tyN s v i + 1) from nI_add _ _]
                refine rw_go hX [(50, .istore 5), (52, .iinc 6 1)] (by decide +kernel) (Ps := []) (pc' := 55) (lv' := [(0, .ref 66), (1, .int (nI w)), (2, .int (en (msS (fun v => tyN s v L) v).1)), (3, .int (nI ((msS (fun v => tyN s v L) v).2))), (4, .int (nI v)), (5, .int (nI (tyN s v i + 1))), (6, .int (nI i + nI 1))]) (st' := []) (σ' := σ) rfl True.intro ?_
                rw [show (nI i + nI 1) = nI (i + 1) from nI_add _ _]
                refine rw_go hX [(55, .goto (-36))] (by decide +kernel) (Ps := []) (pc' := 19) (lv' := [(0, .ref 66), (1, .int (nI w)), (2, .int (en (msS (fun v => tyN s v L) v).1)), (3, .int (nI ((msS (fun v => tyN s v L) v).2))), (4, .int (nI v)), (5, .int (nI (tyN s v i + 1))), (6, .int (nI (i + 1)))]) (st' := []) (σ' := σ) rfl True.intro ?_
                refine rw_lsub (ks := [0, 1, 2, 3, 4, 5, 6]) (lv' := [(0, .ref 66), (1, .int (nI w)), (2, .int (en (msS (fun v => tyN s v L) v).1)), (3, .int (nI ((msS (fun v => tyN s v L) v).2))), (4, .int (nI v)), (5, .int (nI (tyN s v i + 1))), (6, .int (nI (i + 1)))]) rfl ?_
                have q := ih19 (L - (i + 1)) (by omega) (i + 1) rfl (by omega)
                rw [tyN_1, if_pos hsv] at q
                exact q
        refine rw_lsub (ks := [0, 1, 2, 3, 4, 5, 6]) (lv' := [(0, .ref 66), (1, .int (nI w)), (2, .int (en (msS (fun v => tyN s v L) v).1)), (3, .int (nI ((msS (fun v => tyN s v L) v).2))), (4, .int (nI v)), (5, .int (nI 0)), (6, .int (nI 0))]) rfl ?_
        exact L19 L 0 rfl (by omega)
  refine rw_lsub (ks := [0, 1, 2, 3, 4]) (lv' := [(0, .ref 66), (1, .int (nI w)), (2, .int (-(nI 1))), (3, .int (nI 0)), (4, .int (nI 0))]) rfl ?_
  exact L7 5 0 rfl (by omega)
