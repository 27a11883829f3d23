/-! the model: its matches -/
theorem LTr_d (V : Mm) (w i : Nat) : LTr V w i = LT V (50 * w + i) := rfl
set_option maxRecDepth 20000 in
set_option maxHeartbeats 4000000 in
theorem m_isOne0 (l : Launch) (G : Gl) (σ : Mm) (V : Mm) (a b : Nat) (xx xy : Int32) (hv : wf V) (ha : a < 5) (hb : b < 5) (hA : RDm V a σ) (hB : RDm V b σ) : AMi l G 1 mX10_isOne [.ref 66, .int (nI a), .int xx, .int (nI b), .int xy] σ (fun r σ' => σ' = σ ∧ r = bz (decide ((0 ≤ xx ∧ xx < nI (lC V a)) ∧ (0 ≤ xy ∧ xy < nI (lC V b))) && decide (LTr V a xx.toNatClampNeg = LTr V b xy.toNatClampNeg))) := by
  refine rw_inI 10 (by decide +kernel) rfl rfl ?_
  intro E hE hX
  subst hE
  have l1 := lC_50 hv ha
  have l2 := lC_50 hv hb
  refine rw_go hX [(0, .iload_n 2), (1, .i2l), (2, .lconst 0), (3, .aload_n 0), (4, .getfield 40), (7, .iload_n 1), (8, .iaload)] (by decide +kernel) (Ps := [vp_in (nI a) 5]) (pc' := 9) (lv' := [(0, .ref 66), (1, .int (nI a)), (2, .int xx), (3, .int (nI b)), (4, .int xy)]) (st' := [.int (σ 77 (nI a).toNatClampNeg), .long (Int64.ofNat 0), .long (xx.toInt64)]) (σ' := σ) rfl (vp_in_nI (by omega) (by omega)) ?_
  rw [show (σ 77 (nI a).toNatClampNeg) = nI (lC V a) from (by rw [nI_clamp (by omega), hA.1.1])]
  refine rw_go hX [(9, .iconst 1), (10, .isub), (11, .i2l)] (by decide +kernel) (Ps := []) (pc' := 12) (lv' := [(0, .ref 66), (1, .int (nI a)), (2, .int xx), (3, .int (nI b)), (4, .int xy)]) (st' := [.long ((nI (lC V a) - nI 1).toInt64), .long (Int64.ofNat 0), .long (xx.toInt64)]) (σ' := σ) rfl True.intro ?_
  refine rw_callSi hX (as := [.long (xx.toInt64), .long (Int64.ofNat 0), .long ((nI (lC V a) - nI 1).toInt64)]) (rest := []) (m_inI _ _ _ (xx) (0) (nI (lC V a) - nI 1) _ _ _ rfl (by first | rfl | decide +kernel) (by first | rfl | decide +kernel)) (by decide +kernel) msX10_in (Or.inl lk10_105) rfl (by decide) (Nat.le_of_ble_eq_true rfl) rfl ?_
  intro r1 σ1 hr
  rw [hr.1, show r1 = bz (decide (0 ≤ xx ∧ xx < nI (lC V a))) from hr.2.trans (by rw [decide_eq_decide.mpr (in_C (by omega))])]
  clear hr σ1 r1
  refine rw_if hX (tgt := 67) (cnd := .eq) (off := 52) (by decide +kernel) (by decide) (fun h15 => ?_) (fun h15 => ?_)
  · replace h15 := of_decide_eq_false (zb_eqT h15)
    refine rw_go hX [(67, .iconst 0)] (by decide +kernel) (Ps := []) (pc' := 68) (lv' := [(0, .ref 66), (1, .int (nI a)), (2, .int xx), (3, .int (nI b)), (4, .int xy)]) (st' := [.int (nI 0)]) (σ' := σ) rfl True.intro ?_
    exact rw_zret hX (by decide +kernel) (Or.inl rfl) (⟨rfl, by
  first
  | (rw [decide_eq_false (fun z => h15 z.1), Bool.false_and]; rfl)
  | (rw [decide_eq_false (fun z => h34 z.2), Bool.false_and]; rfl)
  | (rw [nI_clamp (by omega), nI_clamp (by omega), decide_eq_false h60, Bool.and_false]; rfl)
  | (rw [nI_clamp (by omega), nI_clamp (by omega), decide_eq_true h60, decide_eq_true ⟨h15, h34⟩]; rfl)⟩)
  · replace h15 := of_decide_eq_true (zb_eqF h15)
    obtain ⟨i, hi, rfl⟩ := rngO (m := lC V a) (by omega) h15
    refine rw_go hX [(18, .iload 4), (20, .i2l), (21, .lconst 0), (22, .aload_n 0), (23, .getfield 40), (26, .iload_n 3), (27, .iaload)] (by decide +kernel) (Ps := [vp_in (nI b) 5]) (pc' := 28) (lv' := [(0, .ref 66), (1, .int (nI a)), (2, .int (nI i)), (3, .int (nI b)), (4, .int xy)]) (st' := [.int (σ 77 (nI b).toNatClampNeg), .long (Int64.ofNat 0), .long (xy.toInt64)]) (σ' := σ) rfl (vp_in_nI (by omega) (by omega)) ?_
    rw [show (σ 77 (nI b).toNatClampNeg) = nI (lC V b) from (by rw [nI_clamp (by omega), hB.1.1])]
    refine rw_go hX [(28, .iconst 1), (29, .isub), (30, .i2l)] (by decide +kernel) (Ps := []) (pc' := 31) (lv' := [(0, .ref 66), (1, .int (nI a)), (2, .int (nI i)), (3, .int (nI b)), (4, .int xy)]) (st' := [.long ((nI (lC V b) - nI 1).toInt64), .long (Int64.ofNat 0), .long (xy.toInt64)]) (σ' := σ) rfl True.intro ?_
    refine rw_callSi hX (as := [.long (xy.toInt64), .long (Int64.ofNat 0), .long ((nI (lC V b) - nI 1).toInt64)]) (rest := []) (m_inI _ _ _ (xy) (0) (nI (lC V b) - nI 1) _ _ _ rfl (by first | rfl | decide +kernel) (by first | rfl | decide +kernel)) (by decide +kernel) msX10_in (Or.inl lk10_105) rfl (by decide) (Nat.le_of_ble_eq_true rfl) rfl ?_
    intro r1 σ1 hr
    rw [hr.1, show r1 = bz (decide (0 ≤ xy ∧ xy < nI (lC V b))) from hr.2.trans (by rw [decide_eq_decide.mpr (in_C (by omega))])]
    clear hr σ1 r1
    refine rw_if hX (tgt := 67) (cnd := .eq) (off := 33) (by decide +kernel) (by decide) (fun h34 => ?_) (fun h34 => ?_)
    · replace h34 := of_decide_eq_false (zb_eqT h34)
      refine rw_go hX [(67, .iconst 0)] (by decide +kernel) (Ps := []) (pc' := 68) (lv' := [(0, .ref 66), (1, .int (nI a)), (2, .int (nI i)), (3, .int (nI b)), (4, .int xy)]) (st' := [.int (nI 0)]) (σ' := σ) rfl True.intro ?_
      exact rw_zret hX (by decide +kernel) (Or.inl rfl) (⟨rfl, by
  first
  | (rw [decide_eq_false (fun z => h15 z.1), Bool.false_and]; rfl)
  | (rw [decide_eq_false (fun z => h34 z.2), Bool.false_and]; rfl)
  | (rw [nI_clamp (by omega), nI_clamp (by omega), decide_eq_false h60, Bool.and_false]; rfl)
  | (rw [nI_clamp (by omega), nI_clamp (by omega), decide_eq_true h60, decide_eq_true ⟨h15, h34⟩]; rfl)⟩)
    · replace h34 := of_decide_eq_true (zb_eqF h34)
      obtain ⟨j, hj, rfl⟩ := rngO (m := lC V b) (by omega) h34
      refine rw_go hX [(37, .aload_n 0), (38, .getfield 34), (41, .bipush 50), (43, .iload_n 1), (44, .imul)] (by decide +kernel) (Ps := []) (pc' := 45) (lv' := [(0, .ref 66), (1, .int (nI a)), (2, .int (nI i)), (3, .int (nI b)), (4, .int (nI j))]) (st' := [.int (nI 50 * nI a), .ref 75]) (σ' := σ) rfl True.intro ?_
      rw [show (nI 50 * nI a) = nI (50 * a) from pk_mul _ _]
      refine rw_go hX [(45, .iload_n 2), (46, .iadd)] (by decide +kernel) (Ps := []) (pc' := 47) (lv' := [(0, .ref 66), (1, .int (nI a)), (2, .int (nI i)), (3, .int (nI b)), (4, .int (nI j))]) (st' := [.int (nI (50 * a) + nI i), .ref 75]) (σ' := σ) rfl True.intro ?_
      rw [show (nI (50 * a) + nI i) = nI (50 * a + i) from nI_add _ _]
      refine rw_go hX [(47, .iaload)] (by decide +kernel) (Ps := [vp_in (nI (50 * a + i)) 250]) (pc' := 48) (lv' := [(0, .ref 66), (1, .int (nI a)), (2, .int (nI i)), (3, .int (nI b)), (4, .int (nI j))]) (st' := [.int (σ 75 (nI (50 * a + i)).toNatClampNeg)]) (σ' := σ) rfl (vp_in_nI (by omega) (by omega)) ?_
      rw [show (σ 75 (nI (50 * a + i)).toNatClampNeg) = LTr V a i from (by rw [nI_clamp (by omega), (hA.1.2 i hi).1, ← LTr_d])]
      refine rw_go hX [(48, .aload_n 0), (49, .getfield 34), (52, .bipush 50), (54, .iload_n 3), (55, .imul)] (by decide +kernel) (Ps := []) (pc' := 56) (lv' := [(0, .ref 66), (1, .int (nI a)), (2, .int (nI i)), (3, .int (nI b)), (4, .int (nI j))]) (st' := [.int (nI 50 * nI b), .ref 75, .int (LTr V a i)]) (σ' := σ) rfl True.intro ?_
      rw [show (nI 50 * nI b) = nI (50 * b) from pk_mul _ _]
      refine rw_go hX [(56, .iload 4), (58, .iadd)] (by decide +kernel) (Ps := []) (pc' := 59) (lv' := [(0, .ref 66), (1, .int (nI a)), (2, .int (nI i)), (3, .int (nI b)), (4, .int (nI j))]) (st' := [.int (nI (50 * b) + nI j), .ref 75, .int (LTr V a i)]) (σ' := σ) rfl True.intro ?_
      rw [show (nI (50 * b) + nI j) = nI (50 * b + j) from nI_add _ _]
      refine rw_go hX [(59, .iaload)] (by decide +kernel) (Ps := [vp_in (nI (50 * b + j)) 250]) (pc' := 60) (lv' := [(0, .ref 66), (1, .int (nI a)), (2, .int (nI i)), (3, .int (nI b)), (4, .int (nI j))]) (st' := [.int (σ 75 (nI (50 * b + j)).toNatClampNeg), .int (LTr V a i)]) (σ' := σ) rfl (vp_in_nI (by omega) (by omega)) ?_
      rw [show (σ 75 (nI (50 * b + j)).toNatClampNeg) = LTr V b j from (by rw [nI_clamp (by omega), (hB.1.2 j hj).1, ← LTr_d])]
      refine rw_icmp hX (tgt := 67) (cnd := .ne) (off := 7) (by decide +kernel) (by decide) (fun h60 => ?_) (fun h60 => ?_)
      · replace h60 : (LTr V a i ≠ LTr V b j) := h60
        refine rw_go hX [(67, .iconst 0)] (by decide +kernel) (Ps := []) (pc' := 68) (lv' := [(0, .ref 66), (1, .int (nI a)), (2, .int (nI i)), (3, .int (nI b)), (4, .int (nI j))]) (st' := [.int (nI 0)]) (σ' := σ) rfl True.intro ?_
        exact rw_zret hX (by decide +kernel) (Or.inl rfl) (⟨rfl, by
  first
  | (rw [decide_eq_false (fun z => h15 z.1), Bool.false_and]; rfl)
  | (rw [decide_eq_false (fun z => h34 z.2), Bool.false_and]; rfl)
  | (rw [nI_clamp (by omega), nI_clamp (by omega), decide_eq_false h60, Bool.and_false]; rfl)
  | (rw [nI_clamp (by omega), nI_clamp (by omega), decide_eq_true h60, decide_eq_true ⟨h15, h34⟩]; rfl)⟩)
      · replace h60 : LTr V a i = LTr V b j := Classical.not_not.mp h60
        refine rw_go hX [(63, .iconst 1), (64, .goto 4)] (by decide +kernel) (Ps := []) (pc' := 68) (lv' := [(0, .ref 66), (1, .int (nI a)), (2, .int (nI i)), (3, .int (nI b)), (4, .int (nI j))]) (st' := [.int (nI 1)]) (σ' := σ) rfl True.intro ?_
        exact rw_zret hX (by decide +kernel) (Or.inr rfl) (⟨rfl, by
  first
  | (rw [decide_eq_false (fun z => h15 z.1), Bool.false_and]; rfl)
  | (rw [decide_eq_false (fun z => h34 z.2), Bool.false_and]; rfl)
  | (rw [nI_clamp (by omega), nI_clamp (by omega), decide_eq_false h60, Bool.and_false]; rfl)
  | (rw [nI_clamp (by omega), nI_clamp (by omega), decide_eq_true h60, decide_eq_true ⟨h15, h34⟩]; rfl)⟩)
theorem m_oneP (l : Launch) (G : Gl) (σ V : Mm) (a b i j : Nat) (hv : wf V) (ha : a < 5) (hb : b < 5) (hA : RDm V a σ) (hB : RDm V b σ) (hi : i < 200) (hj : j < 200) : AMi l G 1 mX10_isOne [.ref 66, .int (nI a), .int (nI i), .int (nI b), .int (nI j)] σ (fun r σ' => σ' = σ ∧ r = bz (decide (i < lC V a ∧ j < lC V b) && decide (LTr V a i = LTr V b j))) :=
  (m_isOne0 l G σ V a b (nI i) (nI j) hv ha hb hA hB).mono fun r σ' h => by
    have l1 := lC_50 hv ha
    have l2 := lC_50 hv hb
    refine ⟨h.1, h.2.trans ?_⟩
    rw [nI_clamp (by omega), nI_clamp (by omega)]
    congr 2
    refine decide_eq_decide.mpr ⟨fun z => ⟨(nI_ltI (by omega) (by omega)).mp z.1.2, (nI_ltI (by omega) (by omega)).mp z.2.2⟩, fun z => ⟨⟨nI_pos' (by omega), nI_lt z.1 (by omega)⟩, ⟨nI_pos' (by omega), nI_lt z.2 (by omega)⟩⟩⟩
theorem m1_nn : ¬ (0 : Int32) ≤ nI 0 - nI 1 := by decide +kernel
theorem m_oneB (l : Launch) (G : Gl) (σ V : Mm) (a b g h c : Nat) (hv : wf V) (ha : a < 5) (hb : b < 5) (hA : RDm V a σ) (hB : RDm V b σ) (hg : g < lC V a) (hh : h < lC V b) (h1 : c ≤ g) (h2 : c ≤ h) : AMi l G 1 mX10_isOne [.ref 66, .int (nI a), .int (nI (g - c) - nI 1), .int (nI b), .int (nI (h - c) - nI 1)] σ (fun r σ' => σ' = σ ∧ r = bz (decide (c < g ∧ c < h) && decide (LTr V a (g - 1 - c) = LTr V b (h - 1 - c)))) :=
  (m_isOne0 l G σ V a b (nI (g - c) - nI 1) (nI (h - c) - nI 1) hv ha hb hA hB).mono fun r σ' q => by
    have l1 := lC_50 hv ha
    have l2 := lC_50 hv hb
    refine ⟨q.1, q.2.trans ?_⟩
    by_cases e : c < g ∧ c < h
    · rw [pk_sub (show 1 ≤ g - c by omega), pk_sub (show 1 ≤ h - c by omega), nI_clamp (by omega), nI_clamp (by omega), decide_eq_true e, decide_eq_true ⟨⟨nI_pos' (by omega), nI_lt (by omega) (by omega)⟩, ⟨nI_pos' (by omega), nI_lt (by omega) (by omega)⟩⟩, show g - c - 1 = g - 1 - c by omega, show h - c - 1 = h - 1 - c by omega]
    · rw [decide_eq_false e, Bool.false_and, decide_eq_false, Bool.false_and]
      rintro ⟨z1, z2⟩
      rcases (show g - c = 0 ∨ h - c = 0 by omega) with y | y
      · rw [y] at z1; exact m1_nn z1.1
      · rw [y] at z2; exact m1_nn z2.1
/-- what the model's matching leaves as it was -/
def FM (σ σ' : Mm) : Prop := (∀ k, k ∉ [66, 82, 83, 84, 85] → σ' k = σ k) ∧ ∀ j, j ≠ 20 → σ' 66 j = σ 66 j
theorem ac_f1 {V : Mm} {a b g h : Nat} (e : PR V (50 * a + g) = false) : ac V a b g h = false := by
  unfold ac; rw [e, Bool.false_and, Bool.and_false, Bool.false_and]
theorem ac_f2 {V : Mm} {a b g h : Nat} (e : CM V (50 * a + g) = true) : ac V a b g h = false := by
  unfold ac; rw [e, Bool.not_true, Bool.and_false, Bool.and_false, Bool.false_and]
theorem ac_f3 {V : Mm} {a b g h : Nat} (e : PR V (50 * b + h) = false) : ac V a b g h = false := by
  unfold ac; rw [e, Bool.and_false, Bool.false_and, Bool.and_false]
theorem ac_f4 {V : Mm} {a b g h : Nat} (e : lkC (LT V) (50 * a + g) (50 * b + h) (vR V 0) = false) : ac V a b g h = false := by
  unfold ac; rw [e, Bool.and_false, Bool.and_false]
theorem ac_t {V : Mm} {a b g h : Nat} (h1 : g < gC V a) (h2 : h < gC V b) (e1 : PR V (50 * a + g) = true) (e2 : CM V (50 * a + g) = false) (e3 : PR V (50 * b + h) = true) (e4 : lkC (LT V) (50 * a + g) (50 * b + h) (vR V 0) = true) : ac V a b g h = true := by
  unfold ac; rw [e1, e2, e3, e4, decide_eq_true h1, decide_eq_true h2]; rfl
theorem bgs_all {V : Mm} {a b g h p : Nat} (e : ∀ h, ac V a b g h = false) : bgs V a b g h p ↔ bgs V a b (g + 1) 0 p := by
  constructor
  · rintro ⟨g', h', h1, h2, h3⟩
    exact ⟨g', h', by omega, h2, h3⟩
  · rintro ⟨g', h', h1, h2, h3⟩
    refine ⟨g', h', Or.inl ?_, h2, h3⟩
    rcases Nat.lt_or_ge g' g with q | q
    · exact q
    · rw [show g' = g by omega, e h'] at h2; cases h2
theorem PR_of {V σ : Mm} {w g : Nat} (h : RDm V w σ) (hg : g < gC V w) : (σ 79 (50 * w + g) = 0 → PR V (50 * w + g) = false) ∧ (¬ σ 79 (50 * w + g) = 0 → PR V (50 * w + g) = true) := by
  have q := (h.2 g hg).2
  refine ⟨fun z => ?_, fun z => q.mp z⟩
  cases e : PR V (50 * w + g) with
  | false => rfl
  | true => exact absurd z (q.mpr e)
theorem bp_lt {V : Mm} (hv : wf V) {a b g h : Nat} (ha : a < 5) (hb : b < 5) (hg : g < gC V a) (hh : h < gC V b) : bp V a b g h < 2500 := by
  have h1 := gC_50 hv ha
  have h2 := gC_50 hv hb
  unfold bp
  omega
theorem F_up {V : Mm} {F : Nat → Int32} {a b g h q : Nat} (hF : ∀ p, p < 2500 → F p = bz (pz (bgs V a b g h p))) (e : ac V a b g h = true) (hq : q = bp V a b g h) : ∀ p, p < 2500 → upd F q (nI 1) p = bz (pz (bgs V a b g (h + 1) p)) := fun p hp => by
  by_cases z : p = q
  · rw [z, upd_s, pz_t ((bgs_y e).mpr (Or.inl hq))]; rfl
  · rw [upd_n _ _ z, hF p hp, pz_c (bgs_y e)]
    congr 1
    exact pz_c ⟨fun y => Or.inr y, fun y => y.elim (fun w => absurd (w.trans hq.symm) z) id⟩
set_option maxRecDepth 20000 in
set_option maxHeartbeats 4000000 in
theorem m_matches (l : Launch) (G : Gl) (σ : Mm) (V : Mm) (a b ls : Nat) (hv : wf V) (ha : a < 5) (hb : b < 5) (h71 : σ 71 = V 4) (hAN : AN V σ) (hls : ls ≤ 50) : AMv l G 2 mX10_matches [.ref 66, .int (nI a), .int (nI b), .int (nI ls)] σ (fun σ' => MTm (ML V a b ls) σ' ∧ FM σ σ') := by
  refine rw_inV 10 (by decide +kernel) rfl rfl ?_
  intro E hE hX
  subst hE
  have hA := hAN.1 a ha
  have hB := hAN.1 b hb
  have g1 := gC_50 hv ha
  have g2 := gC_50 hv hb
  have hK := wf_K hv
  refine rw_go hX [(0, .iconst 0), (1, .istore 4)] (by decide +kernel) (Ps := []) (pc' := 3) (lv' := [(0, .ref 66), (1, .int (nI a)), (2, .int (nI b)), (3, .int (nI ls)), (4, .int (nI 0))]) (st' := []) (σ' := σ) rfl True.intro ?_
  have L3 : ∀ (μ3 : Nat) (k : Nat), μ3 = 2500 - k → (k ≤ 2500) → RW E G 2 7 (QV E G (fun σ' => MTm (ML V a b ls) σ' ∧ FM σ σ')) 3 [(0, .ref 66), (1, .int (nI a)), (2, .int (nI b)), (3, .int (nI ls)), (4, .int (nI k))] [] (sr σ 82 (fl (σ 82) 0 k (nI 0))) := by
    intro μ3
    induction μ3 using Nat.strongRecOn with
    | ind μ3 ih3 =>
      intro k hμ3 hk
      refine rw_go hX [(3, .iload 4), (5, .sipush 2500)] (by decide +kernel) (Ps := []) (pc' := 8) (lv' := [(0, .ref 66), (1, .int (nI a)), (2, .int (nI b)), (3, .int (nI ls)), (4, .int (nI k))]) (st' := [.int (nI 2500), .int (nI k)]) (σ' := sr σ 82 (fl (σ 82) 0 k (nI 0))) rfl True.intro ?_
      refine rw_icmp hX (tgt := 25) (cnd := .ge) (off := 17) (by decide +kernel) (by decide) (fun h8 => ?_) (fun h8 => ?_)
      · replace h8 := c2_geT h8
        have ek : k = 2500 := by omega
        refine rw_go hX [(25, .iconst 0), (26, .istore 4)] (by decide +kernel) (Ps := []) (pc' := 28) (lv' := [(0, .ref 66), (1, .int (nI a)), (2, .int (nI b)), (3, .int (nI ls)), (4, .int (nI 0))]) (st' := []) (σ' := sr σ 82 (fl (σ 82) 0 k (nI 0))) rfl True.intro ?_
        have L28 : ∀ (μ28 : Nat) (g : Nat) (F : Nat → Int32), μ28 = gC V a - g → (g ≤ gC V a) → (∀ p, p < 2500 → F p = bz (pz (bgs V a b g 0 p))) → RW E G 2 7 (QV E G (fun σ' => MTm (ML V a b ls) σ' ∧ FM σ σ')) 28 [(0, .ref 66), (1, .int (nI a)), (2, .int (nI b)), (3, .int (nI ls)), (4, .int (nI g))] [] (sr σ 82 F) := by
          intro μ28
          induction μ28 using Nat.strongRecOn with
          | ind μ28 ih28 =>
            intro g F hμ28 hgi hF
            have hAF : RDm V a (sr σ 82 F) := RDm_k hA fun k hk => sr_n _ _ (fun z => by rw [z] at hk; revert hk; decide)
            have hBF : RDm V b (sr σ 82 F) := RDm_k hB fun k hk => sr_n _ _ (fun z => by rw [z] at hk; revert hk; decide)
            have h71F : (sr σ 82 F) 71 = V 4 := (sr_n _ _ (by decide)).trans h71
            refine rw_go hX [(28, .iload 4), (30, .aload_n 0), (31, .iload_n 1)] (by decide +kernel) (Ps := []) (pc' := 32) (lv' := [(0, .ref 66), (1, .int (nI a)), (2, .int (nI b)), (3, .int (nI ls)), (4, .int (nI g))]) (st' := [.int (nI a), .ref 66, .int (nI g)]) (σ' := sr σ 82 F) rfl True.intro ?_
            refine rw_callVi hX (as := [.int (nI a)]) (rest := [.int (nI g)]) (m_gramsV _ _ _ V a hv ha h71F hAF) (by decide +kernel) mvX10_grams lk10_187 (ci := 9) rfl rfl rfl (by decide) (Nat.le_of_ble_eq_true rfl) rfl ?_
            intro r1 σ1 hr
            rw [hr.1, show r1 = nI (gC V a) from hr.2]
            clear hr σ1 r1
            refine rw_icmp hX (tgt := 173) (cnd := .ge) (off := 138) (by decide +kernel) (by decide) (fun h35 => ?_) (fun h35 => ?_)
            · replace h35 := c2_geT h35
              have eg : g = gC V a := by omega
              rw [eg] at hF
              refine rw_go hX [(173, .aload_n 0), (174, .iconst 0), (175, .putfield 232), (178, .iconst 0), (179, .istore 4)] (by decide +kernel) (Ps := []) (pc' := 181) (lv' := [(0, .ref 66), (1, .int (nI a)), (2, .int (nI b)), (3, .int (nI ls)), (4, .int (nI 0))]) (st' := []) (σ' := sw (sr σ 82 F) 66 20 (nI 0)) rfl True.intro ?_
              have L181 : ∀ (μ181 : Nat) (k : Nat) (τ : Mm), μ181 = 2500 - k → (k ≤ 2500) → (MTm (mLk V a b ls k) τ) → (τ 82 = F) → (∀ q, q ∉ [66, 82, 83, 84, 85] → τ q = σ q) → (∀ j, j ≠ 20 → τ 66 j = σ 66 j) → RW E G 2 7 (QV E G (fun σ' => MTm (ML V a b ls) σ' ∧ FM σ σ')) 181 [(0, .ref 66), (1, .int (nI a)), (2, .int (nI b)), (3, .int (nI ls)), (4, .int (nI k))] [] τ := by
                intro μ181
                induction μ181 using Nat.strongRecOn with
                | ind μ181 ih181 =>
                  intro k τ hμ181 hk hM h82 hfr h66
                  have hAt : RDm V a τ := RDm_k hA (NI_of hfr (by decide))
                  have hBt : RDm V b τ := RDm_k hB (NI_of hfr (by decide))
                  have hlen := mLk_833 hv ls ha hb hk
                  refine rw_go hX [(181, .iload 4), (183, .sipush 2500)] (by decide +kernel) (Ps := []) (pc' := 186) (lv' := [(0, .ref 66), (1, .int (nI a)), (2, .int (nI b)), (3, .int (nI ls)), (4, .int (nI k))]) (st' := [.int (nI 2500), .int (nI k)]) (σ' := τ) rfl True.intro ?_
                  refine rw_icmp hX (tgt := 294) (cnd := .ge) (off := 108) (by decide +kernel) (by decide) (fun h186 => ?_) (fun h186 => ?_)
                  · replace h186 := c2_geT h186
                    have ek : k = 2500 := by omega
                    exact rw_vret hX (by decide +kernel) (⟨by rw [ek, mLk_ML hv ls ha hb] at hM; exact hM, hfr, h66⟩)
                  · replace h186 := c2_geF h186
                    have hFk : F k = bz (pz (mcb V a b (k / 50) (k % 50) = true)) := by
                      have z := hF k h186
                      rw [z]
                      congr 1
                      have y := bgs_iff hv ha hb (i := k / 50) (j := k % 50) (by omega) (by omega)
                      rw [show 50 * (k / 50) + k % 50 = k by omega] at y
                      exact pz_c y
                    refine rw_go hX [(189, .aload_n 0), (190, .getfield 56), (193, .iload 4), (195, .baload)] (by decide +kernel) (Ps := [vp_in (nI k) 2500]) (pc' := 196) (lv' := [(0, .ref 66), (1, .int (nI a)), (2, .int (nI b)), (3, .int (nI ls)), (4, .int (nI k))]) (st' := [.int (τ 82 (nI k).toNatClampNeg)]) (σ' := τ) rfl (vp_in_nI (by omega) (by omega)) ?_
                    rw [show (τ 82 (nI k).toNatClampNeg) = τ 82 k from (by rw [nI_clamp (by omega)])]
                    refine rw_if hX (tgt := 288) (cnd := .eq) (off := 92) (by decide +kernel) (by decide) (fun h196 => ?_) (fun h196 => ?_)
                    · have hno : ¬ (mcb V a b (k / 50) (k % 50) = true ∧ ls ≤ rn V a b (k / 50) (k % 50)) := fun z => by
                        have y : τ 82 k = 0 := h196
                        rw [h82, hFk, pz_t z.1] at y
                        exact absurd y (by decide +kernel)
                      refine rw_go hX [(288, .iinc 4 1)] (by decide +kernel) (Ps := []) (pc' := 291) (lv' := [(0, .ref 66), (1, .int (nI a)), (2, .int (nI b)), (3, .int (nI ls)), (4, .int (nI k + nI 1))]) (st' := []) (σ' := τ) rfl True.intro ?_
                      rw [show (nI k + nI 1) = nI (k + 1) from nI_add _ _]
                      refine rw_go hX [(291, .goto (-110))] (by decide +kernel) (Ps := []) (pc' := 181) (lv' := [(0, .ref 66), (1, .int (nI a)), (2, .int (nI b)), (3, .int (nI ls)), (4, .int (nI (k + 1)))]) (st' := []) (σ' := τ) rfl True.intro ?_
                      refine rw_lsub (ks := [0, 1, 2, 3, 4]) (lv' := [(0, .ref 66), (1, .int (nI a)), (2, .int (nI b)), (3, .int (nI ls)), (4, .int (nI (k + 1)))]) rfl ?_
                      exact ih181 (2500 - (k + 1)) (by omega) (k + 1) τ rfl (by omega) (by rw [mLk_n hno]; exact hM) h82 hfr h66
                    · have hmcb : mcb V a b (k / 50) (k % 50) = true := by
                        by_cases z : mcb V a b (k / 50) (k % 50) = true
                        · exact z
                        · exact absurd (show τ 82 k = 0 by rw [h82, hFk, pz_f z]; rfl) h196
                      have l1 := lC_50 hv ha
                      have l2 := lC_50 hv hb
                      refine rw_go hX [(199, .iconst 0), (200, .istore 5)] (by decide +kernel) (Ps := []) (pc' := 202) (lv' := [(0, .ref 66), (1, .int (nI a)), (2, .int (nI b)), (3, .int (nI ls)), (4, .int (nI k)), (5, .int (nI 0))]) (st' := []) (σ' := τ) rfl True.intro ?_
                      have L202 : ∀ (μ202 : Nat) (n : Nat), μ202 = 50 - n → (n ≤ min (lC V a - k / 50) (lC V b - k % 50)) → (∀ s, s < n → LTr V a (k / 50 + s) = LTr V b (k % 50 + s)) → RW E G 2 7 (QV E G (fun σ' => MTm (ML V a b ls) σ' ∧ FM σ σ')) 202 [(0, .ref 66), (1, .int (nI a)), (2, .int (nI b)), (3, .int (nI ls)), (4, .int (nI k)), (5, .int (nI n))] [] τ := by
                        intro μ202
                        induction μ202 using Nat.strongRecOn with
                        | ind μ202 ih202 =>
                          intro n hμ202 hn1 hnr
                          refine rw_go hX [(202, .aload_n 0), (203, .iload_n 1), (204, .iload 4), (206, .bipush 50), (208, .idiv)] (by decide +kernel) (Ps := [¬ (nI 50) = 0]) (pc' := 209) (lv' := [(0, .ref 66), (1, .int (nI a)), (2, .int (nI b)), (3, .int (nI ls)), (4, .int (nI k)), (5, .int (nI n))]) (st' := [.int (nI k / nI 50), .int (nI a), .ref 66]) (σ' := τ) rfl (show ¬ nI 50 = 0 from by decide +kernel) ?_
                          rw [show (nI k / nI 50) = nI (k / 50) from pk_div (by omega) (by omega) (by omega)]
                          refine rw_go hX [(209, .iload 5), (211, .iadd)] (by decide +kernel) (Ps := []) (pc' := 212) (lv' := [(0, .ref 66), (1, .int (nI a)), (2, .int (nI b)), (3, .int (nI ls)), (4, .int (nI k)), (5, .int (nI n))]) (st' := [.int (nI (k / 50) + nI n), .int (nI a), .ref 66]) (σ' := τ) rfl True.intro ?_
                          rw [show (nI (k / 50) + nI n) = nI (k / 50 + n) from nI_add _ _]
                          refine rw_go hX [(212, .iload_n 2), (213, .iload 4), (215, .bipush 50), (217, .irem)] (by decide +kernel) (Ps := [¬ (nI 50) = 0]) (pc' := 218) (lv' := [(0, .ref 66), (1, .int (nI a)), (2, .int (nI b)), (3, .int (nI ls)), (4, .int (nI k)), (5, .int (nI n))]) (st' := [.int (nI k - nI k / nI 50 * nI 50), .int (nI b), .int (nI (k / 50 + n)), .int (nI a), .ref 66]) (σ' := τ) rfl (show ¬ nI 50 = 0 from by decide +kernel) ?_
                          rw [show (nI k - nI k / nI 50 * nI 50) = nI (k % 50) from pk_rem (by omega) (by omega) (by omega)]
                          refine rw_go hX [(218, .iload 5), (220, .iadd)] (by decide +kernel) (Ps := []) (pc' := 221) (lv' := [(0, .ref 66), (1, .int (nI a)), (2, .int (nI b)), (3, .int (nI ls)), (4, .int (nI k)), (5, .int (nI n))]) (st' := [.int (nI (k % 50) + nI n), .int (nI b), .int (nI (k / 50 + n)), .int (nI a), .ref 66]) (σ' := τ) rfl True.intro ?_
                          rw [show (nI (k % 50) + nI n) = nI (k % 50 + n) from nI_add _ _]
                          refine rw_callVi hX (as := [.int (nI a), .int (nI (k / 50 + n)), .int (nI b), .int (nI (k % 50 + n))]) (rest := []) (m_oneP _ _ _ V a b (k / 50 + n) (k % 50 + n) hv ha hb hAt hBt (by omega) (by omega)) (by decide +kernel) mvX10_isOne lk10_229 (ci := 9) rfl rfl rfl (by decide) (Nat.le_of_ble_eq_true rfl) rfl ?_
                          intro r1 σ1 hr
                          rw [hr.1, show r1 = bz (decide (k / 50 + n < lC V a ∧ k % 50 + n < lC V b) && decide (LTr V a (k / 50 + n) = LTr V b (k % 50 + n))) from hr.2]
                          clear hr σ1 r1
                          refine rw_if hX (tgt := 233) (cnd := .eq) (off := 9) (by decide +kernel) (by decide) (fun h224 => ?_) (fun h224 => ?_)
                          · have en : n = rn V a b (k / 50) (k % 50) := by
                              refine (rl_eq hn1 hnr ?_).symm
                              have z := zb_eqT h224
                              by_cases y : k / 50 + n < lC V a ∧ k % 50 + n < lC V b
                              · rw [decide_eq_true y, Bool.true_and] at z
                                exact Or.inr (of_decide_eq_false z)
                              · left; omega
                            refine rw_go hX [(233, .iload 5), (235, .iload_n 3)] (by decide +kernel) (Ps := []) (pc' := 236) (lv' := [(0, .ref 66), (1, .int (nI a)), (2, .int (nI b)), (3, .int (nI ls)), (4, .int (nI k)), (5, .int (nI n))]) (st' := [.int (nI ls), .int (nI n)]) (σ' := τ) rfl True.intro ?_
                            refine rw_icmp hX (tgt := 288) (cnd := .lt) (off := 52) (by decide +kernel) (by decide) (fun h236 => ?_) (fun h236 => ?_)
                            · replace h236 := c2_ltT h236
                              have hno : ¬ (mcb V a b (k / 50) (k % 50) = true ∧ ls ≤ rn V a b (k / 50) (k % 50)) := fun z => by have := z.2; omega
                              refine rw_go hX [(288, .iinc 4 1)] (by decide +kernel) (Ps := []) (pc' := 291) (lv' := [(0, .ref 66), (1, .int (nI a)), (2, .int (nI b)), (3, .int (nI ls)), (4, .int (nI k + nI 1)), (5, .int (nI n))]) (st' := []) (σ' := τ) rfl True.intro ?_
                              rw [show (nI k + nI 1) = nI (k + 1) from nI_add _ _]
                              refine rw_go hX [(291, .goto (-110))] (by decide +kernel) (Ps := []) (pc' := 181) (lv' := [(0, .ref 66), (1, .int (nI a)), (2, .int (nI b)), (3, .int (nI ls)), (4, .int (nI (k + 1))), (5, .int (nI n))]) (st' := []) (σ' := τ) rfl True.intro ?_
                              refine rw_lsub (ks := [0, 1, 2, 3, 4]) (lv' := [(0, .ref 66), (1, .int (nI a)), (2, .int (nI b)), (3, .int (nI ls)), (4, .int (nI (k + 1)))]) rfl ?_
                              exact ih181 (2500 - (k + 1)) (by omega) (k + 1) τ rfl (by omega) (by rw [mLk_n hno]; exact hM) h82 hfr h66
                            · replace h236 := c2_ltF h236
                              refine rw_go hX [(239, .aload_n 0), (240, .getfield 59), (243, .aload_n 0), (244, .getfield 232)] (by decide +kernel) (Ps := []) (pc' := 247) (lv' := [(0, .ref 66), (1, .int (nI a)), (2, .int (nI b)), (3, .int (nI ls)), (4, .int (nI k)), (5, .int (nI n))]) (st' := [.int (τ 66 20), .ref 83]) (σ' := τ) rfl True.intro ?_
                              rw [show (τ 66 20) = nI ((mLk V a b ls k).length) from (by rw [hM.1])]
                              refine rw_go hX [(247, .iload 4), (249, .bipush 50), (251, .idiv)] (by decide +kernel) (Ps := [¬ (nI 50) = 0]) (pc' := 252) (lv' := [(0, .ref 66), (1, .int (nI a)), (2, .int (nI b)), (3, .int (nI ls)), (4, .int (nI k)), (5, .int (nI n))]) (st' := [.int (nI k / nI 50), .int (nI ((mLk V a b ls k).length)), .ref 83]) (σ' := τ) rfl (show ¬ nI 50 = 0 from by decide +kernel) ?_
                              rw [show (nI k / nI 50) = nI (k / 50) from pk_div (by omega) (by omega) (by omega)]
                              refine rw_go hX [(252, .iastore)] (by decide +kernel) (Ps := [vp_in (nI ((mLk V a b ls k).length)) 1000]) (pc' := 253) (lv' := [(0, .ref 66), (1, .int (nI a)), (2, .int (nI b)), (3, .int (nI ls)), (4, .int (nI k)), (5, .int (nI n))]) (st' := []) (σ' := sw τ 83 (nI ((mLk V a b ls k).length)).toNatClampNeg (nI (k / 50))) rfl (vp_in_nI (by omega) (by omega)) ?_
                              rw [show (sw τ 83 (nI ((mLk V a b ls k).length)).toNatClampNeg (nI (k / 50))) = sw τ 83 ((mLk V a b ls k).length) (nI (k / 50)) from (by rw [nI_clamp (by omega)])]
                              refine rw_go hX [(253, .aload_n 0), (254, .getfield 62), (257, .aload_n 0), (258, .getfield 232)] (by decide +kernel) (Ps := []) (pc' := 261) (lv' := [(0, .ref 66), (1, .int (nI a)), (2, .int (nI b)), (3, .int (nI ls)), (4, .int (nI k)), (5, .int (nI n))]) (st' := [.int ((sw τ 83 ((mLk V a b ls k).length) (nI (k / 50))) 66 20), .ref 84]) (σ' := sw τ 83 ((mLk V a b ls k).length) (nI (k / 50))) rfl True.intro ?_
                              rw [show ((sw τ 83 ((mLk V a b ls k).length) (nI (k / 50))) 66 20) = nI ((mLk V a b ls k).length) from (by rw [sw_ne _ _ _ (by decide), hM.1])]
                              refine rw_go hX [(261, .iload 4), (263, .bipush 50), (265, .irem)] (by decide +kernel) (Ps := [¬ (nI 50) = 0]) (pc' := 266) (lv' := [(0, .ref 66), (1, .int (nI a)), (2, .int (nI b)), (3, .int (nI ls)), (4, .int (nI k)), (5, .int (nI n))]) (st' := [.int (nI k - nI k / nI 50 * nI 50), .int (nI ((mLk V a b ls k).length)), .ref 84]) (σ' := sw τ 83 ((mLk V a b ls k).length) (nI (k / 50))) rfl (show ¬ nI 50 = 0 from by decide +kernel) ?_
                              rw [show (nI k - nI k / nI 50 * nI 50) = nI (k % 50) from pk_rem (by omega) (by omega) (by omega)]
                              refine rw_go hX [(266, .iastore)] (by decide +kernel) (Ps := [vp_in (nI ((mLk V a b ls k).length)) 1000]) (pc' := 267) (lv' := [(0, .ref 66), (1, .int (nI a)), (2, .int (nI b)), (3, .int (nI ls)), (4, .int (nI k)), (5, .int (nI n))]) (st' := []) (σ' := sw (sw τ 83 ((mLk V a b ls k).length) (nI (k / 50))) 84 (nI ((mLk V a b ls k).length)).toNatClampNeg (nI (k % 50))) rfl (vp_in_nI (by omega) (by omega)) ?_
                              rw [show (sw (sw τ 83 ((mLk V a b ls k).length) (nI (k / 50))) 84 (nI ((mLk V a b ls k).length)).toNatClampNeg (nI (k % 50))) = sw (sw τ 83 ((mLk V a b ls k).length) (nI (k / 50))) 84 ((mLk V a b ls k).length) (nI (k % 50)) from (by rw [nI_clamp (by omega)])]
                              refine rw_go hX [(267, .aload_n 0), (268, .getfield 65), (271, .aload_n 0), (272, .getfield 232)] (by decide +kernel) (Ps := []) (pc' := 275) (lv' := [(0, .ref 66), (1, .int (nI a)), (2, .int (nI b)), (3, .int (nI ls)), (4, .int (nI k)), (5, .int (nI n))]) (st' := [.int ((sw (sw τ 83 ((mLk V a b ls k).length) (nI (k / 50))) 84 ((mLk V a b ls k).length) (nI (k % 50))) 66 20), .ref 85]) (σ' := sw (sw τ 83 ((mLk V a b ls k).length) (nI (k / 50))) 84 ((mLk V a b ls k).length) (nI (k % 50))) rfl True.intro ?_
                              rw [show ((sw (sw τ 83 ((mLk V a b ls k).length) (nI (k / 50))) 84 ((mLk V a b ls k).length) (nI (k % 50))) 66 20) = nI ((mLk V a b ls k).length) from (by rw [sw_ne _ _ _ (by decide), sw_ne _ _ _ (by decide), hM.1])]
                              refine rw_go hX [(275, .iload 5), (277, .iastore)] (by decide +kernel) (Ps := [vp_in (nI ((mLk V a b ls k).length)) 1000]) (pc' := 278) (lv' := [(0, .ref 66), (1, .int (nI a)), (2, .int (nI b)), (3, .int (nI ls)), (4, .int (nI k)), (5, .int (nI n))]) (st' := []) (σ' := sw (sw (sw τ 83 ((mLk V a b ls k).length) (nI (k / 50))) 84 ((mLk V a b ls k).length) (nI (k % 50))) 85 (nI ((mLk V a b ls k).length)).toNatClampNeg (nI n)) rfl (vp_in_nI (by omega) (by omega)) ?_
                              rw [show (sw (sw (sw τ 83 ((mLk V a b ls k).length) (nI (k / 50))) 84 ((mLk V a b ls k).length) (nI (k % 50))) 85 (nI ((mLk V a b ls k).length)).toNatClampNeg (nI n)) = sw (sw (sw τ 83 ((mLk V a b ls k).length) (nI (k / 50))) 84 ((mLk V a b ls k).length) (nI (k % 50))) 85 ((mLk V a b ls k).length) (nI n) from (by rw [nI_clamp (by omega)])]
                              refine rw_go hX [(278, .aload_n 0), (279, .dup), (280, .getfield 232)] (by decide +kernel) (Ps := []) (pc' := 283) (lv' := [(0, .ref 66), (1, .int (nI a)), (2, .int (nI b)), (3, .int (nI ls)), (4, .int (nI k)), (5, .int (nI n))]) (st' := [.int ((sw (sw (sw τ 83 ((mLk V a b ls k).length) (nI (k / 50))) 84 ((mLk V a b ls k).length) (nI (k % 50))) 85 ((mLk V a b ls k).length) (nI n)) 66 20), .ref 66]) (σ' := sw (sw (sw τ 83 ((mLk V a b ls k).length) (nI (k / 50))) 84 ((mLk V a b ls k).length) (nI (k % 50))) 85 ((mLk V a b ls k).length) (nI n)) rfl True.intro ?_
                              rw [show ((sw (sw (sw τ 83 ((mLk V a b ls k).length) (nI (k / 50))) 84 ((mLk V a b ls k).length) (nI (k % 50))) 85 ((mLk V a b ls k).length) (nI n)) 66 20) = nI ((mLk V a b ls k).length) from (by rw [sw_ne _ _ _ (by decide), sw_ne _ _ _ (by decide), sw_ne _ _ _ (by decide), hM.1])]
                              refine rw_go hX [(283, .iconst 1), (284, .iadd)] (by decide +kernel) (Ps := []) (pc' := 285) (lv' := [(0, .ref 66), (1, .int (nI a)), (2, .int (nI b)), (3, .int (nI ls)), (4, .int (nI k)), (5, .int (nI n))]) (st' := [.int (nI ((mLk V a b ls k).length) + nI 1), .ref 66]) (σ' := sw (sw (sw τ 83 ((mLk V a b ls k).length) (nI (k / 50))) 84 ((mLk V a b ls k).length) (nI (k % 50))) 85 ((mLk V a b ls k).length) (nI n)) rfl True.intro ?_
                              rw [show (nI ((mLk V a b ls k).length) + nI 1) = nI ((mLk V a b ls k).length + 1) from nI_add _ _]
                              refine rw_go hX [(285, .putfield 232), (288, .iinc 4 1)] (by decide +kernel) (Ps := []) (pc' := 291) (lv' := [(0, .ref 66), (1, .int (nI a)), (2, .int (nI b)), (3, .int (nI ls)), (4, .int (nI k + nI 1)), (5, .int (nI n))]) (st' := []) (σ' := sw (sw (sw (sw τ 83 ((mLk V a b ls k).length) (nI (k / 50))) 84 ((mLk V a b ls k).length) (nI (k % 50))) 85 ((mLk V a b ls k).length) (nI n)) 66 20 (nI ((mLk V a b ls k).length + 1))) rfl True.intro ?_
                              rw [show (nI k + nI 1) = nI (k + 1) from nI_add _ _]
                              refine rw_go hX [(291, .goto (-110))] (by decide +kernel) (Ps := []) (pc' := 181) (lv' := [(0, .ref 66), (1, .int (nI a)), (2, .int (nI b)), (3, .int (nI ls)), (4, .int (nI (k + 1))), (5, .int (nI n))]) (st' := []) (σ' := sw (sw (sw (sw τ 83 ((mLk V a b ls k).length) (nI (k / 50))) 84 ((mLk V a b ls k).length) (nI (k % 50))) 85 ((mLk V a b ls k).length) (nI n)) 66 20 (nI ((mLk V a b ls k).length + 1))) rfl True.intro ?_
                              refine rw_lsub (ks := [0, 1, 2, 3, 4]) (lv' := [(0, .ref 66), (1, .int (nI a)), (2, .int (nI b)), (3, .int (nI ls)), (4, .int (nI (k + 1)))]) rfl ?_
                              exact ih181 (2500 - (k + 1)) (by omega) (k + 1) _ rfl (by omega) (by rw [mLk_y hmcb (by rw [← en]; exact h236), ← en]; exact MTm_push hM _ _ _) (by rw [sw_ne _ _ _ (by decide), sw_ne _ _ _ (by decide), sw_ne _ _ _ (by decide), sw_ne _ _ _ (by decide)]; exact h82) (fun q hq => by rw [sw_ne _ _ _ (fun z => hq (by rw [z]; decide)), sw_ne _ _ _ (fun z => hq (by rw [z]; decide)), sw_ne _ _ _ (fun z => hq (by rw [z]; decide)), sw_ne _ _ _ (fun z => hq (by rw [z]; decide))]; exact hfr q hq) (fun j hj => by rw [sw_o hj, sw_ne _ _ _ (by decide), sw_ne _ _ _ (by decide), sw_ne _ _ _ (by decide)]; exact h66 j hj)
                          · have hq : (k / 50 + n < lC V a ∧ k % 50 + n < lC V b) ∧ LTr V a (k / 50 + n) = LTr V b (k % 50 + n) := by
                              have z := zb_eqF h224
                              rw [Bool.and_eq_true, decide_eq_true_eq, decide_eq_true_eq] at z
                              exact z
                            have hq1 := hq.1
                            refine rw_go hX [(227, .iinc 5 1)] (by decide +kernel) (Ps := []) (pc' := 230) (lv' := [(0, .ref 66), (1, .int (nI a)), (2, .int (nI b)), (3, .int (nI ls)), (4, .int (nI k)), (5, .int (nI n + nI 1))]) (st' := []) (σ' := τ) rfl True.intro ?_
                            rw [show (nI n + nI 1) = nI (n + 1) from nI_add _ _]
                            refine rw_go hX [(230, .goto (-28))] (by decide +kernel) (Ps := []) (pc' := 202) (lv' := [(0, .ref 66), (1, .int (nI a)), (2, .int (nI b)), (3, .int (nI ls)), (4, .int (nI k)), (5, .int (nI (n + 1)))]) (st' := []) (σ' := τ) rfl True.intro ?_
                            refine rw_lsub (ks := [0, 1, 2, 3, 4, 5]) (lv' := [(0, .ref 66), (1, .int (nI a)), (2, .int (nI b)), (3, .int (nI ls)), (4, .int (nI k)), (5, .int (nI (n + 1)))]) rfl ?_
                            exact ih202 (50 - (n + 1)) (by omega) (n + 1) rfl (by omega) (fun s hs => by
                              rcases Nat.lt_or_ge s n with q | q
                              · exact hnr s q
                              · rw [show s = n by omega]; exact hq.2)
                      refine rw_lsub (ks := [0, 1, 2, 3, 4, 5]) (lv' := [(0, .ref 66), (1, .int (nI a)), (2, .int (nI b)), (3, .int (nI ls)), (4, .int (nI k)), (5, .int (nI 0))]) rfl ?_
                      exact L202 50 0 rfl (by omega) (fun s hs => by omega)
              refine rw_lsub (ks := [0, 1, 2, 3, 4]) (lv' := [(0, .ref 66), (1, .int (nI a)), (2, .int (nI b)), (3, .int (nI ls)), (4, .int (nI 0))]) rfl ?_
              exact L181 2500 0 _ rfl (by omega) ⟨sw_eq, fun x hx => by exact absurd hx (Nat.not_lt_zero x)⟩ (by rw [sw_ne _ _ _ (by decide), sr_s]) (fun q hq => by rw [sw_ne _ _ _ (fun z => hq (by rw [z]; decide)), sr_n _ _ (fun z => hq (by rw [z]; decide))]) (fun j hj => by rw [sw_o hj, sr_n _ _ (by decide)])
            · replace h35 := c2_geF h35
              refine rw_go hX [(38, .iconst 0), (39, .istore 5)] (by decide +kernel) (Ps := []) (pc' := 41) (lv' := [(0, .ref 66), (1, .int (nI a)), (2, .int (nI b)), (3, .int (nI ls)), (4, .int (nI g)), (5, .int (nI 0))]) (st' := []) (σ' := sr σ 82 F) rfl True.intro ?_
              have L41 : ∀ (μ41 : Nat) (h : Nat) (F : Nat → Int32), μ41 = gC V b - h → (h ≤ gC V b) → (∀ p, p < 2500 → F p = bz (pz (bgs V a b g h p))) → RW E G 2 7 (QV E G (fun σ' => MTm (ML V a b ls) σ' ∧ FM σ σ')) 41 [(0, .ref 66), (1, .int (nI a)), (2, .int (nI b)), (3, .int (nI ls)), (4, .int (nI g)), (5, .int (nI h))] [] (sr σ 82 F) := by
                intro μ41
                induction μ41 using Nat.strongRecOn with
                | ind μ41 ih41 =>
                  intro h F hμ41 hhi hF
                  have hAF : RDm V a (sr σ 82 F) := RDm_k hA fun k hk => sr_n _ _ (fun z => by rw [z] at hk; revert hk; decide)
                  have hBF : RDm V b (sr σ 82 F) := RDm_k hB fun k hk => sr_n _ _ (fun z => by rw [z] at hk; revert hk; decide)
                  have h71F : (sr σ 82 F) 71 = V 4 := (sr_n _ _ (by decide)).trans h71
                  refine rw_go hX [(41, .iload 5), (43, .aload_n 0), (44, .iload_n 2)] (by decide +kernel) (Ps := []) (pc' := 45) (lv' := [(0, .ref 66), (1, .int (nI a)), (2, .int (nI b)), (3, .int (nI ls)), (4, .int (nI g)), (5, .int (nI h))]) (st' := [.int (nI b), .ref 66, .int (nI h)]) (σ' := sr σ 82 F) rfl True.intro ?_
                  refine rw_callVi hX (as := [.int (nI b)]) (rest := [.int (nI h)]) (m_gramsV _ _ _ V b hv hb h71F hBF) (by decide +kernel) mvX10_grams lk10_187 (ci := 9) rfl rfl rfl (by decide) (Nat.le_of_ble_eq_true rfl) rfl ?_
                  intro r1 σ1 hr
                  rw [hr.1, show r1 = nI (gC V b) from hr.2]
                  clear hr σ1 r1
                  refine rw_icmp hX (tgt := 167) (cnd := .ge) (off := 119) (by decide +kernel) (by decide) (fun h48 => ?_) (fun h48 => ?_)
                  · replace h48 := c2_geT h48
                    have eh : h = gC V b := by omega
                    rw [eh] at hF
                    have hnx : ∀ {p}, bgs V a b g (gC V b) p ↔ bgs V a b (g + 1) 0 p := bgs_row
                    refine rw_go hX [(167, .iinc 4 1)] (by decide +kernel) (Ps := []) (pc' := 170) (lv' := [(0, .ref 66), (1, .int (nI a)), (2, .int (nI b)), (3, .int (nI ls)), (4, .int (nI g + nI 1)), (5, .int (nI h))]) (st' := []) (σ' := sr σ 82 F) rfl True.intro ?_
                    rw [show (nI g + nI 1) = nI (g + 1) from nI_add _ _]
                    refine rw_go hX [(170, .goto (-142))] (by decide +kernel) (Ps := []) (pc' := 28) (lv' := [(0, .ref 66), (1, .int (nI a)), (2, .int (nI b)), (3, .int (nI ls)), (4, .int (nI (g + 1))), (5, .int (nI h))]) (st' := []) (σ' := sr σ 82 F) rfl True.intro ?_
                    refine rw_lsub (ks := [0, 1, 2, 3, 4]) (lv' := [(0, .ref 66), (1, .int (nI a)), (2, .int (nI b)), (3, .int (nI ls)), (4, .int (nI (g + 1)))]) rfl ?_
                    exact ih28 (gC V a - (g + 1)) (by omega) (g + 1) F rfl (by omega) (fun p hp => by rw [hF p hp, pz_c hnx])
                  · replace h48 := c2_geF h48
                    have hPa := PR_of hA h35
                    have hPb := PR_of hB h48
                    have hCa := (hAN.2 _ (okc_i hv ha h35)).2
                    refine rw_go hX [(51, .aload_n 0), (52, .getfield 46), (55, .bipush 50), (57, .iload_n 1), (58, .imul)] (by decide +kernel) (Ps := []) (pc' := 59) (lv' := [(0, .ref 66), (1, .int (nI a)), (2, .int (nI b)), (3, .int (nI ls)), (4, .int (nI g)), (5, .int (nI h))]) (st' := [.int (nI 50 * nI a), .ref 79]) (σ' := sr σ 82 F) rfl True.intro ?_
                    rw [show (nI 50 * nI a) = nI (50 * a) from pk_mul _ _]
                    refine rw_go hX [(59, .iload 4), (61, .iadd)] (by decide +kernel) (Ps := []) (pc' := 62) (lv' := [(0, .ref 66), (1, .int (nI a)), (2, .int (nI b)), (3, .int (nI ls)), (4, .int (nI g)), (5, .int (nI h))]) (st' := [.int (nI (50 * a) + nI g), .ref 79]) (σ' := sr σ 82 F) rfl True.intro ?_
                    rw [show (nI (50 * a) + nI g) = nI (50 * a + g) from nI_add _ _]
                    refine rw_go hX [(62, .baload)] (by decide +kernel) (Ps := [vp_in (nI (50 * a + g)) 250]) (pc' := 63) (lv' := [(0, .ref 66), (1, .int (nI a)), (2, .int (nI b)), (3, .int (nI ls)), (4, .int (nI g)), (5, .int (nI h))]) (st' := [.int ((sr σ 82 F) 79 (nI (50 * a + g)).toNatClampNeg)]) (σ' := sr σ 82 F) rfl (vp_in_nI (by omega) (by omega)) ?_
                    rw [show ((sr σ 82 F) 79 (nI (50 * a + g)).toNatClampNeg) = σ 79 (50 * a + g) from (by rw [nI_clamp (by omega), sr_n _ _ (by decide)])]
                    refine rw_if hX (tgt := 167) (cnd := .eq) (off := 104) (by decide +kernel) (by decide) (fun h63 => ?_) (fun h63 => ?_)
                    · replace h63 : (σ 79 (50 * a + g) = 0) := h63
                      have hnx : ∀ {p}, bgs V a b g h p ↔ bgs V a b (g + 1) 0 p := bgs_all fun _ => ac_f1 (hPa.1 h63)
                      refine rw_go hX [(167, .iinc 4 1)] (by decide +kernel) (Ps := []) (pc' := 170) (lv' := [(0, .ref 66), (1, .int (nI a)), (2, .int (nI b)), (3, .int (nI ls)), (4, .int (nI g + nI 1)), (5, .int (nI h))]) (st' := []) (σ' := sr σ 82 F) rfl True.intro ?_
                      rw [show (nI g + nI 1) = nI (g + 1) from nI_add _ _]
                      refine rw_go hX [(170, .goto (-142))] (by decide +kernel) (Ps := []) (pc' := 28) (lv' := [(0, .ref 66), (1, .int (nI a)), (2, .int (nI b)), (3, .int (nI ls)), (4, .int (nI (g + 1))), (5, .int (nI h))]) (st' := []) (σ' := sr σ 82 F) rfl True.intro ?_
                      refine rw_lsub (ks := [0, 1, 2, 3, 4]) (lv' := [(0, .ref 66), (1, .int (nI a)), (2, .int (nI b)), (3, .int (nI ls)), (4, .int (nI (g + 1)))]) rfl ?_
                      exact ih28 (gC V a - (g + 1)) (by omega) (g + 1) F rfl (by omega) (fun p hp => by rw [hF p hp, pz_c hnx])
                    · replace h63 : ¬ (σ 79 (50 * a + g) = 0) := h63
                      refine rw_go hX [(66, .aload_n 0), (67, .getfield 53), (70, .bipush 50), (72, .iload_n 1), (73, .imul)] (by decide +kernel) (Ps := []) (pc' := 74) (lv' := [(0, .ref 66), (1, .int (nI a)), (2, .int (nI b)), (3, .int (nI ls)), (4, .int (nI g)), (5, .int (nI h))]) (st' := [.int (nI 50 * nI a), .ref 81]) (σ' := sr σ 82 F) rfl True.intro ?_
                      rw [show (nI 50 * nI a) = nI (50 * a) from pk_mul _ _]
                      refine rw_go hX [(74, .iload 4), (76, .iadd)] (by decide +kernel) (Ps := []) (pc' := 77) (lv' := [(0, .ref 66), (1, .int (nI a)), (2, .int (nI b)), (3, .int (nI ls)), (4, .int (nI g)), (5, .int (nI h))]) (st' := [.int (nI (50 * a) + nI g), .ref 81]) (σ' := sr σ 82 F) rfl True.intro ?_
                      rw [show (nI (50 * a) + nI g) = nI (50 * a + g) from nI_add _ _]
                      refine rw_go hX [(77, .baload)] (by decide +kernel) (Ps := [vp_in (nI (50 * a + g)) 250]) (pc' := 78) (lv' := [(0, .ref 66), (1, .int (nI a)), (2, .int (nI b)), (3, .int (nI ls)), (4, .int (nI g)), (5, .int (nI h))]) (st' := [.int ((sr σ 82 F) 81 (nI (50 * a + g)).toNatClampNeg)]) (σ' := sr σ 82 F) rfl (vp_in_nI (by omega) (by omega)) ?_
                      rw [show ((sr σ 82 F) 81 (nI (50 * a + g)).toNatClampNeg) = bz (CM V (50 * a + g)) from (by rw [nI_clamp (by omega), sr_n _ _ (by decide), hCa])]
                      refine rw_if hX (tgt := 167) (cnd := .ne) (off := 89) (by decide +kernel) (by decide) (fun h78 => ?_) (fun h78 => ?_)
                      · replace h78 := zb_neT h78
                        have hnx : ∀ {p}, bgs V a b g h p ↔ bgs V a b (g + 1) 0 p := bgs_all fun _ => ac_f2 h78
                        refine rw_go hX [(167, .iinc 4 1)] (by decide +kernel) (Ps := []) (pc' := 170) (lv' := [(0, .ref 66), (1, .int (nI a)), (2, .int (nI b)), (3, .int (nI ls)), (4, .int (nI g + nI 1)), (5, .int (nI h))]) (st' := []) (σ' := sr σ 82 F) rfl True.intro ?_
                        rw [show (nI g + nI 1) = nI (g + 1) from nI_add _ _]
                        refine rw_go hX [(170, .goto (-142))] (by decide +kernel) (Ps := []) (pc' := 28) (lv' := [(0, .ref 66), (1, .int (nI a)), (2, .int (nI b)), (3, .int (nI ls)), (4, .int (nI (g + 1))), (5, .int (nI h))]) (st' := []) (σ' := sr σ 82 F) rfl True.intro ?_
                        refine rw_lsub (ks := [0, 1, 2, 3, 4]) (lv' := [(0, .ref 66), (1, .int (nI a)), (2, .int (nI b)), (3, .int (nI ls)), (4, .int (nI (g + 1)))]) rfl ?_
                        exact ih28 (gC V a - (g + 1)) (by omega) (g + 1) F rfl (by omega) (fun p hp => by rw [hF p hp, pz_c hnx])
                      · replace h78 := zb_neF h78
                        refine rw_go hX [(81, .aload_n 0), (82, .getfield 46), (85, .bipush 50), (87, .iload_n 2), (88, .imul)] (by decide +kernel) (Ps := []) (pc' := 89) (lv' := [(0, .ref 66), (1, .int (nI a)), (2, .int (nI b)), (3, .int (nI ls)), (4, .int (nI g)), (5, .int (nI h))]) (st' := [.int (nI 50 * nI b), .ref 79]) (σ' := sr σ 82 F) rfl True.intro ?_
                        rw [show (nI 50 * nI b) = nI (50 * b) from pk_mul _ _]
                        refine rw_go hX [(89, .iload 5), (91, .iadd)] (by decide +kernel) (Ps := []) (pc' := 92) (lv' := [(0, .ref 66), (1, .int (nI a)), (2, .int (nI b)), (3, .int (nI ls)), (4, .int (nI g)), (5, .int (nI h))]) (st' := [.int (nI (50 * b) + nI h), .ref 79]) (σ' := sr σ 82 F) rfl True.intro ?_
                        rw [show (nI (50 * b) + nI h) = nI (50 * b + h) from nI_add _ _]
                        refine rw_go hX [(92, .baload)] (by decide +kernel) (Ps := [vp_in (nI (50 * b + h)) 250]) (pc' := 93) (lv' := [(0, .ref 66), (1, .int (nI a)), (2, .int (nI b)), (3, .int (nI ls)), (4, .int (nI g)), (5, .int (nI h))]) (st' := [.int ((sr σ 82 F) 79 (nI (50 * b + h)).toNatClampNeg)]) (σ' := sr σ 82 F) rfl (vp_in_nI (by omega) (by omega)) ?_
                        rw [show ((sr σ 82 F) 79 (nI (50 * b + h)).toNatClampNeg) = σ 79 (50 * b + h) from (by rw [nI_clamp (by omega), sr_n _ _ (by decide)])]
                        refine rw_if hX (tgt := 161) (cnd := .eq) (off := 68) (by decide +kernel) (by decide) (fun h93 => ?_) (fun h93 => ?_)
                        · replace h93 : (σ 79 (50 * b + h) = 0) := h93
                          have hac : ac V a b g h = false := ac_f3 (hPb.1 h93)
                          refine rw_go hX [(161, .iinc 5 1)] (by decide +kernel) (Ps := []) (pc' := 164) (lv' := [(0, .ref 66), (1, .int (nI a)), (2, .int (nI b)), (3, .int (nI ls)), (4, .int (nI g)), (5, .int (nI h + nI 1))]) (st' := []) (σ' := sr σ 82 F) rfl True.intro ?_
                          rw [show (nI h + nI 1) = nI (h + 1) from nI_add _ _]
                          refine rw_go hX [(164, .goto (-123))] (by decide +kernel) (Ps := []) (pc' := 41) (lv' := [(0, .ref 66), (1, .int (nI a)), (2, .int (nI b)), (3, .int (nI ls)), (4, .int (nI g)), (5, .int (nI (h + 1)))]) (st' := []) (σ' := sr σ 82 F) rfl True.intro ?_
                          refine rw_lsub (ks := [0, 1, 2, 3, 4, 5]) (lv' := [(0, .ref 66), (1, .int (nI a)), (2, .int (nI b)), (3, .int (nI ls)), (4, .int (nI g)), (5, .int (nI (h + 1)))]) rfl ?_
                          exact ih41 (gC V b - (h + 1)) (by omega) (h + 1) _ rfl (by omega) (fun p hp => by rw [hF p hp, pz_c (bgs_n hac)])
                        · replace h93 : ¬ (σ 79 (50 * b + h) = 0) := h93
                          refine rw_go hX [(96, .aload_n 0), (97, .iload_n 1), (98, .iload 4), (100, .iload_n 2), (101, .iload 5)] (by decide +kernel) (Ps := []) (pc' := 103) (lv' := [(0, .ref 66), (1, .int (nI a)), (2, .int (nI b)), (3, .int (nI ls)), (4, .int (nI g)), (5, .int (nI h))]) (st' := [.int (nI h), .int (nI b), .int (nI g), .int (nI a), .ref 66]) (σ' := sr σ 82 F) rfl True.intro ?_
                          refine rw_callVi hX (as := [.int (nI a), .int (nI g), .int (nI b), .int (nI h)]) (rest := []) (m_isLike _ _ _ V a g b h hv ha hb h71F hAF hBF h35 h48) (by decide +kernel) mvX10_isLike lk10_191 (ci := 9) rfl rfl rfl (by decide) (Nat.le_of_ble_eq_true rfl) rfl ?_
                          intro r1 σ1 hr
                          rw [hr.1, show r1 = bz (lkC (LT V) (50 * a + g) (50 * b + h) (vR V 0)) from hr.2]
                          clear hr σ1 r1
                          refine rw_if hX (tgt := 161) (cnd := .eq) (off := 55) (by decide +kernel) (by decide) (fun h106 => ?_) (fun h106 => ?_)
                          · replace h106 := zb_eqT h106
                            have hac : ac V a b g h = false := ac_f4 h106
                            refine rw_go hX [(161, .iinc 5 1)] (by decide +kernel) (Ps := []) (pc' := 164) (lv' := [(0, .ref 66), (1, .int (nI a)), (2, .int (nI b)), (3, .int (nI ls)), (4, .int (nI g)), (5, .int (nI h + nI 1))]) (st' := []) (σ' := sr σ 82 F) rfl True.intro ?_
                            rw [show (nI h + nI 1) = nI (h + 1) from nI_add _ _]
                            refine rw_go hX [(164, .goto (-123))] (by decide +kernel) (Ps := []) (pc' := 41) (lv' := [(0, .ref 66), (1, .int (nI a)), (2, .int (nI b)), (3, .int (nI ls)), (4, .int (nI g)), (5, .int (nI (h + 1)))]) (st' := []) (σ' := sr σ 82 F) rfl True.intro ?_
                            refine rw_lsub (ks := [0, 1, 2, 3, 4, 5]) (lv' := [(0, .ref 66), (1, .int (nI a)), (2, .int (nI b)), (3, .int (nI ls)), (4, .int (nI g)), (5, .int (nI (h + 1)))]) rfl ?_
                            exact ih41 (gC V b - (h + 1)) (by omega) (h + 1) _ rfl (by omega) (fun p hp => by rw [hF p hp, pz_c (bgs_n hac)])
                          · replace h106 := zb_eqF h106
                            have hac : ac V a b g h = true := ac_t h35 h48 (hPa.2 h63) h78 (hPb.2 h93) h106
                            have hgl : g < lC V a := by omega
                            have hhl : h < lC V b := by omega
                            refine rw_go hX [(109, .iconst 0), (110, .istore 6)] (by decide +kernel) (Ps := []) (pc' := 112) (lv' := [(0, .ref 66), (1, .int (nI a)), (2, .int (nI b)), (3, .int (nI ls)), (4, .int (nI g)), (5, .int (nI h)), (6, .int (nI 0))]) (st' := []) (σ' := sr σ 82 F) rfl True.intro ?_
                            have L112 : ∀ (μ112 : Nat) (c : Nat), μ112 = g - c → (c ≤ g) → (c ≤ h) → (∀ t, t < c → LTr V a (g - 1 - t) = LTr V b (h - 1 - t)) → RW E G 2 7 (QV E G (fun σ' => MTm (ML V a b ls) σ' ∧ FM σ σ')) 112 [(0, .ref 66), (1, .int (nI a)), (2, .int (nI b)), (3, .int (nI ls)), (4, .int (nI g)), (5, .int (nI h)), (6, .int (nI c))] [] (sr σ 82 F) := by
                              intro μ112
                              induction μ112 using Nat.strongRecOn with
                              | ind μ112 ih112 =>
                                intro c hμ112 hc1 hc2 hcr
                                refine rw_go hX [(112, .aload_n 0), (113, .iload_n 1), (114, .iload 4), (116, .iload 6), (118, .isub)] (by decide +kernel) (Ps := []) (pc' := 119) (lv' := [(0, .ref 66), (1, .int (nI a)), (2, .int (nI b)), (3, .int (nI ls)), (4, .int (nI g)), (5, .int (nI h)), (6, .int (nI c))]) (st' := [.int (nI g - nI c), .int (nI a), .ref 66]) (σ' := sr σ 82 F) rfl True.intro ?_
                                rw [show (nI g - nI c) = nI (g - c) from pk_sub hc1]
                                refine rw_go hX [(119, .iconst 1), (120, .isub), (121, .iload_n 2), (122, .iload 5), (124, .iload 6), (126, .isub)] (by decide +kernel) (Ps := []) (pc' := 127) (lv' := [(0, .ref 66), (1, .int (nI a)), (2, .int (nI b)), (3, .int (nI ls)), (4, .int (nI g)), (5, .int (nI h)), (6, .int (nI c))]) (st' := [.int (nI h - nI c), .int (nI b), .int (nI (g - c) - nI 1), .int (nI a), .ref 66]) (σ' := sr σ 82 F) rfl True.intro ?_
                                rw [show (nI h - nI c) = nI (h - c) from pk_sub hc2]
                                refine rw_go hX [(127, .iconst 1), (128, .isub)] (by decide +kernel) (Ps := []) (pc' := 129) (lv' := [(0, .ref 66), (1, .int (nI a)), (2, .int (nI b)), (3, .int (nI ls)), (4, .int (nI g)), (5, .int (nI h)), (6, .int (nI c))]) (st' := [.int (nI (h - c) - nI 1), .int (nI b), .int (nI (g - c) - nI 1), .int (nI a), .ref 66]) (σ' := sr σ 82 F) rfl True.intro ?_
                                refine rw_callVi hX (as := [.int (nI a), .int (nI (g - c) - nI 1), .int (nI b), .int (nI (h - c) - nI 1)]) (rest := []) (m_oneB _ _ _ V a b g h c hv ha hb hAF hBF hgl hhl hc1 hc2) (by decide +kernel) mvX10_isOne lk10_229 (ci := 9) rfl rfl rfl (by decide) (Nat.le_of_ble_eq_true rfl) rfl ?_
                                intro r1 σ1 hr
                                rw [hr.1, show r1 = bz (decide (c < g ∧ c < h) && decide (LTr V a (g - 1 - c) = LTr V b (h - 1 - c))) from hr.2]
                                clear hr σ1 r1
                                refine rw_if hX (tgt := 141) (cnd := .eq) (off := 9) (by decide +kernel) (by decide) (fun h132 => ?_) (fun h132 => ?_)
                                · have hst : c = g ∨ c = h ∨ LTr V a (g - 1 - c) ≠ LTr V b (h - 1 - c) := by
                                    have z := zb_eqT h132
                                    by_cases y : c < g ∧ c < h
                                    · rw [decide_eq_true y, Bool.true_and] at z
                                      exact Or.inr (Or.inr (of_decide_eq_false z))
                                    · omega
                                  have hbk : bk (LTr V a) (LTr V b) g h = c := bk_eq hc1 hc2 hcr hst
                                  have hbp : 50 * (g - c) + (h - c) = bp V a b g h := by unfold bp; rw [hbk]
                                  have hbl := bp_lt hv ha hb h35 h48
                                  refine rw_go hX [(141, .aload_n 0), (142, .getfield 56), (145, .bipush 50), (147, .iload 4), (149, .iload 6), (151, .isub)] (by decide +kernel) (Ps := []) (pc' := 152) (lv' := [(0, .ref 66), (1, .int (nI a)), (2, .int (nI b)), (3, .int (nI ls)), (4, .int (nI g)), (5, .int (nI h)), (6, .int (nI c))]) (st' := [.int (nI g - nI c), .int (nI 50), .ref 82]) (σ' := sr σ 82 F) rfl True.intro ?_
                                  rw [show (nI g - nI c) = nI (g - c) from pk_sub hc1]
                                  refine rw_go hX [(152, .imul)] (by decide +kernel) (Ps := []) (pc' := 153) (lv' := [(0, .ref 66), (1, .int (nI a)), (2, .int (nI b)), (3, .int (nI ls)), (4, .int (nI g)), (5, .int (nI h)), (6, .int (nI c))]) (st' := [.int (nI 50 * nI (g - c)), .ref 82]) (σ' := sr σ 82 F) rfl True.intro ?_
                                  rw [show (nI 50 * nI (g - c)) = nI (50 * (g - c)) from pk_mul _ _]
                                  refine rw_go hX [(153, .iload 5), (155, .iadd)] (by decide +kernel) (Ps := []) (pc' := 156) (lv' := [(0, .ref 66), (1, .int (nI a)), (2, .int (nI b)), (3, .int (nI ls)), (4, .int (nI g)), (5, .int (nI h)), (6, .int (nI c))]) (st' := [.int (nI (50 * (g - c)) + nI h), .ref 82]) (σ' := sr σ 82 F) rfl True.intro ?_
                                  rw [show (nI (50 * (g - c)) + nI h) = nI (50 * (g - c) + h) from nI_add _ _]
                                  refine rw_go hX [(156, .iload 6), (158, .isub)] (by decide +kernel) (Ps := []) (pc' := 159) (lv' := [(0, .ref 66), (1, .int (nI a)), (2, .int (nI b)), (3, .int (nI ls)), (4, .int (nI g)), (5, .int (nI h)), (6, .int (nI c))]) (st' := [.int (nI (50 * (g - c) + h) - nI c), .ref 82]) (σ' := sr σ 82 F) rfl True.intro ?_
                                  rw [show (nI (50 * (g - c) + h) - nI c) = nI (50 * (g - c) + (h - c)) from (by rw [pk_sub (by omega), show 50 * (g - c) + h - c = 50 * (g - c) + (h - c) by omega])]
                                  refine rw_go hX [(159, .iconst 1), (160, .bastore)] (by decide +kernel) (Ps := [vp_in (nI (50 * (g - c) + (h - c))) 2500, (nI 1) = 0 ∨ (nI 1) = 1]) (pc' := 161) (lv' := [(0, .ref 66), (1, .int (nI a)), (2, .int (nI b)), (3, .int (nI ls)), (4, .int (nI g)), (5, .int (nI h)), (6, .int (nI c))]) (st' := []) (σ' := sw (sr σ 82 F) 82 (nI (50 * (g - c) + (h - c))).toNatClampNeg (nI 1)) rfl (⟨vp_in_nI (by omega) (by omega), Or.inr rfl⟩) ?_
                                  rw [show (sw (sr σ 82 F) 82 (nI (50 * (g - c) + (h - c))).toNatClampNeg (nI 1)) = sw (sr σ 82 F) 82 (50 * (g - c) + (h - c)) (nI 1) from (by rw [nI_clamp (by omega)])]
                                  refine rw_go hX [(161, .iinc 5 1)] (by decide +kernel) (Ps := []) (pc' := 164) (lv' := [(0, .ref 66), (1, .int (nI a)), (2, .int (nI b)), (3, .int (nI ls)), (4, .int (nI g)), (5, .int (nI h + nI 1)), (6, .int (nI c))]) (st' := []) (σ' := sw (sr σ 82 F) 82 (50 * (g - c) + (h - c)) (nI 1)) rfl True.intro ?_
                                  rw [show (nI h + nI 1) = nI (h + 1) from nI_add _ _]
                                  refine rw_go hX [(164, .goto (-123))] (by decide +kernel) (Ps := []) (pc' := 41) (lv' := [(0, .ref 66), (1, .int (nI a)), (2, .int (nI b)), (3, .int (nI ls)), (4, .int (nI g)), (5, .int (nI (h + 1))), (6, .int (nI c))]) (st' := []) (σ' := sw (sr σ 82 F) 82 (50 * (g - c) + (h - c)) (nI 1)) rfl True.intro ?_
                                  refine rw_lsub (ks := [0, 1, 2, 3, 4, 5]) (lv' := [(0, .ref 66), (1, .int (nI a)), (2, .int (nI b)), (3, .int (nI ls)), (4, .int (nI g)), (5, .int (nI (h + 1)))]) rfl ?_
                                  rw [sw_sr]
                                  exact ih41 (gC V b - (h + 1)) (by omega) (h + 1) _ rfl (by omega) (F_up hF hac hbp)
                                · have hq : (c < g ∧ c < h) ∧ LTr V a (g - 1 - c) = LTr V b (h - 1 - c) := by
                                    have z := zb_eqF h132
                                    rw [Bool.and_eq_true, decide_eq_true_eq, decide_eq_true_eq] at z
                                    exact z
                                  have hq1 := hq.1
                                  refine rw_go hX [(135, .iinc 6 1)] (by decide +kernel) (Ps := []) (pc' := 138) (lv' := [(0, .ref 66), (1, .int (nI a)), (2, .int (nI b)), (3, .int (nI ls)), (4, .int (nI g)), (5, .int (nI h)), (6, .int (nI c + nI 1))]) (st' := []) (σ' := sr σ 82 F) rfl True.intro ?_
                                  rw [show (nI c + nI 1) = nI (c + 1) from nI_add _ _]
                                  refine rw_go hX [(138, .goto (-26))] (by decide +kernel) (Ps := []) (pc' := 112) (lv' := [(0, .ref 66), (1, .int (nI a)), (2, .int (nI b)), (3, .int (nI ls)), (4, .int (nI g)), (5, .int (nI h)), (6, .int (nI (c + 1)))]) (st' := []) (σ' := sr σ 82 F) rfl True.intro ?_
                                  refine rw_lsub (ks := [0, 1, 2, 3, 4, 5, 6]) (lv' := [(0, .ref 66), (1, .int (nI a)), (2, .int (nI b)), (3, .int (nI ls)), (4, .int (nI g)), (5, .int (nI h)), (6, .int (nI (c + 1)))]) rfl ?_
                                  exact ih112 (g - (c + 1)) (by omega) (c + 1) rfl (by omega) (by omega) (fun t ht => by
                                    rcases Nat.lt_or_ge t c with q | q
                                    · exact hcr t q
                                    · rw [show t = c by omega]; exact hq.2)
                            refine rw_lsub (ks := [0, 1, 2, 3, 4, 5, 6]) (lv' := [(0, .ref 66), (1, .int (nI a)), (2, .int (nI b)), (3, .int (nI ls)), (4, .int (nI g)), (5, .int (nI h)), (6, .int (nI 0))]) rfl ?_
                            exact L112 g 0 rfl (by omega) (by omega) (fun t ht => by omega)
              refine rw_lsub (ks := [0, 1, 2, 3, 4, 5]) (lv' := [(0, .ref 66), (1, .int (nI a)), (2, .int (nI b)), (3, .int (nI ls)), (4, .int (nI g)), (5, .int (nI 0))]) rfl ?_
              exact L41 (gC V b) 0 F (by omega) (by omega) hF
        refine rw_lsub (ks := [0, 1, 2, 3, 4]) (lv' := [(0, .ref 66), (1, .int (nI a)), (2, .int (nI b)), (3, .int (nI ls)), (4, .int (nI 0))]) rfl ?_
        exact L28 (gC V a) 0 _ (by omega) (by omega) (fun p hp => by rw [pz_f bgs_0, ek]; exact if_pos ⟨Nat.zero_le _, hp⟩)
      · replace h8 := c2_geF h8
        refine rw_go hX [(11, .aload_n 0), (12, .getfield 56), (15, .iload 4), (17, .iconst 0), (18, .bastore)] (by decide +kernel) (Ps := [vp_in (nI k) 2500, (nI 0) = 0 ∨ (nI 0) = 1]) (pc' := 19) (lv' := [(0, .ref 66), (1, .int (nI a)), (2, .int (nI b)), (3, .int (nI ls)), (4, .int (nI k))]) (st' := []) (σ' := sw (sr σ 82 (fl (σ 82) 0 k (nI 0))) 82 (nI k).toNatClampNeg (nI 0)) rfl (⟨vp_in_nI (by omega) (by omega), Or.inl rfl⟩) ?_
        rw [show (sw (sr σ 82 (fl (σ 82) 0 k (nI 0))) 82 (nI k).toNatClampNeg (nI 0)) = sw (sr σ 82 (fl (σ 82) 0 k (nI 0))) 82 k (nI 0) from (by rw [nI_clamp (by omega)])]
        refine rw_go hX [(19, .iinc 4 1)] (by decide +kernel) (Ps := []) (pc' := 22) (lv' := [(0, .ref 66), (1, .int (nI a)), (2, .int (nI b)), (3, .int (nI ls)), (4, .int (nI k + nI 1))]) (st' := []) (σ' := sw (sr σ 82 (fl (σ 82) 0 k (nI 0))) 82 k (nI 0)) rfl True.intro ?_
        rw [show (nI k + nI 1) = nI (k + 1) from nI_add _ _]
        refine rw_go hX [(22, .goto (-19))] (by decide +kernel) (Ps := []) (pc' := 3) (lv' := [(0, .ref 66), (1, .int (nI a)), (2, .int (nI b)), (3, .int (nI ls)), (4, .int (nI (k + 1)))]) (st' := []) (σ' := sw (sr σ 82 (fl (σ 82) 0 k (nI 0))) 82 k (nI 0)) rfl True.intro ?_
        refine rw_lsub (ks := [0, 1, 2, 3, 4]) (lv' := [(0, .ref 66), (1, .int (nI a)), (2, .int (nI b)), (3, .int (nI ls)), (4, .int (nI (k + 1)))]) rfl ?_
        rw [sw_sr, fl_1 _ _ (Nat.zero_le _)]
        exact ih3 (2500 - (k + 1)) (by omega) (k + 1) rfl (by omega)
  refine rw_lsub (ks := [0, 1, 2, 3, 4]) (lv' := [(0, .ref 66), (1, .int (nI a)), (2, .int (nI b)), (3, .int (nI ls)), (4, .int (nI 0))]) rfl ?_
  have q := L3 2500 0 rfl (by omega)
  rw [fl_0, sr_id] at q
  exact q
