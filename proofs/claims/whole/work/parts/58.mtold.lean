/-! the model: letters, grams, marks, prints -/
def ahM (V : Mm) (w i : Nat) : Int32 := if i = 0 then 0 else V 0 (50 * w + (i - 1))
def bhM (V : Mm) (w i : Nat) : Int32 := if i + 1 < vS V w then V 0 (50 * w + (i + 1)) else 0
theorem tl_m {V : Mm} {w i : Nat} {k : Nat} (hk : k < 6) (c : Int32) (q : Bool) : tellK k (ahM V w i) c (bhM V w i) q = tellK k (ahV V w i) c (bhV V w i) q := by
  have hL0 : isL 0 = isL (-(nI 1)) := by decide +kernel
  have hD0 : isD 0 = isD (-(nI 1)) := by decide +kernel
  have a1 : isL (ahM V w i) = isL (ahV V w i) := by
    unfold ahM ahV
    split
    · exact hL0
    · rfl
  have a2 : isD (ahM V w i) = isD (ahV V w i) := by
    unfold ahM ahV
    split
    · exact hD0
    · rfl
  have a3 : isL (bhM V w i) = isL (bhV V w i) := by
    unfold bhM bhV
    split
    · rfl
    · exact hL0
  have a4 : isL c = true → decide (c ≠ ahM V w i) = decide (c ≠ ahV V w i) := fun hc => by
    unfold ahM ahV
    split
    · rw [decide_eq_true (show c ≠ 0 from fun z => by rw [z] at hc; revert hc; decide +kernel), decide_eq_true (show c ≠ -(nI 1) from fun z => by rw [z] at hc; revert hc; decide +kernel)]
    · rfl
  rcases (show k = 0 ∨ k = 1 ∨ k = 2 ∨ k = 3 ∨ k = 4 ∨ k = 5 by omega) with rfl | rfl | rfl | rfl | rfl | rfl
  · simp only [tellK]
  · simp only [tellK]
  · simp only [tellK, a2]
  · simp only [tellK, a1, a2, a3]
  · simp only [tellK]
  · simp only [tellK]
    cases hc : isL c with
    | false => simp only [Bool.false_and]
    | true => rw [a4 hc]
theorem m_byteI (l : Launch) (G : Gl) (σ V : Mm) (w i : Nat) (hV : vw σ 67 = V) (hv : wf V) (hw : w < 5) (hi : i < vS V w) : AMi l G 1 mX10_byteAt [.ref 66, .int (nI w), .int (nI i)] σ (fun r σ' => σ' = σ ∧ r = V 0 (50 * w + i)) :=
  (m_byteAt l G σ V w (nI i) hV hv hw).mono fun r σ' h => by
    have := wf_s50 hv hw
    rw [if_pos ⟨nI_pos' (by omega), nI_lt hi (by omega)⟩, nI_clamp (by omega)] at h
    exact h
theorem m_byteP (l : Launch) (G : Gl) (σ V : Mm) (w i : Nat) (hV : vw σ 67 = V) (hv : wf V) (hw : w < 5) (hi : i < vS V w) : AMi l G 1 mX10_byteAt [.ref 66, .int (nI w), .int (nI i - nI 1)] σ (fun r σ' => σ' = σ ∧ r = ahM V w i) :=
  (m_byteAt l G σ V w (nI i - nI 1) hV hv hw).mono fun r σ' h => by
    have := wf_s50 hv hw
    refine ⟨h.1, h.2.trans ?_⟩
    unfold ahM
    rcases Nat.eq_zero_or_pos i with e | e
    · subst e
      rw [if_pos rfl, if_neg (fun z => absurd z.1 (by decide +kernel))]
    · rw [pk_sub (show 1 ≤ i from e), if_pos ⟨nI_pos' (by omega), nI_lt (by omega) (by omega)⟩, nI_clamp (by omega), if_neg (by omega)]
theorem m_byteB (l : Launch) (G : Gl) (σ V : Mm) (w i : Nat) (hV : vw σ 67 = V) (hv : wf V) (hw : w < 5) (hi : i < vS V w) : AMi l G 1 mX10_byteAt [.ref 66, .int (nI w), .int (nI (i + 1))] σ (fun r σ' => σ' = σ ∧ r = bhM V w i) :=
  (m_byteAt l G σ V w (nI (i + 1)) hV hv hw).mono fun r σ' h => by
    have := wf_s50 hv hw
    refine ⟨h.1, h.2.trans ?_⟩
    unfold bhM
    by_cases e : i + 1 < vS V w
    · rw [if_pos e, if_pos ⟨nI_pos' (by omega), nI_lt e (by omega)⟩, nI_clamp (by omega)]
    · rw [if_neg e, if_neg (fun z => e ((nI_ltI (by omega) (by omega)).mp z.2))]
set_option maxRecDepth 20000 in
set_option maxHeartbeats 4000000 in
theorem m_asTold2a (l : Launch) (G : Gl) (σ : Mm) (V : Mm) (w i : Nat) (q : Bool) (hV : vw σ 67 = V) (hv : wf V) (hw : w < 5) (hi : i < vS V w) : AMi l G 2 mX10_asTold [.ref 66, .int (nI w), .int (nI i), .int (nI 2), .int (bz q)] σ (fun r σ' => σ' = σ ∧ r = tellK 2 (ahM V w i) (V 0 (50 * w + i)) (bhM V w i) q) := by
  refine rw_inI 10 (by decide +kernel) rfl rfl ?_
  intro E hE hX
  subst hE
  refine rw_go hX [(0, .aload_n 0), (1, .iload_n 1), (2, .iload_n 2)] (by decide +kernel) (Ps := []) (pc' := 3) (lv' := [(0, .ref 66), (1, .int (nI w)), (2, .int (nI i)), (3, .int (nI 2)), (4, .int (bz q))]) (st' := [.int (nI i), .int (nI w), .ref 66]) (σ' := σ) rfl True.intro ?_
  refine rw_callVi hX (as := [.int (nI w), .int (nI i)]) (rest := []) (m_byteI _ _ _ V w i hV hv hw hi) (by decide +kernel) mvX10_byteAt lk10_166 (ci := 9) rfl rfl rfl (by decide) (Nat.le_of_ble_eq_true rfl) rfl ?_
  intro r1 σ1 hr
  rw [hr.1, show r1 = V 0 (50 * w + i) from hr.2]
  clear hr σ1 r1
  refine rw_go hX [(6, .istore 5), (8, .iload 5)] (by decide +kernel) (Ps := []) (pc' := 10) (lv' := [(0, .ref 66), (1, .int (nI w)), (2, .int (nI i)), (3, .int (nI 2)), (4, .int (bz q)), (5, .int (V 0 (50 * w + i)))]) (st' := [.int (V 0 (50 * w + i))]) (σ' := σ) rfl True.intro ?_
  refine rw_callSi hX (as := [.int (V 0 (50 * w + i))]) (rest := []) (m_isLetter _ _ _ (V 0 (50 * w + i))) (by decide +kernel) msX10_isLetter (Or.inl lk10_151) rfl (by decide) (Nat.le_of_ble_eq_true rfl) rfl ?_
  intro r1 σ1 hr
  rw [hr.1, show r1 = bz (isL (V 0 (50 * w + i))) from hr.2]
  clear hr σ1 r1
  refine rw_go hX [(13, .istore 6), (15, .iload_n 3)] (by decide +kernel) (Ps := []) (pc' := 16) (lv' := [(0, .ref 66), (1, .int (nI w)), (2, .int (nI i)), (3, .int (nI 2)), (4, .int (bz q)), (5, .int (V 0 (50 * w + i))), (6, .int (bz (isL (V 0 (50 * w + i)))))]) (st' := [.int (nI 2)]) (σ' := σ) rfl True.intro ?_
  · skip
    refine rw_tabIn hX (tgt := 81) (df := 181) (lo := 0) (hi := 4) (offs := #[36, 48, 65, 104, 152]) (len := 36) (off := 65) (by decide +kernel) (by decide +kernel) (by decide +kernel) (by decide +kernel) (by decide) ?_
    refine rw_go hX [(81, .iload 6)] (by decide +kernel) (Ps := []) (pc' := 83) (lv' := [(0, .ref 66), (1, .int (nI w)), (2, .int (nI i)), (3, .int (nI 2)), (4, .int (bz q)), (5, .int (V 0 (50 * w + i))), (6, .int (bz (isL (V 0 (50 * w + i)))))]) (st' := [.int (bz (isL (V 0 (50 * w + i))))]) (σ' := σ) rfl True.intro ?_
    refine rw_if hX (tgt := 91) (cnd := .eq) (off := 8) (by decide +kernel) (by decide) (fun h83 => ?_) (fun h83 => ?_)
    · replace h83 := zb_eqT h83
      refine rw_go hX [(91, .iload 5)] (by decide +kernel) (Ps := []) (pc' := 93) (lv' := [(0, .ref 66), (1, .int (nI w)), (2, .int (nI i)), (3, .int (nI 2)), (4, .int (bz q)), (5, .int (V 0 (50 * w + i))), (6, .int (bz (isL (V 0 (50 * w + i)))))]) (st' := [.int (V 0 (50 * w + i))]) (σ' := σ) rfl True.intro ?_
      refine rw_callSi hX (as := [.int (V 0 (50 * w + i))]) (rest := []) (m_isDigit _ _ _ (V 0 (50 * w + i))) (by decide +kernel) msX10_isDigit (Or.inl lk10_154) rfl (by decide) (Nat.le_of_ble_eq_true rfl) rfl ?_
      intro r1 σ1 hr
      rw [hr.1, show r1 = bz (isD (V 0 (50 * w + i))) from hr.2]
      clear hr σ1 r1
      refine rw_if hX (tgt := 118) (cnd := .eq) (off := 22) (by decide +kernel) (by decide) (fun h96 => ?_) (fun h96 => ?_)
      · replace h96 := zb_eqT h96
        refine rw_go hX [(118, .iconst 0)] (by decide +kernel) (Ps := []) (pc' := 119) (lv' := [(0, .ref 66), (1, .int (nI w)), (2, .int (nI i)), (3, .int (nI 2)), (4, .int (bz q)), (5, .int (V 0 (50 * w + i))), (6, .int (bz (isL (V 0 (50 * w + i)))))]) (st' := [.int (nI 0)]) (σ' := σ) rfl True.intro ?_
        exact rw_iret hX (by decide +kernel) (⟨rfl, by simp only [tellK, h83, h96, Bool.not_true, Bool.not_false, Bool.and_true, Bool.true_and, Bool.and_false, Bool.false_and, decide_true, decide_false, Bool.false_eq_true, if_true, if_false] <;> rfl⟩)
      · replace h96 := zb_eqF h96
        refine rw_go hX [(99, .aload_n 0), (100, .iload_n 1), (101, .iload_n 2), (102, .iconst 1), (103, .isub)] (by decide +kernel) (Ps := []) (pc' := 104) (lv' := [(0, .ref 66), (1, .int (nI w)), (2, .int (nI i)), (3, .int (nI 2)), (4, .int (bz q)), (5, .int (V 0 (50 * w + i))), (6, .int (bz (isL (V 0 (50 * w + i)))))]) (st' := [.int (nI i - nI 1), .int (nI w), .ref 66]) (σ' := σ) rfl True.intro ?_
        refine rw_callVi hX (as := [.int (nI w), .int (nI i - nI 1)]) (rest := []) (m_byteP _ _ _ V w i hV hv hw hi) (by decide +kernel) mvX10_byteAt lk10_166 (ci := 9) rfl rfl rfl (by decide) (Nat.le_of_ble_eq_true rfl) rfl ?_
        intro r1 σ1 hr
        rw [hr.1, show r1 = ahM V w i from hr.2]
        clear hr σ1 r1
        refine rw_callSi hX (as := [.int (ahM V w i)]) (rest := []) (m_isDigit _ _ _ (ahM V w i)) (by decide +kernel) msX10_isDigit (Or.inl lk10_154) rfl (by decide) (Nat.le_of_ble_eq_true rfl) rfl ?_
        intro r1 σ1 hr
        rw [hr.1, show r1 = bz (isD (ahM V w i)) from hr.2]
        clear hr σ1 r1
        refine rw_if hX (tgt := 118) (cnd := .ne) (off := 8) (by decide +kernel) (by decide) (fun h110 => ?_) (fun h110 => ?_)
        · replace h110 := zb_neT h110
          refine rw_go hX [(118, .iconst 0)] (by decide +kernel) (Ps := []) (pc' := 119) (lv' := [(0, .ref 66), (1, .int (nI w)), (2, .int (nI i)), (3, .int (nI 2)), (4, .int (bz q)), (5, .int (V 0 (50 * w + i))), (6, .int (bz (isL (V 0 (50 * w + i)))))]) (st' := [.int (nI 0)]) (σ' := σ) rfl True.intro ?_
          exact rw_iret hX (by decide +kernel) (⟨rfl, by simp only [tellK, h83, h96, h110, Bool.not_true, Bool.not_false, Bool.and_true, Bool.true_and, Bool.and_false, Bool.false_and, decide_true, decide_false, Bool.false_eq_true, if_true, if_false] <;> rfl⟩)
        · replace h110 := zb_neF h110
          refine rw_go hX [(113, .bipush 35), (115, .goto 4)] (by decide +kernel) (Ps := []) (pc' := 119) (lv' := [(0, .ref 66), (1, .int (nI w)), (2, .int (nI i)), (3, .int (nI 2)), (4, .int (bz q)), (5, .int (V 0 (50 * w + i))), (6, .int (bz (isL (V 0 (50 * w + i)))))]) (st' := [.int (nI 35)]) (σ' := σ) rfl True.intro ?_
          exact rw_iret hX (by decide +kernel) (⟨rfl, by simp only [tellK, h83, h96, h110, Bool.not_true, Bool.not_false, Bool.and_true, Bool.true_and, Bool.and_false, Bool.false_and, decide_true, decide_false, Bool.false_eq_true, if_true, if_false] <;> rfl⟩)
    · replace h83 := zb_eqF h83
      refine rw_go hX [(86, .iload 5), (88, .goto 31)] (by decide +kernel) (Ps := []) (pc' := 119) (lv' := [(0, .ref 66), (1, .int (nI w)), (2, .int (nI i)), (3, .int (nI 2)), (4, .int (bz q)), (5, .int (V 0 (50 * w + i))), (6, .int (bz (isL (V 0 (50 * w + i)))))]) (st' := [.int (V 0 (50 * w + i))]) (σ' := σ) rfl True.intro ?_
      exact rw_iret hX (by decide +kernel) (⟨rfl, by simp only [tellK, h83, Bool.not_true, Bool.not_false, Bool.and_true, Bool.true_and, Bool.and_false, Bool.false_and, decide_true, decide_false, Bool.false_eq_true, if_true, if_false] <;> rfl⟩)
set_option maxRecDepth 20000 in
set_option maxHeartbeats 4000000 in
theorem m_asTold0 (l : Launch) (G : Gl) (σ : Mm) (V : Mm) (w i : Nat) (q : Bool) (hV : vw σ 67 = V) (hv : wf V) (hw : w < 5) (hi : i < vS V w) : AMi l G 3 mX10_asTold [.ref 66, .int (nI w), .int (nI i), .int (nI 0), .int (bz q)] σ (fun r σ' => σ' = σ ∧ r = tellK 0 (ahM V w i) (V 0 (50 * w + i)) (bhM V w i) q) := by
  refine rw_inI 10 (by decide +kernel) rfl rfl ?_
  intro E hE hX
  subst hE
  refine rw_go hX [(0, .aload_n 0), (1, .iload_n 1), (2, .iload_n 2)] (by decide +kernel) (Ps := []) (pc' := 3) (lv' := [(0, .ref 66), (1, .int (nI w)), (2, .int (nI i)), (3, .int (nI 0)), (4, .int (bz q))]) (st' := [.int (nI i), .int (nI w), .ref 66]) (σ' := σ) rfl True.intro ?_
  refine rw_callVi hX (as := [.int (nI w), .int (nI i)]) (rest := []) (m_byteI _ _ _ V w i hV hv hw hi) (by decide +kernel) mvX10_byteAt lk10_166 (ci := 9) rfl rfl rfl (by decide) (Nat.le_of_ble_eq_true rfl) rfl ?_
  intro r1 σ1 hr
  rw [hr.1, show r1 = V 0 (50 * w + i) from hr.2]
  clear hr σ1 r1
  refine rw_go hX [(6, .istore 5), (8, .iload 5)] (by decide +kernel) (Ps := []) (pc' := 10) (lv' := [(0, .ref 66), (1, .int (nI w)), (2, .int (nI i)), (3, .int (nI 0)), (4, .int (bz q)), (5, .int (V 0 (50 * w + i)))]) (st' := [.int (V 0 (50 * w + i))]) (σ' := σ) rfl True.intro ?_
  refine rw_callSi hX (as := [.int (V 0 (50 * w + i))]) (rest := []) (m_isLetter _ _ _ (V 0 (50 * w + i))) (by decide +kernel) msX10_isLetter (Or.inl lk10_151) rfl (by decide) (Nat.le_of_ble_eq_true rfl) rfl ?_
  intro r1 σ1 hr
  rw [hr.1, show r1 = bz (isL (V 0 (50 * w + i))) from hr.2]
  clear hr σ1 r1
  refine rw_go hX [(13, .istore 6), (15, .iload_n 3)] (by decide +kernel) (Ps := []) (pc' := 16) (lv' := [(0, .ref 66), (1, .int (nI w)), (2, .int (nI i)), (3, .int (nI 0)), (4, .int (bz q)), (5, .int (V 0 (50 * w + i))), (6, .int (bz (isL (V 0 (50 * w + i)))))]) (st' := [.int (nI 0)]) (σ' := σ) rfl True.intro ?_
  · skip
    refine rw_tabIn hX (tgt := 52) (df := 181) (lo := 0) (hi := 4) (offs := #[36, 48, 65, 104, 152]) (len := 36) (off := 36) (by decide +kernel) (by decide +kernel) (by decide +kernel) (by decide +kernel) (by decide) ?_
    refine rw_go hX [(52, .iload 6)] (by decide +kernel) (Ps := []) (pc' := 54) (lv' := [(0, .ref 66), (1, .int (nI w)), (2, .int (nI i)), (3, .int (nI 0)), (4, .int (bz q)), (5, .int (V 0 (50 * w + i))), (6, .int (bz (isL (V 0 (50 * w + i)))))]) (st' := [.int (bz (isL (V 0 (50 * w + i))))]) (σ' := σ) rfl True.intro ?_
    refine rw_if hX (tgt := 62) (cnd := .eq) (off := 8) (by decide +kernel) (by decide) (fun h54 => ?_) (fun h54 => ?_)
    · replace h54 := zb_eqT h54
      refine rw_go hX [(62, .iconst 0)] (by decide +kernel) (Ps := []) (pc' := 63) (lv' := [(0, .ref 66), (1, .int (nI w)), (2, .int (nI i)), (3, .int (nI 0)), (4, .int (bz q)), (5, .int (V 0 (50 * w + i))), (6, .int (bz (isL (V 0 (50 * w + i)))))]) (st' := [.int (nI 0)]) (σ' := σ) rfl True.intro ?_
      exact rw_iret hX (by decide +kernel) (⟨rfl, by simp only [tellK, h54, Bool.not_true, Bool.not_false, Bool.and_true, Bool.true_and, Bool.and_false, Bool.false_and, decide_true, decide_false, Bool.false_eq_true, if_true, if_false] <;> rfl⟩)
    · replace h54 := zb_eqF h54
      refine rw_go hX [(57, .iload 5), (59, .goto 4)] (by decide +kernel) (Ps := []) (pc' := 63) (lv' := [(0, .ref 66), (1, .int (nI w)), (2, .int (nI i)), (3, .int (nI 0)), (4, .int (bz q)), (5, .int (V 0 (50 * w + i))), (6, .int (bz (isL (V 0 (50 * w + i)))))]) (st' := [.int (V 0 (50 * w + i))]) (σ' := σ) rfl True.intro ?_
      exact rw_iret hX (by decide +kernel) (⟨rfl, by simp only [tellK, h54, Bool.not_true, Bool.not_false, Bool.and_true, Bool.true_and, Bool.and_false, Bool.false_and, decide_true, decide_false, Bool.false_eq_true, if_true, if_false] <;> rfl⟩)
set_option maxRecDepth 20000 in
set_option maxHeartbeats 4000000 in
theorem m_asTold1 (l : Launch) (G : Gl) (σ : Mm) (V : Mm) (w i : Nat) (q : Bool) (hV : vw σ 67 = V) (hv : wf V) (hw : w < 5) (hi : i < vS V w) : AMi l G 3 mX10_asTold [.ref 66, .int (nI w), .int (nI i), .int (nI 1), .int (bz q)] σ (fun r σ' => σ' = σ ∧ r = tellK 1 (ahM V w i) (V 0 (50 * w + i)) (bhM V w i) q) := by
  refine rw_inI 10 (by decide +kernel) rfl rfl ?_
  intro E hE hX
  subst hE
  refine rw_go hX [(0, .aload_n 0), (1, .iload_n 1), (2, .iload_n 2)] (by decide +kernel) (Ps := []) (pc' := 3) (lv' := [(0, .ref 66), (1, .int (nI w)), (2, .int (nI i)), (3, .int (nI 1)), (4, .int (bz q))]) (st' := [.int (nI i), .int (nI w), .ref 66]) (σ' := σ) rfl True.intro ?_
  refine rw_callVi hX (as := [.int (nI w), .int (nI i)]) (rest := []) (m_byteI _ _ _ V w i hV hv hw hi) (by decide +kernel) mvX10_byteAt lk10_166 (ci := 9) rfl rfl rfl (by decide) (Nat.le_of_ble_eq_true rfl) rfl ?_
  intro r1 σ1 hr
  rw [hr.1, show r1 = V 0 (50 * w + i) from hr.2]
  clear hr σ1 r1
  refine rw_go hX [(6, .istore 5), (8, .iload 5)] (by decide +kernel) (Ps := []) (pc' := 10) (lv' := [(0, .ref 66), (1, .int (nI w)), (2, .int (nI i)), (3, .int (nI 1)), (4, .int (bz q)), (5, .int (V 0 (50 * w + i)))]) (st' := [.int (V 0 (50 * w + i))]) (σ' := σ) rfl True.intro ?_
  refine rw_callSi hX (as := [.int (V 0 (50 * w + i))]) (rest := []) (m_isLetter _ _ _ (V 0 (50 * w + i))) (by decide +kernel) msX10_isLetter (Or.inl lk10_151) rfl (by decide) (Nat.le_of_ble_eq_true rfl) rfl ?_
  intro r1 σ1 hr
  rw [hr.1, show r1 = bz (isL (V 0 (50 * w + i))) from hr.2]
  clear hr σ1 r1
  refine rw_go hX [(13, .istore 6), (15, .iload_n 3)] (by decide +kernel) (Ps := []) (pc' := 16) (lv' := [(0, .ref 66), (1, .int (nI w)), (2, .int (nI i)), (3, .int (nI 1)), (4, .int (bz q)), (5, .int (V 0 (50 * w + i))), (6, .int (bz (isL (V 0 (50 * w + i)))))]) (st' := [.int (nI 1)]) (σ' := σ) rfl True.intro ?_
  · skip
    refine rw_tabIn hX (tgt := 64) (df := 181) (lo := 0) (hi := 4) (offs := #[36, 48, 65, 104, 152]) (len := 36) (off := 48) (by decide +kernel) (by decide +kernel) (by decide +kernel) (by decide +kernel) (by decide) ?_
    refine rw_go hX [(64, .iload 6)] (by decide +kernel) (Ps := []) (pc' := 66) (lv' := [(0, .ref 66), (1, .int (nI w)), (2, .int (nI i)), (3, .int (nI 1)), (4, .int (bz q)), (5, .int (V 0 (50 * w + i))), (6, .int (bz (isL (V 0 (50 * w + i)))))]) (st' := [.int (bz (isL (V 0 (50 * w + i))))]) (σ' := σ) rfl True.intro ?_
    refine rw_if hX (tgt := 79) (cnd := .eq) (off := 13) (by decide +kernel) (by decide) (fun h66 => ?_) (fun h66 => ?_)
    · replace h66 := zb_eqT h66
      refine rw_go hX [(79, .iconst 0)] (by decide +kernel) (Ps := []) (pc' := 80) (lv' := [(0, .ref 66), (1, .int (nI w)), (2, .int (nI i)), (3, .int (nI 1)), (4, .int (bz q)), (5, .int (V 0 (50 * w + i))), (6, .int (bz (isL (V 0 (50 * w + i)))))]) (st' := [.int (nI 0)]) (σ' := σ) rfl True.intro ?_
      exact rw_iret hX (by decide +kernel) (⟨rfl, by simp only [tellK, h66, Bool.not_true, Bool.not_false, Bool.and_true, Bool.true_and, Bool.and_false, Bool.false_and, decide_true, decide_false, Bool.false_eq_true, if_true, if_false] <;> rfl⟩)
    · replace h66 := zb_eqF h66
      refine rw_go hX [(69, .iload 4)] (by decide +kernel) (Ps := []) (pc' := 71) (lv' := [(0, .ref 66), (1, .int (nI w)), (2, .int (nI i)), (3, .int (nI 1)), (4, .int (bz q)), (5, .int (V 0 (50 * w + i))), (6, .int (bz (isL (V 0 (50 * w + i)))))]) (st' := [.int (bz q)]) (σ' := σ) rfl True.intro ?_
      refine rw_if hX (tgt := 79) (cnd := .ne) (off := 8) (by decide +kernel) (by decide) (fun h71 => ?_) (fun h71 => ?_)
      · replace h71 := zb_neT h71
        refine rw_go hX [(79, .iconst 0)] (by decide +kernel) (Ps := []) (pc' := 80) (lv' := [(0, .ref 66), (1, .int (nI w)), (2, .int (nI i)), (3, .int (nI 1)), (4, .int (bz q)), (5, .int (V 0 (50 * w + i))), (6, .int (bz (isL (V 0 (50 * w + i)))))]) (st' := [.int (nI 0)]) (σ' := σ) rfl True.intro ?_
        exact rw_iret hX (by decide +kernel) (⟨rfl, by simp only [tellK, h66, h71, Bool.not_true, Bool.not_false, Bool.and_true, Bool.true_and, Bool.and_false, Bool.false_and, decide_true, decide_false, Bool.false_eq_true, if_true, if_false] <;> rfl⟩)
      · replace h71 := zb_neF h71
        refine rw_go hX [(74, .iload 5), (76, .goto 4)] (by decide +kernel) (Ps := []) (pc' := 80) (lv' := [(0, .ref 66), (1, .int (nI w)), (2, .int (nI i)), (3, .int (nI 1)), (4, .int (bz q)), (5, .int (V 0 (50 * w + i))), (6, .int (bz (isL (V 0 (50 * w + i)))))]) (st' := [.int (V 0 (50 * w + i))]) (σ' := σ) rfl True.intro ?_
        exact rw_iret hX (by decide +kernel) (⟨rfl, by simp only [tellK, h66, h71, Bool.not_true, Bool.not_false, Bool.and_true, Bool.true_and, Bool.and_false, Bool.false_and, decide_true, decide_false, Bool.false_eq_true, if_true, if_false] <;> rfl⟩)
set_option maxRecDepth 20000 in
set_option maxHeartbeats 4000000 in
theorem m_asTold2 (l : Launch) (G : Gl) (σ : Mm) (V : Mm) (w i : Nat) (q : Bool) (hV : vw σ 67 = V) (hv : wf V) (hw : w < 5) (hi : i < vS V w) : AMi l G 3 mX10_asTold [.ref 66, .int (nI w), .int (nI i), .int (nI 2), .int (bz q)] σ (fun r σ' => σ' = σ ∧ r = tellK 2 (ahM V w i) (V 0 (50 * w + i)) (bhM V w i) q) := by
  refine rw_inI 10 (by decide +kernel) rfl rfl ?_
  intro E hE hX
  subst hE
  refine rw_go hX [(0, .aload_n 0), (1, .iload_n 1), (2, .iload_n 2)] (by decide +kernel) (Ps := []) (pc' := 3) (lv' := [(0, .ref 66), (1, .int (nI w)), (2, .int (nI i)), (3, .int (nI 2)), (4, .int (bz q))]) (st' := [.int (nI i), .int (nI w), .ref 66]) (σ' := σ) rfl True.intro ?_
  refine rw_callVi hX (as := [.int (nI w), .int (nI i)]) (rest := []) (m_byteI _ _ _ V w i hV hv hw hi) (by decide +kernel) mvX10_byteAt lk10_166 (ci := 9) rfl rfl rfl (by decide) (Nat.le_of_ble_eq_true rfl) rfl ?_
  intro r1 σ1 hr
  rw [hr.1, show r1 = V 0 (50 * w + i) from hr.2]
  clear hr σ1 r1
  refine rw_go hX [(6, .istore 5), (8, .iload 5)] (by decide +kernel) (Ps := []) (pc' := 10) (lv' := [(0, .ref 66), (1, .int (nI w)), (2, .int (nI i)), (3, .int (nI 2)), (4, .int (bz q)), (5, .int (V 0 (50 * w + i)))]) (st' := [.int (V 0 (50 * w + i))]) (σ' := σ) rfl True.intro ?_
  refine rw_callSi hX (as := [.int (V 0 (50 * w + i))]) (rest := []) (m_isLetter _ _ _ (V 0 (50 * w + i))) (by decide +kernel) msX10_isLetter (Or.inl lk10_151) rfl (by decide) (Nat.le_of_ble_eq_true rfl) rfl ?_
  intro r1 σ1 hr
  rw [hr.1, show r1 = bz (isL (V 0 (50 * w + i))) from hr.2]
  clear hr σ1 r1
  refine rw_go hX [(13, .istore 6), (15, .iload_n 3)] (by decide +kernel) (Ps := []) (pc' := 16) (lv' := [(0, .ref 66), (1, .int (nI w)), (2, .int (nI i)), (3, .int (nI 2)), (4, .int (bz q)), (5, .int (V 0 (50 * w + i))), (6, .int (bz (isL (V 0 (50 * w + i)))))]) (st' := [.int (nI 2)]) (σ' := σ) rfl True.intro ?_
  · skip
    refine rw_tabIn hX (tgt := 81) (df := 181) (lo := 0) (hi := 4) (offs := #[36, 48, 65, 104, 152]) (len := 36) (off := 65) (by decide +kernel) (by decide +kernel) (by decide +kernel) (by decide +kernel) (by decide) ?_
    refine rw_go hX [(81, .iload 6)] (by decide +kernel) (Ps := []) (pc' := 83) (lv' := [(0, .ref 66), (1, .int (nI w)), (2, .int (nI i)), (3, .int (nI 2)), (4, .int (bz q)), (5, .int (V 0 (50 * w + i))), (6, .int (bz (isL (V 0 (50 * w + i)))))]) (st' := [.int (bz (isL (V 0 (50 * w + i))))]) (σ' := σ) rfl True.intro ?_
    refine rw_if hX (tgt := 91) (cnd := .eq) (off := 8) (by decide +kernel) (by decide) (fun h83 => ?_) (fun h83 => ?_)
    · replace h83 := zb_eqT h83
      refine rw_go hX [(91, .iload 5)] (by decide +kernel) (Ps := []) (pc' := 93) (lv' := [(0, .ref 66), (1, .int (nI w)), (2, .int (nI i)), (3, .int (nI 2)), (4, .int (bz q)), (5, .int (V 0 (50 * w + i))), (6, .int (bz (isL (V 0 (50 * w + i)))))]) (st' := [.int (V 0 (50 * w + i))]) (σ' := σ) rfl True.intro ?_
      refine rw_callSi hX (as := [.int (V 0 (50 * w + i))]) (rest := []) (m_isDigit _ _ _ (V 0 (50 * w + i))) (by decide +kernel) msX10_isDigit (Or.inl lk10_154) rfl (by decide) (Nat.le_of_ble_eq_true rfl) rfl ?_
      intro r1 σ1 hr
      rw [hr.1, show r1 = bz (isD (V 0 (50 * w + i))) from hr.2]
      clear hr σ1 r1
      refine rw_if hX (tgt := 118) (cnd := .eq) (off := 22) (by decide +kernel) (by decide) (fun h96 => ?_) (fun h96 => ?_)
      · replace h96 := zb_eqT h96
        refine rw_go hX [(118, .iconst 0)] (by decide +kernel) (Ps := []) (pc' := 119) (lv' := [(0, .ref 66), (1, .int (nI w)), (2, .int (nI i)), (3, .int (nI 2)), (4, .int (bz q)), (5, .int (V 0 (50 * w + i))), (6, .int (bz (isL (V 0 (50 * w + i)))))]) (st' := [.int (nI 0)]) (σ' := σ) rfl True.intro ?_
        exact rw_iret hX (by decide +kernel) (⟨rfl, by simp only [tellK, h83, h96, Bool.not_true, Bool.not_false, Bool.and_true, Bool.true_and, Bool.and_false, Bool.false_and, decide_true, decide_false, Bool.false_eq_true, if_true, if_false] <;> rfl⟩)
      · replace h96 := zb_eqF h96
        refine rw_go hX [(99, .aload_n 0), (100, .iload_n 1), (101, .iload_n 2), (102, .iconst 1), (103, .isub)] (by decide +kernel) (Ps := []) (pc' := 104) (lv' := [(0, .ref 66), (1, .int (nI w)), (2, .int (nI i)), (3, .int (nI 2)), (4, .int (bz q)), (5, .int (V 0 (50 * w + i))), (6, .int (bz (isL (V 0 (50 * w + i)))))]) (st' := [.int (nI i - nI 1), .int (nI w), .ref 66]) (σ' := σ) rfl True.intro ?_
        refine rw_callVi hX (as := [.int (nI w), .int (nI i - nI 1)]) (rest := []) (m_byteP _ _ _ V w i hV hv hw hi) (by decide +kernel) mvX10_byteAt lk10_166 (ci := 9) rfl rfl rfl (by decide) (Nat.le_of_ble_eq_true rfl) rfl ?_
        intro r1 σ1 hr
        rw [hr.1, show r1 = ahM V w i from hr.2]
        clear hr σ1 r1
        refine rw_callSi hX (as := [.int (ahM V w i)]) (rest := []) (m_isDigit _ _ _ (ahM V w i)) (by decide +kernel) msX10_isDigit (Or.inl lk10_154) rfl (by decide) (Nat.le_of_ble_eq_true rfl) rfl ?_
        intro r1 σ1 hr
        rw [hr.1, show r1 = bz (isD (ahM V w i)) from hr.2]
        clear hr σ1 r1
        refine rw_if hX (tgt := 118) (cnd := .ne) (off := 8) (by decide +kernel) (by decide) (fun h110 => ?_) (fun h110 => ?_)
        · replace h110 := zb_neT h110
          refine rw_go hX [(118, .iconst 0)] (by decide +kernel) (Ps := []) (pc' := 119) (lv' := [(0, .ref 66), (1, .int (nI w)), (2, .int (nI i)), (3, .int (nI 2)), (4, .int (bz q)), (5, .int (V 0 (50 * w + i))), (6, .int (bz (isL (V 0 (50 * w + i)))))]) (st' := [.int (nI 0)]) (σ' := σ) rfl True.intro ?_
          exact rw_iret hX (by decide +kernel) (⟨rfl, by simp only [tellK, h83, h96, h110, Bool.not_true, Bool.not_false, Bool.and_true, Bool.true_and, Bool.and_false, Bool.false_and, decide_true, decide_false, Bool.false_eq_true, if_true, if_false] <;> rfl⟩)
        · replace h110 := zb_neF h110
          refine rw_go hX [(113, .bipush 35), (115, .goto 4)] (by decide +kernel) (Ps := []) (pc' := 119) (lv' := [(0, .ref 66), (1, .int (nI w)), (2, .int (nI i)), (3, .int (nI 2)), (4, .int (bz q)), (5, .int (V 0 (50 * w + i))), (6, .int (bz (isL (V 0 (50 * w + i)))))]) (st' := [.int (nI 35)]) (σ' := σ) rfl True.intro ?_
          exact rw_iret hX (by decide +kernel) (⟨rfl, by simp only [tellK, h83, h96, h110, Bool.not_true, Bool.not_false, Bool.and_true, Bool.true_and, Bool.and_false, Bool.false_and, decide_true, decide_false, Bool.false_eq_true, if_true, if_false] <;> rfl⟩)
    · replace h83 := zb_eqF h83
      refine rw_go hX [(86, .iload 5), (88, .goto 31)] (by decide +kernel) (Ps := []) (pc' := 119) (lv' := [(0, .ref 66), (1, .int (nI w)), (2, .int (nI i)), (3, .int (nI 2)), (4, .int (bz q)), (5, .int (V 0 (50 * w + i))), (6, .int (bz (isL (V 0 (50 * w + i)))))]) (st' := [.int (V 0 (50 * w + i))]) (σ' := σ) rfl True.intro ?_
      exact rw_iret hX (by decide +kernel) (⟨rfl, by simp only [tellK, h83, Bool.not_true, Bool.not_false, Bool.and_true, Bool.true_and, Bool.and_false, Bool.false_and, decide_true, decide_false, Bool.false_eq_true, if_true, if_false] <;> rfl⟩)
set_option maxRecDepth 20000 in
set_option maxHeartbeats 4000000 in
theorem m_asTold3 (l : Launch) (G : Gl) (σ : Mm) (V : Mm) (w i : Nat) (q : Bool) (hV : vw σ 67 = V) (hv : wf V) (hw : w < 5) (hi : i < vS V w) : AMi l G 3 mX10_asTold [.ref 66, .int (nI w), .int (nI i), .int (nI 3), .int (bz q)] σ (fun r σ' => σ' = σ ∧ r = tellK 3 (ahM V w i) (V 0 (50 * w + i)) (bhM V w i) q) := by
  refine rw_inI 10 (by decide +kernel) rfl rfl ?_
  intro E hE hX
  subst hE
  refine rw_go hX [(0, .aload_n 0), (1, .iload_n 1), (2, .iload_n 2)] (by decide +kernel) (Ps := []) (pc' := 3) (lv' := [(0, .ref 66), (1, .int (nI w)), (2, .int (nI i)), (3, .int (nI 3)), (4, .int (bz q))]) (st' := [.int (nI i), .int (nI w), .ref 66]) (σ' := σ) rfl True.intro ?_
  refine rw_callVi hX (as := [.int (nI w), .int (nI i)]) (rest := []) (m_byteI _ _ _ V w i hV hv hw hi) (by decide +kernel) mvX10_byteAt lk10_166 (ci := 9) rfl rfl rfl (by decide) (Nat.le_of_ble_eq_true rfl) rfl ?_
  intro r1 σ1 hr
  rw [hr.1, show r1 = V 0 (50 * w + i) from hr.2]
  clear hr σ1 r1
  refine rw_go hX [(6, .istore 5), (8, .iload 5)] (by decide +kernel) (Ps := []) (pc' := 10) (lv' := [(0, .ref 66), (1, .int (nI w)), (2, .int (nI i)), (3, .int (nI 3)), (4, .int (bz q)), (5, .int (V 0 (50 * w + i)))]) (st' := [.int (V 0 (50 * w + i))]) (σ' := σ) rfl True.intro ?_
  refine rw_callSi hX (as := [.int (V 0 (50 * w + i))]) (rest := []) (m_isLetter _ _ _ (V 0 (50 * w + i))) (by decide +kernel) msX10_isLetter (Or.inl lk10_151) rfl (by decide) (Nat.le_of_ble_eq_true rfl) rfl ?_
  intro r1 σ1 hr
  rw [hr.1, show r1 = bz (isL (V 0 (50 * w + i))) from hr.2]
  clear hr σ1 r1
  refine rw_go hX [(13, .istore 6), (15, .iload_n 3)] (by decide +kernel) (Ps := []) (pc' := 16) (lv' := [(0, .ref 66), (1, .int (nI w)), (2, .int (nI i)), (3, .int (nI 3)), (4, .int (bz q)), (5, .int (V 0 (50 * w + i))), (6, .int (bz (isL (V 0 (50 * w + i)))))]) (st' := [.int (nI 3)]) (σ' := σ) rfl True.intro ?_
  · skip
    refine rw_tabIn hX (tgt := 120) (df := 181) (lo := 0) (hi := 4) (offs := #[36, 48, 65, 104, 152]) (len := 36) (off := 104) (by decide +kernel) (by decide +kernel) (by decide +kernel) (by decide +kernel) (by decide) ?_
    refine rw_go hX [(120, .iload 6)] (by decide +kernel) (Ps := []) (pc' := 122) (lv' := [(0, .ref 66), (1, .int (nI w)), (2, .int (nI i)), (3, .int (nI 3)), (4, .int (bz q)), (5, .int (V 0 (50 * w + i))), (6, .int (bz (isL (V 0 (50 * w + i)))))]) (st' := [.int (bz (isL (V 0 (50 * w + i))))]) (σ' := σ) rfl True.intro ?_
    refine rw_if hX (tgt := 158) (cnd := .eq) (off := 36) (by decide +kernel) (by decide) (fun h122 => ?_) (fun h122 => ?_)
    · replace h122 := zb_eqT h122
      refine rw_go hX [(158, .aload_n 0), (159, .iload_n 1), (160, .iload_n 2), (161, .iconst 2), (162, .iload 4)] (by decide +kernel) (Ps := []) (pc' := 164) (lv' := [(0, .ref 66), (1, .int (nI w)), (2, .int (nI i)), (3, .int (nI 3)), (4, .int (bz q)), (5, .int (V 0 (50 * w + i))), (6, .int (bz (isL (V 0 (50 * w + i)))))]) (st' := [.int (bz q), .int (nI 2), .int (nI i), .int (nI w), .ref 66]) (σ' := σ) rfl True.intro ?_
      refine rw_callVi hX (as := [.int (nI w), .int (nI i), .int (nI 2), .int (bz q)]) (rest := []) (m_asTold2a _ _ _ V w i q hV hv hw hi) (by decide +kernel) mvX10_asTold lk10_170 (ci := 9) rfl rfl rfl (by decide) (Nat.le_of_ble_eq_true rfl) rfl ?_
      intro r1 σ1 hr
      rw [hr.1, show r1 = tellK 2 (ahM V w i) (V 0 (50 * w + i)) (bhM V w i) q from hr.2]
      clear hr σ1 r1
      exact rw_iret hX (by decide +kernel) (⟨rfl, by simp only [tellK, h122, Bool.not_true, Bool.not_false, Bool.and_true, Bool.true_and, Bool.and_false, Bool.false_and, decide_true, decide_false, Bool.false_eq_true, if_true, if_false] <;> rfl⟩)
    · replace h122 := zb_eqF h122
      refine rw_go hX [(125, .aload_n 0), (126, .iload_n 1), (127, .iload_n 2), (128, .iconst 1), (129, .isub)] (by decide +kernel) (Ps := []) (pc' := 130) (lv' := [(0, .ref 66), (1, .int (nI w)), (2, .int (nI i)), (3, .int (nI 3)), (4, .int (bz q)), (5, .int (V 0 (50 * w + i))), (6, .int (bz (isL (V 0 (50 * w + i)))))]) (st' := [.int (nI i - nI 1), .int (nI w), .ref 66]) (σ' := σ) rfl True.intro ?_
      refine rw_callVi hX (as := [.int (nI w), .int (nI i - nI 1)]) (rest := []) (m_byteP _ _ _ V w i hV hv hw hi) (by decide +kernel) mvX10_byteAt lk10_166 (ci := 9) rfl rfl rfl (by decide) (Nat.le_of_ble_eq_true rfl) rfl ?_
      intro r1 σ1 hr
      rw [hr.1, show r1 = ahM V w i from hr.2]
      clear hr σ1 r1
      refine rw_callSi hX (as := [.int (ahM V w i)]) (rest := []) (m_isLetter _ _ _ (ahM V w i)) (by decide +kernel) msX10_isLetter (Or.inl lk10_151) rfl (by decide) (Nat.le_of_ble_eq_true rfl) rfl ?_
      intro r1 σ1 hr
      rw [hr.1, show r1 = bz (isL (ahM V w i)) from hr.2]
      clear hr σ1 r1
      refine rw_if hX (tgt := 158) (cnd := .ne) (off := 22) (by decide +kernel) (by decide) (fun h136 => ?_) (fun h136 => ?_)
      · replace h136 := zb_neT h136
        refine rw_go hX [(158, .aload_n 0), (159, .iload_n 1), (160, .iload_n 2), (161, .iconst 2), (162, .iload 4)] (by decide +kernel) (Ps := []) (pc' := 164) (lv' := [(0, .ref 66), (1, .int (nI w)), (2, .int (nI i)), (3, .int (nI 3)), (4, .int (bz q)), (5, .int (V 0 (50 * w + i))), (6, .int (bz (isL (V 0 (50 * w + i)))))]) (st' := [.int (bz q), .int (nI 2), .int (nI i), .int (nI w), .ref 66]) (σ' := σ) rfl True.intro ?_
        refine rw_callVi hX (as := [.int (nI w), .int (nI i), .int (nI 2), .int (bz q)]) (rest := []) (m_asTold2a _ _ _ V w i q hV hv hw hi) (by decide +kernel) mvX10_asTold lk10_170 (ci := 9) rfl rfl rfl (by decide) (Nat.le_of_ble_eq_true rfl) rfl ?_
        intro r1 σ1 hr
        rw [hr.1, show r1 = tellK 2 (ahM V w i) (V 0 (50 * w + i)) (bhM V w i) q from hr.2]
        clear hr σ1 r1
        exact rw_iret hX (by decide +kernel) (⟨rfl, by simp only [tellK, h122, h136, Bool.not_true, Bool.not_false, Bool.and_true, Bool.true_and, Bool.and_false, Bool.false_and, decide_true, decide_false, Bool.false_eq_true, if_true, if_false] <;> rfl⟩)
      · replace h136 := zb_neF h136
        refine rw_go hX [(139, .aload_n 0), (140, .iload_n 1), (141, .iload_n 2), (142, .iconst 1), (143, .iadd)] (by decide +kernel) (Ps := []) (pc' := 144) (lv' := [(0, .ref 66), (1, .int (nI w)), (2, .int (nI i)), (3, .int (nI 3)), (4, .int (bz q)), (5, .int (V 0 (50 * w + i))), (6, .int (bz (isL (V 0 (50 * w + i)))))]) (st' := [.int (nI i + nI 1), .int (nI w), .ref 66]) (σ' := σ) rfl True.intro ?_
        rw [show (nI i + nI 1) = nI (i + 1) from nI_add _ _]
        refine rw_callVi hX (as := [.int (nI w), .int (nI (i + 1))]) (rest := []) (m_byteB _ _ _ V w i hV hv hw hi) (by decide +kernel) mvX10_byteAt lk10_166 (ci := 9) rfl rfl rfl (by decide) (Nat.le_of_ble_eq_true rfl) rfl ?_
        intro r1 σ1 hr
        rw [hr.1, show r1 = bhM V w i from hr.2]
        clear hr σ1 r1
        refine rw_callSi hX (as := [.int (bhM V w i)]) (rest := []) (m_isLetter _ _ _ (bhM V w i)) (by decide +kernel) msX10_isLetter (Or.inl lk10_151) rfl (by decide) (Nat.le_of_ble_eq_true rfl) rfl ?_
        intro r1 σ1 hr
        rw [hr.1, show r1 = bz (isL (bhM V w i)) from hr.2]
        clear hr σ1 r1
        refine rw_if hX (tgt := 158) (cnd := .ne) (off := 8) (by decide +kernel) (by decide) (fun h150 => ?_) (fun h150 => ?_)
        · replace h150 := zb_neT h150
          refine rw_go hX [(158, .aload_n 0), (159, .iload_n 1), (160, .iload_n 2), (161, .iconst 2), (162, .iload 4)] (by decide +kernel) (Ps := []) (pc' := 164) (lv' := [(0, .ref 66), (1, .int (nI w)), (2, .int (nI i)), (3, .int (nI 3)), (4, .int (bz q)), (5, .int (V 0 (50 * w + i))), (6, .int (bz (isL (V 0 (50 * w + i)))))]) (st' := [.int (bz q), .int (nI 2), .int (nI i), .int (nI w), .ref 66]) (σ' := σ) rfl True.intro ?_
          refine rw_callVi hX (as := [.int (nI w), .int (nI i), .int (nI 2), .int (bz q)]) (rest := []) (m_asTold2a _ _ _ V w i q hV hv hw hi) (by decide +kernel) mvX10_asTold lk10_170 (ci := 9) rfl rfl rfl (by decide) (Nat.le_of_ble_eq_true rfl) rfl ?_
          intro r1 σ1 hr
          rw [hr.1, show r1 = tellK 2 (ahM V w i) (V 0 (50 * w + i)) (bhM V w i) q from hr.2]
          clear hr σ1 r1
          exact rw_iret hX (by decide +kernel) (⟨rfl, by simp only [tellK, h122, h136, h150, Bool.not_true, Bool.not_false, Bool.and_true, Bool.true_and, Bool.and_false, Bool.false_and, decide_true, decide_false, Bool.false_eq_true, if_true, if_false] <;> rfl⟩)
        · replace h150 := zb_neF h150
          refine rw_go hX [(153, .bipush 118), (155, .goto 12)] (by decide +kernel) (Ps := []) (pc' := 167) (lv' := [(0, .ref 66), (1, .int (nI w)), (2, .int (nI i)), (3, .int (nI 3)), (4, .int (bz q)), (5, .int (V 0 (50 * w + i))), (6, .int (bz (isL (V 0 (50 * w + i)))))]) (st' := [.int (nI 118)]) (σ' := σ) rfl True.intro ?_
          exact rw_iret hX (by decide +kernel) (⟨rfl, by simp only [tellK, h122, h136, h150, Bool.not_true, Bool.not_false, Bool.and_true, Bool.true_and, Bool.and_false, Bool.false_and, decide_true, decide_false, Bool.false_eq_true, if_true, if_false] <;> rfl⟩)
set_option maxRecDepth 20000 in
set_option maxHeartbeats 4000000 in
theorem m_asTold4 (l : Launch) (G : Gl) (σ : Mm) (V : Mm) (w i : Nat) (q : Bool) (hV : vw σ 67 = V) (hv : wf V) (hw : w < 5) (hi : i < vS V w) : AMi l G 3 mX10_asTold [.ref 66, .int (nI w), .int (nI i), .int (nI 4), .int (bz q)] σ (fun r σ' => σ' = σ ∧ r = tellK 4 (ahM V w i) (V 0 (50 * w + i)) (bhM V w i) q) := by
  refine rw_inI 10 (by decide +kernel) rfl rfl ?_
  intro E hE hX
  subst hE
  refine rw_go hX [(0, .aload_n 0), (1, .iload_n 1), (2, .iload_n 2)] (by decide +kernel) (Ps := []) (pc' := 3) (lv' := [(0, .ref 66), (1, .int (nI w)), (2, .int (nI i)), (3, .int (nI 4)), (4, .int (bz q))]) (st' := [.int (nI i), .int (nI w), .ref 66]) (σ' := σ) rfl True.intro ?_
  refine rw_callVi hX (as := [.int (nI w), .int (nI i)]) (rest := []) (m_byteI _ _ _ V w i hV hv hw hi) (by decide +kernel) mvX10_byteAt lk10_166 (ci := 9) rfl rfl rfl (by decide) (Nat.le_of_ble_eq_true rfl) rfl ?_
  intro r1 σ1 hr
  rw [hr.1, show r1 = V 0 (50 * w + i) from hr.2]
  clear hr σ1 r1
  refine rw_go hX [(6, .istore 5), (8, .iload 5)] (by decide +kernel) (Ps := []) (pc' := 10) (lv' := [(0, .ref 66), (1, .int (nI w)), (2, .int (nI i)), (3, .int (nI 4)), (4, .int (bz q)), (5, .int (V 0 (50 * w + i)))]) (st' := [.int (V 0 (50 * w + i))]) (σ' := σ) rfl True.intro ?_
  refine rw_callSi hX (as := [.int (V 0 (50 * w + i))]) (rest := []) (m_isLetter _ _ _ (V 0 (50 * w + i))) (by decide +kernel) msX10_isLetter (Or.inl lk10_151) rfl (by decide) (Nat.le_of_ble_eq_true rfl) rfl ?_
  intro r1 σ1 hr
  rw [hr.1, show r1 = bz (isL (V 0 (50 * w + i))) from hr.2]
  clear hr σ1 r1
  refine rw_go hX [(13, .istore 6), (15, .iload_n 3)] (by decide +kernel) (Ps := []) (pc' := 16) (lv' := [(0, .ref 66), (1, .int (nI w)), (2, .int (nI i)), (3, .int (nI 4)), (4, .int (bz q)), (5, .int (V 0 (50 * w + i))), (6, .int (bz (isL (V 0 (50 * w + i)))))]) (st' := [.int (nI 4)]) (σ' := σ) rfl True.intro ?_
  · skip
    refine rw_tabIn hX (tgt := 168) (df := 181) (lo := 0) (hi := 4) (offs := #[36, 48, 65, 104, 152]) (len := 36) (off := 152) (by decide +kernel) (by decide +kernel) (by decide +kernel) (by decide +kernel) (by decide) ?_
    refine rw_go hX [(168, .iload 5), (170, .bipush 10)] (by decide +kernel) (Ps := []) (pc' := 172) (lv' := [(0, .ref 66), (1, .int (nI w)), (2, .int (nI i)), (3, .int (nI 4)), (4, .int (bz q)), (5, .int (V 0 (50 * w + i))), (6, .int (bz (isL (V 0 (50 * w + i)))))]) (st' := [.int (nI 10), .int (V 0 (50 * w + i))]) (σ' := σ) rfl True.intro ?_
    refine rw_icmp hX (tgt := 180) (cnd := .ne) (off := 8) (by decide +kernel) (by decide) (fun h172 => ?_) (fun h172 => ?_)
    · replace h172 : (V 0 (50 * w + i) ≠ nI 10) := h172
      refine rw_go hX [(180, .iload 6)] (by decide +kernel) (Ps := []) (pc' := 182) (lv' := [(0, .ref 66), (1, .int (nI w)), (2, .int (nI i)), (3, .int (nI 4)), (4, .int (bz q)), (5, .int (V 0 (50 * w + i))), (6, .int (bz (isL (V 0 (50 * w + i)))))]) (st' := [.int (bz (isL (V 0 (50 * w + i))))]) (σ' := σ) rfl True.intro ?_
      refine rw_if hX (tgt := 195) (cnd := .eq) (off := 13) (by decide +kernel) (by decide) (fun h182 => ?_) (fun h182 => ?_)
      · replace h182 := zb_eqT h182
        refine rw_go hX [(195, .iconst 0)] (by decide +kernel) (Ps := []) (pc' := 196) (lv' := [(0, .ref 66), (1, .int (nI w)), (2, .int (nI i)), (3, .int (nI 4)), (4, .int (bz q)), (5, .int (V 0 (50 * w + i))), (6, .int (bz (isL (V 0 (50 * w + i)))))]) (st' := [.int (nI 0)]) (σ' := σ) rfl True.intro ?_
        exact rw_iret hX (by decide +kernel) (⟨rfl, by simp only [tellK, eq_false h172, h182, Bool.not_true, Bool.not_false, Bool.and_true, Bool.true_and, Bool.and_false, Bool.false_and, decide_true, decide_false, Bool.false_eq_true, if_true, if_false] <;> rfl⟩)
      · replace h182 := zb_eqF h182
        refine rw_go hX [(185, .iload 4)] (by decide +kernel) (Ps := []) (pc' := 187) (lv' := [(0, .ref 66), (1, .int (nI w)), (2, .int (nI i)), (3, .int (nI 4)), (4, .int (bz q)), (5, .int (V 0 (50 * w + i))), (6, .int (bz (isL (V 0 (50 * w + i)))))]) (st' := [.int (bz q)]) (σ' := σ) rfl True.intro ?_
        refine rw_if hX (tgt := 195) (cnd := .ne) (off := 8) (by decide +kernel) (by decide) (fun h187 => ?_) (fun h187 => ?_)
        · replace h187 := zb_neT h187
          refine rw_go hX [(195, .iconst 0)] (by decide +kernel) (Ps := []) (pc' := 196) (lv' := [(0, .ref 66), (1, .int (nI w)), (2, .int (nI i)), (3, .int (nI 4)), (4, .int (bz q)), (5, .int (V 0 (50 * w + i))), (6, .int (bz (isL (V 0 (50 * w + i)))))]) (st' := [.int (nI 0)]) (σ' := σ) rfl True.intro ?_
          exact rw_iret hX (by decide +kernel) (⟨rfl, by simp only [tellK, eq_false h172, h182, h187, Bool.not_true, Bool.not_false, Bool.and_true, Bool.true_and, Bool.and_false, Bool.false_and, decide_true, decide_false, Bool.false_eq_true, if_true, if_false] <;> rfl⟩)
        · replace h187 := zb_neF h187
          refine rw_go hX [(190, .iload 5), (192, .goto 4)] (by decide +kernel) (Ps := []) (pc' := 196) (lv' := [(0, .ref 66), (1, .int (nI w)), (2, .int (nI i)), (3, .int (nI 4)), (4, .int (bz q)), (5, .int (V 0 (50 * w + i))), (6, .int (bz (isL (V 0 (50 * w + i)))))]) (st' := [.int (V 0 (50 * w + i))]) (σ' := σ) rfl True.intro ?_
          exact rw_iret hX (by decide +kernel) (⟨rfl, by simp only [tellK, eq_false h172, h182, h187, Bool.not_true, Bool.not_false, Bool.and_true, Bool.true_and, Bool.and_false, Bool.false_and, decide_true, decide_false, Bool.false_eq_true, if_true, if_false] <;> rfl⟩)
    · replace h172 : V 0 (50 * w + i) = nI 10 := Classical.not_not.mp h172
      refine rw_go hX [(175, .bipush 47), (177, .goto 19)] (by decide +kernel) (Ps := []) (pc' := 196) (lv' := [(0, .ref 66), (1, .int (nI w)), (2, .int (nI i)), (3, .int (nI 4)), (4, .int (bz q)), (5, .int (V 0 (50 * w + i))), (6, .int (bz (isL (V 0 (50 * w + i)))))]) (st' := [.int (nI 47)]) (σ' := σ) rfl True.intro ?_
      exact rw_iret hX (by decide +kernel) (⟨rfl, by simp only [tellK, eq_true h172, Bool.not_true, Bool.not_false, Bool.and_true, Bool.true_and, Bool.and_false, Bool.false_and, decide_true, decide_false, Bool.false_eq_true, if_true, if_false] <;> rfl⟩)
set_option maxRecDepth 20000 in
set_option maxHeartbeats 4000000 in
theorem m_asTold5 (l : Launch) (G : Gl) (σ : Mm) (V : Mm) (w i : Nat) (q : Bool) (hV : vw σ 67 = V) (hv : wf V) (hw : w < 5) (hi : i < vS V w) : AMi l G 3 mX10_asTold [.ref 66, .int (nI w), .int (nI i), .int (nI 5), .int (bz q)] σ (fun r σ' => σ' = σ ∧ r = tellK 5 (ahM V w i) (V 0 (50 * w + i)) (bhM V w i) q) := by
  refine rw_inI 10 (by decide +kernel) rfl rfl ?_
  intro E hE hX
  subst hE
  refine rw_go hX [(0, .aload_n 0), (1, .iload_n 1), (2, .iload_n 2)] (by decide +kernel) (Ps := []) (pc' := 3) (lv' := [(0, .ref 66), (1, .int (nI w)), (2, .int (nI i)), (3, .int (nI 5)), (4, .int (bz q))]) (st' := [.int (nI i), .int (nI w), .ref 66]) (σ' := σ) rfl True.intro ?_
  refine rw_callVi hX (as := [.int (nI w), .int (nI i)]) (rest := []) (m_byteI _ _ _ V w i hV hv hw hi) (by decide +kernel) mvX10_byteAt lk10_166 (ci := 9) rfl rfl rfl (by decide) (Nat.le_of_ble_eq_true rfl) rfl ?_
  intro r1 σ1 hr
  rw [hr.1, show r1 = V 0 (50 * w + i) from hr.2]
  clear hr σ1 r1
  refine rw_go hX [(6, .istore 5), (8, .iload 5)] (by decide +kernel) (Ps := []) (pc' := 10) (lv' := [(0, .ref 66), (1, .int (nI w)), (2, .int (nI i)), (3, .int (nI 5)), (4, .int (bz q)), (5, .int (V 0 (50 * w + i)))]) (st' := [.int (V 0 (50 * w + i))]) (σ' := σ) rfl True.intro ?_
  refine rw_callSi hX (as := [.int (V 0 (50 * w + i))]) (rest := []) (m_isLetter _ _ _ (V 0 (50 * w + i))) (by decide +kernel) msX10_isLetter (Or.inl lk10_151) rfl (by decide) (Nat.le_of_ble_eq_true rfl) rfl ?_
  intro r1 σ1 hr
  rw [hr.1, show r1 = bz (isL (V 0 (50 * w + i))) from hr.2]
  clear hr σ1 r1
  refine rw_go hX [(13, .istore 6), (15, .iload_n 3)] (by decide +kernel) (Ps := []) (pc' := 16) (lv' := [(0, .ref 66), (1, .int (nI w)), (2, .int (nI i)), (3, .int (nI 5)), (4, .int (bz q)), (5, .int (V 0 (50 * w + i))), (6, .int (bz (isL (V 0 (50 * w + i)))))]) (st' := [.int (nI 5)]) (σ' := σ) rfl True.intro ?_
  · skip
    refine rw_tabOut hX (tgt := 197) (df := 181) (lo := 0) (hi := 4) (offs := #[36, 48, 65, 104, 152]) (len := 36) (by decide +kernel) (Or.inr (by decide +kernel)) (by decide) ?_
    refine rw_go hX [(197, .iload 6)] (by decide +kernel) (Ps := []) (pc' := 199) (lv' := [(0, .ref 66), (1, .int (nI w)), (2, .int (nI i)), (3, .int (nI 5)), (4, .int (bz q)), (5, .int (V 0 (50 * w + i))), (6, .int (bz (isL (V 0 (50 * w + i)))))]) (st' := [.int (bz (isL (V 0 (50 * w + i))))]) (σ' := σ) rfl True.intro ?_
    refine rw_if hX (tgt := 225) (cnd := .eq) (off := 26) (by decide +kernel) (by decide) (fun h199 => ?_) (fun h199 => ?_)
    · replace h199 := zb_eqT h199
      refine rw_go hX [(225, .iconst 0)] (by decide +kernel) (Ps := []) (pc' := 226) (lv' := [(0, .ref 66), (1, .int (nI w)), (2, .int (nI i)), (3, .int (nI 5)), (4, .int (bz q)), (5, .int (V 0 (50 * w + i))), (6, .int (bz (isL (V 0 (50 * w + i)))))]) (st' := [.int (nI 0)]) (σ' := σ) rfl True.intro ?_
      exact rw_iret hX (by decide +kernel) (⟨rfl, by simp only [tellK, h199, Bool.not_true, Bool.not_false, Bool.and_true, Bool.true_and, Bool.and_false, Bool.false_and, decide_true, decide_false, Bool.false_eq_true, if_true, if_false] <;> rfl⟩)
    · replace h199 := zb_eqF h199
      refine rw_go hX [(202, .iload 4)] (by decide +kernel) (Ps := []) (pc' := 204) (lv' := [(0, .ref 66), (1, .int (nI w)), (2, .int (nI i)), (3, .int (nI 5)), (4, .int (bz q)), (5, .int (V 0 (50 * w + i))), (6, .int (bz (isL (V 0 (50 * w + i)))))]) (st' := [.int (bz q)]) (σ' := σ) rfl True.intro ?_
      refine rw_if hX (tgt := 225) (cnd := .ne) (off := 21) (by decide +kernel) (by decide) (fun h204 => ?_) (fun h204 => ?_)
      · replace h204 := zb_neT h204
        refine rw_go hX [(225, .iconst 0)] (by decide +kernel) (Ps := []) (pc' := 226) (lv' := [(0, .ref 66), (1, .int (nI w)), (2, .int (nI i)), (3, .int (nI 5)), (4, .int (bz q)), (5, .int (V 0 (50 * w + i))), (6, .int (bz (isL (V 0 (50 * w + i)))))]) (st' := [.int (nI 0)]) (σ' := σ) rfl True.intro ?_
        exact rw_iret hX (by decide +kernel) (⟨rfl, by simp only [tellK, h199, h204, Bool.not_true, Bool.not_false, Bool.and_true, Bool.true_and, Bool.and_false, Bool.false_and, decide_true, decide_false, Bool.false_eq_true, if_true, if_false] <;> rfl⟩)
      · replace h204 := zb_neF h204
        refine rw_go hX [(207, .iload 5), (209, .aload_n 0), (210, .iload_n 1), (211, .iload_n 2), (212, .iconst 1), (213, .isub)] (by decide +kernel) (Ps := []) (pc' := 214) (lv' := [(0, .ref 66), (1, .int (nI w)), (2, .int (nI i)), (3, .int (nI 5)), (4, .int (bz q)), (5, .int (V 0 (50 * w + i))), (6, .int (bz (isL (V 0 (50 * w + i)))))]) (st' := [.int (nI i - nI 1), .int (nI w), .ref 66, .int (V 0 (50 * w + i))]) (σ' := σ) rfl True.intro ?_
        refine rw_callVi hX (as := [.int (nI w), .int (nI i - nI 1)]) (rest := [.int (V 0 (50 * w + i))]) (m_byteP _ _ _ V w i hV hv hw hi) (by decide +kernel) mvX10_byteAt lk10_166 (ci := 9) rfl rfl rfl (by decide) (Nat.le_of_ble_eq_true rfl) rfl ?_
        intro r1 σ1 hr
        rw [hr.1, show r1 = ahM V w i from hr.2]
        clear hr σ1 r1
        refine rw_icmp hX (tgt := 225) (cnd := .eq) (off := 8) (by decide +kernel) (by decide) (fun h217 => ?_) (fun h217 => ?_)
        · replace h217 : (V 0 (50 * w + i) = ahM V w i) := h217
          have h217b : decide ((V 0 (50 * w + i)) ≠ ahM V w i) = false := decide_eq_false (fun z => z h217)
          refine rw_go hX [(225, .iconst 0)] (by decide +kernel) (Ps := []) (pc' := 226) (lv' := [(0, .ref 66), (1, .int (nI w)), (2, .int (nI i)), (3, .int (nI 5)), (4, .int (bz q)), (5, .int (V 0 (50 * w + i))), (6, .int (bz (isL (V 0 (50 * w + i)))))]) (st' := [.int (nI 0)]) (σ' := σ) rfl True.intro ?_
          exact rw_iret hX (by decide +kernel) (⟨rfl, by simp only [tellK, h199, h204, eq_true h217, h217b, Bool.not_true, Bool.not_false, Bool.and_true, Bool.true_and, Bool.and_false, Bool.false_and, decide_true, decide_false, Bool.false_eq_true, if_true, if_false] <;> rfl⟩)
        · replace h217 : ¬ (V 0 (50 * w + i) = ahM V w i) := h217
          have h217b : decide ((V 0 (50 * w + i)) ≠ ahM V w i) = true := decide_eq_true h217
          refine rw_go hX [(220, .iload 5), (222, .goto 4)] (by decide +kernel) (Ps := []) (pc' := 226) (lv' := [(0, .ref 66), (1, .int (nI w)), (2, .int (nI i)), (3, .int (nI 5)), (4, .int (bz q)), (5, .int (V 0 (50 * w + i))), (6, .int (bz (isL (V 0 (50 * w + i)))))]) (st' := [.int (V 0 (50 * w + i))]) (σ' := σ) rfl True.intro ?_
          exact rw_iret hX (by decide +kernel) (⟨rfl, by simp only [tellK, h199, h204, eq_false h217, h217b, Bool.not_true, Bool.not_false, Bool.and_true, Bool.true_and, Bool.and_false, Bool.false_and, decide_true, decide_false, Bool.false_eq_true, if_true, if_false] <;> rfl⟩)
theorem m_asTold (l : Launch) (G : Gl) (σ V : Mm) (w i k : Nat) (q : Bool) (hV : vw σ 67 = V) (hv : wf V) (hw : w < 5) (hi : i < vS V w) (hk : k < 6) : AMi l G 3 mX10_asTold [.ref 66, .int (nI w), .int (nI i), .int (nI k), .int (bz q)] σ (fun r σ' => σ' = σ ∧ r = tellK k (ahV V w i) (V 0 (50 * w + i)) (bhV V w i) q) := by
  rw [← tl_m hk]
  rcases (show k = 0 ∨ k = 1 ∨ k = 2 ∨ k = 3 ∨ k = 4 ∨ k = 5 by omega) with rfl | rfl | rfl | rfl | rfl | rfl
  · exact (m_asTold0 l G σ V w i q hV hv hw hi)
  · exact (m_asTold1 l G σ V w i q hV hv hw hi)
  · exact (m_asTold2 l G σ V w i q hV hv hw hi)
  · exact m_asTold3 l G σ V w i q hV hv hw hi
  · exact (m_asTold4 l G σ V w i q hV hv hw hi)
  · exact (m_asTold5 l G σ V w i q hV hv hw hi)
