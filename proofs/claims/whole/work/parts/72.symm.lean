/-! the matches of b and a are those of a and b, turned round; who is bound to whom, by either side -/
theorem CM_l {V : Mm} {p q : Nat} (h : lkP (LT V) (vR V 0) p q) : CM V p = CM V q := by
  have hw : ∀ v, hsW (gC V) (LT V) (vR V 0) 250 v p ↔ hsW (gC V) (LT V) (vR V 0) 250 v q := fun v => hsW_l h
  have e1 : WN V p = WN V q := cB_congr fun v _ => pz_c (hw v)
  unfold CM
  rw [e1, pz_c (hsB_c hw)]
theorem ac_s {V : Mm} {a b g h : Nat} (e : ac V a b g h = true) : ac V b a h g = true := by
  obtain ⟨h1, h2, h3, h4, h5, h6⟩ := ac_use e
  exact ac_t h2 h1 h5 (by rw [← CM_l (show lkP (LT V) (vR V 0) (50 * a + g) (50 * b + h) from h6)]; exact h4) h3 (lkP_s h6)
theorem ac_c (V : Mm) (a b g h : Nat) : ac V a b g h = ac V b a h g := by
  cases e : ac V a b g h with
  | true => exact (ac_s e).symm
  | false =>
    cases e2 : ac V b a h g with
    | false => rfl
    | true => rw [ac_s e2] at e; cases e
theorem rn_c (V : Mm) (a b i j : Nat) : rn V a b i j = rn V b a j i := by
  obtain ⟨r1, r2, r3⟩ := rn_spec V b a j i
  refine rl_eq (by omega) (fun s hs => (r2 s hs).symm) ?_
  rcases Nat.lt_or_ge (rn V b a j i) (min (lC V b - j) (lC V a - i)) with q | q
  · exact Or.inr fun z => r3 q z.symm
  · left; omega
theorem anP_c (V : Mm) (a b i j : Nat) : ∀ t, anP V a b i j t = anP V b a j i t
  | 0 => rfl
  | t + 1 => by rw [anP_1, anP_1, anP_c V a b i j t, ac_c]
theorem bgn_c (A B : Nat → Int32) (i j : Nat) : bgn A B i j = bgn B A j i := by
  unfold bgn
  rw [decide_eq_decide.mpr (show A (i - 1) ≠ B (j - 1) ↔ B (j - 1) ≠ A (i - 1) from ⟨fun h z => h z.symm, fun h z => h z.symm⟩)]
  cases decide (i = 0) <;> cases decide (j = 0) <;> rfl
theorem mc_c (V : Mm) (a b ls i j : Nat) : mc V a b ls i j = mc V b a ls j i := by
  unfold mc
  rw [rn_c V a b i j, anP_c V a b i j, bgn_c (LTr V a) (LTr V b) i j, decide_eq_decide.mpr (show LTr V a i = LTr V b j ↔ LTr V b j = LTr V a i from ⟨Eq.symm, Eq.symm⟩)]
theorem mLr_acc {V : Mm} {w v ls : Nat} {acc : Ml} {i : Nat} {q : Nat × (Nat × Nat)} (h : q ∈ acc) : ∀ j, q ∈ mLr V w v ls acc i j
  | 0 => h
  | j + 1 => by
    have ih := mLr_acc (V := V) (w := w) (v := v) (ls := ls) (i := i) h j
    rw [mLr_1]
    split
    · exact List.mem_append_left _ ih
    · exact ih
theorem mLr_mem {V : Mm} {w v ls : Nat} {acc : Ml} {i j : Nat} (h : mc V w v ls i j = true) : ∀ n, j < n → (i, j, rn V w v i j) ∈ mLr V w v ls acc i n
  | 0, hj => by omega
  | n + 1, hj => by
    rw [mLr_1]
    by_cases e : j = n
    · subst e
      rw [if_pos h]
      exact List.mem_append_right _ (List.mem_singleton.mpr rfl)
    · have ih := mLr_mem (acc := acc) h n (by omega)
      split
      · exact List.mem_append_left _ ih
      · exact ih
theorem mLa_mem {V : Mm} {w v ls i j : Nat} (hj : j < lC V v) (h : mc V w v ls i j = true) : ∀ n, i < n → (i, j, rn V w v i j) ∈ mLa V w v ls n
  | 0, hi => by omega
  | n + 1, hi => by
    rw [mLa_1]
    by_cases e : i = n
    · subst e; exact mLr_mem h _ hj
    · exact mLr_acc (mLa_mem hj h n (by omega)) _
theorem ML_turn {V : Mm} {a b ls : Nat} {q : Nat × (Nat × Nat)} (h : q ∈ ML V a b ls) : (q.2.1, q.1, q.2.2) ∈ ML V b a ls := by
  obtain ⟨h1, h2, h3, h4⟩ := ML_in h
  rw [h4, rn_c]
  rw [mc_c] at h3
  exact mLa_mem h1 h3 _ h2
theorem mem_at {L : Ml} {q : Nat × (Nat × Nat)} (h : q ∈ L) : ∃ x, x < L.length ∧ mB L x = q.1 ∧ mO L x = q.2.1 ∧ mG L x = q.2.2 := by
  obtain ⟨x, hx, e⟩ := List.getElem_of_mem h
  refine ⟨x, hx, ?_⟩
  have e2 : L.getD x (0, 0, 0) = q := by rw [List.getD_eq_getElem?_getD, List.getElem?_eq_getElem hx, ← e]; rfl
  unfold mB mO mG
  rw [e2]
  exact ⟨rfl, rfl, rfl⟩
theorem cv2_iff {f ln : Nat → Nat} {i : Nat} : ∀ {n : Nat}, cv2 f ln n i = true ↔ ∃ x, x < n ∧ f x ≤ i ∧ i < f x + ln x
  | 0 => ⟨(fun h => by cases h), fun ⟨x, h, _⟩ => by omega⟩
  | n + 1 => by
    have e : cv2 f ln (n + 1) i = (cv2 f ln n i || (decide (f n ≤ i) && decide (i < f n + ln n))) := rfl
    rw [e, Bool.or_eq_true, cv2_iff, Bool.and_eq_true, decide_eq_true_eq, decide_eq_true_eq]
    constructor
    · rintro (⟨x, h1, h2⟩ | h)
      · exact ⟨x, by omega, h2⟩
      · exact ⟨n, by omega, h⟩
    · rintro ⟨x, h1, h2⟩
      rcases Nat.lt_or_ge x n with q | q
      · exact Or.inl ⟨x, q, h2⟩
      · rw [show x = n by omega] at h2; exact Or.inr h2
theorem cO_c (V : Mm) (a b : Nat) : cO V a b = cL V b a := by
  have key : ∀ i, cv2 (mO (ML V a b (vR V 4))) (mG (ML V a b (vR V 4))) (ML V a b (vR V 4)).length i = true ↔ cv2 (mB (ML V b a (vR V 4))) (mG (ML V b a (vR V 4))) (ML V b a (vR V 4)).length i = true := by
    intro i
    rw [cv2_iff, cv2_iff]
    constructor
    · rintro ⟨x, h1, h2, h3⟩
      obtain ⟨y, g1, g2, g3, g4⟩ := mem_at (ML_turn (mB_in h1))
      dsimp only at g2 g3 g4
      exact ⟨y, g1, by omega, by omega⟩
    · rintro ⟨x, h1, h2, h3⟩
      obtain ⟨y, g1, g2, g3, g4⟩ := mem_at (ML_turn (mB_in h1))
      dsimp only at g2 g3 g4
      exact ⟨y, g1, by omega, by omega⟩
  unfold cO cL
  refine cB_congr fun i _ => ?_
  cases e1 : cv2 (mO (ML V a b (vR V 4))) (mG (ML V a b (vR V 4))) (ML V a b (vR V 4)).length i <;> cases e2 : cv2 (mB (ML V b a (vR V 4))) (mG (ML V b a (vR V 4))) (ML V b a (vR V 4)).length i
  · rfl
  · rw [(key i).mpr e2] at e1; cases e1
  · rw [(key i).mp e1] at e2; cases e2
  · rfl
noncomputable def hld (V : Mm) (a b : Nat) : Bool := enB V (cL V a b) a
theorem bd_hld {V : Mm} {a b : Nat} (h : a ≠ b) : bd V a b = (hld V a b || hld V b a) := by
  rcases Nat.lt_or_ge a b with q | q
  · rw [bd_lt q]
    unfold bdP hld
    rw [cO_c]
  · rw [bd_gt (show b < a by omega)]
    unfold bdP hld
    rw [cO_c, Bool.or_comm]
theorem hld_0 {V : Mm} {a b : Nat} (h : (ML V a b (vR V 4)) = []) : hld V a b = false := by
  unfold hld enB
  refine decide_eq_false fun z => ?_
  have : cL V a b = 0 := by
    unfold cL
    rw [h]
    exact cB_none fun _ _ => rfl
  omega
theorem ML_nil2 {V : Mm} {w v ls : Nat} (h : vS V w = 0) : ML V w v ls = [] := by
  have l : lC V w = 0 := by unfold lC; rw [h]; rfl
  unfold ML
  rw [l]
  rfl
theorem bd_0 {V : Mm} {a b : Nat} (h : vS V b = 0) : bd V a b = false := by
  by_cases e : a = b
  · subst e; exact bd_eq
  · rw [bd_hld e, hld_0 (ML_nil h), hld_0 (ML_nil2 h)]; rfl
