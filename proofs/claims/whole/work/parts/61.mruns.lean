/-! where runs begin, told from their anchors; the matches as the model lists them -/
def bk (A B : Nat → Int32) : Nat → Nat → Nat
  | 0, _ => 0
  | _ + 1, 0 => 0
  | g + 1, h + 1 => if A g = B h then bk A B g h + 1 else 0
theorem bk_0 (A B : Nat → Int32) (h : Nat) : bk A B 0 h = 0 := by unfold bk; rfl
theorem bk_00 (A B : Nat → Int32) (g : Nat) : bk A B g 0 = 0 := by cases g <;> (unfold bk; rfl)
theorem bk_1 (A B : Nat → Int32) (g h : Nat) : bk A B (g + 1) (h + 1) = if A g = B h then bk A B g h + 1 else 0 := by rw [bk]
theorem bk_le (A B : Nat → Int32) : ∀ g h, bk A B g h ≤ g ∧ bk A B g h ≤ h
  | 0, h => by rw [bk_0]; omega
  | g + 1, 0 => by rw [bk_00]; omega
  | g + 1, h + 1 => by
    have := bk_le A B g h
    rw [bk_1]
    split <;> omega
/-- back counted step by step -/
theorem bk_eq {A B : Nat → Int32} : ∀ {g h b : Nat}, b ≤ g → b ≤ h → (∀ t, t < b → A (g - 1 - t) = B (h - 1 - t)) → (b = g ∨ b = h ∨ A (g - 1 - b) ≠ B (h - 1 - b)) → bk A B g h = b
  | 0, h, b, h1, h2, h3, h4 => by rw [bk_0]; omega
  | g + 1, 0, b, h1, h2, h3, h4 => by rw [bk_00]; omega
  | g + 1, h + 1, 0, h1, h2, h3, h4 => by
    rw [bk_1, if_neg]
    rcases h4 with h4 | h4 | h4
    · omega
    · omega
    · simpa using h4
  | g + 1, h + 1, b + 1, h1, h2, h3, h4 => by
    have e0 := h3 0 (by omega)
    have a1 : ∀ t, t < b → A (g - 1 - t) = B (h - 1 - t) := fun t ht => by
      have := h3 (t + 1) (by omega)
      rw [show g - 1 - t = g + 1 - 1 - (t + 1) by omega, show h - 1 - t = h + 1 - 1 - (t + 1) by omega]; exact this
    have a2 : b = g ∨ b = h ∨ A (g - 1 - b) ≠ B (h - 1 - b) := by
      rcases h4 with h4 | h4 | h4
      · exact Or.inl (by omega)
      · exact Or.inr (Or.inl (by omega))
      · right; right
        rw [show g - 1 - b = g + 1 - 1 - (b + 1) by omega, show h - 1 - b = h + 1 - 1 - (b + 1) by omega]; exact h4
    rw [bk_1, if_pos (by simpa using e0), bk_eq (b := b) (by omega) (by omega) a1 a2]
theorem bk_run {A B : Nat → Int32} : ∀ {g h t : Nat}, t < bk A B g h → A (g - bk A B g h + t) = B (h - bk A B g h + t)
  | 0, h, t, ht => by rw [bk_0] at ht; omega
  | g + 1, 0, t, ht => by rw [bk_00] at ht; omega
  | g + 1, h + 1, t, ht => by
    have hl := bk_le A B g h
    by_cases e : A g = B h
    · have e1 : bk A B (g + 1) (h + 1) = bk A B g h + 1 := by rw [bk_1, if_pos e]
      rw [e1] at ht ⊢
      rw [show g + 1 - (bk A B g h + 1) = g - bk A B g h by omega, show h + 1 - (bk A B g h + 1) = h - bk A B g h by omega]
      rcases Nat.lt_or_ge t (bk A B g h) with q | q
      · exact bk_run q
      · rw [show g - bk A B g h + t = g by omega, show h - bk A B g h + t = h by omega]; exact e
    · rw [bk_1, if_neg e] at ht; omega
theorem bk_bgn {A B : Nat → Int32} : ∀ {g h : Nat}, bgn A B (g - bk A B g h) (h - bk A B g h) = true
  | 0, h => by rw [bk_0]; rfl
  | g + 1, 0 => by
    rw [bk_00]
    unfold bgn
    rw [decide_eq_true (show 0 - 0 = 0 from rfl), Bool.true_or, Bool.or_true]
  | g + 1, h + 1 => by
    have hl := bk_le A B g h
    by_cases e : A g = B h
    · have e1 : bk A B (g + 1) (h + 1) = bk A B g h + 1 := by rw [bk_1, if_pos e]
      rw [e1, show g + 1 - (bk A B g h + 1) = g - bk A B g h by omega, show h + 1 - (bk A B g h + 1) = h - bk A B g h by omega]
      exact bk_bgn
    · rw [bk_1, if_neg e]
      unfold bgn
      rw [show g + 1 - 0 - 1 = g by omega, show h + 1 - 0 - 1 = h by omega, decide_eq_true e, Bool.or_true, Bool.or_true]
theorem bk_at {A B : Nat → Int32} {i j : Nat} (hb : bgn A B i j = true) : ∀ {t : Nat}, (∀ s, s < t → A (i + s) = B (j + s)) → bk A B (i + t) (j + t) = t
  | 0, _ => by
    match i, j with
    | 0, j => exact bk_0 A B _
    | i + 1, 0 => exact bk_00 A B _
    | i + 1, j + 1 =>
      show bk A B (i + 1) (j + 1) = 0
      rw [bk_1, if_neg]
      unfold bgn at hb
      rw [decide_eq_false (by omega), decide_eq_false (by omega), Bool.false_or, Bool.false_or] at hb
      exact of_decide_eq_true hb
  | t + 1, h => by
    show bk A B ((i + t) + 1) ((j + t) + 1) = t + 1
    rw [bk_1, if_pos (h t (by omega)), bk_at hb (fun s hs => h s (by omega))]
/-- the place where the run of an anchor begins -/
def bp (V : Mm) (a b g h : Nat) : Nat := 50 * (g - bk (LTr V a) (LTr V b) g h) + (h - bk (LTr V a) (LTr V b) g h)
def bgs (V : Mm) (a b g0 h0 p : Nat) : Prop := ∃ g h, (g < g0 ∨ (g = g0 ∧ h < h0)) ∧ ac V a b g h = true ∧ p = bp V a b g h
theorem bgs_row {V : Mm} {a b g0 p : Nat} : bgs V a b g0 (gC V b) p ↔ bgs V a b (g0 + 1) 0 p := by
  constructor
  · rintro ⟨g, h, h1, h2, h3⟩
    exact ⟨g, h, by omega, h2, h3⟩
  · rintro ⟨g, h, h1, h2, h3⟩
    have := (ac_use h2).2.1
    exact ⟨g, h, by omega, h2, h3⟩
theorem bgs_0 {V : Mm} {a b p : Nat} : ¬ bgs V a b 0 0 p := by rintro ⟨g, h, h1, -⟩; omega
theorem bgs_n {V : Mm} {a b g h p : Nat} (e : ac V a b g h = false) : bgs V a b g (h + 1) p ↔ bgs V a b g h p := by
  constructor
  · rintro ⟨g', h', h1, h2, h3⟩
    refine ⟨g', h', ?_, h2, h3⟩
    rcases h1 with h1 | ⟨h1, h4⟩
    · exact Or.inl h1
    · rcases Nat.lt_or_ge h' h with q | q
      · exact Or.inr ⟨h1, q⟩
      · rw [h1, show h' = h by omega, e] at h2; cases h2
  · rintro ⟨g', h', h1, h2, h3⟩
    exact ⟨g', h', by omega, h2, h3⟩
theorem bgs_y {V : Mm} {a b g h p : Nat} (e : ac V a b g h = true) : bgs V a b g (h + 1) p ↔ (p = bp V a b g h ∨ bgs V a b g h p) := by
  constructor
  · rintro ⟨g', h', h1, h2, h3⟩
    rcases h1 with h1 | ⟨h1, h4⟩
    · exact Or.inr ⟨g', h', Or.inl h1, h2, h3⟩
    · rcases Nat.lt_or_ge h' h with q | q
      · exact Or.inr ⟨g', h', Or.inr ⟨h1, q⟩, h2, h3⟩
      · left; rw [h3, h1, show h' = h by omega]
  · rintro (h1 | ⟨g', h', h1, h2, h3⟩)
    · exact ⟨g, h, Or.inr ⟨rfl, by omega⟩, e, h1⟩
    · exact ⟨g', h', by omega, h2, h3⟩
noncomputable def mcb (V : Mm) (a b i j : Nat) : Bool := (decide (i < lC V a) && decide (j < lC V b)) && (decide (LTr V a i = LTr V b j) && (bgn (LTr V a) (LTr V b) i j && anP V a b i j (rn V a b i j)))
theorem mcb_mc {V : Mm} {a b ls i j : Nat} (hi : i < lC V a) (hj : j < lC V b) : mc V a b ls i j = (mcb V a b i j && decide (ls ≤ rn V a b i j)) := by
  unfold mcb mc
  rw [decide_eq_true hi, decide_eq_true hj, Bool.true_and, Bool.true_and, Bool.and_assoc, Bool.and_assoc]
theorem rn_spec (V : Mm) (a b i j : Nat) : rn V a b i j ≤ min (lC V a - i) (lC V b - j) ∧ (∀ s, s < rn V a b i j → LTr V a (i + s) = LTr V b (j + s)) ∧ (rn V a b i j < min (lC V a - i) (lC V b - j) → LTr V a (i + rn V a b i j) ≠ LTr V b (j + rn V a b i j)) :=
  ⟨rl_le _ _ _ _ _, (rl_spec _ _ _ _ _).1, (rl_spec _ _ _ _ _).2⟩
theorem ac_len {V : Mm} (hv : wf V) {a b g h : Nat} (ha : a < 5) (hb : b < 5) (e : ac V a b g h = true) : g + vR V 0 ≤ lC V a ∧ h + vR V 0 ≤ lC V b ∧ ∀ t, t < vR V 0 → LTr V a (g + t) = LTr V b (h + t) := by
  obtain ⟨h1, h2, -, -, -, h6⟩ := ac_use e
  have k1 := gC_50 hv ha
  have k2 := gC_50 hv hb
  refine ⟨by omega, by omega, fun t ht => ?_⟩
  have := (lkC_iff _ _ _ _).mp h6 t ht
  unfold LTr
  rw [← Nat.add_assoc, ← Nat.add_assoc]
  exact this
theorem bgs_iff {V : Mm} (hv : wf V) {a b i j : Nat} (ha : a < 5) (hb : b < 5) (hi : i < 50) (hj : j < 50) : bgs V a b (gC V a) 0 (50 * i + j) ↔ mcb V a b i j = true := by
  have l1 := lC_50 hv ha
  have l2 := lC_50 hv hb
  have hK := wf_K hv
  constructor
  · rintro ⟨g, h, -, h2, h3⟩
    obtain ⟨q1, q2, q3⟩ := ac_len hv ha hb h2
    have hl := bk_le (LTr V a) (LTr V b) g h
    unfold bp at h3
    have ei : i = g - bk (LTr V a) (LTr V b) g h := by omega
    have ej : j = h - bk (LTr V a) (LTr V b) g h := by omega
    have run : ∀ t, t < bk (LTr V a) (LTr V b) g h + vR V 0 → LTr V a (i + t) = LTr V b (j + t) := fun t ht => by
      rcases Nat.lt_or_ge t (bk (LTr V a) (LTr V b) g h) with q | q
      · rw [ei, ej]; exact bk_run q
      · have := q3 (t - bk (LTr V a) (LTr V b) g h) (by omega)
        rw [show g + (t - bk (LTr V a) (LTr V b) g h) = i + t by omega, show h + (t - bk (LTr V a) (LTr V b) g h) = j + t by omega] at this
        exact this
    obtain ⟨r1, r2, r3⟩ := rn_spec V a b i j
    have hr : bk (LTr V a) (LTr V b) g h + vR V 0 ≤ rn V a b i j := by
      rcases Nat.lt_or_ge (rn V a b i j) (bk (LTr V a) (LTr V b) g h + vR V 0) with q | q
      · exact absurd (run _ q) (r3 (by omega))
      · exact q
    unfold mcb
    have e0 := run 0 (by omega)
    rw [Nat.add_zero, Nat.add_zero] at e0
    have eb : bgn (LTr V a) (LTr V b) i j = true := by rw [ei, ej]; exact bk_bgn
    have ea : anP V a b i j (rn V a b i j) = true := (anP_iff V a b i j _).mpr ⟨bk (LTr V a) (LTr V b) g h, by omega, by rw [show i + bk (LTr V a) (LTr V b) g h = g by omega, show j + bk (LTr V a) (LTr V b) g h = h by omega]; exact h2⟩
    rw [decide_eq_true (show i < lC V a by omega), decide_eq_true (show j < lC V b by omega), decide_eq_true e0, eb, ea]
    rfl
  · intro e
    unfold mcb at e
    simp only [Bool.and_eq_true, decide_eq_true_eq] at e
    obtain ⟨⟨e1, e2⟩, e3, e4, e5⟩ := e
    obtain ⟨t, ht, hac⟩ := (anP_iff V a b i j _).mp e5
    obtain ⟨r1, r2, r3⟩ := rn_spec V a b i j
    have hb9 := bk_at e4 (t := t) (fun s hs => r2 s (by omega))
    refine ⟨i + t, j + t, Or.inl (ac_use hac).1, hac, ?_⟩
    unfold bp
    rw [hb9]
    omega
/-- the model's list behind k places -/
noncomputable def mLk (V : Mm) (a b ls : Nat) : Nat → Ml
  | 0 => []
  | k + 1 => if mcb V a b (k / 50) (k % 50) = true ∧ ls ≤ rn V a b (k / 50) (k % 50) then mLk V a b ls k ++ [(k / 50, k % 50, rn V a b (k / 50) (k % 50))] else mLk V a b ls k
theorem mLk_y {V : Mm} {a b ls k : Nat} (h : mcb V a b (k / 50) (k % 50) = true) (g : ls ≤ rn V a b (k / 50) (k % 50)) : mLk V a b ls (k + 1) = mLk V a b ls k ++ [(k / 50, k % 50, rn V a b (k / 50) (k % 50))] := if_pos ⟨h, g⟩
theorem mLk_n {V : Mm} {a b ls k : Nat} (h : ¬ (mcb V a b (k / 50) (k % 50) = true ∧ ls ≤ rn V a b (k / 50) (k % 50))) : mLk V a b ls (k + 1) = mLk V a b ls k := if_neg h
theorem mLk_row {V : Mm} {a b ls i : Nat} (hi : i < lC V a) : ∀ j, j ≤ lC V b → j ≤ 50 → mLk V a b ls (50 * i + j) = mLr V a b ls (mLk V a b ls (50 * i)) i j
  | 0, _, _ => rfl
  | j + 1, hj, h50 => by
    have ih := mLk_row (V := V) (a := a) (b := b) (ls := ls) hi j (by omega) (by omega)
    have d1 : (50 * i + j) / 50 = i := by omega
    have d2 : (50 * i + j) % 50 = j := by omega
    rw [mLr_1, ← ih, mcb_mc hi (show j < lC V b by omega)]
    show mLk V a b ls ((50 * i + j) + 1) = _
    by_cases q : mcb V a b i j = true ∧ ls ≤ rn V a b i j
    · rw [mLk_y (by rw [d1, d2]; exact q.1) (by rw [d1, d2]; exact q.2), if_pos (by rw [q.1, decide_eq_true q.2]; rfl), d1, d2]
    · rw [mLk_n (by rw [d1, d2]; exact q), if_neg (fun z => q (by rw [Bool.and_eq_true, decide_eq_true_eq] at z; exact z))]
theorem mLk_rest {V : Mm} {a b ls i : Nat} : ∀ d j, j + d ≤ 50 → (lC V a ≤ i ∨ lC V b ≤ j) → mLk V a b ls (50 * i + (j + d)) = mLk V a b ls (50 * i + j)
  | 0, _, _, _ => rfl
  | d + 1, j, h, g => by
    have d1 : (50 * i + (j + d)) / 50 = i := by omega
    have d2 : (50 * i + (j + d)) % 50 = j + d := by omega
    show mLk V a b ls ((50 * i + (j + d)) + 1) = _
    rw [mLk_n ?_, mLk_rest d j (by omega) g]
    rw [d1, d2]
    rintro ⟨z, -⟩
    unfold mcb at z
    simp only [Bool.and_eq_true, decide_eq_true_eq] at z
    omega
theorem mLk_a {V : Mm} (hv : wf V) {a b : Nat} (ls : Nat) (ha : a < 5) (hb : b < 5) : ∀ i, i ≤ 50 → mLk V a b ls (50 * i) = mLa V a b ls (min i (lC V a))
  | 0, _ => by rw [Nat.zero_min]; rfl
  | i + 1, hi => by
    have l2 := lC_50 hv hb
    have ih := mLk_a hv ls ha hb i (by omega)
    rcases Nat.lt_or_ge i (lC V a) with q | q
    · have r := mLk_rest (V := V) (a := a) (b := b) (ls := ls) (i := i) (50 - lC V b) (lC V b) (by omega) (Or.inr (Nat.le_refl _))
      rw [show 50 * i + (lC V b + (50 - lC V b)) = 50 * (i + 1) by omega, mLk_row q _ (Nat.le_refl _) l2, ih, show min i (lC V a) = i by omega] at r
      rw [r, show min (i + 1) (lC V a) = i + 1 by omega, mLa_1]
    · have r := mLk_rest (V := V) (a := a) (b := b) (ls := ls) (i := i) 50 0 (by omega) (Or.inl q)
      rw [show 50 * i + (0 + 50) = 50 * (i + 1) by omega, show 50 * i + 0 = 50 * i by omega] at r
      rw [r, ih, show min i (lC V a) = lC V a by omega, show min (i + 1) (lC V a) = lC V a by omega]
theorem mLk_ML {V : Mm} (hv : wf V) {a b : Nat} (ls : Nat) (ha : a < 5) (hb : b < 5) : mLk V a b ls 2500 = ML V a b ls := by
  have l1 := lC_50 hv ha
  have := mLk_a hv ls ha hb 50 (Nat.le_refl _)
  rw [show 50 * 50 = 2500 from rfl, show min 50 (lC V a) = lC V a by omega] at this
  exact this
theorem mLk_len {V : Mm} {a b ls : Nat} : ∀ d k, (mLk V a b ls k).length ≤ (mLk V a b ls (k + d)).length
  | 0, _ => Nat.le_refl _
  | d + 1, k => by
    have := mLk_len (V := V) (a := a) (b := b) (ls := ls) d k
    refine Nat.le_trans this ?_
    show _ ≤ (mLk V a b ls ((k + d) + 1)).length
    by_cases q : mcb V a b ((k + d) / 50) ((k + d) % 50) = true ∧ ls ≤ rn V a b ((k + d) / 50) ((k + d) % 50)
    · rw [mLk_y q.1 q.2, List.length_append]; omega
    · rw [mLk_n q]; exact Nat.le_refl _
theorem mLk_833 {V : Mm} (hv : wf V) {a b : Nat} (ls : Nat) (ha : a < 5) (hb : b < 5) {k : Nat} (hk : k ≤ 2500) : (mLk V a b ls k).length ≤ 833 := by
  have := mLk_len (V := V) (a := a) (b := b) (ls := ls) (2500 - k) k
  rw [show k + (2500 - k) = 2500 by omega, mLk_ML hv ls ha hb] at this
  exact Nat.le_trans this (mLa_833 hv ls ha hb _ (Nat.le_refl _))
/-- the model's rows of matches -/
def MTm (L : Ml) (σ : Mm) : Prop := σ 66 20 = nI L.length ∧ ∀ x, x < L.length → σ 83 x = nI (mB L x) ∧ σ 84 x = nI (mO L x) ∧ σ 85 x = nI (mG L x)
theorem getD_app {L : Ml} {q : Nat × (Nat × Nat)} {x : Nat} (h : x < L.length) : (L ++ [q]).getD x (0, 0, 0) = L.getD x (0, 0, 0) := by
  rw [List.getD_eq_getElem?_getD, List.getD_eq_getElem?_getD, List.getElem?_append_left h]
theorem getD_end {L : Ml} {q : Nat × (Nat × Nat)} : (L ++ [q]).getD L.length (0, 0, 0) = q := by
  rw [List.getD_eq_getElem?_getD, List.getElem?_append_right (Nat.le_refl _), Nat.sub_self]
  rfl
theorem MTm_push {L : Ml} {σ : Mm} (h : MTm L σ) (i j n : Nat) : MTm (L ++ [(i, j, n)]) (sw (sw (sw (sw σ 83 L.length (nI i)) 84 L.length (nI j)) 85 L.length (nI n)) 66 20 (nI (L.length + 1))) := by
  refine ⟨?_, fun x hx => ?_⟩
  · rw [sw_eq, List.length_append]; rfl
  · rw [List.length_append] at hx
    have hx : x < L.length + 1 := hx
    by_cases q : x = L.length
    · subst q
      unfold mB mO mG
      rw [getD_end]
      refine ⟨?_, ?_, ?_⟩
      · rw [sw_ne _ _ _ (by decide), sw_ne _ _ _ (by decide), sw_ne _ _ _ (by decide), sw_eq]
      · rw [sw_ne _ _ _ (by decide), sw_ne _ _ _ (by decide), sw_eq]
      · rw [sw_ne _ _ _ (by decide), sw_eq]
    · obtain ⟨a, b, c⟩ := h.2 x (by omega)
      unfold mB mO mG at *
      rw [getD_app (by omega)]
      refine ⟨?_, ?_, ?_⟩
      · rw [sw_ne _ _ _ (by decide), sw_ne _ _ _ (by decide), sw_ne _ _ _ (by decide), sw_o q]; exact a
      · rw [sw_ne _ _ _ (by decide), sw_ne _ _ _ (by decide), sw_o q, sw_ne _ _ _ (by decide)]; exact b
      · rw [sw_ne _ _ _ (by decide), sw_o q, sw_ne _ _ _ (by decide), sw_ne _ _ _ (by decide)]; exact c
