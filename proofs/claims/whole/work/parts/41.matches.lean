/-! matches, told by the view alone -/
noncomputable def WN (V : Mm) (p : Nat) : Nat := nW (gC V) (LT V) (vR V 0) 250 p
noncomputable def CM (V : Mm) (p : Nat) : Bool := decide (nI (WN V p) ≥ V 4 2) || pz (hsB (gC V) (LT V) (vR V 0) 250 (V 4 3) p)
def LTr (V : Mm) (w : Nat) : Nat → Int32 := fun i => LT V (50 * w + i)
noncomputable def ac (V : Mm) (w v g h : Nat) : Bool := (decide (g < gC V w) && (PR V (50 * w + g) && !CM V (50 * w + g))) && ((decide (h < gC V v) && PR V (50 * v + h)) && lkC (LT V) (50 * w + g) (50 * v + h) (vR V 0))
def rn (V : Mm) (w v i j : Nat) : Nat := rl (LTr V w) (LTr V v) (min (lC V w - i) (lC V v - j)) i j
noncomputable def anP (V : Mm) (w v i j : Nat) : Nat → Bool
  | 0 => false
  | t + 1 => anP V w v i j t || ac V w v (i + t) (j + t)
noncomputable def mc (V : Mm) (w v ls i j : Nat) : Bool := decide (LTr V w i = LTr V v j) && (bgn (LTr V w) (LTr V v) i j && (anP V w v i j (rn V w v i j) && decide (ls ≤ rn V w v i j)))
noncomputable def mLr (V : Mm) (w v ls : Nat) (acc : Ml) (i : Nat) : Nat → Ml
  | 0 => acc
  | j + 1 => if mc V w v ls i j = true then mLr V w v ls acc i j ++ [(i, j, rn V w v i j)] else mLr V w v ls acc i j
noncomputable def mLa (V : Mm) (w v ls : Nat) : Nat → Ml
  | 0 => []
  | i + 1 => mLr V w v ls (mLa V w v ls i) i (lC V v)
noncomputable def ML (V : Mm) (w v ls : Nat) : Ml := mLa V w v ls (lC V w)
theorem anP_1 (V : Mm) (w v i j t : Nat) : anP V w v i j (t + 1) = (anP V w v i j t || ac V w v (i + t) (j + t)) := rfl
theorem mLr_1 (V : Mm) (w v ls : Nat) (acc : Ml) (i j : Nat) : mLr V w v ls acc i (j + 1) = if mc V w v ls i j = true then mLr V w v ls acc i j ++ [(i, j, rn V w v i j)] else mLr V w v ls acc i j := rfl
theorem mLa_1 (V : Mm) (w v ls i : Nat) : mLa V w v ls (i + 1) = mLr V w v ls (mLa V w v ls i) i (lC V v) := rfl
theorem rl_spec (A B : Nat → Int32) : ∀ r i j, (∀ s, s < rl A B r i j → A (i + s) = B (j + s)) ∧ (rl A B r i j < r → A (i + rl A B r i j) ≠ B (j + rl A B r i j))
  | 0, i, j => ⟨fun s hs => by simp only [rl] at hs; omega, fun h => by omega⟩
  | r + 1, i, j => by
    obtain ⟨h1, h2⟩ := rl_spec A B r (i + 1) (j + 1)
    by_cases e : A i = B j
    · have e2 : rl A B (r + 1) i j = rl A B r (i + 1) (j + 1) + 1 := by simp only [rl]; rw [if_pos e]
      rw [e2]
      refine ⟨fun s hs => ?_, fun h => ?_⟩
      · match s with
        | 0 => exact e
        | s + 1 =>
          have := h1 s (by omega)
          rw [show i + (s + 1) = i + 1 + s by omega, show j + (s + 1) = j + 1 + s by omega]; exact this
      · have := h2 (by omega)
        rw [show i + (rl A B r (i + 1) (j + 1) + 1) = i + 1 + rl A B r (i + 1) (j + 1) by omega, show j + (rl A B r (i + 1) (j + 1) + 1) = j + 1 + rl A B r (i + 1) (j + 1) by omega]; exact this
    · have e2 : rl A B (r + 1) i j = 0 := by simp only [rl]; rw [if_neg e]
      rw [e2]
      exact ⟨fun s hs => by omega, fun _ => e⟩
theorem rl_e {A B A' B' : Nat → Int32} {r i j : Nat} (h : ∀ s, s < r → A (i + s) = A' (i + s) ∧ B (j + s) = B' (j + s)) : rl A B r i j = rl A' B' r i j := by
  obtain ⟨h1, h2⟩ := rl_spec A' B' r i j
  have h3 := rl_le A' B' r i j
  refine rl_eq h3 (fun s hs => ?_) ?_
  · rw [(h s (by omega)).1, (h s (by omega)).2]; exact h1 s hs
  · rcases Nat.lt_or_ge (rl A' B' r i j) r with g | g
    · right
      rw [(h _ g).1, (h _ g).2]
      exact h2 g
    · left; omega
theorem anP_iff (V : Mm) (w v i j : Nat) : ∀ t, anP V w v i j t = true ↔ ∃ s, s < t ∧ ac V w v (i + s) (j + s) = true
  | 0 => by simp [anP]
  | t + 1 => by
    rw [anP_1, Bool.or_eq_true, anP_iff V w v i j t]
    constructor
    · rintro (⟨s, h1, h2⟩ | h)
      · exact ⟨s, by omega, h2⟩
      · exact ⟨t, by omega, h⟩
    · rintro ⟨s, h1, h2⟩
      rcases Nat.lt_or_ge s t with g | g
      · exact Or.inl ⟨s, g, h2⟩
      · rw [show s = t by omega] at h2; exact Or.inr h2
theorem ac_use {V : Mm} {w v g h : Nat} (e : ac V w v g h = true) : g < gC V w ∧ h < gC V v ∧ PR V (50 * w + g) = true ∧ CM V (50 * w + g) = false ∧ PR V (50 * v + h) = true ∧ lkC (LT V) (50 * w + g) (50 * v + h) (vR V 0) = true := by
  unfold ac at e
  simp only [Bool.and_eq_true, decide_eq_true_eq, Bool.not_eq_true'] at e
  exact ⟨e.1.1, e.2.1.1, e.1.2.1, e.1.2.2, e.2.1.2, e.2.2⟩
theorem mc_run {V : Mm} (hv : wf V) {w v ls i j : Nat} (hw : w < 5) (hv5 : v < 5) (h : mc V w v ls i j = true) : 2 ≤ rn V w v i j ∧ rn V w v i j + i ≤ lC V w ∧ rn V w v i j + j ≤ lC V v := by
  unfold mc at h
  simp only [Bool.and_eq_true] at h
  obtain ⟨s, hs, ha⟩ := (anP_iff V w v i j _).mp h.2.2.1
  obtain ⟨g1, g2, -, -, -, g3⟩ := ac_use ha
  have k1 := gC_50 hv hw
  have k2 := gC_50 hv hv5
  have k3 := wf_K hv
  have h1 := rl_le (LTr V w) (LTr V v) (min (lC V w - i) (lC V v - j)) i j
  have h2 := (rl_spec (LTr V w) (LTr V v) (min (lC V w - i) (lC V v - j)) i j).2
  have e : rl (LTr V w) (LTr V v) (min (lC V w - i) (lC V v - j)) i j = rn V w v i j := rfl
  rw [e] at h1 h2
  refine ⟨?_, by omega, by omega⟩
  rcases Nat.lt_or_ge (rn V w v i j) 2 with q | q
  · exfalso
    have q1 : rn V w v i j = s + 1 := by omega
    refine h2 (by omega) ?_
    have := (lkC_iff _ _ _ _).mp g3 1 (by omega)
    rw [q1]
    show LT V (50 * w + (i + (s + 1))) = LT V (50 * v + (j + (s + 1)))
    rw [show 50 * w + (i + (s + 1)) = 50 * w + (i + s) + 1 by omega, show 50 * v + (j + (s + 1)) = 50 * v + (j + s) + 1 by omega]
    exact this
  · exact q
theorem mLr_len (V : Mm) (w v ls : Nat) (acc : Ml) (i : Nat) : ∀ j, (mLr V w v ls acc i j).length = acc.length + sN (fun j => b1N (mc V w v ls i j)) j
  | 0 => rfl
  | j + 1 => by
    rw [mLr_1, sN_1]
    cases q : mc V w v ls i j with
    | true => rw [if_pos rfl, List.length_append, mLr_len V w v ls acc i j]; show _ + 1 = _ + (_ + 1); omega
    | false => rw [if_neg (by decide), mLr_len V w v ls acc i j]; rfl
theorem mLa_len (V : Mm) (w v ls : Nat) : ∀ i, (mLa V w v ls i).length = sN (fun i => sN (fun j => b1N (mc V w v ls i j)) (lC V v)) i
  | 0 => rfl
  | i + 1 => by rw [mLa_1, mLr_len, mLa_len V w v ls i, sN_1]
theorem mLa_833 {V : Mm} (hv : wf V) {w v : Nat} (ls : Nat) (hw : w < 5) (hv5 : v < 5) : ∀ i, i ≤ lC V w → (mLa V w v ls i).length ≤ 833 := by
  intro i hi
  have l1 := lC_50 hv hw
  have l2 := lC_50 hv hv5
  rw [mLa_len, sN_e (g := fun i => sN (fun j => b1N (decide (i < lC V w) && (decide (j < lC V v) && mc V w v ls i j))) (lC V v)) (fun k hk => sN_e fun j hj => by rw [decide_eq_true (show k < lC V w by omega), decide_eq_true hj]; rfl)]
  refine S_833 (S := fun i j => decide (i < lC V w) && (decide (j < lC V v) && mc V w v ls i j)) (fun i j h => ?_) (by omega) l2
  simp only [Bool.and_eq_true, decide_eq_true_eq] at h
  obtain ⟨r1, r2, r3⟩ := mc_run hv hw hv5 h.2.2
  have hs := (rl_spec (LTr V w) (LTr V v) (min (lC V w - i) (lC V v - j)) i j).1
  have e : rl (LTr V w) (LTr V v) (min (lC V w - i) (lC V v - j)) i j = rn V w v i j := rfl
  rw [e] at hs
  have e0 := hs 0 (by omega)
  have e1 := hs 1 (by omega)
  have b1 : bgn (LTr V w) (LTr V v) (i + 1) (j + 1) = false := by
    unfold bgn
    rw [decide_eq_false (by omega), decide_eq_false (by omega), Nat.add_sub_cancel, Nat.add_sub_cancel, decide_eq_false (fun z => z e0)]
    rfl
  have b2 : bgn (LTr V w) (LTr V v) (i + 2) (j + 2) = false := by
    unfold bgn
    rw [decide_eq_false (by omega), decide_eq_false (by omega), show i + 2 - 1 = i + 1 by omega, show j + 2 - 1 = j + 1 by omega, decide_eq_false (fun z => z e1)]
    rfl
  refine ⟨⟨?_, ?_⟩, by omega, by omega⟩
  · show (_ && (_ && mc V w v ls (i + 1) (j + 1))) = false
    unfold mc
    rw [b1, Bool.false_and, Bool.and_false, Bool.and_false, Bool.and_false]
  · show (_ && (_ && mc V w v ls (i + 2) (j + 2))) = false
    unfold mc
    rw [b2, Bool.false_and, Bool.and_false, Bool.and_false, Bool.and_false]
theorem mLr_in {V : Mm} {w v ls : Nat} {acc : Ml} {i : Nat} {P : Nat × (Nat × Nat) → Prop} (h0 : ∀ q, q ∈ acc → P q) (h : ∀ j, j < lC V v → mc V w v ls i j = true → P (i, j, rn V w v i j)) : ∀ j, j ≤ lC V v → ∀ q, q ∈ mLr V w v ls acc i j → P q
  | 0, _ => h0
  | j + 1, hj => by
    intro q hq
    rw [mLr_1] at hq
    have ih := mLr_in h0 h j (by omega)
    cases e : mc V w v ls i j with
    | true =>
      rw [e, if_pos rfl, List.mem_append, List.mem_singleton] at hq
      rcases hq with hq | rfl
      · exact ih q hq
      · exact h j (by omega) e
    | false =>
      rw [e, if_neg (by decide)] at hq
      exact ih q hq
theorem mLa_in {V : Mm} {w v ls : Nat} {P : Nat × (Nat × Nat) → Prop} (h : ∀ i j, i < lC V w → j < lC V v → mc V w v ls i j = true → P (i, j, rn V w v i j)) : ∀ i, i ≤ lC V w → ∀ q, q ∈ mLa V w v ls i → P q
  | 0, _ => fun q hq => by cases hq
  | i + 1, hi => mLr_in (mLa_in h i (by omega)) (fun j hj e => h i j (by omega) hj e) _ (Nat.le_refl _)
theorem ML_in {V : Mm} {w v ls : Nat} {q : Nat × (Nat × Nat)} (hq : q ∈ ML V w v ls) : q.1 < lC V w ∧ q.2.1 < lC V v ∧ mc V w v ls q.1 q.2.1 = true ∧ q.2.2 = rn V w v q.1 q.2.1 :=
  mLa_in (P := fun q => q.1 < lC V w ∧ q.2.1 < lC V v ∧ mc V w v ls q.1 q.2.1 = true ∧ q.2.2 = rn V w v q.1 q.2.1) (fun i j h1 h2 h3 => ⟨h1, h2, h3, rfl⟩) _ (Nat.le_refl _) q hq
def mB (L : Ml) (x : Nat) : Nat := (L.getD x (0, 0, 0)).1
def mO (L : Ml) (x : Nat) : Nat := (L.getD x (0, 0, 0)).2.1
def mG (L : Ml) (x : Nat) : Nat := (L.getD x (0, 0, 0)).2.2
theorem mB_in {L : Ml} {x : Nat} (h : x < L.length) : (mB L x, mO L x, mG L x) ∈ L := by
  have e : L.getD x (0, 0, 0) = L[x] := by rw [List.getD_eq_getElem?_getD, List.getElem?_eq_getElem h]; rfl
  show L.getD x (0, 0, 0) ∈ L
  rw [e]
  exact List.getElem_mem h
theorem ML_at {V : Mm} (hv : wf V) {w v ls x : Nat} (hw : w < 5) (hv5 : v < 5) (h : x < (ML V w v ls).length) : mB (ML V w v ls) x + mG (ML V w v ls) x ≤ lC V w ∧ mO (ML V w v ls) x + mG (ML V w v ls) x ≤ lC V v ∧ 2 ≤ mG (ML V w v ls) x ∧ mB (ML V w v ls) x ≤ 50 ∧ mO (ML V w v ls) x ≤ 50 ∧ mG (ML V w v ls) x ≤ 50 := by
  obtain ⟨h1, h2, h3, h4⟩ := ML_in (mB_in h)
  have l1 := lC_50 hv hw
  have l2 := lC_50 hv hv5
  obtain ⟨r1, r2, r3⟩ := mc_run hv hw hv5 h3
  dsimp only at h1 h2 h4 r1 r2 r3
  omega
