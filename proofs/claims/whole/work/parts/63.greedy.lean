/-! the chain found by followers is the chain found by weights -/
def fol (b1 b2 ln : Nat → Nat) (k y : Nat) : Prop := b1 k + ln k ≤ b1 y ∧ b2 k + ln k ≤ b2 y
theorem hb_e {b1 b2 ln W W' : Nat → Nat} {k : Nat} : ∀ {j : Nat}, (∀ y, k < y → y < k + 1 + j → W y = W' y) → hb b1 b2 ln W k j = hb b1 b2 ln W' k j
  | 0, _ => rfl
  | j + 1, h => by
    have ih := hb_e (b1 := b1) (b2 := b2) (ln := ln) (W := W) (W' := W') (k := k) (j := j) (fun y h1 h2 => h y h1 (by omega))
    simp only [hb]
    rw [ih, h (k + 1 + j) (by omega) (by omega)]
theorem hb_max {b1 b2 ln W : Nat → Nat} {k : Nat} : ∀ j y, k < y → y < k + 1 + j → fol b1 b2 ln k y → W y ≤ (hb b1 b2 ln W k j).2
  | 0, y, h1, h2, _ => by omega
  | j + 1, y, h1, h2, hf => by
    by_cases g : (hb b1 b2 ln W k j).2 < W (k + 1 + j) ∧ b1 k + ln k ≤ b1 (k + 1 + j) ∧ b2 k + ln k ≤ b2 (k + 1 + j)
    · rw [hb_y g.1 g.2.1 g.2.2]
      rcases Nat.lt_or_ge y (k + 1 + j) with q | q
      · have := hb_max (b1 := b1) (b2 := b2) (ln := ln) (W := W) j y h1 q hf
        show W y ≤ W (k + 1 + j)
        omega
      · rw [show y = k + 1 + j by omega]; exact Nat.le_refl _
    · rw [hb_n g]
      rcases Nat.lt_or_ge y (k + 1 + j) with q | q
      · exact hb_max j y h1 q hf
      · have e : y = k + 1 + j := by omega
        subst e
        rcases Nat.lt_or_ge (hb b1 b2 ln W k j).2 (W (k + 1 + j)) with r | r
        · exact absurd ⟨r, hf.1, hf.2⟩ g
        · exact r
theorem hb_fst {b1 b2 ln W : Nat → Nat} {k x : Nat} : ∀ j, (hb b1 b2 ln W k j).1 = some x → fol b1 b2 ln k x ∧ ∀ y, k < y → y < x → fol b1 b2 ln k y → W y < W x
  | 0, h => by cases h
  | j + 1, h => by
    by_cases g : (hb b1 b2 ln W k j).2 < W (k + 1 + j) ∧ b1 k + ln k ≤ b1 (k + 1 + j) ∧ b2 k + ln k ≤ b2 (k + 1 + j)
    · rw [hb_y g.1 g.2.1 g.2.2] at h
      cases h
      refine ⟨g.2, fun y h1 h2 hf => ?_⟩
      have := hb_max (b1 := b1) (b2 := b2) (ln := ln) (W := W) j y h1 h2 hf
      omega
    · rw [hb_n g] at h
      exact hb_fst j h
section GR9
variable {b1 b2 ln : Nat → Nat} {m : Nat}
theorem wS_fix {s : Nat} : ∀ d, s + d ≤ m → ∀ x, m - s ≤ x → (wS b1 b2 ln m (s + d)).1 x = (wS b1 b2 ln m s).1 x ∧ (wS b1 b2 ln m (s + d)).2 x = (wS b1 b2 ln m s).2 x
  | 0, _, x, _ => ⟨rfl, rfl⟩
  | d + 1, h, x, hx => by
    have ih := wS_fix (s := s) d (by omega) x hx
    rw [show s + (d + 1) = (s + d) + 1 by omega, wS_11, wS_12, uN_n _ _ (show x ≠ m - 1 - (s + d) by omega), uN_n _ _ (show x ≠ m - 1 - (s + d) by omega)]
    exact ih
def Wf (b1 b2 ln : Nat → Nat) (m : Nat) : Nat → Nat := (wS b1 b2 ln m m).1
theorem Wf_at {s x : Nat} (hs : s ≤ m) (hx : m - s ≤ x) : (wS b1 b2 ln m s).1 x = Wf b1 b2 ln m x := by
  have := (wS_fix (b1 := b1) (b2 := b2) (ln := ln) (m := m) (s := s) (m - s) (by omega) x hx).1
  rw [show s + (m - s) = m by omega] at this
  exact this.symm
theorem Wf_eq {k : Nat} (hk : k < m) : Wf b1 b2 ln m k = ln k + (hb b1 b2 ln (Wf b1 b2 ln m) k (m - 1 - k)).2 ∧ (wS b1 b2 ln m m).2 k = (hb b1 b2 ln (Wf b1 b2 ln m) k (m - 1 - k)).1 := by
  have h1 := wS_fix (b1 := b1) (b2 := b2) (ln := ln) (m := m) (s := m - 1 - k + 1) k (by omega) k (by omega)
  rw [show m - 1 - k + 1 + k = m by omega] at h1
  have h2 := wS_11 b1 b2 ln m (m - 1 - k)
  have h3 := wS_12 b1 b2 ln m (m - 1 - k)
  rw [show m - 1 - (m - 1 - k) = k by omega] at h2 h3
  have e : hb b1 b2 ln (wS b1 b2 ln m (m - 1 - k)).1 k (m - 1 - k) = hb b1 b2 ln (Wf b1 b2 ln m) k (m - 1 - k) := hb_e fun y h4 h5 => Wf_at (by omega) (by omega)
  rw [h2, h3, uN_s, uN_s, e] at h1
  exact h1
def mxS (b1 b2 ln : Nat → Nat) (m : Nat) : Nat → Nat
  | 0 => 0
  | s + 1 => max (mxS b1 b2 ln m s) (Wf b1 b2 ln m (m - 1 - s))
theorem tS_max : ∀ s, s ≤ m → (tS b1 b2 ln m s = none → s = 0) ∧ ∀ t, tS b1 b2 ln m s = some t → mxS b1 b2 ln m s = Wf b1 b2 ln m t ∧ ∀ y, m - s ≤ y → y < m → Wf b1 b2 ln m y ≤ Wf b1 b2 ln m t ∧ (y < t → Wf b1 b2 ln m y < Wf b1 b2 ln m t)
  | 0, _ => ⟨fun _ => rfl, fun t h => by cases h⟩
  | s + 1, hs => by
    obtain ⟨i1, i2⟩ := tS_max s (by omega)
    cases h0 : tS b1 b2 ln m s with
    | none =>
      have e0 := i1 h0
      subst e0
      rw [tS_n h0]
      refine ⟨(fun z => by cases z), fun t ht => ?_⟩
      cases ht
      refine ⟨?_, fun y h1 h2 => ?_⟩
      · show max 0 _ = _
        rw [Nat.zero_max]
      · have : y = m - 1 - 0 := by omega
        rw [this]
        exact ⟨Nat.le_refl _, fun z => by omega⟩
    | some t0 =>
      obtain ⟨j1, j2⟩ := i2 t0 h0
      have ht0 := tS_in s (by omega) t0 h0
      have e1 := Wf_at (b1 := b1) (b2 := b2) (ln := ln) (m := m) (s := s + 1) (x := t0) hs (by omega)
      have e2 := Wf_at (b1 := b1) (b2 := b2) (ln := ln) (m := m) (s := s + 1) (x := m - 1 - s) hs (by omega)
      by_cases g : (wS b1 b2 ln m (s + 1)).1 t0 ≤ (wS b1 b2 ln m (s + 1)).1 (m - 1 - s)
      · rw [tS_y h0 g]
        rw [e1, e2] at g
        refine ⟨(fun z => by cases z), fun t ht => ?_⟩
        cases ht
        refine ⟨?_, fun y h1 h2 => ?_⟩
        · show max (mxS b1 b2 ln m s) _ = _
          rw [j1]; omega
        · by_cases q : y = m - 1 - s
          · rw [q]; exact ⟨Nat.le_refl _, fun z => by omega⟩
          · have := j2 y (by omega) h2
            exact ⟨by omega, fun z => by omega⟩
      · rw [tS_k h0 g]
        rw [e1, e2] at g
        refine ⟨(fun z => by cases z), fun t ht => ?_⟩
        cases ht
        refine ⟨?_, fun y h1 h2 => ?_⟩
        · show max (mxS b1 b2 ln m s) _ = _
          rw [j1]; omega
        · by_cases q : y = m - 1 - s
          · rw [q]; exact ⟨by omega, fun _ => by omega⟩
          · exact j2 y (by omega) h2
def owt (W : Nat → Nat) : Option Nat → Nat
  | none => 0
  | some x => W x
theorem owt_n (W : Nat → Nat) : owt W none = 0 := rfl
theorem owt_s (W : Nat → Nat) (x : Nat) : owt W (some x) = W x := rfl
theorem hb_owt {W : Nat → Nat} {k j : Nat} : (hb b1 b2 ln W k j).2 = owt W (hb b1 b2 ln W k j).1 := by
  obtain ⟨i1, i2, -⟩ := hb_in (b1 := b1) (b2 := b2) (ln := ln) (W := W) (k := k) j
  cases h : (hb b1 b2 ln W k j).1 with
  | none => rw [i2 h]; rfl
  | some x => rw [(i1 x h).2.2]; rfl
theorem mk_1 (z j : Nat) : mk b1 b2 ln m (z + 1) j = (mk b1 b2 ln m z j || decide (cx b1 b2 ln m z = some j)) := rfl
def GI (b1 b2 ln : Nat → Nat) (m k left : Nat) (last : Option Nat) (S : Nat → Bool) : Prop := ∃ z, ((z = 0 ∧ last = none) ∨ ∃ y z', z = z' + 1 ∧ cx b1 b2 ln m z' = some y ∧ last = some y ∧ y < k) ∧ left = owt (Wf b1 b2 ln m) (cx b1 b2 ln m z) ∧ (∀ x, cx b1 b2 ln m z = some x → k ≤ x) ∧ (∀ x, x < k → S x = mk b1 b2 ln m z x) ∧ (∀ x, mk b1 b2 ln m z x = true → x < k) ∧ sB (mk b1 b2 ln m z) ln k + left = mxS b1 b2 ln m m ∧ z ≤ k
theorem cx_top : cx b1 b2 ln m 0 = tS b1 b2 ln m m := rfl
theorem GI_0 (S : Nat → Bool) : GI b1 b2 ln m 0 (mxS b1 b2 ln m m) none S := by
  obtain ⟨h1, h2⟩ := tS_max (b1 := b1) (b2 := b2) (ln := ln) (m := m) m (Nat.le_refl _)
  refine ⟨0, Or.inl ⟨rfl, rfl⟩, ?_, fun x _ => Nat.zero_le _, (fun x hx => by omega), (fun x hx => by cases hx), Nat.zero_add _, Nat.le_refl _⟩
  rw [cx_top]
  cases h : tS b1 b2 ln m m with
  | none => rw [h1 h]; rfl
  | some t => exact (h2 t h).1
theorem sB_0 {b : Nat → Bool} {f : Nat → Nat} : ∀ {n : Nat}, (∀ x, x < n → b x = false) → sB b f n = 0
  | 0, _ => rfl
  | n + 1, h => by
    show sB b f n + (if b n = true then f n else 0) = 0
    rw [sB_0 (fun x hx => h x (by omega)), h n (by omega)]
    rfl
theorem sB_st (b : Nat → Bool) (f : Nat → Nat) (n : Nat) : sB b f (n + 1) = sB b f n + (if b n = true then f n else 0) := rfl
theorem GI_y {k left : Nat} {last : Option Nat} {S S' : Nat → Bool} (hl : ∀ x, x < m → 1 ≤ ln x) (h : GI b1 b2 ln m k left last S) (hk : k < m) (h0 : 0 < left) (hW : Wf b1 b2 ln m k = left) (hf : last = none ∨ ∃ y, last = some y ∧ fol b1 b2 ln y k) (hS : ∀ x, x ≠ k → S' x = S x) (hSk : S' k = true) : GI b1 b2 ln m (k + 1) (left - ln k) (some k) S' := by
  obtain ⟨z, i1, i2, i3, i4, i5, i6, i7⟩ := h
  have hz : cx b1 b2 ln m z = some k := by
    cases hc : cx b1 b2 ln m z with
    | none => rw [hc, owt_n] at i2; omega
    | some x =>
      have hxk := i3 x hc
      have hxm := cx_in z x hc
      rw [hc, owt_s] at i2
      by_cases q : x = k
      · rw [q]
      · exfalso
        rcases i1 with ⟨g1, g2⟩ | ⟨y, z', g1, g2, g3, g4⟩
        · subst g1
          rw [cx_top] at hc
          have := ((tS_max (b1 := b1) (b2 := b2) (ln := ln) (m := m) m (Nat.le_refl _)).2 x hc).2 k (by omega) hk
          omega
        · subst g1
          rw [cx_1 g2] at hc
          rw [(Wf_eq (cx_in z' y g2)).2] at hc
          rcases hf with hf | ⟨y', hf, hf2⟩
          · rw [hf] at g3; cases g3
          · rw [hf] at g3; cases g3
            have := (hb_fst _ hc).2 k g4 (by omega) hf2
            omega
  have hWk := Wf_eq (b1 := b1) (b2 := b2) (ln := ln) hk
  refine ⟨z + 1, Or.inr ⟨k, z, rfl, hz, rfl, by omega⟩, ?_, fun x hx => ?_, fun x hx => ?_, fun x hx => ?_, ?_, by omega⟩
  · rw [cx_1 hz, hWk.2, ← hb_owt]; omega
  · rw [cx_1 hz, hWk.2] at hx
    have := ((hb_in (b1 := b1) (b2 := b2) (ln := ln) (W := Wf b1 b2 ln m) (k := k) (m - 1 - k)).1 x hx).1
    omega
  · rw [mk_1, hz]
    by_cases q : x = k
    · subst q; rw [hSk, decide_eq_true rfl, Bool.or_true]
    · rw [hS x q, i4 x (by omega), decide_eq_false (fun y => q (Option.some.inj y).symm), Bool.or_false]
  · rw [mk_1, Bool.or_eq_true, hz] at hx
    rcases hx with hx | hx
    · have := i5 x hx; omega
    · have := Option.some.inj (of_decide_eq_true hx); omega
  · have e1 : sB (mk b1 b2 ln m (z + 1)) ln k = sB (mk b1 b2 ln m z) ln k := sB_congr fun x hx => by
      rw [mk_1, hz, decide_eq_false (fun y => by have := Option.some.inj y; omega), Bool.or_false]
    have e2 : mk b1 b2 ln m (z + 1) k = true := by rw [mk_1, hz, decide_eq_true rfl, Bool.or_true]
    rw [sB_st, e1, e2, if_pos rfl]
    have := hl k hk
    omega
theorem GI_n {k left : Nat} {last : Option Nat} {S S' : Nat → Bool} (hl : ∀ x, x < m → 1 ≤ ln x) (h : GI b1 b2 ln m k left last S) (hk : k < m) (hn : ¬ (0 < left ∧ Wf b1 b2 ln m k = left ∧ (last = none ∨ ∃ y, last = some y ∧ fol b1 b2 ln y k))) (hS : ∀ x, x ≠ k → S' x = S x) (hSk : S' k = false) : GI b1 b2 ln m (k + 1) left last S' := by
  obtain ⟨z, i1, i2, i3, i4, i5, i6, i7⟩ := h
  have hz : cx b1 b2 ln m z ≠ some k := fun hc => by
    refine hn ⟨?_, ?_, ?_⟩
    · rw [i2, hc, owt_s, (Wf_eq (b1 := b1) (b2 := b2) (ln := ln) hk).1]
      have := hl k hk
      omega
    · rw [i2, hc, owt_s]
    · rcases i1 with ⟨g1, g2⟩ | ⟨y, z', g1, g2, g3, g4⟩
      · exact Or.inl g2
      · subst g1
        rw [cx_1 g2, (Wf_eq (cx_in z' y g2)).2] at hc
        exact Or.inr ⟨y, g3, (hb_fst _ hc).1⟩
  have hmk : mk b1 b2 ln m z k = false := by
    cases e : mk b1 b2 ln m z k with
    | false => rfl
    | true => have := i5 k e; omega
  refine ⟨z, ?_, i2, fun x hx => ?_, fun x hx => ?_, fun x hx => ?_, ?_, by omega⟩
  · rcases i1 with g | ⟨y, z', g1, g2, g3, g4⟩
    · exact Or.inl g
    · exact Or.inr ⟨y, z', g1, g2, g3, by omega⟩
  · have := i3 x hx
    have : x ≠ k := fun q => hz (by rw [hx, q])
    omega
  · by_cases q : x = k
    · subst q; rw [hSk, hmk]
    · rw [hS x q, i4 x (by omega)]
  · have := i5 x hx; omega
  · rw [sB_st, hmk]
    simpa using i6
theorem GI_end {left : Nat} {last : Option Nat} {S : Nat → Bool} (h : GI b1 b2 ln m m left last S) : (∀ x, x < m → S x = mk b1 b2 ln m m x) ∧ sB (mk b1 b2 ln m m) ln m = mxS b1 b2 ln m m := by
  obtain ⟨z, i1, i2, i3, i4, i5, i6, i7⟩ := h
  have hc : cx b1 b2 ln m z = none := by
    cases e : cx b1 b2 ln m z with
    | none => rfl
    | some x => have := i3 x e; have := cx_in z x e; omega
  have hm := (mk_end hc (m - z)).2
  rw [show z + (m - z) = m by omega] at hm
  refine ⟨fun x hx => by rw [i4 x hx, hm x], ?_⟩
  rw [hc, owt_n] at i2
  rw [sB_congr fun x _ => hm x]
  omega
end GR9
theorem sB_sum (b : Nat → Bool) (f : Nat → Nat) : ∀ n, sB (fun x => decide (b x = true)) f n + sB (fun x => decide (b x = false)) f n = sN f n
  | 0 => rfl
  | n + 1 => by
    have ih := sB_sum b f n
    have e : (if decide (b n = true) = true then f n else 0) + (if decide (b n = false) = true then f n else 0) = f n := by cases b n <;> simp
    rw [sB_st, sB_st, sN_1]
    omega
