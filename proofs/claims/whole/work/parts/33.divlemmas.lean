/-! letters divided into spans, by the source of each -/
def ahd (s : Nat → Option Nat) : Nat → Option Nat
  | 0 => none
  | i + 1 => s i
def gs (s : Nat → Option Nat) (i : Nat) : Bool := decide (s i = ahd s i)
def spN (s : Nat → Option Nat) : Nat → Nat
  | 0 => 0
  | i + 1 => if (s i).isSome = true ∧ gs s i = false then spN s i + 1 else spN s i
def cvN (s : Nat → Option Nat) : Nat → Nat
  | 0 => 0
  | i + 1 => if (s i).isSome = true then cvN s i + 1 else cvN s i
def tyN (s : Nat → Option Nat) (w : Nat) : Nat → Nat
  | 0 => 0
  | i + 1 => if s i = some w then tyN s w i + 1 else tyN s w i
theorem spN_le (s : Nat → Option Nat) : ∀ i, spN s i ≤ i
  | 0 => Nat.le_refl 0
  | i + 1 => by
    have := spN_le s i
    simp only [spN]
    split <;> omega
theorem spN_pos {s : Nat → Option Nat} : ∀ i w, ahd s i = some w → 1 ≤ spN s i
  | 0, w, h => by cases h
  | i + 1, w, h => by
    have h : s i = some w := h
    simp only [spN]
    by_cases g : gs s i = false
    · rw [if_pos ⟨by rw [h]; rfl, g⟩]; omega
    · rw [if_neg (fun z => g z.2)]
      have g2 : gs s i = true := by cases hz : gs s i with
        | true => rfl
        | false => exact absurd hz g
      exact spN_pos i w ((of_decide_eq_true g2).symm.trans h)
def dv0 (σ : Mm) : Mm := sr (sw (sw σ 53 0 (nI 0)) 53 1 (nI 0)) 59 (fl (σ 59) 0 5 (nI 0))
def dv1 (s : Nat → Option Nat) (i w : Nat) (τ : Mm) : Mm := spE (spN s i) i (nI w) (gs s i) (sw (sw τ 53 1 (nI (cvN s i + 1))) 59 w (nI (tyN s w i + 1)))
def dvS (s : Nat → Option Nat) : Nat → Mm → Mm
  | 0, σ => dv0 σ
  | i + 1, σ => match s i with
    | none => dvS s i σ
    | some w => dv1 s i w (dvS s i σ)
theorem dvS_n {s : Nat → Option Nat} {i : Nat} (σ : Mm) (h : s i = none) : dvS s (i + 1) σ = dvS s i σ := by simp only [dvS, h]
theorem dvS_y {s : Nat → Option Nat} {i w : Nat} (σ : Mm) (h : s i = some w) : dvS s (i + 1) σ = dv1 s i w (dvS s i σ) := by simp only [dvS, h]
theorem spE_k (n i : Nat) (src : Int32) (g : Bool) (σ : Mm) {k : Nat} (h1 : k ≠ 53) (h2 : k ≠ 56) (h3 : k ≠ 57) (h4 : k ≠ 58) : spE n i src g σ k = σ k := by
  unfold spE
  split
  · rw [sw_ne _ _ _ h3]
  · rw [sw_ne _ _ _ h3, sw_ne _ _ _ h1, sw_ne _ _ _ h4, sw_ne _ _ _ h2]
theorem spE_53 (n i : Nat) (src : Int32) (g : Bool) (σ : Mm) : (spE n i src g σ 53 1 = σ 53 1 ∧ spE n i src g σ 53 2 = σ 53 2) ∧ spE n i src g σ 53 0 = if g = true then σ 53 0 else nI (n + 1) := by
  unfold spE
  cases g <;> simp [sw, sr, upd]
theorem dvS_f (s : Nat → Option Nat) (σ : Mm) (hs : ∀ i w, s i = some w → w < 5) : ∀ i, (dvS s i σ 53 0 = nI (spN s i) ∧ dvS s i σ 53 1 = nI (cvN s i) ∧ dvS s i σ 53 2 = σ 53 2) ∧ (∀ w, w < 5 → dvS s i σ 59 w = nI (tyN s w i)) ∧ ∀ k, k ∉ [53, 56, 57, 58, 59] → dvS s i σ k = σ k
  | 0 => by
    refine ⟨⟨by simp [dvS, dv0, sw, sr, upd, spN], by simp [dvS, dv0, sw, sr, upd, cvN], by simp [dvS, dv0, sw, sr, upd]⟩, fun w hw => ?_, fun k hk => ?_⟩
    · show dv0 σ 59 w = nI 0
      unfold dv0
      rw [sr_s]
      exact if_pos ⟨Nat.zero_le _, hw⟩
    · simp only [List.mem_cons, List.not_mem_nil, or_false, not_or] at hk
      show dv0 σ k = σ k
      unfold dv0
      rw [sr_n _ _ hk.2.2.2.2, sw_ne _ _ _ hk.1, sw_ne _ _ _ hk.1]
  | i + 1 => by
    obtain ⟨⟨a, b, c⟩, d, e⟩ := dvS_f s σ hs i
    cases h : s i with
    | none =>
      rw [dvS_n σ h]
      refine ⟨⟨?_, ?_, c⟩, fun w hw => ?_, e⟩
      · rw [a]; simp only [spN, h]; rfl
      · rw [b]; simp only [cvN, h]; rfl
      · rw [d w hw]; simp only [tyN, h]; rfl
    | some w =>
      have hw5 := hs i w h
      rw [dvS_y σ h]
      unfold dv1
      obtain ⟨⟨p1, p2⟩, p3⟩ := spE_53 (spN s i) i (nI w) (gs s i) (sw (sw (dvS s i σ) 53 1 (nI (cvN s i + 1))) 59 w (nI (tyN s w i + 1)))
      refine ⟨⟨?_, ?_, ?_⟩, fun v hv => ?_, fun k hk => ?_⟩
      · rw [p3, sw_ne _ _ _ (by decide), show sw (dvS s i σ) 53 1 (nI (cvN s i + 1)) 53 0 = dvS s i σ 53 0 from by simp [sw, sr, upd], a]
        simp only [spN, h]
        cases hg : gs s i <;> simp
      · rw [p1, sw_ne _ _ _ (by decide), sw_eq]
        simp only [cvN, h]
        rfl
      · rw [p2, sw_ne _ _ _ (by decide), show sw (dvS s i σ) 53 1 (nI (cvN s i + 1)) 53 2 = dvS s i σ 53 2 from by simp [sw, sr, upd], c]
      · rw [spE_k _ _ _ _ _ (by decide) (by decide) (by decide) (by decide)]
        simp only [tyN, h]
        by_cases q : v = w
        · subst q; rw [sw_eq, if_pos rfl]
        · rw [show sw (sw (dvS s i σ) 53 1 (nI (cvN s i + 1))) 59 w (nI (tyN s w i + 1)) 59 v = dvS s i σ 59 v from by simp [sw, sr, upd, q], d v hv, if_neg (fun z => q (Option.some.inj z).symm)]
      · have hk2 := hk
        simp only [List.mem_cons, List.not_mem_nil, or_false, not_or] at hk2
        rw [spE_k _ _ _ _ _ hk2.1 hk2.2.1 hk2.2.2.1 hk2.2.2.2.1, sw_ne _ _ _ hk2.2.2.2.2, sw_ne _ _ _ hk2.1, e k hk]
theorem isW_en {x : Option Nat} (h : ∀ w, x = some w → w < 5) : decide (0 ≤ en x ∧ en x ≤ 4) = x.isSome := by
  cases x with
  | none => decide +kernel
  | some w => exact decide_eq_true (nI5 (h w rfl))
theorem cvN_le (s : Nat → Option Nat) : ∀ i, cvN s i ≤ i
  | 0 => Nat.le_refl 0
  | i + 1 => by
    have := cvN_le s i
    simp only [cvN]
    split <;> omega
theorem tyN_le (s : Nat → Option Nat) (w : Nat) : ∀ i, tyN s w i ≤ i
  | 0 => Nat.le_refl 0
  | i + 1 => by
    have := tyN_le s w i
    simp only [tyN]
    split <;> omega
