/-! the chain: weights and followers from the last match on, then along the followers -/
theorem hb_le {b1 b2 ln W : Nat → Nat} {k C : Nat} (h : ∀ x, W x ≤ C) : ∀ j, (hb b1 b2 ln W k j).2 ≤ C
  | 0 => Nat.zero_le _
  | j + 1 => by
    by_cases g : (hb b1 b2 ln W k j).2 < W (k + 1 + j) ∧ b1 k + ln k ≤ b1 (k + 1 + j) ∧ b2 k + ln k ≤ b2 (k + 1 + j)
    · rw [hb_y g.1 g.2.1 g.2.2]; exact h _
    · rw [hb_n g]; exact hb_le h j
def uN {α : Type} (f : Nat → α) (k : Nat) (v : α) : Nat → α := fun j => if j = k then v else f j
theorem uN_s {α : Type} (f : Nat → α) (k : Nat) (v : α) : uN f k v k = v := if_pos rfl
theorem uN_n {α : Type} (f : Nat → α) {k j : Nat} (v : α) (h : j ≠ k) : uN f k v j = f j := if_neg h
def wS (b1 b2 ln : Nat → Nat) (m : Nat) : Nat → (Nat → Nat) × (Nat → Option Nat)
  | 0 => (fun _ => 0, fun _ => none)
  | s + 1 => (uN (wS b1 b2 ln m s).1 (m - 1 - s) (ln (m - 1 - s) + (hb b1 b2 ln (wS b1 b2 ln m s).1 (m - 1 - s) s).2), uN (wS b1 b2 ln m s).2 (m - 1 - s) (hb b1 b2 ln (wS b1 b2 ln m s).1 (m - 1 - s) s).1)
theorem wS_1 (b1 b2 ln : Nat → Nat) (m s : Nat) : wS b1 b2 ln m (s + 1) = (uN (wS b1 b2 ln m s).1 (m - 1 - s) (ln (m - 1 - s) + (hb b1 b2 ln (wS b1 b2 ln m s).1 (m - 1 - s) s).2), uN (wS b1 b2 ln m s).2 (m - 1 - s) (hb b1 b2 ln (wS b1 b2 ln m s).1 (m - 1 - s) s).1) := rfl
theorem wS_11 (b1 b2 ln : Nat → Nat) (m s : Nat) : (wS b1 b2 ln m (s + 1)).1 = uN (wS b1 b2 ln m s).1 (m - 1 - s) (ln (m - 1 - s) + (hb b1 b2 ln (wS b1 b2 ln m s).1 (m - 1 - s) s).2) := rfl
theorem wS_12 (b1 b2 ln : Nat → Nat) (m s : Nat) : (wS b1 b2 ln m (s + 1)).2 = uN (wS b1 b2 ln m s).2 (m - 1 - s) (hb b1 b2 ln (wS b1 b2 ln m s).1 (m - 1 - s) s).1 := rfl
theorem wS_le {b1 b2 ln : Nat → Nat} {m : Nat} (hl : ∀ x, x < m → ln x ≤ 50) : ∀ s, s ≤ m → ∀ x, (wS b1 b2 ln m s).1 x ≤ 50 * s
  | 0, _, x => Nat.le_refl 0
  | s + 1, hs, x => by
    have ih := wS_le (b1 := b1) (b2 := b2) hl s (by omega)
    rw [wS_11]
    by_cases e : x = m - 1 - s
    · subst e
      rw [uN_s]
      have a := hl (m - 1 - s) (by omega)
      have b := hb_le (b1 := b1) (b2 := b2) (ln := ln) (k := m - 1 - s) ih s
      omega
    · rw [uN_n _ _ e]
      have := ih x
      omega
theorem wS_in {b1 b2 ln : Nat → Nat} {m : Nat} : ∀ s, s ≤ m → ∀ x y, (wS b1 b2 ln m s).2 x = some y → x < y ∧ y < m
  | 0, _, x, y, h => by cases h
  | s + 1, hs, x, y, h => by
    rw [wS_12] at h
    by_cases e : x = m - 1 - s
    · subst e
      rw [uN_s] at h
      have := (hb_in (b1 := b1) (b2 := b2) (ln := ln) (W := (wS b1 b2 ln m s).1) (k := m - 1 - s) s).1 y h
      omega
    · rw [uN_n _ _ e] at h
      exact wS_in s (by omega) x y h
def tS (b1 b2 ln : Nat → Nat) (m : Nat) : Nat → Option Nat
  | 0 => none
  | s + 1 => match tS b1 b2 ln m s with
    | none => some (m - 1 - s)
    | some t => if (wS b1 b2 ln m (s + 1)).1 t ≤ (wS b1 b2 ln m (s + 1)).1 (m - 1 - s) then some (m - 1 - s) else some t
theorem tS_n {b1 b2 ln : Nat → Nat} {m s : Nat} (h : tS b1 b2 ln m s = none) : tS b1 b2 ln m (s + 1) = some (m - 1 - s) := by simp only [tS, h]
theorem tS_y {b1 b2 ln : Nat → Nat} {m s t : Nat} (h : tS b1 b2 ln m s = some t) (g : (wS b1 b2 ln m (s + 1)).1 t ≤ (wS b1 b2 ln m (s + 1)).1 (m - 1 - s)) : tS b1 b2 ln m (s + 1) = some (m - 1 - s) := by simp only [tS, h]; exact if_pos g
theorem tS_k {b1 b2 ln : Nat → Nat} {m s t : Nat} (h : tS b1 b2 ln m s = some t) (g : ¬ (wS b1 b2 ln m (s + 1)).1 t ≤ (wS b1 b2 ln m (s + 1)).1 (m - 1 - s)) : tS b1 b2 ln m (s + 1) = some t := by simp only [tS, h]; exact if_neg g
theorem tS_in {b1 b2 ln : Nat → Nat} {m : Nat} : ∀ s, s ≤ m → ∀ t, tS b1 b2 ln m s = some t → m - s ≤ t ∧ t < m
  | 0, _, t, h => by cases h
  | s + 1, hs, t, h => by
    cases h0 : tS b1 b2 ln m s with
    | none => rw [tS_n h0] at h; cases h; omega
    | some t0 =>
      have := tS_in s (by omega) t0 h0
      by_cases g : (wS b1 b2 ln m (s + 1)).1 t0 ≤ (wS b1 b2 ln m (s + 1)).1 (m - 1 - s)
      · rw [tS_y h0 g] at h; cases h; omega
      · rw [tS_k h0 g] at h; cases h; omega
def cx (b1 b2 ln : Nat → Nat) (m : Nat) : Nat → Option Nat
  | 0 => tS b1 b2 ln m m
  | z + 1 => match cx b1 b2 ln m z with
    | none => none
    | some x => (wS b1 b2 ln m m).2 x
theorem cx_1 {b1 b2 ln : Nat → Nat} {m z x : Nat} (h : cx b1 b2 ln m z = some x) : cx b1 b2 ln m (z + 1) = (wS b1 b2 ln m m).2 x := by simp only [cx, h]
theorem cx_0 {b1 b2 ln : Nat → Nat} {m z : Nat} (h : cx b1 b2 ln m z = none) : cx b1 b2 ln m (z + 1) = none := by simp only [cx, h]
theorem cx_in {b1 b2 ln : Nat → Nat} {m : Nat} : ∀ z x, cx b1 b2 ln m z = some x → x < m
  | 0, x, h => (tS_in m (Nat.le_refl m) x h).2
  | z + 1, x, h => by
    cases h0 : cx b1 b2 ln m z with
    | none => rw [cx_0 h0] at h; cases h
    | some y => rw [cx_1 h0] at h; exact (wS_in m (Nat.le_refl m) y x h).2
/-- what is in the chain, by its first z -/
def mk (b1 b2 ln : Nat → Nat) (m : Nat) : Nat → Nat → Bool
  | 0, _ => false
  | z + 1, j => mk b1 b2 ln m z j || decide (cx b1 b2 ln m z = some j)
theorem mk_end {b1 b2 ln : Nat → Nat} {m z : Nat} (h : cx b1 b2 ln m z = none) : ∀ d, cx b1 b2 ln m (z + d) = none ∧ ∀ j, mk b1 b2 ln m (z + d) j = mk b1 b2 ln m z j
  | 0 => ⟨h, fun _ => rfl⟩
  | d + 1 => by
    obtain ⟨i1, i2⟩ := mk_end h d
    refine ⟨cx_0 i1, fun j => ?_⟩
    show (mk b1 b2 ln m (z + d) j || decide (cx b1 b2 ln m (z + d) = some j)) = _
    rw [i1, i2 j, decide_eq_false (fun z => by cases z), Bool.or_false]
def bw (f g : Nat → Int32) (lo hi : Nat) : Nat → Int32 := fun j => if lo ≤ j ∧ j < hi then g j else f j
theorem bw_0 (f g : Nat → Int32) (hi : Nat) : bw f g hi hi = f := by
  funext j
  exact if_neg (by omega)
theorem bw_in {f g : Nat → Int32} {lo hi j : Nat} (h1 : lo ≤ j) (h2 : j < hi) : bw f g lo hi j = g j := if_pos ⟨h1, h2⟩
theorem bw_1 {f g g' : Nat → Int32} {lo hi : Nat} (h : lo < hi) (hg : ∀ j, lo < j → g j = g' j) : upd (bw f g (lo + 1) hi) lo (g' lo) = bw f g' lo hi := by
  funext j
  simp only [upd, bw]
  by_cases e : j = lo
  · subst e
    rw [if_pos rfl, if_pos ⟨Nat.le_refl _, h⟩]
  · rw [if_neg e]
    by_cases g1 : lo ≤ j ∧ j < hi
    · rw [if_pos ⟨by omega, g1.2⟩, if_pos g1, hg j (by omega)]
    · rw [if_neg (by omega), if_neg g1]
/-- the rows behind s matches from the last -/
def kS (b1 b2 ln : Nat → Nat) (m s : Nat) (σ : Mm) : Mm := sr (sr σ 49 (bw (σ 49) (fun j => nI ((wS b1 b2 ln m s).1 j)) (m - s) m)) 50 (bw (σ 50) (fun j => en ((wS b1 b2 ln m s).2 j)) (m - s) m)
theorem kS_n (b1 b2 ln : Nat → Nat) (m s : Nat) (σ : Mm) {k : Nat} (h1 : k ≠ 49) (h2 : k ≠ 50) : kS b1 b2 ln m s σ k = σ k := by
  unfold kS
  rw [sr_n _ _ h2, sr_n _ _ h1]
theorem kS_49 {b1 b2 ln : Nat → Nat} {m s j : Nat} {σ : Mm} (h1 : m - s ≤ j) (h2 : j < m) : kS b1 b2 ln m s σ 49 j = nI ((wS b1 b2 ln m s).1 j) := by
  unfold kS
  rw [sr_n _ _ (by decide), sr_s, bw_in h1 h2]
theorem kS_50 {b1 b2 ln : Nat → Nat} {m s j : Nat} {σ : Mm} (h1 : m - s ≤ j) (h2 : j < m) : kS b1 b2 ln m s σ 50 j = en ((wS b1 b2 ln m s).2 j) := by
  unfold kS
  rw [sr_s, bw_in h1 h2]
theorem kS_1 {b1 b2 ln : Nat → Nat} {m s : Nat} {σ : Mm} (h : s < m) : sw (sw (kS b1 b2 ln m s σ) 50 (m - 1 - s) (en (hb b1 b2 ln (wS b1 b2 ln m s).1 (m - 1 - s) s).1)) 49 (m - 1 - s) (nI (ln (m - 1 - s) + (hb b1 b2 ln (wS b1 b2 ln m s).1 (m - 1 - s) s).2)) = kS b1 b2 ln m (s + 1) σ := by
  unfold kS
  rw [sw_sr, sw_sr2 _ _ _ _ _ (by decide)]
  have e1 : m - s = m - 1 - s + 1 := by omega
  have e2 : m - (s + 1) = m - 1 - s := by omega
  rw [e1, e2, wS_11, wS_12]
  have q1 := bw_1 (f := σ 49) (g := fun j => nI ((wS b1 b2 ln m s).1 j)) (g' := fun j => nI (uN (wS b1 b2 ln m s).1 (m - 1 - s) (ln (m - 1 - s) + (hb b1 b2 ln (wS b1 b2 ln m s).1 (m - 1 - s) s).2) j)) (lo := m - 1 - s) (hi := m) (by omega) (fun j hj => by rw [uN_n _ _ (by omega)])
  have q2 := bw_1 (f := σ 50) (g := fun j => en ((wS b1 b2 ln m s).2 j)) (g' := fun j => en (uN (wS b1 b2 ln m s).2 (m - 1 - s) (hb b1 b2 ln (wS b1 b2 ln m s).1 (m - 1 - s) s).1 j)) (lo := m - 1 - s) (hi := m) (by omega) (fun j hj => by rw [uN_n _ _ (by omega)])
  rw [uN_s] at q1 q2
  rw [q1, q2]
theorem kS_0 (b1 b2 ln : Nat → Nat) (m : Nat) (σ : Mm) : kS b1 b2 ln m 0 σ = σ := by
  unfold kS
  rw [Nat.sub_zero, bw_0, bw_0, sr_id, sr_id]
def mR51 (b1 b2 ln : Nat → Nat) (m z : Nat) (f : Nat → Int32) : Nat → Int32 := fun j => if mk b1 b2 ln m z j = true then nI 1 else f j
theorem mR51_1 {b1 b2 ln : Nat → Nat} {m z x : Nat} {f : Nat → Int32} (h : cx b1 b2 ln m z = some x) : upd (mR51 b1 b2 ln m z f) x (nI 1) = mR51 b1 b2 ln m (z + 1) f := by
  funext j
  simp only [upd, mR51, mk, h]
  by_cases e : j = x
  · subst e; simp
  · rw [if_neg e, decide_eq_false (fun q => e (Option.some.inj q).symm), Bool.or_false]
def lkM (b1 b2 ln : Nat → Nat) (m : Nat) (σ : Mm) : Mm := sr (kS b1 b2 ln m m σ) 51 (mR51 b1 b2 ln m m (σ 51))
def ev (x : Option Nat) (v : Nat) : Int32 := match x with
  | none => -(nI 1)
  | some _ => nI v
theorem ev_max {x : Option Nat} {v : Nat} (h : x = none → v = 0) (hv : v < 2 ^ 31) : (if nI 0 < ev x v then ev x v else nI 0) = nI v := by
  cases x with
  | none => rw [h rfl]; decide +kernel
  | some i => exact mx_r (Nat.zero_le _) hv
theorem neg1 {a : Nat} (ha : a < 2 ^ 31) (h : nI a - nI 1 < 0) : a = 0 := by
  rcases Nat.eq_zero_or_pos a with e | e
  · exact e
  · rw [pk_sub e] at h
    exact absurd h (nI_pos (by omega))
theorem nneg1 {a : Nat} (h : ¬ nI a - nI 1 < 0) : 1 ≤ a := by
  rcases Nat.eq_zero_or_pos a with e | e
  · subst e; exact absurd (by decide +kernel) h
  · exact e
theorem en_neg {x : Option Nat} (h : en x < 0) (hx : ∀ i, x = some i → i < 2 ^ 31) : x = none := by
  cases x with
  | none => rfl
  | some i => exact absurd h (nI_pos (hx i rfl))
theorem en_nn {x : Option Nat} (h : ¬ en x < 0) : ∃ t, x = some t := by
  cases x with
  | none => exact absurd (by decide +kernel) h
  | some t => exact ⟨t, rfl⟩
theorem en_some {x : Option Nat} (h : ¬ en x = -(nI 1)) : ∃ t, x = some t := by
  cases x with
  | none => exact absurd rfl h
  | some t => exact ⟨t, rfl⟩
