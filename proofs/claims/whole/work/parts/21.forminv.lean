/-! the forms of all grams -/
noncomputable def pz (P : Prop) : Bool := @decide P (Classical.propDecidable P)
theorem pz_t {P : Prop} (h : P) : pz P = true := @decide_eq_true P (Classical.propDecidable P) h
theorem pz_f {P : Prop} (h : ¬ P) : pz P = false := @decide_eq_false P (Classical.propDecidable P) h
theorem pz_c {P Q : Prop} (h : P ↔ Q) : pz P = pz Q := by rw [propext h]
def okc (n : Nat → Nat) (p : Nat) : Prop := p < 250 ∧ p % 50 < n (p / 50)
def lkP (T : Nat → Int32) (K p q : Nat) : Prop := lkC T p q K = true
theorem lkP_r (T : Nat → Int32) (K p : Nat) : lkP T K p p := (lkC_iff T p p K).mpr fun _ _ => rfl
theorem lkP_s {T : Nat → Int32} {K p q : Nat} (h : lkP T K p q) : lkP T K q p := (lkC_iff T q p K).mpr fun t ht => ((lkC_iff T p q K).mp h t ht).symm
theorem lkP_t {T : Nat → Int32} {K p q r : Nat} (h : lkP T K p q) (g : lkP T K q r) : lkP T K p r := (lkC_iff T p r K).mpr fun t ht => ((lkC_iff T p q K).mp h t ht).trans ((lkC_iff T q r K).mp g t ht)
/-- whether a work has the gram at cell x, by its cells ahead of P -/
def hsW (n : Nat → Nat) (T : Nat → Int32) (K P v x : Nat) : Prop := ∃ q, q < P ∧ okc n q ∧ q / 50 = v ∧ lkP T K q x
def cB (b : Nat → Bool) : Nat → Nat
  | 0 => 0
  | v + 1 => cB b v + (if b v = true then 1 else 0)
theorem cB_congr {b b' : Nat → Bool} : ∀ {k : Nat}, (∀ v, v < k → b v = b' v) → cB b k = cB b' k
  | 0, _ => rfl
  | k + 1, h => by
    simp only [cB]
    rw [cB_congr (fun v hv => h v (by omega)), h k (by omega)]
theorem cB_one {b b' : Nat → Bool} {w : Nat} (h0 : b w = false) (h1 : b' w = true) (h : ∀ v, v ≠ w → b v = b' v) : ∀ {k : Nat}, w < k → cB b' k = cB b k + 1
  | 0, hk => by omega
  | k + 1, hk => by
    simp only [cB]
    rcases Nat.lt_or_ge w k with g | g
    · rw [cB_one h0 h1 h g, h k (by omega)]; omega
    · have e : w = k := by omega
      subst e
      rw [h0, h1, cB_congr (fun v hv => (h v (by omega)).symm)]
      simp
theorem cB_none {b : Nat → Bool} : ∀ {k : Nat}, (∀ v, v < k → b v = false) → cB b k = 0
  | 0, _ => rfl
  | k + 1, h => by
    simp only [cB]
    rw [cB_none (fun v hv => h v (by omega)), h k (by omega)]
    rfl
noncomputable def nW (n : Nat → Nat) (T : Nat → Int32) (K P x : Nat) : Nat := cB (fun v => pz (hsW n T K P v x)) 5
/-- whether the base work has it -/
def hsB (n : Nat → Nat) (T : Nat → Int32) (K P : Nat) (base : Int32) (x : Nat) : Prop := ∃ v, v < 5 ∧ nI v = base ∧ hsW n T K P v x
/-- the forms of the cells ahead of P -/
def FI (σ : Mm) (n : Nat → Nat) (K : Nat) (base : Int32) (P F : Nat) (c : Nat → Nat) : Prop :=
  FC σ K F c ∧ (∀ f, f < F → okc n (c f) ∧ c f < P ∧ ∀ q, q < c f → okc n q → ¬ lkP (σ 26) K q (c f)) ∧ (∀ f g, f < g → g < F → c f < c g) ∧
  (∀ p, p < P → okc n p → ∃ f, f < F ∧ σ 29 p = nI f ∧ lkP (σ 26) K p (c f)) ∧
  (∀ f, f < F → σ 35 f = nI (nW n (σ 26) K P (c f)) ∧ σ 37 f = nI 0 ∧ σ 38 f = bz (pz (hsB n (σ 26) K P base (c f)))) ∧
  (∀ f, f < F → ∃ l, l < 5 ∧ σ 36 f = nI l ∧ hsW n (σ 26) K P l (c f) ∧ ∀ v, hsW n (σ 26) K P v (c f) → v ≤ l)
theorem FI_F {σ : Mm} {n : Nat → Nat} {K P F : Nat} {base : Int32} {c : Nat → Nat} (h : FI σ n K base P F c) : F ≤ P := by
  obtain ⟨-, h2, h3, -⟩ := h
  have key : ∀ f, f < F → f ≤ c f := by
    intro f
    induction f with
    | zero => intro _; omega
    | succ f ih => intro hf; have := h3 f (f + 1) (by omega) hf; have := ih (by omega); omega
  rcases Nat.eq_zero_or_pos F with e | e
  · omega
  · have := key (F - 1) (by omega)
    have := (h2 (F - 1) (by omega)).2.1
    omega
theorem FI_unlike {σ : Mm} {n : Nat → Nat} {K P F : Nat} {base : Int32} {c : Nat → Nat} (h : FI σ n K base P F c) {f g : Nat} (hf : f < F) (hg : g < F) (hl : lkP (σ 26) K (c f) (c g)) : f = g := by
  obtain ⟨-, h2, h3, -⟩ := h
  rcases Nat.lt_trichotomy f g with e | e | e
  · exact absurd hl ((h2 g hg).2.2 _ (h3 f g e hg) (h2 f hf).1)
  · exact e
  · exact absurd (lkP_s hl) ((h2 f hf).2.2 _ (h3 g f e hf) (h2 g hg).1)
theorem hsW_1 {n : Nat → Nat} {T : Nat → Int32} {K P v x : Nat} (hP : okc n P) : hsW n T K (P + 1) v x ↔ hsW n T K P v x ∨ (v = P / 50 ∧ lkP T K P x) := by
  constructor
  · rintro ⟨q, h1, h2, h3, h4⟩
    rcases Nat.lt_or_ge q P with g | g
    · exact Or.inl ⟨q, g, h2, h3, h4⟩
    · have e : q = P := by omega
      subst e
      exact Or.inr ⟨h3.symm, h4⟩
  · rintro (⟨q, h1, h2, h3, h4⟩ | ⟨rfl, h⟩)
    · exact ⟨q, by omega, h2, h3, h4⟩
    · exact ⟨P, by omega, hP, rfl, h⟩
theorem hsW_0 {n : Nat → Nat} {T : Nat → Int32} {K P P' v x : Nat} (hle : P ≤ P') (h : ∀ q, P ≤ q → q < P' → ¬ okc n q) : hsW n T K P' v x ↔ hsW n T K P v x := by
  constructor
  · rintro ⟨q, h1, h2, h3, h4⟩
    rcases Nat.lt_or_ge q P with g | g
    · exact ⟨q, g, h2, h3, h4⟩
    · exact absurd h2 (h q g h1)
  · rintro ⟨q, h1, h2, h3, h4⟩
    exact ⟨q, by omega, h2, h3, h4⟩
theorem hsB_c {n : Nat → Nat} {T : Nat → Int32} {K P P' x x' : Nat} {base : Int32} (h : ∀ v, hsW n T K P v x ↔ hsW n T K P' v x') : hsB n T K P base x ↔ hsB n T K P' base x' := by
  constructor
  · rintro ⟨v, h1, h2, h3⟩; exact ⟨v, h1, h2, (h v).mp h3⟩
  · rintro ⟨v, h1, h2, h3⟩; exact ⟨v, h1, h2, (h v).mpr h3⟩
theorem nW_c {n : Nat → Nat} {T : Nat → Int32} {K P P' x x' : Nat} (h : ∀ v, hsW n T K P v x ↔ hsW n T K P' v x') : nW n T K P x = nW n T K P' x' := cB_congr fun v _ => pz_c (h v)
/-- cells that are no grams change nothing -/
theorem FI_skip {σ : Mm} {n : Nat → Nat} {K P P' F : Nat} {base : Int32} {c : Nat → Nat} (h : FI σ n K base P F c) (hle : P ≤ P') (hn : ∀ q, P ≤ q → q < P' → ¬ okc n q) : FI σ n K base P' F c := by
  obtain ⟨h1, h2, h3, h4, h5, h6⟩ := h
  refine ⟨h1, fun f hf => ⟨(h2 f hf).1, by have := (h2 f hf).2.1; omega, (h2 f hf).2.2⟩, h3, fun p hp ho => ?_, fun f hf => ?_, fun f hf => ?_⟩
  · rcases Nat.lt_or_ge p P with g | g
    · exact h4 p g ho
    · exact absurd ho (hn p g hp)
  · obtain ⟨a, b, d⟩ := h5 f hf
    exact ⟨by rw [a, nW_c (fun v => (hsW_0 hle hn).symm)], b, by rw [d, pz_c (hsB_c fun v => (hsW_0 hle hn).symm)]⟩
  · obtain ⟨l, a, b, d, e⟩ := h6 f hf
    exact ⟨l, a, b, (hsW_0 hle hn).mpr d, fun v hv => e v ((hsW_0 hle hn).mp hv)⟩
theorem bz_or (a b : Bool) : bz a ||| bz b = bz (a || b) := by cases a <;> cases b <;> decide +kernel
theorem hsW_lt {n : Nat → Nat} {T : Nat → Int32} {K P v x : Nat} (h : hsW n T K P v x) : v ≤ P / 50 := by
  obtain ⟨q, h1, -, h3, -⟩ := h
  rw [← h3]
  exact Nat.div_le_div_right (by omega)
/-- what seeing a form does to the rows -/
theorem fSee_n (f w : Nat) (base : Int32) (σ : Mm) {k : Nat} (h1 : k ≠ 35) (h2 : k ≠ 36) (h3 : k ≠ 38) : fSee f w base σ k = σ k := by
  unfold fSee
  split
  · rfl
  · rw [sw_ne _ _ _ h3, sw_ne _ _ _ h1, sw_ne _ _ _ h2]
theorem fSee_o (f w : Nat) (base : Int32) (σ : Mm) {i : Nat} (h : i ≠ f) : fSee f w base σ 35 i = σ 35 i ∧ fSee f w base σ 36 i = σ 36 i ∧ fSee f w base σ 38 i = σ 38 i := by
  unfold fSee
  split
  · exact ⟨rfl, rfl, rfl⟩
  · simp [sw, sr, upd, h]
theorem fSee_s (f w : Nat) (base : Int32) (σ : Mm) (h : ¬ σ 36 f = nI w) : fSee f w base σ 35 f = σ 35 f + nI 1 ∧ fSee f w base σ 36 f = nI w ∧ fSee f w base σ 38 f = (σ 38 f ||| bz (decide (nI w = base))) := by
  unfold fSee
  rw [if_neg h]
  simp [sw, sr, upd]
