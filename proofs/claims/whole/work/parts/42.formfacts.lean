/-! what is known of the forms when all works are read -/
theorem LK_T {V σ' : Mm} (h : ∀ w, w < 5 → RD V w σ') {q t : Nat} (hq : okc (gC V) q) (ht : t < vR V 0) : σ' 26 (q + t) = LT V (q + t) := by
  obtain ⟨h1, h2, h3⟩ := okc_w hq
  have a := ((h _ h1).1.2 (q % 50 + t) (by unfold gC at h2; omega)).1
  rw [← Nat.add_assoc, h3] at a
  exact a
theorem lkP_e {V σ' : Mm} (h : ∀ w, w < 5 → RD V w σ') {p q : Nat} (hp : okc (gC V) p) (hq : okc (gC V) q) : lkP (σ' 26) (vR V 0) p q ↔ lkP (LT V) (vR V 0) p q := by
  unfold lkP
  rw [lkC_e (fun t ht => ⟨LK_T h hp ht, LK_T h hq ht⟩)]
theorem hsW_e {V σ' : Mm} (h : ∀ w, w < 5 → RD V w σ') {v x : Nat} (hx : okc (gC V) x) : hsW (gC V) (σ' 26) (vR V 0) 250 v x ↔ hsW (gC V) (LT V) (vR V 0) 250 v x := by
  constructor
  · rintro ⟨q, h1, h2, h3, h4⟩; exact ⟨q, h1, h2, h3, (lkP_e h h2 hx).mp h4⟩
  · rintro ⟨q, h1, h2, h3, h4⟩; exact ⟨q, h1, h2, h3, (lkP_e h h2 hx).mpr h4⟩
theorem hsW_l {n : Nat → Nat} {T : Nat → Int32} {K P v x y : Nat} (h : lkP T K x y) : hsW n T K P v x ↔ hsW n T K P v y := by
  constructor
  · rintro ⟨q, h1, h2, h3, h4⟩; exact ⟨q, h1, h2, h3, lkP_t h4 h⟩
  · rintro ⟨q, h1, h2, h3, h4⟩; exact ⟨q, h1, h2, h3, lkP_t h4 (lkP_s h)⟩
/-- a cell whose gram no earlier cell has -/
noncomputable def fst1 (V : Mm) (p : Nat) : Bool := pz (okc (gC V) p ∧ ∀ q, q < p → okc (gC V) q → ¬ lkP (LT V) (vR V 0) q p)
noncomputable def UG (V : Mm) : Nat := cB (fst1 V) 250
theorem cB_enum {b : Nat → Bool} {c : Nat → Nat} : ∀ {P F : Nat}, (∀ f g, f < g → g < F → c f < c g) → (∀ f, f < F → c f < P ∧ b (c f) = true) → (∀ p, p < P → b p = true → ∃ f, f < F ∧ c f = p) → cB b P = F
  | 0, F, h1, h2, h3 => by
    rcases Nat.eq_zero_or_pos F with e | e
    · rw [e]; rfl
    · have := (h2 0 e).1; omega
  | P + 1, F, h1, h2, h3 => by
    cases e : b P with
    | true =>
      obtain ⟨f, hf, hc⟩ := h3 P (by omega) e
      have hfF : F = f + 1 := by
        rcases Nat.lt_or_ge (f + 1) F with g | g
        · have a := h1 f (f + 1) (by omega) g
          have b := (h2 (f + 1) g).1
          omega
        · omega
      have ih := cB_enum (b := b) (c := c) (P := P) (F := f) (fun a b h g => h1 a b h (by omega)) (fun a ha => ⟨by have := h1 a f ha hf; omega, (h2 a (by omega)).2⟩) (fun p hp hb => by
        obtain ⟨f2, hf2, hc2⟩ := h3 p (by omega) hb
        refine ⟨f2, ?_, hc2⟩
        rcases Nat.lt_or_ge f2 f with g | g
        · exact g
        · have : f2 = f := by omega
          subst this
          omega)
      rw [cB_y e, ih, hfF]
    | false =>
      have ih := cB_enum (b := b) (c := c) (P := P) (F := F) h1 (fun f hf => ⟨by
        have a := (h2 f hf).1
        have : c f ≠ P := fun z => by have := (h2 f hf).2; rw [z, e] at this; cases this
        omega, (h2 f hf).2⟩) (fun p hp hb => h3 p (by omega) hb)
      rw [cB_n e, ih]
def FX (V σ' : Mm) (F : Nat) : Prop := F ≤ 250 ∧ σ' 31 0 = nI F ∧ F = UG V ∧ (∀ p, okc (gC V) p → ∃ f, f < F ∧ σ' 29 p = nI f ∧ σ' 35 f = nI (WN V p) ∧ (decide (σ' 35 f ≥ σ' 31 8) || decide (σ' 38 f ≠ 0)) = CM V p) ∧ (∀ p q, okc (gC V) p → okc (gC V) q → (σ' 29 p = σ' 29 q ↔ lkP (LT V) (vR V 0) p q)) ∧ (∀ f, f < F → ∃ p, okc (gC V) p ∧ σ' 29 p = nI f)
theorem LK_FX {V σ σ' : Mm} (h : LK V σ σ') : ∃ F, FX V σ' F ∧ ∀ f, f < F → σ' 37 f = nI 0 := by
  obtain ⟨hd, ⟨F, c, hFI⟩, hm, -⟩ := h
  have hF := FI_F hFI
  have hun := fun f g hf hg hl => FI_unlike hFI (f := f) (g := g) hf hg hl
  obtain ⟨h1, h2, h3, h4, h5, h6⟩ := hFI
  have key : ∀ p, okc (gC V) p → ∃ f, f < F ∧ σ' 29 p = nI f ∧ lkP (LT V) (vR V 0) p (c f) := fun p hp => by
    obtain ⟨f, a, b, d⟩ := h4 p hp.1 hp
    exact ⟨f, a, b, (lkP_e hd hp (h2 f a).1).mp d⟩
  refine ⟨F, ⟨hF, h1.1, ?_, fun p hp => ?_, fun p q hp hq => ?_, fun f hf => ?_⟩, fun f hf => (h5 f hf).2.1⟩
  · refine (cB_enum (c := c) h3 (fun f hf => ⟨(h2 f hf).2.1, pz_t ⟨(h2 f hf).1, fun q hq ho hl => (h2 f hf).2.2 q hq ho ((lkP_e hd ho (h2 f hf).1).mpr hl)⟩⟩) (fun p hp hb => ?_)).symm
    have hb2 : okc (gC V) p ∧ ∀ q, q < p → okc (gC V) q → ¬ lkP (LT V) (vR V 0) q p := by
      by_cases g : okc (gC V) p ∧ ∀ q, q < p → okc (gC V) q → ¬ lkP (LT V) (vR V 0) q p
      · exact g
      · unfold fst1 at hb; rw [pz_f g] at hb; cases hb
    obtain ⟨f, a, b, d⟩ := key p hb2.1
    refine ⟨f, a, ?_⟩
    rcases Nat.lt_trichotomy (c f) p with e | e | e
    · exact absurd (lkP_s d) (hb2.2 _ e (h2 f a).1)
    · exact e
    · exact absurd ((lkP_e hd hb2.1 (h2 f a).1).mpr d) ((h2 f a).2.2 p e hb2.1)
  · obtain ⟨f, a, b, d⟩ := key p hp
    obtain ⟨e1, -, e3⟩ := h5 f a
    have hw : ∀ v, hsW (gC V) (σ' 26) (vR V 0) 250 v (c f) ↔ hsW (gC V) (LT V) (vR V 0) 250 v p := fun v => (hsW_e hd (h2 f a).1).trans (hsW_l (lkP_s d))
    have q1 : nW (gC V) (σ' 26) (vR V 0) 250 (c f) = WN V p := cB_congr fun v _ => pz_c (hw v)
    have q2 : pz (hsB (gC V) (σ' 26) (vR V 0) 250 (V 4 3) (c f)) = pz (hsB (gC V) (LT V) (vR V 0) 250 (V 4 3) p) := pz_c ⟨fun ⟨v, z1, z2, z3⟩ => ⟨v, z1, z2, (hw v).mp z3⟩, fun ⟨v, z1, z2, z3⟩ => ⟨v, z1, z2, (hw v).mpr z3⟩⟩
    refine ⟨f, a, b, by rw [e1, q1], ?_⟩
    unfold CM
    rw [e1, q1, hm, e3, q2]
    congr 1
    cases pz (hsB (gC V) (LT V) (vR V 0) 250 (V 4 3) p) <;> decide
  · obtain ⟨f, a, b, d⟩ := key p hp
    obtain ⟨g, a2, b2, d2⟩ := key q hq
    rw [b, b2, nI_eq (by omega) (by omega)]
    constructor
    · intro e; subst e; exact lkP_t d (lkP_s d2)
    · intro e
      exact hun f g a a2 ((lkP_e hd (h2 f a).1 (h2 g a2).1).mpr (lkP_t (lkP_s d) (lkP_t e d2)))
  · obtain ⟨a, b, d⟩ := h2 f hf
    obtain ⟨g, a2, b2, d2⟩ := h4 (c f) b a
    have e := hun f g hf a2 d2
    subst e
    exact ⟨c f, a, b2⟩
