/-! bits; the group of a work: the least set that holds it and all that are bound to one in it -/
theorem or_nI {a b : Nat} (ha : a < 32) (hb : b < 32) : nI a ||| nI b = nI (a ||| b) := by
  have h : ∀ a, a < 32 → ∀ b, b < 32 → nI a ||| nI b = nI (a ||| b) := by decide +kernel
  exact h a ha b hb
theorem shl_nI {v : Nat} (h : v < 5) : (nI 1) <<< ((nI v) &&& 31) = nI (2 ^ v) := by
  have h2 : ∀ v, v < 5 → (nI 1) <<< ((nI v) &&& 31) = nI (2 ^ v) := by decide +kernel
  exact h2 v h
theorem bit_nI {S a : Nat} (hS : S < 32) (ha : a < 5) : ((nI S) >>> ((nI a) &&& 31)) &&& nI 1 = nI (b1N (S.testBit a)) := by
  have h : ∀ S, S < 32 → ∀ a, a < 5 → ((nI S) >>> ((nI a) &&& 31)) &&& nI 1 = nI (b1N (S.testBit a)) := by decide +kernel
  exact h S hS a ha
theorem pow5 {v : Nat} (h : v < 5) : 2 ^ v < 32 := by
  have h2 : ∀ v, v < 5 → 2 ^ v < 32 := by decide
  exact h2 v h
theorem or32 {a b : Nat} (ha : a < 32) (hb : b < 32) : a ||| b < 32 := Nat.or_lt_two_pow (n := 5) ha hb
theorem bit_e {S S' : Nat} (h : S < 32) (h2 : S' < 32) (e : ∀ b, b < 5 → S.testBit b = S'.testBit b) : S = S' := by
  refine Nat.eq_of_testBit_eq fun i => ?_
  rcases Nat.lt_or_ge i 5 with g | g
  · exact e i g
  · have q : (32 : Nat) ≤ 2 ^ i := Nat.pow_le_pow_right (n := 2) (by omega) g
    rw [Nat.testBit_lt_two_pow (Nat.lt_of_lt_of_le h q), Nat.testBit_lt_two_pow (Nat.lt_of_lt_of_le h2 q)]
def GRc (bd : Nat → Nat → Bool) (T : Nat) : Prop := ∀ a b, a < 5 → b < 5 → T.testBit a = true → bd a b = true → T.testBit b = true
def GRm (bd : Nat → Nat → Bool) (w S : Nat) : Prop := S < 32 ∧ S.testBit w = true ∧ ∀ T, T.testBit w = true → GRc bd T → ∀ b, b < 5 → S.testBit b = true → T.testBit b = true
def GR (bd : Nat → Nat → Bool) (w S : Nat) : Prop := GRm bd w S ∧ GRc bd S
theorem GR_u {bd : Nat → Nat → Bool} {w S S' : Nat} (h : GR bd w S) (h2 : GR bd w S') : S = S' := bit_e h.1.1 h2.1.1 fun b hb => by
  have a1 := h.1.2.2 S' h2.1.2.1 h2.2 b hb
  have a2 := h2.1.2.2 S h.1.2.1 h.2 b hb
  cases e1 : S.testBit b <;> cases e2 : S'.testBit b
  · rfl
  · rw [a2 e2] at e1; cases e1
  · rw [a1 e1] at e2; cases e2
  · rfl
theorem GRm_0 (bd : Nat → Nat → Bool) {w : Nat} (hw : w < 5) : GRm bd w (2 ^ w) := by
  refine ⟨pow5 hw, Nat.testBit_two_pow_self, fun T h1 _ b _ hb => ?_⟩
  rw [Nat.testBit_two_pow, decide_eq_true_eq] at hb
  rw [← hb]; exact h1
/-- one that is in it brings those that are bound to it -/
theorem GRm_or {bd : Nat → Nat → Bool} {w S a m : Nat} (h : GRm bd w S) (ha : a < 5) (hS : S.testBit a = true) (hm : m < 32) (e : ∀ b, b < 5 → m.testBit b = true → bd a b = true) : GRm bd w (S ||| m) := by
  refine ⟨or32 h.1 hm, by rw [Nat.testBit_or, h.2.1]; rfl, fun T h1 h2 b hb hq => ?_⟩
  rw [Nat.testBit_or, Bool.or_eq_true] at hq
  rcases hq with hq | hq
  · exact h.2.2 T h1 h2 b hb hq
  · exact h2 a b ha hb (h.2.2 T h1 h2 a ha hS) (e b hb hq)
def pop (S : Nat) : Nat := cB (fun u => S.testBit u) 5
theorem cB_m {b b' : Nat → Bool} : ∀ {n : Nat}, (∀ u, u < n → b u = true → b' u = true) → cB b n ≤ cB b' n
  | 0, _ => Nat.le_refl 0
  | n + 1, h => by
    have ih := cB_m (b := b) (b' := b') (n := n) (fun u hu => h u (by omega))
    have := h n (by omega)
    rw [cB_1, cB_1]
    cases e : b n
    · simp; omega
    · rw [this e]; omega
theorem cB_lt {b b' : Nat → Bool} : ∀ {n : Nat}, (∀ u, u < n → b u = true → b' u = true) → (∃ u, u < n ∧ b u = false ∧ b' u = true) → cB b n < cB b' n
  | 0, _, ⟨u, h, _⟩ => by omega
  | n + 1, h, ⟨u, hu, e1, e2⟩ => by
    rw [cB_1, cB_1]
    by_cases q : u = n
    · subst q
      rw [e1, e2]
      have := cB_m (b := b) (b' := b') (n := u) (fun v hv => h v (by omega))
      simp
      omega
    · have ih := cB_lt (b := b) (b' := b') (n := n) (fun v hv => h v (by omega)) ⟨u, by omega, e1, e2⟩
      have := h n (by omega)
      cases e : b n
      · simp; omega
      · rw [this e]; omega
theorem pop_lt {S S' : Nat} (h : S < 32) (h2 : S' < 32) (e : ∀ b, b < 5 → S.testBit b = true → S'.testBit b = true) (hn : S ≠ S') : pop S < pop S' := by
  refine cB_lt e ?_
  by_cases q : ∃ u, u < 5 ∧ S.testBit u = false ∧ S'.testBit u = true
  · exact q
  · refine absurd (bit_e h h2 fun b hb => ?_) hn
    cases e1 : S.testBit b <;> cases e2 : S'.testBit b
    · rfl
    · exact absurd ⟨b, hb, e1, e2⟩ q
    · rw [e b hb e1] at e2; cases e2
    · rfl
theorem pop_1 {S w : Nat} (hw : w < 5) (h : S.testBit w = true) : 1 ≤ pop S := by
  have := cB_lt (b := fun _ => false) (b' := fun u => S.testBit u) (n := 5) (fun _ _ z => by cases z) ⟨w, hw, rfl, h⟩
  exact Nat.lt_of_le_of_lt (Nat.zero_le _) this
/-! who is bound to whom -/
noncomputable def enB (V : Mm) (n w : Nat) : Bool := decide (0 < n ∧ vR V 5 * lC V w ≤ 100 * n)
noncomputable def cL (V : Mm) (w v : Nat) : Nat := cB (cv2 (mB (ML V w v (vR V 4))) (mG (ML V w v (vR V 4))) (ML V w v (vR V 4)).length) 50
noncomputable def cO (V : Mm) (w v : Nat) : Nat := cB (cv2 (mO (ML V w v (vR V 4))) (mG (ML V w v (vR V 4))) (ML V w v (vR V 4)).length) 50
noncomputable def bdP (V : Mm) (w v : Nat) : Bool := enB V (cL V w v) w || enB V (cO V w v) v
noncomputable def bd (V : Mm) (a b : Nat) : Bool := bif Nat.blt a b then bdP V a b else bif Nat.blt b a then bdP V b a else false
theorem bd_lt {V : Mm} {a b : Nat} (h : a < b) : bd V a b = bdP V a b := by unfold bd; rw [show Nat.blt a b = true from by rw [Nat.blt_eq]; exact h]; rfl
theorem blt_f {a b : Nat} (h : ¬ a < b) : Nat.blt a b = false := by
  cases e : Nat.blt a b with
  | false => rfl
  | true => rw [Nat.blt_eq] at e; exact absurd e h
theorem bd_gt {V : Mm} {a b : Nat} (h : b < a) : bd V a b = bdP V b a := by unfold bd; rw [blt_f (show ¬ a < b by omega), show Nat.blt b a = true from by rw [Nat.blt_eq]; exact h]; rfl
theorem bd_eq {V : Mm} {a : Nat} : bd V a a = false := by unfold bd; rw [blt_f (Nat.lt_irrefl a)]; rfl
def pd (w v a b : Nat) : Bool := decide (min a b < w ∨ (min a b = w ∧ max a b < v))
def BI (V τ : Mm) (w v : Nat) : Prop := ∀ a, a < 5 → ∃ m, m < 32 ∧ τ 60 a = nI m ∧ ∀ b, b < 5 → m.testBit b = (bd V a b && pd w v a b)
theorem BI_c {V τ : Mm} {w v w' v' : Nat} (h : BI V τ w v) (e : ∀ a b, a < 5 → b < 5 → a ≠ b → pd w v a b = pd w' v' a b) : BI V τ w' v' := fun a ha => by
  obtain ⟨m, h1, h2, h3⟩ := h a ha
  refine ⟨m, h1, h2, fun b hb => ?_⟩
  rw [h3 b hb]
  by_cases q : a = b
  · subst q; rw [bd_eq]; rfl
  · rw [e a b ha hb q]
theorem pd_c {w v w' v' a b : Nat} (h : (min a b < w ∨ (min a b = w ∧ max a b < v)) ↔ (min a b < w' ∨ (min a b = w' ∧ max a b < v'))) : pd w v a b = pd w' v' a b := decide_eq_decide.mpr h
theorem BI_n {V τ : Mm} {w v : Nat} (h : BI V τ w v) (hwv : w < v) (e : bdP V w v = false) : BI V τ w (v + 1) := fun a ha => by
  obtain ⟨m, h1, h2, h3⟩ := h a ha
  refine ⟨m, h1, h2, fun b hb => ?_⟩
  rw [h3 b hb]
  by_cases q : min a b = w ∧ max a b = v
  · have : bd V a b = false := by
      rcases Nat.lt_trichotomy a b with g | g | g
      · rw [bd_lt g, show a = w by omega, show b = v by omega]; exact e
      · omega
      · rw [bd_gt g, show b = w by omega, show a = v by omega]; exact e
    rw [this]; rfl
  · rw [pd_c (w' := w) (v' := v + 1) (by omega)]
theorem BI_y {V τ : Mm} {w v m1 m2 : Nat} (h : BI V τ w v) (hwv : w < v) (hv5 : v < 5) (e : bdP V w v = true) (e1 : τ 60 w = nI m1) (h1 : m1 < 32) (e2 : τ 60 v = nI m2) (h2 : m2 < 32) : BI V (sw (sw τ 60 w (nI (m1 ||| 2 ^ v))) 60 v (nI (m2 ||| 2 ^ w))) w (v + 1) := fun a ha => by
  obtain ⟨m, g1, g2, g3⟩ := h a ha
  by_cases qv : a = v
  · subst qv
    rw [e2] at g2
    have : m2 = m := (nI_eq (by omega) (by omega)).mp g2
    subst this
    refine ⟨m2 ||| 2 ^ w, or32 h2 (pow5 (by omega)), sw_eq, fun b hb => ?_⟩
    rw [Nat.testBit_or, g3 b hb, Nat.testBit_two_pow]
    by_cases q : w = b
    · subst q
      rw [bd_gt hwv, e, decide_eq_true rfl, Bool.or_true, show pd w (a + 1) a w = true from decide_eq_true (by omega)]; rfl
    · rw [decide_eq_false q, Bool.or_false]
      by_cases q2 : a = b
      · subst q2; rw [bd_eq]; rfl
      · rw [pd_c (w' := w) (v' := a + 1) (by omega)]
  · rw [sw_o qv]
    by_cases qw : a = w
    · subst qw
      rw [e1] at g2
      have : m1 = m := (nI_eq (by omega) (by omega)).mp g2
      subst this
      refine ⟨m1 ||| 2 ^ v, or32 h1 (pow5 hv5), sw_eq, fun b hb => ?_⟩
      rw [Nat.testBit_or, g3 b hb, Nat.testBit_two_pow]
      by_cases q : v = b
      · subst q
        rw [bd_lt hwv, e, decide_eq_true rfl, Bool.or_true, show pd a (v + 1) a v = true from decide_eq_true (by omega)]; rfl
      · rw [decide_eq_false q, Bool.or_false]
        by_cases q2 : a = b
        · subst q2; rw [bd_eq]; rfl
        · rw [pd_c (w' := a) (v' := v + 1) (by omega)]
    · rw [sw_o qw]
      refine ⟨m, g1, g2, fun b hb => ?_⟩
      rw [g3 b hb]
      by_cases q2 : a = b
      · subst q2; rw [bd_eq]; rfl
      · rw [pd_c (w' := w) (v' := v + 1) (by omega)]
theorem cL_50 (V : Mm) (w v : Nat) : cL V w v ≤ 50 := cB_le _ 50
theorem cO_50 (V : Mm) (w v : Nat) : cO V w v ≤ 50 := cB_le _ 50
