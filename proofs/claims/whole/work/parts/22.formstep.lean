theorem nI_inj5 {a b : Nat} (ha : a < 5) (hb : b < 5) (h : nI a = nI b) : a = b := (nI_eq (by omega) (by omega)).mp h
theorem FI_found {σ : Mm} {n : Nat → Nat} {K P F f w : Nat} {base : Int32} {c : Nat → Nat} (h : FI σ n K base P F c) (hP : okc n P) (hf : f < F) (hw : P / 50 = w) (hw5 : w < 5) (hl : lkP (σ 26) K (c f) P) : FI (fSee f w base (sw σ 29 P (nI f))) n K base (P + 1) F c := by
  have hun := fun i (hi : i < F) (hx : lkP (σ 26) K P (c i)) => FI_unlike h hf hi (lkP_t hl hx)
  obtain ⟨h1, h2, h3, h4, h5, h6⟩ := h
  have hk : ∀ k, k ≠ 35 → k ≠ 36 → k ≠ 38 → k ≠ 29 → fSee f w base (sw σ 29 P (nI f)) k = σ k := fun k a b d e => by rw [fSee_n _ _ _ _ a b d, sw_ne _ _ _ e]
  have h26 := hk 26 (by decide) (by decide) (by decide) (by decide)
  have h28 := hk 28 (by decide) (by decide) (by decide) (by decide)
  have h29 : fSee f w base (sw σ 29 P (nI f)) 29 = upd (σ 29) P (nI f) := by rw [fSee_n _ _ _ _ (by decide) (by decide) (by decide)]; unfold sw; rw [sr_s]
  have t35 : ∀ i, sw σ 29 P (nI f) 35 i = σ 35 i := fun i => by rw [sw_ne _ _ _ (by decide)]
  have t36 : ∀ i, sw σ 29 P (nI f) 36 i = σ 36 i := fun i => by rw [sw_ne _ _ _ (by decide)]
  have t38 : ∀ i, sw σ 29 P (nI f) 38 i = σ 38 i := fun i => by rw [sw_ne _ _ _ (by decide)]
  have ho : ∀ i, i < F → i ≠ f → ∀ v, hsW n (σ 26) K (P + 1) v (c i) ↔ hsW n (σ 26) K P v (c i) := fun i hi hne v => by
    rw [hsW_1 hP]
    constructor
    · rintro (g | ⟨-, g⟩)
      · exact g
      · exact absurd (hun i hi g).symm hne
    · exact Or.inl
  have hs' : ∀ v, hsW n (σ 26) K (P + 1) v (c f) ↔ hsW n (σ 26) K P v (c f) ∨ v = w := fun v => by
    rw [hsW_1 hP, hw]
    constructor
    · rintro (g | ⟨g, -⟩)
      · exact Or.inl g
      · exact Or.inr g
    · rintro (g | g)
      · exact Or.inl g
      · exact Or.inr ⟨g, lkP_s hl⟩
  refine ⟨⟨?_, ?_, ?_, ?_⟩, ?_, h3, ?_, ?_, ?_⟩
  · rw [hk 31 (by decide) (by decide) (by decide) (by decide)]; exact h1.1
  · rw [hk 34 (by decide) (by decide) (by decide) (by decide)]; exact h1.2.1
  · rw [hk 32 (by decide) (by decide) (by decide) (by decide), h28]; exact h1.2.2.1
  · rw [hk 33 (by decide) (by decide) (by decide) (by decide), h28]; exact h1.2.2.2
  · rw [h26]; exact fun i hi => ⟨(h2 i hi).1, by have := (h2 i hi).2.1; omega, (h2 i hi).2.2⟩
  · rw [h26, h29]
    intro p hp hok
    by_cases e : p = P
    · subst e
      exact ⟨f, hf, if_pos rfl, lkP_s hl⟩
    · obtain ⟨i, a, b, d⟩ := h4 p (by omega) hok
      exact ⟨i, a, by rw [← b]; exact if_neg e, d⟩
  · rw [h26]
    intro i hi
    obtain ⟨a, b, d⟩ := h5 i hi
    rw [hk 37 (by decide) (by decide) (by decide) (by decide)]
    by_cases e : i = f
    · subst e
      obtain ⟨l, l1, l2, l3, l4⟩ := h6 i hi
      by_cases g : l = w
      · have e1 : fSee i w base (sw σ 29 P (nI i)) = sw σ 29 P (nI i) := if_pos (by rw [t36, l2, g])
        have hx : ∀ v, hsW n (σ 26) K (P + 1) v (c i) ↔ hsW n (σ 26) K P v (c i) := fun v => by
          rw [hs']
          constructor
          · rintro (z | z)
            · exact z
            · rw [z, ← g]; exact l3
          · exact Or.inl
        rw [e1, t35, t38]
        exact ⟨by rw [a, nW_c (fun v => (hx v).symm)], b, by rw [d, pz_c (hsB_c fun v => (hx v).symm)]⟩
      · obtain ⟨q1, q2, q3⟩ := fSee_s i w base (sw σ 29 P (nI i)) (by rw [t36, l2]; exact fun z => g (nI_inj5 l1 hw5 z))
        have hnw : ¬ hsW n (σ 26) K P w (c i) := fun z => g (by have := l4 w z; have := hsW_lt l3; omega)
        rw [q1, q3, t35, t38, a, d]
        refine ⟨?_, b, ?_⟩
        · rw [nI_add]
          congr 1
          exact (cB_one (w := w) (pz_f hnw) (pz_t ((hs' w).mpr (Or.inr rfl))) (fun v hv => pz_c ⟨fun z => (hs' v).mpr (Or.inl z), fun z => ((hs' v).mp z).resolve_right hv⟩) hw5).symm
        · rw [bz_or]
          congr 1
          by_cases g1 : nI w = base
          · rw [decide_eq_true g1, Bool.or_true]
            exact (pz_t ⟨w, hw5, g1, (hs' w).mpr (Or.inr rfl)⟩).symm
          · rw [decide_eq_false g1, Bool.or_false]
            refine pz_c ⟨fun ⟨v, v1, v2, v3⟩ => ⟨v, v1, v2, (hs' v).mpr (Or.inl v3)⟩, fun ⟨v, v1, v2, v3⟩ => ⟨v, v1, v2, ((hs' v).mp v3).resolve_right (fun z => g1 (by rw [← z]; exact v2))⟩⟩
    · obtain ⟨q1, q2, q3⟩ := fSee_o f w base (sw σ 29 P (nI f)) e
      rw [q1, q3, t35, t38]
      exact ⟨by rw [a, nW_c (fun v => (ho i hi e v).symm)], b, by rw [d, pz_c (hsB_c fun v => (ho i hi e v).symm)]⟩
  · rw [h26]
    intro i hi
    obtain ⟨l, l1, l2, l3, l4⟩ := h6 i hi
    by_cases e : i = f
    · subst e
      by_cases g : l = w
      · have e1 : fSee i w base (sw σ 29 P (nI i)) = sw σ 29 P (nI i) := if_pos (by rw [t36, l2, g])
        refine ⟨l, l1, by rw [e1, t36, l2], (hs' l).mpr (Or.inl l3), fun v hv => ?_⟩
        rcases (hs' v).mp hv with z | z
        · exact l4 v z
        · omega
      · obtain ⟨q1, q2, q3⟩ := fSee_s i w base (sw σ 29 P (nI i)) (by rw [t36, l2]; exact fun z => g (nI_inj5 l1 hw5 z))
        refine ⟨w, hw5, q2, (hs' w).mpr (Or.inr rfl), fun v hv => ?_⟩
        rcases (hs' v).mp hv with z | z
        · have := hsW_lt z; omega
        · omega
    · obtain ⟨q1, q2, q3⟩ := fSee_o f w base (sw σ 29 P (nI f)) e
      exact ⟨l, l1, by rw [q2, t36, l2], (ho i hi e l).mpr l3, fun v hv => l4 v ((ho i hi e v).mp hv)⟩
/-- the rows of a new form -/
theorem fAdd_n (F h c : Nat) (σ : Mm) {k : Nat} (h1 : k ∉ [31, 32, 33, 34, 35, 36, 37, 38]) : fAdd F h c σ k = σ k := by
  simp only [List.mem_cons, List.not_mem_nil, or_false, not_or] at h1
  obtain ⟨a1, a2, a3, a4, a5, a6, a7, a8⟩ := h1
  unfold fAdd
  rw [sw_ne _ _ _ a1, sw_ne _ _ _ a2, sw_ne _ _ _ a8, sw_ne _ _ _ a7, sw_ne _ _ _ a6, sw_ne _ _ _ a5, sw_ne _ _ _ a3, sw_ne _ _ _ a4]
theorem fAdd_r (F h c : Nat) (σ : Mm) : fAdd F h c σ 31 = upd (σ 31) 0 (nI (F + 1)) ∧ fAdd F h c σ 32 = upd (σ 32) h (nI F) ∧ fAdd F h c σ 33 = upd (σ 33) F (σ 32 h) ∧ fAdd F h c σ 34 = upd (σ 34) F (nI c) ∧ fAdd F h c σ 35 = upd (σ 35) F (nI 0) ∧ fAdd F h c σ 36 = upd (σ 36) F (-(nI 1)) ∧ fAdd F h c σ 37 = upd (σ 37) F (nI 0) ∧ fAdd F h c σ 38 = upd (σ 38) F (nI 0) := by
  refine ⟨?_, ?_, ?_, ?_, ?_, ?_, ?_, ?_⟩ <;> simp [fAdd, sw, sr]
theorem upd_s (f : Nat → Int32) (k : Nat) (x : Int32) : upd f k x k = x := if_pos rfl
theorem upd_n (f : Nat → Int32) {k j : Nat} (x : Int32) (h : j ≠ k) : upd f k x j = f j := if_neg h
theorem pv_congr {hc hc' : Nat → Nat} {h : Nat} : ∀ {m : Nat}, (∀ i, i < m → hc i = hc' i) → pv hc h m = pv hc' h m
  | 0, _ => rfl
  | m + 1, e => by
    simp only [pv]
    rw [e m (by omega), pv_congr (fun i hi => e i (by omega))]
theorem FI_new {σ : Mm} {n : Nat → Nat} {K P F w : Nat} {base : Int32} {c : Nat → Nat} (h : FI σ n K base P F c) (hP : okc n P) (hPK : P + K ≤ 250) (hw : P / 50 = w) (hw5 : w < 5) (hno : ∀ i, i < F → ¬ lkP (σ 26) K (c i) P) :
    FI (fSee F w base (sw (fAdd F (hs (σ 28 P)) P σ) 29 P (nI F))) n K base (P + 1) (F + 1) (fun i => if i = F then P else c i) := by
  obtain ⟨h1, h2, h3, h4, h5, h6⟩ := h
  obtain ⟨r31, r32, r33, r34, r35, r36, r37, r38⟩ := fAdd_r F (hs (σ 28 P)) P σ
  generalize hτ : fAdd F (hs (σ 28 P)) P σ = τ at *
  have tk : ∀ k, k ∉ [31, 32, 33, 34, 35, 36, 37, 38] → τ k = σ k := fun k hk => by rw [← hτ]; exact fAdd_n _ _ _ _ hk
  have hk : ∀ k, k ≠ 35 → k ≠ 36 → k ≠ 38 → k ≠ 29 → fSee F w base (sw τ 29 P (nI F)) k = τ k := fun k a b d e => by rw [fSee_n _ _ _ _ a b d, sw_ne _ _ _ e]
  have h26 : fSee F w base (sw τ 29 P (nI F)) 26 = σ 26 := (hk 26 (by decide) (by decide) (by decide) (by decide)).trans (tk 26 (by decide))
  have h28 : fSee F w base (sw τ 29 P (nI F)) 28 = σ 28 := (hk 28 (by decide) (by decide) (by decide) (by decide)).trans (tk 28 (by decide))
  have h29 : fSee F w base (sw τ 29 P (nI F)) 29 = upd (σ 29) P (nI F) := by rw [fSee_n _ _ _ _ (by decide) (by decide) (by decide)]; unfold sw; rw [sr_s, tk 29 (by decide)]
  have t35 : ∀ i, sw τ 29 P (nI F) 35 i = upd (σ 35) F (nI 0) i := fun i => by rw [sw_ne _ _ _ (by decide), r35]
  have t36 : ∀ i, sw τ 29 P (nI F) 36 i = upd (σ 36) F (-(nI 1)) i := fun i => by rw [sw_ne _ _ _ (by decide), r36]
  have t38 : ∀ i, sw τ 29 P (nI F) 38 i = upd (σ 38) F (nI 0) i := fun i => by rw [sw_ne _ _ _ (by decide), r38]
  have hnq : ∀ q, q < P → okc n q → ¬ lkP (σ 26) K q P := fun q hq ho hx => by
    obtain ⟨i, a, -, d⟩ := h4 q hq ho
    exact hno i a (lkP_t (lkP_s d) hx)
  have ho : ∀ i, i < F → ∀ v, hsW n (σ 26) K (P + 1) v (c i) ↔ hsW n (σ 26) K P v (c i) := fun i hi v => by
    rw [hsW_1 hP]
    constructor
    · rintro (g | ⟨-, g⟩)
      · exact g
      · exact absurd (lkP_s g) (hno i hi)
    · exact Or.inl
  have hs' : ∀ v, hsW n (σ 26) K (P + 1) v P ↔ v = w := fun v => by
    rw [hsW_1 hP, hw]
    constructor
    · rintro (⟨q, q1, q2, q3, q4⟩ | ⟨g, -⟩)
      · exact absurd q4 (hnq q q1 q2)
      · exact g
    · exact fun g => Or.inr ⟨g, lkP_r _ _ _⟩
  have hneg : ¬ (-(nI 1) : Int32) = nI w := fun z => by
    have g := nI_pos' (n := w) (by omega)
    rw [← z] at g
    exact absurd g (by decide +kernel)
  obtain ⟨q1, q2, q3⟩ := fSee_s F w base (sw τ 29 P (nI F)) (by rw [t36, upd_s]; exact hneg)
  rw [t35, upd_s] at q1
  rw [t38, upd_s] at q3
  have cF : ∀ i, i < F → (fun i => if i = F then P else c i) i = c i := fun i hi => if_neg (by omega)
  have cFF : (fun i => if i = F then P else c i) F = P := if_pos rfl
  generalize (fun i => if i = F then P else c i) = c' at cF cFF ⊢
  refine ⟨⟨?_, ?_, ?_, ?_⟩, ?_, ?_, ?_, ?_, ?_⟩
  · rw [hk 31 (by decide) (by decide) (by decide) (by decide), r31]; exact if_pos rfl
  · intro i hi
    rw [hk 34 (by decide) (by decide) (by decide) (by decide), r34]
    by_cases e : i = F
    · subst e; exact ⟨by rw [upd_s, cFF], by rw [cFF]; exact hPK⟩
    · rw [upd_n _ _ e, cF i (by omega)]; exact h1.2.1 i (by omega)
  · intro x hx
    rw [hk 32 (by decide) (by decide) (by decide) (by decide), r32, h28]
    simp only [pv, cFF]
    by_cases e : hs (σ 28 P) = x
    · rw [if_pos e, e, upd_s]; rfl
    · rw [if_neg e, upd_n _ _ (Ne.symm e), h1.2.2.1 x hx, pv_congr (hc := fun f => hs (σ 28 (c f))) (hc' := fun f => hs (σ 28 (c' f))) (fun i hi => by rw [cF i hi])]
  · intro i hi
    rw [hk 33 (by decide) (by decide) (by decide) (by decide), r33, h28]
    by_cases e : i = F
    · subst e
      rw [upd_s, cFF, h1.2.2.1 _ (hs_lt _), pv_congr (hc := fun f => hs (σ 28 (c f))) (hc' := fun f => hs (σ 28 (c' f))) (fun j hj => by rw [cF j hj])]
    · rw [upd_n _ _ e, cF i (by omega), h1.2.2.2 i (by omega), pv_congr (hc := fun f => hs (σ 28 (c f))) (hc' := fun f => hs (σ 28 (c' f))) (fun j hj => by rw [cF j (by omega)])]
  · rw [h26]
    intro i hi
    by_cases e : i = F
    · subst e
      rw [cFF]
      exact ⟨hP, by omega, hnq⟩
    · rw [cF i (by omega)]
      have := h2 i (by omega)
      exact ⟨this.1, by omega, this.2.2⟩
  · intro i j hij hj
    rw [cF i (by omega)]
    by_cases e : j = F
    · rw [e, cFF]; exact (h2 i (by omega)).2.1
    · rw [cF j (by omega)]; exact h3 i j hij (by omega)
  · rw [h26, h29]
    intro p hp hok
    by_cases e : p = P
    · subst e
      exact ⟨F, by omega, if_pos rfl, by rw [cFF]; exact lkP_r _ _ _⟩
    · obtain ⟨i, a, b, d⟩ := h4 p (by omega) hok
      exact ⟨i, by omega, by rw [← b]; exact if_neg e, by rw [cF i a]; exact d⟩
  · rw [h26]
    intro i hi
    rw [hk 37 (by decide) (by decide) (by decide) (by decide), r37]
    by_cases e : i = F
    · subst e
      rw [q1, q3, cFF, upd_s]
      refine ⟨?_, rfl, ?_⟩
      · rw [nI_add]
        congr 1
        have z : cB (fun _ => false) 5 = 0 := rfl
        have y := cB_one (b := fun _ => false) (b' := fun v => pz (hsW n (σ 26) K (P + 1) v P)) (w := w) rfl (pz_t ((hs' w).mpr rfl)) (fun v hv => (pz_f (fun g => hv ((hs' v).mp g))).symm) hw5
        rw [z] at y
        exact y.symm
      · rw [show (nI 0 : Int32) = bz false from rfl, bz_or, Bool.false_or]
        congr 1
        by_cases g1 : nI w = base
        · rw [decide_eq_true g1]
          exact (pz_t ⟨w, hw5, g1, (hs' w).mpr rfl⟩).symm
        · rw [decide_eq_false g1]
          exact (pz_f (fun ⟨v, v1, v2, v3⟩ => g1 (by rw [← (hs' v).mp v3]; exact v2))).symm
    · obtain ⟨p1, p2, p3⟩ := fSee_o F w base (sw τ 29 P (nI F)) e
      obtain ⟨a, b, d⟩ := h5 i (by omega)
      rw [p1, p3, t35, t38, upd_n _ _ e, upd_n _ _ e, upd_n _ _ e, cF i (by omega)]
      exact ⟨by rw [a, nW_c (fun v => (ho i (by omega) v).symm)], b, by rw [d, pz_c (hsB_c fun v => (ho i (by omega) v).symm)]⟩
  · rw [h26]
    intro i hi
    by_cases e : i = F
    · subst e
      rw [cFF]
      exact ⟨w, hw5, q2, (hs' w).mpr rfl, fun v hv => by rw [(hs' v).mp hv]; exact Nat.le_refl _⟩
    · obtain ⟨p1, p2, p3⟩ := fSee_o F w base (sw τ 29 P (nI F)) e
      obtain ⟨l, l1, l2, l3, l4⟩ := h6 i (by omega)
      rw [cF i (by omega)]
      exact ⟨l, l1, by rw [p2, t36, upd_n _ _ e, l2], (ho i (by omega) l).mpr l3, fun v hv => l4 v ((ho i (by omega) v).mp hv)⟩
