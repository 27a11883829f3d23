/-! what a shelf's view tells: letters, places, marks, prints, by cells (50 to a work) -/
def LT (V : Mm) (p : Nat) : Int32 := tR (fun _ => 0) V (p / 50) (vS V (p / 50)) p
def plN (V : Mm) (w : Nat) : Nat → Nat → Nat
  | 0, _ => 0
  | i + 1, j => if tl V w i ≠ 0 ∧ j = ltN V w i then i else plN V w i j
def PL (V : Mm) (w j : Nat) : Nat := plN V w (vS V w) j
def gC (V : Mm) (w : Nat) : Nat := lC V w + 1 - vR V 0
def MK (V : Mm) (p : Nat) : Int32 := mkF (LT V) p (vR V 0)
def PR (V : Mm) (p : Nat) : Bool := decide (gC V (p / 50) ≠ 0) && decide (pP (fun _ => 0) (MK V) (p / 50) (min (vR V 1) (gC V (p / 50))) (gC V (p / 50) - min (vR V 1) (gC V (p / 50)) + 1) p ≠ 0)
theorem tR_out (f : Nat → Int32) (V : Mm) (w : Nat) {p : Nat} : ∀ i, (p < 50 * w ∨ 50 * w + ltN V w i ≤ p) → tR f V w i p = f p
  | 0, _ => rfl
  | i + 1, h => by
    simp only [tR, ltN] at h ⊢
    by_cases g : tl V w i ≠ 0
    · rw [if_pos g] at h ⊢
      rw [upd_n _ _ (by omega)]
      exact tR_out f V w i (by omega)
    · rw [if_neg g] at h ⊢
      exact tR_out f V w i h
theorem tR_in (f g : Nat → Int32) (V : Mm) (w : Nat) {j : Nat} : ∀ i, j < ltN V w i → tR f V w i (50 * w + j) = tR g V w i (50 * w + j)
  | 0, h => by simp only [ltN] at h; omega
  | i + 1, h => by
    simp only [tR, ltN] at h ⊢
    by_cases z : tl V w i ≠ 0
    · rw [if_pos z] at h ⊢
      rw [if_pos z]
      by_cases e : j = ltN V w i
      · subst e; rw [upd_s, upd_s]
      · rw [upd_n _ _ (by omega), upd_n _ _ (by omega)]
        exact tR_in f g V w i (by omega)
    · rw [if_neg z] at h ⊢
      rw [if_neg z]
      exact tR_in f g V w i h
theorem pR_out (f : Nat → Int32) (V : Mm) (w : Nat) {p : Nat} : ∀ i, (p < 50 * w ∨ 50 * w + ltN V w i ≤ p) → pR f V w i p = f p
  | 0, _ => rfl
  | i + 1, h => by
    simp only [pR, ltN] at h ⊢
    by_cases g : tl V w i ≠ 0
    · rw [if_pos g] at h ⊢
      rw [upd_n _ _ (by omega)]
      exact pR_out f V w i (by omega)
    · rw [if_neg g] at h ⊢
      exact pR_out f V w i h
theorem pR_in (f : Nat → Int32) (V : Mm) (w : Nat) {j : Nat} : ∀ i, j < ltN V w i → pR f V w i (50 * w + j) = nI (plN V w i j) ∧ plN V w i j < i
  | 0, h => by simp only [ltN] at h; omega
  | i + 1, h => by
    simp only [pR, ltN, plN] at h ⊢
    by_cases z : tl V w i ≠ 0
    · rw [if_pos z] at h ⊢
      by_cases e : j = ltN V w i
      · subst e; rw [upd_s, if_pos ⟨z, rfl⟩]; exact ⟨rfl, by omega⟩
      · rw [upd_n _ _ (by omega), if_neg (fun q => e q.2)]
        have := pR_in f V w i (show j < ltN V w i by omega)
        exact ⟨this.1, by omega⟩
    · rw [if_neg z] at h ⊢
      rw [if_neg (fun q => z q.1)]
      have := pR_in f V w i h
      exact ⟨this.1, by omega⟩
theorem d50 {w i : Nat} (h : i < 50) : (50 * w + i) / 50 = w := by omega
theorem lC_50 {V : Mm} (hv : wf V) {w : Nat} (hw : w < 5) : lC V w ≤ 50 := Nat.le_trans (ltN_le V w (vS V w)) (wf_s50 hv hw)
theorem LT_at {V : Mm} (hv : wf V) {w i : Nat} (hw : w < 5) (f : Nat → Int32) (hi : i < lC V w) : tR f V w (vS V w) (50 * w + i) = LT V (50 * w + i) := by
  have := lC_50 hv hw
  unfold LT
  rw [d50 (show i < 50 by omega)]
  exact tR_in _ _ V w _ hi
theorem wf_K {V : Mm} (hv : wf V) : V 4 0 = nI (vR V 0) ∧ 2 ≤ vR V 0 ∧ vR V 0 ≤ 6 := hv.2.1
theorem wf_N {V : Mm} (hv : wf V) : V 4 1 = nI (vR V 1) ∧ 1 ≤ vR V 1 ∧ vR V 1 ≤ 6 := hv.2.2.1
theorem wf_M {V : Mm} (hv : wf V) : V 4 2 = nI (vR V 2) ∧ 2 ≤ vR V 2 ∧ vR V 2 ≤ 6 := hv.2.2.2.1
theorem wf_B {V : Mm} (hv : wf V) : V 4 3 = -(nI 1) ∨ (V 4 3 = nI (vR V 3) ∧ vR V 3 < 5) := hv.2.2.2.2.1
theorem wf_L {V : Mm} (hv : wf V) : V 4 4 = nI (vR V 4) ∧ 1 ≤ vR V 4 ∧ vR V 4 ≤ 50 := hv.2.2.2.2.2.1
theorem wf_T {V : Mm} (hv : wf V) : V 4 5 = nI (vR V 5) ∧ vR V 5 ≤ 100 := hv.2.2.2.2.2.2
theorem gC_50 {V : Mm} (hv : wf V) {w : Nat} (hw : w < 5) : gC V w + vR V 0 ≤ 51 ∧ (0 < gC V w → gC V w + vR V 0 = lC V w + 1) ∧ gC V w ≤ 49 := by
  have h1 := lC_50 hv hw
  have h2 := wf_K hv
  unfold gC
  omega
/-- rows rt, rp (with the count in rn) hold the letters of work w -/
def RLe (rt rp rn : Nat) (V : Mm) (w : Nat) (σ : Mm) : Prop := σ rn w = nI (lC V w) ∧ ∀ i, i < lC V w → σ rt (50 * w + i) = LT V (50 * w + i) ∧ σ rp (50 * w + i) = nI (PL V w i)
/-- rows rm, rq hold the marks and prints of work w -/
def RGr (rm rq : Nat) (V : Mm) (w : Nat) (σ : Mm) : Prop := ∀ g, g < gC V w → σ rm (50 * w + g) = MK V (50 * w + g) ∧ (σ rq (50 * w + g) ≠ 0 ↔ PR V (50 * w + g) = true)
theorem PL_lt (V : Mm) (w : Nat) {i : Nat} (h : i < lC V w) : PL V w i < vS V w := (pR_in (fun _ => 0) V w (vS V w) h).2
theorem RLe_mk {rt rp rn : Nat} {V : Mm} {w : Nat} (σ : Mm) (h1 : rt ≠ rp) (h2 : rt ≠ rn) (h3 : rp ≠ rn) (hv : wf V) (hw : w < 5) : RLe rt rp rn V w (rdL rt rp rn V w σ) := by
  unfold rdL
  refine ⟨by rw [sr_s, upd_s], fun i hi => ⟨?_, ?_⟩⟩
  · rw [sr_n _ _ h2, sr_n _ _ h1, sr_s]
    exact LT_at hv hw _ hi
  · rw [sr_n _ _ h3, sr_s]
    exact (pR_in (σ rp) V w (vS V w) hi).1
theorem RLe_of {rt rp rn : Nat} {V : Mm} {w : Nat} {σ τ : Mm} (h : RLe rt rp rn V w σ) (e1 : τ rn w = σ rn w) (e2 : ∀ i, i < 50 → τ rt (50 * w + i) = σ rt (50 * w + i) ∧ τ rp (50 * w + i) = σ rp (50 * w + i)) (hL : lC V w ≤ 50) : RLe rt rp rn V w τ :=
  ⟨e1.trans h.1, fun i hi => ⟨(e2 i (by omega)).1.trans (h.2 i hi).1, (e2 i (by omega)).2.trans (h.2 i hi).2⟩⟩
theorem RGr_of {rm rq : Nat} {V : Mm} {w : Nat} {σ τ : Mm} (h : RGr rm rq V w σ) (e2 : ∀ i, i < 50 → τ rm (50 * w + i) = σ rm (50 * w + i) ∧ τ rq (50 * w + i) = σ rq (50 * w + i)) (hL : gC V w ≤ 50) : RGr rm rq V w τ :=
  fun i hi => ⟨(e2 i (by omega)).1.trans (h i hi).1, by rw [(e2 i (by omega)).2]; exact (h i hi).2⟩
theorem RLe_k {rt rp rn : Nat} {V : Mm} {v : Nat} {σ τ : Mm} (h : RLe rt rp rn V v σ) (e1 : τ rn = σ rn) (e2 : τ rt = σ rt) (e3 : τ rp = σ rp) : RLe rt rp rn V v τ := by
  unfold RLe
  rw [e1, e2, e3]
  exact h
theorem RGr_k {rm rq : Nat} {V : Mm} {v : Nat} {σ τ : Mm} (h : RGr rm rq V v σ) (e1 : τ rm = σ rm) (e2 : τ rq = σ rq) : RGr rm rq V v τ := by
  unfold RGr
  rw [e1, e2]
  exact h
theorem RLe_no {rt rp rn : Nat} {V : Mm} {v w : Nat} {σ : Mm} (h : RLe rt rp rn V v σ) (hvw : v ≠ w) (h1 : rt ≠ rp) (h2 : rt ≠ rn) (h3 : rp ≠ rn) (hv : wf V) (hv5 : v < 5) (hw : w < 5) : RLe rt rp rn V v (rdL rt rp rn V w σ) := by
  have hl := lC_50 hv hw
  have hl2 := lC_50 hv hv5
  unfold lC at hl
  refine RLe_of h ?_ (fun i hi => ⟨?_, ?_⟩) hl2
  · unfold rdL
    rw [sr_s, upd_n _ _ hvw]
  · unfold rdL
    rw [sr_n _ _ h2, sr_n _ _ h1, sr_s, tR_out _ _ _ _ (by omega)]
  · unfold rdL
    rw [sr_n _ _ h3, sr_s, pR_out _ _ _ _ (by omega)]
theorem mR_at (f ft : Nat → Int32) (w k p : Nat) : ∀ n, mR f ft w k n p = if 50 * w ≤ p ∧ p < 50 * w + n then mkF ft p k else f p
  | 0 => by rw [if_neg (by omega)]; rfl
  | n + 1 => by
    rw [mR_1]
    by_cases e : p = 50 * w + n
    · subst e; rw [upd_s, if_pos (by omega)]
    · rw [upd_n _ _ e, mR_at f ft w k p n]
      by_cases g : 50 * w ≤ p ∧ p < 50 * w + n
      · rw [if_pos g, if_pos (by omega)]
      · rw [if_neg g, if_neg (by omega)]
theorem mkF_e {f g : Nat → Int32} {c : Nat} : ∀ {k : Nat}, (∀ t, t < k → f (c + t) = g (c + t)) → mkF f c k = mkF g c k
  | 0, _ => rfl
  | k + 1, h => by rw [mkF_1, mkF_1, mkF_e (fun t ht => h t (by omega)), h k (by omega)]
theorem llS_e {f g : Nat → Int32} {b fr : Nat} : ∀ {j : Nat}, (∀ t, t ≤ j → f (b + (fr + t)) = g (b + (fr + t))) → llS f b fr j = llS g b fr j
  | 0, _ => rfl
  | j + 1, h => by
    have ih := llS_e (f := f) (g := g) (b := b) (fr := fr) (j := j) (fun t ht => h t (by omega))
    have hi := llS_in g b fr j
    have e1 : f (b + (fr + j + 1)) = g (b + (fr + j + 1)) := h (j + 1) (Nat.le_refl _)
    have e2 : f (b + llS g b fr j) = g (b + llS g b fr j) := by
      have := h (llS g b fr j - fr) (by omega)
      rw [show fr + (llS g b fr j - fr) = llS g b fr j by omega] at this
      exact this
    simp only [llS]
    rw [ih, e1, e2]
theorem pP_e {f g fm gm : Nat → Int32} {w wide p : Nat} (hw : 1 ≤ wide) (h0 : f p ≠ 0 ↔ g p ≠ 0) : ∀ {m : Nat}, (∀ t, t < m - 1 + wide → fm (50 * w + t) = gm (50 * w + t)) → (pP f fm w wide m p ≠ 0 ↔ pP g gm w wide m p ≠ 0)
  | 0, _ => h0
  | m + 1, h => by
    have ih := pP_e (fm := fm) (gm := gm) (w := w) (wide := wide) hw h0 (m := m) (fun t ht => h t (by omega))
    have e : llS fm (50 * w) m (wide - 1) = llS gm (50 * w) m (wide - 1) := llS_e fun t ht => h (m + t) (by omega)
    rw [pP_1, pP_1, e]
    by_cases q : p = 50 * w + llS gm (50 * w) m (wide - 1)
    · subst q; rw [upd_s, upd_s]
    · rw [upd_n _ _ q, upd_n _ _ q]; exact ih
theorem pP_out {f fm : Nat → Int32} {w wide p : Nat} : ∀ {m : Nat}, (p < 50 * w ∨ 50 * w + (m - 1 + wide) ≤ p) → 1 ≤ wide → pP f fm w wide m p = f p
  | 0, _, _ => rfl
  | m + 1, h, hw => by
    have hi := llS_in fm (50 * w) m (wide - 1)
    rw [pP_1, upd_n _ _ (by omega)]
    exact pP_out (by omega) hw
theorem RGr_mk {rm rq w : Nat} {τ V : Mm} (hv : wf V) (hw : w < 5) (hr : rm ≠ rq) (h : ∀ g, g < gC V w → τ rm (50 * w + g) = MK V (50 * w + g)) : RGr rm rq V w (rdP rm rq w (vR V 1) (gC V w) τ) := by
  intro g hg
  have hn := gC_50 hv hw
  have hN := wf_N hv
  unfold rdP
  rw [if_neg (by omega), sr_n _ _ hr, sr_s]
  refine ⟨h g hg, ?_⟩
  unfold PR
  rw [d50 (show g < 50 by omega), decide_eq_true (show gC V w ≠ 0 by omega), Bool.true_and, decide_eq_true_eq]
  refine pP_e (by omega) ?_ (fun t ht => h t (by omega))
  rw [show fl (τ rq) (50 * w) (50 * w + gC V w) (nI 0) (50 * w + g) = nI 0 from if_pos (by omega)]
  exact ⟨fun z => absurd rfl z, fun z => absurd rfl z⟩
theorem rdP_n {rm rq w nn n k : Nat} (τ : Mm) (h : k ≠ rq) : rdP rm rq w nn n τ k = τ k := by
  unfold rdP
  split
  · rfl
  · rw [sr_n _ _ h]
theorem rdP_out {rm rq w nn n p : Nat} (τ : Mm) (h : p < 50 * w ∨ 50 * w + n ≤ p) (h1 : 1 ≤ nn) : rdP rm rq w nn n τ rq p = τ rq p := by
  unfold rdP
  split
  · rfl
  · rw [sr_s, pP_out (by omega) (by omega)]
    exact if_neg (by omega)
theorem rdG_n {rt rn rm rg w k L j : Nat} (τ : Mm) (h1 : j ≠ rm) (h2 : j ≠ rg) : rdG rt rn rm rg w k L τ j = τ j := by
  unfold rdG
  rw [sr_n _ _ h2, sr_n _ _ h1]
theorem rdL_n {rt rp rn : Nat} {V : Mm} {w k : Nat} (σ : Mm) (h1 : k ≠ rt) (h2 : k ≠ rp) (h3 : k ≠ rn) : rdL rt rp rn V w σ k = σ k := by
  unfold rdL
  rw [sr_n _ _ h3, sr_n _ _ h2, sr_n _ _ h1]
/-- all that the class reads of work w: its letters, marks, prints -/
def RD (V : Mm) (w : Nat) (σ : Mm) : Prop := RLe 26 27 24 V w σ ∧ σ 25 w = nI (gC V w) ∧ RGr 28 30 V w σ
def rd1 (V : Mm) (w : Nat) (σ : Mm) : Mm := rdP 28 30 w (vR V 1) (gC V w) (rdG 26 24 28 25 w (vR V 0) (lC V w) (rdL 26 27 24 V w σ))
theorem rd1_n (V : Mm) (w : Nat) (σ : Mm) {k : Nat} (h : k ∉ [24, 25, 26, 27, 28, 30]) : rd1 V w σ k = σ k := by
  simp only [List.mem_cons, List.not_mem_nil, or_false, not_or] at h
  unfold rd1
  rw [rdP_n _ h.2.2.2.2.2, rdG_n _ h.2.2.2.2.1 h.2.1, rdL_n _ h.2.2.1 h.2.2.2.1 h.1]
theorem rd1_27 (V : Mm) (w : Nat) (σ : Mm) : rd1 V w σ 24 = rdL 26 27 24 V w σ 24 ∧ rd1 V w σ 26 = rdL 26 27 24 V w σ 26 ∧ rd1 V w σ 27 = rdL 26 27 24 V w σ 27 := by
  unfold rd1
  rw [rdP_n _ (by decide), rdG_n _ (by decide) (by decide), rdP_n _ (by decide), rdG_n _ (by decide) (by decide), rdP_n _ (by decide), rdG_n _ (by decide) (by decide)]
  exact ⟨rfl, rfl, rfl⟩
theorem mk_at {V : Mm} {w g : Nat} {f : Nat → Int32} (hg : g < gC V w) (h : ∀ i, i < lC V w → f (50 * w + i) = LT V (50 * w + i)) : mkF f (50 * w + g) (vR V 0) = MK V (50 * w + g) := by
  unfold gC at hg
  exact mkF_e fun t ht => by
    have := h (g + t) (by omega)
    rw [← Nat.add_assoc] at this
    exact this
theorem rd1_mk {V : Mm} (hv : wf V) {w : Nat} (hw : w < 5) (σ : Mm) : RD V w (rd1 V w σ) := by
  have e := rd1_27 V w σ
  have hn := gC_50 hv hw
  have h := RLe_mk (rt := 26) (rp := 27) (rn := 24) (V := V) (w := w) σ (by decide) (by decide) (by decide) hv hw
  refine ⟨RLe_k h e.1 e.2.1 e.2.2, ?_, ?_⟩
  · unfold rd1
    rw [rdP_n _ (by decide)]
    unfold rdG
    rw [sr_s, upd_s]
    rfl
  · refine RGr_mk hv hw (by decide) fun g hg => ?_
    unfold rdG
    rw [sr_n _ _ (by decide), sr_s, mR_at, if_pos ⟨by omega, by unfold gC at hg; omega⟩]
    exact mk_at hg fun i hi => (h.2 i hi).1
theorem rd1_no {V : Mm} (hv : wf V) {v w : Nat} (hv5 : v < 5) (hw : w < 5) (hvw : v ≠ w) {σ : Mm} (h : RD V v σ) : RD V v (rd1 V w σ) := by
  have e := rd1_27 V w σ
  have hn := gC_50 hv hw
  have hn2 := gC_50 hv hv5
  have hN := wf_N hv
  refine ⟨RLe_k (RLe_no h.1 hvw (by decide) (by decide) (by decide) hv hv5 hw) e.1 e.2.1 e.2.2, ?_, RGr_of h.2.2 (fun i hi => ⟨?_, ?_⟩) (by omega)⟩
  · unfold rd1
    rw [rdP_n _ (by decide)]
    unfold rdG
    rw [sr_s, upd_n _ _ hvw, rdL_n _ (by decide) (by decide) (by decide)]
    exact h.2.1
  · unfold rd1
    rw [rdP_n _ (by decide)]
    unfold rdG
    rw [sr_n _ _ (by decide), sr_s, mR_at, if_neg (by unfold gC at hn; omega), rdL_n _ (by decide) (by decide) (by decide)]
  · unfold rd1
    rw [rdP_out _ (by omega) (by omega), rdG_n _ (by decide) (by decide), rdL_n _ (by decide) (by decide) (by decide)]
theorem lkC_e {f g : Nat → Int32} {a b : Nat} : ∀ {k : Nat}, (∀ t, t < k → f (a + t) = g (a + t) ∧ f (b + t) = g (b + t)) → lkC f a b k = lkC g a b k
  | 0, _ => rfl
  | k + 1, h => by
    simp only [lkC]
    rw [lkC_e (fun t ht => h t (by omega)), (h k (by omega)).1, (h k (by omega)).2]
