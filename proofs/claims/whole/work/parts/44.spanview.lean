/-! of each letter of a work its longest match and its source, told by the view alone; where spans begin and end -/
noncomputable def pT (V : Mm) (w : Nat) : Nat → Nat → Lx
  | 0 => fun _ => (0, none)
  | v + 1 => if v = w then pT V w v else oS (V 3) v (mB (ML V w v 1)) (mG (ML V w v 1)) (pT V w v) (ML V w v 1).length
theorem pT_s (V : Mm) (w : Nat) : pT V w (w + 1) = pT V w w := if_pos rfl
theorem pT_n (V : Mm) {w v : Nat} (h : v ≠ w) : pT V w (v + 1) = oS (V 3) v (mB (ML V w v 1)) (mG (ML V w v 1)) (pT V w v) (ML V w v 1).length := if_neg h
theorem pT_b {V : Mm} (hv : wf V) {w : Nat} (hw : w < 5) (i : Nat) : ∀ v, v ≤ 5 → bx (pT V w v i)
  | 0, _ => ⟨Nat.zero_le _, fun v hv => by cases hv⟩
  | v + 1, h => by
    have ih := pT_b hv hw i v (by omega)
    by_cases e : v = w
    · subst e; rw [pT_s]; exact ih
    · rw [pT_n V e]
      exact oS_b ih (by omega) _ fun y hy => (ML_at hv hw (by omega) hy).2.2.2.2.2
noncomputable def sT (V : Mm) (w ls i : Nat) : Option Nat := if ls ≤ (pT V w 5 i).1 then (pT V w 5 i).2 else none
theorem sT_5 {V : Mm} (hv : wf V) {w : Nat} (hw : w < 5) (ls : Nat) (i v : Nat) (h : sT V w ls i = some v) : v < 5 := by
  unfold sT at h
  split at h
  · exact (pT_b hv hw i 5 (Nat.le_refl _)).2 v h
  · cases h
def spA (s : Nat → Option Nat) (k : Nat) : Nat → Nat
  | 0 => 0
  | i + 1 => if (s i).isSome = true ∧ gs s i = false ∧ spN s i = k then i else spA s k i
def spZ (s : Nat → Option Nat) (k : Nat) : Nat → Nat
  | 0 => 0
  | i + 1 => if (s i).isSome = true ∧ spN s (i + 1) = k + 1 then i else spZ s k i
theorem spN_n {s : Nat → Option Nat} {i : Nat} (h : s i = none) : spN s (i + 1) = spN s i := by simp only [spN, h]; rfl
theorem spN_t {s : Nat → Option Nat} {i : Nat} (h : gs s i = true) : spN s (i + 1) = spN s i := by simp only [spN, h]; rw [if_neg (fun z => by cases z.2)]
theorem spN_f {s : Nat → Option Nat} {i w : Nat} (h : s i = some w) (g : gs s i = false) : spN s (i + 1) = spN s i + 1 := by simp only [spN, h, g]; rfl
theorem spA_in {s : Nat → Option Nat} {k : Nat} : ∀ {i : Nat}, k < spN s i → spA s k i < i ∧ (s (spA s k i)).isSome = true ∧ gs s (spA s k i) = false ∧ spN s (spA s k i) = k
  | 0, h => by simp only [spN] at h; omega
  | i + 1, h => by
    by_cases c : (s i).isSome = true ∧ gs s i = false ∧ spN s i = k
    · have e : spA s k (i + 1) = i := if_pos c
      rw [e]
      exact ⟨by omega, c⟩
    · have e : spA s k (i + 1) = spA s k i := if_neg c
      rw [e]
      have hk : k < spN s i := by
        simp only [spN] at h
        split at h
        · rename_i g
          rcases Nat.lt_or_ge k (spN s i) with q | q
          · exact q
          · exact absurd ⟨g.1, g.2, by omega⟩ c
        · exact h
      have := spA_in hk
      exact ⟨by omega, this.2⟩
theorem spZ_in {s : Nat → Option Nat} {k : Nat} : ∀ {i : Nat}, k < spN s i → spZ s k i < i
  | 0, h => by simp only [spN] at h; omega
  | i + 1, h => by
    by_cases c : (s i).isSome = true ∧ spN s (i + 1) = k + 1
    · have e : spZ s k (i + 1) = i := if_pos c
      rw [e]; omega
    · have e : spZ s k (i + 1) = spZ s k i := if_neg c
      rw [e]
      have hk : k < spN s i := by
        rcases Nat.lt_or_ge k (spN s i) with q | q
        · exact q
        · exfalso
          have h2 := h
          simp only [spN] at h2
          split at h2
          · rename_i g
            refine c ⟨g.1, ?_⟩
            simp only [spN]
            rw [if_pos g]
            omega
          · omega
      have := spZ_in hk
      omega
/-- what a division lays into the rows -/
def DV (s : Nat → Option Nat) (L : Nat) (σ : Mm) : Prop := σ 53 0 = nI (spN s L) ∧ σ 53 1 = nI (cvN s L) ∧ (∀ w, w < 5 → σ 59 w = nI (tyN s w L)) ∧ ∀ k, k < spN s L → σ 56 k = nI (spA s k L) ∧ σ 58 k = en (s (spA s k L)) ∧ σ 57 k = nI (spZ s k L)
theorem sw_o {σ : Mm} {k j j' : Nat} {x : Int32} (h : j' ≠ j) : sw σ k j x k j' = σ k j' := by
  unfold sw
  rw [sr_s, upd_n _ _ h]
theorem dvS_r (s : Nat → Option Nat) (σ : Mm) : ∀ i k, k < spN s i → dvS s i σ 56 k = nI (spA s k i) ∧ dvS s i σ 58 k = en (s (spA s k i)) ∧ dvS s i σ 57 k = nI (spZ s k i)
  | 0, k, h => by simp only [spN] at h; omega
  | i + 1, k, h => by
    have ih := dvS_r s σ i k
    cases hs : s i with
    | none =>
      rw [spN_n hs] at h
      rw [dvS_n σ hs]
      have e1 : spA s k (i + 1) = spA s k i := if_neg (fun z => by rw [hs] at z; cases z.1)
      have e2 : spZ s k (i + 1) = spZ s k i := if_neg (fun z => by rw [hs] at z; cases z.1)
      rw [e1, e2]
      exact ih h
    | some w =>
      rw [dvS_y σ hs]
      unfold dv1 spE
      cases hg : gs s i with
      | true =>
        rw [if_pos rfl]
        rw [spN_t hg] at h
        have e1 : spA s k (i + 1) = spA s k i := if_neg (fun z => by rw [hg] at z; cases z.2.1)
        have hq := ih h
        rw [e1, sw_ne _ _ _ (by decide), sw_ne _ _ _ (by decide), sw_ne _ _ _ (by decide), sw_ne _ _ _ (by decide), sw_ne _ _ _ (by decide), sw_ne _ _ _ (by decide)]
        refine ⟨hq.1, hq.2.1, ?_⟩
        by_cases q : k = spN s i - 1
        · have e2 : spZ s k (i + 1) = i := if_pos ⟨by rw [hs]; rfl, by rw [spN_t hg]; omega⟩
          rw [e2, q, sw_eq]
        · have e2 : spZ s k (i + 1) = spZ s k i := if_neg (fun z => by have := z.2; rw [spN_t hg] at this; omega)
          rw [e2, sw_o q, sw_ne _ _ _ (by decide), sw_ne _ _ _ (by decide)]
          exact hq.2.2
      | false =>
        rw [if_neg (by decide)]
        rw [spN_f hs hg] at h
        by_cases q : k = spN s i
        · have e1 : spA s k (i + 1) = i := if_pos ⟨by rw [hs]; rfl, hg, q.symm⟩
          have e2 : spZ s k (i + 1) = i := if_pos ⟨by rw [hs]; rfl, by rw [spN_f hs hg]; omega⟩
          rw [e1, e2, q, hs]
          refine ⟨?_, ?_, sw_eq⟩
          · rw [sw_ne _ _ _ (by decide), sw_ne _ _ _ (by decide), sw_ne _ _ _ (by decide), sw_eq]
          · rw [sw_ne _ _ _ (by decide), sw_ne _ _ _ (by decide), sw_eq]; rfl
        · have e1 : spA s k (i + 1) = spA s k i := if_neg (fun z => q z.2.2.symm)
          have e2 : spZ s k (i + 1) = spZ s k i := if_neg (fun z => by have := z.2; rw [spN_f hs hg] at this; omega)
          have hq := ih (by omega)
          rw [e1, e2]
          refine ⟨?_, ?_, ?_⟩
          · rw [sw_ne _ _ _ (by decide), sw_ne _ _ _ (by decide), sw_ne _ _ _ (by decide), sw_o q, sw_ne _ _ _ (by decide), sw_ne _ _ _ (by decide)]; exact hq.1
          · rw [sw_ne _ _ _ (by decide), sw_ne _ _ _ (by decide), sw_o q, sw_ne _ _ _ (by decide), sw_ne _ _ _ (by decide), sw_ne _ _ _ (by decide)]; exact hq.2.1
          · rw [sw_o q, sw_ne _ _ _ (by decide), sw_ne _ _ _ (by decide), sw_ne _ _ _ (by decide), sw_ne _ _ _ (by decide), sw_ne _ _ _ (by decide)]; exact hq.2.2
theorem dvS_DV (s : Nat → Option Nat) (σ : Mm) (hs : ∀ i w, s i = some w → w < 5) (L : Nat) : DV s L (dvS s L σ) := by
  obtain ⟨⟨a, b, -⟩, d, -⟩ := dvS_f s σ hs L
  exact ⟨a, b, d, dvS_r s σ L⟩
/-- the longest matches and the sources stand in the rows -/
def TR (V : Mm) (w : Nat) (σ : Mm) : Prop := σ 53 2 = nI (lC V w) ∧ ∀ i, i < lC V w → σ 54 i = nI (pT V w 5 i).1 ∧ σ 55 i = en (pT V w 5 i).2
theorem c_divideV (l : Launch) (G : Gl) (σ V : Mm) (w ls : Nat) (hv : wf V) (hw : w < 5) (hls : ls ≤ 50) (hT : TR V w σ) : AMv l G 2 mX7_divide [.ref 53, .int (nI ls)] σ (fun σ' => TR V w σ' ∧ DV (sT V w ls) (lC V w) σ' ∧ ∀ k, k ∉ [53, 56, 57, 58, 59] → σ' k = σ k) :=
  (c_divide l G σ (lC V w) ls (fun i => (pT V w 5 i).1) (fun i => (pT V w 5 i).2) (sT V w ls) hT.1 (lC_50 hv hw) hls (fun i hi => ⟨(hT.2 i hi).1, (pT_b hv hw i 5 (Nat.le_refl _)).1, (hT.2 i hi).2⟩) (sT_5 hv hw ls) (fun i _ => rfl)).mono fun σ' h => by
    have hf := dvS_f (sT V w ls) σ (sT_5 hv hw ls) (lC V w)
    rw [h]
    refine ⟨⟨hf.1.2.2.trans hT.1, fun i hi => ?_⟩, dvS_DV _ _ (sT_5 hv hw ls) _, hf.2.2⟩
    rw [hf.2.2 54 (by decide), hf.2.2 55 (by decide)]
    exact hT.2 i hi
