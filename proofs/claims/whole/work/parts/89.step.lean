/-! one step of the law: both sides hold the same -/
def VE (A B : Mm) : Prop := (∀ j, j < 250 → A 0 j = B 0 j) ∧ (∀ j, j < 5 → A 1 j = B 1 j) ∧ (∀ j, j < 5 → A 2 j = B 2 j) ∧ (∀ j, j < 5 → A 3 j = B 3 j) ∧ ∀ j, j < 6 → A 4 j = B 4 j
def J1 (σ : Mm) : Prop := VE (vw σ 2) (vw σ 67) ∧ wf (vw σ 2)
def J2 (σ : Mm) : Prop := ∃ t, σ 0 6 = nI t ∧ σ 66 6 = nI t ∧ t ≤ 50 ∧ ∀ j, j < 50 → σ 65 j = σ 72 j
def J3 (σ : Mm) : Prop := ∃ b : Bool, σ 0 7 = bz b ∧ σ 66 8 = bz b ∧ (b = true → wf (vw σ 9) ∧ IMw (vw σ 9) σ)
def ITr (q a b : Int32) : Prop := (q = nI 0 → ∃ v : Int32, a = v &&& nI 255 ∧ b = v.toInt8.toInt32) ∧ (q ≠ nI 0 → a = b)
def SHr (σ : Mm) (s : Nat) : Prop := ∃ n, n ≤ 40 ∧ σ 63 s = nI n ∧ σ 98 s = nI n ∧ σ 64 s = σ 97 s ∧ (σ 97 s = -(nI 1) ∨ σ 97 s = nI 0 ∨ σ 97 s = nI 1) ∧ ∀ j, j < n → ITr (σ 97 s) (σ 62 (40 * s + j)) (σ (93 + s) j)
def J4 (σ : Mm) : Prop := ∀ s, s < 4 → SHr σ s
def J0 (σ : Mm) : Prop := J1 σ ∧ J2 σ ∧ J3 σ ∧ J4 σ
theorem J1_k {σ τ : Mm} (h : J1 σ) (e : ∀ k, k ∈ [2, 3, 4, 5, 6, 67, 68, 69, 70, 71] → τ k = σ k) : J1 τ := by
  have e1 : vw τ 2 = vw σ 2 := vw_of fun j hj => e _ (by
    rcases (show j = 0 ∨ j = 1 ∨ j = 2 ∨ j = 3 ∨ j = 4 by omega) with rfl | rfl | rfl | rfl | rfl <;> decide)
  have e2 : vw τ 67 = vw σ 67 := vw_of fun j hj => e _ (by
    rcases (show j = 0 ∨ j = 1 ∨ j = 2 ∨ j = 3 ∨ j = 4 by omega) with rfl | rfl | rfl | rfl | rfl <;> decide)
  unfold J1
  rw [e1, e2]
  exact h
theorem J2_k {σ τ : Mm} (h : J2 σ) (h0 : τ 0 6 = σ 0 6) (h1 : τ 66 6 = σ 66 6) (h2 : τ 65 = σ 65) (h3 : τ 72 = σ 72) : J2 τ := by
  obtain ⟨t, a, b, c, d⟩ := h
  exact ⟨t, h0.trans a, h1.trans b, c, by rw [h2, h3]; exact d⟩
theorem J3_k {σ τ : Mm} (h : J3 σ) (h0 : τ 0 7 = σ 0 7) (h1 : τ 66 8 = σ 66 8) (e : ∀ k, k ∈ [9, 10, 11, 12, 13, 73] → τ k = σ k) : J3 τ := by
  have e1 : vw τ 9 = vw σ 9 := vw_of fun j hj => e _ (by
    rcases (show j = 0 ∨ j = 1 ∨ j = 2 ∨ j = 3 ∨ j = 4 by omega) with rfl | rfl | rfl | rfl | rfl <;> decide)
  obtain ⟨b, a1, a2, a3⟩ := h
  refine ⟨b, h0.trans a1, h1.trans a2, ?_⟩
  unfold IMw
  rw [e1, e 73 (by decide)]
  exact a3
theorem SHr_k {σ τ : Mm} {s : Nat} (h : SHr σ s) (e1 : τ 63 s = σ 63 s) (e2 : τ 98 s = σ 98 s) (e3 : τ 64 s = σ 64 s) (e4 : τ 97 s = σ 97 s) (e5 : ∀ j, j < 40 → τ 62 (40 * s + j) = σ 62 (40 * s + j)) (e6 : τ (93 + s) = σ (93 + s)) : SHr τ s := by
  obtain ⟨n, h1, h2, h3, h4, h5, h6⟩ := h
  refine ⟨n, h1, e1.trans h2, e2.trans h3, by rw [e3, e4]; exact h4, by rw [e4]; exact h5, fun j hj => ?_⟩
  rw [e4, e5 j (by omega), e6]
  exact h6 j hj
theorem J4_k {σ τ : Mm} (h : J4 σ) (e : ∀ k, k ∈ [62, 63, 64, 93, 94, 95, 96, 97, 98] → τ k = σ k) : J4 τ := fun s hs =>
  SHr_k (h s hs) (by rw [e 63 (by decide)]) (by rw [e 98 (by decide)]) (by rw [e 64 (by decide)]) (by rw [e 97 (by decide)]) (fun j _ => by rw [e 62 (by decide)]) (e _ (by
    rcases (show s = 0 ∨ s = 1 ∨ s = 2 ∨ s = 3 by omega) with rfl | rfl | rfl | rfl <;> decide))
/-- calls that tell leave all as it was -/
theorem J0_q {σ τ υ : Mm} (h : J0 σ) (h1 : XQ σ τ) (h2 : MQu τ υ) : J0 υ := by
  have e : ∀ k, (k < 15 ∨ 60 < k ∧ k < 75 ∨ 91 < k) → k ≠ 66 → k ≠ 99 → υ k = σ k := fun k a b c => (h2.1 k (by omega) b c).trans (h1 k (by omega))
  have f6 : υ 66 6 = σ 66 6 := h2.2.1.trans (congrFun (h1 66 (by omega)) 6)
  have f8 : υ 66 8 = σ 66 8 := h2.2.2.trans (congrFun (h1 66 (by omega)) 8)
  refine ⟨J1_k h.1 fun k hk => ?_, J2_k h.2.1 (congrFun (e 0 (by omega) (by omega) (by omega)) 6) f6 (e 65 (by omega) (by omega) (by omega)) (e 72 (by omega) (by omega) (by omega)), J3_k h.2.2.1 (congrFun (e 0 (by omega) (by omega) (by omega)) 7) f8 fun k hk => ?_, J4_k h.2.2.2 fun k hk => ?_⟩
  all_goals
    simp only [List.mem_cons, List.not_mem_nil, or_false] at hk
    exact e k (by omega) (by omega) (by omega)
/-! rows beyond their lengths: zero -/
def nrl (k : Nat) : Nat := if k = 2 ∨ k = 9 ∨ k = 67 then 250 else if k = 6 ∨ k = 13 ∨ k = 71 then 6 else if k = 65 ∨ k = 72 then 50 else 5
def nrk (k : Nat) : Bool := decide (2 ≤ k ∧ k ≤ 6 ∨ 9 ≤ k ∧ k ≤ 13 ∨ k = 65 ∨ 67 ≤ k ∧ k ≤ 72)
def nrm (σ : Mm) : Mm := fun k => if nrk k = true then (fun j => if j < nrl k then σ k j else 0) else σ k
theorem nrk_ok : ((List.range 101).all fun k => !nrk k || match shapes[k]? with | some (.inl (_, n)) => Nat.beq n (nrl k) | _ => false) = true := by decide +kernel
theorem nrm_in {σ : Mm} {k j : Nat} (h : j < nrl k) : nrm σ k j = σ k j := by
  unfold nrm
  by_cases g : nrk k = true
  · rw [if_pos g]; exact if_pos h
  · rw [if_neg g]
theorem nrm_no {σ : Mm} {k : Nat} (h : nrk k = false) : nrm σ k = σ k := by
  unfold nrm
  rw [if_neg (by rw [h]; decide)]
theorem nrm_out {σ : Mm} {k j : Nat} (h : nrk k = true) (hj : ¬ j < nrl k) : nrm σ k j = 0 := by
  unfold nrm
  rw [if_pos h]
  exact if_neg hj
theorem Meq_nrm (σ : Mm) : Meq σ (nrm σ) := fun k sh hk => by
  have hk9 : k < 101 := (List.getElem?_eq_some_iff.mp hk).1
  have ok := List.all_eq_true.mp nrk_ok k (List.mem_range.mpr hk9)
  rw [hk] at ok
  cases g : nrk k with
  | false =>
    have e := nrm_no (σ := σ) g
    match sh with
    | .inl (_, n) => exact fun j _ => by rw [e]
    | .inr (.inl _) => exact e.symm
    | .inr (.inr _) => trivial
  | true =>
    rw [g] at ok
    match sh, ok with
    | .inl (z, n), ok =>
      have en : n = nrl k := Nat.eq_of_beq_eq_true (by simpa using ok)
      exact fun j hj => (nrm_in (by rw [← en]; exact hj)).symm
    | .inr (.inl _), ok => exact absurd ok (by simp)
    | .inr (.inr _), ok => exact absurd ok (by simp)
theorem row_e {σ : Mm} {k k' : Nat} (h1 : nrk k = true) (h2 : nrk k' = true) (h3 : nrl k' = nrl k) (e : ∀ j, j < nrl k → σ k j = σ k' j) : nrm σ k = nrm σ k' := by
  funext j
  by_cases g : j < nrl k
  · rw [nrm_in g, nrm_in (by rw [h3]; exact g), e j g]
  · rw [nrm_out h1 g, nrm_out h2 (by rw [h3]; exact g)]
theorem wf_VE {A B : Mm} (h : VE A B) (hA : wf A) : wf B := by
  obtain ⟨h0, h1, h2, h3, h4⟩ := h
  obtain ⟨a, r0, r1, r2, r3, r4, r5⟩ := hA
  have s1 : ∀ w, w < 5 → vS B w = vS A w := fun w hw => by unfold vS; rw [h1 w hw]
  have s2 : ∀ w, w < 5 → vK B w = vK A w := fun w hw => by unfold vK; rw [h2 w hw]
  have s3 : ∀ w, w < 5 → vD B w = vD A w := fun w hw => by unfold vD; rw [h3 w hw]
  have s4 : ∀ w, w < 6 → vR B w = vR A w := fun w hw => by unfold vR; rw [h4 w hw]
  refine ⟨fun w hw => ?_, ?_, ?_, ?_, ?_, ?_, ?_⟩
  · rw [s1 w hw, s2 w hw, s3 w hw, ← h1 w hw, ← h2 w hw, ← h3 w hw]; exact a w hw
  · rw [s4 0 (by omega), ← h4 0 (by omega)]; exact r0
  · rw [s4 1 (by omega), ← h4 1 (by omega)]; exact r1
  · rw [s4 2 (by omega), ← h4 2 (by omega)]; exact r2
  · rw [s4 3 (by omega), ← h4 3 (by omega)]; exact r3
  · rw [s4 4 (by omega), ← h4 4 (by omega)]; exact r4
  · rw [s4 5 (by omega), ← h4 5 (by omega)]; exact r5
theorem VE_nrm (σ : Mm) (b : Nat) (hb : b = 2 ∨ b = 9 ∨ b = 67) : VE (vw σ b) (vw (nrm σ) b) := by
  rcases hb with rfl | rfl | rfl
  · exact ⟨fun j hj => (nrm_in (σ := σ) (k := 2) (j := j) (show j < nrl 2 from hj)).symm, fun j hj => (nrm_in (σ := σ) (k := 3) (j := j) (show j < nrl 3 from hj)).symm, fun j hj => (nrm_in (σ := σ) (k := 4) (j := j) (show j < nrl 4 from hj)).symm, fun j hj => (nrm_in (σ := σ) (k := 5) (j := j) (show j < nrl 5 from hj)).symm, fun j hj => (nrm_in (σ := σ) (k := 6) (j := j) (show j < nrl 6 from hj)).symm⟩
  · exact ⟨fun j hj => (nrm_in (σ := σ) (k := 9) (j := j) (show j < nrl 9 from hj)).symm, fun j hj => (nrm_in (σ := σ) (k := 10) (j := j) (show j < nrl 10 from hj)).symm, fun j hj => (nrm_in (σ := σ) (k := 11) (j := j) (show j < nrl 11 from hj)).symm, fun j hj => (nrm_in (σ := σ) (k := 12) (j := j) (show j < nrl 12 from hj)).symm, fun j hj => (nrm_in (σ := σ) (k := 13) (j := j) (show j < nrl 13 from hj)).symm⟩
  · exact ⟨fun j hj => (nrm_in (σ := σ) (k := 67) (j := j) (show j < nrl 67 from hj)).symm, fun j hj => (nrm_in (σ := σ) (k := 68) (j := j) (show j < nrl 68 from hj)).symm, fun j hj => (nrm_in (σ := σ) (k := 69) (j := j) (show j < nrl 69 from hj)).symm, fun j hj => (nrm_in (σ := σ) (k := 70) (j := j) (show j < nrl 70 from hj)).symm, fun j hj => (nrm_in (σ := σ) (k := 71) (j := j) (show j < nrl 71 from hj)).symm⟩
/-- behind it the views are one, and the tapes -/
theorem J0_nrm {σ : Mm} (h : J0 σ) : J0 (nrm σ) ∧ vw (nrm σ) 67 = vw (nrm σ) 2 ∧ nrm σ 72 = nrm σ 65 := by
  obtain ⟨⟨⟨h0, h1, h2, h3, h4⟩, hw⟩, ⟨t, t1, t2, t3, t4⟩, ⟨b, b1, b2, b3⟩, hs⟩ := h
  have r0 : nrm σ 67 = nrm σ 2 := (row_e (σ := σ) (k := 2) (k' := 67) (by decide) (by decide) (by decide) h0).symm
  have r1 : nrm σ 68 = nrm σ 3 := (row_e (σ := σ) (k := 3) (k' := 68) (by decide) (by decide) (by decide) h1).symm
  have r2 : nrm σ 69 = nrm σ 4 := (row_e (σ := σ) (k := 4) (k' := 69) (by decide) (by decide) (by decide) h2).symm
  have r3 : nrm σ 70 = nrm σ 5 := (row_e (σ := σ) (k := 5) (k' := 70) (by decide) (by decide) (by decide) h3).symm
  have r4 : nrm σ 71 = nrm σ 6 := (row_e (σ := σ) (k := 6) (k' := 71) (by decide) (by decide) (by decide) h4).symm
  have rt : nrm σ 72 = nrm σ 65 := (row_e (σ := σ) (k := 65) (k' := 72) (by decide) (by decide) (by decide) t4).symm
  have ev : vw (nrm σ) 67 = vw (nrm σ) 2 := by
    funext j
    unfold vw
    by_cases g : j < 5
    · rw [if_pos g, if_pos g]
      rcases (show j = 0 ∨ j = 1 ∨ j = 2 ∨ j = 3 ∨ j = 4 by omega) with rfl | rfl | rfl | rfl | rfl
      · exact r0
      · exact r1
      · exact r2
      · exact r3
      · exact r4
    · rw [if_neg g, if_neg g]
  have n0 : nrm σ 0 = σ 0 := nrm_no (by decide)
  have n66 : nrm σ 66 = σ 66 := nrm_no (by decide)
  refine ⟨⟨⟨by rw [ev]; exact ⟨fun _ _ => rfl, fun _ _ => rfl, fun _ _ => rfl, fun _ _ => rfl, fun _ _ => rfl⟩, wf_VE (VE_nrm σ 2 (by omega)) hw⟩, ⟨t, by rw [n0]; exact t1, by rw [n66]; exact t2, t3, fun j _ => by rw [rt]⟩, ⟨b, by rw [n0]; exact b1, by rw [n66]; exact b2, fun hb => ?_⟩, J4_k hs fun k hk => nrm_no ?_⟩, ev, rt⟩
  · obtain ⟨c1, c2, c3, c4, c5, c6⟩ := b3 hb
    have V9 := VE_nrm σ 9 (by omega)
    refine ⟨wf_VE V9 c1, ?_⟩
    obtain ⟨v0, v1, v2, v3, v4⟩ := V9
    unfold IMw
    rw [nrm_no (σ := σ) (k := 73) (by decide)]
    exact ⟨fun j hj => (c2 j hj).trans (v0 j hj), fun j hj => (c3 j hj).trans (v1 j hj), fun j hj => (c4 j hj).trans (v2 j hj), fun j hj => (c5 j hj).trans (v3 j hj), fun j hj => (c6 j hj).trans (v4 j hj)⟩
  · revert hk
    simp only [List.mem_cons, List.not_mem_nil, or_false]
    rintro (rfl | rfl | rfl | rfl | rfl | rfl | rfl | rfl | rfl) <;> decide
