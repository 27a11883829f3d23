/-! the class's calls touch nothing of the model; both answers are one -/
theorem fr_feed (σ : Mm) (t : Nat) (n a b c d e : Int32) {k : Nat} (hk : 66 ≤ k) : sFeed 65 0 6 σ t n a b c d e k = σ k := by
  unfold sFeed
  split
  · split
    · rw [sw_ne _ _ _ (by omega), sr_n _ _ (by omega)]
    · rfl
  · rfl
theorem fr_work (σ : Mm) (t : Nat) (x k9 d : Int32) {k : Nat} (hk : 66 ≤ k) : sWork σ t x k9 d k = σ k := by
  unfold sWork
  split
  · split
    · split
      · split
        · unfold wkS
          rw [sw_ne _ _ _ (by omega), sw_ne _ _ _ (by omega), sw_ne _ _ _ (by omega), sr_n _ _ (by omega), sw_ne _ _ _ (by omega)]
        · rw [sw_ne _ _ _ (by omega)]
      · rfl
    · rfl
  · rfl
theorem fr_spl (V σ : Mm) (x a y f n : Int32) {k : Nat} (hk : 66 ≤ k) : sSpl V σ x a y f n k = σ k := by
  unfold sSpl splS
  split
  · split
    · split
      · rfl
      · split
        · rfl
        · split
          · split
            · rw [sw_ne _ _ _ (by omega), sr_n _ _ (by omega), sr_n _ _ (by omega)]
            · rfl
          · rfl
    · rfl
  · rfl
theorem fr_cut (V σ : Mm) (x a n : Int32) {k : Nat} (hk : 66 ≤ k) : sCut V σ x a n k = σ k := by
  unfold sCut cutS
  split
  · split
    · rfl
    · split
      · split
        · rfl
        · rw [sw_ne _ _ _ (by omega), sr_n _ _ (by omega)]
      · rfl
  · rfl
theorem fr_drop (V σ : Mm) (x : Int32) {k : Nat} (hk : 66 ≤ k) : sDrop 3 V σ x k = σ k := by
  unfold sDrop
  split
  · split
    · rfl
    · rw [sw_ne _ _ _ (by omega)]
  · rfl
theorem fr_alt (V σ : Mm) (x q v : Int32) {k : Nat} (hk : 66 ≤ k) : sAlt 4 V σ x q v k = σ k := by
  unfold sAlt
  split
  · split
    · split
      · split
        · split
          · rfl
          · rw [sw_ne _ _ _ (by omega)]
        · rfl
      · split
        · split
          · rfl
          · rw [sw_ne _ _ _ (by omega)]
        · rfl
    · rfl
  · rfl
theorem fr_rule (σ : Mm) (q v : Int32) {k : Nat} (hk : 66 ≤ k) : sRule 6 σ q v k = σ k := by
  unfold sRule
  split
  · split
    · rfl
    · split
      · rw [sw_ne _ _ _ (by omega)]
      · rfl
  · rfl
theorem fr_image (σ : Mm) {k : Nat} (hk : 66 ≤ k) : (sw (tkM 1 8 σ) 0 7 (nI 1)) k = σ k := by
  rw [sw_ne _ _ _ (by omega)]
  unfold tkM
  rw [sr_n _ _ (by omega), sr_n _ _ (by omega), sr_n _ _ (by omega), sr_n _ _ (by omega), sr_n _ _ (by omega)]
theorem fr_back (σ : Mm) (b : Bool) {k : Nat} (hk : 66 ≤ k) : (if b = true then tkM 8 1 σ else σ) k = σ k := by
  split
  · unfold tkM
    rw [sr_n _ _ (by omega), sr_n _ _ (by omega), sr_n _ _ (by omega), sr_n _ _ (by omega), sr_n _ _ (by omega)]
  · rfl
theorem fr_film {V σ τ : Mm} {s x : Int32} (h : sFilm V σ τ s x) {k : Nat} (hk : 66 ≤ k) : τ k = σ k := by
  unfold sFilm at h
  split at h
  · split at h
    · split at h
      · rw [h]
      · exact h.1 k (by omega) (by omega) (by omega) (by omega)
    · rw [h]
  · rw [h]
theorem fr_sheet (σ : Mm) (s q n : Int32) {k : Nat} (hk : 66 ≤ k) : sSheet σ s q n k = σ k := by
  have e : ∀ a b c, bcS σ a b c k = σ k := fun a b c => by
    unfold bcS
    rw [sr_n _ _ (by omega), sw_ne _ _ _ (by omega), sw_ne _ _ _ (by omega)]
  unfold sSheet
  split
  · split
    · rfl
    · split
      · split
        · exact e _ _ _
        · split
          · split
            · rfl
            · exact e _ _ _
          · rfl
      · rfl
  · rfl
theorem fr_put (n : Nat → Nat) (σ : Mm) (s i v : Int32) {k : Nat} (hk : 66 ≤ k) : sPut n σ s i v k = σ k := by
  unfold sPut
  split
  · split
    · rfl
    · split
      · rfl
      · split
        · rw [sw_ne _ _ _ (by omega)]
        · rfl
  · rfl
theorem fr_copy (n : Nat → Nat) (σ : Mm) (s i u j k9 : Int32) {k : Nat} (hk : 66 ≤ k) : sCopy n σ s i u j k9 k = σ k := by
  unfold sCopy
  split
  · split
    · split
      · rfl
      · split
        · rfl
        · split
          · split
            · rw [sr_n _ _ (by omega)]
            · rfl
          · rfl
    · rfl
  · rfl
theorem pGroup_u {V : Mm} {x r r' : Int32} (h : pGroup V x r) (h' : pGroup V x r') : r = r' := by
  unfold pGroup at h h'
  by_cases c1 : 0 ≤ x ∧ x ≤ 4
  · rw [if_pos c1] at h h'
    by_cases c2 : vS V x.toNatClampNeg = 0
    · rw [if_pos c2] at h h'; rw [h, h']
    · rw [if_neg c2] at h h'
      obtain ⟨S, a1, a2⟩ := h
      obtain ⟨S', b1, b2⟩ := h'
      rw [a2, b2, GR_u a1 b1]
  · rw [if_neg c1] at h h'; rw [h, h']
theorem s4 {s : Int32} (h : 0 ≤ s ∧ s ≤ 3) : s.toNatClampNeg < 4 := by
  obtain ⟨k, hk, rfl⟩ := rng (m := 3) (by omega) h
  rw [nI_clamp (by omega)]
  exact hk
theorem aPut_e {n : Nat → Nat} {so so' : Nat → Int32} (h : ∀ s, s < 4 → so s = so' s) (s i : Int32) : aPut n so s i = aPut n so' s i := by
  unfold aPut
  by_cases c1 : 0 ≤ s ∧ s ≤ 3
  · rw [if_pos c1, if_pos c1, h _ (s4 c1)]
  · rw [if_neg c1, if_neg c1]
theorem aCopy_e {n : Nat → Nat} {so so' : Nat → Int32} (h : ∀ s, s < 4 → so s = so' s) (s i u j k : Int32) : aCopy n so s i u j k = aCopy n so' s i u j k := by
  unfold aCopy
  by_cases c1 : 0 ≤ s ∧ s ≤ 3
  · by_cases c2 : 0 ≤ u ∧ u ≤ 3
    · rw [if_pos c1, if_pos c1, if_pos c2, if_pos c2, h _ (s4 c1), h _ (s4 c2)]
    · rw [if_pos c1, if_pos c1, if_neg c2, if_neg c2]
  · rw [if_neg c1, if_neg c1]
theorem by8 (v : Int32) {x : Nat} (hx : x < 128) : v &&& nI 255 = nI x ↔ v.toInt8.toInt32 = nI x := by
  have e1 : (v &&& nI 255).toInt = ((v.toBitVec.toNat % 256 : Nat) : Int) := by
    rw [and255]
    exact nI_toInt (by have := Nat.mod_lt v.toBitVec.toNat (show 0 < 256 by omega); omega)
  have e2 : v.toInt8.toInt32.toInt = v.toInt.bmod 256 := by
    rw [Int8.toInt_toInt32, Int32.toInt_toInt8]
  have e3 : v.toInt = if 2 * v.toBitVec.toNat < 2 ^ 32 then (v.toBitVec.toNat : Int) else (v.toBitVec.toNat : Int) - 2 ^ 32 := by
    show v.toBitVec.toInt = _
    rw [BitVec.toInt_eq_toNat_cond]
    rfl
  have e4 : (nI x).toInt = (x : Int) := nI_toInt (by omega)
  rw [← Int32.toInt_inj, ← Int32.toInt_inj, e1, e2, e4, Int.bmod_def]
  generalize v.toBitVec.toNat = m at *
  rw [e3]
  split <;> split <;> omega
theorem ITr_x {q a b : Int32} (h : ITr q a b) {x : Nat} (hx : x < 128) : a = nI x ↔ b = nI x := by
  by_cases c : q = nI 0
  · obtain ⟨v, e1, e2⟩ := h.1 c
    rw [e1, e2]
    exact by8 v hx
  · rw [h.2 c]
theorem pTells_u {σ τ : Mm} {V : Mm} (hv : wf V) {n : Nat → Nat} (hn : ∀ s, s < 4 → n s ≤ 40 ∧ σ 63 s = nI (n s) ∧ σ 98 s = nI (n s) ∧ σ 64 s = σ 97 s ∧ (σ 97 s = -(nI 1) ∨ σ 97 s = nI 0 ∨ σ 97 s = nI 1) ∧ ∀ j, j < n s → ITr (σ 97 s) (σ 62 (40 * s + j)) (σ (93 + s) j))
    (hτ : ∀ k, 66 ≤ k → τ k = σ k) {s x q r r' : Int32} (h : pTells V n (σ 64) (Eq62 V σ) s x q r) (h' : pTells V n (τ 97) (EqM V τ) s x q r') : r = r' := by
  unfold pTells at h h'
  by_cases c1 : 0 ≤ s ∧ s ≤ 3
  · rw [if_pos c1] at h h'
    by_cases c2 : 0 ≤ x ∧ x ≤ 4
    · rw [if_pos c2] at h h'
      by_cases c3 : 0 ≤ q ∧ q < nI 3
      · rw [if_pos c3] at h h'
        by_cases c4 : vS V x.toNatClampNeg = 0
        · rw [if_pos c4] at h h'; rw [h, h']
        · rw [if_neg c4] at h h'
          obtain ⟨g1, g2, g3, g4, g5, g6⟩ := hn _ (s4 c1)
          rw [hτ 97 (by omega), ← g4] at h'
          by_cases c5 : σ 64 s.toNatClampNeg = -(nI 1)
          · rw [if_pos c5] at h h'; rw [h, h']
          · rw [if_neg c5] at h h'
            by_cases c6 : n s.toNatClampNeg ≤ 20
            · rw [if_pos c6] at h h'
              have hw5 : x.toNatClampNeg < 5 := by
                obtain ⟨k, hk, rfl⟩ := rng (m := 4) (by omega) c2
                rw [nI_clamp (by omega)]; exact hk
              have hs4 := s4 c1
              generalize s.toNatClampNeg = s9 at *
              generalize x.toNatClampNeg = w at *
              have key : ∀ ls j, j < n s9 → j < 2 * spN (sT V w ls) (lC V w) → (Eq62 V σ s9 w (sT V w ls) j ↔ EqM V τ s9 w (sT V w ls) j) := by
                intro ls j h1 h2
                unfold Eq62 EqM
                rw [hτ (93 + s9) (by omega)]
                have b1 := PL_lt V w (tPi_lt (s := sT V w ls) (L := lC V w) (i := j) h2)
                have b2 := wf_s50 hv hw5
                exact ITr_x (g6 j h1) (by omega)
              unfold pTl at h h'
              have keyW : ∀ ls, (2 * spN (sT V w ls) (lC V w) = n s9 ∧ ∀ j, j < n s9 → Eq62 V σ s9 w (sT V w ls) j) ↔ (2 * spN (sT V w ls) (lC V w) = n s9 ∧ ∀ j, j < n s9 → EqM V τ s9 w (sT V w ls) j) := by
                intro ls
                constructor
                · rintro ⟨h1, h2⟩; exact ⟨h1, fun j hj => (key ls j hj (by omega)).mp (h2 j hj)⟩
                · rintro ⟨h1, h2⟩; exact ⟨h1, fun j hj => (key ls j hj (by omega)).mpr (h2 j hj)⟩
              by_cases c7 : q = 0
              · rw [if_pos c7] at h h'
                exact FO_u h h' fun j h1 h2 => key _ j h2 h1
              · rw [if_neg c7] at h h'
                by_cases c8 : q = nI 1
                · rw [if_pos c8] at h h'
                  exact LTd_u h h' fun ls _ _ => keyW ls
                · rw [if_neg c8] at h h'
                  exact GTd_u h h' fun ls _ _ => keyW ls
            · rw [if_neg c6] at h h'; rw [h, h']
      · rw [if_neg c3] at h h'; rw [h, h']
    · rw [if_neg c2] at h h'; rw [h, h']
  · rw [if_neg c1] at h h'; rw [h, h']
