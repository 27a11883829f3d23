/-! splice, cut, drop, alter, rule, image, back keep it -/
theorem J0_v {σ υ : Mm} (hJ : J0 σ) (hc : ∀ q, q ∉ [2, 3, 4, 5, 6, 7, 67, 68, 69, 70, 71, 74] → υ q = σ q) (e0 : υ 2 = υ 67) (e1 : υ 3 = υ 68) (e2 : υ 4 = υ 69) (e3 : υ 5 = υ 70) (e4 : υ 6 = υ 71) (hw : wf (vw υ 2)) : J0 υ :=
  ⟨J1_of e0 e1 e2 e3 e4 hw, J2_k hJ.2.1 (by rw [hc 0 (by decide)]) (by rw [hc 66 (by decide)]) (hc 65 (by decide)) (hc 72 (by decide)), J3_k hJ.2.2.1 (by rw [hc 0 (by decide)]) (by rw [hc 66 (by decide)]) (NI_of hc (by decide)), J4_k hJ.2.2.2 (NI_of hc (by decide))⟩
theorem cpy_ext {f f' g : Nat → Int32} {sp dp n : Nat} (h : ∀ j, j < n → f (sp + j) = f' (sp + j)) : va_cpy f g sp dp n = va_cpy f' g sp dp n := by
  funext p
  unfold va_cpy
  by_cases c : dp ≤ p ∧ p < dp + n
  · rw [if_pos c, if_pos c]
    have := h (p - dp) (by omega)
    first
    | exact this
    | (rw [show sp + p - dp = sp + (p - dp) by omega]; exact this)
    | (rw [show p - dp + sp = sp + (p - dp) by omega]; exact this)
  · rw [if_neg c, if_neg c]
theorem upd_or (f : Nat → Int32) (w v : Nat) (y : Int32) : upd f w y v = f v ∨ (v = w ∧ upd f w y v = y) := by
  by_cases z : v = w
  · subst z; exact Or.inr ⟨rfl, upd_s _ _ _⟩
  · exact Or.inl (upd_n _ _ z)
theorem st_spl {σ : Mm} (hJ : J0 σ) (ev : vw σ 67 = vw σ 2) (x a9 y f9 n : Int32) : J0 (sSplM (vw σ 2) (sSpl (vw σ 2) σ x a9 y f9 n) x a9 y f9 n) := by
  obtain ⟨v0, v1, v2, v3, v4⟩ := vrow ev
  by_cases h1 : 0 ≤ x ∧ x ≤ 4
  · by_cases h2 : 0 ≤ y ∧ y ≤ 4
    · by_cases h3 : vS (vw σ 2) x.toNatClampNeg = 0
      · simp only [sSpl, sSplM, eq_true h1, eq_true h2, eq_true h3, if_true, if_false]; exact hJ
      · by_cases h4 : vS (vw σ 2) y.toNatClampNeg = 0
        · simp only [sSpl, sSplM, eq_true h1, eq_true h2, eq_false h3, eq_true h4, if_true, if_false]; exact hJ
        · by_cases h5 : pz (spOK a9 f9 n (vS (vw σ 2) x.toNatClampNeg) (vS (vw σ 2) y.toNatClampNeg)) = true
          · by_cases h6 : n ≤ nI (50 - vS (vw σ 2) x.toNatClampNeg)
            · simp only [sSpl, sSplM, eq_true h1, eq_true h2, eq_false h3, eq_false h4, eq_true h5, eq_true h6, if_true, if_false]
              have hok : spOK a9 f9 n (vS (vw σ 2) x.toNatClampNeg) (vS (vw σ 2) y.toNatClampNeg) := by
                by_cases z : spOK a9 f9 n (vS (vw σ 2) x.toNatClampNeg) (vS (vw σ 2) y.toNatClampNeg)
                · exact z
                · rw [pz_f z] at h5; cases h5
              obtain ⟨w, hw, rfl⟩ := rng (m := 4) (by omega) h1
              obtain ⟨u, hu, rfl⟩ := rng (m := 4) (by omega) h2
              rw [nI_clamp (show w < 2 ^ 31 by omega)] at *
              rw [nI_clamp (show u < 2 ^ 31 by omega)] at *
              have hs5 := wf_s50 hJ.1.2 (show w < 5 by omega)
              have hu5 := wf_s50 hJ.1.2 (show u < 5 by omega)
              obtain ⟨a, f, k, rfl, rfl, rfl, g1, g2, g3⟩ := hok
              rw [nI_clamp (show a < 2 ^ 31 by omega), nI_clamp (show f < 2 ^ 31 by omega), nI_clamp (show k < 2 ^ 31 by omega)]
              have hsk : vS (vw σ 2) w + k ≤ 50 := by
                have := (nI_leI (show k < 2 ^ 31 by omega) (show 50 - vS (vw σ 2) w < 2 ^ 31 by omega)).mp h6
                omega
              generalize vS (vw σ 2) w = s at *
              generalize hα : splS σ w a u f k s = α
              have ha : ∀ q, q ∉ [2, 3, 7] → α q = σ q := fun q hq => by
                simp only [List.mem_cons, List.not_mem_nil, or_false, not_or] at hq
                rw [← hα]; unfold splS
                rw [sw_ne _ _ _ hq.2.1, sr_n _ _ hq.1, sr_n _ _ hq.2.2]
              have a2 : α 2 = insB w a u f k s σ := by
                rw [← hα]; unfold splS
                rw [sw_ne _ _ _ (by decide), sr_s]
              have a3 : α 3 = upd (σ 3) w (nI (s + k)) := by
                rw [← hα]; unfold splS
                rw [sw_row, sr_n _ _ (by decide), sr_n _ _ (by decide)]
              clear hα
              generalize hυ : splM α w a u f k s = υ
              have hb : ∀ q, q ∉ [67, 68, 74] → υ q = α q := fun q hq => by
                simp only [List.mem_cons, List.not_mem_nil, or_false, not_or] at hq
                rw [← hυ]; unfold splM
                rw [sw_ne _ _ _ hq.2.1, sr_n _ _ hq.1, sr_n _ _ hq.2.2]
              have b67 : υ 67 = insB w a u f k s σ := by
                rw [← hυ]; unfold splM
                rw [sw_ne _ _ _ (by decide), sr_s]
                unfold insB splH insH
                rw [ha 67 (by decide), ha 74 (by decide), ← v0]
                refine cpy_ext fun j hj => ?_
                rw [Nat.zero_add]
                have c1 := cpy_at (f := σ 2) (g := σ 74) (sp := 50 * u + f) (dp := 0) (n := k) hj
                have c2 := cpy_at (f := σ 2) (g := σ 7) (sp := 50 * u + f) (dp := 0) (n := k) hj
                rw [Nat.zero_add] at c1 c2
                rw [c1, c2]
              have b68 : υ 68 = upd (σ 3) w (nI (s + k)) := by
                rw [← hυ]; unfold splM
                rw [sw_row, sr_n _ _ (by decide), sr_n _ _ (by decide), ha 68 (by decide), ← v1]
              clear hυ
              have hc : ∀ q, q ∉ [2, 3, 7, 67, 68, 74] → υ q = σ q := fun q hq => by
                simp only [List.mem_cons, List.not_mem_nil, or_false, not_or] at hq
                rw [hb q (by simp only [List.mem_cons, List.not_mem_nil, or_false, not_or]; omega), ha q (by simp only [List.mem_cons, List.not_mem_nil, or_false, not_or]; omega)]
              refine J0_v hJ (fun q hq => hc q fun z => hq (by revert z; simp only [List.mem_cons, List.not_mem_nil, or_false]; omega)) (by rw [hb 2 (by decide), a2, b67]) (by rw [hb 3 (by decide), a3, b68]) (by rw [hc 4 (by decide), hc 69 (by decide), v2]) (by rw [hc 5 (by decide), hc 70 (by decide), v3]) (by rw [hc 6 (by decide), hc 71 (by decide), v4]) (wf_set hJ.1.2 (fun v _ => ?_) (fun v _ => Or.inl (by rw [hc 4 (by decide)])) (fun v _ => Or.inl (by rw [hc 5 (by decide)])) (fun q _ => Or.inl (by rw [hc 6 (by decide)])))
              rw [hb 3 (by decide), a3]
              exact (upd_or (σ 3) w v (nI (s + k))).imp id fun z => ⟨s + k, hsk, z.2⟩
            · simp only [sSpl, sSplM, eq_true h1, eq_true h2, eq_false h3, eq_false h4, eq_true h5, eq_false h6, if_true, if_false]; exact hJ
          · simp only [sSpl, sSplM, eq_true h1, eq_true h2, eq_false h3, eq_false h4, eq_false h5, if_true, if_false]; exact hJ
    · simp only [sSpl, sSplM, eq_true h1, eq_false h2, if_true, if_false]; exact hJ
  · simp only [sSpl, sSplM, eq_false h1, if_false]; exact hJ
theorem st_cut {σ : Mm} (hJ : J0 σ) (ev : vw σ 67 = vw σ 2) (x a9 n : Int32) : J0 (sCutM (vw σ 2) (sCut (vw σ 2) σ x a9 n) x a9 n) := by
  obtain ⟨v0, v1, v2, v3, v4⟩ := vrow ev
  by_cases h1 : 0 ≤ x ∧ x ≤ 4
  · by_cases h3 : vS (vw σ 2) x.toNatClampNeg = 0
    · simp only [sCut, sCutM, eq_true h1, eq_true h3, if_true]; exact hJ
    · by_cases h5 : pz (ctOK a9 n (vS (vw σ 2) x.toNatClampNeg)) = true
      · by_cases h6 : n = nI (vS (vw σ 2) x.toNatClampNeg)
        · simp only [sCut, sCutM, eq_true h1, eq_false h3, eq_true h5, eq_true h6, if_true, if_false]; exact hJ
        · simp only [sCut, sCutM, eq_true h1, eq_false h3, eq_true h5, eq_false h6, if_true, if_false]
          have hok : ctOK a9 n (vS (vw σ 2) x.toNatClampNeg) := by
            by_cases z : ctOK a9 n (vS (vw σ 2) x.toNatClampNeg)
            · exact z
            · rw [pz_f z] at h5; cases h5
          obtain ⟨w, hw, rfl⟩ := rng (m := 4) (by omega) h1
          rw [nI_clamp (show w < 2 ^ 31 by omega)] at *
          have hs5 := wf_s50 hJ.1.2 (show w < 5 by omega)
          obtain ⟨a, k, rfl, rfl, g1, g2⟩ := hok
          rw [nI_clamp (show a < 2 ^ 31 by omega), nI_clamp (show k < 2 ^ 31 by omega)]
          generalize vS (vw σ 2) w = s at *
          generalize hα : cutS σ w a k s = α
          have ha : ∀ q, q ∉ [2, 3] → α q = σ q := fun q hq => by
            simp only [List.mem_cons, List.not_mem_nil, or_false, not_or] at hq
            rw [← hα]; unfold cutS
            rw [sw_ne _ _ _ hq.2, sr_n _ _ hq.1]
          have a2 : α 2 = va_cpy (σ 2) (σ 2) (50 * w + a + k) (50 * w + a) (s - a - k) := by
            rw [← hα]; unfold cutS
            rw [sw_ne _ _ _ (by decide), sr_s]
          have a3 : α 3 = upd (σ 3) w (nI (s - k)) := by
            rw [← hα]; unfold cutS
            rw [sw_row, sr_n _ _ (by decide)]
          clear hα
          generalize hυ : cutM α w a k s = υ
          have hb : ∀ q, q ∉ [67, 68] → υ q = α q := fun q hq => by
            simp only [List.mem_cons, List.not_mem_nil, or_false, not_or] at hq
            rw [← hυ]; unfold cutM
            rw [sw_ne _ _ _ hq.2, sr_n _ _ hq.1]
          have b67 : υ 67 = va_cpy (σ 2) (σ 2) (50 * w + a + k) (50 * w + a) (s - a - k) := by
            rw [← hυ]; unfold cutM
            rw [sw_ne _ _ _ (by decide), sr_s, ha 67 (by decide), ← v0]
          have b68 : υ 68 = upd (σ 3) w (nI (s - k)) := by
            rw [← hυ]; unfold cutM
            rw [sw_row, sr_n _ _ (by decide), ha 68 (by decide), ← v1]
          clear hυ
          have hc : ∀ q, q ∉ [2, 3, 67, 68] → υ q = σ q := fun q hq => by
            simp only [List.mem_cons, List.not_mem_nil, or_false, not_or] at hq
            rw [hb q (by simp only [List.mem_cons, List.not_mem_nil, or_false, not_or]; omega), ha q (by simp only [List.mem_cons, List.not_mem_nil, or_false, not_or]; omega)]
          refine J0_v hJ (fun q hq => hc q fun z => hq (by revert z; simp only [List.mem_cons, List.not_mem_nil, or_false]; omega)) (by rw [hb 2 (by decide), a2, b67]) (by rw [hb 3 (by decide), a3, b68]) (by rw [hc 4 (by decide), hc 69 (by decide), v2]) (by rw [hc 5 (by decide), hc 70 (by decide), v3]) (by rw [hc 6 (by decide), hc 71 (by decide), v4]) (wf_set hJ.1.2 (fun v _ => ?_) (fun v _ => Or.inl (by rw [hc 4 (by decide)])) (fun v _ => Or.inl (by rw [hc 5 (by decide)])) (fun q _ => Or.inl (by rw [hc 6 (by decide)])))
          rw [hb 3 (by decide), a3]
          exact (upd_or (σ 3) w v (nI (s - k))).imp id fun z => ⟨s - k, by omega, z.2⟩
      · simp only [sCut, sCutM, eq_true h1, eq_false h3, eq_false h5, if_true, if_false]; exact hJ
  · simp only [sCut, sCutM, eq_false h1, if_false]; exact hJ
def OKy (r w : Nat) (y : Int32) : Prop := (r = 3 → ∃ a, a ≤ 50 ∧ y = nI a) ∧ (r = 4 → ∃ a, a < 6 ∧ y = nI a) ∧ (r = 5 → ∃ a, a < 100 ∧ y = nI a) ∧ (r = 6 → rlo w ≤ y ∧ y ≤ rhi w)
/-- one place of a row of the view, on both sides -/
theorem st_one {σ : Mm} (hJ : J0 σ) (ev : vw σ 67 = vw σ 2) (r w : Nat) (y : Int32) (hr : r = 3 ∨ r = 4 ∨ r = 5 ∨ r = 6) (hw : OKy r w y) : J0 (sw (sw σ r w y) (r + 65) w y) := by
  obtain ⟨v0, v1, v2, v3, v4⟩ := vrow ev
  have hc : ∀ q, q ≠ r → q ≠ r + 65 → (sw (sw σ r w y) (r + 65) w y) q = σ q := fun q h1 h2 => by rw [sw_ne _ _ _ h2, sw_ne _ _ _ h1]
  have hr1 : (sw (sw σ r w y) (r + 65) w y) r = upd (σ r) w y := by rw [sw_ne _ _ _ (by omega), sw_row]
  have hr2 : (sw (sw σ r w y) (r + 65) w y) (r + 65) = upd (σ (r + 65)) w y := by rw [sw_row, sw_ne _ _ _ (by omega)]
  generalize (sw (sw σ r w y) (r + 65) w y) = υ at hc hr1 hr2
  have hq : ∀ q, q ∉ [2, 3, 4, 5, 6, 7, 67, 68, 69, 70, 71, 74] → υ q = σ q := fun q h => by
    simp only [List.mem_cons, List.not_mem_nil, or_false, not_or] at h
    exact hc q (by omega) (by omega)
  have key : ∀ q, q = 3 ∨ q = 4 ∨ q = 5 ∨ q = 6 → σ q = σ (q + 65) → υ q = υ (q + 65) := by
    intro q hq9 e
    by_cases z : q = r
    · rw [z, hr1, hr2, ← z, e]
    · rw [hc q z (by omega), hc (q + 65) (by omega) (by omega), e]
  have ch : ∀ q v, q = 3 ∨ q = 4 ∨ q = 5 ∨ q = 6 → υ q v = σ q v ∨ (q = r ∧ v = w ∧ υ q v = y) := by
    intro q v hq9
    by_cases z : q = r
    · rw [z, hr1]
      exact (upd_or (σ r) w v y).imp id fun g => ⟨rfl, g.1, g.2⟩
    · rw [hc q z (by omega)]
      exact Or.inl rfl
  refine J0_v hJ hq (by rw [hc 2 (by omega) (by omega), hc 67 (by omega) (by omega), v0]) (key 3 (by omega) v1) (key 4 (by omega) v2) (key 5 (by omega) v3) (key 6 (by omega) v4) (wf_set hJ.1.2 (fun v _ => ?_) (fun v _ => ?_) (fun v _ => ?_) (fun v _ => ?_))
  · refine (ch 3 v (by omega)).imp id fun g => ?_
    rw [g.2.2]
    obtain ⟨w1, w2, w3, w4⟩ := hw
    exact w1 g.1.symm
  · refine (ch 4 v (by omega)).imp id fun g => ?_
    rw [g.2.2]
    obtain ⟨w1, w2, w3, w4⟩ := hw
    exact w2 g.1.symm
  · refine (ch 5 v (by omega)).imp id fun g => ?_
    rw [g.2.2]
    obtain ⟨w1, w2, w3, w4⟩ := hw
    exact w3 g.1.symm
  · refine (ch 6 v (by omega)).imp id fun g => ?_
    rw [g.2.2, g.2.1]
    obtain ⟨w1, w2, w3, w4⟩ := hw
    exact w4 g.1.symm
theorem st_drop {σ : Mm} (hJ : J0 σ) (ev : vw σ 67 = vw σ 2) (x : Int32) : J0 (sDrop 68 (vw σ 2) (sDrop 3 (vw σ 2) σ x) x) := by
  by_cases h1 : 0 ≤ x ∧ x ≤ 4
  · by_cases h3 : vS (vw σ 2) x.toNatClampNeg = 0
    · simp only [sDrop, eq_true h1, eq_true h3, if_true]; exact hJ
    · simp only [sDrop, eq_true h1, eq_false h3, if_true, if_false]
      exact st_one hJ ev 3 _ _ (by omega) ⟨fun _ => ⟨0, by omega, rfl⟩, fun z => by omega, fun z => by omega, fun z => by omega⟩
  · simp only [sDrop, eq_false h1, if_false]; exact hJ
theorem st_alt {σ : Mm} (hJ : J0 σ) (ev : vw σ 67 = vw σ 2) (x q v : Int32) : J0 (sAlt 69 (vw σ 2) (sAlt 4 (vw σ 2) σ x q v) x q v) := by
  by_cases h1 : 0 ≤ x ∧ x ≤ 4
  · by_cases h2 : 0 ≤ q ∧ q < nI 2
    · by_cases h4 : q = 0
      · by_cases h5 : 0 ≤ v ∧ v ≤ 5
        · by_cases h3 : vS (vw σ 2) x.toNatClampNeg = 0
          · simp only [sAlt, eq_true h1, eq_true h2, eq_true h4, eq_true h5, eq_true h3, if_true]; exact hJ
          · simp only [sAlt, eq_true h1, eq_true h2, eq_true h4, eq_true h5, eq_false h3, if_true, if_false]
            obtain ⟨k, hk, rfl⟩ := rng (m := 5) (by omega) h5
            exact st_one hJ ev 4 _ _ (by omega) ⟨fun z => by omega, fun _ => ⟨k, by omega, rfl⟩, fun z => by omega, fun z => by omega⟩
        · simp only [sAlt, eq_true h1, eq_true h2, eq_true h4, eq_false h5, if_true, if_false]; exact hJ
      · by_cases h5 : 0 ≤ v ∧ v ≤ 99
        · by_cases h3 : vS (vw σ 2) x.toNatClampNeg = 0
          · simp only [sAlt, eq_true h1, eq_true h2, eq_false h4, eq_true h5, eq_true h3, if_true, if_false]; exact hJ
          · simp only [sAlt, eq_true h1, eq_true h2, eq_false h4, eq_true h5, eq_false h3, if_true, if_false]
            obtain ⟨k, hk, rfl⟩ := rng (m := 99) (by omega) h5
            exact st_one hJ ev 5 _ _ (by omega) ⟨fun z => by omega, fun z => by omega, fun _ => ⟨k, by omega, rfl⟩, fun z => by omega⟩
        · simp only [sAlt, eq_true h1, eq_true h2, eq_false h4, eq_false h5, if_true, if_false]; exact hJ
    · simp only [sAlt, eq_true h1, eq_false h2, if_true, if_false]; exact hJ
  · simp only [sAlt, eq_false h1, if_false]; exact hJ
theorem st_rule {σ : Mm} (hJ : J0 σ) (ev : vw σ 67 = vw σ 2) (q v : Int32) : J0 (sRule 71 (sRule 6 σ q v) q v) := by
  by_cases h1 : 0 ≤ q ∧ q < nI 6
  · by_cases h2 : v < rlo q.toNatClampNeg
    · simp only [sRule, eq_true h1, eq_true h2, if_true]; exact hJ
    · by_cases h3 : v ≤ rhi q.toNatClampNeg
      · simp only [sRule, eq_true h1, eq_false h2, eq_true h3, if_true, if_false]
        exact st_one hJ ev 6 _ _ (by omega) ⟨fun z => by omega, fun z => by omega, fun z => by omega, fun _ => ⟨Int32.not_lt.mp h2, h3⟩⟩
      · simp only [sRule, eq_true h1, eq_false h2, eq_false h3, if_true, if_false]; exact hJ
  · simp only [sRule, eq_false h1, if_false]; exact hJ
theorem st_image {σ υ : Mm} (hJ : J0 σ) (h : IMw (vw σ 2) υ ∧ (∀ k, k ≠ 66 → k ≠ 73 → υ k = (sw (tkM 1 8 σ) 0 7 (nI 1)) k) ∧ υ 66 6 = (sw (tkM 1 8 σ) 0 7 (nI 1)) 66 6 ∧ υ 66 8 = nI 1) : J0 υ := by
  obtain ⟨hI, hf, h6, h8⟩ := h
  obtain ⟨t1, t2⟩ := tkM_vw (a := 1) (b := 8) (σ := σ) (by decide) rfl
  have hc : ∀ q, q ∉ [0, 9, 10, 11, 12, 13, 66, 73] → υ q = σ q := fun q hq => by
    simp only [List.mem_cons, List.not_mem_nil, or_false, not_or] at hq
    rw [hf q hq.2.2.2.2.2.2.1 hq.2.2.2.2.2.2.2, sw_ne _ _ _ hq.1, t2 q (by simp only [List.mem_cons, List.not_mem_nil, or_false, not_or]; omega)]
  have e9 : vw υ 9 = vw σ 2 := (vw_of (fun j hj => by rw [hf _ (by omega) (by omega), sw_ne _ _ _ (by omega)])).trans t1
  have e0 : ∀ j, j ≠ 7 → υ 0 j = σ 0 j := fun j hj => by rw [hf 0 (by decide) (by decide), sw_o hj, t2 0 (by decide)]
  refine ⟨J1_k hJ.1 (NI_of hc (by decide)), J2_k hJ.2.1 (e0 6 (by decide)) (by rw [h6, sw_ne _ _ _ (by decide), t2 66 (by decide)]) (hc 65 (by decide)) (hc 72 (by decide)), ⟨true, by rw [hf 0 (by decide) (by decide), sw_eq]; rfl, by rw [h8]; rfl, fun _ => by rw [e9]; exact ⟨hJ.1.2, hI⟩⟩, J4_k hJ.2.2.2 (NI_of hc (by decide))⟩
theorem st_back {σ υ : Mm} (hJ : J0 σ) {b : Bool} (hb : σ 0 7 = bz b) (h : (b = true → SHw (vw σ 9) υ) ∧ (∀ k, k ≠ 66 → (k < 67 ∨ 71 < k ∨ b = false) → υ k = (if b = true then tkM 8 1 σ else σ) k) ∧ ∀ j, j ≠ 9 → j ≠ 10 → υ 66 j = (if b = true then tkM 8 1 σ else σ) 66 j) : J0 υ := by
  cases b with
  | false =>
    have hc : ∀ q, q ∉ [66] → υ q = σ q := fun q hq => by
      simp only [List.mem_singleton] at hq
      exact h.2.1 q hq (Or.inr (Or.inr rfl))
    have h66 : ∀ j, j ≠ 9 → j ≠ 10 → υ 66 j = σ 66 j := h.2.2
    exact ⟨J1_k hJ.1 (NI_of hc (by decide)), J2_k hJ.2.1 (by rw [hc 0 (by decide)]) (h66 6 (by decide) (by decide)) (hc 65 (by decide)) (hc 72 (by decide)), J3_k hJ.2.2.1 (by rw [hc 0 (by decide)]) (h66 8 (by decide) (by decide)) (NI_of hc (by decide)), J4_k hJ.2.2.2 (NI_of hc (by decide))⟩
  | true =>
    obtain ⟨t1, t2⟩ := tkM_vw (a := 8) (b := 1) (σ := σ) (by decide) rfl
    have hf : ∀ k, k ≠ 66 → (k < 67 ∨ 71 < k) → υ k = tkM 8 1 σ k := fun k g1 g2 => h.2.1 k g1 (g2.elim Or.inl fun z => Or.inr (Or.inl z))
    have h66 : ∀ j, j ≠ 9 → j ≠ 10 → υ 66 j = tkM 8 1 σ 66 j := h.2.2
    have hc : ∀ q, q ∉ [2, 3, 4, 5, 6, 66, 67, 68, 69, 70, 71] → υ q = σ q := fun q hq => by
      simp only [List.mem_cons, List.not_mem_nil, or_false, not_or] at hq
      rw [hf q (by omega) (by omega), t2 q (by simp only [List.mem_cons, List.not_mem_nil, or_false, not_or]; omega)]
    have e2 : vw υ 2 = vw σ 9 := (vw_of (fun j hj => hf _ (by omega) (by omega))).trans t1
    obtain ⟨b2, c1, c2, c3⟩ := hJ.2.2.1
    have eb : b2 = true := by
      rw [c1] at hb
      cases b2
      · exact absurd hb (by decide +kernel)
      · rfl
    obtain ⟨s0, s1, s2, s3, s4⟩ := h.1 rfl
    refine ⟨⟨by rw [e2]; exact ⟨fun j hj => (s0 j hj).symm, fun j hj => (s1 j hj).symm, fun j hj => (s2 j hj).symm, fun j hj => (s3 j hj).symm, fun j hj => (s4 j hj).symm⟩, by rw [e2]; exact (c3 eb).1⟩, J2_k hJ.2.1 (by rw [hc 0 (by decide)]) (by rw [h66 6 (by decide) (by decide), t2 66 (by decide)]) (hc 65 (by decide)) (hc 72 (by decide)), J3_k hJ.2.2.1 (by rw [hc 0 (by decide)]) (by rw [h66 8 (by decide) (by decide), t2 66 (by decide)]) (NI_of hc (by decide)), J4_k hJ.2.2.2 (NI_of hc (by decide))⟩
