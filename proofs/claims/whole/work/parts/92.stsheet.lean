/-! film, sheet, put, copy keep it -/
theorem i8n {n : Nat} (h : n < 128) : (nI n).toInt8.toInt32 = nI n := by
  have key : ∀ n, n < 128 → (nI n).toInt8.toInt32 = nI n := by decide +kernel
  exact key n h
theorem ITr_s {q x : Int32} {n : Nat} (hn : n < 128) (h : x = nI n) : ITr q x x := ⟨fun _ => ⟨x, by rw [h, and255n (by omega)], by rw [h, i8n hn]⟩, fun _ => rfl⟩
theorem ITr_0 (q : Int32) : ITr q 0 0 := ITr_s (n := 0) (by omega) nI_0.symm
theorem flT_n {V : Mm} (hv : wf V) {w : Nat} (hw : w < 5) {j : Nat} (hj : j < flN V w) : ∃ n, n < 50 ∧ flT V w j = nI n := by
  have hN2 : flN V w ≤ 2 * spN (sT V w (vR V 4)) (lC V w) := Nat.min_le_right _ _
  have h1 := PL_lt V w (tPi_lt (s := sT V w (vR V 4)) (L := lC V w) (i := j) (by omega))
  have h2 := wf_s50 hv hw
  exact ⟨_, by omega, rfl⟩
theorem st_film {σ τ υ : Mm} (hJ : J0 σ) (s9 x : Int32) (h1 : sFilm (vw σ 2) σ τ s9 x) (h2 : sFilmM (vw σ 2) τ υ s9 x) : J0 υ := by
  by_cases c1 : 0 ≤ s9 ∧ s9 ≤ 3
  · by_cases c2 : 0 ≤ x ∧ x ≤ 4
    · by_cases c3 : vS (vw σ 2) x.toNatClampNeg = 0
      · simp only [sFilm, eq_true c1, eq_true c2, eq_true c3, if_true] at h1
        simp only [sFilmM, eq_true c1, eq_true c2, eq_true c3, if_true] at h2
        rw [h2, h1]; exact hJ
      · simp only [sFilm, eq_true c1, eq_true c2, eq_false c3, if_true, if_false] at h1
        simp only [sFilmM, eq_true c1, eq_true c2, eq_false c3, if_true, if_false] at h2
        obtain ⟨s, hs, rfl⟩ := rng (m := 3) (by omega) c1
        obtain ⟨w, hw, rfl⟩ := rng (m := 4) (by omega) c2
        rw [nI_clamp (show s < 2 ^ 31 by omega), nI_clamp (show w < 2 ^ 31 by omega)] at h1 h2
        have hfl := @flT_n (vw σ 2) hJ.1.2 w (by omega)
        have hN20 : flN (vw σ 2) w ≤ 20 := Nat.min_le_left _ _
        obtain ⟨a1, a2, a3, a4⟩ := h1
        obtain ⟨b1, ⟨b2, b3⟩, b4, b5, b6⟩ := h2
        generalize flN (vw σ 2) w = N at *
        have hc : ∀ q, (q < 15 ∨ 60 < q ∧ q < 75 ∨ 91 < q) → q ≠ 62 → q ≠ 63 → q ≠ 64 → q ≠ 66 → q ≠ 99 → q ≠ 93 + s → q ≠ 97 → q ≠ 98 → υ q = σ q := fun q g0 g1 g2 g3 g4 g5 g6 g7 g8 => (b1 q (by omega) g4 g5 g6 g7 g8).trans (a1 q (by omega) g1 g2 g3)
        have hd : ∀ q, q ∈ [0, 2, 3, 4, 5, 6, 9, 10, 11, 12, 13, 65, 67, 68, 69, 70, 71, 72, 73] → υ q = σ q := fun q hq => by
          simp only [List.mem_cons, List.not_mem_nil, or_false] at hq
          exact hc q (by omega) (by omega) (by omega) (by omega) (by omega) (by omega) (by omega) (by omega) (by omega)
        have h66 : ∀ j, σ 66 j = τ 66 j := fun j => (congrFun (a1 66 (by omega) (by omega) (by omega) (by omega)) j).symm
        refine ⟨J1_k hJ.1 fun q hq => hd q ?_, J2_k hJ.2.1 (by rw [hd 0 (by decide)]) (by rw [b2, h66]) (hd 65 (by decide)) (hd 72 (by decide)), J3_k hJ.2.2.1 (by rw [hd 0 (by decide)]) (by rw [b3, h66]) fun q hq => hd q ?_, fun s' hs' => ?_⟩
        · simp only [List.mem_cons, List.not_mem_nil, or_false] at hq ⊢; omega
        · simp only [List.mem_cons, List.not_mem_nil, or_false] at hq ⊢; omega
        · have u62 : υ 62 = τ 62 := b1 62 (by omega) (by omega) (by omega) (by omega) (by omega) (by omega)
          have u63 : υ 63 = upd (σ 63) s (nI N) := (b1 63 (by omega) (by omega) (by omega) (by omega) (by omega) (by omega)).trans a2
          have u64 : υ 64 = upd (σ 64) s (nI 0) := (b1 64 (by omega) (by omega) (by omega) (by omega) (by omega) (by omega)).trans a3
          have t97 : τ 97 = σ 97 := a1 97 (by omega) (by omega) (by omega) (by omega)
          have t98 : τ 98 = σ 98 := a1 98 (by omega) (by omega) (by omega) (by omega)
          by_cases e : s' = s
          · subst e
            refine ⟨N, by omega, by rw [u63, upd_s], by rw [b4, upd_s], by rw [u64, b5, upd_s, upd_s], by rw [b5, upd_s]; exact Or.inr (Or.inl rfl), fun j hj => ?_⟩
            rw [u62, a4, b6, if_pos (show 40 * s' ≤ 40 * s' + j ∧ 40 * s' + j < 40 * s' + N by omega), if_pos hj, show 40 * s' + j - 40 * s' = j by omega]
            obtain ⟨n, hn, en⟩ := hfl hj
            exact ITr_s (n := n) (by omega) en
          · refine SHr_k (hJ.2.2.2 s' hs') (by rw [u63, upd_n _ _ e]) (by rw [b4, upd_n _ _ e, t98]) (by rw [u64, upd_n _ _ e]) (by rw [b5, upd_n _ _ e, t97]) (fun j hj => ?_) ((b1 (93 + s') (by omega) (by omega) (by omega) (by omega) (by omega) (by omega)).trans (a1 (93 + s') (by omega) (by omega) (by omega) (by omega)))
            rw [u62, a4, if_neg (by omega)]
            exact if_neg (by omega)
    · simp only [sFilm, eq_true c1, eq_false c2, if_true, if_false] at h1
      simp only [sFilmM, eq_true c1, eq_false c2, if_true, if_false] at h2
      rw [h2, h1]; exact hJ
  · simp only [sFilm, eq_false c1, if_false] at h1
    simp only [sFilmM, eq_false c1, if_false] at h2
    rw [h2, h1]; exact hJ
/-- a call on sheets alone: what else there is stays -/
theorem J0_s {σ υ : Mm} (hJ : J0 σ) (hc : ∀ q, q ∉ [62, 63, 64, 93, 94, 95, 96, 97, 98, 100] → υ q = σ q) (h4 : J4 υ) : J0 υ :=
  ⟨J1_k hJ.1 (NI_of hc (by decide)), J2_k hJ.2.1 (by rw [hc 0 (by decide)]) (by rw [hc 66 (by decide)]) (hc 65 (by decide)) (hc 72 (by decide)), J3_k hJ.2.2.1 (by rw [hc 0 (by decide)]) (by rw [hc 66 (by decide)]) (NI_of hc (by decide)), h4⟩
theorem st_bc {σ : Mm} (hJ : J0 σ) {s m : Nat} {q : Int32} (hs : s < 4) (hq : q = -(nI 1) ∨ q = nI 0 ∨ q = nI 1) (hm : m ≤ 40) : J0 (bcM (bcS σ s q m) s q m) := by
  generalize hα : bcS σ s q m = α
  have ha : ∀ k, k ∉ [62, 63, 64] → α k = σ k := fun k hk => by
    simp only [List.mem_cons, List.not_mem_nil, or_false, not_or] at hk
    rw [← hα]; unfold bcS
    rw [sr_n _ _ hk.1, sw_ne _ _ _ hk.2.1, sw_ne _ _ _ hk.2.2]
  have a62 : α 62 = fl (σ 62) (40 * s) (40 * s + 40) (nI 0) := by
    rw [← hα]; unfold bcS
    rw [sr_s]
  have a63 : α 63 = upd (σ 63) s (nI m) := by
    rw [← hα]; unfold bcS
    rw [sr_n _ _ (by decide), sw_row, sw_ne _ _ _ (by decide)]
  have a64 : α 64 = upd (σ 64) s q := by
    rw [← hα]; unfold bcS
    rw [sr_n _ _ (by decide), sw_ne _ _ _ (by decide), sw_row]
  clear hα
  generalize hυ : bcM α s q m = υ
  have hb : ∀ k, k ≠ 93 + s → k ≠ 97 → k ≠ 98 → υ k = α k := fun k h1 h2 h3 => by
    rw [← hυ]; unfold bcM
    rw [sr_n _ _ h1, sw_ne _ _ _ h3, sw_ne _ _ _ h2]
  have b93 : υ (93 + s) = fl (σ (93 + s)) 0 40 (nI 0) := by
    rw [← hυ]; unfold bcM
    rw [sr_s, ha (93 + s) (by simp only [List.mem_cons, List.not_mem_nil, or_false]; omega)]
  have b97 : υ 97 = upd (σ 97) s q := by
    rw [← hυ]; unfold bcM
    rw [sr_n _ _ (by omega), sw_ne _ _ _ (by decide), sw_row, ha 97 (by decide)]
  have b98 : υ 98 = upd (σ 98) s (nI m) := by
    rw [← hυ]; unfold bcM
    rw [sr_n _ _ (by omega), sw_row, sw_ne _ _ _ (by decide), ha 98 (by decide)]
  clear hυ
  refine J0_s hJ (fun k hk => ?_) fun s' hs' => ?_
  · simp only [List.mem_cons, List.not_mem_nil, or_false, not_or] at hk
    rw [hb k (by omega) (by omega) (by omega), ha k (by simp only [List.mem_cons, List.not_mem_nil, or_false, not_or]; omega)]
  · have u62 : υ 62 = α 62 := hb 62 (by omega) (by omega) (by omega)
    have u63 : υ 63 = α 63 := hb 63 (by omega) (by omega) (by omega)
    have u64 : υ 64 = α 64 := hb 64 (by omega) (by omega) (by omega)
    by_cases e : s' = s
    · subst e
      refine ⟨m, hm, by rw [u63, a63, upd_s], by rw [b98, upd_s], by rw [u64, a64, b97, upd_s, upd_s], by rw [b97, upd_s]; exact hq, fun j hj => ?_⟩
      rw [u62, a62, b93, b97, upd_s]
      have e1 : fl (σ 62) (40 * s') (40 * s' + 40) (nI 0) (40 * s' + j) = 0 := by
        unfold fl
        rw [if_pos (by omega), nI_0]
      have e2 : fl (σ (93 + s')) 0 40 (nI 0) j = 0 := by
        unfold fl
        rw [if_pos (by omega), nI_0]
      rw [e1, e2]
      exact ITr_0 q
    · refine SHr_k (hJ.2.2.2 s' hs') (by rw [u63, a63, upd_n _ _ e]) (by rw [b98, upd_n _ _ e]) (by rw [u64, a64, upd_n _ _ e]) (by rw [b97, upd_n _ _ e]) (fun j hj => ?_) (by rw [hb _ (by omega) (by omega) (by omega), ha _ (by simp only [List.mem_cons, List.not_mem_nil, or_false]; omega)])
      rw [u62, a62]
      unfold fl
      rw [if_neg (by omega)]
theorem st_sheet {σ : Mm} (hJ : J0 σ) (s9 q n : Int32) : J0 (sSheetM (sSheet σ s9 q n) s9 q n) := by
  by_cases c1 : 0 ≤ s9 ∧ s9 ≤ 3
  · by_cases c2 : q < -(nI 1)
    · simp only [sSheet, sSheetM, eq_true c1, eq_true c2, if_true]; exact hJ
    · by_cases c3 : q ≤ nI 1
      · obtain ⟨s, hs, rfl⟩ := rng (m := 3) (by omega) c1
        have es : (nI s).toNatClampNeg = s := nI_clamp (by omega)
        by_cases c4 : q = -(nI 1)
        · simp only [sSheet, sSheetM, eq_true c1, eq_false c2, eq_true c3, eq_true c4, if_true, if_false, es]
          exact st_bc hJ (by omega) (Or.inl rfl) (by omega)
        · by_cases c5 : n ≤ nI 40
          · by_cases c6 : n < 0
            · simp only [sSheet, sSheetM, eq_true c1, eq_false c2, eq_true c3, eq_false c4, eq_true c5, eq_true c6, if_true, if_false]; exact hJ
            · simp only [sSheet, sSheetM, eq_true c1, eq_false c2, eq_true c3, eq_false c4, eq_true c5, eq_false c6, if_true, if_false, es]
              obtain ⟨m, hm, rfl⟩ := rng (m := 40) (by omega) ⟨Int32.not_lt.mp c6, c5⟩
              rw [nI_clamp (by omega)]
              refine st_bc hJ (by omega) ?_ (by omega)
              have hq0 : ¬ q < 0 := fun z => c4 (neg_m1 (Int32.not_lt.mp c2) z)
              obtain ⟨k, hk, rfl⟩ := rng (m := 1) (by omega) ⟨Int32.not_lt.mp hq0, c3⟩
              rcases (show k = 0 ∨ k = 1 by omega) with rfl | rfl
              · exact Or.inr (Or.inl rfl)
              · exact Or.inr (Or.inr rfl)
          · simp only [sSheet, sSheetM, eq_true c1, eq_false c2, eq_true c3, eq_false c4, eq_false c5, if_true, if_false]; exact hJ
      · simp only [sSheet, sSheetM, eq_true c1, eq_false c2, eq_false c3, if_true, if_false]; exact hJ
  · simp only [sSheet, sSheetM, eq_false c1, if_false]; exact hJ
theorem J4_n {σ : Mm} (h : J4 σ) : ∃ n : Nat → Nat, ∀ s, s < 4 → n s ≤ 40 ∧ σ 63 s = nI (n s) ∧ σ 98 s = nI (n s) ∧ σ 64 s = σ 97 s ∧ (σ 97 s = -(nI 1) ∨ σ 97 s = nI 0 ∨ σ 97 s = nI 1) ∧ ∀ j, j < n s → ITr (σ 97 s) (σ 62 (40 * s + j)) (σ (93 + s) j) := by
  refine ⟨fun s => (σ 63 s).toNatClampNeg, fun s hs => ?_⟩
  obtain ⟨n, h1, h2, h3, h4, h5, h6⟩ := h s hs
  have e : (σ 63 s).toNatClampNeg = n := by rw [h2, nI_clamp (by omega)]
  show (σ 63 s).toNatClampNeg ≤ 40 ∧ σ 63 s = nI (σ 63 s).toNatClampNeg ∧ σ 98 s = nI (σ 63 s).toNatClampNeg ∧ _ ∧ _ ∧ ∀ j, j < (σ 63 s).toNatClampNeg → _
  rw [e]
  exact ⟨h1, h2, h3, h4, h5, h6⟩
theorem st_put {σ : Mm} (hJ : J0 σ) {n : Nat → Nat} (hn : ∀ s, s < 4 → n s ≤ 40 ∧ σ 63 s = nI (n s) ∧ σ 98 s = nI (n s) ∧ σ 64 s = σ 97 s ∧ (σ 97 s = -(nI 1) ∨ σ 97 s = nI 0 ∨ σ 97 s = nI 1) ∧ ∀ j, j < n s → ITr (σ 97 s) (σ 62 (40 * s + j)) (σ (93 + s) j)) (s9 i v : Int32) : J0 (sPutM n (sPut n σ s9 i v) s9 i v) := by
  by_cases c1 : 0 ≤ s9 ∧ s9 ≤ 3
  · obtain ⟨s, hs, rfl⟩ := rng (m := 3) (by omega) c1
    have es : (nI s).toNatClampNeg = s := nI_clamp (by omega)
    obtain ⟨h1, h2, h3, h4, h5, h6⟩ := hn s (by omega)
    by_cases c2 : σ 97 s = -(nI 1)
    · have c2' : σ 64 s = -(nI 1) := h4.trans c2
      simp only [sPut, sPutM, eq_true c1, es, eq_true c2, eq_true c2', if_true]; exact hJ
    · have c2' : ¬ σ 64 s = -(nI 1) := fun z => c2 (h4.symm.trans z)
      by_cases c3 : i < 0
      · simp only [sPut, sPutM, eq_true c1, es, eq_false c2, eq_false c2', eq_true c3, if_true, if_false]; exact hJ
      · by_cases c4 : i < nI (n s)
        · obtain ⟨p, hp, rfl⟩ := rngO (m := n s) (by omega) ⟨Int32.not_lt.mp c3, c4⟩
          have ep : (nI p).toNatClampNeg = p := nI_clamp (by omega)
          have eA : sPut n σ (nI s) (nI p) v = sw σ 62 (40 * s + p) (if σ 64 s = 0 then v &&& nI 255 else v) := by
            simp only [sPut, eq_true c1, es, ep, eq_false c2', eq_false c3, eq_true c4, if_true, if_false]
          have e97 : sw σ 62 (40 * s + p) (if σ 64 s = 0 then v &&& nI 255 else v) 97 = σ 97 := sw_ne _ _ _ (by decide)
          have eB : sPutM n (sw σ 62 (40 * s + p) (if σ 64 s = 0 then v &&& nI 255 else v)) (nI s) (nI p) v = sw (sw σ 62 (40 * s + p) (if σ 64 s = 0 then v &&& nI 255 else v)) (93 + s) p (if σ 97 s = 0 then v.toInt8.toInt32 else v) := by
            simp only [sPutM, eq_true c1, es, ep, e97, eq_false c2, eq_false c3, eq_true c4, if_true, if_false]
          rw [eA, eB]
          generalize hx : (if σ 64 s = 0 then v &&& nI 255 else v) = x
          generalize hy : (if σ 97 s = 0 then v.toInt8.toInt32 else v) = y
          have hxy : ITr (σ 97 s) x y := by
            refine ⟨fun z => ⟨v, ?_, ?_⟩, fun z => ?_⟩
            · rw [← hx, if_pos (by rw [h4, z, nI_0])]
            · rw [← hy, if_pos (by rw [z, nI_0])]
            · have z2 : ¬ σ 97 s = 0 := fun g => z (by rw [g, nI_0])
              rw [← hx, ← hy, if_neg (by rw [h4]; exact z2), if_neg z2]
          have hc : ∀ q, q ≠ 62 → q ≠ 93 + s → (sw (sw σ 62 (40 * s + p) x) (93 + s) p y) q = σ q := fun q g1 g2 => by rw [sw_ne _ _ _ g2, sw_ne _ _ _ g1]
          have r62 : (sw (sw σ 62 (40 * s + p) x) (93 + s) p y) 62 = upd (σ 62) (40 * s + p) x := by rw [sw_ne _ _ _ (by omega), sw_row]
          have r93 : (sw (sw σ 62 (40 * s + p) x) (93 + s) p y) (93 + s) = upd (σ (93 + s)) p y := by rw [sw_row, sw_ne _ _ _ (by omega)]
          generalize (sw (sw σ 62 (40 * s + p) x) (93 + s) p y) = υ at hc r62 r93
          refine J0_s hJ (fun k hk => ?_) fun s' hs' => ?_
          · simp only [List.mem_cons, List.not_mem_nil, or_false, not_or] at hk
            exact hc k (by omega) (by omega)
          · by_cases e : s' = s
            · subst e
              refine ⟨n s', h1, by rw [hc 63 (by omega) (by omega)]; exact h2, by rw [hc 98 (by omega) (by omega)]; exact h3, by rw [hc 64 (by omega) (by omega), hc 97 (by omega) (by omega)]; exact h4, by rw [hc 97 (by omega) (by omega)]; exact h5, fun j hj => ?_⟩
              rw [hc 97 (by omega) (by omega), r62, r93]
              by_cases z : j = p
              · subst z
                rw [upd_s, upd_s]
                exact hxy
              · rw [upd_n _ _ z, upd_n _ _ (show 40 * s' + j ≠ 40 * s' + p by omega)]
                exact h6 j hj
            · refine SHr_k (hJ.2.2.2 s' hs') (by rw [hc 63 (by omega) (by omega)]) (by rw [hc 98 (by omega) (by omega)]) (by rw [hc 64 (by omega) (by omega)]) (by rw [hc 97 (by omega) (by omega)]) (fun j hj => ?_) (hc _ (by omega) (by omega))
              rw [r62, upd_n _ _ (by omega)]
        · simp only [sPut, sPutM, eq_true c1, es, eq_false c2, eq_false c2', eq_false c3, eq_false c4, if_true, if_false]; exact hJ
  · simp only [sPut, sPutM, eq_false c1, if_false]; exact hJ
theorem st_copy {σ : Mm} (hJ : J0 σ) {n : Nat → Nat} (hn : ∀ s, s < 4 → n s ≤ 40 ∧ σ 63 s = nI (n s) ∧ σ 98 s = nI (n s) ∧ σ 64 s = σ 97 s ∧ (σ 97 s = -(nI 1) ∨ σ 97 s = nI 0 ∨ σ 97 s = nI 1) ∧ ∀ j, j < n s → ITr (σ 97 s) (σ 62 (40 * s + j)) (σ (93 + s) j)) (s9 i9 u9_ j9 k9 : Int32) : J0 (sCopyM n (sCopy n σ s9 i9 u9_ j9 k9) s9 i9 u9_ j9 k9) := by
  by_cases c1 : 0 ≤ s9 ∧ s9 ≤ 3
  · by_cases c2 : 0 ≤ u9_ ∧ u9_ ≤ 3
    · obtain ⟨s, hs, rfl⟩ := rng (m := 3) (by omega) c1
      have es : (nI s).toNatClampNeg = s := nI_clamp (by omega)
      obtain ⟨u, hu, rfl⟩ := rng (m := 3) (by omega) c2
      have eu : (nI u).toNatClampNeg = u := nI_clamp (by omega)
      obtain ⟨h1, h2, h3, h4, h5, h6⟩ := hn s (by omega)
      obtain ⟨g1, g2, g3, g4, g5, g6⟩ := hn u (by omega)
      by_cases c3 : σ 97 s = -(nI 1)
      · have c3' : σ 64 s = -(nI 1) := h4.trans c3
        simp only [sCopy, sCopyM, eq_true c1, eq_true c2, es, eu, eq_true c3, eq_true c3', if_true]; exact hJ
      · have c3' : ¬ σ 64 s = -(nI 1) := fun z => c3 (h4.symm.trans z)
        by_cases c4 : σ 97 u = -(nI 1)
        · have c4' : σ 64 u = -(nI 1) := g4.trans c4
          simp only [sCopy, sCopyM, eq_true c1, eq_true c2, es, eu, eq_false c3, eq_false c3', eq_true c4, eq_true c4', if_true, if_false]; exact hJ
        · have c4' : ¬ σ 64 u = -(nI 1) := fun z => c4 (g4.symm.trans z)
          by_cases c5 : σ 97 s = σ 97 u
          · have c5' : σ 64 s = σ 64 u := by rw [h4, g4, c5]
            by_cases c6 : pz (cpOK i9 j9 k9 (n s) (n u)) = true
            · have hok : cpOK i9 j9 k9 (n s) (n u) := by
                by_cases z : cpOK i9 j9 k9 (n s) (n u)
                · exact z
                · rw [pz_f z] at c6; cases c6
              obtain ⟨a, b, k, rfl, rfl, rfl, q1, q2⟩ := hok
              have ea : (nI a).toNatClampNeg = a := nI_clamp (by omega)
              have eb : (nI b).toNatClampNeg = b := nI_clamp (by omega)
              have ek : (nI k).toNatClampNeg = k := nI_clamp (by omega)
              have eA : sCopy n σ (nI s) (nI a) (nI u) (nI b) (nI k) = sr σ 62 (va_cpy (σ 62) (σ 62) (40 * s + a) (40 * u + b) k) := by
                simp only [sCopy, eq_true c1, eq_true c2, es, eu, ea, eb, ek, eq_false c3', eq_false c4', eq_true c5', c6, if_true, if_false]
              generalize hα : sr σ 62 (va_cpy (σ 62) (σ 62) (40 * s + a) (40 * u + b) k) = α
              have ha : ∀ q, q ≠ 62 → α q = σ q := fun q h => by rw [← hα, sr_n _ _ h]
              have a62 : α 62 = va_cpy (σ 62) (σ 62) (40 * s + a) (40 * u + b) k := by rw [← hα, sr_s]
              have eB : sCopyM n α (nI s) (nI a) (nI u) (nI b) (nI k) = cpM α s u a b k := by
                simp only [sCopyM, eq_true c1, eq_true c2, es, eu, ea, eb, ek, ha 97 (by decide), eq_false c3, eq_false c4, eq_true c5, c6, if_true, if_false]
              rw [eA, hα, eB]
              clear hα
              have hc : ∀ q, q ≠ 62 → q ≠ 100 → q ≠ 93 + u → cpM α s u a b k q = σ q := fun q z1 z2 z3 => by
                unfold cpM
                rw [sr_n _ _ z3, sr_n _ _ z2, ha q z1]
              have r62 : cpM α s u a b k 62 = va_cpy (σ 62) (σ 62) (40 * s + a) (40 * u + b) k := by
                unfold cpM
                rw [sr_n _ _ (by omega), sr_n _ _ (by omega), a62]
              have r93 : cpM α s u a b k (93 + u) = va_cpy (va_cpy (σ (93 + s)) (σ 100) a 0 k) (σ (93 + u)) 0 b k := by
                unfold cpM
                rw [sr_s, ha (93 + s) (by omega), ha 100 (by omega), ha (93 + u) (by omega)]
              generalize cpM α s u a b k = υ at hc r62 r93
              refine J0_s hJ (fun q hq => ?_) fun s' hs' => ?_
              · simp only [List.mem_cons, List.not_mem_nil, or_false, not_or] at hq
                exact hc q (by omega) (by omega) (by omega)
              · by_cases e : s' = u
                · subst e
                  refine ⟨n s', g1, by rw [hc 63 (by omega) (by omega) (by omega)]; exact g2, by rw [hc 98 (by omega) (by omega) (by omega)]; exact g3, by rw [hc 64 (by omega) (by omega) (by omega), hc 97 (by omega) (by omega) (by omega)]; exact g4, by rw [hc 97 (by omega) (by omega) (by omega)]; exact g5, fun j hj => ?_⟩
                  rw [hc 97 (by omega) (by omega) (by omega), r62, r93]
                  by_cases z : b ≤ j ∧ j < b + k
                  · obtain ⟨t, rfl⟩ : ∃ t, j = b + t := ⟨j - b, by omega⟩
                    have ht : t < k := by omega
                    have c1 := cpy_at (f := σ 62) (g := σ 62) (sp := 40 * s + a) (dp := 40 * s' + b) (n := k) ht
                    have c2 := cpy_at (f := va_cpy (σ (93 + s)) (σ 100) a 0 k) (g := σ (93 + s')) (sp := 0) (dp := b) (n := k) ht
                    have c3 := cpy_at (f := σ (93 + s)) (g := σ 100) (sp := a) (dp := 0) (n := k) ht
                    rw [show 40 * s' + (b + t) = 40 * s' + b + t by omega, c1, c2, c3, ← c5, show 40 * s + a + t = 40 * s + (a + t) by omega]
                    exact h6 (a + t) (by omega)
                  · rw [cpy_no (show ¬ (40 * s' + b ≤ 40 * s' + j ∧ 40 * s' + j < 40 * s' + b + k) by omega), cpy_no z]
                    exact g6 j hj
                · refine SHr_k (hJ.2.2.2 s' hs') (by rw [hc 63 (by omega) (by omega) (by omega)]) (by rw [hc 98 (by omega) (by omega) (by omega)]) (by rw [hc 64 (by omega) (by omega) (by omega)]) (by rw [hc 97 (by omega) (by omega) (by omega)]) (fun j hj => ?_) (hc _ (by omega) (by omega) (by omega))
                  rw [r62, cpy_no (by omega)]
            · simp only [sCopy, sCopyM, eq_true c1, eq_true c2, es, eu, eq_false c3, eq_false c3', eq_false c4, eq_false c4', eq_true c5, eq_true c5', eq_false c6, if_true, if_false]; exact hJ
          · have c5' : ¬ σ 64 s = σ 64 u := fun z => c5 (by rw [← h4, ← g4, z])
            simp only [sCopy, sCopyM, eq_true c1, eq_true c2, es, eu, eq_false c3, eq_false c3', eq_false c4, eq_false c4', eq_false c5, eq_false c5', if_true, if_false]; exact hJ
    · simp only [sCopy, sCopyM, eq_true c1, eq_false c2, if_true, if_false]; exact hJ
  · simp only [sCopy, sCopyM, eq_false c1, if_false]; exact hJ
