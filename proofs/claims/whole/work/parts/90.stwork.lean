/-! calls that change something: feed, work, splice, cut, drop, alter, rule -/
theorem wf_mk {V : Mm} (h1 : ∀ w, w < 5 → ∃ a, a ≤ 50 ∧ V 1 w = nI a) (h2 : ∀ w, w < 5 → ∃ a, a < 6 ∧ V 2 w = nI a) (h3 : ∀ w, w < 5 → ∃ a, a < 100 ∧ V 3 w = nI a) (r0 : ∃ a, 2 ≤ a ∧ a ≤ 6 ∧ V 4 0 = nI a) (r1 : ∃ a, 1 ≤ a ∧ a ≤ 6 ∧ V 4 1 = nI a) (r2 : ∃ a, 2 ≤ a ∧ a ≤ 6 ∧ V 4 2 = nI a) (r3 : V 4 3 = -(nI 1) ∨ ∃ a, a < 5 ∧ V 4 3 = nI a) (r4 : ∃ a, 1 ≤ a ∧ a ≤ 50 ∧ V 4 4 = nI a) (r5 : ∃ a, a ≤ 100 ∧ V 4 5 = nI a) : wf V := by
  have key : ∀ {x : Int32} {a : Nat}, a < 2 ^ 31 → x = nI a → x = nI x.toNatClampNeg ∧ x.toNatClampNeg = a := fun ha e => by rw [e, nI_clamp ha]; exact ⟨rfl, rfl⟩
  refine ⟨fun w hw => ⟨?_, ?_, ?_⟩, ?_, ?_, ?_, ?_, ?_, ?_⟩
  · obtain ⟨a, ha, e⟩ := h1 w hw
    obtain ⟨k1, k2⟩ := key (by omega) e
    exact ⟨k1, by unfold vS; rw [k2]; exact ha⟩
  · obtain ⟨a, ha, e⟩ := h2 w hw
    obtain ⟨k1, k2⟩ := key (by omega) e
    exact ⟨k1, by unfold vK; rw [k2]; exact ha⟩
  · obtain ⟨a, ha, e⟩ := h3 w hw
    obtain ⟨k1, k2⟩ := key (by omega) e
    exact ⟨k1, by unfold vD; rw [k2]; exact ha⟩
  · obtain ⟨a, ha, hb, e⟩ := r0
    obtain ⟨k1, k2⟩ := key (by omega) e
    exact ⟨k1, by unfold vR; rw [k2]; exact ⟨ha, hb⟩⟩
  · obtain ⟨a, ha, hb, e⟩ := r1
    obtain ⟨k1, k2⟩ := key (by omega) e
    exact ⟨k1, by unfold vR; rw [k2]; exact ⟨ha, hb⟩⟩
  · obtain ⟨a, ha, hb, e⟩ := r2
    obtain ⟨k1, k2⟩ := key (by omega) e
    exact ⟨k1, by unfold vR; rw [k2]; exact ⟨ha, hb⟩⟩
  · rcases r3 with e | ⟨a, ha, e⟩
    · exact Or.inl e
    · obtain ⟨k1, k2⟩ := key (by omega) e
      exact Or.inr ⟨k1, by unfold vR; rw [k2]; exact ha⟩
  · obtain ⟨a, ha, hb, e⟩ := r4
    obtain ⟨k1, k2⟩ := key (by omega) e
    exact ⟨k1, by unfold vR; rw [k2]; exact ⟨ha, hb⟩⟩
  · obtain ⟨a, ha, e⟩ := r5
    obtain ⟨k1, k2⟩ := key (by omega) e
    exact ⟨k1, by unfold vR; rw [k2]; exact ha⟩
theorem wf_set {σ τ : Mm} (h : wf (vw σ 2)) (e3 : ∀ v, v < 5 → τ 3 v = σ 3 v ∨ ∃ a, a ≤ 50 ∧ τ 3 v = nI a) (e4 : ∀ v, v < 5 → τ 4 v = σ 4 v ∨ ∃ a, a < 6 ∧ τ 4 v = nI a) (e5 : ∀ v, v < 5 → τ 5 v = σ 5 v ∨ ∃ a, a < 100 ∧ τ 5 v = nI a)
    (e6 : ∀ q, q < 6 → τ 6 q = σ 6 q ∨ (rlo q ≤ τ 6 q ∧ τ 6 q ≤ rhi q)) : wf (vw τ 2) := by
  obtain ⟨a, r0, r1, r2, r3, r4, r5⟩ := h
  have ru : ∀ q (lo hi : Nat), q < 6 → rlo q = nI lo → rhi q = nI hi → hi < 2 ^ 30 → (∃ b, lo ≤ b ∧ b ≤ hi ∧ σ 6 q = nI b) → ∃ b, lo ≤ b ∧ b ≤ hi ∧ τ 6 q = nI b := by
    intro q lo hi hq h1 h2 hhi h3
    rcases e6 q hq with g | ⟨g1, g2⟩
    · rw [g]; exact h3
    · rw [h1] at g1
      rw [h2] at g2
      rcases Nat.lt_or_ge hi lo with z | z
      · exact absurd (Int32.le_trans g1 g2) (Int32.not_le.mpr (nI_lt z (by omega)))
      · obtain ⟨b, hb, e⟩ := rng (m := hi) (by omega) ⟨Int32.le_trans (nI_pos' (by omega)) g1, g2⟩
        rw [e] at g1
        exact ⟨b, (nI_leI (by omega) (by omega)).mp g1, by omega, e⟩
  refine wf_mk (fun w hw => ?_) (fun w hw => ?_) (fun w hw => ?_) (ru 0 2 6 (by omega) (by decide +kernel) (by decide +kernel) (by omega) ⟨_, r0.2.1, r0.2.2, r0.1⟩) (ru 1 1 6 (by omega) (by decide +kernel) (by decide +kernel) (by omega) ⟨_, r1.2.1, r1.2.2, r1.1⟩) (ru 2 2 6 (by omega) (by decide +kernel) (by decide +kernel) (by omega) ⟨_, r2.2.1, r2.2.2, r2.1⟩) ?_ (ru 4 1 50 (by omega) (by decide +kernel) (by decide +kernel) (by omega) ⟨_, r4.2.1, r4.2.2, r4.1⟩) ?_
  · rcases e3 w hw with g | g
    · exact ⟨_, (a w hw).1.2, g.trans (a w hw).1.1⟩
    · exact g
  · rcases e4 w hw with g | g
    · exact ⟨_, (a w hw).2.1.2, g.trans (a w hw).2.1.1⟩
    · exact g
  · rcases e5 w hw with g | g
    · exact ⟨_, (a w hw).2.2.2, g.trans (a w hw).2.2.1⟩
    · exact g
  · rcases e6 3 (by omega) with g | ⟨g1, g2⟩
    · rcases r3 with z | ⟨z1, z2⟩
      · exact Or.inl (g.trans z)
      · exact Or.inr ⟨_, z2, g.trans z1⟩
    · rw [show rlo 3 = -(nI 1) from by decide +kernel] at g1
      rw [show rhi 3 = nI 4 from by decide +kernel] at g2
      by_cases z : τ 6 3 < 0
      · exact Or.inl (neg_m1 g1 z)
      · obtain ⟨b, hb, e⟩ := rng (m := 4) (by omega) ⟨Int32.not_lt.mp z, g2⟩
        exact Or.inr ⟨b, by omega, e⟩
  · obtain ⟨b, -, h2, h3⟩ := ru 5 0 100 (by omega) (by decide +kernel) (by decide +kernel) (by omega) ⟨_, Nat.zero_le _, r5.2, r5.1⟩
    exact ⟨b, h2, h3⟩
theorem J1_of {τ : Mm} (h0 : τ 2 = τ 67) (h1 : τ 3 = τ 68) (h2 : τ 4 = τ 69) (h3 : τ 5 = τ 70) (h4 : τ 6 = τ 71) (hv : wf (vw τ 2)) : J1 τ :=
  ⟨⟨fun j _ => congrFun h0 j, fun j _ => congrFun h1 j, fun j _ => congrFun h2 j, fun j _ => congrFun h3 j, fun j _ => congrFun h4 j⟩, hv⟩
theorem vrow {σ : Mm} (ev : vw σ 67 = vw σ 2) : σ 2 = σ 67 ∧ σ 3 = σ 68 ∧ σ 4 = σ 69 ∧ σ 5 = σ 70 ∧ σ 6 = σ 71 :=
  ⟨(congrFun ev 0).symm, (congrFun ev 1).symm, (congrFun ev 2).symm, (congrFun ev 3).symm, (congrFun ev 4).symm⟩
theorem st_feed {σ : Mm} (hJ : J0 σ) (rt : σ 72 = σ 65) {t : Nat} (ht : σ 0 6 = nI t) (ht5 : t ≤ 50) (n a b c d e : Int32) : J0 (sFeed 72 66 6 (sFeed 65 0 6 σ t n a b c d e) t n a b c d e) := by
  by_cases h1 : pz (fdB n a b c d e) = true
  · by_cases h2 : n ≤ nI (50 - t)
    · have eA : ∀ τ rt rc cc, sFeed rt rc cc τ t n a b c d e = sw (sr τ rt (tpF (τ rt) t n.toNatClampNeg a b c d e)) rc cc (nI (t + n.toNatClampNeg)) := fun τ rt rc cc => by unfold sFeed; rw [if_pos h1, if_pos h2]
      rw [eA, eA]
      have hf : fdB n a b c d e := by
        by_cases z : fdB n a b c d e
        · exact z
        · rw [pz_f z] at h1; cases h1
      obtain ⟨m, hm, rfl⟩ := rng (m := 50 - t) (by omega) ⟨Int32.le_trans (nI_pos' (by omega)) (Int32.not_lt.mp hf.1), h2⟩
      rw [nI_clamp (by omega)]
      generalize hυ : sw (sr (sw (sr σ 65 (tpF (σ 65) t m a b c d e)) 0 6 (nI (t + m))) 72 (tpF ((sw (sr σ 65 (tpF (σ 65) t m a b c d e)) 0 6 (nI (t + m))) 72) t m a b c d e)) 66 6 (nI (t + m)) = υ
      have hk : ∀ k, k ∉ [0, 65, 66, 72] → υ k = σ k := fun k hk => by
        simp only [List.mem_cons, List.not_mem_nil, or_false, not_or] at hk
        rw [← hυ, sw_ne _ _ _ hk.2.2.1, sr_n _ _ hk.2.2.2, sw_ne _ _ _ hk.1, sr_n _ _ hk.2.1]
      refine ⟨J1_k hJ.1 (NI_of hk (by decide)), ⟨t + m, ?_, ?_, by omega, fun j _ => ?_⟩, J3_k hJ.2.2.1 ?_ ?_ (NI_of hk (by decide)), J4_k hJ.2.2.2 (NI_of hk (by decide))⟩
      · rw [← hυ, sw_ne _ _ _ (by decide), sr_n _ _ (by decide), sw_eq]
      · rw [← hυ, sw_eq]
      · rw [← hυ, sw_ne _ _ _ (by decide), sr_n _ _ (by decide), sw_ne _ _ _ (by decide), sr_s, sw_ne _ _ _ (by decide), sr_s, sw_ne _ _ _ (by decide), sr_n _ _ (by decide), rt]
      · rw [← hυ, sw_ne _ _ _ (by decide), sr_n _ _ (by decide), sw_o (by decide), sr_n _ _ (by decide)]
      · rw [← hυ, sw_o (by decide), sr_n _ _ (by decide), sw_ne _ _ _ (by decide), sr_n _ _ (by decide)]
    · have eA : ∀ τ rt rc cc, sFeed rt rc cc τ t n a b c d e = τ := fun τ rt rc cc => by unfold sFeed; rw [if_pos h1, if_neg h2]
      rw [eA, eA]; exact hJ
  · have eA : ∀ τ rt rc cc, sFeed rt rc cc τ t n a b c d e = τ := fun τ rt rc cc => by unfold sFeed; rw [if_neg h1]
    rw [eA, eA]; exact hJ
theorem st_work {σ : Mm} (hJ : J0 σ) (ev : vw σ 67 = vw σ 2) (rt : σ 72 = σ 65) {t : Nat} (ht : σ 0 6 = nI t) (ht5 : t ≤ 50) (x k d : Int32) : J0 (sWorkM (sWork σ t x k d) t x k d) := by
  obtain ⟨v0, v1, v2, v3, v4⟩ := vrow ev
  by_cases h1 : 0 ≤ x ∧ x ≤ 4
  · by_cases h2 : 0 ≤ k ∧ k ≤ 5
    · by_cases h3 : 0 ≤ d ∧ d ≤ 99
      · by_cases h4 : pz (rawA (σ 65) t) = true
        · obtain ⟨w, hw, rfl⟩ := rng (m := 4) (by omega) h1
          obtain ⟨k, hk, rfl⟩ := rng (m := 5) (by omega) h2
          obtain ⟨d, hd, rfl⟩ := rng (m := 99) (by omega) h3
          have eA : sWork σ t (nI w) (nI k) (nI d) = wkS σ w t (nI k) (nI d) := by unfold sWork; rw [if_pos h1, if_pos h2, if_pos h3, if_pos h4, nI_clamp (by omega)]
          have e72 : wkS σ w t (nI k) (nI d) 72 = σ 65 := by
            unfold wkS
            rw [sw_ne _ _ _ (by decide), sw_ne _ _ _ (by decide), sw_ne _ _ _ (by decide), sr_n _ _ (by decide), sw_ne _ _ _ (by decide), rt]
          have eB : sWorkM (wkS σ w t (nI k) (nI d)) t (nI w) (nI k) (nI d) = wkM (wkS σ w t (nI k) (nI d)) w t (nI k) (nI d) := by unfold sWorkM; rw [if_pos h1, if_pos h2, if_pos h3, e72, if_pos h4, nI_clamp (by omega)]
          rw [eA, eB]
          generalize hα : wkS σ w t (nI k) (nI d) = α at e72 ⊢
          have ha : ∀ q, q ∉ [0, 2, 3, 4, 5] → α q = σ q := fun q hq => by
            simp only [List.mem_cons, List.not_mem_nil, or_false, not_or] at hq
            rw [← hα]; unfold wkS
            rw [sw_ne _ _ _ hq.2.2.2.2, sw_ne _ _ _ hq.2.2.2.1, sw_ne _ _ _ hq.2.2.1, sr_n _ _ hq.2.1, sw_ne _ _ _ hq.1]
          have a2 : α 2 = va_cpy (σ 65) (σ 2) 0 (50 * w) t := by
            rw [← hα]; unfold wkS
            rw [sw_ne _ _ _ (by decide), sw_ne _ _ _ (by decide), sw_ne _ _ _ (by decide), sr_s, sw_ne _ _ _ (by decide), sw_ne _ _ _ (by decide)]
          have a3 : α 3 = upd (σ 3) w (nI t) := by
            rw [← hα]; unfold wkS
            rw [sw_ne _ _ _ (by decide), sw_ne _ _ _ (by decide), sw_row, sr_n _ _ (by decide), sw_ne _ _ _ (by decide)]
          have a4 : α 4 = upd (σ 4) w (nI k) := by
            rw [← hα]; unfold wkS
            rw [sw_ne _ _ _ (by decide), sw_row, sw_ne _ _ _ (by decide), sr_n _ _ (by decide), sw_ne _ _ _ (by decide)]
          have a5 : α 5 = upd (σ 5) w (nI d) := by
            rw [← hα]; unfold wkS
            rw [sw_row, sw_ne _ _ _ (by decide), sw_ne _ _ _ (by decide), sr_n _ _ (by decide), sw_ne _ _ _ (by decide)]
          have a06 : α 0 6 = nI 0 := by
            rw [← hα]; unfold wkS
            rw [sw_ne _ _ _ (by decide), sw_ne _ _ _ (by decide), sw_ne _ _ _ (by decide), sr_n _ _ (by decide), sw_eq]
          have a07 : α 0 7 = σ 0 7 := by
            rw [← hα]; unfold wkS
            rw [sw_ne _ _ _ (by decide), sw_ne _ _ _ (by decide), sw_ne _ _ _ (by decide), sr_n _ _ (by decide), sw_o (by decide)]
          clear hα
          generalize hυ : wkM α w t (nI k) (nI d) = υ
          have hb : ∀ q, q ∉ [66, 67, 68, 69, 70] → υ q = α q := fun q hq => by
            simp only [List.mem_cons, List.not_mem_nil, or_false, not_or] at hq
            rw [← hυ]; unfold wkM
            rw [sw_ne _ _ _ hq.2.2.2.2, sw_ne _ _ _ hq.2.2.2.1, sw_ne _ _ _ hq.2.2.1, sr_n _ _ hq.2.1, sw_ne _ _ _ hq.1]
          have b67 : υ 67 = va_cpy (σ 65) (σ 2) 0 (50 * w) t := by
            rw [← hυ]; unfold wkM
            rw [sw_ne _ _ _ (by decide), sw_ne _ _ _ (by decide), sw_ne _ _ _ (by decide), sr_s, e72, ha 67 (by decide), ← v0]
          have b68 : υ 68 = upd (σ 3) w (nI t) := by
            rw [← hυ]; unfold wkM
            rw [sw_ne _ _ _ (by decide), sw_ne _ _ _ (by decide), sw_row, sr_n _ _ (by decide), sw_ne _ _ _ (by decide), ha 68 (by decide), ← v1]
          have b69 : υ 69 = upd (σ 4) w (nI k) := by
            rw [← hυ]; unfold wkM
            rw [sw_ne _ _ _ (by decide), sw_row, sw_ne _ _ _ (by decide), sr_n _ _ (by decide), sw_ne _ _ _ (by decide), ha 69 (by decide), ← v2]
          have b70 : υ 70 = upd (σ 5) w (nI d) := by
            rw [← hυ]; unfold wkM
            rw [sw_row, sw_ne _ _ _ (by decide), sw_ne _ _ _ (by decide), sr_n _ _ (by decide), sw_ne _ _ _ (by decide), ha 70 (by decide), ← v3]
          have b666 : υ 66 6 = nI 0 := by
            rw [← hυ]; unfold wkM
            rw [sw_ne _ _ _ (by decide), sw_ne _ _ _ (by decide), sw_ne _ _ _ (by decide), sr_n _ _ (by decide), sw_eq]
          have b668 : υ 66 8 = σ 66 8 := by
            rw [← hυ]; unfold wkM
            rw [sw_ne _ _ _ (by decide), sw_ne _ _ _ (by decide), sw_ne _ _ _ (by decide), sr_n _ _ (by decide), sw_o (by decide), ha 66 (by decide)]
          clear hυ
          have hc : ∀ q, q ∉ [0, 2, 3, 4, 5, 66, 67, 68, 69, 70] → υ q = σ q := fun q hq => by
            simp only [List.mem_cons, List.not_mem_nil, or_false, not_or] at hq
            rw [hb q (by simp only [List.mem_cons, List.not_mem_nil, or_false, not_or]; omega), ha q (by simp only [List.mem_cons, List.not_mem_nil, or_false, not_or]; omega)]
          have u : ∀ (f : Nat → Int32) (y : Int32) (v : Nat), upd f w y v = f v ∨ upd f w y v = y := fun f y v => by
            by_cases z : v = w
            · rw [z, upd_s]; exact Or.inr rfl
            · rw [upd_n _ _ z]; exact Or.inl rfl
          refine ⟨J1_of (by rw [hb 2 (by decide), a2, b67]) (by rw [hb 3 (by decide), a3, b68]) (by rw [hb 4 (by decide), a4, b69]) (by rw [hb 5 (by decide), a5, b70]) (by rw [hb 6 (by decide), ha 6 (by decide), hb 71 (by decide), ha 71 (by decide), v4]) (wf_set hJ.1.2 (fun v _ => ?_) (fun v _ => ?_) (fun v _ => ?_) (fun q _ => Or.inl (by rw [hc 6 (by decide)]))), ⟨0, ?_, b666, by omega, fun j _ => by rw [hc 65 (by decide), hc 72 (by decide), rt]⟩, J3_k hJ.2.2.1 ?_ b668 (NI_of hc (by decide)), J4_k hJ.2.2.2 (NI_of hc (by decide))⟩
          · rw [hb 3 (by decide), a3]
            exact (u (σ 3) (nI t) v).imp id fun z => ⟨t, ht5, z⟩
          · rw [hb 4 (by decide), a4]
            exact (u (σ 4) (nI k) v).imp id fun z => ⟨k, hk, z⟩
          · rw [hb 5 (by decide), a5]
            exact (u (σ 5) (nI d) v).imp id fun z => ⟨d, hd, z⟩
          · rw [hb 0 (by decide)]; exact a06
          · rw [hb 0 (by decide)]; exact a07
        · have eA : sWork σ t x k d = sw σ 0 6 (nI 0) := by unfold sWork; rw [if_pos h1, if_pos h2, if_pos h3, if_neg h4]
          have eB : sWorkM (sw σ 0 6 (nI 0)) t x k d = sw (sw σ 0 6 (nI 0)) 66 6 (nI 0) := by unfold sWorkM; rw [if_pos h1, if_pos h2, if_pos h3, sw_ne _ _ _ (by decide), rt, if_neg h4]
          rw [eA, eB]
          have hc : ∀ q, q ∉ [0, 66] → (sw (sw σ 0 6 (nI 0)) 66 6 (nI 0)) q = σ q := fun q hq => by
            simp only [List.mem_cons, List.not_mem_nil, or_false, not_or] at hq
            rw [sw_ne _ _ _ hq.2, sw_ne _ _ _ hq.1]
          refine ⟨J1_k hJ.1 (NI_of hc (by decide)), ⟨0, by rw [sw_ne _ _ _ (by decide), sw_eq], sw_eq, by omega, fun j _ => by rw [hc 65 (by decide), hc 72 (by decide), rt]⟩, J3_k hJ.2.2.1 (by rw [sw_ne _ _ _ (by decide), sw_o (by decide)]) (by rw [sw_o (by decide), sw_ne _ _ _ (by decide)]) (NI_of hc (by decide)), J4_k hJ.2.2.2 (NI_of hc (by decide))⟩
      · have eA : sWork σ t x k d = σ := by unfold sWork; rw [if_pos h1, if_pos h2, if_neg h3]
        have eB : sWorkM σ t x k d = σ := by unfold sWorkM; rw [if_pos h1, if_pos h2, if_neg h3]
        rw [eA, eB]; exact hJ
    · have eA : sWork σ t x k d = σ := by unfold sWork; rw [if_pos h1, if_neg h2]
      have eB : sWorkM σ t x k d = σ := by unfold sWorkM; rw [if_pos h1, if_neg h2]
      rw [eA, eB]; exact hJ
  · have eA : sWork σ t x k d = σ := by unfold sWork; rw [if_neg h1]
    have eB : sWorkM σ t x k d = σ := by unfold sWorkM; rw [if_neg h1]
    rw [eA, eB]; exact hJ
