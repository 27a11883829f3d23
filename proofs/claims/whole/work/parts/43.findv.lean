/-! the matches that the class finds are those that the view tells -/
def SN (V σ : Mm) (F : Nat) : Prop := (∀ w, w < 5 → RD V w σ) ∧ FX V σ F
theorem SN_k {V σ τ : Mm} {F : Nat} (h : SN V σ F) (e : ∀ k, k ∈ [24, 25, 26, 27, 28, 29, 30, 31, 35, 38] → τ k = σ k) : SN V τ F := by
  refine ⟨fun w hw => RD_k (h.1 w hw) fun k hk => e k ?_, ?_⟩
  · simp only [List.mem_cons, List.not_mem_nil, or_false] at hk ⊢
    omega
  · unfold FX
    rw [e 31 (by decide), e 29 (by decide), e 35 (by decide), e 38 (by decide)]
    exact h.2
theorem okc_i {V : Mm} (hv : wf V) {w i : Nat} (hw : w < 5) (hi : i < gC V w) : okc (gC V) (50 * w + i) := by
  have := gC_50 hv hw
  exact ⟨by omega, by rw [d50 (show i < 50 by omega), show (50 * w + i) % 50 = i by omega]; exact hi⟩
theorem FX_fC {V σ : Mm} {F p : Nat} (h : FX V σ F) (hp : okc (gC V) p) : fC σ p = CM V p := by
  obtain ⟨f, h1, h2, h3, h4⟩ := h.2.2.2.1 p hp
  have hF := h.1
  unfold fC
  rw [h2, nI_clamp (by omega)]
  exact h4
theorem FX_CM {V σ : Mm} {F p q : Nat} (h : FX V σ F) (hp : okc (gC V) p) (hq : okc (gC V) q) (hl : lkP (LT V) (vR V 0) p q) : CM V p = CM V q := by
  rw [← FX_fC h hp, ← FX_fC h hq]
  unfold fC
  rw [(h.2.2.2.2.1 p q hp hq).mpr hl]
theorem anV_y {V σ : Mm} {F w i : Nat} (h : SN V σ F) (hv : wf V) (hw : w < 5) (hi : i < gC V w) (hp : PR V (50 * w + i) = true) (hc : CM V (50 * w + i) = false) : anV σ w (gC V w) i = σ 29 (50 * w + i) := by
  unfold anV
  rw [if_pos ⟨hi, (((h.1 w hw).2.2 i hi).2).mpr hp, by rw [FX_fC h.2 (okc_i hv hw hi)]; exact hc⟩]
theorem anV_n {V σ : Mm} {F w i : Nat} (h : SN V σ F) (hv : wf V) (hw : w < 5) (hn : ¬ (i < gC V w ∧ PR V (50 * w + i) = true ∧ CM V (50 * w + i) = false)) : anV σ w (gC V w) i = -(nI 1) := by
  unfold anV
  rw [if_neg]
  rintro ⟨a, b, c⟩
  exact hn ⟨a, (((h.1 w hw).2.2 i a).2).mp b, by rw [← FX_fC h.2 (okc_i hv hw a)]; exact c⟩
theorem anV_ac {V σ : Mm} {F w v g h : Nat} (hS : SN V σ F) (hv : wf V) (hw : w < 5) (hv5 : v < 5) : (decide (anV σ w (gC V w) g ≠ -(nI 1)) && decide (anV σ w (gC V w) g = anV σ v (gC V v) h)) = ac V w v g h := by
  have hne : ∀ f, f < 250 → (nI f : Int32) ≠ -(nI 1) := fun f hf => by
    intro z
    have := nI_pos' (n := f) (by omega)
    rw [z] at this
    exact absurd this (by decide +kernel)
  unfold ac
  by_cases q : g < gC V w ∧ PR V (50 * w + g) = true ∧ CM V (50 * w + g) = false
  · have e1 := anV_y hS hv hw q.1 q.2.1 q.2.2
    have hF := hS.2.1
    obtain ⟨f, h1, h2, -⟩ := hS.2.2.2.2.1 _ (okc_i hv hw q.1)
    rw [e1, decide_eq_true (show σ 29 (50 * w + g) ≠ -(nI 1) by rw [h2]; exact hne f (by omega)), decide_eq_true q.1, q.2.1, q.2.2, Bool.true_and, Bool.not_false, Bool.true_and, Bool.true_and, Bool.true_and]
    by_cases r : h < gC V v ∧ PR V (50 * v + h) = true ∧ CM V (50 * v + h) = false
    · rw [anV_y hS hv hv5 r.1 r.2.1 r.2.2, decide_eq_true r.1, r.2.1, Bool.true_and, Bool.true_and]
      have := hS.2.2.2.2.2.1 _ _ (okc_i hv hw q.1) (okc_i hv hv5 r.1)
      unfold lkP at this
      cases z : lkC (LT V) (50 * w + g) (50 * v + h) (vR V 0) with
      | true => exact decide_eq_true (this.mpr z)
      | false => exact decide_eq_false (fun y => by rw [this.mp y] at z; cases z)
    · rw [anV_n hS hv hv5 r, decide_eq_false (by rw [h2]; exact hne f (by omega))]
      by_cases s : h < gC V v ∧ PR V (50 * v + h) = true
      · rw [decide_eq_true s.1, s.2, Bool.true_and, Bool.true_and]
        have hc : CM V (50 * v + h) = true := by
          cases z : CM V (50 * v + h) with
          | true => rfl
          | false => exact absurd ⟨s.1, s.2, z⟩ r
        cases z : lkC (LT V) (50 * w + g) (50 * v + h) (vR V 0) with
        | false => rfl
        | true => have := FX_CM hS.2 (okc_i hv hw q.1) (okc_i hv hv5 s.1) z; rw [q.2.2, hc] at this; cases this
      · have : (decide (h < gC V v) && PR V (50 * v + h)) = false := by
          cases z : PR V (50 * v + h) with
          | false => exact Bool.and_false _
          | true => rw [decide_eq_false (fun y => s ⟨y, z⟩)]; rfl
        rw [this]
        rfl
  · rw [anV_n hS hv hw q, decide_eq_false (fun z => z rfl), Bool.false_and]
    symm
    have : (decide (g < gC V w) && (PR V (50 * w + g) && !CM V (50 * w + g))) = false := by
      cases z : PR V (50 * w + g) with
      | false => rw [Bool.false_and, Bool.and_false]
      | true =>
        cases y : CM V (50 * w + g) with
        | true => rw [Bool.true_and, Bool.not_true, Bool.and_false]
        | false => rw [decide_eq_false (fun x => q ⟨x, z, y⟩), Bool.false_and]
    rw [this, Bool.false_and]
theorem anB_e {a b : Nat → Int32} {V : Mm} {w v i j : Nat} : ∀ {t : Nat}, (∀ s, s < t → (decide (a (i + s) ≠ -(nI 1)) && decide (a (i + s) = b (j + s))) = ac V w v (i + s) (j + s)) → anB a b i j t = anP V w v i j t
  | 0, _ => rfl
  | t + 1, h => by rw [anB_1, anP_1, anB_e (fun s hs => h s (by omega)), h t (by omega)]
/-- the two sides as they are loaded -/
def SD (V : Mm) (w v : Nat) (τ : Mm) : Prop := (∀ i, i < lC V w → τ 41 i = LTr V w i) ∧ (∀ j, j < lC V v → τ 44 j = LTr V v j) ∧ ∀ i j, i < lC V w → j < lC V v → (decide (τ 42 i ≠ -(nI 1)) && decide (τ 42 i = τ 45 j)) = ac V w v i j
theorem mC_e {V τ : Mm} {w v ls i j : Nat} (h : SD V w v τ) (hi : i < lC V w) (hj : j < lC V v) : rl (τ 41) (τ 44) (min (lC V w - i) (lC V v - j)) i j = rn V w v i j ∧ mC (τ 41) (τ 44) (τ 42) (τ 45) (lC V w) (lC V v) ls i j = mc V w v ls i j := by
  have e : rl (τ 41) (τ 44) (min (lC V w - i) (lC V v - j)) i j = rn V w v i j := rl_e fun s hs => ⟨h.1 _ (by omega), h.2.1 _ (by omega)⟩
  refine ⟨e, ?_⟩
  unfold mC mc
  have hr : rn V w v i j ≤ min (lC V w - i) (lC V v - j) := rl_le _ _ _ _ _
  rw [e, h.1 i hi, h.2.1 j hj, anB_e (V := V) (w := w) (v := v) (fun s hs => h.2.2 (i + s) (j + s) (by omega) (by omega))]
  congr 2
  unfold bgn
  rw [h.1 (i - 1) (by omega), h.2.1 (j - 1) (by omega)]
theorem mRow_e {V τ : Mm} {w v ls i : Nat} {acc : Ml} (h : SD V w v τ) (hi : i < lC V w) (hl : (mLr V w v ls acc i (lC V v)).length ≤ 833) : ∀ j, j ≤ lC V v → mRow (τ 41) (τ 44) (τ 42) (τ 45) (lC V w) (lC V v) ls acc i j = mLr V w v ls acc i j
  | 0, _ => rfl
  | j + 1, hj => by
    obtain ⟨e1, e2⟩ := mC_e (ls := ls) h hi (show j < lC V v by omega)
    have hl2 := hl
    rw [mLr_len] at hl2
    have hl3 := mLr_len V w v ls acc i j
    have hu := sN_up (fun j => b1N (mc V w v ls i j)) (show j ≤ lC V v by omega)
    rw [mRow_1, mLr_1, mRow_e h hi hl j (by omega)]
    unfold mst
    rw [e1, e2]
    by_cases g : mc V w v ls i j = true
    · rw [if_pos ⟨g, by omega⟩, if_pos g]
    · rw [if_neg (fun z => g z.1), if_neg g]
theorem mAll_e {V τ : Mm} (hv : wf V) {w v ls : Nat} (hw : w < 5) (hv5 : v < 5) (h : SD V w v τ) : ∀ i, i ≤ lC V w → mAll (τ 41) (τ 44) (τ 42) (τ 45) (lC V w) (lC V v) ls i = mLa V w v ls i
  | 0, _ => rfl
  | i + 1, hi => by
    rw [mAll_1, mLa_1, mAll_e hv hw hv5 h i (by omega)]
    exact mRow_e h hi (by rw [← mLa_1]; exact mLa_833 hv ls hw hv5 (i + 1) hi) _ (Nat.le_refl _)
/-- the matches stand in the rows -/
def MT (L : Ml) (σ : Mm) : Prop := σ 39 0 = nI L.length ∧ ∀ x, x < L.length → σ 46 x = nI (mB L x) ∧ σ 47 x = nI (mO L x) ∧ σ 48 x = nI (mG L x) ∧ σ 51 x = nI 0
theorem wl_at {f : Nat → Int32} {L : Ml} {g : Nat × (Nat × Nat) → Nat} {x : Nat} (h : x < L.length) : wl f (L.map g) x = nI (g (L.getD x (0, 0, 0))) := by
  unfold wl
  rw [if_pos (by rw [List.length_map]; exact h), List.getD_eq_getElem?_getD, List.getElem?_map, List.getD_eq_getElem?_getD, List.getElem?_eq_getElem h]
  rfl
theorem MS_MT (τ : Mm) (L : Ml) : MT L (MS τ L) := by
  refine ⟨MS_l τ L, fun x hx => ⟨?_, ?_, ?_, ?_⟩⟩
  · unfold MS
    rw [sr_n _ _ (by decide), sr_n _ _ (by decide), sr_n _ _ (by decide), sr_s]
    exact wl_at hx
  · unfold MS
    rw [sr_n _ _ (by decide), sr_n _ _ (by decide), sr_s]
    exact wl_at hx
  · unfold MS
    rw [sr_n _ _ (by decide), sr_s]
    exact wl_at hx
  · unfold MS
    rw [sr_s]
    exact wl_at hx
theorem ldS_n (sd w L gn : Nat) (σ : Mm) {k : Nat} (h1 : k ≠ sd) (h2 : k ≠ sd + 1) (h3 : k ≠ sd + 2) : ldS sd w L gn σ k = σ k := by
  unfold ldS
  rw [sr_n _ _ h3, sr_n _ _ h2, sw_ne _ _ _ h1]
theorem ldS_2 (sd w L gn : Nat) (σ : Mm) : ldS sd w L gn σ (sd + 2) = fw (σ (sd + 2)) (anV σ w gn) L := by
  unfold ldS
  rw [sr_s]
theorem ldS_1 (sd w L gn : Nat) (σ : Mm) : ldS sd w L gn σ (sd + 1) = fw (σ (sd + 1)) (fun j => σ 26 (50 * w + j)) L := by
  unfold ldS
  rw [sr_n _ _ (by omega), sr_s]
theorem anV_e {σ τ : Mm} {w gn : Nat} (h : ∀ k, k ∈ [29, 30, 31, 35, 38] → τ k = σ k) : anV τ w gn = anV σ w gn := by
  funext i
  unfold anV fC
  rw [h 29 (by decide), h 30 (by decide), h 31 (by decide), h 35 (by decide), h 38 (by decide)]
theorem find_SD {V σ τ : Mm} {F w v : Nat} (hS : SN V σ F) (hv : wf V) (hw : w < 5) (hv5 : v < 5) (hτ : τ = ldS 43 v (lC V v) (gC V v) (ldS 40 w (lC V w) (gC V w) (sw σ 39 0 (nI 0)))) : SD V w v τ := by
  have e0 : ∀ k, k < 39 → sw σ 39 0 (nI 0) k = σ k := fun k hk => sw_ne _ _ _ (by omega)
  have e1 : ∀ k, k < 39 → ldS 40 w (lC V w) (gC V w) (sw σ 39 0 (nI 0)) k = σ k := fun k hk => by rw [ldS_n _ _ _ _ _ (by omega) (by omega) (by omega), e0 k hk]
  have a42 : τ 42 = fw (σ 42) (anV σ w (gC V w)) (lC V w) := by
    rw [hτ, ldS_n _ _ _ _ _ (by decide) (by decide) (by decide), ldS_2 40, anV_e (σ := σ) (fun k hk => e0 k (by simp only [List.mem_cons, List.not_mem_nil, or_false] at hk; omega)), sw_ne _ _ _ (by decide)]
  have a41 : τ 41 = fw (σ 41) (fun j => σ 26 (50 * w + j)) (lC V w) := by
    rw [hτ, ldS_n _ _ _ _ _ (by decide) (by decide) (by decide), ldS_1 40, e0 26 (by decide), sw_ne _ _ _ (by decide)]
  have a45 : τ 45 = fw (σ 45) (anV σ v (gC V v)) (lC V v) := by
    rw [hτ, ldS_2 43, anV_e (σ := σ) (fun k hk => e1 k (by simp only [List.mem_cons, List.not_mem_nil, or_false] at hk; omega)), ldS_n _ _ _ _ _ (by decide) (by decide) (by decide), sw_ne _ _ _ (by decide)]
  have a44 : τ 44 = fw (σ 44) (fun j => σ 26 (50 * v + j)) (lC V v) := by
    rw [hτ, ldS_1 43, e1 26 (by decide), ldS_n _ _ _ _ _ (by decide) (by decide) (by decide), sw_ne _ _ _ (by decide)]
  refine ⟨fun i hi => ?_, fun j hj => ?_, fun i j hi hj => ?_⟩
  · rw [a41]
    unfold fw
    rw [if_pos hi]
    exact ((hS.1 w hw).1.2 i hi).1
  · rw [a44]
    unfold fw
    rw [if_pos hj]
    exact ((hS.1 v hv5).1.2 j hj).1
  · rw [a42, a45]
    unfold fw
    rw [if_pos hi, if_pos hj]
    exact anV_ac hS hv hw hv5
theorem c_findV (l : Launch) (G : Gl) (σ V : Mm) (F w v ls : Nat) (hS : SN V σ F) (hv : wf V) (hw : w < 5) (hv5 : v < 5) (hls : ls ≤ 50) : AMv l G 4 mX2_find [.ref 39, .ref 23, .ref 31, .int (nI w), .int (nI v), .int (nI ls)] σ (fun σ' => MT (ML V w v ls) σ' ∧ ∀ k, k ∉ [39, 40, 41, 42, 43, 44, 45, 46, 47, 48, 51] → σ' k = σ k) := by
  have hfo : ∀ x, x < 5 → ∀ i, i < gC V x → ∃ f, f < F ∧ σ 29 (50 * x + i) = nI f := fun x hx i hi => by
    obtain ⟨f, a, b, -⟩ := hS.2.2.2.2.1 _ (okc_i hv hx hi)
    exact ⟨f, a, b⟩
  refine (c_find l G σ w v (lC V w) (lC V v) (gC V w) (gC V v) F ls _ hw hv5 (hS.1 w hw).1.1 (hS.1 v hv5).1.1 (lC_50 hv hw) (lC_50 hv hv5) (hS.1 w hw).2.1 (hS.1 v hv5).2.1 (by have := gC_50 hv hw; omega) (by have := gC_50 hv hv5; omega) hS.2.2.1 hS.2.1 (hfo w hw) (hfo v hv5) hls rfl).mono fun σ' h => ?_
  rw [mAll_e hv hw hv5 (find_SD hS hv hw hv5 rfl) _ (Nat.le_refl _)] at h
  rw [h]
  refine ⟨MS_MT _ _, fun k hk => ?_⟩
  have hk2 := hk
  simp only [List.mem_cons, List.not_mem_nil, or_false, not_or] at hk2
  rw [MS_n _ _ (by simp only [List.mem_cons, List.not_mem_nil, or_false, not_or]; omega), ldS_n _ _ _ _ _ (by omega) (by omega) (by omega), ldS_n _ _ _ _ _ (by omega) (by omega) (by omega), sw_ne _ _ _ (by omega)]
