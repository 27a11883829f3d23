/-! the model: all works told anew -/
def RDm (V : Mm) (w : Nat) (σ : Mm) : Prop := RLe 75 76 77 V w σ ∧ RGr 78 79 V w σ
theorem RDm_k {V : Mm} {w : Nat} {σ τ : Mm} (h : RDm V w σ) (e : ∀ k, k ∈ [75, 76, 77, 78, 79] → τ k = σ k) : RDm V w τ :=
  ⟨RLe_k h.1 (e 77 (by decide)) (e 75 (by decide)) (e 76 (by decide)), RGr_k h.2 (e 78 (by decide)) (e 79 (by decide))⟩
def rd2a (V : Mm) (w : Nat) (σ : Mm) : Mm := sr (rdL 75 76 77 V w σ) 78 (mR (rdL 75 76 77 V w σ 78) (rdL 75 76 77 V w σ 75) w (vR V 0) (gC V w))
def rd2 (V : Mm) (w : Nat) (σ : Mm) : Mm := rdP 78 79 w (vR V 1) (gC V w) (rd2a V w σ)
theorem rd2_n (V : Mm) (w : Nat) (σ : Mm) {k : Nat} (h : k ∉ [75, 76, 77, 78, 79]) : rd2 V w σ k = σ k := by
  simp only [List.mem_cons, List.not_mem_nil, or_false, not_or] at h
  unfold rd2 rd2a
  rw [rdP_n _ h.2.2.2.2, sr_n _ _ h.2.2.2.1, rdL_n _ h.1 h.2.1 h.2.2.1]
theorem rd2_l (V : Mm) (w : Nat) (σ : Mm) {k : Nat} (h1 : k ≠ 78) (h2 : k ≠ 79) : rd2 V w σ k = rdL 75 76 77 V w σ k := by
  unfold rd2 rd2a
  rw [rdP_n _ h2, sr_n _ _ h1]
theorem rd2_mk {V : Mm} (hv : wf V) {w : Nat} (hw : w < 5) (σ : Mm) : RDm V w (rd2 V w σ) := by
  have h := RLe_mk (rt := 75) (rp := 76) (rn := 77) (V := V) (w := w) σ (by decide) (by decide) (by decide) hv hw
  refine ⟨RLe_k h (rd2_l V w σ (by decide) (by decide)) (rd2_l V w σ (by decide) (by decide)) (rd2_l V w σ (by decide) (by decide)), ?_⟩
  refine RGr_mk hv hw (by decide) fun g hg => ?_
  have hn := gC_50 hv hw
  unfold rd2a
  rw [sr_s, mR_at, if_pos ⟨by omega, by omega⟩]
  exact mk_at hg fun i hi => (h.2 i hi).1
theorem rd2_no {V : Mm} (hv : wf V) {v w : Nat} (hv5 : v < 5) (hw : w < 5) (hvw : v ≠ w) {σ : Mm} (h : RDm V v σ) : RDm V v (rd2 V w σ) := by
  have hn := gC_50 hv hw
  have hn2 := gC_50 hv hv5
  have hN := wf_N hv
  refine ⟨RLe_k (RLe_no h.1 hvw (by decide) (by decide) (by decide) hv hv5 hw) (rd2_l V w σ (by decide) (by decide)) (rd2_l V w σ (by decide) (by decide)) (rd2_l V w σ (by decide) (by decide)), RGr_of h.2 (fun i hi => ⟨?_, ?_⟩) (by omega)⟩
  · unfold rd2
    rw [rdP_n _ (by decide)]
    unfold rd2a
    rw [sr_s, mR_at, if_neg (by omega), rdL_n _ (by decide) (by decide) (by decide)]
  · unfold rd2
    rw [rdP_out _ (by omega) (by omega)]
    unfold rd2a
    rw [sr_n _ _ (by decide), rdL_n _ (by decide) (by decide) (by decide)]
theorem RDm_T {V σ : Mm} {w g t : Nat} (h : RDm V w σ) (hg : g < gC V w) (ht : t < vR V 0) : σ 75 (50 * w + g + t) = LT V (50 * w + g + t) := by
  have a := (h.1.2 (g + t) (by unfold gC at hg; omega)).1
  rw [← Nat.add_assoc] at a
  exact a
theorem m_isLike (l : Launch) (G : Gl) (σ V : Mm) (w g v h : Nat) (hv : wf V) (hw : w < 5) (hv5 : v < 5) (h71 : σ 71 = V 4) (hA : RDm V w σ) (hB : RDm V v σ) (hg : g < gC V w) (hh : h < gC V v) : AMi l G 0 mX10_isLike [.ref 66, .int (nI w), .int (nI g), .int (nI v), .int (nI h)] σ (fun r σ' => σ' = σ ∧ r = bz (lkC (LT V) (50 * w + g) (50 * v + h) (vR V 0))) := by
  have hK := wf_K hv
  have k1 := gC_50 hv hw
  have k2 := gC_50 hv hv5
  refine (m_isLike0 l G σ w g v h (vR V 0) (by omega) (by omega) (by rw [h71]; exact hK.1) (by omega)).mono fun r σ' q => ⟨q.1, q.2.trans ?_⟩
  rw [lkC_e (fun t ht => ⟨RDm_T hA hg ht, RDm_T hB hh ht⟩), (hA.2 g hg).1, (hB.2 h hh).1]
  cases z : lkC (LT V) (50 * w + g) (50 * v + h) (vR V 0) with
  | false => rw [Bool.and_false]
  | true =>
    rw [decide_eq_true (show MK V (50 * w + g) = MK V (50 * v + h) from mkF_c z)]
    rfl
theorem m_gramsV (l : Launch) (G : Gl) (σ V : Mm) (w : Nat) (hv : wf V) (hw : w < 5) (h71 : σ 71 = V 4) (hA : RDm V w σ) : AMi l G 0 mX10_grams [.ref 66, .int (nI w)] σ (fun r σ' => σ' = σ ∧ r = nI (gC V w)) := m_grams l G σ V w hv hw h71 hA.1.1
noncomputable def hsv (V : Mm) (v p : Nat) : Bool := pz (hsW (gC V) (LT V) (vR V 0) 250 v p)
theorem hsv_y {V : Mm} (hv : wf V) {v h p : Nat} (hv5 : v < 5) (hh : h < gC V v) (e : lkC (LT V) p (50 * v + h) (vR V 0) = true) : hsv V v p = true := by
  have o1 := okc_i hv hv5 hh
  have := gC_50 hv hv5
  exact pz_t ⟨50 * v + h, o1.1, o1, by omega, lkP_s e⟩
theorem hsv_n {V : Mm} {v p : Nat} (h : ∀ i, i < gC V v → lkC (LT V) p (50 * v + i) (vR V 0) = false) : hsv V v p = false := by
  refine pz_f ?_
  rintro ⟨q, h1, h2, h3, h4⟩
  obtain ⟨a, b, c⟩ := okc_w h2
  rw [h3] at b c
  have := h _ b
  rw [c] at this
  rw [show lkC (LT V) p q (vR V 0) = true from lkP_s h4] at this
  cases this
set_option maxRecDepth 20000 in
set_option maxHeartbeats 4000000 in
theorem m_has (l : Launch) (G : Gl) (σ : Mm) (V : Mm) (v w g : Nat) (hv : wf V) (hv5 : v < 5) (hw : w < 5) (h71 : σ 71 = V 4) (hA : RDm V w σ) (hB : RDm V v σ) (hg : g < gC V w) : AMi l G 1 mX10_has [.ref 66, .int (nI v), .int (nI w), .int (nI g)] σ (fun r σ' => σ' = σ ∧ r = bz (hsv V v (50 * w + g))) := by
  refine rw_inI 10 (by decide +kernel) rfl rfl ?_
  intro E hE hX
  subst hE
  have hg5 := gC_50 hv hv5
  refine rw_go hX [(0, .iconst 0), (1, .istore 4)] (by decide +kernel) (Ps := []) (pc' := 3) (lv' := [(0, .ref 66), (1, .int (nI v)), (2, .int (nI w)), (3, .int (nI g)), (4, .int (nI 0))]) (st' := []) (σ' := σ) rfl True.intro ?_
  have L3 : ∀ (μ3 : Nat) (h : Nat), μ3 = gC V v - h → (h ≤ gC V v) → (∀ i, i < h → lkC (LT V) (50 * w + g) (50 * v + i) (vR V 0) = false) → RW E G 1 5 (QI E G (fun r σ' => σ' = σ ∧ r = bz (hsv V v (50 * w + g)))) 3 [(0, .ref 66), (1, .int (nI v)), (2, .int (nI w)), (3, .int (nI g)), (4, .int (nI h))] [] σ := by
    intro μ3
    induction μ3 using Nat.strongRecOn with
    | ind μ3 ih3 =>
      intro h hμ3 hh hno
      refine rw_go hX [(3, .iload 4), (5, .aload_n 0), (6, .iload_n 1)] (by decide +kernel) (Ps := []) (pc' := 7) (lv' := [(0, .ref 66), (1, .int (nI v)), (2, .int (nI w)), (3, .int (nI g)), (4, .int (nI h))]) (st' := [.int (nI v), .ref 66, .int (nI h)]) (σ' := σ) rfl True.intro ?_
      refine rw_callVi hX (as := [.int (nI v)]) (rest := [.int (nI h)]) (m_gramsV _ _ _ V v hv hv5 h71 hB) (by decide +kernel) mvX10_grams lk10_187 (ci := 9) rfl rfl rfl (by decide) (Nat.le_of_ble_eq_true rfl) rfl ?_
      intro r1 σ1 hr
      rw [hr.1, show r1 = nI (gC V v) from hr.2]
      clear hr σ1 r1
      refine rw_icmp hX (tgt := 33) (cnd := .ge) (off := 23) (by decide +kernel) (by decide) (fun h10 => ?_) (fun h10 => ?_)
      · replace h10 := c2_geT h10
        have e : hsv V v (50 * w + g) = false := hsv_n fun i hi => hno i (by omega)
        refine rw_go hX [(33, .iconst 0)] (by decide +kernel) (Ps := []) (pc' := 34) (lv' := [(0, .ref 66), (1, .int (nI v)), (2, .int (nI w)), (3, .int (nI g)), (4, .int (nI h))]) (st' := [.int (nI 0)]) (σ' := σ) rfl True.intro ?_
        exact rw_zret hX (by decide +kernel) (Or.inl rfl) (⟨rfl, by rw [e]; rfl⟩)
      · replace h10 := c2_geF h10
        refine rw_go hX [(13, .aload_n 0), (14, .iload_n 2), (15, .iload_n 3), (16, .iload_n 1), (17, .iload 4)] (by decide +kernel) (Ps := []) (pc' := 19) (lv' := [(0, .ref 66), (1, .int (nI v)), (2, .int (nI w)), (3, .int (nI g)), (4, .int (nI h))]) (st' := [.int (nI h), .int (nI v), .int (nI g), .int (nI w), .ref 66]) (σ' := σ) rfl True.intro ?_
        refine rw_callVi hX (as := [.int (nI w), .int (nI g), .int (nI v), .int (nI h)]) (rest := []) (m_isLike _ _ _ V w g v h hv hw hv5 h71 hA hB hg h10) (by decide +kernel) mvX10_isLike lk10_191 (ci := 9) rfl rfl rfl (by decide) (Nat.le_of_ble_eq_true rfl) rfl ?_
        intro r1 σ1 hr
        rw [hr.1, show r1 = bz (lkC (LT V) (50 * w + g) (50 * v + h) (vR V 0)) from hr.2]
        clear hr σ1 r1
        refine rw_if hX (tgt := 27) (cnd := .eq) (off := 5) (by decide +kernel) (by decide) (fun h22 => ?_) (fun h22 => ?_)
        · replace h22 := zb_eqT h22
          refine rw_go hX [(27, .iinc 4 1)] (by decide +kernel) (Ps := []) (pc' := 30) (lv' := [(0, .ref 66), (1, .int (nI v)), (2, .int (nI w)), (3, .int (nI g)), (4, .int (nI h + nI 1))]) (st' := []) (σ' := σ) rfl True.intro ?_
          rw [show (nI h + nI 1) = nI (h + 1) from nI_add _ _]
          refine rw_go hX [(30, .goto (-27))] (by decide +kernel) (Ps := []) (pc' := 3) (lv' := [(0, .ref 66), (1, .int (nI v)), (2, .int (nI w)), (3, .int (nI g)), (4, .int (nI (h + 1)))]) (st' := []) (σ' := σ) rfl True.intro ?_
          refine rw_lsub (ks := [0, 1, 2, 3, 4]) (lv' := [(0, .ref 66), (1, .int (nI v)), (2, .int (nI w)), (3, .int (nI g)), (4, .int (nI (h + 1)))]) rfl ?_
          exact ih3 (gC V v - (h + 1)) (by omega) (h + 1) rfl (by omega) (fun i hi => by
            rcases Nat.lt_or_ge i h with q | q
            · exact hno i q
            · rw [show i = h by omega]; exact h22)
        · replace h22 := zb_eqF h22
          have e : hsv V v (50 * w + g) = true := hsv_y hv hv5 h10 h22
          refine rw_go hX [(25, .iconst 1)] (by decide +kernel) (Ps := []) (pc' := 26) (lv' := [(0, .ref 66), (1, .int (nI v)), (2, .int (nI w)), (3, .int (nI g)), (4, .int (nI h))]) (st' := [.int (nI 1)]) (σ' := σ) rfl True.intro ?_
          exact rw_zret hX (by decide +kernel) (Or.inr rfl) (⟨rfl, by rw [e]; rfl⟩)
  refine rw_lsub (ks := [0, 1, 2, 3, 4]) (lv' := [(0, .ref 66), (1, .int (nI v)), (2, .int (nI w)), (3, .int (nI g)), (4, .int (nI 0))]) rfl ?_
  exact L3 (gC V v) 0 rfl (by omega) (fun i hi => by omega)
def AN (V σ : Mm) : Prop := (∀ w, w < 5 → RDm V w σ) ∧ ∀ p, okc (gC V) p → σ 80 p = nI (WN V p) ∧ σ 81 p = bz (CM V p)
theorem AN_k {V σ τ : Mm} (h : AN V σ) (e : ∀ k, k ∈ [75, 76, 77, 78, 79, 80, 81] → τ k = σ k) : AN V τ := by
  refine ⟨fun w hw => RDm_k (h.1 w hw) fun k hk => e k (by simp only [List.mem_cons, List.not_mem_nil, or_false] at hk ⊢; omega), ?_⟩
  rw [e 80 (by decide), e 81 (by decide)]
  exact h.2
/-- what telling anew leaves as it was -/
def FAN (σ σ' : Mm) : Prop := ∀ k, k < 75 ∨ 81 < k → σ' k = σ k
theorem FAN_rfl (σ : Mm) : FAN σ σ := fun _ _ => rfl
theorem FAN.trans {σ τ υ : Mm} (h : FAN σ τ) (g : FAN τ υ) : FAN σ υ := fun k hk => (g k hk).trans (h k hk)
noncomputable def isb (V : Mm) (p v : Nat) : Bool := pz (∃ u, u < v ∧ nI u = V 4 3 ∧ hsW (gC V) (LT V) (vR V 0) 250 u p)
theorem isb_0 (V : Mm) (p : Nat) : isb V p 0 = false := pz_f fun ⟨u, h, _⟩ => by omega
theorem isb_y {V : Mm} {p v : Nat} (h : hsv V v p = true) (e : nI v = V 4 3) : isb V p (v + 1) = true := pz_t ⟨v, by omega, e, pz_i h⟩
theorem isb_n {V : Mm} {p v : Nat} (h : hsv V v p = false ∨ nI v ≠ V 4 3) : isb V p (v + 1) = isb V p v := by
  refine pz_c ⟨fun ⟨u, h1, h2, h3⟩ => ⟨u, ?_, h2, h3⟩, fun ⟨u, h1, h2, h3⟩ => ⟨u, by omega, h2, h3⟩⟩
  rcases Nat.lt_or_ge u v with q | q
  · exact q
  · have e : u = v := by omega
    subst e
    rcases h with h | h
    · unfold hsv at h; rw [pz_t h3] at h; cases h
    · exact absurd h2 h
theorem bz_o1 (q : Bool) : bz q ||| nI 1 = bz true := by cases q <;> decide +kernel
theorem bz_o0 (q : Bool) : bz q ||| nI 0 = bz q := by cases q <;> decide +kernel
theorem CM_isb {V : Mm} {p : Nat} : CM V p = (decide (nI (WN V p) ≥ V 4 2) || isb V p 5) := by
  unfold CM isb hsB
  rfl
theorem hsv_s {V : Mm} (hv : wf V) {w g : Nat} (hw : w < 5) (hg : g < gC V w) : hsv V w (50 * w + g) = true := hsv_y hv hw hg (lkP_r (LT V) (vR V 0) (50 * w + g))
set_option maxRecDepth 20000 in
set_option maxHeartbeats 4000000 in
theorem m_anew (l : Launch) (G : Gl) (σ : Mm) (V : Mm) (hV : vw σ 67 = V) (hv : wf V) : AMv l G 5 mX10_anew [.ref 66] σ (fun σ' => AN V σ' ∧ FAN σ σ') := by
  refine rw_inV 10 (by decide +kernel) rfl rfl ?_
  intro E hE hX
  subst hE
  refine rw_go hX [(0, .iconst 0), (1, .istore_n 1)] (by decide +kernel) (Ps := []) (pc' := 2) (lv' := [(0, .ref 66), (1, .int (nI 0))]) (st' := []) (σ' := σ) rfl True.intro ?_
  have L2 : ∀ (μ2 : Nat) (w : Nat) (τ : Mm), μ2 = 5 - w → (w ≤ 5) → (∀ v, v < w → RDm V v τ) → (FAN σ τ) → RW E G 5 7 (QV E G (fun σ' => AN V σ' ∧ FAN σ σ')) 2 [(0, .ref 66), (1, .int (nI w))] [] τ := by
    intro μ2
    induction μ2 using Nat.strongRecOn with
    | ind μ2 ih2 =>
      intro w τ hμ2 hwi hd hf
      have hVt : vw τ 67 = V := (vw_of (fun j hj => hf _ (by omega))).trans hV
      refine rw_go hX [(2, .iload_n 1), (3, .iconst 5)] (by decide +kernel) (Ps := []) (pc' := 4) (lv' := [(0, .ref 66), (1, .int (nI w))]) (st' := [.int (nI 5), .int (nI w)]) (σ' := τ) rfl True.intro ?_
      refine rw_icmp hX (tgt := 23) (cnd := .ge) (off := 19) (by decide +kernel) (by decide) (fun h4 => ?_) (fun h4 => ?_)
      · replace h4 := c2_geT h4
        have hd5 : ∀ v, v < 5 → RDm V v τ := fun v hv9 => hd v (by omega)
        refine rw_go hX [(23, .iconst 0), (24, .istore_n 1)] (by decide +kernel) (Ps := []) (pc' := 25) (lv' := [(0, .ref 66), (1, .int (nI 0))]) (st' := []) (σ' := τ) rfl True.intro ?_
        have L25 : ∀ (μ25 : Nat) (w : Nat) (τ : Mm), μ25 = 5 - w → (w ≤ 5) → (∀ v, v < 5 → RDm V v τ) → (FAN σ τ) → (∀ p, okc (gC V) p → p < 50 * w → τ 80 p = nI (WN V p) ∧ τ 81 p = bz (CM V p)) → RW E G 5 7 (QV E G (fun σ' => AN V σ' ∧ FAN σ σ')) 25 [(0, .ref 66), (1, .int (nI w))] [] τ := by
          intro μ25
          induction μ25 using Nat.strongRecOn with
          | ind μ25 ih25 =>
            intro w τ hμ25 hwi hd hf hr
            refine rw_go hX [(25, .iload_n 1), (26, .iconst 5)] (by decide +kernel) (Ps := []) (pc' := 27) (lv' := [(0, .ref 66), (1, .int (nI w))]) (st' := [.int (nI 5), .int (nI w)]) (σ' := τ) rfl True.intro ?_
            refine rw_icmp hX (tgt := 179) (cnd := .ge) (off := 152) (by decide +kernel) (by decide) (fun h27 => ?_) (fun h27 => ?_)
            · replace h27 := c2_geT h27
              have e5 : w = 5 := by omega
              exact rw_vret hX (by decide +kernel) (⟨⟨hd, fun p ho => hr p ho (by have := ho.1; omega)⟩, hf⟩)
            · replace h27 := c2_geF h27
              have hg5 := gC_50 hv h27
              refine rw_go hX [(30, .iconst 0), (31, .istore_n 2)] (by decide +kernel) (Ps := []) (pc' := 32) (lv' := [(0, .ref 66), (1, .int (nI w)), (2, .int (nI 0))]) (st' := []) (σ' := τ) rfl True.intro ?_
              have L32 : ∀ (μ32 : Nat) (g : Nat) (τ : Mm), μ32 = gC V w - g → (g ≤ gC V w) → (∀ v, v < 5 → RDm V v τ) → (FAN σ τ) → (∀ p, okc (gC V) p → p < 50 * w + g → τ 80 p = nI (WN V p) ∧ τ 81 p = bz (CM V p)) → RW E G 5 7 (QV E G (fun σ' => AN V σ' ∧ FAN σ σ')) 32 [(0, .ref 66), (1, .int (nI w)), (2, .int (nI g))] [] τ := by
                intro μ32
                induction μ32 using Nat.strongRecOn with
                | ind μ32 ih32 =>
                  intro g τ hμ32 hgi hd hf hr
                  have hVt : vw τ 67 = V := (vw_of (fun j hj => hf _ (by omega))).trans hV
                  have h71 : τ 71 = V 4 := vw_at hVt 4 (by omega)
                  refine rw_go hX [(32, .iload_n 2), (33, .aload_n 0), (34, .iload_n 1)] (by decide +kernel) (Ps := []) (pc' := 35) (lv' := [(0, .ref 66), (1, .int (nI w)), (2, .int (nI g))]) (st' := [.int (nI w), .ref 66, .int (nI g)]) (σ' := τ) rfl True.intro ?_
                  refine rw_callVi hX (as := [.int (nI w)]) (rest := [.int (nI g)]) (m_gramsV _ _ _ V w hv h27 h71 (hd w h27)) (by decide +kernel) mvX10_grams lk10_187 (ci := 9) rfl rfl rfl (by decide) (Nat.le_of_ble_eq_true rfl) rfl ?_
                  intro r1 σ1 hr
                  rw [hr.1, show r1 = nI (gC V w) from hr.2]
                  clear hr σ1 r1
                  refine rw_icmp hX (tgt := 173) (cnd := .ge) (off := 135) (by decide +kernel) (by decide) (fun h38 => ?_) (fun h38 => ?_)
                  · replace h38 := c2_geT h38
                    refine rw_go hX [(173, .iinc 1 1)] (by decide +kernel) (Ps := []) (pc' := 176) (lv' := [(0, .ref 66), (1, .int (nI w + nI 1)), (2, .int (nI g))]) (st' := []) (σ' := τ) rfl True.intro ?_
                    rw [show (nI w + nI 1) = nI (w + 1) from nI_add _ _]
                    refine rw_go hX [(176, .goto (-151))] (by decide +kernel) (Ps := []) (pc' := 25) (lv' := [(0, .ref 66), (1, .int (nI (w + 1))), (2, .int (nI g))]) (st' := []) (σ' := τ) rfl True.intro ?_
                    refine rw_lsub (ks := [0, 1]) (lv' := [(0, .ref 66), (1, .int (nI (w + 1)))]) rfl ?_
                    exact ih25 (5 - (w + 1)) (by omega) (w + 1) _ rfl (by omega) hd hf (fun p ho hp => hr p ho (by
                      have := okc_w ho
                      rcases Nat.lt_or_ge p (50 * w) with q | q
                      · omega
                      · have e9 : p / 50 = w := by omega
                        rw [e9] at this
                        omega))
                  · replace h38 := c2_geF h38
                    refine rw_go hX [(41, .iconst 0), (42, .istore_n 3), (43, .iconst 0), (44, .istore 4), (46, .iconst 0), (47, .istore 5)] (by decide +kernel) (Ps := []) (pc' := 49) (lv' := [(0, .ref 66), (1, .int (nI w)), (2, .int (nI g)), (3, .int (nI 0)), (4, .int (nI 0)), (5, .int (nI 0))]) (st' := []) (σ' := τ) rfl True.intro ?_
                    have L49 : ∀ (μ49 : Nat) (v : Nat), μ49 = 5 - v → (v ≤ 5) → RW E G 5 7 (QV E G (fun σ' => AN V σ' ∧ FAN σ σ')) 49 [(0, .ref 66), (1, .int (nI w)), (2, .int (nI g)), (3, .int (nI (cB (fun v => hsv V v (50 * w + g)) v))), (4, .int (bz (isb V (50 * w + g) v))), (5, .int (nI v))] [] τ := by
                      intro μ49
                      induction μ49 using Nat.strongRecOn with
                      | ind μ49 ih49 =>
                        intro v hμ49 hvi
                        refine rw_go hX [(49, .iload 5), (51, .iconst 5)] (by decide +kernel) (Ps := []) (pc' := 52) (lv' := [(0, .ref 66), (1, .int (nI w)), (2, .int (nI g)), (3, .int (nI (cB (fun v => hsv V v (50 * w + g)) v))), (4, .int (bz (isb V (50 * w + g) v))), (5, .int (nI v))]) (st' := [.int (nI 5), .int (nI v)]) (σ' := τ) rfl True.intro ?_
                        refine rw_icmp hX (tgt := 124) (cnd := .ge) (off := 72) (by decide +kernel) (by decide) (fun h52 => ?_) (fun h52 => ?_)
                        · replace h52 := c2_geT h52
                          have e5 : v = 5 := by omega
                          have eW : cB (fun v => hsv V v (50 * w + g)) v = WN V (50 * w + g) := by rw [e5]; rfl
                          rw [eW, show isb V (50 * w + g) v = isb V (50 * w + g) 5 from by rw [e5]]
                          refine rw_go hX [(124, .aload_n 0), (125, .getfield 50), (128, .bipush 50), (130, .iload_n 1), (131, .imul)] (by decide +kernel) (Ps := []) (pc' := 132) (lv' := [(0, .ref 66), (1, .int (nI w)), (2, .int (nI g)), (3, .int (nI (WN V (50 * w + g)))), (4, .int (bz (isb V (50 * w + g) 5))), (5, .int (nI v))]) (st' := [.int (nI 50 * nI w), .ref 80]) (σ' := τ) rfl True.intro ?_
                          rw [show (nI 50 * nI w) = nI (50 * w) from pk_mul _ _]
                          refine rw_go hX [(132, .iload_n 2), (133, .iadd)] (by decide +kernel) (Ps := []) (pc' := 134) (lv' := [(0, .ref 66), (1, .int (nI w)), (2, .int (nI g)), (3, .int (nI (WN V (50 * w + g)))), (4, .int (bz (isb V (50 * w + g) 5))), (5, .int (nI v))]) (st' := [.int (nI (50 * w) + nI g), .ref 80]) (σ' := τ) rfl True.intro ?_
                          rw [show (nI (50 * w) + nI g) = nI (50 * w + g) from nI_add _ _]
                          refine rw_go hX [(134, .iload_n 3), (135, .iastore)] (by decide +kernel) (Ps := [vp_in (nI (50 * w + g)) 250]) (pc' := 136) (lv' := [(0, .ref 66), (1, .int (nI w)), (2, .int (nI g)), (3, .int (nI (WN V (50 * w + g)))), (4, .int (bz (isb V (50 * w + g) 5))), (5, .int (nI v))]) (st' := []) (σ' := sw τ 80 (nI (50 * w + g)).toNatClampNeg (nI (WN V (50 * w + g)))) rfl (vp_in_nI (by omega) (by omega)) ?_
                          rw [show (sw τ 80 (nI (50 * w + g)).toNatClampNeg (nI (WN V (50 * w + g)))) = sw τ 80 (50 * w + g) (nI (WN V (50 * w + g))) from (by rw [nI_clamp (by omega)])]
                          refine rw_go hX [(136, .aload_n 0), (137, .getfield 53), (140, .bipush 50), (142, .iload_n 1), (143, .imul)] (by decide +kernel) (Ps := []) (pc' := 144) (lv' := [(0, .ref 66), (1, .int (nI w)), (2, .int (nI g)), (3, .int (nI (WN V (50 * w + g)))), (4, .int (bz (isb V (50 * w + g) 5))), (5, .int (nI v))]) (st' := [.int (nI 50 * nI w), .ref 81]) (σ' := sw τ 80 (50 * w + g) (nI (WN V (50 * w + g)))) rfl True.intro ?_
                          rw [show (nI 50 * nI w) = nI (50 * w) from pk_mul _ _]
                          refine rw_go hX [(144, .iload_n 2), (145, .iadd)] (by decide +kernel) (Ps := []) (pc' := 146) (lv' := [(0, .ref 66), (1, .int (nI w)), (2, .int (nI g)), (3, .int (nI (WN V (50 * w + g)))), (4, .int (bz (isb V (50 * w + g) 5))), (5, .int (nI v))]) (st' := [.int (nI (50 * w) + nI g), .ref 81]) (σ' := sw τ 80 (50 * w + g) (nI (WN V (50 * w + g)))) rfl True.intro ?_
                          rw [show (nI (50 * w) + nI g) = nI (50 * w + g) from nI_add _ _]
                          refine rw_go hX [(146, .iload 4)] (by decide +kernel) (Ps := []) (pc' := 148) (lv' := [(0, .ref 66), (1, .int (nI w)), (2, .int (nI g)), (3, .int (nI (WN V (50 * w + g)))), (4, .int (bz (isb V (50 * w + g) 5))), (5, .int (nI v))]) (st' := [.int (bz (isb V (50 * w + g) 5)), .int (nI (50 * w + g)), .ref 81]) (σ' := sw τ 80 (50 * w + g) (nI (WN V (50 * w + g)))) rfl True.intro ?_
                          refine rw_if hX (tgt := 161) (cnd := .ne) (off := 13) (by decide +kernel) (by decide) (fun h148 => ?_) (fun h148 => ?_)
                          · replace h148 := zb_neT h148
                            have hcm : CM V (50 * w + g) = true := by rw [CM_isb, h148]; exact Bool.or_true _
                            refine rw_go hX [(161, .iconst 1), (162, .goto 4), (166, .bastore)] (by decide +kernel) (Ps := [vp_in (nI (50 * w + g)) 250, (nI 1) = 0 ∨ (nI 1) = 1]) (pc' := 167) (lv' := [(0, .ref 66), (1, .int (nI w)), (2, .int (nI g)), (3, .int (nI (WN V (50 * w + g)))), (4, .int (bz (isb V (50 * w + g) 5))), (5, .int (nI v))]) (st' := []) (σ' := sw (sw τ 80 (50 * w + g) (nI (WN V (50 * w + g)))) 81 (nI (50 * w + g)).toNatClampNeg (nI 1)) rfl (⟨vp_in_nI (by omega) (by omega), by first | exact Or.inl rfl | exact Or.inr rfl⟩) ?_
                            rw [show (sw (sw τ 80 (50 * w + g) (nI (WN V (50 * w + g)))) 81 (nI (50 * w + g)).toNatClampNeg (nI 1)) = sw (sw τ 80 (50 * w + g) (nI (WN V (50 * w + g)))) 81 (50 * w + g) (nI 1) from (by rw [nI_clamp (by omega)])]
                            refine rw_go hX [(167, .iinc 2 1)] (by decide +kernel) (Ps := []) (pc' := 170) (lv' := [(0, .ref 66), (1, .int (nI w)), (2, .int (nI g + nI 1)), (3, .int (nI (WN V (50 * w + g)))), (4, .int (bz (isb V (50 * w + g) 5))), (5, .int (nI v))]) (st' := []) (σ' := sw (sw τ 80 (50 * w + g) (nI (WN V (50 * w + g)))) 81 (50 * w + g) (nI 1)) rfl True.intro ?_
                            rw [show (nI g + nI 1) = nI (g + 1) from nI_add _ _]
                            refine rw_go hX [(170, .goto (-138))] (by decide +kernel) (Ps := []) (pc' := 32) (lv' := [(0, .ref 66), (1, .int (nI w)), (2, .int (nI (g + 1))), (3, .int (nI (WN V (50 * w + g)))), (4, .int (bz (isb V (50 * w + g) 5))), (5, .int (nI v))]) (st' := []) (σ' := sw (sw τ 80 (50 * w + g) (nI (WN V (50 * w + g)))) 81 (50 * w + g) (nI 1)) rfl True.intro ?_
                            refine rw_lsub (ks := [0, 1, 2]) (lv' := [(0, .ref 66), (1, .int (nI w)), (2, .int (nI (g + 1)))]) rfl ?_
                            have hck : ∀ p, okc (gC V) p → p < 50 * w + (g + 1) → sw (sw τ 80 (50 * w + g) (nI (WN V (50 * w + g)))) 81 (50 * w + g) (bz (CM V (50 * w + g))) 80 p = nI (WN V p) ∧ sw (sw τ 80 (50 * w + g) (nI (WN V (50 * w + g)))) 81 (50 * w + g) (bz (CM V (50 * w + g))) 81 p = bz (CM V p) := fun p ho hp => by
                              by_cases q : p = 50 * w + g
                              · subst q
                                exact ⟨by rw [sw_ne _ _ _ (by decide), sw_eq], sw_eq⟩
                              · have := hr p ho (by omega)
                                exact ⟨by rw [sw_ne _ _ _ (by decide), sw_o q]; exact this.1, by rw [sw_o q, sw_ne _ _ _ (by decide)]; exact this.2⟩
                            rw [show (nI 1 : Int32) = bz (CM V (50 * w + g)) from by rw [hcm]; rfl]
                            exact ih32 (gC V w - (g + 1)) (by omega) (g + 1) _ rfl (by omega) (fun v hv9 => RDm_k (hd v hv9) (fun k hk => by rw [sw_ne _ _ _ (fun z => by rw [z] at hk; revert hk; decide), sw_ne _ _ _ (fun z => by rw [z] at hk; revert hk; decide)])) (hf.trans (fun k hk => by rw [sw_ne _ _ _ (by omega), sw_ne _ _ _ (by omega)])) hck
                          · replace h148 := zb_neF h148
                            refine rw_go hX [(151, .iload_n 3), (152, .aload_n 0), (153, .getfield 22), (156, .iconst 2), (157, .iaload)] (by decide +kernel) (Ps := [vp_in (nI 2) 6]) (pc' := 158) (lv' := [(0, .ref 66), (1, .int (nI w)), (2, .int (nI g)), (3, .int (nI (WN V (50 * w + g)))), (4, .int (bz (isb V (50 * w + g) 5))), (5, .int (nI v))]) (st' := [.int ((sw τ 80 (50 * w + g) (nI (WN V (50 * w + g)))) 71 (nI 2).toNatClampNeg), .int (nI (WN V (50 * w + g))), .int (nI (50 * w + g)), .ref 81]) (σ' := sw τ 80 (50 * w + g) (nI (WN V (50 * w + g)))) rfl (vp_in_nI (by omega) (by omega)) ?_
                            rw [show ((sw τ 80 (50 * w + g) (nI (WN V (50 * w + g)))) 71 (nI 2).toNatClampNeg) = V 4 2 from (by rw [nI_clamp (by omega), sw_ne _ _ _ (by decide), h71])]
                            refine rw_icmp hX (tgt := 165) (cnd := .lt) (off := 7) (by decide +kernel) (by decide) (fun h158 => ?_) (fun h158 => ?_)
                            · replace h158 : (nI (WN V (50 * w + g)) < V 4 2) := h158
                              have hcm : CM V (50 * w + g) = false := by rw [CM_isb, h148, decide_eq_false (Int32.not_le.mpr h158)]; rfl
                              refine rw_go hX [(165, .iconst 0), (166, .bastore)] (by decide +kernel) (Ps := [vp_in (nI (50 * w + g)) 250, (nI 0) = 0 ∨ (nI 0) = 1]) (pc' := 167) (lv' := [(0, .ref 66), (1, .int (nI w)), (2, .int (nI g)), (3, .int (nI (WN V (50 * w + g)))), (4, .int (bz (isb V (50 * w + g) 5))), (5, .int (nI v))]) (st' := []) (σ' := sw (sw τ 80 (50 * w + g) (nI (WN V (50 * w + g)))) 81 (nI (50 * w + g)).toNatClampNeg (nI 0)) rfl (⟨vp_in_nI (by omega) (by omega), by first | exact Or.inl rfl | exact Or.inr rfl⟩) ?_
                              rw [show (sw (sw τ 80 (50 * w + g) (nI (WN V (50 * w + g)))) 81 (nI (50 * w + g)).toNatClampNeg (nI 0)) = sw (sw τ 80 (50 * w + g) (nI (WN V (50 * w + g)))) 81 (50 * w + g) (nI 0) from (by rw [nI_clamp (by omega)])]
                              refine rw_go hX [(167, .iinc 2 1)] (by decide +kernel) (Ps := []) (pc' := 170) (lv' := [(0, .ref 66), (1, .int (nI w)), (2, .int (nI g + nI 1)), (3, .int (nI (WN V (50 * w + g)))), (4, .int (bz (isb V (50 * w + g) 5))), (5, .int (nI v))]) (st' := []) (σ' := sw (sw τ 80 (50 * w + g) (nI (WN V (50 * w + g)))) 81 (50 * w + g) (nI 0)) rfl True.intro ?_
                              rw [show (nI g + nI 1) = nI (g + 1) from nI_add _ _]
                              refine rw_go hX [(170, .goto (-138))] (by decide +kernel) (Ps := []) (pc' := 32) (lv' := [(0, .ref 66), (1, .int (nI w)), (2, .int (nI (g + 1))), (3, .int (nI (WN V (50 * w + g)))), (4, .int (bz (isb V (50 * w + g) 5))), (5, .int (nI v))]) (st' := []) (σ' := sw (sw τ 80 (50 * w + g) (nI (WN V (50 * w + g)))) 81 (50 * w + g) (nI 0)) rfl True.intro ?_
                              refine rw_lsub (ks := [0, 1, 2]) (lv' := [(0, .ref 66), (1, .int (nI w)), (2, .int (nI (g + 1)))]) rfl ?_
                              have hck : ∀ p, okc (gC V) p → p < 50 * w + (g + 1) → sw (sw τ 80 (50 * w + g) (nI (WN V (50 * w + g)))) 81 (50 * w + g) (bz (CM V (50 * w + g))) 80 p = nI (WN V p) ∧ sw (sw τ 80 (50 * w + g) (nI (WN V (50 * w + g)))) 81 (50 * w + g) (bz (CM V (50 * w + g))) 81 p = bz (CM V p) := fun p ho hp => by
                                by_cases q : p = 50 * w + g
                                · subst q
                                  exact ⟨by rw [sw_ne _ _ _ (by decide), sw_eq], sw_eq⟩
                                · have := hr p ho (by omega)
                                  exact ⟨by rw [sw_ne _ _ _ (by decide), sw_o q]; exact this.1, by rw [sw_o q, sw_ne _ _ _ (by decide)]; exact this.2⟩
                              rw [show (nI 0 : Int32) = bz (CM V (50 * w + g)) from by rw [hcm]; rfl]
                              exact ih32 (gC V w - (g + 1)) (by omega) (g + 1) _ rfl (by omega) (fun v hv9 => RDm_k (hd v hv9) (fun k hk => by rw [sw_ne _ _ _ (fun z => by rw [z] at hk; revert hk; decide), sw_ne _ _ _ (fun z => by rw [z] at hk; revert hk; decide)])) (hf.trans (fun k hk => by rw [sw_ne _ _ _ (by omega), sw_ne _ _ _ (by omega)])) hck
                            · replace h158 : ¬ (nI (WN V (50 * w + g)) < V 4 2) := h158
                              have hcm : CM V (50 * w + g) = true := by rw [CM_isb, decide_eq_true (Int32.not_lt.mp h158)]; rfl
                              refine rw_go hX [(161, .iconst 1), (162, .goto 4), (166, .bastore)] (by decide +kernel) (Ps := [vp_in (nI (50 * w + g)) 250, (nI 1) = 0 ∨ (nI 1) = 1]) (pc' := 167) (lv' := [(0, .ref 66), (1, .int (nI w)), (2, .int (nI g)), (3, .int (nI (WN V (50 * w + g)))), (4, .int (bz (isb V (50 * w + g) 5))), (5, .int (nI v))]) (st' := []) (σ' := sw (sw τ 80 (50 * w + g) (nI (WN V (50 * w + g)))) 81 (nI (50 * w + g)).toNatClampNeg (nI 1)) rfl (⟨vp_in_nI (by omega) (by omega), by first | exact Or.inl rfl | exact Or.inr rfl⟩) ?_
                              rw [show (sw (sw τ 80 (50 * w + g) (nI (WN V (50 * w + g)))) 81 (nI (50 * w + g)).toNatClampNeg (nI 1)) = sw (sw τ 80 (50 * w + g) (nI (WN V (50 * w + g)))) 81 (50 * w + g) (nI 1) from (by rw [nI_clamp (by omega)])]
                              refine rw_go hX [(167, .iinc 2 1)] (by decide +kernel) (Ps := []) (pc' := 170) (lv' := [(0, .ref 66), (1, .int (nI w)), (2, .int (nI g + nI 1)), (3, .int (nI (WN V (50 * w + g)))), (4, .int (bz (isb V (50 * w + g) 5))), (5, .int (nI v))]) (st' := []) (σ' := sw (sw τ 80 (50 * w + g) (nI (WN V (50 * w + g)))) 81 (50 * w + g) (nI 1)) rfl True.intro ?_
                              rw [show (nI g + nI 1) = nI (g + 1) from nI_add _ _]
                              refine rw_go hX [(170, .goto (-138))] (by decide +kernel) (Ps := []) (pc' := 32) (lv' := [(0, .ref 66), (1, .int (nI w)), (2, .int (nI (g + 1))), (3, .int (nI (WN V (50 * w + g)))), (4, .int (bz (isb V (50 * w + g) 5))), (5, .int (nI v))]) (st' := []) (σ' := sw (sw τ 80 (50 * w + g) (nI (WN V (50 * w + g)))) 81 (50 * w + g) (nI 1)) rfl True.intro ?_
                              refine rw_lsub (ks := [0, 1, 2]) (lv' := [(0, .ref 66), (1, .int (nI w)), (2, .int (nI (g + 1)))]) rfl ?_
                              have hck : ∀ p, okc (gC V) p → p < 50 * w + (g + 1) → sw (sw τ 80 (50 * w + g) (nI (WN V (50 * w + g)))) 81 (50 * w + g) (bz (CM V (50 * w + g))) 80 p = nI (WN V p) ∧ sw (sw τ 80 (50 * w + g) (nI (WN V (50 * w + g)))) 81 (50 * w + g) (bz (CM V (50 * w + g))) 81 p = bz (CM V p) := fun p ho hp => by
                                by_cases q : p = 50 * w + g
                                · subst q
                                  exact ⟨by rw [sw_ne _ _ _ (by decide), sw_eq], sw_eq⟩
                                · have := hr p ho (by omega)
                                  exact ⟨by rw [sw_ne _ _ _ (by decide), sw_o q]; exact this.1, by rw [sw_o q, sw_ne _ _ _ (by decide)]; exact this.2⟩
                              rw [show (nI 1 : Int32) = bz (CM V (50 * w + g)) from by rw [hcm]; rfl]
                              exact ih32 (gC V w - (g + 1)) (by omega) (g + 1) _ rfl (by omega) (fun v hv9 => RDm_k (hd v hv9) (fun k hk => by rw [sw_ne _ _ _ (fun z => by rw [z] at hk; revert hk; decide), sw_ne _ _ _ (fun z => by rw [z] at hk; revert hk; decide)])) (hf.trans (fun k hk => by rw [sw_ne _ _ _ (by omega), sw_ne _ _ _ (by omega)])) hck
                        · replace h52 := c2_geF h52
                          refine rw_go hX [(55, .iload 5), (57, .iload_n 1)] (by decide +kernel) (Ps := []) (pc' := 58) (lv' := [(0, .ref 66), (1, .int (nI w)), (2, .int (nI g)), (3, .int (nI (cB (fun v => hsv V v (50 * w + g)) v))), (4, .int (bz (isb V (50 * w + g) v))), (5, .int (nI v))]) (st' := [.int (nI w), .int (nI v)]) (σ' := τ) rfl True.intro ?_
                          refine rw_icmp hX (tgt := 72) (cnd := .eq) (off := 14) (by decide +kernel) (by decide) (fun h58 => ?_) (fun h58 => ?_)
                          · replace h58 := c2_eqT h58
                            have hhs : hsv V v (50 * w + g) = true := by rw [h58]; exact hsv_s hv h27 h38
                            refine rw_go hX [(72, .iconst 1), (73, .goto 4), (77, .istore 6), (79, .iload_n 3), (80, .iload 6)] (by decide +kernel) (Ps := []) (pc' := 82) (lv' := [(0, .ref 66), (1, .int (nI w)), (2, .int (nI g)), (3, .int (nI (cB (fun v => hsv V v (50 * w + g)) v))), (4, .int (bz (isb V (50 * w + g) v))), (5, .int (nI v)), (6, .int (nI 1))]) (st' := [.int (nI 1), .int (nI (cB (fun v => hsv V v (50 * w + g)) v))]) (σ' := τ) rfl True.intro ?_
                            refine rw_if hX (tgt := 89) (cnd := .eq) (off := 7) (by decide +kernel) (by decide) (fun h82 => ?_) (fun h82 => ?_)
                            · exact absurd h82 (by simp only [cz, cc2]; decide +kernel)
                            · skip
                              refine rw_go hX [(85, .iconst 1), (86, .goto 4), (90, .iadd)] (by decide +kernel) (Ps := []) (pc' := 91) (lv' := [(0, .ref 66), (1, .int (nI w)), (2, .int (nI g)), (3, .int (nI (cB (fun v => hsv V v (50 * w + g)) v))), (4, .int (bz (isb V (50 * w + g) v))), (5, .int (nI v)), (6, .int (nI 1))]) (st' := [.int (nI (cB (fun v => hsv V v (50 * w + g)) v) + nI 1)]) (σ' := τ) rfl True.intro ?_
                              rw [show (nI (cB (fun v => hsv V v (50 * w + g)) v) + nI 1) = nI (cB (fun v => hsv V v (50 * w + g)) v + 1) from nI_add _ _]
                              refine rw_go hX [(91, .istore_n 3), (92, .iload 4), (94, .iload 6)] (by decide +kernel) (Ps := []) (pc' := 96) (lv' := [(0, .ref 66), (1, .int (nI w)), (2, .int (nI g)), (3, .int (nI (cB (fun v => hsv V v (50 * w + g)) v + 1))), (4, .int (bz (isb V (50 * w + g) v))), (5, .int (nI v)), (6, .int (nI 1))]) (st' := [.int (nI 1), .int (bz (isb V (50 * w + g) v))]) (σ' := τ) rfl True.intro ?_
                              refine rw_if hX (tgt := 114) (cnd := .eq) (off := 18) (by decide +kernel) (by decide) (fun h96 => ?_) (fun h96 => ?_)
                              · exact absurd h96 (by simp only [cz, cc2]; decide +kernel)
                              · skip
                                refine rw_go hX [(99, .iload 5), (101, .aload_n 0), (102, .getfield 22), (105, .iconst 3), (106, .iaload)] (by decide +kernel) (Ps := [vp_in (nI 3) 6]) (pc' := 107) (lv' := [(0, .ref 66), (1, .int (nI w)), (2, .int (nI g)), (3, .int (nI (cB (fun v => hsv V v (50 * w + g)) v + 1))), (4, .int (bz (isb V (50 * w + g) v))), (5, .int (nI v)), (6, .int (nI 1))]) (st' := [.int (τ 71 (nI 3).toNatClampNeg), .int (nI v), .int (bz (isb V (50 * w + g) v))]) (σ' := τ) rfl (vp_in_nI (by omega) (by omega)) ?_
                                rw [show (τ 71 (nI 3).toNatClampNeg) = V 4 3 from (by rw [nI_clamp (by omega), h71])]
                                refine rw_icmp hX (tgt := 114) (cnd := .ne) (off := 7) (by decide +kernel) (by decide) (fun h107 => ?_) (fun h107 => ?_)
                                · replace h107 : (nI v ≠ V 4 3) := h107
                                  have h107b : nI v ≠ V 4 3 := h107
                                  refine rw_go hX [(114, .iconst 0), (115, .ior)] (by decide +kernel) (Ps := []) (pc' := 116) (lv' := [(0, .ref 66), (1, .int (nI w)), (2, .int (nI g)), (3, .int (nI (cB (fun v => hsv V v (50 * w + g)) v + 1))), (4, .int (bz (isb V (50 * w + g) v))), (5, .int (nI v)), (6, .int (nI 1))]) (st' := [.int (bz (isb V (50 * w + g) v) ||| nI 0)]) (σ' := τ) rfl True.intro ?_
                                  first | rw [bz_o1] | rw [bz_o0]
                                  refine rw_go hX [(116, .istore 4), (118, .iinc 5 1)] (by decide +kernel) (Ps := []) (pc' := 121) (lv' := [(0, .ref 66), (1, .int (nI w)), (2, .int (nI g)), (3, .int (nI (cB (fun v => hsv V v (50 * w + g)) v + 1))), (4, .int (bz (isb V (50 * w + g) v))), (5, .int (nI v + nI 1)), (6, .int (nI 1))]) (st' := []) (σ' := τ) rfl True.intro ?_
                                  rw [show (nI v + nI 1) = nI (v + 1) from nI_add _ _]
                                  refine rw_go hX [(121, .goto (-72))] (by decide +kernel) (Ps := []) (pc' := 49) (lv' := [(0, .ref 66), (1, .int (nI w)), (2, .int (nI g)), (3, .int (nI (cB (fun v => hsv V v (50 * w + g)) v + 1))), (4, .int (bz (isb V (50 * w + g) v))), (5, .int (nI (v + 1))), (6, .int (nI 1))]) (st' := []) (σ' := τ) rfl True.intro ?_
                                  refine rw_lsub (ks := [0, 1, 2, 3, 4, 5]) (lv' := [(0, .ref 66), (1, .int (nI w)), (2, .int (nI g)), (3, .int (nI (cB (fun v => hsv V v (50 * w + g)) v + 1))), (4, .int (bz (isb V (50 * w + g) v))), (5, .int (nI (v + 1)))]) rfl ?_
                                  have q := ih49 (5 - (v + 1)) (by omega) (v + 1) rfl (by omega)
                                  rw [cB_y (k := v) hhs] at q
                                  rw [show isb V (50 * w + g) (v + 1) = isb V (50 * w + g) v from isb_n (by first | exact Or.inl hhs | exact Or.inr h107b)] at q
                                  exact q
                                · replace h107 : nI v = V 4 3 := Classical.not_not.mp h107
                                  have h107b : nI v = V 4 3 := h107
                                  refine rw_go hX [(110, .iconst 1), (111, .goto 4), (115, .ior)] (by decide +kernel) (Ps := []) (pc' := 116) (lv' := [(0, .ref 66), (1, .int (nI w)), (2, .int (nI g)), (3, .int (nI (cB (fun v => hsv V v (50 * w + g)) v + 1))), (4, .int (bz (isb V (50 * w + g) v))), (5, .int (nI v)), (6, .int (nI 1))]) (st' := [.int (bz (isb V (50 * w + g) v) ||| nI 1)]) (σ' := τ) rfl True.intro ?_
                                  first | rw [bz_o1] | rw [bz_o0]
                                  refine rw_go hX [(116, .istore 4), (118, .iinc 5 1)] (by decide +kernel) (Ps := []) (pc' := 121) (lv' := [(0, .ref 66), (1, .int (nI w)), (2, .int (nI g)), (3, .int (nI (cB (fun v => hsv V v (50 * w + g)) v + 1))), (4, .int (bz true)), (5, .int (nI v + nI 1)), (6, .int (nI 1))]) (st' := []) (σ' := τ) rfl True.intro ?_
                                  rw [show (nI v + nI 1) = nI (v + 1) from nI_add _ _]
                                  refine rw_go hX [(121, .goto (-72))] (by decide +kernel) (Ps := []) (pc' := 49) (lv' := [(0, .ref 66), (1, .int (nI w)), (2, .int (nI g)), (3, .int (nI (cB (fun v => hsv V v (50 * w + g)) v + 1))), (4, .int (bz true)), (5, .int (nI (v + 1))), (6, .int (nI 1))]) (st' := []) (σ' := τ) rfl True.intro ?_
                                  refine rw_lsub (ks := [0, 1, 2, 3, 4, 5]) (lv' := [(0, .ref 66), (1, .int (nI w)), (2, .int (nI g)), (3, .int (nI (cB (fun v => hsv V v (50 * w + g)) v + 1))), (4, .int (bz true)), (5, .int (nI (v + 1)))]) rfl ?_
                                  have q := ih49 (5 - (v + 1)) (by omega) (v + 1) rfl (by omega)
                                  rw [cB_y (k := v) hhs] at q
                                  rw [show isb V (50 * w + g) (v + 1) = true from isb_y hhs h107b] at q
                                  exact q
                          · replace h58 := c2_eqF h58
                            refine rw_go hX [(61, .aload_n 0), (62, .iload 5), (64, .iload_n 1), (65, .iload_n 2)] (by decide +kernel) (Ps := []) (pc' := 66) (lv' := [(0, .ref 66), (1, .int (nI w)), (2, .int (nI g)), (3, .int (nI (cB (fun v => hsv V v (50 * w + g)) v))), (4, .int (bz (isb V (50 * w + g) v))), (5, .int (nI v))]) (st' := [.int (nI g), .int (nI w), .int (nI v), .ref 66]) (σ' := τ) rfl True.intro ?_
                            refine rw_callVi hX (as := [.int (nI v), .int (nI w), .int (nI g)]) (rest := []) (m_has _ _ _ V v w g hv h52 h27 h71 (hd w h27) (hd v h52) h38) (by decide +kernel) mvX10_has lk10_201 (ci := 9) rfl rfl rfl (by decide) (Nat.le_of_ble_eq_true rfl) rfl ?_
                            intro r1 σ1 hr
                            rw [hr.1, show r1 = bz (hsv V v (50 * w + g)) from hr.2]
                            clear hr σ1 r1
                            refine rw_if hX (tgt := 76) (cnd := .eq) (off := 7) (by decide +kernel) (by decide) (fun h69 => ?_) (fun h69 => ?_)
                            · replace h69 := zb_eqT h69
                              have hhs : hsv V v (50 * w + g) = false := h69
                              refine rw_go hX [(76, .iconst 0), (77, .istore 6), (79, .iload_n 3), (80, .iload 6)] (by decide +kernel) (Ps := []) (pc' := 82) (lv' := [(0, .ref 66), (1, .int (nI w)), (2, .int (nI g)), (3, .int (nI (cB (fun v => hsv V v (50 * w + g)) v))), (4, .int (bz (isb V (50 * w + g) v))), (5, .int (nI v)), (6, .int (nI 0))]) (st' := [.int (nI 0), .int (nI (cB (fun v => hsv V v (50 * w + g)) v))]) (σ' := τ) rfl True.intro ?_
                              refine rw_if hX (tgt := 89) (cnd := .eq) (off := 7) (by decide +kernel) (by decide) (fun h82 => ?_) (fun h82 => ?_)
                              · skip
                                refine rw_go hX [(89, .iconst 0), (90, .iadd)] (by decide +kernel) (Ps := []) (pc' := 91) (lv' := [(0, .ref 66), (1, .int (nI w)), (2, .int (nI g)), (3, .int (nI (cB (fun v => hsv V v (50 * w + g)) v))), (4, .int (bz (isb V (50 * w + g) v))), (5, .int (nI v)), (6, .int (nI 0))]) (st' := [.int (nI (cB (fun v => hsv V v (50 * w + g)) v) + nI 0)]) (σ' := τ) rfl True.intro ?_
                                rw [show (nI (cB (fun v => hsv V v (50 * w + g)) v) + nI 0) = nI (cB (fun v => hsv V v (50 * w + g)) v + 0) from nI_add _ _]
                                refine rw_go hX [(91, .istore_n 3), (92, .iload 4), (94, .iload 6)] (by decide +kernel) (Ps := []) (pc' := 96) (lv' := [(0, .ref 66), (1, .int (nI w)), (2, .int (nI g)), (3, .int (nI (cB (fun v => hsv V v (50 * w + g)) v + 0))), (4, .int (bz (isb V (50 * w + g) v))), (5, .int (nI v)), (6, .int (nI 0))]) (st' := [.int (nI 0), .int (bz (isb V (50 * w + g) v))]) (σ' := τ) rfl True.intro ?_
                                refine rw_if hX (tgt := 114) (cnd := .eq) (off := 18) (by decide +kernel) (by decide) (fun h96 => ?_) (fun h96 => ?_)
                                · skip
                                  refine rw_go hX [(114, .iconst 0), (115, .ior)] (by decide +kernel) (Ps := []) (pc' := 116) (lv' := [(0, .ref 66), (1, .int (nI w)), (2, .int (nI g)), (3, .int (nI (cB (fun v => hsv V v (50 * w + g)) v + 0))), (4, .int (bz (isb V (50 * w + g) v))), (5, .int (nI v)), (6, .int (nI 0))]) (st' := [.int (bz (isb V (50 * w + g) v) ||| nI 0)]) (σ' := τ) rfl True.intro ?_
                                  first | rw [bz_o1] | rw [bz_o0]
                                  refine rw_go hX [(116, .istore 4), (118, .iinc 5 1)] (by decide +kernel) (Ps := []) (pc' := 121) (lv' := [(0, .ref 66), (1, .int (nI w)), (2, .int (nI g)), (3, .int (nI (cB (fun v => hsv V v (50 * w + g)) v + 0))), (4, .int (bz (isb V (50 * w + g) v))), (5, .int (nI v + nI 1)), (6, .int (nI 0))]) (st' := []) (σ' := τ) rfl True.intro ?_
                                  rw [show (nI v + nI 1) = nI (v + 1) from nI_add _ _]
                                  refine rw_go hX [(121, .goto (-72))] (by decide +kernel) (Ps := []) (pc' := 49) (lv' := [(0, .ref 66), (1, .int (nI w)), (2, .int (nI g)), (3, .int (nI (cB (fun v => hsv V v (50 * w + g)) v + 0))), (4, .int (bz (isb V (50 * w + g) v))), (5, .int (nI (v + 1))), (6, .int (nI 0))]) (st' := []) (σ' := τ) rfl True.intro ?_
                                  refine rw_lsub (ks := [0, 1, 2, 3, 4, 5]) (lv' := [(0, .ref 66), (1, .int (nI w)), (2, .int (nI g)), (3, .int (nI (cB (fun v => hsv V v (50 * w + g)) v + 0))), (4, .int (bz (isb V (50 * w + g) v))), (5, .int (nI (v + 1)))]) rfl ?_
                                  have q := ih49 (5 - (v + 1)) (by omega) (v + 1) rfl (by omega)
                                  rw [cB_n (k := v) hhs] at q
                                  rw [show isb V (50 * w + g) (v + 1) = isb V (50 * w + g) v from isb_n (by first | exact Or.inl hhs | exact Or.inr h107b)] at q
                                  rw [Nat.add_zero]
                                  exact q
                                · exact absurd (by simp only [cz, cc2]; decide +kernel) h96
                              · exact absurd (by simp only [cz, cc2]; decide +kernel) h82
                            · replace h69 := zb_eqF h69
                              have hhs : hsv V v (50 * w + g) = true := h69
                              refine rw_go hX [(72, .iconst 1), (73, .goto 4), (77, .istore 6), (79, .iload_n 3), (80, .iload 6)] (by decide +kernel) (Ps := []) (pc' := 82) (lv' := [(0, .ref 66), (1, .int (nI w)), (2, .int (nI g)), (3, .int (nI (cB (fun v => hsv V v (50 * w + g)) v))), (4, .int (bz (isb V (50 * w + g) v))), (5, .int (nI v)), (6, .int (nI 1))]) (st' := [.int (nI 1), .int (nI (cB (fun v => hsv V v (50 * w + g)) v))]) (σ' := τ) rfl True.intro ?_
                              refine rw_if hX (tgt := 89) (cnd := .eq) (off := 7) (by decide +kernel) (by decide) (fun h82 => ?_) (fun h82 => ?_)
                              · exact absurd h82 (by simp only [cz, cc2]; decide +kernel)
                              · skip
                                refine rw_go hX [(85, .iconst 1), (86, .goto 4), (90, .iadd)] (by decide +kernel) (Ps := []) (pc' := 91) (lv' := [(0, .ref 66), (1, .int (nI w)), (2, .int (nI g)), (3, .int (nI (cB (fun v => hsv V v (50 * w + g)) v))), (4, .int (bz (isb V (50 * w + g) v))), (5, .int (nI v)), (6, .int (nI 1))]) (st' := [.int (nI (cB (fun v => hsv V v (50 * w + g)) v) + nI 1)]) (σ' := τ) rfl True.intro ?_
                                rw [show (nI (cB (fun v => hsv V v (50 * w + g)) v) + nI 1) = nI (cB (fun v => hsv V v (50 * w + g)) v + 1) from nI_add _ _]
                                refine rw_go hX [(91, .istore_n 3), (92, .iload 4), (94, .iload 6)] (by decide +kernel) (Ps := []) (pc' := 96) (lv' := [(0, .ref 66), (1, .int (nI w)), (2, .int (nI g)), (3, .int (nI (cB (fun v => hsv V v (50 * w + g)) v + 1))), (4, .int (bz (isb V (50 * w + g) v))), (5, .int (nI v)), (6, .int (nI 1))]) (st' := [.int (nI 1), .int (bz (isb V (50 * w + g) v))]) (σ' := τ) rfl True.intro ?_
                                refine rw_if hX (tgt := 114) (cnd := .eq) (off := 18) (by decide +kernel) (by decide) (fun h96 => ?_) (fun h96 => ?_)
                                · exact absurd h96 (by simp only [cz, cc2]; decide +kernel)
                                · skip
                                  refine rw_go hX [(99, .iload 5), (101, .aload_n 0), (102, .getfield 22), (105, .iconst 3), (106, .iaload)] (by decide +kernel) (Ps := [vp_in (nI 3) 6]) (pc' := 107) (lv' := [(0, .ref 66), (1, .int (nI w)), (2, .int (nI g)), (3, .int (nI (cB (fun v => hsv V v (50 * w + g)) v + 1))), (4, .int (bz (isb V (50 * w + g) v))), (5, .int (nI v)), (6, .int (nI 1))]) (st' := [.int (τ 71 (nI 3).toNatClampNeg), .int (nI v), .int (bz (isb V (50 * w + g) v))]) (σ' := τ) rfl (vp_in_nI (by omega) (by omega)) ?_
                                  rw [show (τ 71 (nI 3).toNatClampNeg) = V 4 3 from (by rw [nI_clamp (by omega), h71])]
                                  refine rw_icmp hX (tgt := 114) (cnd := .ne) (off := 7) (by decide +kernel) (by decide) (fun h107 => ?_) (fun h107 => ?_)
                                  · replace h107 : (nI v ≠ V 4 3) := h107
                                    have h107b : nI v ≠ V 4 3 := h107
                                    refine rw_go hX [(114, .iconst 0), (115, .ior)] (by decide +kernel) (Ps := []) (pc' := 116) (lv' := [(0, .ref 66), (1, .int (nI w)), (2, .int (nI g)), (3, .int (nI (cB (fun v => hsv V v (50 * w + g)) v + 1))), (4, .int (bz (isb V (50 * w + g) v))), (5, .int (nI v)), (6, .int (nI 1))]) (st' := [.int (bz (isb V (50 * w + g) v) ||| nI 0)]) (σ' := τ) rfl True.intro ?_
                                    first | rw [bz_o1] | rw [bz_o0]
                                    refine rw_go hX [(116, .istore 4), (118, .iinc 5 1)] (by decide +kernel) (Ps := []) (pc' := 121) (lv' := [(0, .ref 66), (1, .int (nI w)), (2, .int (nI g)), (3, .int (nI (cB (fun v => hsv V v (50 * w + g)) v + 1))), (4, .int (bz (isb V (50 * w + g) v))), (5, .int (nI v + nI 1)), (6, .int (nI 1))]) (st' := []) (σ' := τ) rfl True.intro ?_
                                    rw [show (nI v + nI 1) = nI (v + 1) from nI_add _ _]
                                    refine rw_go hX [(121, .goto (-72))] (by decide +kernel) (Ps := []) (pc' := 49) (lv' := [(0, .ref 66), (1, .int (nI w)), (2, .int (nI g)), (3, .int (nI (cB (fun v => hsv V v (50 * w + g)) v + 1))), (4, .int (bz (isb V (50 * w + g) v))), (5, .int (nI (v + 1))), (6, .int (nI 1))]) (st' := []) (σ' := τ) rfl True.intro ?_
                                    refine rw_lsub (ks := [0, 1, 2, 3, 4, 5]) (lv' := [(0, .ref 66), (1, .int (nI w)), (2, .int (nI g)), (3, .int (nI (cB (fun v => hsv V v (50 * w + g)) v + 1))), (4, .int (bz (isb V (50 * w + g) v))), (5, .int (nI (v + 1)))]) rfl ?_
                                    have q := ih49 (5 - (v + 1)) (by omega) (v + 1) rfl (by omega)
                                    rw [cB_y (k := v) hhs] at q
                                    rw [show isb V (50 * w + g) (v + 1) = isb V (50 * w + g) v from isb_n (by first | exact Or.inl hhs | exact Or.inr h107b)] at q
                                    exact q
                                  · replace h107 : nI v = V 4 3 := Classical.not_not.mp h107
                                    have h107b : nI v = V 4 3 := h107
                                    refine rw_go hX [(110, .iconst 1), (111, .goto 4), (115, .ior)] (by decide +kernel) (Ps := []) (pc' := 116) (lv' := [(0, .ref 66), (1, .int (nI w)), (2, .int (nI g)), (3, .int (nI (cB (fun v => hsv V v (50 * w + g)) v + 1))), (4, .int (bz (isb V (50 * w + g) v))), (5, .int (nI v)), (6, .int (nI 1))]) (st' := [.int (bz (isb V (50 * w + g) v) ||| nI 1)]) (σ' := τ) rfl True.intro ?_
                                    first | rw [bz_o1] | rw [bz_o0]
                                    refine rw_go hX [(116, .istore 4), (118, .iinc 5 1)] (by decide +kernel) (Ps := []) (pc' := 121) (lv' := [(0, .ref 66), (1, .int (nI w)), (2, .int (nI g)), (3, .int (nI (cB (fun v => hsv V v (50 * w + g)) v + 1))), (4, .int (bz true)), (5, .int (nI v + nI 1)), (6, .int (nI 1))]) (st' := []) (σ' := τ) rfl True.intro ?_
                                    rw [show (nI v + nI 1) = nI (v + 1) from nI_add _ _]
                                    refine rw_go hX [(121, .goto (-72))] (by decide +kernel) (Ps := []) (pc' := 49) (lv' := [(0, .ref 66), (1, .int (nI w)), (2, .int (nI g)), (3, .int (nI (cB (fun v => hsv V v (50 * w + g)) v + 1))), (4, .int (bz true)), (5, .int (nI (v + 1))), (6, .int (nI 1))]) (st' := []) (σ' := τ) rfl True.intro ?_
                                    refine rw_lsub (ks := [0, 1, 2, 3, 4, 5]) (lv' := [(0, .ref 66), (1, .int (nI w)), (2, .int (nI g)), (3, .int (nI (cB (fun v => hsv V v (50 * w + g)) v + 1))), (4, .int (bz true)), (5, .int (nI (v + 1)))]) rfl ?_
                                    have q := ih49 (5 - (v + 1)) (by omega) (v + 1) rfl (by omega)
                                    rw [cB_y (k := v) hhs] at q
                                    rw [show isb V (50 * w + g) (v + 1) = true from isb_y hhs h107b] at q
                                    exact q
                    refine rw_lsub (ks := [0, 1, 2, 3, 4, 5]) (lv' := [(0, .ref 66), (1, .int (nI w)), (2, .int (nI g)), (3, .int (nI 0)), (4, .int (nI 0)), (5, .int (nI 0))]) rfl ?_
                    have q := L49 5 0 rfl (by omega)
                    rw [isb_0] at q
                    exact q
              refine rw_lsub (ks := [0, 1, 2]) (lv' := [(0, .ref 66), (1, .int (nI w)), (2, .int (nI 0))]) rfl ?_
              exact L32 (gC V w) 0 _ (by omega) (by omega) hd hf hr
        refine rw_lsub (ks := [0, 1]) (lv' := [(0, .ref 66), (1, .int (nI 0))]) rfl ?_
        exact L25 5 0 _ rfl (by omega) hd5 hf (fun p _ hp => by omega)
      · replace h4 := c2_geF h4
        refine rw_go hX [(7, .aload_n 0), (8, .iload_n 1)] (by decide +kernel) (Ps := []) (pc' := 9) (lv' := [(0, .ref 66), (1, .int (nI w))]) (st' := [.int (nI w), .ref 66]) (σ' := τ) rfl True.intro ?_
        refine rw_callVv hX (as := [.int (nI w)]) (rest := []) (m_spells _ _ _ V w hVt hv h4) (by decide +kernel) mvX10_spells lk10_174 (ci := 9) rfl rfl rfl (by decide) (Nat.le_of_ble_eq_true rfl) rfl ?_
        intro σ1 hr
        rw [hr]
        clear hr σ1
        refine rw_go hX [(12, .aload_n 0), (13, .iload_n 1)] (by decide +kernel) (Ps := []) (pc' := 14) (lv' := [(0, .ref 66), (1, .int (nI w))]) (st' := [.int (nI w), .ref 66]) (σ' := rdL 75 76 77 V w τ) rfl True.intro ?_
        refine rw_callVv hX (as := [.int (nI w)]) (rest := []) (m_prints _ _ _ V w hv h4 (by rw [rdL_n _ (by decide) (by decide) (by decide)]; exact vw_at hVt 4 (by omega)) (RLe_mk (rt := 75) (rp := 76) (rn := 77) τ (by decide) (by decide) (by decide) hv h4).1) (by decide +kernel) mvX10_prints lk10_198 (ci := 9) rfl rfl rfl (by decide) (Nat.le_of_ble_eq_true rfl) rfl ?_
        intro σ1 hr
        rw [hr]
        clear hr σ1
        refine rw_go hX [(17, .iinc 1 1)] (by decide +kernel) (Ps := []) (pc' := 20) (lv' := [(0, .ref 66), (1, .int (nI w + nI 1))]) (st' := []) (σ' := rd2 V w τ) rfl True.intro ?_
        rw [show (nI w + nI 1) = nI (w + 1) from nI_add _ _]
        refine rw_go hX [(20, .goto (-18))] (by decide +kernel) (Ps := []) (pc' := 2) (lv' := [(0, .ref 66), (1, .int (nI (w + 1)))]) (st' := []) (σ' := rd2 V w τ) rfl True.intro ?_
        refine rw_lsub (ks := [0, 1]) (lv' := [(0, .ref 66), (1, .int (nI (w + 1)))]) rfl ?_
        exact ih2 (5 - (w + 1)) (by omega) (w + 1) _ rfl (by omega) (fun v hv9 => by
          rcases Nat.lt_or_ge v w with q | q
          · exact rd2_no hv (by omega) h4 (by omega) (hd v q)
          · rw [show v = w by omega]; exact rd2_mk hv h4 τ) (hf.trans (fun k hk => rd2_n V w τ (by simp only [List.mem_cons, List.not_mem_nil, or_false]; omega)))
  refine rw_lsub (ks := [0, 1]) (lv' := [(0, .ref 66), (1, .int (nI 0))]) rfl ?_
  exact L2 5 0 σ rfl (by omega) (fun v hv9 => by omega) (FAN_rfl σ)
