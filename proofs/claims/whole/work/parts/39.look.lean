/-! all works read, the forms numbered -/
theorem vw_of {σ τ : Mm} {b : Nat} (h : ∀ j, j < 5 → τ (b + j) = σ (b + j)) : vw τ b = vw σ b := by
  funext j
  unfold vw
  by_cases g : j < 5
  · rw [if_pos g, if_pos g, h j g]
  · rw [if_neg g, if_neg g]
theorem RD_k {V : Mm} {w : Nat} {σ τ : Mm} (h : RD V w σ) (e : ∀ k, k ∈ [24, 25, 26, 27, 28, 30] → τ k = σ k) : RD V w τ :=
  ⟨RLe_k h.1 (e 24 (by decide)) (e 26 (by decide)) (e 27 (by decide)), by rw [e 25 (by decide)]; exact h.2.1, RGr_k h.2.2 (e 28 (by decide)) (e 30 (by decide))⟩
def LK (V σ σ' : Mm) : Prop := (∀ w, w < 5 → RD V w σ') ∧ (∃ F c, FI σ' (gC V) (vR V 0) (V 4 3) 250 F c) ∧ σ' 31 8 = V 4 2 ∧ ∀ k, k ∉ [24, 25, 26, 27, 28, 29, 30, 31, 32, 33, 34, 35, 36, 37, 38] → σ' k = σ k
theorem LK_of {V σ τ σ1 : Mm} {F : Nat} {c : Nat → Nat} (h1 : ∀ w, w < 5 → RD V w τ) (h2 : FI σ1 (gC V) (vR V 0) (V 4 3) 250 F c) (h3 : NFr τ σ1 (V 4 2)) (h4 : ∀ k, k ∉ [24, 25, 26, 27, 28, 30] → τ k = σ k) : LK V σ σ1 := by
  refine ⟨fun w hw => RD_k (h1 w hw) (fun k hk => h3.1 k ?_), ⟨F, c, h2⟩, h3.2, fun k hk => (h3.1 k ?_).trans (h4 k ?_)⟩
  · simp only [List.mem_cons, List.not_mem_nil, or_false] at hk ⊢
    omega
  · simp only [List.mem_cons, List.not_mem_nil, or_false] at hk ⊢
    omega
  · simp only [List.mem_cons, List.not_mem_nil, or_false] at hk ⊢
    omega
theorem okc_w {n : Nat → Nat} {p : Nat} (h : okc n p) : p / 50 < 5 ∧ p % 50 < n (p / 50) ∧ 50 * (p / 50) + p % 50 = p := by
  have := h.1
  exact ⟨by omega, h.2, by omega⟩
theorem LK_M {V τ : Mm} (h : ∀ w, w < 5 → RD V w τ) (p : Nat) (hp : okc (gC V) p) : τ 28 p = mkF (τ 26) p (vR V 0) := by
  obtain ⟨h1, h2, h3⟩ := okc_w hp
  have a := ((h _ h1).2.2 _ h2).1
  have b := mk_at (f := τ 26) h2 (fun i hi => ((h _ h1).1.2 i hi).1)
  rw [h3] at a b
  rw [a, b]
set_option maxRecDepth 20000 in
set_option maxHeartbeats 4000000 in
theorem c_look_1 (l : Launch) (G : Gl) (σ : Mm) (V : Mm) (hV : vw σ (2) = V) (hv : wf V) : AMv l G 4 mX8_look [.ref 22, .ref 1] σ (fun σ' => LK V σ σ') := by
  refine rw_inV 8 (by decide +kernel) rfl rfl ?_
  intro E hE hX
  subst hE
  refine rw_go hX [(0, .iconst 0), (1, .istore_n 2)] (by decide +kernel) (Ps := []) (pc' := 2) (lv' := [(0, .ref 22), (1, .ref 1), (2, .int (nI 0))]) (st' := []) (σ' := σ) rfl True.intro ?_
  have L2 : ∀ (μ2 : Nat) (w : Nat) (τ : Mm), μ2 = 5 - w → (w ≤ 5) → (∀ v, v < w → RD V v τ) → (∀ k, k ∉ [24, 25, 26, 27, 28, 30] → τ k = σ k) → RW E G 4 3 (QV E G (fun σ' => LK V σ σ')) 2 [(0, .ref 22), (1, .ref 1), (2, .int (nI w))] [] τ := by
    intro μ2
    induction μ2 using Nat.strongRecOn with
    | ind μ2 ih2 =>
      intro w τ hμ2 hw hd hf
      have hVt : vw τ (2) = V := (vw_of (fun j hj => hf _ (by simp only [List.mem_cons, List.not_mem_nil, or_false]; omega))).trans hV
      have hR := vw_at hVt 4 (by omega)
      have hK := wf_K hv
      have hN := wf_N hv
      refine rw_go hX [(2, .iload_n 2), (3, .iconst 5)] (by decide +kernel) (Ps := []) (pc' := 4) (lv' := [(0, .ref 22), (1, .ref 1), (2, .int (nI w))]) (st' := [.int (nI 5), .int (nI w)]) (σ' := τ) rfl True.intro ?_
      refine rw_icmp hX (tgt := 54) (cnd := .ge) (off := 50) (by decide +kernel) (by decide) (fun h4 => ?_) (fun h4 => ?_)
      · replace h4 := c2_geT h4
        have hd5 : ∀ v, v < 5 → RD V v τ := fun v hv9 => hd v (by omega)
        refine rw_go hX [(54, .aload_n 0), (55, .getfield 21), (58, .aload_n 0), (59, .getfield 12), (62, .aload_n 1), (63, .getfield 47)] (by decide +kernel) (Ps := []) (pc' := 66) (lv' := [(0, .ref 22), (1, .ref 1), (2, .int (nI w))]) (st' := [.ref 6, .ref 23, .ref 31]) (σ' := τ) rfl True.intro ?_
        refine rw_callVv hX (as := [.ref 23, .ref 6]) (rest := []) (c_number _ _ _ 6 (vR V 0) (gC V) (by decide +kernel) (by decide) (by rw [hR]; exact hK.1) (fun w9 hw9 => ⟨(hd5 w9 hw9).2.1, (gC_50 hv hw9).1, hK.2.1⟩) (LK_M hd5)) (by decide +kernel) mvX0_number lk8_63 (ci := 0) rfl rfl rfl (by decide) (Nat.le_of_ble_eq_true rfl) rfl ?_
        intro σ1 hr
        obtain ⟨F, c, hr1, hr2⟩ := hr
        rw [hR] at hr1 hr2
        exact rw_vret hX (by decide +kernel) (LK_of hd5 hr1 hr2 hf)
      · replace h4 := c2_geF h4
        have hg5 := gC_50 hv h4
        have hl5 := lC_50 hv h4
        have hr1 := RLe_mk (rt := 26) (rp := 27) (rn := 24) (V := V) (w := w) τ (by decide) (by decide) (by decide) hv h4
        refine rw_go hX [(7, .aload_n 0), (8, .getfield 12), (11, .aload_n 1), (12, .iload_n 2)] (by decide +kernel) (Ps := []) (pc' := 13) (lv' := [(0, .ref 22), (1, .ref 1), (2, .int (nI w))]) (st' := [.int (nI w), .ref 1, .ref 23]) (σ' := τ) rfl True.intro ?_
        refine rw_callVv hX (as := [.ref 1, .int (nI w)]) (rest := []) (c_readLetters_1 _ _ _ V w hVt hv h4) (by decide +kernel) mvX3_readLetters lk8_43 (ci := 2) rfl rfl rfl (by decide) (Nat.le_of_ble_eq_true rfl) rfl ?_
        intro σ1 hr
        rw [hr]
        clear hr σ1
        refine rw_go hX [(16, .aload_n 0), (17, .getfield 12), (20, .iload_n 2), (21, .aload_n 1), (22, .getfield 47), (25, .iconst 0)] (by decide +kernel) (Ps := []) (pc' := 26) (lv' := [(0, .ref 22), (1, .ref 1), (2, .int (nI w))]) (st' := [.int (nI 0), .ref 6, .int (nI w), .ref 23]) (σ' := rdL 26 27 24 V w τ) rfl True.intro ?_
        refine rw_callSi hX (as := [.ref 6, .int (nI 0)]) (rest := [.int (nI w), .ref 23]) (c_pick _ _ _ 6 6 0 (by decide +kernel) (by omega) (by omega)) (by decide +kernel) msX9_pick (Or.inr lk8_52) rfl (by decide) (Nat.le_of_ble_eq_true rfl) rfl ?_
        intro r1 σ1 hr
        rw [hr.1, show r1 = nI (vR V 0) from hr.2.trans (by rw [rdL_n _ (by decide) (by decide) (by decide), hR]; exact hK.1)]
        clear hr σ1 r1
        refine rw_callVv hX (as := [.int (nI w), .int (nI (vR V 0))]) (rest := []) (c_readGrams _ _ _ w (vR V 0) (lC V w) h4 hr1.1 hl5 (by omega) (by omega)) (by decide +kernel) mvX3_readGrams lk8_56 (ci := 2) rfl rfl rfl (by decide) (Nat.le_of_ble_eq_true rfl) rfl ?_
        intro σ1 hr
        rw [hr]
        clear hr σ1
        refine rw_go hX [(32, .aload_n 0), (33, .getfield 12), (36, .iload_n 2), (37, .aload_n 1), (38, .getfield 47), (41, .iconst 1)] (by decide +kernel) (Ps := []) (pc' := 42) (lv' := [(0, .ref 22), (1, .ref 1), (2, .int (nI w))]) (st' := [.int (nI 1), .ref 6, .int (nI w), .ref 23]) (σ' := rdG 26 24 28 25 w (vR V 0) (lC V w) (rdL 26 27 24 V w τ)) rfl True.intro ?_
        refine rw_callSi hX (as := [.ref 6, .int (nI 1)]) (rest := [.int (nI w), .ref 23]) (c_pick _ _ _ 6 6 1 (by decide +kernel) (by omega) (by omega)) (by decide +kernel) msX9_pick (Or.inr lk8_52) rfl (by decide) (Nat.le_of_ble_eq_true rfl) rfl ?_
        intro r1 σ1 hr
        rw [hr.1, show r1 = nI (vR V 1) from hr.2.trans (by rw [rdG_n _ (by decide) (by decide), rdL_n _ (by decide) (by decide) (by decide), hR]; exact hN.1)]
        clear hr σ1 r1
        refine rw_callVv hX (as := [.int (nI w), .int (nI (vR V 1))]) (rest := []) (c_readPrints _ _ _ w (vR V 1) (gC V w) h4 (by unfold rdG; rw [sr_s, upd_s]; rfl) (by omega) (by omega) (by omega)) (by decide +kernel) mvX3_readPrints lk8_60 (ci := 2) rfl rfl rfl (by decide) (Nat.le_of_ble_eq_true rfl) rfl ?_
        intro σ1 hr
        rw [hr]
        clear hr σ1
        refine rw_go hX [(48, .iinc 2 1), (51, .goto (-49))] (by decide +kernel) (Ps := []) (pc' := 2) (lv' := [(0, .ref 22), (1, .ref 1), (2, .int (nI w + nI 1))]) (st' := []) (σ' := rd1 V w τ) rfl True.intro ?_
        refine rw_lsub (ks := [0, 1, 2]) (lv' := [(0, .ref 22), (1, .ref 1), (2, .int (nI w + nI 1))]) rfl ?_
        rw [nI_add]
        exact ih2 (5 - (w + 1)) (by omega) (w + 1) _ rfl (by omega) (fun v hv9 => by
          rcases Nat.lt_or_ge v w with g | g
          · exact rd1_no hv (by omega) h4 (by omega) (hd v g)
          · rw [show v = w by omega]; exact rd1_mk hv h4 τ) (fun k hk => (rd1_n V w τ hk).trans (hf k hk))
  refine rw_lsub (ks := [0, 1, 2]) (lv' := [(0, .ref 22), (1, .ref 1), (2, .int (nI 0))]) rfl ?_
  exact L2 5 0 σ rfl (by omega) (fun v hv9 => by omega) (fun _ _ => rfl)
set_option maxRecDepth 20000 in
set_option maxHeartbeats 4000000 in
theorem c_look_8 (l : Launch) (G : Gl) (σ : Mm) (V : Mm) (hV : vw σ (9) = V) (hv : wf V) : AMv l G 4 mX8_look [.ref 22, .ref 8] σ (fun σ' => LK V σ σ') := by
  refine rw_inV 8 (by decide +kernel) rfl rfl ?_
  intro E hE hX
  subst hE
  refine rw_go hX [(0, .iconst 0), (1, .istore_n 2)] (by decide +kernel) (Ps := []) (pc' := 2) (lv' := [(0, .ref 22), (1, .ref 8), (2, .int (nI 0))]) (st' := []) (σ' := σ) rfl True.intro ?_
  have L2 : ∀ (μ2 : Nat) (w : Nat) (τ : Mm), μ2 = 5 - w → (w ≤ 5) → (∀ v, v < w → RD V v τ) → (∀ k, k ∉ [24, 25, 26, 27, 28, 30] → τ k = σ k) → RW E G 4 3 (QV E G (fun σ' => LK V σ σ')) 2 [(0, .ref 22), (1, .ref 8), (2, .int (nI w))] [] τ := by
    intro μ2
    induction μ2 using Nat.strongRecOn with
    | ind μ2 ih2 =>
      intro w τ hμ2 hw hd hf
      have hVt : vw τ (9) = V := (vw_of (fun j hj => hf _ (by simp only [List.mem_cons, List.not_mem_nil, or_false]; omega))).trans hV
      have hR := vw_at hVt 4 (by omega)
      have hK := wf_K hv
      have hN := wf_N hv
      refine rw_go hX [(2, .iload_n 2), (3, .iconst 5)] (by decide +kernel) (Ps := []) (pc' := 4) (lv' := [(0, .ref 22), (1, .ref 8), (2, .int (nI w))]) (st' := [.int (nI 5), .int (nI w)]) (σ' := τ) rfl True.intro ?_
      refine rw_icmp hX (tgt := 54) (cnd := .ge) (off := 50) (by decide +kernel) (by decide) (fun h4 => ?_) (fun h4 => ?_)
      · replace h4 := c2_geT h4
        have hd5 : ∀ v, v < 5 → RD V v τ := fun v hv9 => hd v (by omega)
        refine rw_go hX [(54, .aload_n 0), (55, .getfield 21), (58, .aload_n 0), (59, .getfield 12), (62, .aload_n 1), (63, .getfield 47)] (by decide +kernel) (Ps := []) (pc' := 66) (lv' := [(0, .ref 22), (1, .ref 8), (2, .int (nI w))]) (st' := [.ref 13, .ref 23, .ref 31]) (σ' := τ) rfl True.intro ?_
        refine rw_callVv hX (as := [.ref 23, .ref 13]) (rest := []) (c_number _ _ _ 13 (vR V 0) (gC V) (by decide +kernel) (by decide) (by rw [hR]; exact hK.1) (fun w9 hw9 => ⟨(hd5 w9 hw9).2.1, (gC_50 hv hw9).1, hK.2.1⟩) (LK_M hd5)) (by decide +kernel) mvX0_number lk8_63 (ci := 0) rfl rfl rfl (by decide) (Nat.le_of_ble_eq_true rfl) rfl ?_
        intro σ1 hr
        obtain ⟨F, c, hr1, hr2⟩ := hr
        rw [hR] at hr1 hr2
        exact rw_vret hX (by decide +kernel) (LK_of hd5 hr1 hr2 hf)
      · replace h4 := c2_geF h4
        have hg5 := gC_50 hv h4
        have hl5 := lC_50 hv h4
        have hr1 := RLe_mk (rt := 26) (rp := 27) (rn := 24) (V := V) (w := w) τ (by decide) (by decide) (by decide) hv h4
        refine rw_go hX [(7, .aload_n 0), (8, .getfield 12), (11, .aload_n 1), (12, .iload_n 2)] (by decide +kernel) (Ps := []) (pc' := 13) (lv' := [(0, .ref 22), (1, .ref 8), (2, .int (nI w))]) (st' := [.int (nI w), .ref 8, .ref 23]) (σ' := τ) rfl True.intro ?_
        refine rw_callVv hX (as := [.ref 8, .int (nI w)]) (rest := []) (c_readLetters_8 _ _ _ V w hVt hv h4) (by decide +kernel) mvX3_readLetters lk8_43 (ci := 2) rfl rfl rfl (by decide) (Nat.le_of_ble_eq_true rfl) rfl ?_
        intro σ1 hr
        rw [hr]
        clear hr σ1
        refine rw_go hX [(16, .aload_n 0), (17, .getfield 12), (20, .iload_n 2), (21, .aload_n 1), (22, .getfield 47), (25, .iconst 0)] (by decide +kernel) (Ps := []) (pc' := 26) (lv' := [(0, .ref 22), (1, .ref 8), (2, .int (nI w))]) (st' := [.int (nI 0), .ref 13, .int (nI w), .ref 23]) (σ' := rdL 26 27 24 V w τ) rfl True.intro ?_
        refine rw_callSi hX (as := [.ref 13, .int (nI 0)]) (rest := [.int (nI w), .ref 23]) (c_pick _ _ _ 13 6 0 (by decide +kernel) (by omega) (by omega)) (by decide +kernel) msX9_pick (Or.inr lk8_52) rfl (by decide) (Nat.le_of_ble_eq_true rfl) rfl ?_
        intro r1 σ1 hr
        rw [hr.1, show r1 = nI (vR V 0) from hr.2.trans (by rw [rdL_n _ (by decide) (by decide) (by decide), hR]; exact hK.1)]
        clear hr σ1 r1
        refine rw_callVv hX (as := [.int (nI w), .int (nI (vR V 0))]) (rest := []) (c_readGrams _ _ _ w (vR V 0) (lC V w) h4 hr1.1 hl5 (by omega) (by omega)) (by decide +kernel) mvX3_readGrams lk8_56 (ci := 2) rfl rfl rfl (by decide) (Nat.le_of_ble_eq_true rfl) rfl ?_
        intro σ1 hr
        rw [hr]
        clear hr σ1
        refine rw_go hX [(32, .aload_n 0), (33, .getfield 12), (36, .iload_n 2), (37, .aload_n 1), (38, .getfield 47), (41, .iconst 1)] (by decide +kernel) (Ps := []) (pc' := 42) (lv' := [(0, .ref 22), (1, .ref 8), (2, .int (nI w))]) (st' := [.int (nI 1), .ref 13, .int (nI w), .ref 23]) (σ' := rdG 26 24 28 25 w (vR V 0) (lC V w) (rdL 26 27 24 V w τ)) rfl True.intro ?_
        refine rw_callSi hX (as := [.ref 13, .int (nI 1)]) (rest := [.int (nI w), .ref 23]) (c_pick _ _ _ 13 6 1 (by decide +kernel) (by omega) (by omega)) (by decide +kernel) msX9_pick (Or.inr lk8_52) rfl (by decide) (Nat.le_of_ble_eq_true rfl) rfl ?_
        intro r1 σ1 hr
        rw [hr.1, show r1 = nI (vR V 1) from hr.2.trans (by rw [rdG_n _ (by decide) (by decide), rdL_n _ (by decide) (by decide) (by decide), hR]; exact hN.1)]
        clear hr σ1 r1
        refine rw_callVv hX (as := [.int (nI w), .int (nI (vR V 1))]) (rest := []) (c_readPrints _ _ _ w (vR V 1) (gC V w) h4 (by unfold rdG; rw [sr_s, upd_s]; rfl) (by omega) (by omega) (by omega)) (by decide +kernel) mvX3_readPrints lk8_60 (ci := 2) rfl rfl rfl (by decide) (Nat.le_of_ble_eq_true rfl) rfl ?_
        intro σ1 hr
        rw [hr]
        clear hr σ1
        refine rw_go hX [(48, .iinc 2 1), (51, .goto (-49))] (by decide +kernel) (Ps := []) (pc' := 2) (lv' := [(0, .ref 22), (1, .ref 8), (2, .int (nI w + nI 1))]) (st' := []) (σ' := rd1 V w τ) rfl True.intro ?_
        refine rw_lsub (ks := [0, 1, 2]) (lv' := [(0, .ref 22), (1, .ref 8), (2, .int (nI w + nI 1))]) rfl ?_
        rw [nI_add]
        exact ih2 (5 - (w + 1)) (by omega) (w + 1) _ rfl (by omega) (fun v hv9 => by
          rcases Nat.lt_or_ge v w with g | g
          · exact rd1_no hv (by omega) h4 (by omega) (hd v g)
          · rw [show v = w by omega]; exact rd1_mk hv h4 τ) (fun k hk => (rd1_n V w τ hk).trans (hf k hk))
  refine rw_lsub (ks := [0, 1, 2]) (lv' := [(0, .ref 22), (1, .ref 8), (2, .int (nI 0))]) rfl ?_
  exact L2 5 0 σ rfl (by omega) (fun v hv9 => by omega) (fun _ _ => rfl)
set_option maxRecDepth 20000 in
set_option maxHeartbeats 4000000 in
theorem c_look_15 (l : Launch) (G : Gl) (σ : Mm) (V : Mm) (hV : vw σ (16) = V) (hv : wf V) : AMv l G 4 mX8_look [.ref 22, .ref 15] σ (fun σ' => LK V σ σ') := by
  refine rw_inV 8 (by decide +kernel) rfl rfl ?_
  intro E hE hX
  subst hE
  refine rw_go hX [(0, .iconst 0), (1, .istore_n 2)] (by decide +kernel) (Ps := []) (pc' := 2) (lv' := [(0, .ref 22), (1, .ref 15), (2, .int (nI 0))]) (st' := []) (σ' := σ) rfl True.intro ?_
  have L2 : ∀ (μ2 : Nat) (w : Nat) (τ : Mm), μ2 = 5 - w → (w ≤ 5) → (∀ v, v < w → RD V v τ) → (∀ k, k ∉ [24, 25, 26, 27, 28, 30] → τ k = σ k) → RW E G 4 3 (QV E G (fun σ' => LK V σ σ')) 2 [(0, .ref 22), (1, .ref 15), (2, .int (nI w))] [] τ := by
    intro μ2
    induction μ2 using Nat.strongRecOn with
    | ind μ2 ih2 =>
      intro w τ hμ2 hw hd hf
      have hVt : vw τ (16) = V := (vw_of (fun j hj => hf _ (by simp only [List.mem_cons, List.not_mem_nil, or_false]; omega))).trans hV
      have hR := vw_at hVt 4 (by omega)
      have hK := wf_K hv
      have hN := wf_N hv
      refine rw_go hX [(2, .iload_n 2), (3, .iconst 5)] (by decide +kernel) (Ps := []) (pc' := 4) (lv' := [(0, .ref 22), (1, .ref 15), (2, .int (nI w))]) (st' := [.int (nI 5), .int (nI w)]) (σ' := τ) rfl True.intro ?_
      refine rw_icmp hX (tgt := 54) (cnd := .ge) (off := 50) (by decide +kernel) (by decide) (fun h4 => ?_) (fun h4 => ?_)
      · replace h4 := c2_geT h4
        have hd5 : ∀ v, v < 5 → RD V v τ := fun v hv9 => hd v (by omega)
        refine rw_go hX [(54, .aload_n 0), (55, .getfield 21), (58, .aload_n 0), (59, .getfield 12), (62, .aload_n 1), (63, .getfield 47)] (by decide +kernel) (Ps := []) (pc' := 66) (lv' := [(0, .ref 22), (1, .ref 15), (2, .int (nI w))]) (st' := [.ref 20, .ref 23, .ref 31]) (σ' := τ) rfl True.intro ?_
        refine rw_callVv hX (as := [.ref 23, .ref 20]) (rest := []) (c_number _ _ _ 20 (vR V 0) (gC V) (by decide +kernel) (by decide) (by rw [hR]; exact hK.1) (fun w9 hw9 => ⟨(hd5 w9 hw9).2.1, (gC_50 hv hw9).1, hK.2.1⟩) (LK_M hd5)) (by decide +kernel) mvX0_number lk8_63 (ci := 0) rfl rfl rfl (by decide) (Nat.le_of_ble_eq_true rfl) rfl ?_
        intro σ1 hr
        obtain ⟨F, c, hr1, hr2⟩ := hr
        rw [hR] at hr1 hr2
        exact rw_vret hX (by decide +kernel) (LK_of hd5 hr1 hr2 hf)
      · replace h4 := c2_geF h4
        have hg5 := gC_50 hv h4
        have hl5 := lC_50 hv h4
        have hr1 := RLe_mk (rt := 26) (rp := 27) (rn := 24) (V := V) (w := w) τ (by decide) (by decide) (by decide) hv h4
        refine rw_go hX [(7, .aload_n 0), (8, .getfield 12), (11, .aload_n 1), (12, .iload_n 2)] (by decide +kernel) (Ps := []) (pc' := 13) (lv' := [(0, .ref 22), (1, .ref 15), (2, .int (nI w))]) (st' := [.int (nI w), .ref 15, .ref 23]) (σ' := τ) rfl True.intro ?_
        refine rw_callVv hX (as := [.ref 15, .int (nI w)]) (rest := []) (c_readLetters_15 _ _ _ V w hVt hv h4) (by decide +kernel) mvX3_readLetters lk8_43 (ci := 2) rfl rfl rfl (by decide) (Nat.le_of_ble_eq_true rfl) rfl ?_
        intro σ1 hr
        rw [hr]
        clear hr σ1
        refine rw_go hX [(16, .aload_n 0), (17, .getfield 12), (20, .iload_n 2), (21, .aload_n 1), (22, .getfield 47), (25, .iconst 0)] (by decide +kernel) (Ps := []) (pc' := 26) (lv' := [(0, .ref 22), (1, .ref 15), (2, .int (nI w))]) (st' := [.int (nI 0), .ref 20, .int (nI w), .ref 23]) (σ' := rdL 26 27 24 V w τ) rfl True.intro ?_
        refine rw_callSi hX (as := [.ref 20, .int (nI 0)]) (rest := [.int (nI w), .ref 23]) (c_pick _ _ _ 20 6 0 (by decide +kernel) (by omega) (by omega)) (by decide +kernel) msX9_pick (Or.inr lk8_52) rfl (by decide) (Nat.le_of_ble_eq_true rfl) rfl ?_
        intro r1 σ1 hr
        rw [hr.1, show r1 = nI (vR V 0) from hr.2.trans (by rw [rdL_n _ (by decide) (by decide) (by decide), hR]; exact hK.1)]
        clear hr σ1 r1
        refine rw_callVv hX (as := [.int (nI w), .int (nI (vR V 0))]) (rest := []) (c_readGrams _ _ _ w (vR V 0) (lC V w) h4 hr1.1 hl5 (by omega) (by omega)) (by decide +kernel) mvX3_readGrams lk8_56 (ci := 2) rfl rfl rfl (by decide) (Nat.le_of_ble_eq_true rfl) rfl ?_
        intro σ1 hr
        rw [hr]
        clear hr σ1
        refine rw_go hX [(32, .aload_n 0), (33, .getfield 12), (36, .iload_n 2), (37, .aload_n 1), (38, .getfield 47), (41, .iconst 1)] (by decide +kernel) (Ps := []) (pc' := 42) (lv' := [(0, .ref 22), (1, .ref 15), (2, .int (nI w))]) (st' := [.int (nI 1), .ref 20, .int (nI w), .ref 23]) (σ' := rdG 26 24 28 25 w (vR V 0) (lC V w) (rdL 26 27 24 V w τ)) rfl True.intro ?_
        refine rw_callSi hX (as := [.ref 20, .int (nI 1)]) (rest := [.int (nI w), .ref 23]) (c_pick _ _ _ 20 6 1 (by decide +kernel) (by omega) (by omega)) (by decide +kernel) msX9_pick (Or.inr lk8_52) rfl (by decide) (Nat.le_of_ble_eq_true rfl) rfl ?_
        intro r1 σ1 hr
        rw [hr.1, show r1 = nI (vR V 1) from hr.2.trans (by rw [rdG_n _ (by decide) (by decide), rdL_n _ (by decide) (by decide) (by decide), hR]; exact hN.1)]
        clear hr σ1 r1
        refine rw_callVv hX (as := [.int (nI w), .int (nI (vR V 1))]) (rest := []) (c_readPrints _ _ _ w (vR V 1) (gC V w) h4 (by unfold rdG; rw [sr_s, upd_s]; rfl) (by omega) (by omega) (by omega)) (by decide +kernel) mvX3_readPrints lk8_60 (ci := 2) rfl rfl rfl (by decide) (Nat.le_of_ble_eq_true rfl) rfl ?_
        intro σ1 hr
        rw [hr]
        clear hr σ1
        refine rw_go hX [(48, .iinc 2 1), (51, .goto (-49))] (by decide +kernel) (Ps := []) (pc' := 2) (lv' := [(0, .ref 22), (1, .ref 15), (2, .int (nI w + nI 1))]) (st' := []) (σ' := rd1 V w τ) rfl True.intro ?_
        refine rw_lsub (ks := [0, 1, 2]) (lv' := [(0, .ref 22), (1, .ref 15), (2, .int (nI w + nI 1))]) rfl ?_
        rw [nI_add]
        exact ih2 (5 - (w + 1)) (by omega) (w + 1) _ rfl (by omega) (fun v hv9 => by
          rcases Nat.lt_or_ge v w with g | g
          · exact rd1_no hv (by omega) h4 (by omega) (hd v g)
          · rw [show v = w by omega]; exact rd1_mk hv h4 τ) (fun k hk => (rd1_n V w τ hk).trans (hf k hk))
  refine rw_lsub (ks := [0, 1, 2]) (lv' := [(0, .ref 22), (1, .ref 15), (2, .int (nI 0))]) rfl ?_
  exact L2 5 0 σ rfl (by omega) (fun v hv9 => by omega) (fun _ _ => rfl)
theorem c_look (l : Launch) (G : Gl) (σ : Mm) (o : Nat) (ho : isO o) (V : Mm) (hV : vw σ ((o + 1)) = V) (hv : wf V) : AMv l G 4 mX8_look [.ref 22, .ref (o)] σ (fun σ' => LK V σ σ') := by
  rcases ho with rfl | rfl | rfl
  · exact c_look_1 l G σ V hV hv
  · exact c_look_8 l G σ V hV hv
  · exact c_look_15 l G σ V hV hv
