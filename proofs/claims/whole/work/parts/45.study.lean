/-! the study: two works compared, a work traced, grams counted, prints flagged -/
/-- what the study leaves as it was -/
def SQ (σ σ' : Mm) : Prop := ∀ k, k < 22 ∨ 60 < k → σ' k = σ k
theorem SQ.trans {σ τ υ : Mm} (h : SQ σ τ) (g : SQ τ υ) : SQ σ υ := fun k hk => (g k hk).trans (h k hk)
theorem SQ_rfl (σ : Mm) : SQ σ σ := fun _ _ => rfl
theorem SQ_of {σ σ' : Mm} {ks : List Nat} (h : ∀ k, k ∉ ks → σ' k = σ k) (g : ks.all (fun k => Nat.ble 22 k && Nat.ble k 60) = true) : SQ σ σ' := fun k hk => h k fun hm => by
  have := List.all_eq_true.mp g k hm
  simp only [Bool.and_eq_true, Nat.ble_eq] at this
  omega
theorem NI_of {σ σ' : Mm} {ks : List Nat} (h : ∀ k, k ∉ ks → σ' k = σ k) {js : List Nat} (g : js.all (fun j => !ks.contains j) = true) : ∀ k, k ∈ js → σ' k = σ k := fun k hk => h k fun hm => by
  have := List.all_eq_true.mp g k hk
  rw [List.contains_iff_mem.mpr hm] at this
  cases this
theorem LK_SN {V σ σ' : Mm} (h : LK V σ σ') : ∃ F, SN V σ' F ∧ ∀ f, f < F → σ' 37 f = nI 0 := by
  obtain ⟨F, hF, h0⟩ := LK_FX h
  exact ⟨F, ⟨h.1, hF⟩, h0⟩
theorem LK_SQ {V σ σ' : Mm} (h : LK V σ σ') : SQ σ σ' := SQ_of h.2.2.2 (by decide)
/-- number i of those that the spans tell: the letter -/
def tPi (s : Nat → Option Nat) (L i : Nat) : Nat := if i % 2 = 0 then spA s (i / 2) L else spZ s (i / 2) L
theorem spN_50 {s : Nat → Option Nat} {L : Nat} (h : L ≤ 50) : spN s L ≤ 50 := Nat.le_trans (spN_le s L) h
theorem tPi_lt {s : Nat → Option Nat} {L i : Nat} (h : i < 2 * spN s L) : tPi s L i < L := by
  unfold tPi
  split
  · exact (spA_in (by omega)).1
  · exact spZ_in (by omega)
noncomputable def cmB (V : Mm) (w : Nat) (b : Bool) (g : Nat) : Bool := (!b || PR V (50 * w + g)) && CM V (50 * w + g)
theorem PR_e {V σ : Mm} {F w g : Nat} (h : SN V σ F) (hw : w < 5) (hg : g < gC V w) : (decide (g < gC V w) && decide (σ 30 (50 * w + g) ≠ 0)) = PR V (50 * w + g) := by
  have q := ((h.1 w hw).2.2 g hg).2
  rw [decide_eq_true hg, Bool.true_and]
  cases z : PR V (50 * w + g) with
  | true => exact decide_eq_true (q.mpr z)
  | false => exact decide_eq_false (fun y => by rw [q.mp y] at z; cases z)
theorem spB_r (L : Nat) (σ : Mm) : spB L σ 53 2 = nI L ∧ (∀ i, i < 50 → spB L σ 54 i = nI 0 ∧ spB L σ 55 i = -(nI 1)) ∧ ∀ k, k ∉ [53, 54, 55] → spB L σ k = σ k := by
  refine ⟨?_, fun i hi => ⟨?_, ?_⟩, fun k hk => ?_⟩
  · unfold spB; rw [sr_n _ _ (by decide), sr_n _ _ (by decide), sw_eq]
  · unfold spB; rw [sr_n _ _ (by decide), sr_s]; exact if_pos ⟨Nat.zero_le _, hi⟩
  · unfold spB; rw [sr_s]; exact if_pos ⟨Nat.zero_le _, hi⟩
  · simp only [List.mem_cons, List.not_mem_nil, or_false, not_or] at hk
    unfold spB; rw [sr_n _ _ hk.2.2, sr_n _ _ hk.2.1, sw_ne _ _ _ hk.1]
set_option maxRecDepth 20000 in
set_option maxHeartbeats 4000000 in
theorem c_compare (l : Launch) (G : Gl) (σ : Mm) (V : Mm) (w v : Nat) (hV : vw σ 2 = V) (hv : wf V) (hw : w < 5) (hv5 : v < 5) : AMv l G 5 mX8_compare [.ref 22, .ref 1, .int (nI w), .int (nI v)] σ (fun σ' => (∃ F, SN V σ' F) ∧ MT (ML V w v (vR V 4)) σ' ∧ SQ σ σ') := by
  refine rw_inV 8 (by decide +kernel) rfl rfl ?_
  intro E hE hX
  subst hE
  refine rw_go hX [(0, .aload_n 0), (1, .aload_n 1)] (by decide +kernel) (Ps := []) (pc' := 2) (lv' := [(0, .ref 22), (1, .ref 1), (2, .int (nI w)), (3, .int (nI v))]) (st' := [.ref 1, .ref 22]) (σ' := σ) rfl True.intro ?_
  refine rw_callVv hX (as := [.ref 1]) (rest := []) (c_look_1 _ _ _ V hV hv) (by decide +kernel) mvX8_look lk8_67 (ci := 7) rfl rfl rfl (by decide) (Nat.le_of_ble_eq_true rfl) rfl ?_
  intro τ1 ht1
  obtain ⟨F, hS, -⟩ := LK_SN ht1
  have hq1 := LK_SQ ht1
  have hLs := wf_L hv
  refine rw_go hX [(5, .aload_n 0), (6, .getfield 28), (9, .aload_n 0), (10, .getfield 12), (13, .aload_n 0), (14, .getfield 21), (17, .iload_n 2), (18, .iload_n 3), (19, .aload_n 1), (20, .getfield 47), (23, .iconst 4)] (by decide +kernel) (Ps := []) (pc' := 24) (lv' := [(0, .ref 22), (1, .ref 1), (2, .int (nI w)), (3, .int (nI v))]) (st' := [.int (nI 4), .ref 6, .int (nI v), .int (nI w), .ref 31, .ref 23, .ref 39]) (σ' := τ1) rfl True.intro ?_
  refine rw_callSi hX (as := [.ref 6, .int (nI 4)]) (rest := [.int (nI v), .int (nI w), .ref 31, .ref 23, .ref 39]) (c_pick _ _ _ 6 6 4 (by decide +kernel) (by omega) (by omega)) (by decide +kernel) msX9_pick (Or.inr lk8_52) rfl (by decide) (Nat.le_of_ble_eq_true rfl) rfl ?_
  intro r1 σ1 hr
  rw [hr.1, show r1 = nI (vR V 4) from hr.2.trans ((congrFun (hq1 6 (by omega)) 4).trans ((congrFun (vw_at hV 4 (by omega)) 4).trans hLs.1))]
  clear hr σ1 r1
  refine rw_callVv hX (as := [.ref 23, .ref 31, .int (nI w), .int (nI v), .int (nI (vR V 4))]) (rest := []) (c_findV _ _ _ V F w v (vR V 4) hS hv hw hv5 (by omega)) (by decide +kernel) mvX2_find lk8_71 (ci := 1) rfl rfl rfl (by decide) (Nat.le_of_ble_eq_true rfl) rfl ?_
  intro τ2 ht2
  exact rw_vret hX (by decide +kernel) (⟨⟨F, SN_k hS (NI_of ht2.2 (by decide))⟩, ht2.1, hq1.trans (SQ_of ht2.2 (by decide))⟩)
set_option maxRecDepth 20000 in
set_option maxHeartbeats 4000000 in
theorem c_trace_1 (l : Launch) (G : Gl) (σ : Mm) (V : Mm) (w : Nat) (hV : vw σ (2) = V) (hv : wf V) (hw : w < 5) : AMv l G 5 mX8_trace [.ref 22, .ref 1, .int (nI w)] σ (fun σ' => (∃ F, SN V σ' F) ∧ TR V w σ' ∧ DV (sT V w (vR V 4)) (lC V w) σ' ∧ SQ σ σ') := by
  refine rw_inV 8 (by decide +kernel) rfl rfl ?_
  intro E hE hX
  subst hE
  refine rw_go hX [(0, .aload_n 0), (1, .aload_n 1)] (by decide +kernel) (Ps := []) (pc' := 2) (lv' := [(0, .ref 22), (1, .ref 1), (2, .int (nI w))]) (st' := [.ref 1, .ref 22]) (σ' := σ) rfl True.intro ?_
  refine rw_callVv hX (as := [.ref 1]) (rest := []) (c_look_1 _ _ _ V hV hv) (by decide +kernel) mvX8_look lk8_67 (ci := 7) rfl rfl rfl (by decide) (Nat.le_of_ble_eq_true rfl) rfl ?_
  intro τ1 ht1
  obtain ⟨F, hS, -⟩ := LK_SN ht1
  have hq1 := LK_SQ ht1
  have hLs := wf_L hv
  have hL5 := lC_50 hv hw
  have hRD := hS.1 w hw
  refine rw_go hX [(5, .aload_n 0), (6, .getfield 35), (9, .aload_n 0), (10, .getfield 12), (13, .iload_n 2)] (by decide +kernel) (Ps := []) (pc' := 14) (lv' := [(0, .ref 22), (1, .ref 1), (2, .int (nI w))]) (st' := [.int (nI w), .ref 23, .ref 53]) (σ' := τ1) rfl True.intro ?_
  refine rw_callVi hX (as := [.int (nI w)]) (rest := [.ref 53]) (c_letterCount _ _ _ w hw) (by decide +kernel) mvX3_letterCount lk8_75 (ci := 2) rfl rfl rfl (by decide) (Nat.le_of_ble_eq_true rfl) rfl ?_
  intro r1 σ1 hr
  rw [hr.1, show r1 = nI (lC V w) from hr.2.trans hRD.1.1]
  clear hr σ1 r1
  refine rw_callVv hX (as := [.int (nI (lC V w))]) (rest := []) (c_spBegin _ _ _ (lC V w) hL5) (by decide +kernel) mvX7_begin lk8_79 (ci := 6) rfl rfl rfl (by decide) (Nat.le_of_ble_eq_true rfl) rfl ?_
  intro σ1 hr
  rw [hr]
  clear hr σ1
  have hsb := spB_r (lC V w) τ1
  refine rw_go hX [(20, .iconst 0), (21, .istore_n 3)] (by decide +kernel) (Ps := []) (pc' := 22) (lv' := [(0, .ref 22), (1, .ref 1), (2, .int (nI w)), (3, .int (nI 0))]) (st' := []) (σ' := spB (lC V w) τ1) rfl True.intro ?_
  have L22 : ∀ (μ22 : Nat) (v : Nat) (τ : Mm), μ22 = 5 - v → (v ≤ 5) → (SN V τ F) → (τ 53 2 = nI (lC V w)) → ((∀ i, i < lC V w → τ 54 i = nI (pT V w v i).1 ∧ τ 55 i = en (pT V w v i).2)) → (SQ σ τ) → RW E G 5 4 (QV E G (fun σ' => (∃ F, SN V σ' F) ∧ TR V w σ' ∧ DV (sT V w (vR V 4)) (lC V w) σ' ∧ SQ σ σ')) 22 [(0, .ref 22), (1, .ref 1), (2, .int (nI w)), (3, .int (nI v))] [] τ := by
    intro μ22
    induction μ22 using Nat.strongRecOn with
    | ind μ22 ih22 =>
      intro v τ hμ22 hvi hSt h53 hT hq
      refine rw_go hX [(22, .iload_n 3), (23, .iconst 5)] (by decide +kernel) (Ps := []) (pc' := 24) (lv' := [(0, .ref 22), (1, .ref 1), (2, .int (nI w)), (3, .int (nI v))]) (st' := [.int (nI 5), .int (nI v)]) (σ' := τ) rfl True.intro ?_
      refine rw_icmp hX (tgt := 76) (cnd := .ge) (off := 52) (by decide +kernel) (by decide) (fun h24 => ?_) (fun h24 => ?_)
      · replace h24 := c2_geT h24
        have e5 : v = 5 := by omega
        have hTR : TR V w τ := ⟨h53, by rw [e5] at hT; exact hT⟩
        refine rw_go hX [(76, .aload_n 0), (77, .getfield 35), (80, .aload_n 1), (81, .getfield 47), (84, .iconst 4)] (by decide +kernel) (Ps := []) (pc' := 85) (lv' := [(0, .ref 22), (1, .ref 1), (2, .int (nI w)), (3, .int (nI v))]) (st' := [.int (nI 4), .ref 6, .ref 53]) (σ' := τ) rfl True.intro ?_
        refine rw_callSi hX (as := [.ref 6, .int (nI 4)]) (rest := [.ref 53]) (c_pick _ _ _ 6 6 4 (by decide +kernel) (by omega) (by omega)) (by decide +kernel) msX9_pick (Or.inr lk8_52) rfl (by decide) (Nat.le_of_ble_eq_true rfl) rfl ?_
        intro r1 σ1 hr
        rw [hr.1, show r1 = nI (vR V 4) from hr.2.trans ((congrFun (hq 6 (by omega)) 4).trans ((congrFun (vw_at hV 4 (by omega)) 4).trans hLs.1))]
        clear hr σ1 r1
        refine rw_callVv hX (as := [.int (nI (vR V 4))]) (rest := []) (c_divideV _ _ _ V w (vR V 4) hv hw (by omega) hTR) (by decide +kernel) mvX7_divide lk8_93 (ci := 6) rfl rfl rfl (by decide) (Nat.le_of_ble_eq_true rfl) rfl ?_
        intro τ4 ht4
        exact rw_vret hX (by decide +kernel) (⟨⟨F, SN_k hSt (NI_of ht4.2.2 (by decide))⟩, ht4.1, ht4.2.1, hq.trans (SQ_of ht4.2.2 (by decide))⟩)
      · replace h24 := c2_geF h24
        refine rw_go hX [(27, .iload_n 3), (28, .iload_n 2)] (by decide +kernel) (Ps := []) (pc' := 29) (lv' := [(0, .ref 22), (1, .ref 1), (2, .int (nI w)), (3, .int (nI v))]) (st' := [.int (nI w), .int (nI v)]) (σ' := τ) rfl True.intro ?_
        refine rw_icmp hX (tgt := 70) (cnd := .eq) (off := 41) (by decide +kernel) (by decide) (fun h29 => ?_) (fun h29 => ?_)
        · replace h29 := c2_eqT h29
          replace h29 : w = v := h29.symm
          refine rw_go hX [(70, .iinc 3 1), (73, .goto (-51))] (by decide +kernel) (Ps := []) (pc' := 22) (lv' := [(0, .ref 22), (1, .ref 1), (2, .int (nI w)), (3, .int (nI v + nI 1))]) (st' := []) (σ' := τ) rfl True.intro ?_
          refine rw_lsub (ks := [0, 1, 2, 3]) (lv' := [(0, .ref 22), (1, .ref 1), (2, .int (nI w)), (3, .int (nI v + nI 1))]) rfl ?_
          rw [nI_add]
          rw [show pT V w v = pT V w (v + 1) from (if_pos h29.symm).symm] at hT
          exact ih22 (5 - (v + 1)) (by omega) (v + 1) _ rfl (by omega) hSt h53 hT hq
        · replace h29 := c2_eqF h29
          replace h29 : ¬ w = v := fun z => h29 z.symm
          refine rw_go hX [(32, .aload_n 0), (33, .getfield 28), (36, .aload_n 0), (37, .getfield 12), (40, .aload_n 0), (41, .getfield 21), (44, .iload_n 2), (45, .iload_n 3), (46, .getstatic 83), (49, .iconst 4), (50, .iaload)] (by decide +kernel) (Ps := [vp_in (nI 4) 6]) (pc' := 51) (lv' := [(0, .ref 22), (1, .ref 1), (2, .int (nI w)), (3, .int (nI v))]) (st' := [.int ((stL 1).getD (nI 4).toNatClampNeg 0), .int (nI v), .int (nI w), .ref 31, .ref 23, .ref 39]) (σ' := τ) rfl (vp_in_nI (by omega) (by omega)) ?_
          rw [show ((stL 1).getD (nI 4).toNatClampNeg 0) = nI 1 from (by decide +kernel)]
          refine rw_callVv hX (as := [.ref 23, .ref 31, .int (nI w), .int (nI v), .int (nI 1)]) (rest := []) (c_findV _ _ _ V F w v 1 hSt hv hw h24 (by omega)) (by decide +kernel) mvX2_find lk8_71 (ci := 1) rfl rfl rfl (by decide) (Nat.le_of_ble_eq_true rfl) rfl ?_
          intro τ2 ht2
          have hSt2 := SN_k hSt (NI_of ht2.2 (by decide))
          have hq2 := hq.trans (SQ_of ht2.2 (by decide))
          have h53b : τ2 53 2 = nI (lC V w) := (congrFun (ht2.2 53 (by decide)) 2).trans h53
          have hMl : (ML V w v 1).length ≤ 840 := by have := mLa_833 hv 1 hw h24 (lC V w) (Nat.le_refl _); unfold ML; omega
          have hDay : τ2 5 = V 3 := (hq2 5 (by omega)).trans (vw_at hV 3 (by omega))
          refine rw_go hX [(54, .aload_n 0), (55, .getfield 35), (58, .aload_n 0), (59, .getfield 28), (62, .iload_n 3), (63, .aload_n 1), (64, .getfield 86)] (by decide +kernel) (Ps := []) (pc' := 67) (lv' := [(0, .ref 22), (1, .ref 1), (2, .int (nI w)), (3, .int (nI v))]) (st' := [.ref 5, .int (nI v), .ref 39, .ref 53]) (σ' := τ2) rfl True.intro ?_
          refine rw_callVv hX (as := [.ref 39, .int (nI v), .ref 5]) (rest := []) (c_offer _ _ _ (ML V w v 1).length (lC V w) v 5 (mB (ML V w v 1)) (mG (ML V w v 1)) (pT V w v) (by decide +kernel) (by decide) h24 ht2.1.1 hMl (fun x hx => ⟨(ht2.1.2 x hx).1, (ML_at hv hw h24 hx).2.2.2.1⟩) (fun x hx => ⟨(ht2.1.2 x hx).2.2.1, (ML_at hv hw h24 hx).2.2.2.2.2⟩) h53b hL5 ⟨fun i hi => by rw [ht2.2 54 (by decide), ht2.2 55 (by decide)]; exact hT i hi, fun k _ _ => rfl⟩ (fun i hi => pT_b hv hw i v (by omega))) (by decide +kernel) mvX7_offer lk8_89 (ci := 6) rfl rfl rfl (by decide) (Nat.le_of_ble_eq_true rfl) rfl ?_
          intro τ3 ht3
          refine rw_go hX [(70, .iinc 3 1), (73, .goto (-51))] (by decide +kernel) (Ps := []) (pc' := 22) (lv' := [(0, .ref 22), (1, .ref 1), (2, .int (nI w)), (3, .int (nI v + nI 1))]) (st' := []) (σ' := τ3) rfl True.intro ?_
          refine rw_lsub (ks := [0, 1, 2, 3]) (lv' := [(0, .ref 22), (1, .ref 1), (2, .int (nI w)), (3, .int (nI v + nI 1))]) rfl ?_
          rw [nI_add]
          exact ih22 (5 - (v + 1)) (by omega) (v + 1) _ rfl (by omega) (SN_k hSt2 (fun k hk => ht3.2 k (by simp only [List.mem_cons, List.not_mem_nil, or_false] at hk; omega) (by simp only [List.mem_cons, List.not_mem_nil, or_false] at hk; omega))) ((congrFun (ht3.2 53 (by decide) (by decide)) 2).trans h53b) (by rw [pT_n V (fun z => h29 z.symm)]; rw [hDay] at ht3; exact ht3.1) (hq2.trans (SQ_of (ks := [54, 55]) (fun k hk => ht3.2 k (by simp only [List.mem_cons, List.not_mem_nil, or_false, not_or] at hk; exact hk.1) (by simp only [List.mem_cons, List.not_mem_nil, or_false, not_or] at hk; exact hk.2)) (by decide)))
  refine rw_lsub (ks := [0, 1, 2, 3]) (lv' := [(0, .ref 22), (1, .ref 1), (2, .int (nI w)), (3, .int (nI 0))]) rfl ?_
  exact L22 5 0 _ rfl (by omega) (SN_k hS (NI_of hsb.2.2 (by decide))) hsb.1 (fun i hi => hsb.2.1 i (by omega)) (hq1.trans (SQ_of hsb.2.2 (by decide)))
set_option maxRecDepth 20000 in
set_option maxHeartbeats 4000000 in
theorem c_trace_8 (l : Launch) (G : Gl) (σ : Mm) (V : Mm) (w : Nat) (hV : vw σ (9) = V) (hv : wf V) (hw : w < 5) : AMv l G 5 mX8_trace [.ref 22, .ref 8, .int (nI w)] σ (fun σ' => (∃ F, SN V σ' F) ∧ TR V w σ' ∧ DV (sT V w (vR V 4)) (lC V w) σ' ∧ SQ σ σ') := by
  refine rw_inV 8 (by decide +kernel) rfl rfl ?_
  intro E hE hX
  subst hE
  refine rw_go hX [(0, .aload_n 0), (1, .aload_n 1)] (by decide +kernel) (Ps := []) (pc' := 2) (lv' := [(0, .ref 22), (1, .ref 8), (2, .int (nI w))]) (st' := [.ref 8, .ref 22]) (σ' := σ) rfl True.intro ?_
  refine rw_callVv hX (as := [.ref 8]) (rest := []) (c_look_8 _ _ _ V hV hv) (by decide +kernel) mvX8_look lk8_67 (ci := 7) rfl rfl rfl (by decide) (Nat.le_of_ble_eq_true rfl) rfl ?_
  intro τ1 ht1
  obtain ⟨F, hS, -⟩ := LK_SN ht1
  have hq1 := LK_SQ ht1
  have hLs := wf_L hv
  have hL5 := lC_50 hv hw
  have hRD := hS.1 w hw
  refine rw_go hX [(5, .aload_n 0), (6, .getfield 35), (9, .aload_n 0), (10, .getfield 12), (13, .iload_n 2)] (by decide +kernel) (Ps := []) (pc' := 14) (lv' := [(0, .ref 22), (1, .ref 8), (2, .int (nI w))]) (st' := [.int (nI w), .ref 23, .ref 53]) (σ' := τ1) rfl True.intro ?_
  refine rw_callVi hX (as := [.int (nI w)]) (rest := [.ref 53]) (c_letterCount _ _ _ w hw) (by decide +kernel) mvX3_letterCount lk8_75 (ci := 2) rfl rfl rfl (by decide) (Nat.le_of_ble_eq_true rfl) rfl ?_
  intro r1 σ1 hr
  rw [hr.1, show r1 = nI (lC V w) from hr.2.trans hRD.1.1]
  clear hr σ1 r1
  refine rw_callVv hX (as := [.int (nI (lC V w))]) (rest := []) (c_spBegin _ _ _ (lC V w) hL5) (by decide +kernel) mvX7_begin lk8_79 (ci := 6) rfl rfl rfl (by decide) (Nat.le_of_ble_eq_true rfl) rfl ?_
  intro σ1 hr
  rw [hr]
  clear hr σ1
  have hsb := spB_r (lC V w) τ1
  refine rw_go hX [(20, .iconst 0), (21, .istore_n 3)] (by decide +kernel) (Ps := []) (pc' := 22) (lv' := [(0, .ref 22), (1, .ref 8), (2, .int (nI w)), (3, .int (nI 0))]) (st' := []) (σ' := spB (lC V w) τ1) rfl True.intro ?_
  have L22 : ∀ (μ22 : Nat) (v : Nat) (τ : Mm), μ22 = 5 - v → (v ≤ 5) → (SN V τ F) → (τ 53 2 = nI (lC V w)) → ((∀ i, i < lC V w → τ 54 i = nI (pT V w v i).1 ∧ τ 55 i = en (pT V w v i).2)) → (SQ σ τ) → RW E G 5 4 (QV E G (fun σ' => (∃ F, SN V σ' F) ∧ TR V w σ' ∧ DV (sT V w (vR V 4)) (lC V w) σ' ∧ SQ σ σ')) 22 [(0, .ref 22), (1, .ref 8), (2, .int (nI w)), (3, .int (nI v))] [] τ := by
    intro μ22
    induction μ22 using Nat.strongRecOn with
    | ind μ22 ih22 =>
      intro v τ hμ22 hvi hSt h53 hT hq
      refine rw_go hX [(22, .iload_n 3), (23, .iconst 5)] (by decide +kernel) (Ps := []) (pc' := 24) (lv' := [(0, .ref 22), (1, .ref 8), (2, .int (nI w)), (3, .int (nI v))]) (st' := [.int (nI 5), .int (nI v)]) (σ' := τ) rfl True.intro ?_
      refine rw_icmp hX (tgt := 76) (cnd := .ge) (off := 52) (by decide +kernel) (by decide) (fun h24 => ?_) (fun h24 => ?_)
      · replace h24 := c2_geT h24
        have e5 : v = 5 := by omega
        have hTR : TR V w τ := ⟨h53, by rw [e5] at hT; exact hT⟩
        refine rw_go hX [(76, .aload_n 0), (77, .getfield 35), (80, .aload_n 1), (81, .getfield 47), (84, .iconst 4)] (by decide +kernel) (Ps := []) (pc' := 85) (lv' := [(0, .ref 22), (1, .ref 8), (2, .int (nI w)), (3, .int (nI v))]) (st' := [.int (nI 4), .ref 13, .ref 53]) (σ' := τ) rfl True.intro ?_
        refine rw_callSi hX (as := [.ref 13, .int (nI 4)]) (rest := [.ref 53]) (c_pick _ _ _ 13 6 4 (by decide +kernel) (by omega) (by omega)) (by decide +kernel) msX9_pick (Or.inr lk8_52) rfl (by decide) (Nat.le_of_ble_eq_true rfl) rfl ?_
        intro r1 σ1 hr
        rw [hr.1, show r1 = nI (vR V 4) from hr.2.trans ((congrFun (hq 13 (by omega)) 4).trans ((congrFun (vw_at hV 4 (by omega)) 4).trans hLs.1))]
        clear hr σ1 r1
        refine rw_callVv hX (as := [.int (nI (vR V 4))]) (rest := []) (c_divideV _ _ _ V w (vR V 4) hv hw (by omega) hTR) (by decide +kernel) mvX7_divide lk8_93 (ci := 6) rfl rfl rfl (by decide) (Nat.le_of_ble_eq_true rfl) rfl ?_
        intro τ4 ht4
        exact rw_vret hX (by decide +kernel) (⟨⟨F, SN_k hSt (NI_of ht4.2.2 (by decide))⟩, ht4.1, ht4.2.1, hq.trans (SQ_of ht4.2.2 (by decide))⟩)
      · replace h24 := c2_geF h24
        refine rw_go hX [(27, .iload_n 3), (28, .iload_n 2)] (by decide +kernel) (Ps := []) (pc' := 29) (lv' := [(0, .ref 22), (1, .ref 8), (2, .int (nI w)), (3, .int (nI v))]) (st' := [.int (nI w), .int (nI v)]) (σ' := τ) rfl True.intro ?_
        refine rw_icmp hX (tgt := 70) (cnd := .eq) (off := 41) (by decide +kernel) (by decide) (fun h29 => ?_) (fun h29 => ?_)
        · replace h29 := c2_eqT h29
          replace h29 : w = v := h29.symm
          refine rw_go hX [(70, .iinc 3 1), (73, .goto (-51))] (by decide +kernel) (Ps := []) (pc' := 22) (lv' := [(0, .ref 22), (1, .ref 8), (2, .int (nI w)), (3, .int (nI v + nI 1))]) (st' := []) (σ' := τ) rfl True.intro ?_
          refine rw_lsub (ks := [0, 1, 2, 3]) (lv' := [(0, .ref 22), (1, .ref 8), (2, .int (nI w)), (3, .int (nI v + nI 1))]) rfl ?_
          rw [nI_add]
          rw [show pT V w v = pT V w (v + 1) from (if_pos h29.symm).symm] at hT
          exact ih22 (5 - (v + 1)) (by omega) (v + 1) _ rfl (by omega) hSt h53 hT hq
        · replace h29 := c2_eqF h29
          replace h29 : ¬ w = v := fun z => h29 z.symm
          refine rw_go hX [(32, .aload_n 0), (33, .getfield 28), (36, .aload_n 0), (37, .getfield 12), (40, .aload_n 0), (41, .getfield 21), (44, .iload_n 2), (45, .iload_n 3), (46, .getstatic 83), (49, .iconst 4), (50, .iaload)] (by decide +kernel) (Ps := [vp_in (nI 4) 6]) (pc' := 51) (lv' := [(0, .ref 22), (1, .ref 8), (2, .int (nI w)), (3, .int (nI v))]) (st' := [.int ((stL 1).getD (nI 4).toNatClampNeg 0), .int (nI v), .int (nI w), .ref 31, .ref 23, .ref 39]) (σ' := τ) rfl (vp_in_nI (by omega) (by omega)) ?_
          rw [show ((stL 1).getD (nI 4).toNatClampNeg 0) = nI 1 from (by decide +kernel)]
          refine rw_callVv hX (as := [.ref 23, .ref 31, .int (nI w), .int (nI v), .int (nI 1)]) (rest := []) (c_findV _ _ _ V F w v 1 hSt hv hw h24 (by omega)) (by decide +kernel) mvX2_find lk8_71 (ci := 1) rfl rfl rfl (by decide) (Nat.le_of_ble_eq_true rfl) rfl ?_
          intro τ2 ht2
          have hSt2 := SN_k hSt (NI_of ht2.2 (by decide))
          have hq2 := hq.trans (SQ_of ht2.2 (by decide))
          have h53b : τ2 53 2 = nI (lC V w) := (congrFun (ht2.2 53 (by decide)) 2).trans h53
          have hMl : (ML V w v 1).length ≤ 840 := by have := mLa_833 hv 1 hw h24 (lC V w) (Nat.le_refl _); unfold ML; omega
          have hDay : τ2 12 = V 3 := (hq2 12 (by omega)).trans (vw_at hV 3 (by omega))
          refine rw_go hX [(54, .aload_n 0), (55, .getfield 35), (58, .aload_n 0), (59, .getfield 28), (62, .iload_n 3), (63, .aload_n 1), (64, .getfield 86)] (by decide +kernel) (Ps := []) (pc' := 67) (lv' := [(0, .ref 22), (1, .ref 8), (2, .int (nI w)), (3, .int (nI v))]) (st' := [.ref 12, .int (nI v), .ref 39, .ref 53]) (σ' := τ2) rfl True.intro ?_
          refine rw_callVv hX (as := [.ref 39, .int (nI v), .ref 12]) (rest := []) (c_offer _ _ _ (ML V w v 1).length (lC V w) v 12 (mB (ML V w v 1)) (mG (ML V w v 1)) (pT V w v) (by decide +kernel) (by decide) h24 ht2.1.1 hMl (fun x hx => ⟨(ht2.1.2 x hx).1, (ML_at hv hw h24 hx).2.2.2.1⟩) (fun x hx => ⟨(ht2.1.2 x hx).2.2.1, (ML_at hv hw h24 hx).2.2.2.2.2⟩) h53b hL5 ⟨fun i hi => by rw [ht2.2 54 (by decide), ht2.2 55 (by decide)]; exact hT i hi, fun k _ _ => rfl⟩ (fun i hi => pT_b hv hw i v (by omega))) (by decide +kernel) mvX7_offer lk8_89 (ci := 6) rfl rfl rfl (by decide) (Nat.le_of_ble_eq_true rfl) rfl ?_
          intro τ3 ht3
          refine rw_go hX [(70, .iinc 3 1), (73, .goto (-51))] (by decide +kernel) (Ps := []) (pc' := 22) (lv' := [(0, .ref 22), (1, .ref 8), (2, .int (nI w)), (3, .int (nI v + nI 1))]) (st' := []) (σ' := τ3) rfl True.intro ?_
          refine rw_lsub (ks := [0, 1, 2, 3]) (lv' := [(0, .ref 22), (1, .ref 8), (2, .int (nI w)), (3, .int (nI v + nI 1))]) rfl ?_
          rw [nI_add]
          exact ih22 (5 - (v + 1)) (by omega) (v + 1) _ rfl (by omega) (SN_k hSt2 (fun k hk => ht3.2 k (by simp only [List.mem_cons, List.not_mem_nil, or_false] at hk; omega) (by simp only [List.mem_cons, List.not_mem_nil, or_false] at hk; omega))) ((congrFun (ht3.2 53 (by decide) (by decide)) 2).trans h53b) (by rw [pT_n V (fun z => h29 z.symm)]; rw [hDay] at ht3; exact ht3.1) (hq2.trans (SQ_of (ks := [54, 55]) (fun k hk => ht3.2 k (by simp only [List.mem_cons, List.not_mem_nil, or_false, not_or] at hk; exact hk.1) (by simp only [List.mem_cons, List.not_mem_nil, or_false, not_or] at hk; exact hk.2)) (by decide)))
  refine rw_lsub (ks := [0, 1, 2, 3]) (lv' := [(0, .ref 22), (1, .ref 8), (2, .int (nI w)), (3, .int (nI 0))]) rfl ?_
  exact L22 5 0 _ rfl (by omega) (SN_k hS (NI_of hsb.2.2 (by decide))) hsb.1 (fun i hi => hsb.2.1 i (by omega)) (hq1.trans (SQ_of hsb.2.2 (by decide)))
set_option maxRecDepth 20000 in
set_option maxHeartbeats 4000000 in
theorem c_trace_15 (l : Launch) (G : Gl) (σ : Mm) (V : Mm) (w : Nat) (hV : vw σ (16) = V) (hv : wf V) (hw : w < 5) : AMv l G 5 mX8_trace [.ref 22, .ref 15, .int (nI w)] σ (fun σ' => (∃ F, SN V σ' F) ∧ TR V w σ' ∧ DV (sT V w (vR V 4)) (lC V w) σ' ∧ SQ σ σ') := by
  refine rw_inV 8 (by decide +kernel) rfl rfl ?_
  intro E hE hX
  subst hE
  refine rw_go hX [(0, .aload_n 0), (1, .aload_n 1)] (by decide +kernel) (Ps := []) (pc' := 2) (lv' := [(0, .ref 22), (1, .ref 15), (2, .int (nI w))]) (st' := [.ref 15, .ref 22]) (σ' := σ) rfl True.intro ?_
  refine rw_callVv hX (as := [.ref 15]) (rest := []) (c_look_15 _ _ _ V hV hv) (by decide +kernel) mvX8_look lk8_67 (ci := 7) rfl rfl rfl (by decide) (Nat.le_of_ble_eq_true rfl) rfl ?_
  intro τ1 ht1
  obtain ⟨F, hS, -⟩ := LK_SN ht1
  have hq1 := LK_SQ ht1
  have hLs := wf_L hv
  have hL5 := lC_50 hv hw
  have hRD := hS.1 w hw
  refine rw_go hX [(5, .aload_n 0), (6, .getfield 35), (9, .aload_n 0), (10, .getfield 12), (13, .iload_n 2)] (by decide +kernel) (Ps := []) (pc' := 14) (lv' := [(0, .ref 22), (1, .ref 15), (2, .int (nI w))]) (st' := [.int (nI w), .ref 23, .ref 53]) (σ' := τ1) rfl True.intro ?_
  refine rw_callVi hX (as := [.int (nI w)]) (rest := [.ref 53]) (c_letterCount _ _ _ w hw) (by decide +kernel) mvX3_letterCount lk8_75 (ci := 2) rfl rfl rfl (by decide) (Nat.le_of_ble_eq_true rfl) rfl ?_
  intro r1 σ1 hr
  rw [hr.1, show r1 = nI (lC V w) from hr.2.trans hRD.1.1]
  clear hr σ1 r1
  refine rw_callVv hX (as := [.int (nI (lC V w))]) (rest := []) (c_spBegin _ _ _ (lC V w) hL5) (by decide +kernel) mvX7_begin lk8_79 (ci := 6) rfl rfl rfl (by decide) (Nat.le_of_ble_eq_true rfl) rfl ?_
  intro σ1 hr
  rw [hr]
  clear hr σ1
  have hsb := spB_r (lC V w) τ1
  refine rw_go hX [(20, .iconst 0), (21, .istore_n 3)] (by decide +kernel) (Ps := []) (pc' := 22) (lv' := [(0, .ref 22), (1, .ref 15), (2, .int (nI w)), (3, .int (nI 0))]) (st' := []) (σ' := spB (lC V w) τ1) rfl True.intro ?_
  have L22 : ∀ (μ22 : Nat) (v : Nat) (τ : Mm), μ22 = 5 - v → (v ≤ 5) → (SN V τ F) → (τ 53 2 = nI (lC V w)) → ((∀ i, i < lC V w → τ 54 i = nI (pT V w v i).1 ∧ τ 55 i = en (pT V w v i).2)) → (SQ σ τ) → RW E G 5 4 (QV E G (fun σ' => (∃ F, SN V σ' F) ∧ TR V w σ' ∧ DV (sT V w (vR V 4)) (lC V w) σ' ∧ SQ σ σ')) 22 [(0, .ref 22), (1, .ref 15), (2, .int (nI w)), (3, .int (nI v))] [] τ := by
    intro μ22
    induction μ22 using Nat.strongRecOn with
    | ind μ22 ih22 =>
      intro v τ hμ22 hvi hSt h53 hT hq
      refine rw_go hX [(22, .iload_n 3), (23, .iconst 5)] (by decide +kernel) (Ps := []) (pc' := 24) (lv' := [(0, .ref 22), (1, .ref 15), (2, .int (nI w)), (3, .int (nI v))]) (st' := [.int (nI 5), .int (nI v)]) (σ' := τ) rfl True.intro ?_
      refine rw_icmp hX (tgt := 76) (cnd := .ge) (off := 52) (by decide +kernel) (by decide) (fun h24 => ?_) (fun h24 => ?_)
      · replace h24 := c2_geT h24
        have e5 : v = 5 := by omega
        have hTR : TR V w τ := ⟨h53, by rw [e5] at hT; exact hT⟩
        refine rw_go hX [(76, .aload_n 0), (77, .getfield 35), (80, .aload_n 1), (81, .getfield 47), (84, .iconst 4)] (by decide +kernel) (Ps := []) (pc' := 85) (lv' := [(0, .ref 22), (1, .ref 15), (2, .int (nI w)), (3, .int (nI v))]) (st' := [.int (nI 4), .ref 20, .ref 53]) (σ' := τ) rfl True.intro ?_
        refine rw_callSi hX (as := [.ref 20, .int (nI 4)]) (rest := [.ref 53]) (c_pick _ _ _ 20 6 4 (by decide +kernel) (by omega) (by omega)) (by decide +kernel) msX9_pick (Or.inr lk8_52) rfl (by decide) (Nat.le_of_ble_eq_true rfl) rfl ?_
        intro r1 σ1 hr
        rw [hr.1, show r1 = nI (vR V 4) from hr.2.trans ((congrFun (hq 20 (by omega)) 4).trans ((congrFun (vw_at hV 4 (by omega)) 4).trans hLs.1))]
        clear hr σ1 r1
        refine rw_callVv hX (as := [.int (nI (vR V 4))]) (rest := []) (c_divideV _ _ _ V w (vR V 4) hv hw (by omega) hTR) (by decide +kernel) mvX7_divide lk8_93 (ci := 6) rfl rfl rfl (by decide) (Nat.le_of_ble_eq_true rfl) rfl ?_
        intro τ4 ht4
        exact rw_vret hX (by decide +kernel) (⟨⟨F, SN_k hSt (NI_of ht4.2.2 (by decide))⟩, ht4.1, ht4.2.1, hq.trans (SQ_of ht4.2.2 (by decide))⟩)
      · replace h24 := c2_geF h24
        refine rw_go hX [(27, .iload_n 3), (28, .iload_n 2)] (by decide +kernel) (Ps := []) (pc' := 29) (lv' := [(0, .ref 22), (1, .ref 15), (2, .int (nI w)), (3, .int (nI v))]) (st' := [.int (nI w), .int (nI v)]) (σ' := τ) rfl True.intro ?_
        refine rw_icmp hX (tgt := 70) (cnd := .eq) (off := 41) (by decide +kernel) (by decide) (fun h29 => ?_) (fun h29 => ?_)
        · replace h29 := c2_eqT h29
          replace h29 : w = v := h29.symm
          refine rw_go hX [(70, .iinc 3 1), (73, .goto (-51))] (by decide +kernel) (Ps := []) (pc' := 22) (lv' := [(0, .ref 22), (1, .ref 15), (2, .int (nI w)), (3, .int (nI v + nI 1))]) (st' := []) (σ' := τ) rfl True.intro ?_
          refine rw_lsub (ks := [0, 1, 2, 3]) (lv' := [(0, .ref 22), (1, .ref 15), (2, .int (nI w)), (3, .int (nI v + nI 1))]) rfl ?_
          rw [nI_add]
          rw [show pT V w v = pT V w (v + 1) from (if_pos h29.symm).symm] at hT
          exact ih22 (5 - (v + 1)) (by omega) (v + 1) _ rfl (by omega) hSt h53 hT hq
        · replace h29 := c2_eqF h29
          replace h29 : ¬ w = v := fun z => h29 z.symm
          refine rw_go hX [(32, .aload_n 0), (33, .getfield 28), (36, .aload_n 0), (37, .getfield 12), (40, .aload_n 0), (41, .getfield 21), (44, .iload_n 2), (45, .iload_n 3), (46, .getstatic 83), (49, .iconst 4), (50, .iaload)] (by decide +kernel) (Ps := [vp_in (nI 4) 6]) (pc' := 51) (lv' := [(0, .ref 22), (1, .ref 15), (2, .int (nI w)), (3, .int (nI v))]) (st' := [.int ((stL 1).getD (nI 4).toNatClampNeg 0), .int (nI v), .int (nI w), .ref 31, .ref 23, .ref 39]) (σ' := τ) rfl (vp_in_nI (by omega) (by omega)) ?_
          rw [show ((stL 1).getD (nI 4).toNatClampNeg 0) = nI 1 from (by decide +kernel)]
          refine rw_callVv hX (as := [.ref 23, .ref 31, .int (nI w), .int (nI v), .int (nI 1)]) (rest := []) (c_findV _ _ _ V F w v 1 hSt hv hw h24 (by omega)) (by decide +kernel) mvX2_find lk8_71 (ci := 1) rfl rfl rfl (by decide) (Nat.le_of_ble_eq_true rfl) rfl ?_
          intro τ2 ht2
          have hSt2 := SN_k hSt (NI_of ht2.2 (by decide))
          have hq2 := hq.trans (SQ_of ht2.2 (by decide))
          have h53b : τ2 53 2 = nI (lC V w) := (congrFun (ht2.2 53 (by decide)) 2).trans h53
          have hMl : (ML V w v 1).length ≤ 840 := by have := mLa_833 hv 1 hw h24 (lC V w) (Nat.le_refl _); unfold ML; omega
          have hDay : τ2 19 = V 3 := (hq2 19 (by omega)).trans (vw_at hV 3 (by omega))
          refine rw_go hX [(54, .aload_n 0), (55, .getfield 35), (58, .aload_n 0), (59, .getfield 28), (62, .iload_n 3), (63, .aload_n 1), (64, .getfield 86)] (by decide +kernel) (Ps := []) (pc' := 67) (lv' := [(0, .ref 22), (1, .ref 15), (2, .int (nI w)), (3, .int (nI v))]) (st' := [.ref 19, .int (nI v), .ref 39, .ref 53]) (σ' := τ2) rfl True.intro ?_
          refine rw_callVv hX (as := [.ref 39, .int (nI v), .ref 19]) (rest := []) (c_offer _ _ _ (ML V w v 1).length (lC V w) v 19 (mB (ML V w v 1)) (mG (ML V w v 1)) (pT V w v) (by decide +kernel) (by decide) h24 ht2.1.1 hMl (fun x hx => ⟨(ht2.1.2 x hx).1, (ML_at hv hw h24 hx).2.2.2.1⟩) (fun x hx => ⟨(ht2.1.2 x hx).2.2.1, (ML_at hv hw h24 hx).2.2.2.2.2⟩) h53b hL5 ⟨fun i hi => by rw [ht2.2 54 (by decide), ht2.2 55 (by decide)]; exact hT i hi, fun k _ _ => rfl⟩ (fun i hi => pT_b hv hw i v (by omega))) (by decide +kernel) mvX7_offer lk8_89 (ci := 6) rfl rfl rfl (by decide) (Nat.le_of_ble_eq_true rfl) rfl ?_
          intro τ3 ht3
          refine rw_go hX [(70, .iinc 3 1), (73, .goto (-51))] (by decide +kernel) (Ps := []) (pc' := 22) (lv' := [(0, .ref 22), (1, .ref 15), (2, .int (nI w)), (3, .int (nI v + nI 1))]) (st' := []) (σ' := τ3) rfl True.intro ?_
          refine rw_lsub (ks := [0, 1, 2, 3]) (lv' := [(0, .ref 22), (1, .ref 15), (2, .int (nI w)), (3, .int (nI v + nI 1))]) rfl ?_
          rw [nI_add]
          exact ih22 (5 - (v + 1)) (by omega) (v + 1) _ rfl (by omega) (SN_k hSt2 (fun k hk => ht3.2 k (by simp only [List.mem_cons, List.not_mem_nil, or_false] at hk; omega) (by simp only [List.mem_cons, List.not_mem_nil, or_false] at hk; omega))) ((congrFun (ht3.2 53 (by decide) (by decide)) 2).trans h53b) (by rw [pT_n V (fun z => h29 z.symm)]; rw [hDay] at ht3; exact ht3.1) (hq2.trans (SQ_of (ks := [54, 55]) (fun k hk => ht3.2 k (by simp only [List.mem_cons, List.not_mem_nil, or_false, not_or] at hk; exact hk.1) (by simp only [List.mem_cons, List.not_mem_nil, or_false, not_or] at hk; exact hk.2)) (by decide)))
  refine rw_lsub (ks := [0, 1, 2, 3]) (lv' := [(0, .ref 22), (1, .ref 15), (2, .int (nI w)), (3, .int (nI 0))]) rfl ?_
  exact L22 5 0 _ rfl (by omega) (SN_k hS (NI_of hsb.2.2 (by decide))) hsb.1 (fun i hi => hsb.2.1 i (by omega)) (hq1.trans (SQ_of hsb.2.2 (by decide)))
theorem c_trace (l : Launch) (G : Gl) (σ : Mm) (o : Nat) (ho : isO o) (V : Mm) (w : Nat) (hV : vw σ ((o + 1)) = V) (hv : wf V) (hw : w < 5) : AMv l G 5 mX8_trace [.ref 22, .ref (o), .int (nI w)] σ (fun σ' => (∃ F, SN V σ' F) ∧ TR V w σ' ∧ DV (sT V w (vR V 4)) (lC V w) σ' ∧ SQ σ σ') := by
  rcases ho with rfl | rfl | rfl
  · exact c_trace_1 l G σ V w hV hv hw
  · exact c_trace_8 l G σ V w hV hv hw
  · exact c_trace_15 l G σ V w hV hv hw
set_option maxRecDepth 20000 in
set_option maxHeartbeats 4000000 in
theorem c_toldPlace (l : Launch) (G : Gl) (σ : Mm) (V : Mm) (s : Nat → Option Nat) (w i : Nat) (hv : wf V) (hw : w < 5) (hD : DV s (lC V w) σ) (hR : RD V w σ) (hi : i < 2 * spN s (lC V w)) : AMi l G 2 mX8_toldPlace [.ref 22, .int (nI w), .int (nI i)] σ (fun r σ' => σ' = σ ∧ r = nI (PL V w (tPi s (lC V w) i))) := by
  refine rw_inI 8 (by decide +kernel) rfl rfl ?_
  intro E hE hX
  subst hE
  have hL5 := lC_50 hv hw
  have hsn := spN_50 (s := s) hL5
  have ht := tPi_lt hi
  have hDk := hD.2.2.2 (i / 2) (by omega)
  refine rw_go hX [(0, .iload_n 2), (1, .iconst 2), (2, .idiv)] (by decide +kernel) (Ps := [¬ (nI 2) = 0]) (pc' := 3) (lv' := [(0, .ref 22), (1, .int (nI w)), (2, .int (nI i))]) (st' := [.int (nI i / nI 2)]) (σ' := σ) rfl (show ¬ nI 2 = 0 from by decide +kernel) ?_
  rw [show (nI i / nI 2) = nI (i / 2) from pk_div (by omega) (by omega) (by omega)]
  refine rw_go hX [(3, .istore_n 3), (4, .aload_n 0), (5, .getfield 12), (8, .iload_n 1), (9, .iload_n 2), (10, .iconst 2), (11, .irem)] (by decide +kernel) (Ps := [¬ (nI 2) = 0]) (pc' := 12) (lv' := [(0, .ref 22), (1, .int (nI w)), (2, .int (nI i)), (3, .int (nI (i / 2)))]) (st' := [.int (nI i - nI i / nI 2 * nI 2), .int (nI w), .ref 23]) (σ' := σ) rfl (show ¬ nI 2 = 0 from by decide +kernel) ?_
  rw [show (nI i - nI i / nI 2 * nI 2) = nI (i % 2) from pk_rem (by omega) (by omega) (by omega)]
  refine rw_if hX (tgt := 26) (cnd := .ne) (off := 14) (by decide +kernel) (by decide) (fun h12 => ?_) (fun h12 => ?_)
  · replace h12 := zn_neT h12
    have et : tPi s (lC V w) i = spZ s (i / 2) (lC V w) := if_neg (by omega)
    refine rw_go hX [(26, .aload_n 0), (27, .getfield 35), (30, .iload_n 3)] (by decide +kernel) (Ps := []) (pc' := 31) (lv' := [(0, .ref 22), (1, .int (nI w)), (2, .int (nI i)), (3, .int (nI (i / 2)))]) (st' := [.int (nI (i / 2)), .ref 53, .int (nI w), .ref 23]) (σ' := σ) rfl True.intro ?_
    refine rw_callVi hX (as := [.int (nI (i / 2))]) (rest := [.int (nI w), .ref 23]) (c_lastOfSpan _ _ _ (i / 2) (by omega)) (by decide +kernel) mvX7_lastOfSpan lk8_99 (ci := 6) rfl rfl rfl (by decide) (Nat.le_of_ble_eq_true rfl) rfl ?_
    intro r1 σ1 hr
    rw [hr.1, show r1 = nI (tPi s (lC V w) i) from hr.2.trans (by rw [et]; exact hDk.2.2)]
    clear hr σ1 r1
    refine rw_callVi hX (as := [.int (nI w), .int (nI (tPi s (lC V w) i))]) (rest := []) (c_placeAt _ _ _ w (tPi s (lC V w) i) hw (by omega)) (by decide +kernel) mvX3_placeAt lk8_102 (ci := 2) rfl rfl rfl (by decide) (Nat.le_of_ble_eq_true rfl) rfl ?_
    intro r1 σ1 hr
    rw [hr.1, show r1 = nI (PL V w (tPi s (lC V w) i)) from hr.2.trans (hR.1.2 _ ht).2]
    clear hr σ1 r1
    exact rw_iret hX (by decide +kernel) (⟨rfl, rfl⟩)
  · replace h12 := zn_neF h12
    have et : tPi s (lC V w) i = spA s (i / 2) (lC V w) := if_pos h12
    refine rw_go hX [(15, .aload_n 0), (16, .getfield 35), (19, .iload_n 3)] (by decide +kernel) (Ps := []) (pc' := 20) (lv' := [(0, .ref 22), (1, .int (nI w)), (2, .int (nI i)), (3, .int (nI (i / 2)))]) (st' := [.int (nI (i / 2)), .ref 53, .int (nI w), .ref 23]) (σ' := σ) rfl True.intro ?_
    refine rw_callVi hX (as := [.int (nI (i / 2))]) (rest := [.int (nI w), .ref 23]) (c_firstOfSpan _ _ _ (i / 2) (by omega)) (by decide +kernel) mvX7_firstOfSpan lk8_96 (ci := 6) rfl rfl rfl (by decide) (Nat.le_of_ble_eq_true rfl) rfl ?_
    intro r1 σ1 hr
    rw [hr.1, show r1 = nI (tPi s (lC V w) i) from hr.2.trans (by rw [et]; exact hDk.1)]
    clear hr σ1 r1
    refine rw_go hX [(23, .goto 11)] (by decide +kernel) (Ps := []) (pc' := 34) (lv' := [(0, .ref 22), (1, .int (nI w)), (2, .int (nI i)), (3, .int (nI (i / 2)))]) (st' := [.int (nI (tPi s (lC V w) i)), .int (nI w), .ref 23]) (σ' := σ) rfl True.intro ?_
    refine rw_callVi hX (as := [.int (nI w), .int (nI (tPi s (lC V w) i))]) (rest := []) (c_placeAt _ _ _ w (tPi s (lC V w) i) hw (by omega)) (by decide +kernel) mvX3_placeAt lk8_102 (ci := 2) rfl rfl rfl (by decide) (Nat.le_of_ble_eq_true rfl) rfl ?_
    intro r1 σ1 hr
    rw [hr.1, show r1 = nI (PL V w (tPi s (lC V w) i)) from hr.2.trans (hR.1.2 _ ht).2]
    clear hr σ1 r1
    exact rw_iret hX (by decide +kernel) (⟨rfl, rfl⟩)
set_option maxRecDepth 20000 in
set_option maxHeartbeats 4000000 in
theorem c_commonGrams (l : Launch) (G : Gl) (σ : Mm) (V : Mm) (F w : Nat) (b : Bool) (hv : wf V) (hw : w < 5) (hS : SN V σ F) : AMi l G 3 mX8_commonGrams [.ref 22, .int (nI w), .int (bz b)] σ (fun r σ' => σ' = σ ∧ r = nI (cB (cmB V w b) (gC V w))) := by
  refine rw_inI 8 (by decide +kernel) rfl rfl ?_
  intro E hE hX
  subst hE
  have hg5 := gC_50 hv hw
  have hF5 := hS.2.1
  refine rw_go hX [(0, .iconst 0), (1, .istore_n 3), (2, .iconst 0), (3, .istore 4)] (by decide +kernel) (Ps := []) (pc' := 5) (lv' := [(0, .ref 22), (1, .int (nI w)), (2, .int (bz b)), (3, .int (nI 0)), (4, .int (nI 0))]) (st' := []) (σ' := σ) rfl True.intro ?_
  have L5 : ∀ (μ5 : Nat) (g : Nat), μ5 = gC V w - g → (g ≤ gC V w) → RW E G 3 6 (QI E G (fun r σ' => σ' = σ ∧ r = nI (cB (cmB V w b) (gC V w)))) 5 [(0, .ref 22), (1, .int (nI w)), (2, .int (bz b)), (3, .int (nI (cB (cmB V w b) g))), (4, .int (nI g))] [] σ := by
    intro μ5
    induction μ5 using Nat.strongRecOn with
    | ind μ5 ih5 =>
      intro g hμ5 hg
      refine rw_go hX [(5, .iload 4), (7, .aload_n 0), (8, .getfield 12), (11, .iload_n 1)] (by decide +kernel) (Ps := []) (pc' := 12) (lv' := [(0, .ref 22), (1, .int (nI w)), (2, .int (bz b)), (3, .int (nI (cB (cmB V w b) g))), (4, .int (nI g))]) (st' := [.int (nI w), .ref 23, .int (nI g)]) (σ' := σ) rfl True.intro ?_
      refine rw_callVi hX (as := [.int (nI w)]) (rest := [.int (nI g)]) (c_gramCount _ _ _ w hw) (by decide +kernel) mvX3_gramCount lk8_106 (ci := 2) rfl rfl rfl (by decide) (Nat.le_of_ble_eq_true rfl) rfl ?_
      intro r1 σ1 hr
      rw [hr.1, show r1 = nI (gC V w) from hr.2.trans (hS.1 w hw).2.1]
      clear hr σ1 r1
      refine rw_icmp hX (tgt := 84) (cnd := .ge) (off := 69) (by decide +kernel) (by decide) (fun h15 => ?_) (fun h15 => ?_)
      · replace h15 := c2_geT h15
        have e : g = gC V w := by omega
        refine rw_go hX [(84, .iload_n 3)] (by decide +kernel) (Ps := []) (pc' := 85) (lv' := [(0, .ref 22), (1, .int (nI w)), (2, .int (bz b)), (3, .int (nI (cB (cmB V w b) g))), (4, .int (nI g))]) (st' := [.int (nI (cB (cmB V w b) g))]) (σ' := σ) rfl True.intro ?_
        exact rw_iret hX (by decide +kernel) (⟨rfl, by rw [e]⟩)
      · replace h15 := c2_geF h15
        have hpr := PR_e hS hw h15
        obtain ⟨f, hf, hf2, hf3, hf4⟩ := hS.2.2.2.2.1 _ (okc_i hv hw h15)
        refine rw_go hX [(18, .iload_n 2)] (by decide +kernel) (Ps := []) (pc' := 19) (lv' := [(0, .ref 22), (1, .int (nI w)), (2, .int (bz b)), (3, .int (nI (cB (cmB V w b) g))), (4, .int (nI g))]) (st' := [.int (bz b)]) (σ' := σ) rfl True.intro ?_
        refine rw_if hX (tgt := 35) (cnd := .eq) (off := 16) (by decide +kernel) (by decide) (fun h19 => ?_) (fun h19 => ?_)
        · replace h19 := zb_eqT h19
          have hA : (!b || PR V (50 * w + g)) = true := by rw [h19]; rfl
          refine rw_go hX [(35, .iconst 1), (36, .goto 4), (40, .istore 5), (42, .iload_n 3), (43, .iload 5)] (by decide +kernel) (Ps := []) (pc' := 45) (lv' := [(0, .ref 22), (1, .int (nI w)), (2, .int (bz b)), (3, .int (nI (cB (cmB V w b) g))), (4, .int (nI g)), (5, .int (nI 1))]) (st' := [.int (nI 1), .int (nI (cB (cmB V w b) g))]) (σ' := σ) rfl True.intro ?_
          refine rw_if hX (tgt := 72) (cnd := .eq) (off := 27) (by decide +kernel) (by decide) (fun h45 => ?_) (fun h45 => ?_)
          · exact absurd h45 (by simp only [cz, cc2]; decide +kernel)
          · skip
            refine rw_go hX [(48, .aload_n 0), (49, .getfield 21), (52, .aload_n 0), (53, .getfield 12), (56, .iload_n 1), (57, .iload 4)] (by decide +kernel) (Ps := []) (pc' := 59) (lv' := [(0, .ref 22), (1, .int (nI w)), (2, .int (bz b)), (3, .int (nI (cB (cmB V w b) g))), (4, .int (nI g)), (5, .int (nI 1))]) (st' := [.int (nI g), .int (nI w), .ref 23, .ref 31, .int (nI (cB (cmB V w b) g))]) (σ' := σ) rfl True.intro ?_
            refine rw_callVi hX (as := [.int (nI w), .int (nI g)]) (rest := [.ref 31, .int (nI (cB (cmB V w b) g))]) (c_formAt _ _ _ w g hw (by omega)) (by decide +kernel) mvX3_formAt lk8_113 (ci := 2) rfl rfl rfl (by decide) (Nat.le_of_ble_eq_true rfl) rfl ?_
            intro r1 σ1 hr
            rw [hr.1, show r1 = nI f from hr.2.trans hf2]
            clear hr σ1 r1
            refine rw_callVi hX (as := [.int (nI f)]) (rest := [.int (nI (cB (cmB V w b) g))]) (c_isCommon _ _ _ f F hS.2.2.1 hF5 hf) (by decide +kernel) mvX0_isCommon lk8_116 (ci := 0) rfl rfl rfl (by decide) (Nat.le_of_ble_eq_true rfl) rfl ?_
            intro r1 σ1 hr
            rw [hr.1, show r1 = bz (CM V (50 * w + g)) from hr.2.trans (by rw [hf4])]
            clear hr σ1 r1
            refine rw_if hX (tgt := 72) (cnd := .eq) (off := 7) (by decide +kernel) (by decide) (fun h65 => ?_) (fun h65 => ?_)
            · replace h65 := zb_eqT h65
              have hup : cmB V w b g = false := by unfold cmB; rw [hA, h65]; rfl
              refine rw_go hX [(72, .iconst 0)] (by decide +kernel) (Ps := []) (pc' := 73) (lv' := [(0, .ref 22), (1, .int (nI w)), (2, .int (bz b)), (3, .int (nI (cB (cmB V w b) g))), (4, .int (nI g)), (5, .int (nI 1))]) (st' := [.int (nI 0), .int (nI (cB (cmB V w b) g))]) (σ' := σ) rfl True.intro ?_
              refine rw_callSi hX (as := [.int (nI 0)]) (rest := [.int (nI (cB (cmB V w b) g))]) (c_X9_asNumber _ _ _ false) (by decide +kernel) msX9_asNumber (Or.inr lk8_120) rfl (by decide) (Nat.le_of_ble_eq_true rfl) rfl ?_
              intro r1 σ1 hr
              rw [hr.1, show r1 = nI 0 from hr.2]
              clear hr σ1 r1
              refine rw_go hX [(76, .iadd), (77, .istore_n 3), (78, .iinc 4 1), (81, .goto (-76))] (by decide +kernel) (Ps := []) (pc' := 5) (lv' := [(0, .ref 22), (1, .int (nI w)), (2, .int (bz b)), (3, .int (nI (cB (cmB V w b) g) + nI 0)), (4, .int (nI g + nI 1)), (5, .int (nI 1))]) (st' := []) (σ' := σ) rfl True.intro ?_
              refine rw_lsub (ks := [0, 1, 2, 3, 4]) (lv' := [(0, .ref 22), (1, .int (nI w)), (2, .int (bz b)), (3, .int (nI (cB (cmB V w b) g) + nI 0)), (4, .int (nI g + nI 1))]) rfl ?_
              have q := ih5 (gC V w - (g + 1)) (by omega) (g + 1) rfl (by omega)
              rw [cB_n (k := g) hup] at q
              rw [nI_add, nI_add, Nat.add_zero]
              exact q
            · replace h65 := zb_eqF h65
              have hup : cmB V w b g = true := by unfold cmB; rw [hA, h65]; rfl
              refine rw_go hX [(68, .iconst 1), (69, .goto 4)] (by decide +kernel) (Ps := []) (pc' := 73) (lv' := [(0, .ref 22), (1, .int (nI w)), (2, .int (bz b)), (3, .int (nI (cB (cmB V w b) g))), (4, .int (nI g)), (5, .int (nI 1))]) (st' := [.int (nI 1), .int (nI (cB (cmB V w b) g))]) (σ' := σ) rfl True.intro ?_
              refine rw_callSi hX (as := [.int (nI 1)]) (rest := [.int (nI (cB (cmB V w b) g))]) (c_X9_asNumber _ _ _ true) (by decide +kernel) msX9_asNumber (Or.inr lk8_120) rfl (by decide) (Nat.le_of_ble_eq_true rfl) rfl ?_
              intro r1 σ1 hr
              rw [hr.1, show r1 = nI 1 from hr.2]
              clear hr σ1 r1
              refine rw_go hX [(76, .iadd), (77, .istore_n 3), (78, .iinc 4 1), (81, .goto (-76))] (by decide +kernel) (Ps := []) (pc' := 5) (lv' := [(0, .ref 22), (1, .int (nI w)), (2, .int (bz b)), (3, .int (nI (cB (cmB V w b) g) + nI 1)), (4, .int (nI g + nI 1)), (5, .int (nI 1))]) (st' := []) (σ' := σ) rfl True.intro ?_
              refine rw_lsub (ks := [0, 1, 2, 3, 4]) (lv' := [(0, .ref 22), (1, .int (nI w)), (2, .int (bz b)), (3, .int (nI (cB (cmB V w b) g) + nI 1)), (4, .int (nI g + nI 1))]) rfl ?_
              have q := ih5 (gC V w - (g + 1)) (by omega) (g + 1) rfl (by omega)
              rw [cB_y (k := g) hup] at q
              rw [nI_add, nI_add]
              exact q
        · replace h19 := zb_eqF h19
          refine rw_go hX [(22, .aload_n 0), (23, .getfield 12), (26, .iload_n 1), (27, .iload 4)] (by decide +kernel) (Ps := []) (pc' := 29) (lv' := [(0, .ref 22), (1, .int (nI w)), (2, .int (bz b)), (3, .int (nI (cB (cmB V w b) g))), (4, .int (nI g))]) (st' := [.int (nI g), .int (nI w), .ref 23]) (σ' := σ) rfl True.intro ?_
          refine rw_callVi hX (as := [.int (nI w), .int (nI g)]) (rest := []) (c_isPrint _ _ _ w g (gC V w) hw (by omega) (hS.1 w hw).2.1 (by omega)) (by decide +kernel) mvX3_isPrint lk8_109 (ci := 2) rfl rfl rfl (by decide) (Nat.le_of_ble_eq_true rfl) rfl ?_
          intro r1 σ1 hr
          rw [hr.1, show r1 = bz (PR V (50 * w + g)) from hr.2.trans (by rw [hpr])]
          clear hr σ1 r1
          refine rw_if hX (tgt := 39) (cnd := .eq) (off := 7) (by decide +kernel) (by decide) (fun h32 => ?_) (fun h32 => ?_)
          · replace h32 := zb_eqT h32
            have hA : (!b || PR V (50 * w + g)) = false := by rw [h32, h19]; rfl
            have hup : cmB V w b g = false := by unfold cmB; rw [hA]; rfl
            refine rw_go hX [(39, .iconst 0), (40, .istore 5), (42, .iload_n 3), (43, .iload 5)] (by decide +kernel) (Ps := []) (pc' := 45) (lv' := [(0, .ref 22), (1, .int (nI w)), (2, .int (bz b)), (3, .int (nI (cB (cmB V w b) g))), (4, .int (nI g)), (5, .int (nI 0))]) (st' := [.int (nI 0), .int (nI (cB (cmB V w b) g))]) (σ' := σ) rfl True.intro ?_
            refine rw_if hX (tgt := 72) (cnd := .eq) (off := 27) (by decide +kernel) (by decide) (fun h45 => ?_) (fun h45 => ?_)
            · skip
              refine rw_go hX [(72, .iconst 0)] (by decide +kernel) (Ps := []) (pc' := 73) (lv' := [(0, .ref 22), (1, .int (nI w)), (2, .int (bz b)), (3, .int (nI (cB (cmB V w b) g))), (4, .int (nI g)), (5, .int (nI 0))]) (st' := [.int (nI 0), .int (nI (cB (cmB V w b) g))]) (σ' := σ) rfl True.intro ?_
              refine rw_callSi hX (as := [.int (nI 0)]) (rest := [.int (nI (cB (cmB V w b) g))]) (c_X9_asNumber _ _ _ false) (by decide +kernel) msX9_asNumber (Or.inr lk8_120) rfl (by decide) (Nat.le_of_ble_eq_true rfl) rfl ?_
              intro r1 σ1 hr
              rw [hr.1, show r1 = nI 0 from hr.2]
              clear hr σ1 r1
              refine rw_go hX [(76, .iadd), (77, .istore_n 3), (78, .iinc 4 1), (81, .goto (-76))] (by decide +kernel) (Ps := []) (pc' := 5) (lv' := [(0, .ref 22), (1, .int (nI w)), (2, .int (bz b)), (3, .int (nI (cB (cmB V w b) g) + nI 0)), (4, .int (nI g + nI 1)), (5, .int (nI 0))]) (st' := []) (σ' := σ) rfl True.intro ?_
              refine rw_lsub (ks := [0, 1, 2, 3, 4]) (lv' := [(0, .ref 22), (1, .int (nI w)), (2, .int (bz b)), (3, .int (nI (cB (cmB V w b) g) + nI 0)), (4, .int (nI g + nI 1))]) rfl ?_
              have q := ih5 (gC V w - (g + 1)) (by omega) (g + 1) rfl (by omega)
              rw [cB_n (k := g) hup] at q
              rw [nI_add, nI_add, Nat.add_zero]
              exact q
            · exact absurd (by simp only [cz, cc2]; decide +kernel) h45
          · replace h32 := zb_eqF h32
            have hA : (!b || PR V (50 * w + g)) = true := by rw [h32]; exact Bool.or_true _
            refine rw_go hX [(35, .iconst 1), (36, .goto 4), (40, .istore 5), (42, .iload_n 3), (43, .iload 5)] (by decide +kernel) (Ps := []) (pc' := 45) (lv' := [(0, .ref 22), (1, .int (nI w)), (2, .int (bz b)), (3, .int (nI (cB (cmB V w b) g))), (4, .int (nI g)), (5, .int (nI 1))]) (st' := [.int (nI 1), .int (nI (cB (cmB V w b) g))]) (σ' := σ) rfl True.intro ?_
            refine rw_if hX (tgt := 72) (cnd := .eq) (off := 27) (by decide +kernel) (by decide) (fun h45 => ?_) (fun h45 => ?_)
            · exact absurd h45 (by simp only [cz, cc2]; decide +kernel)
            · skip
              refine rw_go hX [(48, .aload_n 0), (49, .getfield 21), (52, .aload_n 0), (53, .getfield 12), (56, .iload_n 1), (57, .iload 4)] (by decide +kernel) (Ps := []) (pc' := 59) (lv' := [(0, .ref 22), (1, .int (nI w)), (2, .int (bz b)), (3, .int (nI (cB (cmB V w b) g))), (4, .int (nI g)), (5, .int (nI 1))]) (st' := [.int (nI g), .int (nI w), .ref 23, .ref 31, .int (nI (cB (cmB V w b) g))]) (σ' := σ) rfl True.intro ?_
              refine rw_callVi hX (as := [.int (nI w), .int (nI g)]) (rest := [.ref 31, .int (nI (cB (cmB V w b) g))]) (c_formAt _ _ _ w g hw (by omega)) (by decide +kernel) mvX3_formAt lk8_113 (ci := 2) rfl rfl rfl (by decide) (Nat.le_of_ble_eq_true rfl) rfl ?_
              intro r1 σ1 hr
              rw [hr.1, show r1 = nI f from hr.2.trans hf2]
              clear hr σ1 r1
              refine rw_callVi hX (as := [.int (nI f)]) (rest := [.int (nI (cB (cmB V w b) g))]) (c_isCommon _ _ _ f F hS.2.2.1 hF5 hf) (by decide +kernel) mvX0_isCommon lk8_116 (ci := 0) rfl rfl rfl (by decide) (Nat.le_of_ble_eq_true rfl) rfl ?_
              intro r1 σ1 hr
              rw [hr.1, show r1 = bz (CM V (50 * w + g)) from hr.2.trans (by rw [hf4])]
              clear hr σ1 r1
              refine rw_if hX (tgt := 72) (cnd := .eq) (off := 7) (by decide +kernel) (by decide) (fun h65 => ?_) (fun h65 => ?_)
              · replace h65 := zb_eqT h65
                have hup : cmB V w b g = false := by unfold cmB; rw [hA, h65]; rfl
                refine rw_go hX [(72, .iconst 0)] (by decide +kernel) (Ps := []) (pc' := 73) (lv' := [(0, .ref 22), (1, .int (nI w)), (2, .int (bz b)), (3, .int (nI (cB (cmB V w b) g))), (4, .int (nI g)), (5, .int (nI 1))]) (st' := [.int (nI 0), .int (nI (cB (cmB V w b) g))]) (σ' := σ) rfl True.intro ?_
                refine rw_callSi hX (as := [.int (nI 0)]) (rest := [.int (nI (cB (cmB V w b) g))]) (c_X9_asNumber _ _ _ false) (by decide +kernel) msX9_asNumber (Or.inr lk8_120) rfl (by decide) (Nat.le_of_ble_eq_true rfl) rfl ?_
                intro r1 σ1 hr
                rw [hr.1, show r1 = nI 0 from hr.2]
                clear hr σ1 r1
                refine rw_go hX [(76, .iadd), (77, .istore_n 3), (78, .iinc 4 1), (81, .goto (-76))] (by decide +kernel) (Ps := []) (pc' := 5) (lv' := [(0, .ref 22), (1, .int (nI w)), (2, .int (bz b)), (3, .int (nI (cB (cmB V w b) g) + nI 0)), (4, .int (nI g + nI 1)), (5, .int (nI 1))]) (st' := []) (σ' := σ) rfl True.intro ?_
                refine rw_lsub (ks := [0, 1, 2, 3, 4]) (lv' := [(0, .ref 22), (1, .int (nI w)), (2, .int (bz b)), (3, .int (nI (cB (cmB V w b) g) + nI 0)), (4, .int (nI g + nI 1))]) rfl ?_
                have q := ih5 (gC V w - (g + 1)) (by omega) (g + 1) rfl (by omega)
                rw [cB_n (k := g) hup] at q
                rw [nI_add, nI_add, Nat.add_zero]
                exact q
              · replace h65 := zb_eqF h65
                have hup : cmB V w b g = true := by unfold cmB; rw [hA, h65]; rfl
                refine rw_go hX [(68, .iconst 1), (69, .goto 4)] (by decide +kernel) (Ps := []) (pc' := 73) (lv' := [(0, .ref 22), (1, .int (nI w)), (2, .int (bz b)), (3, .int (nI (cB (cmB V w b) g))), (4, .int (nI g)), (5, .int (nI 1))]) (st' := [.int (nI 1), .int (nI (cB (cmB V w b) g))]) (σ' := σ) rfl True.intro ?_
                refine rw_callSi hX (as := [.int (nI 1)]) (rest := [.int (nI (cB (cmB V w b) g))]) (c_X9_asNumber _ _ _ true) (by decide +kernel) msX9_asNumber (Or.inr lk8_120) rfl (by decide) (Nat.le_of_ble_eq_true rfl) rfl ?_
                intro r1 σ1 hr
                rw [hr.1, show r1 = nI 1 from hr.2]
                clear hr σ1 r1
                refine rw_go hX [(76, .iadd), (77, .istore_n 3), (78, .iinc 4 1), (81, .goto (-76))] (by decide +kernel) (Ps := []) (pc' := 5) (lv' := [(0, .ref 22), (1, .int (nI w)), (2, .int (bz b)), (3, .int (nI (cB (cmB V w b) g) + nI 1)), (4, .int (nI g + nI 1)), (5, .int (nI 1))]) (st' := []) (σ' := σ) rfl True.intro ?_
                refine rw_lsub (ks := [0, 1, 2, 3, 4]) (lv' := [(0, .ref 22), (1, .int (nI w)), (2, .int (bz b)), (3, .int (nI (cB (cmB V w b) g) + nI 1)), (4, .int (nI g + nI 1))]) rfl ?_
                have q := ih5 (gC V w - (g + 1)) (by omega) (g + 1) rfl (by omega)
                rw [cB_y (k := g) hup] at q
                rw [nI_add, nI_add]
                exact q
  refine rw_lsub (ks := [0, 1, 2, 3, 4]) (lv' := [(0, .ref 22), (1, .int (nI w)), (2, .int (bz b)), (3, .int (nI 0)), (4, .int (nI 0))]) rfl ?_
  exact L5 (gC V w) 0 rfl (by omega)
