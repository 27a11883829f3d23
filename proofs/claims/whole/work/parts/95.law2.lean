/-! the law: its cases -/
set_option maxRecDepth 20000 in
set_option maxHeartbeats 4000000 in
theorem lc_span {E : Cf} {G : Gl} {Q : State → Prop} {b L i : Nat} {xs : Nat → Int32} {σ : Mm} (hX : Cx E G 8 11 code 4 (some .boolean)) (hSC : SC E G b L xs) (hi : i + 7 ≤ L) (hL : L ≤ 3584) (hJ : J0 σ) (ev : vw σ 67 = vw σ 2) (rt : σ 72 = σ 65) (kk : ∀ υ, J0 υ → RW E G 8 4 Q 1408 [(0, .ref 990), (1, .ref 0), (2, .ref 66), (3, .int (nI i))] [] υ) : RW E G 8 4 Q 853 [(0, .ref 990), (1, .ref 0), (2, .ref 66), (3, .int (nI i))] [] σ := by
  refine rw_go hX [(853, .aload_n 1)] (by decide +kernel) (Ps := []) (pc' := 854) (lv' := [(0, .ref 990), (1, .ref 0), (2, .ref 66), (3, .int (nI i))]) (st' := [.ref 0]) (σ' := σ) rfl True.intro ?_
  refine rw_go hX [(854, .aload_n 0), (855, .iload_n 3), (856, .iconst 1), (857, .iadd)] (by decide +kernel) (Ps := []) (pc' := 858) (lv' := [(0, .ref 990), (1, .ref 0), (2, .ref 66), (3, .int (nI i))]) (st' := [.int (nI i + nI 1), .ref 990, .ref 0]) (σ' := σ) rfl True.intro ?_
  refine rw_sld hX hSC (by rw [nI_add]; exact vp_in_nI (by omega) (by omega)) (by decide +kernel) ?_
  refine rw_go hX [(859, .aload_n 0), (860, .iload_n 3), (861, .iconst 2), (862, .iadd)] (by decide +kernel) (Ps := []) (pc' := 863) (lv' := [(0, .ref 990), (1, .ref 0), (2, .ref 66), (3, .int (nI i))]) (st' := [.int (nI i + nI 2), .ref 990, .int (xs (nI i + nI 1).toNatClampNeg), .ref 0]) (σ' := σ) rfl True.intro ?_
  refine rw_sld hX hSC (by rw [nI_add]; exact vp_in_nI (by omega) (by omega)) (by decide +kernel) ?_
  refine rw_go hX [(864, .aload_n 0), (865, .iload_n 3), (866, .iconst 3), (867, .iadd)] (by decide +kernel) (Ps := []) (pc' := 868) (lv' := [(0, .ref 990), (1, .ref 0), (2, .ref 66), (3, .int (nI i))]) (st' := [.int (nI i + nI 3), .ref 990, .int (xs (nI i + nI 2).toNatClampNeg), .int (xs (nI i + nI 1).toNatClampNeg), .ref 0]) (σ' := σ) rfl True.intro ?_
  refine rw_sld hX hSC (by rw [nI_add]; exact vp_in_nI (by omega) (by omega)) (by decide +kernel) ?_
  refine rw_callVi hX (as := [.int (xs (nI i + nI 1).toNatClampNeg), .int (xs (nI i + nI 2).toNatClampNeg), .int (xs (nI i + nI 3).toNatClampNeg)]) (rest := []) (f_span _ _ _ (vw σ 2) (xs (nI i + nI 1).toNatClampNeg) (xs (nI i + nI 2).toNatClampNeg) (xs (nI i + nI 3).toNatClampNeg) rfl hJ.1.2) (by decide +kernel) mvX9_span lk11_84 (ci := 8) rfl rfl rfl (by decide) (Nat.le_of_ble_eq_true rfl) rfl ?_
  intro r1 τ h1
  obtain ⟨e1, hq⟩ := h1
  have hτ : ∀ k, 66 ≤ k → τ k = σ k := fun k hk => hq k (by omega)
  have hV1 : vw τ 67 = vw σ 2 := (vw_of (fun j hj => hτ _ (by omega))).trans ev
  refine rw_go hX [(872, .aload_n 2)] (by decide +kernel) (Ps := []) (pc' := 873) (lv' := [(0, .ref 990), (1, .ref 0), (2, .ref 66), (3, .int (nI i))]) (st' := [.ref 66, .int r1]) (σ' := τ) rfl True.intro ?_
  refine rw_go hX [(873, .aload_n 0), (874, .iload_n 3), (875, .iconst 1), (876, .iadd)] (by decide +kernel) (Ps := []) (pc' := 877) (lv' := [(0, .ref 990), (1, .ref 0), (2, .ref 66), (3, .int (nI i))]) (st' := [.int (nI i + nI 1), .ref 990, .ref 66, .int r1]) (σ' := τ) rfl True.intro ?_
  refine rw_sld hX hSC (by rw [nI_add]; exact vp_in_nI (by omega) (by omega)) (by decide +kernel) ?_
  refine rw_go hX [(878, .aload_n 0), (879, .iload_n 3), (880, .iconst 2), (881, .iadd)] (by decide +kernel) (Ps := []) (pc' := 882) (lv' := [(0, .ref 990), (1, .ref 0), (2, .ref 66), (3, .int (nI i))]) (st' := [.int (nI i + nI 2), .ref 990, .int (xs (nI i + nI 1).toNatClampNeg), .ref 66, .int r1]) (σ' := τ) rfl True.intro ?_
  refine rw_sld hX hSC (by rw [nI_add]; exact vp_in_nI (by omega) (by omega)) (by decide +kernel) ?_
  refine rw_go hX [(883, .aload_n 0), (884, .iload_n 3), (885, .iconst 3), (886, .iadd)] (by decide +kernel) (Ps := []) (pc' := 887) (lv' := [(0, .ref 990), (1, .ref 0), (2, .ref 66), (3, .int (nI i))]) (st' := [.int (nI i + nI 3), .ref 990, .int (xs (nI i + nI 2).toNatClampNeg), .int (xs (nI i + nI 1).toNatClampNeg), .ref 66, .int r1]) (σ' := τ) rfl True.intro ?_
  refine rw_sld hX hSC (by rw [nI_add]; exact vp_in_nI (by omega) (by omega)) (by decide +kernel) ?_
  refine rw_callVi hX (as := [.int (xs (nI i + nI 1).toNatClampNeg), .int (xs (nI i + nI 2).toNatClampNeg), .int (xs (nI i + nI 3).toNatClampNeg)]) (rest := [.int r1]) (g_span _ _ _ (vw σ 2) (xs (nI i + nI 1).toNatClampNeg) (xs (nI i + nI 2).toNatClampNeg) (xs (nI i + nI 3).toNatClampNeg) hV1 hJ.1.2) (by decide +kernel) mvX10_span lk11_87 (ci := 9) rfl rfl rfl (by decide) (Nat.le_of_ble_eq_true rfl) rfl ?_
  intro r2 υ h2
  obtain ⟨e2, hm⟩ := h2
  have e : r1 = r2 := e1.trans e2.symm
  have hJ2 : J0 υ := J0_q hJ hq hm
  exact rw_icmp hX (tgt := 1408) (cnd := .eq) (off := 517) (by decide +kernel) (by decide) (fun _ => kk υ hJ2) (fun h => absurd e h)
set_option maxRecDepth 20000 in
set_option maxHeartbeats 4000000 in
theorem lc_source {E : Cf} {G : Gl} {Q : State → Prop} {b L i : Nat} {xs : Nat → Int32} {σ : Mm} (hX : Cx E G 8 11 code 4 (some .boolean)) (hSC : SC E G b L xs) (hi : i + 7 ≤ L) (hL : L ≤ 3584) (hJ : J0 σ) (ev : vw σ 67 = vw σ 2) (rt : σ 72 = σ 65) (kk : ∀ υ, J0 υ → RW E G 8 4 Q 1408 [(0, .ref 990), (1, .ref 0), (2, .ref 66), (3, .int (nI i))] [] υ) : RW E G 8 4 Q 896 [(0, .ref 990), (1, .ref 0), (2, .ref 66), (3, .int (nI i))] [] σ := by
  refine rw_go hX [(896, .aload_n 1)] (by decide +kernel) (Ps := []) (pc' := 897) (lv' := [(0, .ref 990), (1, .ref 0), (2, .ref 66), (3, .int (nI i))]) (st' := [.ref 0]) (σ' := σ) rfl True.intro ?_
  refine rw_go hX [(897, .aload_n 0), (898, .iload_n 3), (899, .iconst 1), (900, .iadd)] (by decide +kernel) (Ps := []) (pc' := 901) (lv' := [(0, .ref 990), (1, .ref 0), (2, .ref 66), (3, .int (nI i))]) (st' := [.int (nI i + nI 1), .ref 990, .ref 0]) (σ' := σ) rfl True.intro ?_
  refine rw_sld hX hSC (by rw [nI_add]; exact vp_in_nI (by omega) (by omega)) (by decide +kernel) ?_
  refine rw_go hX [(902, .aload_n 0), (903, .iload_n 3), (904, .iconst 2), (905, .iadd)] (by decide +kernel) (Ps := []) (pc' := 906) (lv' := [(0, .ref 990), (1, .ref 0), (2, .ref 66), (3, .int (nI i))]) (st' := [.int (nI i + nI 2), .ref 990, .int (xs (nI i + nI 1).toNatClampNeg), .ref 0]) (σ' := σ) rfl True.intro ?_
  refine rw_sld hX hSC (by rw [nI_add]; exact vp_in_nI (by omega) (by omega)) (by decide +kernel) ?_
  refine rw_callVi hX (as := [.int (xs (nI i + nI 1).toNatClampNeg), .int (xs (nI i + nI 2).toNatClampNeg)]) (rest := []) (f_source _ _ _ (vw σ 2) (xs (nI i + nI 1).toNatClampNeg) (xs (nI i + nI 2).toNatClampNeg) rfl hJ.1.2) (by decide +kernel) mvX9_source lk11_88 (ci := 8) rfl rfl rfl (by decide) (Nat.le_of_ble_eq_true rfl) rfl ?_
  intro r1 τ h1
  obtain ⟨e1, hq⟩ := h1
  have hτ : ∀ k, 66 ≤ k → τ k = σ k := fun k hk => hq k (by omega)
  have hV1 : vw τ 67 = vw σ 2 := (vw_of (fun j hj => hτ _ (by omega))).trans ev
  refine rw_go hX [(910, .aload_n 2)] (by decide +kernel) (Ps := []) (pc' := 911) (lv' := [(0, .ref 990), (1, .ref 0), (2, .ref 66), (3, .int (nI i))]) (st' := [.ref 66, .int r1]) (σ' := τ) rfl True.intro ?_
  refine rw_go hX [(911, .aload_n 0), (912, .iload_n 3), (913, .iconst 1), (914, .iadd)] (by decide +kernel) (Ps := []) (pc' := 915) (lv' := [(0, .ref 990), (1, .ref 0), (2, .ref 66), (3, .int (nI i))]) (st' := [.int (nI i + nI 1), .ref 990, .ref 66, .int r1]) (σ' := τ) rfl True.intro ?_
  refine rw_sld hX hSC (by rw [nI_add]; exact vp_in_nI (by omega) (by omega)) (by decide +kernel) ?_
  refine rw_go hX [(916, .aload_n 0), (917, .iload_n 3), (918, .iconst 2), (919, .iadd)] (by decide +kernel) (Ps := []) (pc' := 920) (lv' := [(0, .ref 990), (1, .ref 0), (2, .ref 66), (3, .int (nI i))]) (st' := [.int (nI i + nI 2), .ref 990, .int (xs (nI i + nI 1).toNatClampNeg), .ref 66, .int r1]) (σ' := τ) rfl True.intro ?_
  refine rw_sld hX hSC (by rw [nI_add]; exact vp_in_nI (by omega) (by omega)) (by decide +kernel) ?_
  refine rw_callVi hX (as := [.int (xs (nI i + nI 1).toNatClampNeg), .int (xs (nI i + nI 2).toNatClampNeg)]) (rest := [.int r1]) (g_source _ _ _ (vw σ 2) (xs (nI i + nI 1).toNatClampNeg) (xs (nI i + nI 2).toNatClampNeg) hV1 hJ.1.2) (by decide +kernel) mvX10_source lk11_91 (ci := 9) rfl rfl rfl (by decide) (Nat.le_of_ble_eq_true rfl) rfl ?_
  intro r2 υ h2
  obtain ⟨e2, hm⟩ := h2
  have e : r1 = r2 := e1.trans e2.symm
  have hJ2 : J0 υ := J0_q hJ hq hm
  exact rw_icmp hX (tgt := 1408) (cnd := .eq) (off := 484) (by decide +kernel) (by decide) (fun _ => kk υ hJ2) (fun h => absurd e h)
set_option maxRecDepth 20000 in
set_option maxHeartbeats 4000000 in
theorem lc_share {E : Cf} {G : Gl} {Q : State → Prop} {b L i : Nat} {xs : Nat → Int32} {σ : Mm} (hX : Cx E G 8 11 code 4 (some .boolean)) (hSC : SC E G b L xs) (hi : i + 7 ≤ L) (hL : L ≤ 3584) (hJ : J0 σ) (ev : vw σ 67 = vw σ 2) (rt : σ 72 = σ 65) (kk : ∀ υ, J0 υ → RW E G 8 4 Q 1408 [(0, .ref 990), (1, .ref 0), (2, .ref 66), (3, .int (nI i))] [] υ) : RW E G 8 4 Q 929 [(0, .ref 990), (1, .ref 0), (2, .ref 66), (3, .int (nI i))] [] σ := by
  refine rw_go hX [(929, .aload_n 1)] (by decide +kernel) (Ps := []) (pc' := 930) (lv' := [(0, .ref 990), (1, .ref 0), (2, .ref 66), (3, .int (nI i))]) (st' := [.ref 0]) (σ' := σ) rfl True.intro ?_
  refine rw_go hX [(930, .aload_n 0), (931, .iload_n 3), (932, .iconst 1), (933, .iadd)] (by decide +kernel) (Ps := []) (pc' := 934) (lv' := [(0, .ref 990), (1, .ref 0), (2, .ref 66), (3, .int (nI i))]) (st' := [.int (nI i + nI 1), .ref 990, .ref 0]) (σ' := σ) rfl True.intro ?_
  refine rw_sld hX hSC (by rw [nI_add]; exact vp_in_nI (by omega) (by omega)) (by decide +kernel) ?_
  refine rw_go hX [(935, .aload_n 0), (936, .iload_n 3), (937, .iconst 2), (938, .iadd)] (by decide +kernel) (Ps := []) (pc' := 939) (lv' := [(0, .ref 990), (1, .ref 0), (2, .ref 66), (3, .int (nI i))]) (st' := [.int (nI i + nI 2), .ref 990, .int (xs (nI i + nI 1).toNatClampNeg), .ref 0]) (σ' := σ) rfl True.intro ?_
  refine rw_sld hX hSC (by rw [nI_add]; exact vp_in_nI (by omega) (by omega)) (by decide +kernel) ?_
  refine rw_callVi hX (as := [.int (xs (nI i + nI 1).toNatClampNeg), .int (xs (nI i + nI 2).toNatClampNeg)]) (rest := []) (f_share _ _ _ (vw σ 2) (xs (nI i + nI 1).toNatClampNeg) (xs (nI i + nI 2).toNatClampNeg) rfl hJ.1.2) (by decide +kernel) mvX9_share lk11_92 (ci := 8) rfl rfl rfl (by decide) (Nat.le_of_ble_eq_true rfl) rfl ?_
  intro r1 τ h1
  obtain ⟨e1, hq⟩ := h1
  have hτ : ∀ k, 66 ≤ k → τ k = σ k := fun k hk => hq k (by omega)
  have hV1 : vw τ 67 = vw σ 2 := (vw_of (fun j hj => hτ _ (by omega))).trans ev
  refine rw_go hX [(943, .aload_n 2)] (by decide +kernel) (Ps := []) (pc' := 944) (lv' := [(0, .ref 990), (1, .ref 0), (2, .ref 66), (3, .int (nI i))]) (st' := [.ref 66, .int r1]) (σ' := τ) rfl True.intro ?_
  refine rw_go hX [(944, .aload_n 0), (945, .iload_n 3), (946, .iconst 1), (947, .iadd)] (by decide +kernel) (Ps := []) (pc' := 948) (lv' := [(0, .ref 990), (1, .ref 0), (2, .ref 66), (3, .int (nI i))]) (st' := [.int (nI i + nI 1), .ref 990, .ref 66, .int r1]) (σ' := τ) rfl True.intro ?_
  refine rw_sld hX hSC (by rw [nI_add]; exact vp_in_nI (by omega) (by omega)) (by decide +kernel) ?_
  refine rw_go hX [(949, .aload_n 0), (950, .iload_n 3), (951, .iconst 2), (952, .iadd)] (by decide +kernel) (Ps := []) (pc' := 953) (lv' := [(0, .ref 990), (1, .ref 0), (2, .ref 66), (3, .int (nI i))]) (st' := [.int (nI i + nI 2), .ref 990, .int (xs (nI i + nI 1).toNatClampNeg), .ref 66, .int r1]) (σ' := τ) rfl True.intro ?_
  refine rw_sld hX hSC (by rw [nI_add]; exact vp_in_nI (by omega) (by omega)) (by decide +kernel) ?_
  refine rw_callVi hX (as := [.int (xs (nI i + nI 1).toNatClampNeg), .int (xs (nI i + nI 2).toNatClampNeg)]) (rest := [.int r1]) (g_share _ _ _ (vw σ 2) (xs (nI i + nI 1).toNatClampNeg) (xs (nI i + nI 2).toNatClampNeg) hV1 hJ.1.2) (by decide +kernel) mvX10_share lk11_95 (ci := 9) rfl rfl rfl (by decide) (Nat.le_of_ble_eq_true rfl) rfl ?_
  intro r2 υ h2
  obtain ⟨e2, hm⟩ := h2
  have e : r1 = r2 := e1.trans e2.symm
  have hJ2 : J0 υ := J0_q hJ hq hm
  exact rw_icmp hX (tgt := 1408) (cnd := .eq) (off := 451) (by decide +kernel) (by decide) (fun _ => kk υ hJ2) (fun h => absurd e h)
set_option maxRecDepth 20000 in
set_option maxHeartbeats 4000000 in
theorem lc_group {E : Cf} {G : Gl} {Q : State → Prop} {b L i : Nat} {xs : Nat → Int32} {σ : Mm} (hX : Cx E G 8 11 code 4 (some .boolean)) (hSC : SC E G b L xs) (hi : i + 7 ≤ L) (hL : L ≤ 3584) (hJ : J0 σ) (ev : vw σ 67 = vw σ 2) (rt : σ 72 = σ 65) (kk : ∀ υ, J0 υ → RW E G 8 4 Q 1408 [(0, .ref 990), (1, .ref 0), (2, .ref 66), (3, .int (nI i))] [] υ) : RW E G 8 4 Q 962 [(0, .ref 990), (1, .ref 0), (2, .ref 66), (3, .int (nI i))] [] σ := by
  refine rw_go hX [(962, .aload_n 1)] (by decide +kernel) (Ps := []) (pc' := 963) (lv' := [(0, .ref 990), (1, .ref 0), (2, .ref 66), (3, .int (nI i))]) (st' := [.ref 0]) (σ' := σ) rfl True.intro ?_
  refine rw_go hX [(963, .aload_n 0), (964, .iload_n 3), (965, .iconst 1), (966, .iadd)] (by decide +kernel) (Ps := []) (pc' := 967) (lv' := [(0, .ref 990), (1, .ref 0), (2, .ref 66), (3, .int (nI i))]) (st' := [.int (nI i + nI 1), .ref 990, .ref 0]) (σ' := σ) rfl True.intro ?_
  refine rw_sld hX hSC (by rw [nI_add]; exact vp_in_nI (by omega) (by omega)) (by decide +kernel) ?_
  refine rw_callVi hX (as := [.int (xs (nI i + nI 1).toNatClampNeg)]) (rest := []) (f_group _ _ _ (vw σ 2) (xs (nI i + nI 1).toNatClampNeg) rfl hJ.1.2) (by decide +kernel) mvX9_group lk11_96 (ci := 8) rfl rfl rfl (by decide) (Nat.le_of_ble_eq_true rfl) rfl ?_
  intro r1 τ h1
  obtain ⟨e1, hq⟩ := h1
  have hτ : ∀ k, 66 ≤ k → τ k = σ k := fun k hk => hq k (by omega)
  have hV1 : vw τ 67 = vw σ 2 := (vw_of (fun j hj => hτ _ (by omega))).trans ev
  refine rw_go hX [(971, .aload_n 2)] (by decide +kernel) (Ps := []) (pc' := 972) (lv' := [(0, .ref 990), (1, .ref 0), (2, .ref 66), (3, .int (nI i))]) (st' := [.ref 66, .int r1]) (σ' := τ) rfl True.intro ?_
  refine rw_go hX [(972, .aload_n 0), (973, .iload_n 3), (974, .iconst 1), (975, .iadd)] (by decide +kernel) (Ps := []) (pc' := 976) (lv' := [(0, .ref 990), (1, .ref 0), (2, .ref 66), (3, .int (nI i))]) (st' := [.int (nI i + nI 1), .ref 990, .ref 66, .int r1]) (σ' := τ) rfl True.intro ?_
  refine rw_sld hX hSC (by rw [nI_add]; exact vp_in_nI (by omega) (by omega)) (by decide +kernel) ?_
  refine rw_callVi hX (as := [.int (xs (nI i + nI 1).toNatClampNeg)]) (rest := [.int r1]) (g_group _ _ _ (vw σ 2) (xs (nI i + nI 1).toNatClampNeg) hV1 hJ.1.2) (by decide +kernel) mvX10_group lk11_99 (ci := 9) rfl rfl rfl (by decide) (Nat.le_of_ble_eq_true rfl) rfl ?_
  intro r2 υ h2
  obtain ⟨e2, hm⟩ := h2
  have e : r1 = r2 := pGroup_u e1 e2
  have hJ2 : J0 υ := J0_q hJ hq hm
  exact rw_icmp hX (tgt := 1408) (cnd := .eq) (off := 428) (by decide +kernel) (by decide) (fun _ => kk υ hJ2) (fun h => absurd e h)
set_option maxRecDepth 20000 in
set_option maxHeartbeats 4000000 in
theorem lc_without {E : Cf} {G : Gl} {Q : State → Prop} {b L i : Nat} {xs : Nat → Int32} {σ : Mm} (hX : Cx E G 8 11 code 4 (some .boolean)) (hSC : SC E G b L xs) (hi : i + 7 ≤ L) (hL : L ≤ 3584) (hJ : J0 σ) (ev : vw σ 67 = vw σ 2) (rt : σ 72 = σ 65) (kk : ∀ υ, J0 υ → RW E G 8 4 Q 1408 [(0, .ref 990), (1, .ref 0), (2, .ref 66), (3, .int (nI i))] [] υ) : RW E G 8 4 Q 985 [(0, .ref 990), (1, .ref 0), (2, .ref 66), (3, .int (nI i))] [] σ := by
  refine rw_go hX [(985, .aload_n 1)] (by decide +kernel) (Ps := []) (pc' := 986) (lv' := [(0, .ref 990), (1, .ref 0), (2, .ref 66), (3, .int (nI i))]) (st' := [.ref 0]) (σ' := σ) rfl True.intro ?_
  refine rw_go hX [(986, .aload_n 0), (987, .iload_n 3), (988, .iconst 1), (989, .iadd)] (by decide +kernel) (Ps := []) (pc' := 990) (lv' := [(0, .ref 990), (1, .ref 0), (2, .ref 66), (3, .int (nI i))]) (st' := [.int (nI i + nI 1), .ref 990, .ref 0]) (σ' := σ) rfl True.intro ?_
  refine rw_sld hX hSC (by rw [nI_add]; exact vp_in_nI (by omega) (by omega)) (by decide +kernel) ?_
  refine rw_go hX [(991, .aload_n 0), (992, .iload_n 3), (993, .iconst 2), (994, .iadd)] (by decide +kernel) (Ps := []) (pc' := 995) (lv' := [(0, .ref 990), (1, .ref 0), (2, .ref 66), (3, .int (nI i))]) (st' := [.int (nI i + nI 2), .ref 990, .int (xs (nI i + nI 1).toNatClampNeg), .ref 0]) (σ' := σ) rfl True.intro ?_
  refine rw_sld hX hSC (by rw [nI_add]; exact vp_in_nI (by omega) (by omega)) (by decide +kernel) ?_
  refine rw_callVi hX (as := [.int (xs (nI i + nI 1).toNatClampNeg), .int (xs (nI i + nI 2).toNatClampNeg)]) (rest := []) (f_without _ _ _ (vw σ 2) (xs (nI i + nI 1).toNatClampNeg) (xs (nI i + nI 2).toNatClampNeg) rfl hJ.1.2) (by decide +kernel) mvX9_without lk11_100 (ci := 8) rfl rfl rfl (by decide) (Nat.le_of_ble_eq_true rfl) rfl ?_
  intro r1 τ h1
  obtain ⟨e1, hq⟩ := h1
  have hτ : ∀ k, 66 ≤ k → τ k = σ k := fun k hk => hq k (by omega)
  have hV1 : vw τ 67 = vw σ 2 := (vw_of (fun j hj => hτ _ (by omega))).trans ev
  refine rw_go hX [(999, .aload_n 2)] (by decide +kernel) (Ps := []) (pc' := 1000) (lv' := [(0, .ref 990), (1, .ref 0), (2, .ref 66), (3, .int (nI i))]) (st' := [.ref 66, .int r1]) (σ' := τ) rfl True.intro ?_
  refine rw_go hX [(1000, .aload_n 0), (1001, .iload_n 3), (1002, .iconst 1), (1003, .iadd)] (by decide +kernel) (Ps := []) (pc' := 1004) (lv' := [(0, .ref 990), (1, .ref 0), (2, .ref 66), (3, .int (nI i))]) (st' := [.int (nI i + nI 1), .ref 990, .ref 66, .int r1]) (σ' := τ) rfl True.intro ?_
  refine rw_sld hX hSC (by rw [nI_add]; exact vp_in_nI (by omega) (by omega)) (by decide +kernel) ?_
  refine rw_go hX [(1005, .aload_n 0), (1006, .iload_n 3), (1007, .iconst 2), (1008, .iadd)] (by decide +kernel) (Ps := []) (pc' := 1009) (lv' := [(0, .ref 990), (1, .ref 0), (2, .ref 66), (3, .int (nI i))]) (st' := [.int (nI i + nI 2), .ref 990, .int (xs (nI i + nI 1).toNatClampNeg), .ref 66, .int r1]) (σ' := τ) rfl True.intro ?_
  refine rw_sld hX hSC (by rw [nI_add]; exact vp_in_nI (by omega) (by omega)) (by decide +kernel) ?_
  refine rw_callVi hX (as := [.int (xs (nI i + nI 1).toNatClampNeg), .int (xs (nI i + nI 2).toNatClampNeg)]) (rest := [.int r1]) (g_without _ _ _ (vw σ 2) (xs (nI i + nI 1).toNatClampNeg) (xs (nI i + nI 2).toNatClampNeg) hV1 hJ.1.2) (by decide +kernel) mvX10_without lk11_103 (ci := 9) rfl rfl rfl (by decide) (Nat.le_of_ble_eq_true rfl) rfl ?_
  intro r2 υ h2
  obtain ⟨e2, hm⟩ := h2
  have e : r1 = r2 := e1.trans e2.symm
  have hJ2 : J0 υ := J0_q hJ hq hm
  exact rw_icmp hX (tgt := 1408) (cnd := .eq) (off := 395) (by decide +kernel) (by decide) (fun _ => kk υ hJ2) (fun h => absurd e h)
set_option maxRecDepth 20000 in
set_option maxHeartbeats 4000000 in
theorem lc_drawn {E : Cf} {G : Gl} {Q : State → Prop} {b L i : Nat} {xs : Nat → Int32} {σ : Mm} (hX : Cx E G 8 11 code 4 (some .boolean)) (hSC : SC E G b L xs) (hi : i + 7 ≤ L) (hL : L ≤ 3584) (hJ : J0 σ) (ev : vw σ 67 = vw σ 2) (rt : σ 72 = σ 65) (kk : ∀ υ, J0 υ → RW E G 8 4 Q 1408 [(0, .ref 990), (1, .ref 0), (2, .ref 66), (3, .int (nI i))] [] υ) : RW E G 8 4 Q 1018 [(0, .ref 990), (1, .ref 0), (2, .ref 66), (3, .int (nI i))] [] σ := by
  refine rw_go hX [(1018, .aload_n 1)] (by decide +kernel) (Ps := []) (pc' := 1019) (lv' := [(0, .ref 990), (1, .ref 0), (2, .ref 66), (3, .int (nI i))]) (st' := [.ref 0]) (σ' := σ) rfl True.intro ?_
  refine rw_go hX [(1019, .aload_n 0), (1020, .iload_n 3), (1021, .iconst 1), (1022, .iadd)] (by decide +kernel) (Ps := []) (pc' := 1023) (lv' := [(0, .ref 990), (1, .ref 0), (2, .ref 66), (3, .int (nI i))]) (st' := [.int (nI i + nI 1), .ref 990, .ref 0]) (σ' := σ) rfl True.intro ?_
  refine rw_sld hX hSC (by rw [nI_add]; exact vp_in_nI (by omega) (by omega)) (by decide +kernel) ?_
  refine rw_go hX [(1024, .aload_n 0), (1025, .iload_n 3), (1026, .iconst 2), (1027, .iadd)] (by decide +kernel) (Ps := []) (pc' := 1028) (lv' := [(0, .ref 990), (1, .ref 0), (2, .ref 66), (3, .int (nI i))]) (st' := [.int (nI i + nI 2), .ref 990, .int (xs (nI i + nI 1).toNatClampNeg), .ref 0]) (σ' := σ) rfl True.intro ?_
  refine rw_sld hX hSC (by rw [nI_add]; exact vp_in_nI (by omega) (by omega)) (by decide +kernel) ?_
  refine rw_go hX [(1029, .aload_n 0), (1030, .iload_n 3), (1031, .iconst 3), (1032, .iadd)] (by decide +kernel) (Ps := []) (pc' := 1033) (lv' := [(0, .ref 990), (1, .ref 0), (2, .ref 66), (3, .int (nI i))]) (st' := [.int (nI i + nI 3), .ref 990, .int (xs (nI i + nI 2).toNatClampNeg), .int (xs (nI i + nI 1).toNatClampNeg), .ref 0]) (σ' := σ) rfl True.intro ?_
  refine rw_sld hX hSC (by rw [nI_add]; exact vp_in_nI (by omega) (by omega)) (by decide +kernel) ?_
  refine rw_go hX [(1034, .aload_n 0), (1035, .iload_n 3), (1036, .iconst 4), (1037, .iadd)] (by decide +kernel) (Ps := []) (pc' := 1038) (lv' := [(0, .ref 990), (1, .ref 0), (2, .ref 66), (3, .int (nI i))]) (st' := [.int (nI i + nI 4), .ref 990, .int (xs (nI i + nI 3).toNatClampNeg), .int (xs (nI i + nI 2).toNatClampNeg), .int (xs (nI i + nI 1).toNatClampNeg), .ref 0]) (σ' := σ) rfl True.intro ?_
  refine rw_sld hX hSC (by rw [nI_add]; exact vp_in_nI (by omega) (by omega)) (by decide +kernel) ?_
  refine rw_callVi hX (as := [.int (xs (nI i + nI 1).toNatClampNeg), .int (xs (nI i + nI 2).toNatClampNeg), .int (xs (nI i + nI 3).toNatClampNeg), .int (xs (nI i + nI 4).toNatClampNeg)]) (rest := []) (f_drawn _ _ _ (vw σ 2) (xs (nI i + nI 1).toNatClampNeg) (xs (nI i + nI 2).toNatClampNeg) (xs (nI i + nI 3).toNatClampNeg) (xs (nI i + nI 4).toNatClampNeg) rfl hJ.1.2) (by decide +kernel) mvX9_drawn lk11_104 (ci := 8) rfl rfl rfl (by decide) (Nat.le_of_ble_eq_true rfl) rfl ?_
  intro r1 τ h1
  obtain ⟨e1, hq⟩ := h1
  have hτ : ∀ k, 66 ≤ k → τ k = σ k := fun k hk => hq k (by omega)
  have hV1 : vw τ 67 = vw σ 2 := (vw_of (fun j hj => hτ _ (by omega))).trans ev
  refine rw_go hX [(1042, .aload_n 2)] (by decide +kernel) (Ps := []) (pc' := 1043) (lv' := [(0, .ref 990), (1, .ref 0), (2, .ref 66), (3, .int (nI i))]) (st' := [.ref 66, .int r1]) (σ' := τ) rfl True.intro ?_
  refine rw_go hX [(1043, .aload_n 0), (1044, .iload_n 3), (1045, .iconst 1), (1046, .iadd)] (by decide +kernel) (Ps := []) (pc' := 1047) (lv' := [(0, .ref 990), (1, .ref 0), (2, .ref 66), (3, .int (nI i))]) (st' := [.int (nI i + nI 1), .ref 990, .ref 66, .int r1]) (σ' := τ) rfl True.intro ?_
  refine rw_sld hX hSC (by rw [nI_add]; exact vp_in_nI (by omega) (by omega)) (by decide +kernel) ?_
  refine rw_go hX [(1048, .aload_n 0), (1049, .iload_n 3), (1050, .iconst 2), (1051, .iadd)] (by decide +kernel) (Ps := []) (pc' := 1052) (lv' := [(0, .ref 990), (1, .ref 0), (2, .ref 66), (3, .int (nI i))]) (st' := [.int (nI i + nI 2), .ref 990, .int (xs (nI i + nI 1).toNatClampNeg), .ref 66, .int r1]) (σ' := τ) rfl True.intro ?_
  refine rw_sld hX hSC (by rw [nI_add]; exact vp_in_nI (by omega) (by omega)) (by decide +kernel) ?_
  refine rw_go hX [(1053, .aload_n 0), (1054, .iload_n 3), (1055, .iconst 3), (1056, .iadd)] (by decide +kernel) (Ps := []) (pc' := 1057) (lv' := [(0, .ref 990), (1, .ref 0), (2, .ref 66), (3, .int (nI i))]) (st' := [.int (nI i + nI 3), .ref 990, .int (xs (nI i + nI 2).toNatClampNeg), .int (xs (nI i + nI 1).toNatClampNeg), .ref 66, .int r1]) (σ' := τ) rfl True.intro ?_
  refine rw_sld hX hSC (by rw [nI_add]; exact vp_in_nI (by omega) (by omega)) (by decide +kernel) ?_
  refine rw_go hX [(1058, .aload_n 0), (1059, .iload_n 3), (1060, .iconst 4), (1061, .iadd)] (by decide +kernel) (Ps := []) (pc' := 1062) (lv' := [(0, .ref 990), (1, .ref 0), (2, .ref 66), (3, .int (nI i))]) (st' := [.int (nI i + nI 4), .ref 990, .int (xs (nI i + nI 3).toNatClampNeg), .int (xs (nI i + nI 2).toNatClampNeg), .int (xs (nI i + nI 1).toNatClampNeg), .ref 66, .int r1]) (σ' := τ) rfl True.intro ?_
  refine rw_sld hX hSC (by rw [nI_add]; exact vp_in_nI (by omega) (by omega)) (by decide +kernel) ?_
  refine rw_callVi hX (as := [.int (xs (nI i + nI 1).toNatClampNeg), .int (xs (nI i + nI 2).toNatClampNeg), .int (xs (nI i + nI 3).toNatClampNeg), .int (xs (nI i + nI 4).toNatClampNeg)]) (rest := [.int r1]) (g_drawn _ _ _ (vw σ 2) (xs (nI i + nI 1).toNatClampNeg) (xs (nI i + nI 2).toNatClampNeg) (xs (nI i + nI 3).toNatClampNeg) (xs (nI i + nI 4).toNatClampNeg) hV1 hJ.1.2) (by decide +kernel) mvX10_drawn lk11_107 (ci := 9) rfl rfl rfl (by decide) (Nat.le_of_ble_eq_true rfl) rfl ?_
  intro r2 υ h2
  obtain ⟨e2, hm⟩ := h2
  have e : r1 = r2 := e1.trans e2.symm
  have hJ2 : J0 υ := J0_q hJ hq hm
  exact rw_icmp hX (tgt := 1408) (cnd := .eq) (off := 342) (by decide +kernel) (by decide) (fun _ => kk υ hJ2) (fun h => absurd e h)
set_option maxRecDepth 20000 in
set_option maxHeartbeats 4000000 in
theorem lc_chance {E : Cf} {G : Gl} {Q : State → Prop} {b L i : Nat} {xs : Nat → Int32} {σ : Mm} (hX : Cx E G 8 11 code 4 (some .boolean)) (hSC : SC E G b L xs) (hi : i + 7 ≤ L) (hL : L ≤ 3584) (hJ : J0 σ) (ev : vw σ 67 = vw σ 2) (rt : σ 72 = σ 65) (kk : ∀ υ, J0 υ → RW E G 8 4 Q 1408 [(0, .ref 990), (1, .ref 0), (2, .ref 66), (3, .int (nI i))] [] υ) : RW E G 8 4 Q 1071 [(0, .ref 990), (1, .ref 0), (2, .ref 66), (3, .int (nI i))] [] σ := by
  refine rw_go hX [(1071, .aload_n 1)] (by decide +kernel) (Ps := []) (pc' := 1072) (lv' := [(0, .ref 990), (1, .ref 0), (2, .ref 66), (3, .int (nI i))]) (st' := [.ref 0]) (σ' := σ) rfl True.intro ?_
  refine rw_go hX [(1072, .aload_n 0), (1073, .iload_n 3), (1074, .iconst 1), (1075, .iadd)] (by decide +kernel) (Ps := []) (pc' := 1076) (lv' := [(0, .ref 990), (1, .ref 0), (2, .ref 66), (3, .int (nI i))]) (st' := [.int (nI i + nI 1), .ref 990, .ref 0]) (σ' := σ) rfl True.intro ?_
  refine rw_sld hX hSC (by rw [nI_add]; exact vp_in_nI (by omega) (by omega)) (by decide +kernel) ?_
  refine rw_go hX [(1077, .aload_n 0), (1078, .iload_n 3), (1079, .iconst 2), (1080, .iadd)] (by decide +kernel) (Ps := []) (pc' := 1081) (lv' := [(0, .ref 990), (1, .ref 0), (2, .ref 66), (3, .int (nI i))]) (st' := [.int (nI i + nI 2), .ref 990, .int (xs (nI i + nI 1).toNatClampNeg), .ref 0]) (σ' := σ) rfl True.intro ?_
  refine rw_sld hX hSC (by rw [nI_add]; exact vp_in_nI (by omega) (by omega)) (by decide +kernel) ?_
  refine rw_go hX [(1082, .aload_n 0), (1083, .iload_n 3), (1084, .iconst 3), (1085, .iadd)] (by decide +kernel) (Ps := []) (pc' := 1086) (lv' := [(0, .ref 990), (1, .ref 0), (2, .ref 66), (3, .int (nI i))]) (st' := [.int (nI i + nI 3), .ref 990, .int (xs (nI i + nI 2).toNatClampNeg), .int (xs (nI i + nI 1).toNatClampNeg), .ref 0]) (σ' := σ) rfl True.intro ?_
  refine rw_sld hX hSC (by rw [nI_add]; exact vp_in_nI (by omega) (by omega)) (by decide +kernel) ?_
  refine rw_go hX [(1087, .aload_n 0), (1088, .iload_n 3), (1089, .iconst 4), (1090, .iadd)] (by decide +kernel) (Ps := []) (pc' := 1091) (lv' := [(0, .ref 990), (1, .ref 0), (2, .ref 66), (3, .int (nI i))]) (st' := [.int (nI i + nI 4), .ref 990, .int (xs (nI i + nI 3).toNatClampNeg), .int (xs (nI i + nI 2).toNatClampNeg), .int (xs (nI i + nI 1).toNatClampNeg), .ref 0]) (σ' := σ) rfl True.intro ?_
  refine rw_sld hX hSC (by rw [nI_add]; exact vp_in_nI (by omega) (by omega)) (by decide +kernel) ?_
  refine rw_go hX [(1092, .aload_n 0), (1093, .iload_n 3), (1094, .iconst 5), (1095, .iadd)] (by decide +kernel) (Ps := []) (pc' := 1096) (lv' := [(0, .ref 990), (1, .ref 0), (2, .ref 66), (3, .int (nI i))]) (st' := [.int (nI i + nI 5), .ref 990, .int (xs (nI i + nI 4).toNatClampNeg), .int (xs (nI i + nI 3).toNatClampNeg), .int (xs (nI i + nI 2).toNatClampNeg), .int (xs (nI i + nI 1).toNatClampNeg), .ref 0]) (σ' := σ) rfl True.intro ?_
  refine rw_sld hX hSC (by rw [nI_add]; exact vp_in_nI (by omega) (by omega)) (by decide +kernel) ?_
  refine rw_callVi hX (as := [.int (xs (nI i + nI 1).toNatClampNeg), .int (xs (nI i + nI 2).toNatClampNeg), .int (xs (nI i + nI 3).toNatClampNeg), .int (xs (nI i + nI 4).toNatClampNeg), .int (xs (nI i + nI 5).toNatClampNeg)]) (rest := []) (f_chance _ _ _ (vw σ 2) (xs (nI i + nI 1).toNatClampNeg) (xs (nI i + nI 2).toNatClampNeg) (xs (nI i + nI 3).toNatClampNeg) (xs (nI i + nI 4).toNatClampNeg) (xs (nI i + nI 5).toNatClampNeg) rfl hJ.1.2) (by decide +kernel) mvX9_chance lk11_108 (ci := 8) rfl rfl rfl (by decide) (Nat.le_of_ble_eq_true rfl) rfl ?_
  intro r1 τ h1
  obtain ⟨e1, hq⟩ := h1
  have hτ : ∀ k, 66 ≤ k → τ k = σ k := fun k hk => hq k (by omega)
  have hV1 : vw τ 67 = vw σ 2 := (vw_of (fun j hj => hτ _ (by omega))).trans ev
  refine rw_go hX [(1100, .aload_n 2)] (by decide +kernel) (Ps := []) (pc' := 1101) (lv' := [(0, .ref 990), (1, .ref 0), (2, .ref 66), (3, .int (nI i))]) (st' := [.ref 66, .int r1]) (σ' := τ) rfl True.intro ?_
  refine rw_go hX [(1101, .aload_n 0), (1102, .iload_n 3), (1103, .iconst 1), (1104, .iadd)] (by decide +kernel) (Ps := []) (pc' := 1105) (lv' := [(0, .ref 990), (1, .ref 0), (2, .ref 66), (3, .int (nI i))]) (st' := [.int (nI i + nI 1), .ref 990, .ref 66, .int r1]) (σ' := τ) rfl True.intro ?_
  refine rw_sld hX hSC (by rw [nI_add]; exact vp_in_nI (by omega) (by omega)) (by decide +kernel) ?_
  refine rw_go hX [(1106, .aload_n 0), (1107, .iload_n 3), (1108, .iconst 2), (1109, .iadd)] (by decide +kernel) (Ps := []) (pc' := 1110) (lv' := [(0, .ref 990), (1, .ref 0), (2, .ref 66), (3, .int (nI i))]) (st' := [.int (nI i + nI 2), .ref 990, .int (xs (nI i + nI 1).toNatClampNeg), .ref 66, .int r1]) (σ' := τ) rfl True.intro ?_
  refine rw_sld hX hSC (by rw [nI_add]; exact vp_in_nI (by omega) (by omega)) (by decide +kernel) ?_
  refine rw_go hX [(1111, .aload_n 0), (1112, .iload_n 3), (1113, .iconst 3), (1114, .iadd)] (by decide +kernel) (Ps := []) (pc' := 1115) (lv' := [(0, .ref 990), (1, .ref 0), (2, .ref 66), (3, .int (nI i))]) (st' := [.int (nI i + nI 3), .ref 990, .int (xs (nI i + nI 2).toNatClampNeg), .int (xs (nI i + nI 1).toNatClampNeg), .ref 66, .int r1]) (σ' := τ) rfl True.intro ?_
  refine rw_sld hX hSC (by rw [nI_add]; exact vp_in_nI (by omega) (by omega)) (by decide +kernel) ?_
  refine rw_go hX [(1116, .aload_n 0), (1117, .iload_n 3), (1118, .iconst 4), (1119, .iadd)] (by decide +kernel) (Ps := []) (pc' := 1120) (lv' := [(0, .ref 990), (1, .ref 0), (2, .ref 66), (3, .int (nI i))]) (st' := [.int (nI i + nI 4), .ref 990, .int (xs (nI i + nI 3).toNatClampNeg), .int (xs (nI i + nI 2).toNatClampNeg), .int (xs (nI i + nI 1).toNatClampNeg), .ref 66, .int r1]) (σ' := τ) rfl True.intro ?_
  refine rw_sld hX hSC (by rw [nI_add]; exact vp_in_nI (by omega) (by omega)) (by decide +kernel) ?_
  refine rw_go hX [(1121, .aload_n 0), (1122, .iload_n 3), (1123, .iconst 5), (1124, .iadd)] (by decide +kernel) (Ps := []) (pc' := 1125) (lv' := [(0, .ref 990), (1, .ref 0), (2, .ref 66), (3, .int (nI i))]) (st' := [.int (nI i + nI 5), .ref 990, .int (xs (nI i + nI 4).toNatClampNeg), .int (xs (nI i + nI 3).toNatClampNeg), .int (xs (nI i + nI 2).toNatClampNeg), .int (xs (nI i + nI 1).toNatClampNeg), .ref 66, .int r1]) (σ' := τ) rfl True.intro ?_
  refine rw_sld hX hSC (by rw [nI_add]; exact vp_in_nI (by omega) (by omega)) (by decide +kernel) ?_
  refine rw_callVi hX (as := [.int (xs (nI i + nI 1).toNatClampNeg), .int (xs (nI i + nI 2).toNatClampNeg), .int (xs (nI i + nI 3).toNatClampNeg), .int (xs (nI i + nI 4).toNatClampNeg), .int (xs (nI i + nI 5).toNatClampNeg)]) (rest := [.int r1]) (g_chance _ _ _ (vw σ 2) (xs (nI i + nI 1).toNatClampNeg) (xs (nI i + nI 2).toNatClampNeg) (xs (nI i + nI 3).toNatClampNeg) (xs (nI i + nI 4).toNatClampNeg) (xs (nI i + nI 5).toNatClampNeg) hV1 hJ.1.2) (by decide +kernel) mvX10_chance lk11_111 (ci := 9) rfl rfl rfl (by decide) (Nat.le_of_ble_eq_true rfl) rfl ?_
  intro r2 υ h2
  obtain ⟨e2, hm⟩ := h2
  have e : r1 = r2 := e1.trans e2.symm
  have hJ2 : J0 υ := J0_q hJ hq hm
  exact rw_icmp hX (tgt := 1408) (cnd := .eq) (off := 279) (by decide +kernel) (by decide) (fun _ => kk υ hJ2) (fun h => absurd e h)
set_option maxRecDepth 20000 in
set_option maxHeartbeats 4000000 in
theorem lc_tells {E : Cf} {G : Gl} {Q : State → Prop} {b L i : Nat} {xs : Nat → Int32} {σ : Mm} (hX : Cx E G 8 11 code 4 (some .boolean)) (hSC : SC E G b L xs) (hi : i + 7 ≤ L) (hL : L ≤ 3584) (hJ : J0 σ) (ev : vw σ 67 = vw σ 2) (rt : σ 72 = σ 65) (kk : ∀ υ, J0 υ → RW E G 8 4 Q 1408 [(0, .ref 990), (1, .ref 0), (2, .ref 66), (3, .int (nI i))] [] υ) : RW E G 8 4 Q 1134 [(0, .ref 990), (1, .ref 0), (2, .ref 66), (3, .int (nI i))] [] σ := by
  obtain ⟨n, hn⟩ := J4_n hJ.2.2.2
  refine rw_go hX [(1134, .aload_n 1)] (by decide +kernel) (Ps := []) (pc' := 1135) (lv' := [(0, .ref 990), (1, .ref 0), (2, .ref 66), (3, .int (nI i))]) (st' := [.ref 0]) (σ' := σ) rfl True.intro ?_
  refine rw_go hX [(1135, .aload_n 0), (1136, .iload_n 3), (1137, .iconst 1), (1138, .iadd)] (by decide +kernel) (Ps := []) (pc' := 1139) (lv' := [(0, .ref 990), (1, .ref 0), (2, .ref 66), (3, .int (nI i))]) (st' := [.int (nI i + nI 1), .ref 990, .ref 0]) (σ' := σ) rfl True.intro ?_
  refine rw_sld hX hSC (by rw [nI_add]; exact vp_in_nI (by omega) (by omega)) (by decide +kernel) ?_
  refine rw_go hX [(1140, .aload_n 0), (1141, .iload_n 3), (1142, .iconst 2), (1143, .iadd)] (by decide +kernel) (Ps := []) (pc' := 1144) (lv' := [(0, .ref 990), (1, .ref 0), (2, .ref 66), (3, .int (nI i))]) (st' := [.int (nI i + nI 2), .ref 990, .int (xs (nI i + nI 1).toNatClampNeg), .ref 0]) (σ' := σ) rfl True.intro ?_
  refine rw_sld hX hSC (by rw [nI_add]; exact vp_in_nI (by omega) (by omega)) (by decide +kernel) ?_
  refine rw_go hX [(1145, .aload_n 0), (1146, .iload_n 3), (1147, .iconst 3), (1148, .iadd)] (by decide +kernel) (Ps := []) (pc' := 1149) (lv' := [(0, .ref 990), (1, .ref 0), (2, .ref 66), (3, .int (nI i))]) (st' := [.int (nI i + nI 3), .ref 990, .int (xs (nI i + nI 2).toNatClampNeg), .int (xs (nI i + nI 1).toNatClampNeg), .ref 0]) (σ' := σ) rfl True.intro ?_
  refine rw_sld hX hSC (by rw [nI_add]; exact vp_in_nI (by omega) (by omega)) (by decide +kernel) ?_
  refine rw_callVi hX (as := [.int (xs (nI i + nI 1).toNatClampNeg), .int (xs (nI i + nI 2).toNatClampNeg), .int (xs (nI i + nI 3).toNatClampNeg)]) (rest := []) (f_tells _ _ _ (vw σ 2) n (xs (nI i + nI 1).toNatClampNeg) (xs (nI i + nI 2).toNatClampNeg) (xs (nI i + nI 3).toNatClampNeg) rfl hJ.1.2 (fun s hs => ⟨(hn s hs).2.1, (hn s hs).1⟩)) (by decide +kernel) mvX9_tells lk11_112 (ci := 8) rfl rfl rfl (by decide) (Nat.le_of_ble_eq_true rfl) rfl ?_
  intro r1 τ h1
  obtain ⟨e1, hq⟩ := h1
  have hτ : ∀ k, 66 ≤ k → τ k = σ k := fun k hk => hq k (by omega)
  have hV1 : vw τ 67 = vw σ 2 := (vw_of (fun j hj => hτ _ (by omega))).trans ev
  refine rw_go hX [(1153, .aload_n 2)] (by decide +kernel) (Ps := []) (pc' := 1154) (lv' := [(0, .ref 990), (1, .ref 0), (2, .ref 66), (3, .int (nI i))]) (st' := [.ref 66, .int r1]) (σ' := τ) rfl True.intro ?_
  refine rw_go hX [(1154, .aload_n 0), (1155, .iload_n 3), (1156, .iconst 1), (1157, .iadd)] (by decide +kernel) (Ps := []) (pc' := 1158) (lv' := [(0, .ref 990), (1, .ref 0), (2, .ref 66), (3, .int (nI i))]) (st' := [.int (nI i + nI 1), .ref 990, .ref 66, .int r1]) (σ' := τ) rfl True.intro ?_
  refine rw_sld hX hSC (by rw [nI_add]; exact vp_in_nI (by omega) (by omega)) (by decide +kernel) ?_
  refine rw_go hX [(1159, .aload_n 0), (1160, .iload_n 3), (1161, .iconst 2), (1162, .iadd)] (by decide +kernel) (Ps := []) (pc' := 1163) (lv' := [(0, .ref 990), (1, .ref 0), (2, .ref 66), (3, .int (nI i))]) (st' := [.int (nI i + nI 2), .ref 990, .int (xs (nI i + nI 1).toNatClampNeg), .ref 66, .int r1]) (σ' := τ) rfl True.intro ?_
  refine rw_sld hX hSC (by rw [nI_add]; exact vp_in_nI (by omega) (by omega)) (by decide +kernel) ?_
  refine rw_go hX [(1164, .aload_n 0), (1165, .iload_n 3), (1166, .iconst 3), (1167, .iadd)] (by decide +kernel) (Ps := []) (pc' := 1168) (lv' := [(0, .ref 990), (1, .ref 0), (2, .ref 66), (3, .int (nI i))]) (st' := [.int (nI i + nI 3), .ref 990, .int (xs (nI i + nI 2).toNatClampNeg), .int (xs (nI i + nI 1).toNatClampNeg), .ref 66, .int r1]) (σ' := τ) rfl True.intro ?_
  refine rw_sld hX hSC (by rw [nI_add]; exact vp_in_nI (by omega) (by omega)) (by decide +kernel) ?_
  refine rw_callVi hX (as := [.int (xs (nI i + nI 1).toNatClampNeg), .int (xs (nI i + nI 2).toNatClampNeg), .int (xs (nI i + nI 3).toNatClampNeg)]) (rest := [.int r1]) (g_tells _ _ _ (vw σ 2) n (xs (nI i + nI 1).toNatClampNeg) (xs (nI i + nI 2).toNatClampNeg) (xs (nI i + nI 3).toNatClampNeg) hV1 hJ.1.2 (fun s hs => ⟨by rw [hτ 98 (by omega)]; exact (hn s hs).2.2.1, (hn s hs).1⟩) (fun s hs => by rw [hτ 97 (by omega)]; exact (hn s hs).2.2.2.2.1)) (by decide +kernel) mvX10_tells lk11_115 (ci := 9) rfl rfl rfl (by decide) (Nat.le_of_ble_eq_true rfl) rfl ?_
  intro r2 υ h2
  obtain ⟨e2, hm⟩ := h2
  have e : r1 = r2 := pTells_u hJ.1.2 hn hτ e1 e2
  have hJ2 : J0 υ := J0_q hJ hq hm
  exact rw_icmp hX (tgt := 1408) (cnd := .eq) (off := 236) (by decide +kernel) (by decide) (fun _ => kk υ hJ2) (fun h => absurd e h)
set_option maxRecDepth 20000 in
set_option maxHeartbeats 4000000 in
theorem lc_film {E : Cf} {G : Gl} {Q : State → Prop} {b L i : Nat} {xs : Nat → Int32} {σ : Mm} (hX : Cx E G 8 11 code 4 (some .boolean)) (hSC : SC E G b L xs) (hi : i + 7 ≤ L) (hL : L ≤ 3584) (hJ : J0 σ) (ev : vw σ 67 = vw σ 2) (rt : σ 72 = σ 65) (kk : ∀ υ, J0 υ → RW E G 8 4 Q 1408 [(0, .ref 990), (1, .ref 0), (2, .ref 66), (3, .int (nI i))] [] υ) : RW E G 8 4 Q 1177 [(0, .ref 990), (1, .ref 0), (2, .ref 66), (3, .int (nI i))] [] σ := by
  obtain ⟨n, hn⟩ := J4_n hJ.2.2.2
  refine rw_go hX [(1177, .aload_n 1)] (by decide +kernel) (Ps := []) (pc' := 1178) (lv' := [(0, .ref 990), (1, .ref 0), (2, .ref 66), (3, .int (nI i))]) (st' := [.ref 0]) (σ' := σ) rfl True.intro ?_
  refine rw_go hX [(1178, .aload_n 0), (1179, .iload_n 3), (1180, .iconst 1), (1181, .iadd)] (by decide +kernel) (Ps := []) (pc' := 1182) (lv' := [(0, .ref 990), (1, .ref 0), (2, .ref 66), (3, .int (nI i))]) (st' := [.int (nI i + nI 1), .ref 990, .ref 0]) (σ' := σ) rfl True.intro ?_
  refine rw_sld hX hSC (by rw [nI_add]; exact vp_in_nI (by omega) (by omega)) (by decide +kernel) ?_
  refine rw_go hX [(1183, .aload_n 0), (1184, .iload_n 3), (1185, .iconst 2), (1186, .iadd)] (by decide +kernel) (Ps := []) (pc' := 1187) (lv' := [(0, .ref 990), (1, .ref 0), (2, .ref 66), (3, .int (nI i))]) (st' := [.int (nI i + nI 2), .ref 990, .int (xs (nI i + nI 1).toNatClampNeg), .ref 0]) (σ' := σ) rfl True.intro ?_
  refine rw_sld hX hSC (by rw [nI_add]; exact vp_in_nI (by omega) (by omega)) (by decide +kernel) ?_
  refine rw_callVi hX (as := [.int (xs (nI i + nI 1).toNatClampNeg), .int (xs (nI i + nI 2).toNatClampNeg)]) (rest := []) (f_film _ _ _ (vw σ 2) n (xs (nI i + nI 1).toNatClampNeg) (xs (nI i + nI 2).toNatClampNeg) rfl hJ.1.2 (fun s hs => ⟨(hn s hs).2.1, (hn s hs).1⟩)) (by decide +kernel) mvX9_film lk11_116 (ci := 8) rfl rfl rfl (by decide) (Nat.le_of_ble_eq_true rfl) rfl ?_
  intro r1 τ h1
  obtain ⟨e1, hs1⟩ := h1
  have hτ : ∀ k, 66 ≤ k → τ k = σ k := fun k hk => fr_film hs1 hk
  have hV1 : vw τ 67 = vw σ 2 := (vw_of (fun j hj => hτ _ (by omega))).trans ev
  refine rw_go hX [(1191, .aload_n 2)] (by decide +kernel) (Ps := []) (pc' := 1192) (lv' := [(0, .ref 990), (1, .ref 0), (2, .ref 66), (3, .int (nI i))]) (st' := [.ref 66, .int r1]) (σ' := τ) rfl True.intro ?_
  refine rw_go hX [(1192, .aload_n 0), (1193, .iload_n 3), (1194, .iconst 1), (1195, .iadd)] (by decide +kernel) (Ps := []) (pc' := 1196) (lv' := [(0, .ref 990), (1, .ref 0), (2, .ref 66), (3, .int (nI i))]) (st' := [.int (nI i + nI 1), .ref 990, .ref 66, .int r1]) (σ' := τ) rfl True.intro ?_
  refine rw_sld hX hSC (by rw [nI_add]; exact vp_in_nI (by omega) (by omega)) (by decide +kernel) ?_
  refine rw_go hX [(1197, .aload_n 0), (1198, .iload_n 3), (1199, .iconst 2), (1200, .iadd)] (by decide +kernel) (Ps := []) (pc' := 1201) (lv' := [(0, .ref 990), (1, .ref 0), (2, .ref 66), (3, .int (nI i))]) (st' := [.int (nI i + nI 2), .ref 990, .int (xs (nI i + nI 1).toNatClampNeg), .ref 66, .int r1]) (σ' := τ) rfl True.intro ?_
  refine rw_sld hX hSC (by rw [nI_add]; exact vp_in_nI (by omega) (by omega)) (by decide +kernel) ?_
  refine rw_callVi hX (as := [.int (xs (nI i + nI 1).toNatClampNeg), .int (xs (nI i + nI 2).toNatClampNeg)]) (rest := [.int r1]) (g_film _ _ _ (vw σ 2) (xs (nI i + nI 1).toNatClampNeg) (xs (nI i + nI 2).toNatClampNeg) hV1 hJ.1.2) (by decide +kernel) mvX10_film lk11_119 (ci := 9) rfl rfl rfl (by decide) (Nat.le_of_ble_eq_true rfl) rfl ?_
  intro r2 υ h2
  obtain ⟨e2, hs2⟩ := h2
  have e : r1 = r2 := e1.trans e2.symm
  have hJ2 : J0 υ := st_film hJ _ _ hs1 hs2
  exact rw_icmp hX (tgt := 1408) (cnd := .eq) (off := 203) (by decide +kernel) (by decide) (fun _ => kk υ hJ2) (fun h => absurd e h)
set_option maxRecDepth 20000 in
set_option maxHeartbeats 4000000 in
theorem lc_image {E : Cf} {G : Gl} {Q : State → Prop} {b L i : Nat} {xs : Nat → Int32} {σ : Mm} (hX : Cx E G 8 11 code 4 (some .boolean)) (hSC : SC E G b L xs) (hi : i + 7 ≤ L) (hL : L ≤ 3584) (hJ : J0 σ) (ev : vw σ 67 = vw σ 2) (rt : σ 72 = σ 65) (kk : ∀ υ, J0 υ → RW E G 8 4 Q 1408 [(0, .ref 990), (1, .ref 0), (2, .ref 66), (3, .int (nI i))] [] υ) : RW E G 8 4 Q 1210 [(0, .ref 990), (1, .ref 0), (2, .ref 66), (3, .int (nI i))] [] σ := by
  refine rw_go hX [(1210, .aload_n 1)] (by decide +kernel) (Ps := []) (pc' := 1211) (lv' := [(0, .ref 990), (1, .ref 0), (2, .ref 66), (3, .int (nI i))]) (st' := [.ref 0]) (σ' := σ) rfl True.intro ?_
  refine rw_callVi hX (as := []) (rest := []) (f_image _ _ _ (vw σ 2) rfl hJ.1.2) (by decide +kernel) mvX9_image lk11_120 (ci := 8) rfl rfl rfl (by decide) (Nat.le_of_ble_eq_true rfl) rfl ?_
  intro r1 τ h1
  obtain ⟨e1, eτ⟩ := h1
  have hτ : ∀ k, 66 ≤ k → τ k = σ k := fun k hk => by rw [eτ]; exact fr_image σ hk
  have hV1 : vw τ 67 = vw σ 2 := (vw_of (fun j hj => hτ _ (by omega))).trans ev
  refine rw_go hX [(1214, .aload_n 2)] (by decide +kernel) (Ps := []) (pc' := 1215) (lv' := [(0, .ref 990), (1, .ref 0), (2, .ref 66), (3, .int (nI i))]) (st' := [.ref 66, .int r1]) (σ' := τ) rfl True.intro ?_
  refine rw_callVi hX (as := []) (rest := [.int r1]) (g_image _ _ _ (vw σ 2) hV1 hJ.1.2) (by decide +kernel) mvX10_image lk11_124 (ci := 9) rfl rfl rfl (by decide) (Nat.le_of_ble_eq_true rfl) rfl ?_
  intro r2 υ h2
  obtain ⟨e2, hs2⟩ := h2
  have e : r1 = r2 := e1.trans e2.symm
  rw [eτ] at hs2
  have hJ2 : J0 υ := st_image hJ hs2
  exact rw_icmp hX (tgt := 1408) (cnd := .eq) (off := 190) (by decide +kernel) (by decide) (fun _ => kk υ hJ2) (fun h => absurd e h)
set_option maxRecDepth 20000 in
set_option maxHeartbeats 4000000 in
theorem lc_back {E : Cf} {G : Gl} {Q : State → Prop} {b L i : Nat} {xs : Nat → Int32} {σ : Mm} (hX : Cx E G 8 11 code 4 (some .boolean)) (hSC : SC E G b L xs) (hi : i + 7 ≤ L) (hL : L ≤ 3584) (hJ : J0 σ) (ev : vw σ 67 = vw σ 2) (rt : σ 72 = σ 65) (kk : ∀ υ, J0 υ → RW E G 8 4 Q 1408 [(0, .ref 990), (1, .ref 0), (2, .ref 66), (3, .int (nI i))] [] υ) : RW E G 8 4 Q 1223 [(0, .ref 990), (1, .ref 0), (2, .ref 66), (3, .int (nI i))] [] σ := by
  obtain ⟨b9, hb7, hb8, hbI⟩ := hJ.2.2.1
  refine rw_go hX [(1223, .aload_n 1)] (by decide +kernel) (Ps := []) (pc' := 1224) (lv' := [(0, .ref 990), (1, .ref 0), (2, .ref 66), (3, .int (nI i))]) (st' := [.ref 0]) (σ' := σ) rfl True.intro ?_
  refine rw_callVi hX (as := []) (rest := []) (f_back _ _ _ (vw σ 9) b9 rfl (fun z => (hbI z).1) hb7) (by decide +kernel) mvX9_back lk11_125 (ci := 8) rfl rfl rfl (by decide) (Nat.le_of_ble_eq_true rfl) rfl ?_
  intro r1 τ h1
  obtain ⟨e1, eτ⟩ := h1
  have hτ : ∀ k, 66 ≤ k → τ k = σ k := fun k hk => by rw [eτ]; exact fr_back σ b9 hk
  refine rw_go hX [(1227, .aload_n 2)] (by decide +kernel) (Ps := []) (pc' := 1228) (lv' := [(0, .ref 990), (1, .ref 0), (2, .ref 66), (3, .int (nI i))]) (st' := [.ref 66, .int r1]) (σ' := τ) rfl True.intro ?_
  refine rw_callVi hX (as := []) (rest := [.int r1]) (g_back _ _ _ (vw σ 9) b9 (fun z => by unfold IMw; rw [hτ 73 (by omega)]; exact (hbI z).2) (fun z => (hbI z).1) (by rw [hτ 66 (by omega)]; exact hb8)) (by decide +kernel) mvX10_back lk11_128 (ci := 9) rfl rfl rfl (by decide) (Nat.le_of_ble_eq_true rfl) rfl ?_
  intro r2 υ h2
  obtain ⟨e2, hs2⟩ := h2
  have e : r1 = r2 := e1.trans e2.symm
  rw [eτ] at hs2
  have hJ2 : J0 υ := st_back hJ hb7 hs2
  exact rw_icmp hX (tgt := 1408) (cnd := .eq) (off := 177) (by decide +kernel) (by decide) (fun _ => kk υ hJ2) (fun h => absurd e h)
set_option maxRecDepth 20000 in
set_option maxHeartbeats 4000000 in
theorem lc_count {E : Cf} {G : Gl} {Q : State → Prop} {b L i : Nat} {xs : Nat → Int32} {σ : Mm} (hX : Cx E G 8 11 code 4 (some .boolean)) (hSC : SC E G b L xs) (hi : i + 7 ≤ L) (hL : L ≤ 3584) (hJ : J0 σ) (ev : vw σ 67 = vw σ 2) (rt : σ 72 = σ 65) (kk : ∀ υ, J0 υ → RW E G 8 4 Q 1408 [(0, .ref 990), (1, .ref 0), (2, .ref 66), (3, .int (nI i))] [] υ) : RW E G 8 4 Q 1236 [(0, .ref 990), (1, .ref 0), (2, .ref 66), (3, .int (nI i))] [] σ := by
  obtain ⟨t, ht, ht2, ht5, htp⟩ := hJ.2.1
  refine rw_go hX [(1236, .aload_n 1)] (by decide +kernel) (Ps := []) (pc' := 1237) (lv' := [(0, .ref 990), (1, .ref 0), (2, .ref 66), (3, .int (nI i))]) (st' := [.ref 0]) (σ' := σ) rfl True.intro ?_
  refine rw_go hX [(1237, .aload_n 0), (1238, .iload_n 3), (1239, .iconst 1), (1240, .iadd)] (by decide +kernel) (Ps := []) (pc' := 1241) (lv' := [(0, .ref 990), (1, .ref 0), (2, .ref 66), (3, .int (nI i))]) (st' := [.int (nI i + nI 1), .ref 990, .ref 0]) (σ' := σ) rfl True.intro ?_
  refine rw_sld hX hSC (by rw [nI_add]; exact vp_in_nI (by omega) (by omega)) (by decide +kernel) ?_
  refine rw_callVi hX (as := [.int (xs (nI i + nI 1).toNatClampNeg)]) (rest := []) (f_count _ _ _ (vw σ 2) t (xs (nI i + nI 1).toNatClampNeg) rfl hJ.1.2 ht) (by decide +kernel) mvX9_count lk11_129 (ci := 8) rfl rfl rfl (by decide) (Nat.le_of_ble_eq_true rfl) rfl ?_
  intro r1 τ h1
  obtain ⟨e1, hq⟩ := h1
  have hτ : ∀ k, 66 ≤ k → τ k = σ k := fun k hk => hq k (by omega)
  have hV1 : vw τ 67 = vw σ 2 := (vw_of (fun j hj => hτ _ (by omega))).trans ev
  refine rw_go hX [(1245, .aload_n 2)] (by decide +kernel) (Ps := []) (pc' := 1246) (lv' := [(0, .ref 990), (1, .ref 0), (2, .ref 66), (3, .int (nI i))]) (st' := [.ref 66, .int r1]) (σ' := τ) rfl True.intro ?_
  refine rw_go hX [(1246, .aload_n 0), (1247, .iload_n 3), (1248, .iconst 1), (1249, .iadd)] (by decide +kernel) (Ps := []) (pc' := 1250) (lv' := [(0, .ref 990), (1, .ref 0), (2, .ref 66), (3, .int (nI i))]) (st' := [.int (nI i + nI 1), .ref 990, .ref 66, .int r1]) (σ' := τ) rfl True.intro ?_
  refine rw_sld hX hSC (by rw [nI_add]; exact vp_in_nI (by omega) (by omega)) (by decide +kernel) ?_
  refine rw_callVi hX (as := [.int (xs (nI i + nI 1).toNatClampNeg)]) (rest := [.int r1]) (g_count _ _ _ (vw σ 2) t (xs (nI i + nI 1).toNatClampNeg) hV1 hJ.1.2 (by rw [hτ 66 (by omega)]; exact ht2)) (by decide +kernel) mvX10_count lk11_132 (ci := 9) rfl rfl rfl (by decide) (Nat.le_of_ble_eq_true rfl) rfl ?_
  intro r2 υ h2
  obtain ⟨e2, hm⟩ := h2
  have e : r1 = r2 := e1.trans e2.symm
  have hJ2 : J0 υ := J0_q hJ hq hm
  exact rw_icmp hX (tgt := 1408) (cnd := .eq) (off := 154) (by decide +kernel) (by decide) (fun _ => kk υ hJ2) (fun h => absurd e h)
set_option maxRecDepth 20000 in
set_option maxHeartbeats 4000000 in
theorem lc_sheet {E : Cf} {G : Gl} {Q : State → Prop} {b L i : Nat} {xs : Nat → Int32} {σ : Mm} (hX : Cx E G 8 11 code 4 (some .boolean)) (hSC : SC E G b L xs) (hi : i + 7 ≤ L) (hL : L ≤ 3584) (hJ : J0 σ) (ev : vw σ 67 = vw σ 2) (rt : σ 72 = σ 65) (kk : ∀ υ, J0 υ → RW E G 8 4 Q 1408 [(0, .ref 990), (1, .ref 0), (2, .ref 66), (3, .int (nI i))] [] υ) : RW E G 8 4 Q 1259 [(0, .ref 990), (1, .ref 0), (2, .ref 66), (3, .int (nI i))] [] σ := by
  obtain ⟨n, hn⟩ := J4_n hJ.2.2.2
  refine rw_go hX [(1259, .aload_n 1)] (by decide +kernel) (Ps := []) (pc' := 1260) (lv' := [(0, .ref 990), (1, .ref 0), (2, .ref 66), (3, .int (nI i))]) (st' := [.ref 0]) (σ' := σ) rfl True.intro ?_
  refine rw_go hX [(1260, .aload_n 0), (1261, .iload_n 3), (1262, .iconst 1), (1263, .iadd)] (by decide +kernel) (Ps := []) (pc' := 1264) (lv' := [(0, .ref 990), (1, .ref 0), (2, .ref 66), (3, .int (nI i))]) (st' := [.int (nI i + nI 1), .ref 990, .ref 0]) (σ' := σ) rfl True.intro ?_
  refine rw_sld hX hSC (by rw [nI_add]; exact vp_in_nI (by omega) (by omega)) (by decide +kernel) ?_
  refine rw_go hX [(1265, .aload_n 0), (1266, .iload_n 3), (1267, .iconst 2), (1268, .iadd)] (by decide +kernel) (Ps := []) (pc' := 1269) (lv' := [(0, .ref 990), (1, .ref 0), (2, .ref 66), (3, .int (nI i))]) (st' := [.int (nI i + nI 2), .ref 990, .int (xs (nI i + nI 1).toNatClampNeg), .ref 0]) (σ' := σ) rfl True.intro ?_
  refine rw_sld hX hSC (by rw [nI_add]; exact vp_in_nI (by omega) (by omega)) (by decide +kernel) ?_
  refine rw_go hX [(1270, .aload_n 0), (1271, .iload_n 3), (1272, .iconst 3), (1273, .iadd)] (by decide +kernel) (Ps := []) (pc' := 1274) (lv' := [(0, .ref 990), (1, .ref 0), (2, .ref 66), (3, .int (nI i))]) (st' := [.int (nI i + nI 3), .ref 990, .int (xs (nI i + nI 2).toNatClampNeg), .int (xs (nI i + nI 1).toNatClampNeg), .ref 0]) (σ' := σ) rfl True.intro ?_
  refine rw_sld hX hSC (by rw [nI_add]; exact vp_in_nI (by omega) (by omega)) (by decide +kernel) ?_
  refine rw_callVi hX (as := [.int (xs (nI i + nI 1).toNatClampNeg), .int (xs (nI i + nI 2).toNatClampNeg), .int (xs (nI i + nI 3).toNatClampNeg)]) (rest := []) (f_sheet _ _ _ n (xs (nI i + nI 1).toNatClampNeg) (xs (nI i + nI 2).toNatClampNeg) (xs (nI i + nI 3).toNatClampNeg) (fun s hs => ⟨(hn s hs).2.1, (hn s hs).1⟩)) (by decide +kernel) mvX9_sheet lk11_133 (ci := 8) rfl rfl rfl (by decide) (Nat.le_of_ble_eq_true rfl) rfl ?_
  intro r1 τ h1
  obtain ⟨e1, eτ⟩ := h1
  refine rw_go hX [(1278, .aload_n 2)] (by decide +kernel) (Ps := []) (pc' := 1279) (lv' := [(0, .ref 990), (1, .ref 0), (2, .ref 66), (3, .int (nI i))]) (st' := [.ref 66, .int r1]) (σ' := τ) rfl True.intro ?_
  refine rw_go hX [(1279, .aload_n 0), (1280, .iload_n 3), (1281, .iconst 1), (1282, .iadd)] (by decide +kernel) (Ps := []) (pc' := 1283) (lv' := [(0, .ref 990), (1, .ref 0), (2, .ref 66), (3, .int (nI i))]) (st' := [.int (nI i + nI 1), .ref 990, .ref 66, .int r1]) (σ' := τ) rfl True.intro ?_
  refine rw_sld hX hSC (by rw [nI_add]; exact vp_in_nI (by omega) (by omega)) (by decide +kernel) ?_
  refine rw_go hX [(1284, .aload_n 0), (1285, .iload_n 3), (1286, .iconst 2), (1287, .iadd)] (by decide +kernel) (Ps := []) (pc' := 1288) (lv' := [(0, .ref 990), (1, .ref 0), (2, .ref 66), (3, .int (nI i))]) (st' := [.int (nI i + nI 2), .ref 990, .int (xs (nI i + nI 1).toNatClampNeg), .ref 66, .int r1]) (σ' := τ) rfl True.intro ?_
  refine rw_sld hX hSC (by rw [nI_add]; exact vp_in_nI (by omega) (by omega)) (by decide +kernel) ?_
  refine rw_go hX [(1289, .aload_n 0), (1290, .iload_n 3), (1291, .iconst 3), (1292, .iadd)] (by decide +kernel) (Ps := []) (pc' := 1293) (lv' := [(0, .ref 990), (1, .ref 0), (2, .ref 66), (3, .int (nI i))]) (st' := [.int (nI i + nI 3), .ref 990, .int (xs (nI i + nI 2).toNatClampNeg), .int (xs (nI i + nI 1).toNatClampNeg), .ref 66, .int r1]) (σ' := τ) rfl True.intro ?_
  refine rw_sld hX hSC (by rw [nI_add]; exact vp_in_nI (by omega) (by omega)) (by decide +kernel) ?_
  refine rw_callVi hX (as := [.int (xs (nI i + nI 1).toNatClampNeg), .int (xs (nI i + nI 2).toNatClampNeg), .int (xs (nI i + nI 3).toNatClampNeg)]) (rest := [.int r1]) (g_sheet _ _ _ (xs (nI i + nI 1).toNatClampNeg) (xs (nI i + nI 2).toNatClampNeg) (xs (nI i + nI 3).toNatClampNeg)) (by decide +kernel) mvX10_sheet lk11_136 (ci := 9) rfl rfl rfl (by decide) (Nat.le_of_ble_eq_true rfl) rfl ?_
  intro r2 υ h2
  obtain ⟨e2, eυ⟩ := h2
  have e : r1 = r2 := e1.trans e2.symm
  have hJ2 : J0 υ := by rw [eυ, eτ]; exact st_sheet hJ _ _ _
  exact rw_icmp hX (tgt := 1408) (cnd := .eq) (off := 111) (by decide +kernel) (by decide) (fun _ => kk υ hJ2) (fun h => absurd e h)
set_option maxRecDepth 20000 in
set_option maxHeartbeats 4000000 in
theorem lc_put {E : Cf} {G : Gl} {Q : State → Prop} {b L i : Nat} {xs : Nat → Int32} {σ : Mm} (hX : Cx E G 8 11 code 4 (some .boolean)) (hSC : SC E G b L xs) (hi : i + 7 ≤ L) (hL : L ≤ 3584) (hJ : J0 σ) (ev : vw σ 67 = vw σ 2) (rt : σ 72 = σ 65) (kk : ∀ υ, J0 υ → RW E G 8 4 Q 1408 [(0, .ref 990), (1, .ref 0), (2, .ref 66), (3, .int (nI i))] [] υ) : RW E G 8 4 Q 1302 [(0, .ref 990), (1, .ref 0), (2, .ref 66), (3, .int (nI i))] [] σ := by
  obtain ⟨n, hn⟩ := J4_n hJ.2.2.2
  refine rw_go hX [(1302, .aload_n 1)] (by decide +kernel) (Ps := []) (pc' := 1303) (lv' := [(0, .ref 990), (1, .ref 0), (2, .ref 66), (3, .int (nI i))]) (st' := [.ref 0]) (σ' := σ) rfl True.intro ?_
  refine rw_go hX [(1303, .aload_n 0), (1304, .iload_n 3), (1305, .iconst 1), (1306, .iadd)] (by decide +kernel) (Ps := []) (pc' := 1307) (lv' := [(0, .ref 990), (1, .ref 0), (2, .ref 66), (3, .int (nI i))]) (st' := [.int (nI i + nI 1), .ref 990, .ref 0]) (σ' := σ) rfl True.intro ?_
  refine rw_sld hX hSC (by rw [nI_add]; exact vp_in_nI (by omega) (by omega)) (by decide +kernel) ?_
  refine rw_go hX [(1308, .aload_n 0), (1309, .iload_n 3), (1310, .iconst 2), (1311, .iadd)] (by decide +kernel) (Ps := []) (pc' := 1312) (lv' := [(0, .ref 990), (1, .ref 0), (2, .ref 66), (3, .int (nI i))]) (st' := [.int (nI i + nI 2), .ref 990, .int (xs (nI i + nI 1).toNatClampNeg), .ref 0]) (σ' := σ) rfl True.intro ?_
  refine rw_sld hX hSC (by rw [nI_add]; exact vp_in_nI (by omega) (by omega)) (by decide +kernel) ?_
  refine rw_go hX [(1313, .aload_n 0), (1314, .iload_n 3), (1315, .iconst 3), (1316, .iadd)] (by decide +kernel) (Ps := []) (pc' := 1317) (lv' := [(0, .ref 990), (1, .ref 0), (2, .ref 66), (3, .int (nI i))]) (st' := [.int (nI i + nI 3), .ref 990, .int (xs (nI i + nI 2).toNatClampNeg), .int (xs (nI i + nI 1).toNatClampNeg), .ref 0]) (σ' := σ) rfl True.intro ?_
  refine rw_sld hX hSC (by rw [nI_add]; exact vp_in_nI (by omega) (by omega)) (by decide +kernel) ?_
  refine rw_callVi hX (as := [.int (xs (nI i + nI 1).toNatClampNeg), .int (xs (nI i + nI 2).toNatClampNeg), .int (xs (nI i + nI 3).toNatClampNeg)]) (rest := []) (f_put _ _ _ n (xs (nI i + nI 1).toNatClampNeg) (xs (nI i + nI 2).toNatClampNeg) (xs (nI i + nI 3).toNatClampNeg) (fun s hs => ⟨(hn s hs).2.1, (hn s hs).1⟩)) (by decide +kernel) mvX9_put lk11_137 (ci := 8) rfl rfl rfl (by decide) (Nat.le_of_ble_eq_true rfl) rfl ?_
  intro r1 τ h1
  obtain ⟨e1, eτ⟩ := h1
  have hτ : ∀ k, 66 ≤ k → τ k = σ k := fun k hk => by rw [eτ]; exact fr_put n σ _ _ _ hk
  refine rw_go hX [(1321, .aload_n 2)] (by decide +kernel) (Ps := []) (pc' := 1322) (lv' := [(0, .ref 990), (1, .ref 0), (2, .ref 66), (3, .int (nI i))]) (st' := [.ref 66, .int r1]) (σ' := τ) rfl True.intro ?_
  refine rw_go hX [(1322, .aload_n 0), (1323, .iload_n 3), (1324, .iconst 1), (1325, .iadd)] (by decide +kernel) (Ps := []) (pc' := 1326) (lv' := [(0, .ref 990), (1, .ref 0), (2, .ref 66), (3, .int (nI i))]) (st' := [.int (nI i + nI 1), .ref 990, .ref 66, .int r1]) (σ' := τ) rfl True.intro ?_
  refine rw_sld hX hSC (by rw [nI_add]; exact vp_in_nI (by omega) (by omega)) (by decide +kernel) ?_
  refine rw_go hX [(1327, .aload_n 0), (1328, .iload_n 3), (1329, .iconst 2), (1330, .iadd)] (by decide +kernel) (Ps := []) (pc' := 1331) (lv' := [(0, .ref 990), (1, .ref 0), (2, .ref 66), (3, .int (nI i))]) (st' := [.int (nI i + nI 2), .ref 990, .int (xs (nI i + nI 1).toNatClampNeg), .ref 66, .int r1]) (σ' := τ) rfl True.intro ?_
  refine rw_sld hX hSC (by rw [nI_add]; exact vp_in_nI (by omega) (by omega)) (by decide +kernel) ?_
  refine rw_go hX [(1332, .aload_n 0), (1333, .iload_n 3), (1334, .iconst 3), (1335, .iadd)] (by decide +kernel) (Ps := []) (pc' := 1336) (lv' := [(0, .ref 990), (1, .ref 0), (2, .ref 66), (3, .int (nI i))]) (st' := [.int (nI i + nI 3), .ref 990, .int (xs (nI i + nI 2).toNatClampNeg), .int (xs (nI i + nI 1).toNatClampNeg), .ref 66, .int r1]) (σ' := τ) rfl True.intro ?_
  refine rw_sld hX hSC (by rw [nI_add]; exact vp_in_nI (by omega) (by omega)) (by decide +kernel) ?_
  refine rw_callVi hX (as := [.int (xs (nI i + nI 1).toNatClampNeg), .int (xs (nI i + nI 2).toNatClampNeg), .int (xs (nI i + nI 3).toNatClampNeg)]) (rest := [.int r1]) (g_put _ _ _ n (xs (nI i + nI 1).toNatClampNeg) (xs (nI i + nI 2).toNatClampNeg) (xs (nI i + nI 3).toNatClampNeg) (fun s hs => ⟨by rw [hτ 98 (by omega)]; exact (hn s hs).2.2.1, (hn s hs).1⟩) (fun s hs => by rw [hτ 97 (by omega)]; exact (hn s hs).2.2.2.2.1)) (by decide +kernel) mvX10_put lk11_140 (ci := 9) rfl rfl rfl (by decide) (Nat.le_of_ble_eq_true rfl) rfl ?_
  intro r2 υ h2
  obtain ⟨e2, eυ⟩ := h2
  rw [hτ 97 (by omega), ← aPut_e (fun s hs => (hn s hs).2.2.2.1)] at e2
  have e : r1 = r2 := e1.trans e2.symm
  have hJ2 : J0 υ := by rw [eυ, eτ]; exact st_put hJ hn _ _ _
  exact rw_icmp hX (tgt := 1408) (cnd := .eq) (off := 68) (by decide +kernel) (by decide) (fun _ => kk υ hJ2) (fun h => absurd e h)
set_option maxRecDepth 20000 in
set_option maxHeartbeats 4000000 in
theorem lc_copy {E : Cf} {G : Gl} {Q : State → Prop} {b L i : Nat} {xs : Nat → Int32} {σ : Mm} (hX : Cx E G 8 11 code 4 (some .boolean)) (hSC : SC E G b L xs) (hi : i + 7 ≤ L) (hL : L ≤ 3584) (hJ : J0 σ) (ev : vw σ 67 = vw σ 2) (rt : σ 72 = σ 65) (kk : ∀ υ, J0 υ → RW E G 8 4 Q 1408 [(0, .ref 990), (1, .ref 0), (2, .ref 66), (3, .int (nI i))] [] υ) : RW E G 8 4 Q 1345 [(0, .ref 990), (1, .ref 0), (2, .ref 66), (3, .int (nI i))] [] σ := by
  obtain ⟨n, hn⟩ := J4_n hJ.2.2.2
  refine rw_go hX [(1345, .aload_n 1)] (by decide +kernel) (Ps := []) (pc' := 1346) (lv' := [(0, .ref 990), (1, .ref 0), (2, .ref 66), (3, .int (nI i))]) (st' := [.ref 0]) (σ' := σ) rfl True.intro ?_
  refine rw_go hX [(1346, .aload_n 0), (1347, .iload_n 3), (1348, .iconst 1), (1349, .iadd)] (by decide +kernel) (Ps := []) (pc' := 1350) (lv' := [(0, .ref 990), (1, .ref 0), (2, .ref 66), (3, .int (nI i))]) (st' := [.int (nI i + nI 1), .ref 990, .ref 0]) (σ' := σ) rfl True.intro ?_
  refine rw_sld hX hSC (by rw [nI_add]; exact vp_in_nI (by omega) (by omega)) (by decide +kernel) ?_
  refine rw_go hX [(1351, .aload_n 0), (1352, .iload_n 3), (1353, .iconst 2), (1354, .iadd)] (by decide +kernel) (Ps := []) (pc' := 1355) (lv' := [(0, .ref 990), (1, .ref 0), (2, .ref 66), (3, .int (nI i))]) (st' := [.int (nI i + nI 2), .ref 990, .int (xs (nI i + nI 1).toNatClampNeg), .ref 0]) (σ' := σ) rfl True.intro ?_
  refine rw_sld hX hSC (by rw [nI_add]; exact vp_in_nI (by omega) (by omega)) (by decide +kernel) ?_
  refine rw_go hX [(1356, .aload_n 0), (1357, .iload_n 3), (1358, .iconst 3), (1359, .iadd)] (by decide +kernel) (Ps := []) (pc' := 1360) (lv' := [(0, .ref 990), (1, .ref 0), (2, .ref 66), (3, .int (nI i))]) (st' := [.int (nI i + nI 3), .ref 990, .int (xs (nI i + nI 2).toNatClampNeg), .int (xs (nI i + nI 1).toNatClampNeg), .ref 0]) (σ' := σ) rfl True.intro ?_
  refine rw_sld hX hSC (by rw [nI_add]; exact vp_in_nI (by omega) (by omega)) (by decide +kernel) ?_
  refine rw_go hX [(1361, .aload_n 0), (1362, .iload_n 3), (1363, .iconst 4), (1364, .iadd)] (by decide +kernel) (Ps := []) (pc' := 1365) (lv' := [(0, .ref 990), (1, .ref 0), (2, .ref 66), (3, .int (nI i))]) (st' := [.int (nI i + nI 4), .ref 990, .int (xs (nI i + nI 3).toNatClampNeg), .int (xs (nI i + nI 2).toNatClampNeg), .int (xs (nI i + nI 1).toNatClampNeg), .ref 0]) (σ' := σ) rfl True.intro ?_
  refine rw_sld hX hSC (by rw [nI_add]; exact vp_in_nI (by omega) (by omega)) (by decide +kernel) ?_
  refine rw_go hX [(1366, .aload_n 0), (1367, .iload_n 3), (1368, .iconst 5), (1369, .iadd)] (by decide +kernel) (Ps := []) (pc' := 1370) (lv' := [(0, .ref 990), (1, .ref 0), (2, .ref 66), (3, .int (nI i))]) (st' := [.int (nI i + nI 5), .ref 990, .int (xs (nI i + nI 4).toNatClampNeg), .int (xs (nI i + nI 3).toNatClampNeg), .int (xs (nI i + nI 2).toNatClampNeg), .int (xs (nI i + nI 1).toNatClampNeg), .ref 0]) (σ' := σ) rfl True.intro ?_
  refine rw_sld hX hSC (by rw [nI_add]; exact vp_in_nI (by omega) (by omega)) (by decide +kernel) ?_
  refine rw_callVi hX (as := [.int (xs (nI i + nI 1).toNatClampNeg), .int (xs (nI i + nI 2).toNatClampNeg), .int (xs (nI i + nI 3).toNatClampNeg), .int (xs (nI i + nI 4).toNatClampNeg), .int (xs (nI i + nI 5).toNatClampNeg)]) (rest := []) (f_copy _ _ _ n (xs (nI i + nI 1).toNatClampNeg) (xs (nI i + nI 2).toNatClampNeg) (xs (nI i + nI 3).toNatClampNeg) (xs (nI i + nI 4).toNatClampNeg) (xs (nI i + nI 5).toNatClampNeg) (fun s hs => ⟨(hn s hs).2.1, (hn s hs).1⟩)) (by decide +kernel) mvX9_copy lk11_141 (ci := 8) rfl rfl rfl (by decide) (Nat.le_of_ble_eq_true rfl) rfl ?_
  intro r1 τ h1
  obtain ⟨e1, eτ⟩ := h1
  have hτ : ∀ k, 66 ≤ k → τ k = σ k := fun k hk => by rw [eτ]; exact fr_copy n σ _ _ _ _ _ hk
  refine rw_go hX [(1374, .aload_n 2)] (by decide +kernel) (Ps := []) (pc' := 1375) (lv' := [(0, .ref 990), (1, .ref 0), (2, .ref 66), (3, .int (nI i))]) (st' := [.ref 66, .int r1]) (σ' := τ) rfl True.intro ?_
  refine rw_go hX [(1375, .aload_n 0), (1376, .iload_n 3), (1377, .iconst 1), (1378, .iadd)] (by decide +kernel) (Ps := []) (pc' := 1379) (lv' := [(0, .ref 990), (1, .ref 0), (2, .ref 66), (3, .int (nI i))]) (st' := [.int (nI i + nI 1), .ref 990, .ref 66, .int r1]) (σ' := τ) rfl True.intro ?_
  refine rw_sld hX hSC (by rw [nI_add]; exact vp_in_nI (by omega) (by omega)) (by decide +kernel) ?_
  refine rw_go hX [(1380, .aload_n 0), (1381, .iload_n 3), (1382, .iconst 2), (1383, .iadd)] (by decide +kernel) (Ps := []) (pc' := 1384) (lv' := [(0, .ref 990), (1, .ref 0), (2, .ref 66), (3, .int (nI i))]) (st' := [.int (nI i + nI 2), .ref 990, .int (xs (nI i + nI 1).toNatClampNeg), .ref 66, .int r1]) (σ' := τ) rfl True.intro ?_
  refine rw_sld hX hSC (by rw [nI_add]; exact vp_in_nI (by omega) (by omega)) (by decide +kernel) ?_
  refine rw_go hX [(1385, .aload_n 0), (1386, .iload_n 3), (1387, .iconst 3), (1388, .iadd)] (by decide +kernel) (Ps := []) (pc' := 1389) (lv' := [(0, .ref 990), (1, .ref 0), (2, .ref 66), (3, .int (nI i))]) (st' := [.int (nI i + nI 3), .ref 990, .int (xs (nI i + nI 2).toNatClampNeg), .int (xs (nI i + nI 1).toNatClampNeg), .ref 66, .int r1]) (σ' := τ) rfl True.intro ?_
  refine rw_sld hX hSC (by rw [nI_add]; exact vp_in_nI (by omega) (by omega)) (by decide +kernel) ?_
  refine rw_go hX [(1390, .aload_n 0), (1391, .iload_n 3), (1392, .iconst 4), (1393, .iadd)] (by decide +kernel) (Ps := []) (pc' := 1394) (lv' := [(0, .ref 990), (1, .ref 0), (2, .ref 66), (3, .int (nI i))]) (st' := [.int (nI i + nI 4), .ref 990, .int (xs (nI i + nI 3).toNatClampNeg), .int (xs (nI i + nI 2).toNatClampNeg), .int (xs (nI i + nI 1).toNatClampNeg), .ref 66, .int r1]) (σ' := τ) rfl True.intro ?_
  refine rw_sld hX hSC (by rw [nI_add]; exact vp_in_nI (by omega) (by omega)) (by decide +kernel) ?_
  refine rw_go hX [(1395, .aload_n 0), (1396, .iload_n 3), (1397, .iconst 5), (1398, .iadd)] (by decide +kernel) (Ps := []) (pc' := 1399) (lv' := [(0, .ref 990), (1, .ref 0), (2, .ref 66), (3, .int (nI i))]) (st' := [.int (nI i + nI 5), .ref 990, .int (xs (nI i + nI 4).toNatClampNeg), .int (xs (nI i + nI 3).toNatClampNeg), .int (xs (nI i + nI 2).toNatClampNeg), .int (xs (nI i + nI 1).toNatClampNeg), .ref 66, .int r1]) (σ' := τ) rfl True.intro ?_
  refine rw_sld hX hSC (by rw [nI_add]; exact vp_in_nI (by omega) (by omega)) (by decide +kernel) ?_
  refine rw_callVi hX (as := [.int (xs (nI i + nI 1).toNatClampNeg), .int (xs (nI i + nI 2).toNatClampNeg), .int (xs (nI i + nI 3).toNatClampNeg), .int (xs (nI i + nI 4).toNatClampNeg), .int (xs (nI i + nI 5).toNatClampNeg)]) (rest := [.int r1]) (g_copy _ _ _ n (xs (nI i + nI 1).toNatClampNeg) (xs (nI i + nI 2).toNatClampNeg) (xs (nI i + nI 3).toNatClampNeg) (xs (nI i + nI 4).toNatClampNeg) (xs (nI i + nI 5).toNatClampNeg) (fun s hs => ⟨by rw [hτ 98 (by omega)]; exact (hn s hs).2.2.1, (hn s hs).1⟩) (fun s hs => by rw [hτ 97 (by omega)]; exact (hn s hs).2.2.2.2.1)) (by decide +kernel) mvX10_copy lk11_144 (ci := 9) rfl rfl rfl (by decide) (Nat.le_of_ble_eq_true rfl) rfl ?_
  intro r2 υ h2
  obtain ⟨e2, eυ⟩ := h2
  rw [hτ 97 (by omega), ← aCopy_e (fun s hs => (hn s hs).2.2.2.1)] at e2
  have e : r1 = r2 := e1.trans e2.symm
  have hJ2 : J0 υ := by rw [eυ, eτ]; exact st_copy hJ hn _ _ _ _ _
  exact rw_icmp hX (tgt := 1408) (cnd := .eq) (off := 5) (by decide +kernel) (by decide) (fun _ => kk υ hJ2) (fun h => absurd e h)
