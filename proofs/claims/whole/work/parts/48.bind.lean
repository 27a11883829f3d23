set_option maxRecDepth 20000 in
set_option maxHeartbeats 4000000 in
theorem c_isEnough (l : Launch) (G : Gl) (σ : Mm) (V : Mm) (n w : Nat) (hv : wf V) (hw : w < 5) (hn : n ≤ 50) (hL : σ 24 w = nI (lC V w)) : AMi l G 2 mX8_isEnough [.ref 22, .int (nI n), .int (nI w), .int (nI (vR V 5))] σ (fun r σ' => σ' = σ ∧ r = bz (enB V n w)) := by
  refine rw_inI 8 (by decide +kernel) rfl rfl ?_
  intro E hE hX
  subst hE
  have hL5 := lC_50 hv hw
  have hT := wf_T hv
  have hmu : vR V 5 * lC V w ≤ 100 * 50 := Nat.mul_le_mul hT.2 hL5
  refine rw_go hX [(0, .iload_n 1)] (by decide +kernel) (Ps := []) (pc' := 1) (lv' := [(0, .ref 22), (1, .int (nI n)), (2, .int (nI w)), (3, .int (nI (vR V 5)))]) (st' := [.int (nI n)]) (σ' := σ) rfl True.intro ?_
  refine rw_if hX (tgt := 25) (cnd := .le) (off := 24) (by decide +kernel) (by decide) (fun h1 => ?_) (fun h1 => ?_)
  · replace h1 := zn_leT h1
    have e : enB V n w = false := decide_eq_false (by omega)
    refine rw_go hX [(25, .iconst 0)] (by decide +kernel) (Ps := []) (pc' := 26) (lv' := [(0, .ref 22), (1, .int (nI n)), (2, .int (nI w)), (3, .int (nI (vR V 5)))]) (st' := [.int (nI 0)]) (σ' := σ) rfl True.intro ?_
    exact rw_zret hX (by decide +kernel) (Or.inl rfl) (⟨rfl, by rw [e]; rfl⟩)
  · replace h1 := zn_leF h1
    refine rw_go hX [(4, .bipush 100), (6, .iload_n 1), (7, .imul)] (by decide +kernel) (Ps := []) (pc' := 8) (lv' := [(0, .ref 22), (1, .int (nI n)), (2, .int (nI w)), (3, .int (nI (vR V 5)))]) (st' := [.int (nI 100 * nI n)]) (σ' := σ) rfl True.intro ?_
    rw [show (nI 100 * nI n) = nI (100 * n) from pk_mul _ _]
    refine rw_go hX [(8, .iload_n 3), (9, .aload_n 0), (10, .getfield 12), (13, .iload_n 2)] (by decide +kernel) (Ps := []) (pc' := 14) (lv' := [(0, .ref 22), (1, .int (nI n)), (2, .int (nI w)), (3, .int (nI (vR V 5)))]) (st' := [.int (nI w), .ref 23, .int (nI (vR V 5)), .int (nI (100 * n))]) (σ' := σ) rfl True.intro ?_
    refine rw_callVi hX (as := [.int (nI w)]) (rest := [.int (nI (vR V 5)), .int (nI (100 * n))]) (c_letterCount _ _ _ w hw) (by decide +kernel) mvX3_letterCount lk8_75 (ci := 2) rfl rfl rfl (by decide) (Nat.le_of_ble_eq_true rfl) rfl ?_
    intro r1 σ1 hr
    rw [hr.1, show r1 = nI (lC V w) from hr.2.trans hL]
    clear hr σ1 r1
    refine rw_go hX [(17, .imul)] (by decide +kernel) (Ps := []) (pc' := 18) (lv' := [(0, .ref 22), (1, .int (nI n)), (2, .int (nI w)), (3, .int (nI (vR V 5)))]) (st' := [.int (nI (vR V 5) * nI (lC V w)), .int (nI (100 * n))]) (σ' := σ) rfl True.intro ?_
    rw [show (nI (vR V 5) * nI (lC V w)) = nI (vR V 5 * lC V w) from pk_mul _ _]
    refine rw_icmp hX (tgt := 25) (cnd := .lt) (off := 7) (by decide +kernel) (by decide) (fun h18 => ?_) (fun h18 => ?_)
    · replace h18 := c2_ltT h18
      have e : enB V n w = false := decide_eq_false (by omega)
      refine rw_go hX [(25, .iconst 0)] (by decide +kernel) (Ps := []) (pc' := 26) (lv' := [(0, .ref 22), (1, .int (nI n)), (2, .int (nI w)), (3, .int (nI (vR V 5)))]) (st' := [.int (nI 0)]) (σ' := σ) rfl True.intro ?_
      exact rw_zret hX (by decide +kernel) (Or.inl rfl) (⟨rfl, by rw [e]; rfl⟩)
    · replace h18 := c2_ltF h18
      have e : enB V n w = true := decide_eq_true (by omega)
      refine rw_go hX [(21, .iconst 1), (22, .goto 4)] (by decide +kernel) (Ps := []) (pc' := 26) (lv' := [(0, .ref 22), (1, .int (nI n)), (2, .int (nI w)), (3, .int (nI (vR V 5)))]) (st' := [.int (nI 1)]) (σ' := σ) rfl True.intro ?_
      exact rw_zret hX (by decide +kernel) (Or.inr rfl) (⟨rfl, by rw [e]; rfl⟩)
set_option maxRecDepth 20000 in
set_option maxHeartbeats 4000000 in
theorem c_bindAll (l : Launch) (G : Gl) (σ : Mm) (V : Mm) (F : Nat) (hV : vw σ 2 = V) (hv : wf V) (hS0 : SN V σ F) : AMv l G 5 mX8_bindAll [.ref 22, .ref 1] σ (fun σ' => BI V σ' 5 0 ∧ SQ σ σ') := by
  refine rw_inV 8 (by decide +kernel) rfl rfl ?_
  intro E hE hX
  subst hE
  have hLs := wf_L hv
  have hT := wf_T hv
  have h6 : σ 6 = V 4 := vw_at hV 4 (by omega)
  refine rw_go hX [(0, .aload_n 1), (1, .getfield 47), (4, .iconst 4)] (by decide +kernel) (Ps := []) (pc' := 5) (lv' := [(0, .ref 22), (1, .ref 1)]) (st' := [.int (nI 4), .ref 6]) (σ' := σ) rfl True.intro ?_
  refine rw_callSi hX (as := [.ref 6, .int (nI 4)]) (rest := []) (c_pick _ _ _ 6 6 4 (by decide +kernel) (by omega) (by omega)) (by decide +kernel) msX9_pick (Or.inr lk8_52) rfl (by decide) (Nat.le_of_ble_eq_true rfl) rfl ?_
  intro r1 σ1 hr
  rw [hr.1, show r1 = nI (vR V 4) from hr.2.trans (by rw [h6]; exact hLs.1)]
  clear hr σ1 r1
  refine rw_go hX [(8, .istore_n 2), (9, .aload_n 1), (10, .getfield 47), (13, .iconst 5)] (by decide +kernel) (Ps := []) (pc' := 14) (lv' := [(0, .ref 22), (1, .ref 1), (2, .int (nI (vR V 4)))]) (st' := [.int (nI 5), .ref 6]) (σ' := σ) rfl True.intro ?_
  refine rw_callSi hX (as := [.ref 6, .int (nI 5)]) (rest := []) (c_pick _ _ _ 6 6 5 (by decide +kernel) (by omega) (by omega)) (by decide +kernel) msX9_pick (Or.inr lk8_52) rfl (by decide) (Nat.le_of_ble_eq_true rfl) rfl ?_
  intro r1 σ1 hr
  rw [hr.1, show r1 = nI (vR V 5) from hr.2.trans (by rw [h6]; exact hT.1)]
  clear hr σ1 r1
  refine rw_go hX [(17, .istore_n 3), (18, .aload_n 0), (19, .getfield 39), (22, .iconst 0)] (by decide +kernel) (Ps := []) (pc' := 23) (lv' := [(0, .ref 22), (1, .ref 1), (2, .int (nI (vR V 4))), (3, .int (nI (vR V 5)))]) (st' := [.int (nI 0), .ref 60]) (σ' := σ) rfl True.intro ?_
  refine rw_callSv hX (as := [.ref 60, .int (nI 0)]) (rest := []) (c_J7_fill_53178 _ _ _ 60 5 (nI 0) (by decide +kernel) (by omega)) (by decide +kernel) msJ7_fill_53178 (Or.inl lk8_130) rfl (by decide) (Nat.le_of_ble_eq_true rfl) rfl ?_
  intro σ1 hr
  rw [hr]
  clear hr σ1
  refine rw_go hX [(26, .iconst 0), (27, .istore 4)] (by decide +kernel) (Ps := []) (pc' := 29) (lv' := [(0, .ref 22), (1, .ref 1), (2, .int (nI (vR V 4))), (3, .int (nI (vR V 5))), (4, .int (nI 0))]) (st' := []) (σ' := sr σ 60 (fl (σ 60) 0 5 (nI 0))) rfl True.intro ?_
  have L29 : ∀ (μ29 : Nat) (w : Nat) (τ : Mm), μ29 = 5 - w → (w ≤ 5) → (SN V τ F) → (SQ σ τ) → (BI V τ w 0) → RW E G 5 6 (QV E G (fun σ' => BI V σ' 5 0 ∧ SQ σ σ')) 29 [(0, .ref 22), (1, .ref 1), (2, .int (nI (vR V 4))), (3, .int (nI (vR V 5))), (4, .int (nI w))] [] τ := by
    intro μ29
    induction μ29 using Nat.strongRecOn with
    | ind μ29 ih29 =>
      intro w τ hμ29 hwi hS hq hB
      refine rw_go hX [(29, .iload 4), (31, .iconst 5)] (by decide +kernel) (Ps := []) (pc' := 32) (lv' := [(0, .ref 22), (1, .ref 1), (2, .int (nI (vR V 4))), (3, .int (nI (vR V 5))), (4, .int (nI w))]) (st' := [.int (nI 5), .int (nI w)]) (σ' := τ) rfl True.intro ?_
      refine rw_icmp hX (tgt := 141) (cnd := .ge) (off := 109) (by decide +kernel) (by decide) (fun h32 => ?_) (fun h32 => ?_)
      · replace h32 := c2_geT h32
        have e5 : w = 5 := by omega
        rw [e5] at hB
        exact rw_vret hX (by decide +kernel) (⟨hB, hq⟩)
      · replace h32 := c2_geF h32
        have hw : w < 5 := h32
        refine rw_go hX [(35, .iload 4), (37, .iconst 1), (38, .iadd)] (by decide +kernel) (Ps := []) (pc' := 39) (lv' := [(0, .ref 22), (1, .ref 1), (2, .int (nI (vR V 4))), (3, .int (nI (vR V 5))), (4, .int (nI w))]) (st' := [.int (nI w + nI 1)]) (σ' := τ) rfl True.intro ?_
        rw [show (nI w + nI 1) = nI (w + 1) from nI_add _ _]
        refine rw_go hX [(39, .istore 5)] (by decide +kernel) (Ps := []) (pc' := 41) (lv' := [(0, .ref 22), (1, .ref 1), (2, .int (nI (vR V 4))), (3, .int (nI (vR V 5))), (4, .int (nI w)), (5, .int (nI (w + 1)))]) (st' := []) (σ' := τ) rfl True.intro ?_
        have L41 : ∀ (μ41 : Nat) (v : Nat) (τ : Mm), μ41 = 5 - v → (w < v) → (v ≤ 5) → (SN V τ F) → (SQ σ τ) → (BI V τ w v) → RW E G 5 6 (QV E G (fun σ' => BI V σ' 5 0 ∧ SQ σ σ')) 41 [(0, .ref 22), (1, .ref 1), (2, .int (nI (vR V 4))), (3, .int (nI (vR V 5))), (4, .int (nI w)), (5, .int (nI v))] [] τ := by
          intro μ41
          induction μ41 using Nat.strongRecOn with
          | ind μ41 ih41 =>
            intro v τ hμ41 hwv hvi hS hq hB
            refine rw_go hX [(41, .iload 5), (43, .iconst 5)] (by decide +kernel) (Ps := []) (pc' := 44) (lv' := [(0, .ref 22), (1, .ref 1), (2, .int (nI (vR V 4))), (3, .int (nI (vR V 5))), (4, .int (nI w)), (5, .int (nI v))]) (st' := [.int (nI 5), .int (nI v)]) (σ' := τ) rfl True.intro ?_
            refine rw_icmp hX (tgt := 135) (cnd := .ge) (off := 91) (by decide +kernel) (by decide) (fun h44 => ?_) (fun h44 => ?_)
            · replace h44 := c2_geT h44
              have e5 : v = 5 := by omega
              rw [e5] at hB
              refine rw_go hX [(135, .iinc 4 1), (138, .goto (-109))] (by decide +kernel) (Ps := []) (pc' := 29) (lv' := [(0, .ref 22), (1, .ref 1), (2, .int (nI (vR V 4))), (3, .int (nI (vR V 5))), (4, .int (nI w + nI 1)), (5, .int (nI v))]) (st' := []) (σ' := τ) rfl True.intro ?_
              refine rw_lsub (ks := [0, 1, 2, 3, 4]) (lv' := [(0, .ref 22), (1, .ref 1), (2, .int (nI (vR V 4))), (3, .int (nI (vR V 5))), (4, .int (nI w + nI 1))]) rfl ?_
              rw [nI_add]
              exact ih29 (5 - (w + 1)) (by omega) (w + 1) _ rfl (by omega) hS hq (BI_c hB fun a b ha hb hn => pd_c (by omega))
            · replace h44 := c2_geF h44
              have hMl : (ML V w v (vR V 4)).length ≤ 840 := by have := mLa_833 hv (vR V 4) hw h44 (lC V w) (Nat.le_refl _); unfold ML; omega
              refine rw_go hX [(47, .aload_n 0), (48, .getfield 28), (51, .aload_n 0), (52, .getfield 12), (55, .aload_n 0), (56, .getfield 21), (59, .iload 4), (61, .iload 5), (63, .iload_n 2)] (by decide +kernel) (Ps := []) (pc' := 64) (lv' := [(0, .ref 22), (1, .ref 1), (2, .int (nI (vR V 4))), (3, .int (nI (vR V 5))), (4, .int (nI w)), (5, .int (nI v))]) (st' := [.int (nI (vR V 4)), .int (nI v), .int (nI w), .ref 31, .ref 23, .ref 39]) (σ' := τ) rfl True.intro ?_
              refine rw_callVv hX (as := [.ref 23, .ref 31, .int (nI w), .int (nI v), .int (nI (vR V 4))]) (rest := []) (c_findV _ _ _ V F w v (vR V 4) hS hv hw h44 (by omega)) (by decide +kernel) mvX2_find lk8_71 (ci := 1) rfl rfl rfl (by decide) (Nat.le_of_ble_eq_true rfl) rfl ?_
              intro τ2 ht2
              have hM3 := ht2.1
              refine rw_go hX [(67, .aload_n 0), (68, .aload_n 0), (69, .getfield 28)] (by decide +kernel) (Ps := []) (pc' := 72) (lv' := [(0, .ref 22), (1, .ref 1), (2, .int (nI (vR V 4))), (3, .int (nI (vR V 5))), (4, .int (nI w)), (5, .int (nI v))]) (st' := [.ref 39, .ref 22]) (σ' := τ2) rfl True.intro ?_
              refine rw_callVi hX (as := []) (rest := [.ref 22]) (c_lettersSeen _ _ _ (ML V w v (vR V 4)).length (mB (ML V w v (vR V 4))) (mG (ML V w v (vR V 4))) (by exact hM3.1) hMl (fun x hx => ⟨(hM3.2 x hx).1, (ML_at hv hw h44 hx).2.2.2.1⟩) (fun x hx => ⟨(hM3.2 x hx).2.2.1, (ML_at hv hw h44 hx).2.2.2.2.2⟩)) (by decide +kernel) mvX2_lettersSeen lk8_136 (ci := 1) rfl rfl rfl (by decide) (Nat.le_of_ble_eq_true rfl) rfl ?_
              intro r1 τ3 hr
              have hk3 : ∀ k, k ∉ [39, 40, 41, 42, 43, 44, 45, 46, 47, 48, 51, 52] → τ3 k = τ k := fun k hk => by
                rw [hr.1, sr_n _ _ (fun z => hk (by rw [z]; decide))]
                exact ht2.2 k (fun z => hk (by revert z; simp only [List.mem_cons, List.not_mem_nil, or_false]; omega))
              have hM3 : MT (ML V w v (vR V 4)) τ3 := by
                unfold MT
                rw [hr.1, sr_n _ _ (by decide), sr_n _ _ (by decide), sr_n _ _ (by decide), sr_n _ _ (by decide), sr_n _ _ (by decide)]
                exact hM3
              rw [show r1 = nI (cL V w v) from hr.2]
              have hS3 := SN_k hS (NI_of hk3 (by decide))
              clear hr
              refine rw_go hX [(75, .iload 4), (77, .iload_n 3)] (by decide +kernel) (Ps := []) (pc' := 78) (lv' := [(0, .ref 22), (1, .ref 1), (2, .int (nI (vR V 4))), (3, .int (nI (vR V 5))), (4, .int (nI w)), (5, .int (nI v))]) (st' := [.int (nI (vR V 5)), .int (nI w), .int (nI (cL V w v)), .ref 22]) (σ' := τ3) rfl True.intro ?_
              refine rw_callVi hX (as := [.int (nI (cL V w v)), .int (nI w), .int (nI (vR V 5))]) (rest := []) (c_isEnough _ _ _ V (cL V w v) w hv hw (cL_50 V w v) (hS3.1 w hw).1.1) (by decide +kernel) mvX8_isEnough lk8_140 (ci := 7) rfl rfl rfl (by decide) (Nat.le_of_ble_eq_true rfl) rfl ?_
              intro r1 σ1 hr
              rw [hr.1, show r1 = bz (enB V (cL V w v) w) from hr.2]
              clear hr σ1 r1
              refine rw_if hX (tgt := 101) (cnd := .ne) (off := 20) (by decide +kernel) (by decide) (fun h81 => ?_) (fun h81 => ?_)
              · replace h81 := zb_neT h81
                have hbd : bdP V w v = true := by unfold bdP; rw [h81, Bool.true_or]
                obtain ⟨m1, hm1, em1, -⟩ := hB w (by omega)
                obtain ⟨m2, hm2, em2, -⟩ := hB v (by omega)
                have em1b : τ3 60 w = nI m1 := (congrFun (hk3 60 (by decide)) w).trans em1
                have em2b : τ3 60 v = nI m2 := (congrFun (hk3 60 (by decide)) v).trans em2
                refine rw_go hX [(101, .aload_n 0), (102, .getfield 39), (105, .iload 4), (107, .dup2), (108, .iaload)] (by decide +kernel) (Ps := [vp_in (nI w) 5]) (pc' := 109) (lv' := [(0, .ref 22), (1, .ref 1), (2, .int (nI (vR V 4))), (3, .int (nI (vR V 5))), (4, .int (nI w)), (5, .int (nI v))]) (st' := [.int (τ3 60 (nI w).toNatClampNeg), .int (nI w), .ref 60]) (σ' := τ3) rfl (vp_in_nI (by omega) (by omega)) ?_
                rw [show (τ3 60 (nI w).toNatClampNeg) = nI m1 from (by rw [nI_clamp (by omega), em1b])]
                refine rw_go hX [(109, .iconst 1), (110, .iload 5), (112, .ishl)] (by decide +kernel) (Ps := []) (pc' := 113) (lv' := [(0, .ref 22), (1, .ref 1), (2, .int (nI (vR V 4))), (3, .int (nI (vR V 5))), (4, .int (nI w)), (5, .int (nI v))]) (st' := [.int ((nI 1) <<< ((nI v) &&& 31)), .int (nI m1), .int (nI w), .ref 60]) (σ' := τ3) rfl True.intro ?_
                rw [show ((nI 1) <<< ((nI v) &&& 31)) = nI (2 ^ v) from shl_nI h44]
                refine rw_go hX [(113, .ior)] (by decide +kernel) (Ps := []) (pc' := 114) (lv' := [(0, .ref 22), (1, .ref 1), (2, .int (nI (vR V 4))), (3, .int (nI (vR V 5))), (4, .int (nI w)), (5, .int (nI v))]) (st' := [.int (nI m1 ||| nI (2 ^ v)), .int (nI w), .ref 60]) (σ' := τ3) rfl True.intro ?_
                rw [show (nI m1 ||| nI (2 ^ v)) = nI (m1 ||| 2 ^ v) from or_nI hm1 (pow5 h44)]
                refine rw_go hX [(114, .iastore)] (by decide +kernel) (Ps := [vp_in (nI w) 5]) (pc' := 115) (lv' := [(0, .ref 22), (1, .ref 1), (2, .int (nI (vR V 4))), (3, .int (nI (vR V 5))), (4, .int (nI w)), (5, .int (nI v))]) (st' := []) (σ' := sw τ3 60 (nI w).toNatClampNeg (nI (m1 ||| 2 ^ v))) rfl (vp_in_nI (by omega) (by omega)) ?_
                rw [show (sw τ3 60 (nI w).toNatClampNeg (nI (m1 ||| 2 ^ v))) = sw τ3 60 w (nI (m1 ||| 2 ^ v)) from (by rw [nI_clamp (by omega)])]
                refine rw_go hX [(115, .aload_n 0), (116, .getfield 39), (119, .iload 5), (121, .dup2), (122, .iaload)] (by decide +kernel) (Ps := [vp_in (nI v) 5]) (pc' := 123) (lv' := [(0, .ref 22), (1, .ref 1), (2, .int (nI (vR V 4))), (3, .int (nI (vR V 5))), (4, .int (nI w)), (5, .int (nI v))]) (st' := [.int ((sw τ3 60 w (nI (m1 ||| 2 ^ v))) 60 (nI v).toNatClampNeg), .int (nI v), .ref 60]) (σ' := sw τ3 60 w (nI (m1 ||| 2 ^ v))) rfl (vp_in_nI (by omega) (by omega)) ?_
                rw [show ((sw τ3 60 w (nI (m1 ||| 2 ^ v))) 60 (nI v).toNatClampNeg) = (sw τ3 60 w (nI (m1 ||| 2 ^ v))) 60 v from (by rw [nI_clamp (by omega)])]
                rw [show ((sw τ3 60 w (nI (m1 ||| 2 ^ v))) 60 v) = nI m2 from (by rw [sw_o (by omega)]; exact em2b)]
                refine rw_go hX [(123, .iconst 1), (124, .iload 4), (126, .ishl)] (by decide +kernel) (Ps := []) (pc' := 127) (lv' := [(0, .ref 22), (1, .ref 1), (2, .int (nI (vR V 4))), (3, .int (nI (vR V 5))), (4, .int (nI w)), (5, .int (nI v))]) (st' := [.int ((nI 1) <<< ((nI w) &&& 31)), .int (nI m2), .int (nI v), .ref 60]) (σ' := sw τ3 60 w (nI (m1 ||| 2 ^ v))) rfl True.intro ?_
                rw [show ((nI 1) <<< ((nI w) &&& 31)) = nI (2 ^ w) from shl_nI hw]
                refine rw_go hX [(127, .ior)] (by decide +kernel) (Ps := []) (pc' := 128) (lv' := [(0, .ref 22), (1, .ref 1), (2, .int (nI (vR V 4))), (3, .int (nI (vR V 5))), (4, .int (nI w)), (5, .int (nI v))]) (st' := [.int (nI m2 ||| nI (2 ^ w)), .int (nI v), .ref 60]) (σ' := sw τ3 60 w (nI (m1 ||| 2 ^ v))) rfl True.intro ?_
                rw [show (nI m2 ||| nI (2 ^ w)) = nI (m2 ||| 2 ^ w) from or_nI hm2 (pow5 hw)]
                refine rw_go hX [(128, .iastore)] (by decide +kernel) (Ps := [vp_in (nI v) 5]) (pc' := 129) (lv' := [(0, .ref 22), (1, .ref 1), (2, .int (nI (vR V 4))), (3, .int (nI (vR V 5))), (4, .int (nI w)), (5, .int (nI v))]) (st' := []) (σ' := sw (sw τ3 60 w (nI (m1 ||| 2 ^ v))) 60 (nI v).toNatClampNeg (nI (m2 ||| 2 ^ w))) rfl (vp_in_nI (by omega) (by omega)) ?_
                rw [show (sw (sw τ3 60 w (nI (m1 ||| 2 ^ v))) 60 (nI v).toNatClampNeg (nI (m2 ||| 2 ^ w))) = sw (sw τ3 60 w (nI (m1 ||| 2 ^ v))) 60 v (nI (m2 ||| 2 ^ w)) from (by rw [nI_clamp (by omega)])]
                refine rw_go hX [(129, .iinc 5 1), (132, .goto (-91))] (by decide +kernel) (Ps := []) (pc' := 41) (lv' := [(0, .ref 22), (1, .ref 1), (2, .int (nI (vR V 4))), (3, .int (nI (vR V 5))), (4, .int (nI w)), (5, .int (nI v + nI 1))]) (st' := []) (σ' := sw (sw τ3 60 w (nI (m1 ||| 2 ^ v))) 60 v (nI (m2 ||| 2 ^ w))) rfl True.intro ?_
                refine rw_lsub (ks := [0, 1, 2, 3, 4, 5]) (lv' := [(0, .ref 22), (1, .ref 1), (2, .int (nI (vR V 4))), (3, .int (nI (vR V 5))), (4, .int (nI w)), (5, .int (nI v + nI 1))]) rfl ?_
                rw [nI_add]
                exact ih41 (5 - (v + 1)) (by omega) (v + 1) _ rfl (by omega) (by omega) (SN_k hS3 (fun k hk => by rw [sw_ne _ _ _ (fun z => by rw [z] at hk; revert hk; decide), sw_ne _ _ _ (fun z => by rw [z] at hk; revert hk; decide)])) ((hq.trans (SQ_of hk3 (by decide))).trans (fun k hk => by rw [sw_ne _ _ _ (by omega), sw_ne _ _ _ (by omega)])) (BI_y (fun a ha => by rw [hk3 60 (by decide)]; exact hB a ha) hwv h44 hbd em1b hm1 em2b hm2)
              · replace h81 := zb_neF h81
                refine rw_go hX [(84, .aload_n 0), (85, .aload_n 0), (86, .getfield 28)] (by decide +kernel) (Ps := []) (pc' := 89) (lv' := [(0, .ref 22), (1, .ref 1), (2, .int (nI (vR V 4))), (3, .int (nI (vR V 5))), (4, .int (nI w)), (5, .int (nI v))]) (st' := [.ref 39, .ref 22]) (σ' := τ3) rfl True.intro ?_
                refine rw_callVi hX (as := []) (rest := [.ref 22]) (c_otherLettersSeen _ _ _ (ML V w v (vR V 4)).length (mO (ML V w v (vR V 4))) (mG (ML V w v (vR V 4))) (by exact hM3.1) hMl (fun x hx => ⟨(hM3.2 x hx).2.1, (ML_at hv hw h44 hx).2.2.2.2.1⟩) (fun x hx => ⟨(hM3.2 x hx).2.2.1, (ML_at hv hw h44 hx).2.2.2.2.2⟩)) (by decide +kernel) mvX2_otherLettersSeen lk8_144 (ci := 1) rfl rfl rfl (by decide) (Nat.le_of_ble_eq_true rfl) rfl ?_
                intro r1 τ3 hr
                have hk3 : ∀ k, k ∉ [39, 40, 41, 42, 43, 44, 45, 46, 47, 48, 51, 52] → τ3 k = τ k := fun k hk => by
                  rw [hr.1, sr_n _ _ (fun z => hk (by rw [z]; decide))]
                  exact hk3 k hk
                have hM3 : MT (ML V w v (vR V 4)) τ3 := by
                  unfold MT
                  rw [hr.1, sr_n _ _ (by decide), sr_n _ _ (by decide), sr_n _ _ (by decide), sr_n _ _ (by decide), sr_n _ _ (by decide)]
                  exact hM3
                rw [show r1 = nI (cO V w v) from hr.2]
                have hS3 := SN_k hS (NI_of hk3 (by decide))
                clear hr
                refine rw_go hX [(92, .iload 5), (94, .iload_n 3)] (by decide +kernel) (Ps := []) (pc' := 95) (lv' := [(0, .ref 22), (1, .ref 1), (2, .int (nI (vR V 4))), (3, .int (nI (vR V 5))), (4, .int (nI w)), (5, .int (nI v))]) (st' := [.int (nI (vR V 5)), .int (nI v), .int (nI (cO V w v)), .ref 22]) (σ' := τ3) rfl True.intro ?_
                refine rw_callVi hX (as := [.int (nI (cO V w v)), .int (nI v), .int (nI (vR V 5))]) (rest := []) (c_isEnough _ _ _ V (cO V w v) v hv h44 (cO_50 V w v) (hS3.1 v h44).1.1) (by decide +kernel) mvX8_isEnough lk8_140 (ci := 7) rfl rfl rfl (by decide) (Nat.le_of_ble_eq_true rfl) rfl ?_
                intro r1 σ1 hr
                rw [hr.1, show r1 = bz (enB V (cO V w v) v) from hr.2]
                clear hr σ1 r1
                refine rw_if hX (tgt := 129) (cnd := .eq) (off := 31) (by decide +kernel) (by decide) (fun h98 => ?_) (fun h98 => ?_)
                · replace h98 := zb_eqT h98
                  have hbd : bdP V w v = false := by unfold bdP; rw [h81, h98]; rfl
                  refine rw_go hX [(129, .iinc 5 1), (132, .goto (-91))] (by decide +kernel) (Ps := []) (pc' := 41) (lv' := [(0, .ref 22), (1, .ref 1), (2, .int (nI (vR V 4))), (3, .int (nI (vR V 5))), (4, .int (nI w)), (5, .int (nI v + nI 1))]) (st' := []) (σ' := τ3) rfl True.intro ?_
                  refine rw_lsub (ks := [0, 1, 2, 3, 4, 5]) (lv' := [(0, .ref 22), (1, .ref 1), (2, .int (nI (vR V 4))), (3, .int (nI (vR V 5))), (4, .int (nI w)), (5, .int (nI v + nI 1))]) rfl ?_
                  rw [nI_add]
                  exact ih41 (5 - (v + 1)) (by omega) (v + 1) _ rfl (by omega) (by omega) hS3 (hq.trans (SQ_of hk3 (by decide))) (BI_n (fun a ha => by rw [hk3 60 (by decide)]; exact hB a ha) hwv hbd)
                · replace h98 := zb_eqF h98
                  have hbd : bdP V w v = true := by unfold bdP; rw [h98, Bool.or_true]
                  obtain ⟨m1, hm1, em1, -⟩ := hB w (by omega)
                  obtain ⟨m2, hm2, em2, -⟩ := hB v (by omega)
                  have em1b : τ3 60 w = nI m1 := (congrFun (hk3 60 (by decide)) w).trans em1
                  have em2b : τ3 60 v = nI m2 := (congrFun (hk3 60 (by decide)) v).trans em2
                  refine rw_go hX [(101, .aload_n 0), (102, .getfield 39), (105, .iload 4), (107, .dup2), (108, .iaload)] (by decide +kernel) (Ps := [vp_in (nI w) 5]) (pc' := 109) (lv' := [(0, .ref 22), (1, .ref 1), (2, .int (nI (vR V 4))), (3, .int (nI (vR V 5))), (4, .int (nI w)), (5, .int (nI v))]) (st' := [.int (τ3 60 (nI w).toNatClampNeg), .int (nI w), .ref 60]) (σ' := τ3) rfl (vp_in_nI (by omega) (by omega)) ?_
                  rw [show (τ3 60 (nI w).toNatClampNeg) = nI m1 from (by rw [nI_clamp (by omega), em1b])]
                  refine rw_go hX [(109, .iconst 1), (110, .iload 5), (112, .ishl)] (by decide +kernel) (Ps := []) (pc' := 113) (lv' := [(0, .ref 22), (1, .ref 1), (2, .int (nI (vR V 4))), (3, .int (nI (vR V 5))), (4, .int (nI w)), (5, .int (nI v))]) (st' := [.int ((nI 1) <<< ((nI v) &&& 31)), .int (nI m1), .int (nI w), .ref 60]) (σ' := τ3) rfl True.intro ?_
                  rw [show ((nI 1) <<< ((nI v) &&& 31)) = nI (2 ^ v) from shl_nI h44]
                  refine rw_go hX [(113, .ior)] (by decide +kernel) (Ps := []) (pc' := 114) (lv' := [(0, .ref 22), (1, .ref 1), (2, .int (nI (vR V 4))), (3, .int (nI (vR V 5))), (4, .int (nI w)), (5, .int (nI v))]) (st' := [.int (nI m1 ||| nI (2 ^ v)), .int (nI w), .ref 60]) (σ' := τ3) rfl True.intro ?_
                  rw [show (nI m1 ||| nI (2 ^ v)) = nI (m1 ||| 2 ^ v) from or_nI hm1 (pow5 h44)]
                  refine rw_go hX [(114, .iastore)] (by decide +kernel) (Ps := [vp_in (nI w) 5]) (pc' := 115) (lv' := [(0, .ref 22), (1, .ref 1), (2, .int (nI (vR V 4))), (3, .int (nI (vR V 5))), (4, .int (nI w)), (5, .int (nI v))]) (st' := []) (σ' := sw τ3 60 (nI w).toNatClampNeg (nI (m1 ||| 2 ^ v))) rfl (vp_in_nI (by omega) (by omega)) ?_
                  rw [show (sw τ3 60 (nI w).toNatClampNeg (nI (m1 ||| 2 ^ v))) = sw τ3 60 w (nI (m1 ||| 2 ^ v)) from (by rw [nI_clamp (by omega)])]
                  refine rw_go hX [(115, .aload_n 0), (116, .getfield 39), (119, .iload 5), (121, .dup2), (122, .iaload)] (by decide +kernel) (Ps := [vp_in (nI v) 5]) (pc' := 123) (lv' := [(0, .ref 22), (1, .ref 1), (2, .int (nI (vR V 4))), (3, .int (nI (vR V 5))), (4, .int (nI w)), (5, .int (nI v))]) (st' := [.int ((sw τ3 60 w (nI (m1 ||| 2 ^ v))) 60 (nI v).toNatClampNeg), .int (nI v), .ref 60]) (σ' := sw τ3 60 w (nI (m1 ||| 2 ^ v))) rfl (vp_in_nI (by omega) (by omega)) ?_
                  rw [show ((sw τ3 60 w (nI (m1 ||| 2 ^ v))) 60 (nI v).toNatClampNeg) = (sw τ3 60 w (nI (m1 ||| 2 ^ v))) 60 v from (by rw [nI_clamp (by omega)])]
                  rw [show ((sw τ3 60 w (nI (m1 ||| 2 ^ v))) 60 v) = nI m2 from (by rw [sw_o (by omega)]; exact em2b)]
                  refine rw_go hX [(123, .iconst 1), (124, .iload 4), (126, .ishl)] (by decide +kernel) (Ps := []) (pc' := 127) (lv' := [(0, .ref 22), (1, .ref 1), (2, .int (nI (vR V 4))), (3, .int (nI (vR V 5))), (4, .int (nI w)), (5, .int (nI v))]) (st' := [.int ((nI 1) <<< ((nI w) &&& 31)), .int (nI m2), .int (nI v), .ref 60]) (σ' := sw τ3 60 w (nI (m1 ||| 2 ^ v))) rfl True.intro ?_
                  rw [show ((nI 1) <<< ((nI w) &&& 31)) = nI (2 ^ w) from shl_nI hw]
                  refine rw_go hX [(127, .ior)] (by decide +kernel) (Ps := []) (pc' := 128) (lv' := [(0, .ref 22), (1, .ref 1), (2, .int (nI (vR V 4))), (3, .int (nI (vR V 5))), (4, .int (nI w)), (5, .int (nI v))]) (st' := [.int (nI m2 ||| nI (2 ^ w)), .int (nI v), .ref 60]) (σ' := sw τ3 60 w (nI (m1 ||| 2 ^ v))) rfl True.intro ?_
                  rw [show (nI m2 ||| nI (2 ^ w)) = nI (m2 ||| 2 ^ w) from or_nI hm2 (pow5 hw)]
                  refine rw_go hX [(128, .iastore)] (by decide +kernel) (Ps := [vp_in (nI v) 5]) (pc' := 129) (lv' := [(0, .ref 22), (1, .ref 1), (2, .int (nI (vR V 4))), (3, .int (nI (vR V 5))), (4, .int (nI w)), (5, .int (nI v))]) (st' := []) (σ' := sw (sw τ3 60 w (nI (m1 ||| 2 ^ v))) 60 (nI v).toNatClampNeg (nI (m2 ||| 2 ^ w))) rfl (vp_in_nI (by omega) (by omega)) ?_
                  rw [show (sw (sw τ3 60 w (nI (m1 ||| 2 ^ v))) 60 (nI v).toNatClampNeg (nI (m2 ||| 2 ^ w))) = sw (sw τ3 60 w (nI (m1 ||| 2 ^ v))) 60 v (nI (m2 ||| 2 ^ w)) from (by rw [nI_clamp (by omega)])]
                  refine rw_go hX [(129, .iinc 5 1), (132, .goto (-91))] (by decide +kernel) (Ps := []) (pc' := 41) (lv' := [(0, .ref 22), (1, .ref 1), (2, .int (nI (vR V 4))), (3, .int (nI (vR V 5))), (4, .int (nI w)), (5, .int (nI v + nI 1))]) (st' := []) (σ' := sw (sw τ3 60 w (nI (m1 ||| 2 ^ v))) 60 v (nI (m2 ||| 2 ^ w))) rfl True.intro ?_
                  refine rw_lsub (ks := [0, 1, 2, 3, 4, 5]) (lv' := [(0, .ref 22), (1, .ref 1), (2, .int (nI (vR V 4))), (3, .int (nI (vR V 5))), (4, .int (nI w)), (5, .int (nI v + nI 1))]) rfl ?_
                  rw [nI_add]
                  exact ih41 (5 - (v + 1)) (by omega) (v + 1) _ rfl (by omega) (by omega) (SN_k hS3 (fun k hk => by rw [sw_ne _ _ _ (fun z => by rw [z] at hk; revert hk; decide), sw_ne _ _ _ (fun z => by rw [z] at hk; revert hk; decide)])) ((hq.trans (SQ_of hk3 (by decide))).trans (fun k hk => by rw [sw_ne _ _ _ (by omega), sw_ne _ _ _ (by omega)])) (BI_y (fun a ha => by rw [hk3 60 (by decide)]; exact hB a ha) hwv h44 hbd em1b hm1 em2b hm2)
        refine rw_lsub (ks := [0, 1, 2, 3, 4, 5]) (lv' := [(0, .ref 22), (1, .ref 1), (2, .int (nI (vR V 4))), (3, .int (nI (vR V 5))), (4, .int (nI w)), (5, .int (nI (w + 1)))]) rfl ?_
        exact L41 (5 - (w + 1)) (w + 1) _ rfl (by omega) (by omega) hS hq (BI_c hB fun a b ha hb hn => pd_c (by omega))
  refine rw_lsub (ks := [0, 1, 2, 3, 4]) (lv' := [(0, .ref 22), (1, .ref 1), (2, .int (nI (vR V 4))), (3, .int (nI (vR V 5))), (4, .int (nI 0))]) rfl ?_
  exact L29 5 0 _ rfl (by omega) (SN_k hS0 (fun k hk => sr_n _ _ (fun z => by rw [z] at hk; revert hk; decide))) (fun k hk => sr_n _ _ (by omega)) (fun a ha => ⟨0, by omega, by rw [sr_s]; exact if_pos ⟨Nat.zero_le _, ha⟩, fun b hb => by rw [Nat.zero_testBit, show pd 0 0 a b = false from decide_eq_false (by omega), Bool.and_false]⟩)
theorem GRm_cl {bd : Nat → Nat → Bool} {m : Nat → Nat} {S S0 : Nat} (hm : ∀ a, a < 5 → ∀ b, b < 5 → (m a).testBit b = bd a b) (h : ∀ a, a < 5 → S0.testBit a = true → ∀ b, b < 5 → (m a).testBit b = true → S.testBit b = true) (e : S = S0) : GRc bd S := fun a b ha hb h1 h2 => h a ha (by rw [← e]; exact h1) b hb (by rw [hm a ha b hb]; exact h2)
set_option maxRecDepth 20000 in
set_option maxHeartbeats 4000000 in
theorem c_boundTo (l : Launch) (G : Gl) (σ : Mm) (m : Nat → Nat) (bd : Nat → Nat → Bool) (w : Nat) (hw : w < 5) (hm : ∀ a, a < 5 → σ 60 a = nI (m a) ∧ m a < 32) (hb : ∀ a, a < 5 → ∀ b, b < 5 → (m a).testBit b = bd a b) : AMi l G 0 mX8_boundTo [.ref 22, .int (nI w)] σ (fun r σ' => σ' = σ ∧ ∃ S, GR bd w S ∧ r = nI S) := by
  refine rw_inI 8 (by decide +kernel) rfl rfl ?_
  intro E hE hX
  subst hE
  refine rw_go hX [(0, .iconst 1), (1, .iload_n 1), (2, .ishl)] (by decide +kernel) (Ps := []) (pc' := 3) (lv' := [(0, .ref 22), (1, .int (nI w))]) (st' := [.int ((nI 1) <<< ((nI w) &&& 31))]) (σ' := σ) rfl True.intro ?_
  rw [show ((nI 1) <<< ((nI w) &&& 31)) = nI (2 ^ w) from shl_nI hw]
  refine rw_go hX [(3, .istore_n 2), (4, .iconst 0), (5, .istore_n 3)] (by decide +kernel) (Ps := []) (pc' := 6) (lv' := [(0, .ref 22), (1, .int (nI w)), (2, .int (nI (2 ^ w))), (3, .int (nI 0))]) (st' := []) (σ' := σ) rfl True.intro ?_
  have L6 : ∀ (μ6 : Nat) (t S0 : Nat), μ6 = 5 - t → (t ≤ 5) → (GRm bd w S0) → (t + 1 ≤ pop S0 ∨ GRc bd S0) → RW E G 0 5 (QI E G (fun r σ' => σ' = σ ∧ ∃ S, GR bd w S ∧ r = nI S)) 6 [(0, .ref 22), (1, .int (nI w)), (2, .int (nI S0)), (3, .int (nI t))] [] σ := by
    intro μ6
    induction μ6 using Nat.strongRecOn with
    | ind μ6 ih6 =>
      intro t S0 hμ6 ht hG hp
      refine rw_go hX [(6, .iload_n 3), (7, .iconst 5)] (by decide +kernel) (Ps := []) (pc' := 8) (lv' := [(0, .ref 22), (1, .int (nI w)), (2, .int (nI S0)), (3, .int (nI t))]) (st' := [.int (nI 5), .int (nI t)]) (σ' := σ) rfl True.intro ?_
      refine rw_icmp hX (tgt := 52) (cnd := .ge) (off := 44) (by decide +kernel) (by decide) (fun h8 => ?_) (fun h8 => ?_)
      · replace h8 := c2_geT h8
        have e5 : t = 5 := by omega
        have hG5 : GRc bd S0 := by
          rcases hp with hp | hp
          · have : pop S0 ≤ 5 := cB_le _ 5
            omega
          · exact hp
        refine rw_go hX [(52, .iload_n 2)] (by decide +kernel) (Ps := []) (pc' := 53) (lv' := [(0, .ref 22), (1, .int (nI w)), (2, .int (nI S0)), (3, .int (nI t))]) (st' := [.int (nI S0)]) (σ' := σ) rfl True.intro ?_
        exact rw_iret hX (by decide +kernel) (⟨rfl, S0, ⟨hG, hG5⟩, rfl⟩)
      · replace h8 := c2_geF h8
        refine rw_go hX [(11, .iconst 0), (12, .istore 4)] (by decide +kernel) (Ps := []) (pc' := 14) (lv' := [(0, .ref 22), (1, .int (nI w)), (2, .int (nI S0)), (3, .int (nI t)), (4, .int (nI 0))]) (st' := []) (σ' := σ) rfl True.intro ?_
        have L14 : ∀ (μ14 : Nat) (c S : Nat), μ14 = 5 - c → (c ≤ 5) → (GRm bd w S) → (∀ b, b < 5 → S0.testBit b = true → S.testBit b = true) → (∀ a, a < c → S0.testBit a = true → ∀ b, b < 5 → (m a).testBit b = true → S.testBit b = true) → (GRc bd S0 → S = S0) → RW E G 0 5 (QI E G (fun r σ' => σ' = σ ∧ ∃ S, GR bd w S ∧ r = nI S)) 14 [(0, .ref 22), (1, .int (nI w)), (2, .int (nI S)), (3, .int (nI t)), (4, .int (nI c))] [] σ := by
          intro μ14
          induction μ14 using Nat.strongRecOn with
          | ind μ14 ih14 =>
            intro c S hμ14 hc hGS hsub hin hcl
            refine rw_go hX [(14, .iload 4), (16, .iconst 5)] (by decide +kernel) (Ps := []) (pc' := 17) (lv' := [(0, .ref 22), (1, .int (nI w)), (2, .int (nI S)), (3, .int (nI t)), (4, .int (nI c))]) (st' := [.int (nI 5), .int (nI c)]) (σ' := σ) rfl True.intro ?_
            refine rw_icmp hX (tgt := 46) (cnd := .ge) (off := 29) (by decide +kernel) (by decide) (fun h17 => ?_) (fun h17 => ?_)
            · replace h17 := c2_geT h17
              have e5 : c = 5 := by omega
              refine rw_go hX [(46, .iinc 3 1), (49, .goto (-43))] (by decide +kernel) (Ps := []) (pc' := 6) (lv' := [(0, .ref 22), (1, .int (nI w)), (2, .int (nI S)), (3, .int (nI t + nI 1)), (4, .int (nI c))]) (st' := []) (σ' := σ) rfl True.intro ?_
              refine rw_lsub (ks := [0, 1, 2, 3]) (lv' := [(0, .ref 22), (1, .int (nI w)), (2, .int (nI S)), (3, .int (nI t + nI 1))]) rfl ?_
              rw [nI_add]
              refine ih6 (5 - (t + 1)) (by omega) (t + 1) S rfl (by omega) hGS ?_
              by_cases e9 : S = S0
              · exact Or.inr (GRm_cl hb (by have q := hin; rw [e5] at q; exact q) e9)
              · rcases hp with hp | hp
                · left
                  have := pop_lt hG.1 hGS.1 hsub (fun z => e9 z.symm)
                  omega
                · exact absurd (hcl hp) e9
            · replace h17 := c2_geF h17
              refine rw_go hX [(20, .iload_n 2), (21, .iload 4), (23, .ishr), (24, .iconst 1), (25, .iand)] (by decide +kernel) (Ps := []) (pc' := 26) (lv' := [(0, .ref 22), (1, .int (nI w)), (2, .int (nI S)), (3, .int (nI t)), (4, .int (nI c))]) (st' := [.int (((nI S) >>> ((nI c) &&& 31)) &&& nI 1)]) (σ' := σ) rfl True.intro ?_
              rw [show (((nI S) >>> ((nI c) &&& 31)) &&& nI 1) = nI (b1N (S.testBit c)) from bit_nI hGS.1 h17]
              refine rw_go hX [(26, .iconst 1)] (by decide +kernel) (Ps := []) (pc' := 27) (lv' := [(0, .ref 22), (1, .int (nI w)), (2, .int (nI S)), (3, .int (nI t)), (4, .int (nI c))]) (st' := [.int (nI 1), .int (nI (b1N (S.testBit c)))]) (σ' := σ) rfl True.intro ?_
              refine rw_icmp hX (tgt := 40) (cnd := .ne) (off := 13) (by decide +kernel) (by decide) (fun h27 => ?_) (fun h27 => ?_)
              · have hbit : S.testBit c = false := by
                  cases z : S.testBit c with
                  | false => rfl
                  | true => rw [z] at h27; exact absurd rfl h27
                refine rw_go hX [(40, .iinc 4 1), (43, .goto (-29))] (by decide +kernel) (Ps := []) (pc' := 14) (lv' := [(0, .ref 22), (1, .int (nI w)), (2, .int (nI S)), (3, .int (nI t)), (4, .int (nI c + nI 1))]) (st' := []) (σ' := σ) rfl True.intro ?_
                refine rw_lsub (ks := [0, 1, 2, 3, 4]) (lv' := [(0, .ref 22), (1, .int (nI w)), (2, .int (nI S)), (3, .int (nI t)), (4, .int (nI c + nI 1))]) rfl ?_
                rw [nI_add]
                refine ih14 (5 - (c + 1)) (by omega) (c + 1) S rfl (by omega) hGS hsub (fun a ha h0 => ?_) hcl
                rcases Nat.lt_or_ge a c with q | q
                · exact hin a q h0
                · rw [show a = c by omega] at h0
                  rw [hsub c h17 h0] at hbit
                  cases hbit
              · have hbit : S.testBit c = true := by
                  cases z : S.testBit c with
                  | true => rfl
                  | false => rw [z] at h27; exact absurd (show (nI 0 : Int32) ≠ nI 1 by decide +kernel) h27
                refine rw_go hX [(30, .iload_n 2), (31, .aload_n 0), (32, .getfield 39), (35, .iload 4), (37, .iaload)] (by decide +kernel) (Ps := [vp_in (nI c) 5]) (pc' := 38) (lv' := [(0, .ref 22), (1, .int (nI w)), (2, .int (nI S)), (3, .int (nI t)), (4, .int (nI c))]) (st' := [.int (σ 60 (nI c).toNatClampNeg), .int (nI S)]) (σ' := σ) rfl (vp_in_nI (by omega) (by omega)) ?_
                rw [show (σ 60 (nI c).toNatClampNeg) = nI (m c) from (by rw [nI_clamp (by omega), (hm c h17).1])]
                refine rw_go hX [(38, .ior)] (by decide +kernel) (Ps := []) (pc' := 39) (lv' := [(0, .ref 22), (1, .int (nI w)), (2, .int (nI S)), (3, .int (nI t)), (4, .int (nI c))]) (st' := [.int (nI S ||| nI (m c))]) (σ' := σ) rfl True.intro ?_
                rw [show (nI S ||| nI (m c)) = nI (S ||| m c) from or_nI hGS.1 (hm c h17).2]
                refine rw_go hX [(39, .istore_n 2), (40, .iinc 4 1), (43, .goto (-29))] (by decide +kernel) (Ps := []) (pc' := 14) (lv' := [(0, .ref 22), (1, .int (nI w)), (2, .int (nI (S ||| m c))), (3, .int (nI t)), (4, .int (nI c + nI 1))]) (st' := []) (σ' := σ) rfl True.intro ?_
                refine rw_lsub (ks := [0, 1, 2, 3, 4]) (lv' := [(0, .ref 22), (1, .int (nI w)), (2, .int (nI (S ||| m c))), (3, .int (nI t)), (4, .int (nI c + nI 1))]) rfl ?_
                rw [nI_add]
                refine ih14 (5 - (c + 1)) (by omega) (c + 1) (S ||| m c) rfl (by omega) (GRm_or hGS h17 hbit (hm c h17).2 (fun b hb9 z => by rw [← hb c h17 b hb9]; exact z)) (fun b hb9 z => by rw [Nat.testBit_or, hsub b hb9 z]; rfl) (fun a ha h0 b hb9 z => ?_) (fun z => ?_)
                · rw [Nat.testBit_or]
                  rcases Nat.lt_or_ge a c with q | q
                  · rw [hin a q h0 b hb9 z]; rfl
                  · rw [show a = c by omega] at z
                    rw [z, Bool.or_true]
                · have e9 := hcl z
                  subst e9
                  refine bit_e (or32 hGS.1 (hm c h17).2) hGS.1 fun b hb9 => ?_
                  rw [Nat.testBit_or]
                  cases q : (m c).testBit b with
                  | false => exact Bool.or_false _
                  | true => rw [z c b h17 hb9 hbit (by rw [← hb c h17 b hb9]; exact q)]; rfl
        refine rw_lsub (ks := [0, 1, 2, 3, 4]) (lv' := [(0, .ref 22), (1, .int (nI w)), (2, .int (nI S0)), (3, .int (nI t)), (4, .int (nI 0))]) rfl ?_
        exact L14 5 0 S0 rfl (by omega) hG (fun _ _ z => z) (fun a ha => by omega) (fun _ => rfl)
  refine rw_lsub (ks := [0, 1, 2, 3]) (lv' := [(0, .ref 22), (1, .int (nI w)), (2, .int (nI (2 ^ w))), (3, .int (nI 0))]) rfl ?_
  exact L6 5 0 (2 ^ w) rfl (by omega) (GRm_0 bd hw) (Or.inl (pop_1 hw (GRm_0 bd hw).2.1))
