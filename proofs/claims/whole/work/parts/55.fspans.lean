/-! the calls on spans -/
noncomputable def aSpanI (V : Mm) (w : Nat) (k q : Int32) : Int32 := if k = -(nI 1) then nI (spN (sT V w (vR V 4)) (lC V w)) else if k < 0 then -(nI 12) else if k < nI (spN (sT V w (vR V 4)) (lC V w)) then (if q = nI 2 then en (sT V w (vR V 4) (spA (sT V w (vR V 4)) k.toNatClampNeg (lC V w))) else nI (PL V w (tPi (sT V w (vR V 4)) (lC V w) (2 * k.toNatClampNeg + q.toNatClampNeg)))) else -(nI 12)
noncomputable def aSpan (V : Mm) (x k q : Int32) : Int32 := if 0 ≤ x ∧ x ≤ 4 then (if 0 ≤ q ∧ q < nI 3 then (if vS V x.toNatClampNeg = 0 then -(nI 11) else aSpanI V x.toNatClampNeg k q) else -(nI 2)) else -(nI 2)
noncomputable def aSource (V : Mm) (x i : Int32) : Int32 := if 0 ≤ x ∧ x ≤ 4 then (if vS V x.toNatClampNeg = 0 then -(nI 11) else if i < 0 then -(nI 12) else if i < nI (lC V x.toNatClampNeg) then en (sT V x.toNatClampNeg (vR V 4) i.toNatClampNeg) else -(nI 12)) else -(nI 2)
noncomputable def cvV (V : Mm) (w : Nat) : Nat := cvN (sT V w (vR V 4)) (lC V w)
noncomputable def aShare (V : Mm) (x q : Int32) : Int32 := if 0 ≤ x ∧ x ≤ 4 then (if 0 ≤ q ∧ q < nI 3 then (if vS V x.toNatClampNeg = 0 then -(nI 11) else if q = nI 2 then en (msS (fun v => tyN (sT V x.toNatClampNeg (vR V 4)) v (lC V x.toNatClampNeg)) 5).1 else nI (shN (cvV V x.toNatClampNeg) (lC V x.toNatClampNeg) q.toNatClampNeg)) else -(nI 2)) else -(nI 2)
def pGroup (V : Mm) (x r : Int32) : Prop := if 0 ≤ x ∧ x ≤ 4 then (if vS V x.toNatClampNeg = 0 then r = -(nI 11) else ∃ S, GR (bd V) x.toNatClampNeg S ∧ r = nI S) else r = -(nI 2)
def ltV (V : Mm) (u : Nat) : Mm := fun j => if j = 1 then upd (V 1) u (nI 0) else V j
theorem ltV_n (V : Mm) (u : Nat) {j : Nat} (h : j ≠ 1) : ltV V u j = V j := if_neg h
theorem wf_lt {V : Mm} (h : wf V) (u : Nat) : wf (ltV V u) := by
  refine ⟨fun w hw => ⟨?_, ?_, ?_⟩, ?_⟩
  · unfold vS
    rw [show ltV V u 1 = upd (V 1) u (nI 0) from rfl]
    by_cases e : w = u
    · subst e; rw [upd_s, nI_clamp (by omega)]; exact ⟨rfl, by omega⟩
    · rw [upd_n _ _ e]; exact (h.1 w hw).1
  · unfold vK; rw [ltV_n V u (by decide)]; exact (h.1 w hw).2.1
  · unfold vD; rw [ltV_n V u (by decide)]; exact (h.1 w hw).2.2
  · unfold vR; rw [ltV_n V u (by decide)]; exact h.2
noncomputable def aWithout (V : Mm) (x y : Int32) : Int32 := if tw x y then (if vS V x.toNatClampNeg = 0 then -(nI 11) else if vS V y.toNatClampNeg = 0 then -(nI 11) else nI (cvV (ltV V y.toNatClampNeg) x.toNatClampNeg)) else -(nI 2)
noncomputable def shV (V : Mm) (w q : Nat) : Nat := shN (cvV V w) (lC V w) q
noncomputable def aDrawn (V : Mm) (x z n q : Int32) : Int32 := if 0 ≤ x ∧ x ≤ 4 then (if n < 0 then -(nI 2) else if n > nI 20 then -(nI 2) else if 0 ≤ q ∧ q < nI 2 then (if vS V x.toNatClampNeg = 0 then -(nI 11) else nI (shV (drV V x.toNatClampNeg z n.toNatClampNeg) x.toNatClampNeg q.toNatClampNeg)) else -(nI 2)) else -(nI 2)
noncomputable def chB (V : Mm) (w : Nat) (z sh : Int32) (i : Nat) : Bool := decide (sh ≤ nI (shV (drV V w (z + nI i) 3) w 1))
noncomputable def aChance (V : Mm) (x z m sh p : Int32) : Int32 := if 0 ≤ x ∧ x ≤ 4 then (if m < nI 1 then -(nI 2) else if m > nI 3 then -(nI 2) else if sh < 0 then -(nI 2) else if sh > nI 100 then -(nI 2) else if 0 ≤ p ∧ p < nI 2 then (if vS V x.toNatClampNeg = 0 then -(nI 11) else nI (lowT (cB (chB V x.toNatClampNeg z sh) m.toNatClampNeg) m.toNatClampNeg p.toNatClampNeg)) else -(nI 2)) else -(nI 2)
theorem tkM_1 {σ V : Mm} (hV : vw σ 2 = V) (u : Nat) : vw (sw (tkM 1 15 σ) 17 u (nI 0)) 16 = ltV V u ∧ XQ σ (sw (tkM 1 15 σ) 17 u (nI 0)) := by
  obtain ⟨h1, h2⟩ := tkM_vw (a := 1) (b := 15) (by decide) hV
  refine ⟨?_, fun k hk => by rw [sw_ne _ _ _ (by omega)]; exact h2 k (by simp only [List.mem_cons, List.not_mem_nil, or_false]; omega)⟩
  funext j
  by_cases g : j = 1
  · subst g
    unfold vw
    rw [if_pos (by decide), show 16 + 1 = 17 from rfl, sw_row, show tkM 1 15 σ 17 = V 1 from vw_at h1 1 (by omega)]
    rfl
  · rw [ltV_n V u g, ← congrFun h1 j]
    unfold vw
    by_cases g2 : j < 5
    · rw [if_pos g2, if_pos g2, sw_ne _ _ _ (by omega)]
    · rw [if_neg g2, if_neg g2]
theorem cvV_L (V : Mm) (w : Nat) : cvV V w ≤ lC V w := cvN_le _ _
set_option maxRecDepth 20000 in
set_option maxHeartbeats 4000000 in
theorem f_span (l : Launch) (G : Gl) (σ : Mm) (V : Mm) (xw xk xq : Int32) (hV : vw σ 2 = V) (hv : wf V) : AMi l G 6 mX9_span [.ref 0, .int xw, .int xk, .int xq] σ (fun r σ' => r = aSpan V xw xk xq ∧ XQ σ σ') := by
  refine rw_inI 9 (by decide +kernel) rfl rfl ?_
  intro E hE hX
  subst hE
  refine rw_go hX [(0, .iload_n 1)] (by decide +kernel) (Ps := []) (pc' := 1) (lv' := [(0, .ref 0), (1, .int xw), (2, .int xk), (3, .int xq)]) (st' := [.int xw]) (σ' := σ) rfl True.intro ?_
  refine rw_callSi hX (as := [.int xw]) (rest := []) (c_X9_isWork _ _ _ (xw)) (by decide +kernel) msX9_isWork (Or.inl lk9_56) rfl (by decide) (Nat.le_of_ble_eq_true rfl) rfl ?_
  intro r1 σ1 hr
  rw [hr.1, show r1 = bz (decide (0 ≤ xw ∧ xw ≤ 4)) from hr.2]
  clear hr σ1 r1
  refine rw_if hX (tgt := 15) (cnd := .eq) (off := 11) (by decide +kernel) (by decide) (fun h4 => ?_) (fun h4 => ?_)
  · replace h4 := of_decide_eq_false (zb_eqT h4)
    refine rw_go hX [(15, .bipush (-2))] (by decide +kernel) (Ps := []) (pc' := 17) (lv' := [(0, .ref 0), (1, .int xw), (2, .int xk), (3, .int xq)]) (st' := [.int (-(nI 2))]) (σ' := σ) rfl True.intro ?_
    exact rw_iret hX (by decide +kernel) (⟨by simp only [aSpan, eq_false h4, if_true, if_false, Bool.false_eq_true, and_self, and_true, true_and, and_false, false_and, oel_n, oel_s, decide_true, decide_false], XQ_rfl _⟩)
  · replace h4 := of_decide_eq_true (zb_eqF h4)
    obtain ⟨w, hw, rfl⟩ := rng (m := 4) (by omega) h4
    have hw : w < 5 := hw
    have hcw : (nI w).toNatClampNeg = w := nI_clamp (by omega)
    refine rw_go hX [(7, .iload_n 3), (8, .iconst 3)] (by decide +kernel) (Ps := []) (pc' := 9) (lv' := [(0, .ref 0), (1, .int (nI w)), (2, .int xk), (3, .int xq)]) (st' := [.int (nI 3), .int xq]) (σ' := σ) rfl True.intro ?_
    refine rw_callSi hX (as := [.int xq, .int (nI 3)]) (rest := []) (c_X9_isOneOf _ _ _ (xq) (nI 3)) (by decide +kernel) msX9_isOneOf (Or.inl lk9_97) rfl (by decide) (Nat.le_of_ble_eq_true rfl) rfl ?_
    intro r1 σ1 hr
    rw [hr.1, show r1 = bz (decide (0 ≤ xq ∧ xq < nI 3)) from hr.2]
    clear hr σ1 r1
    refine rw_if hX (tgt := 18) (cnd := .ne) (off := 6) (by decide +kernel) (by decide) (fun h12 => ?_) (fun h12 => ?_)
    · replace h12 := of_decide_eq_true (zb_neT h12)
      refine rw_go hX [(18, .aload_n 0), (19, .iload_n 1)] (by decide +kernel) (Ps := []) (pc' := 20) (lv' := [(0, .ref 0), (1, .int (nI w)), (2, .int xk), (3, .int xq)]) (st' := [.int (nI w), .ref 0]) (σ' := σ) rfl True.intro ?_
      refine rw_callVi hX (as := [.int (nI w)]) (rest := []) (c_missing _ _ _ V w hV hv hw) (by decide +kernel) mvX9_isMissing lk9_78 (ci := 8) rfl rfl rfl (by decide) (Nat.le_of_ble_eq_true rfl) rfl ?_
      intro r1 σ1 hr
      rw [hr.1, show r1 = bz (decide (vS V w = 0)) from hr.2]
      clear hr σ1 r1
      refine rw_if hX (tgt := 29) (cnd := .eq) (off := 6) (by decide +kernel) (by decide) (fun h23 => ?_) (fun h23 => ?_)
      · replace h23 := of_decide_eq_false (zb_eqT h23)
        refine rw_go hX [(29, .aload_n 0), (30, .getfield 25), (33, .getfield 227), (36, .astore 4), (38, .aload_n 0), (39, .getfield 25), (42, .aload_n 0), (43, .getfield 12), (46, .iload_n 1)] (by decide +kernel) (Ps := []) (pc' := 47) (lv' := [(0, .ref 0), (1, .int (nI w)), (2, .int xk), (3, .int xq), (4, .ref 53)]) (st' := [.int (nI w), .ref 1, .ref 22]) (σ' := σ) rfl True.intro ?_
        refine rw_callVv hX (as := [.ref 1, .int (nI w)]) (rest := []) (c_trace_1 _ _ _ V w hV hv hw) (by decide +kernel) mvX8_trace lk9_231 (ci := 7) rfl rfl rfl (by decide) (Nat.le_of_ble_eq_true rfl) rfl ?_
        intro τ1 ht9
        obtain ⟨⟨F, hS⟩, hTR, hD, hq⟩ := ht9
        have hq1 := XQ_S hq
        have hL5 := lC_50 hv hw
        have hR := hS.1 w hw
        have hsn := spN_50 (s := sT V w (vR V 4)) hL5
        have hLs := wf_L hv
        refine rw_go hX [(50, .iload_n 2), (51, .iconst (-1))] (by decide +kernel) (Ps := []) (pc' := 52) (lv' := [(0, .ref 0), (1, .int (nI w)), (2, .int xk), (3, .int xq), (4, .ref 53)]) (st' := [.int (-(nI 1)), .int xk]) (σ' := τ1) rfl True.intro ?_
        refine rw_icmp hX (tgt := 61) (cnd := .ne) (off := 9) (by decide +kernel) (by decide) (fun h52 => ?_) (fun h52 => ?_)
        · replace h52 : (xk ≠ (-(nI 1))) := h52
          refine rw_go hX [(61, .iload_n 2)] (by decide +kernel) (Ps := []) (pc' := 62) (lv' := [(0, .ref 0), (1, .int (nI w)), (2, .int xk), (3, .int xq), (4, .ref 53)]) (st' := [.int xk]) (σ' := τ1) rfl True.intro ?_
          refine rw_if hX (tgt := 74) (cnd := .lt) (off := 12) (by decide +kernel) (by decide) (fun h62 => ?_) (fun h62 => ?_)
          · replace h62 : (xk < 0) := h62
            refine rw_go hX [(74, .bipush (-12))] (by decide +kernel) (Ps := []) (pc' := 76) (lv' := [(0, .ref 0), (1, .int (nI w)), (2, .int xk), (3, .int xq), (4, .ref 53)]) (st' := [.int (-(nI 12))]) (σ' := τ1) rfl True.intro ?_
            exact rw_iret hX (by decide +kernel) (⟨by simp only [aSpan, aSpanI, eq_true h4, hcw, eq_true h12, eq_false h23, eq_false h52, eq_true h62, if_true, if_false, Bool.false_eq_true, and_self, and_true, true_and, and_false, false_and, oel_n, oel_s, decide_true, decide_false], hq1⟩)
          · replace h62 : ¬ (xk < 0) := h62
            refine rw_go hX [(65, .iload_n 2), (66, .aload 4), (68, .getfield 234)] (by decide +kernel) (Ps := []) (pc' := 71) (lv' := [(0, .ref 0), (1, .int (nI w)), (2, .int xk), (3, .int xq), (4, .ref 53)]) (st' := [.int (τ1 53 0), .int xk]) (σ' := τ1) rfl True.intro ?_
            rw [show (τ1 53 0) = nI (spN (sT V w (vR V 4)) (lC V w)) from (by rw [hD.1])]
            refine rw_icmp hX (tgt := 77) (cnd := .lt) (off := 6) (by decide +kernel) (by decide) (fun h71 => ?_) (fun h71 => ?_)
            · replace h71 : (xk < nI (spN (sT V w (vR V 4)) (lC V w))) := h71
              obtain ⟨i, hi, rfl⟩ := rngO (m := spN (sT V w (vR V 4)) (lC V w)) (by omega) ⟨Int32.not_lt.mp h62, h71⟩
              have hci : (nI i).toNatClampNeg = i := nI_clamp (by omega)
              refine rw_go hX [(77, .iload_n 3), (78, .iconst 2)] (by decide +kernel) (Ps := []) (pc' := 79) (lv' := [(0, .ref 0), (1, .int (nI w)), (2, .int (nI i)), (3, .int xq), (4, .ref 53)]) (st' := [.int (nI 2), .int xq]) (σ' := τ1) rfl True.intro ?_
              refine rw_icmp hX (tgt := 91) (cnd := .ne) (off := 12) (by decide +kernel) (by decide) (fun h79 => ?_) (fun h79 => ?_)
              · replace h79 : (xq ≠ nI 2) := h79
                obtain ⟨c, hc, rfl⟩ := rngO (m := 3) (by omega) h12
                have hcc : (nI c).toNatClampNeg = c := nI_clamp (by omega)
                have hc2 : c < 2 := by
                  rcases Nat.lt_or_ge c 2 with q | q
                  · exact q
                  · exact absurd (by rw [show c = 2 by omega]) h79
                refine rw_go hX [(91, .aload_n 0), (92, .getfield 25), (95, .iload_n 1), (96, .iconst 2), (97, .iload_n 2), (98, .imul)] (by decide +kernel) (Ps := []) (pc' := 99) (lv' := [(0, .ref 0), (1, .int (nI w)), (2, .int (nI i)), (3, .int (nI c)), (4, .ref 53)]) (st' := [.int (nI 2 * nI i), .int (nI w), .ref 22]) (σ' := τ1) rfl True.intro ?_
                rw [show (nI 2 * nI i) = nI (2 * i) from pk_mul _ _]
                refine rw_go hX [(99, .iload_n 3)] (by decide +kernel) (Ps := []) (pc' := 100) (lv' := [(0, .ref 0), (1, .int (nI w)), (2, .int (nI i)), (3, .int (nI c)), (4, .ref 53)]) (st' := [.int (nI c), .int (nI (2 * i)), .int (nI w), .ref 22]) (σ' := τ1) rfl True.intro ?_
                refine rw_go hX [(100, .iadd)] (by decide +kernel) (Ps := []) (pc' := 101) (lv' := [(0, .ref 0), (1, .int (nI w)), (2, .int (nI i)), (3, .int (nI c)), (4, .ref 53)]) (st' := [.int (nI (2 * i) + nI c), .int (nI w), .ref 22]) (σ' := τ1) rfl True.intro ?_
                rw [show (nI (2 * i) + nI c) = nI (2 * i + c) from nI_add _ _]
                refine rw_callVi hX (as := [.int (nI w), .int (nI (2 * i + c))]) (rest := []) (c_toldPlace _ _ _ V (sT V w (vR V 4)) w (2 * i + c) hv hw hD hR (by omega)) (by decide +kernel) mvX8_toldPlace lk9_240 (ci := 7) rfl rfl rfl (by decide) (Nat.le_of_ble_eq_true rfl) rfl ?_
                intro r1 σ1 hr
                rw [hr.1, show r1 = nI (PL V w (tPi (sT V w (vR V 4)) (lC V w) (2 * i + c))) from hr.2]
                clear hr σ1 r1
                exact rw_iret hX (by decide +kernel) (⟨by simp only [aSpan, aSpanI, eq_true h4, hcw, eq_true h12, eq_false h23, eq_false h52, eq_false h62, eq_true h71, hci, eq_false h79, hcc, if_true, if_false, Bool.false_eq_true, and_self, and_true, true_and, and_false, false_and, oel_n, oel_s, decide_true, decide_false], hq1⟩)
              · replace h79 : xq = nI 2 := Classical.not_not.mp h79
                refine rw_go hX [(82, .aload 4), (84, .iload_n 2)] (by decide +kernel) (Ps := []) (pc' := 85) (lv' := [(0, .ref 0), (1, .int (nI w)), (2, .int (nI i)), (3, .int xq), (4, .ref 53)]) (st' := [.int (nI i), .ref 53]) (σ' := τ1) rfl True.intro ?_
                refine rw_callVi hX (as := [.int (nI i)]) (rest := []) (c_sourceOfSpan _ _ _ i (by omega)) (by decide +kernel) mvX7_sourceOfSpan lk9_237 (ci := 6) rfl rfl rfl (by decide) (Nat.le_of_ble_eq_true rfl) rfl ?_
                intro r1 σ1 hr
                rw [hr.1, show r1 = en ((sT V w (vR V 4)) (spA (sT V w (vR V 4)) i (lC V w))) from hr.2.trans (hD.2.2.2 i hi).2.1]
                clear hr σ1 r1
                refine rw_go hX [(88, .goto 16)] (by decide +kernel) (Ps := []) (pc' := 104) (lv' := [(0, .ref 0), (1, .int (nI w)), (2, .int (nI i)), (3, .int xq), (4, .ref 53)]) (st' := [.int (en ((sT V w (vR V 4)) (spA (sT V w (vR V 4)) i (lC V w))))]) (σ' := τ1) rfl True.intro ?_
                exact rw_iret hX (by decide +kernel) (⟨by simp only [aSpan, aSpanI, eq_true h4, hcw, eq_true h12, eq_false h23, eq_false h52, eq_false h62, eq_true h71, hci, eq_true h79, if_true, if_false, Bool.false_eq_true, and_self, and_true, true_and, and_false, false_and, oel_n, oel_s, decide_true, decide_false], hq1⟩)
            · replace h71 : ¬ (xk < nI (spN (sT V w (vR V 4)) (lC V w))) := h71
              refine rw_go hX [(74, .bipush (-12))] (by decide +kernel) (Ps := []) (pc' := 76) (lv' := [(0, .ref 0), (1, .int (nI w)), (2, .int xk), (3, .int xq), (4, .ref 53)]) (st' := [.int (-(nI 12))]) (σ' := τ1) rfl True.intro ?_
              exact rw_iret hX (by decide +kernel) (⟨by simp only [aSpan, aSpanI, eq_true h4, hcw, eq_true h12, eq_false h23, eq_false h52, eq_false h62, eq_false h71, if_true, if_false, Bool.false_eq_true, and_self, and_true, true_and, and_false, false_and, oel_n, oel_s, decide_true, decide_false], hq1⟩)
        · replace h52 : xk = (-(nI 1)) := Classical.not_not.mp h52
          refine rw_go hX [(55, .aload 4), (57, .getfield 234)] (by decide +kernel) (Ps := []) (pc' := 60) (lv' := [(0, .ref 0), (1, .int (nI w)), (2, .int xk), (3, .int xq), (4, .ref 53)]) (st' := [.int (τ1 53 0)]) (σ' := τ1) rfl True.intro ?_
          rw [show (τ1 53 0) = nI (spN (sT V w (vR V 4)) (lC V w)) from (by rw [hD.1])]
          exact rw_iret hX (by decide +kernel) (⟨by simp only [aSpan, aSpanI, eq_true h4, hcw, eq_true h12, eq_false h23, eq_true h52, if_true, if_false, Bool.false_eq_true, and_self, and_true, true_and, and_false, false_and, oel_n, oel_s, decide_true, decide_false], hq1⟩)
      · replace h23 := of_decide_eq_true (zb_eqF h23)
        refine rw_go hX [(26, .bipush (-11))] (by decide +kernel) (Ps := []) (pc' := 28) (lv' := [(0, .ref 0), (1, .int (nI w)), (2, .int xk), (3, .int xq)]) (st' := [.int (-(nI 11))]) (σ' := σ) rfl True.intro ?_
        exact rw_iret hX (by decide +kernel) (⟨by simp only [aSpan, eq_true h4, hcw, eq_true h12, eq_true h23, if_true, if_false, Bool.false_eq_true, and_self, and_true, true_and, and_false, false_and, oel_n, oel_s, decide_true, decide_false], XQ_rfl _⟩)
    · replace h12 := of_decide_eq_false (zb_neF h12)
      refine rw_go hX [(15, .bipush (-2))] (by decide +kernel) (Ps := []) (pc' := 17) (lv' := [(0, .ref 0), (1, .int (nI w)), (2, .int xk), (3, .int xq)]) (st' := [.int (-(nI 2))]) (σ' := σ) rfl True.intro ?_
      exact rw_iret hX (by decide +kernel) (⟨by simp only [aSpan, eq_true h4, hcw, eq_false h12, if_true, if_false, Bool.false_eq_true, and_self, and_true, true_and, and_false, false_and, oel_n, oel_s, decide_true, decide_false], XQ_rfl _⟩)
set_option maxRecDepth 20000 in
set_option maxHeartbeats 4000000 in
theorem f_source (l : Launch) (G : Gl) (σ : Mm) (V : Mm) (xw xi : Int32) (hV : vw σ 2 = V) (hv : wf V) : AMi l G 6 mX9_source [.ref 0, .int xw, .int xi] σ (fun r σ' => r = aSource V xw xi ∧ XQ σ σ') := by
  refine rw_inI 9 (by decide +kernel) rfl rfl ?_
  intro E hE hX
  subst hE
  refine rw_go hX [(0, .iload_n 1)] (by decide +kernel) (Ps := []) (pc' := 1) (lv' := [(0, .ref 0), (1, .int xw), (2, .int xi)]) (st' := [.int xw]) (σ' := σ) rfl True.intro ?_
  refine rw_callSi hX (as := [.int xw]) (rest := []) (c_X9_isWork _ _ _ (xw)) (by decide +kernel) msX9_isWork (Or.inl lk9_56) rfl (by decide) (Nat.le_of_ble_eq_true rfl) rfl ?_
  intro r1 σ1 hr
  rw [hr.1, show r1 = bz (decide (0 ≤ xw ∧ xw ≤ 4)) from hr.2]
  clear hr σ1 r1
  refine rw_if hX (tgt := 10) (cnd := .ne) (off := 6) (by decide +kernel) (by decide) (fun h4 => ?_) (fun h4 => ?_)
  · replace h4 := of_decide_eq_true (zb_neT h4)
    obtain ⟨w, hw, rfl⟩ := rng (m := 4) (by omega) h4
    have hw : w < 5 := hw
    have hcw : (nI w).toNatClampNeg = w := nI_clamp (by omega)
    refine rw_go hX [(10, .aload_n 0), (11, .iload_n 1)] (by decide +kernel) (Ps := []) (pc' := 12) (lv' := [(0, .ref 0), (1, .int (nI w)), (2, .int xi)]) (st' := [.int (nI w), .ref 0]) (σ' := σ) rfl True.intro ?_
    refine rw_callVi hX (as := [.int (nI w)]) (rest := []) (c_missing _ _ _ V w hV hv hw) (by decide +kernel) mvX9_isMissing lk9_78 (ci := 8) rfl rfl rfl (by decide) (Nat.le_of_ble_eq_true rfl) rfl ?_
    intro r1 σ1 hr
    rw [hr.1, show r1 = bz (decide (vS V w = 0)) from hr.2]
    clear hr σ1 r1
    refine rw_if hX (tgt := 21) (cnd := .eq) (off := 6) (by decide +kernel) (by decide) (fun h15 => ?_) (fun h15 => ?_)
    · replace h15 := of_decide_eq_false (zb_eqT h15)
      refine rw_go hX [(21, .aload_n 0), (22, .getfield 25), (25, .aload_n 0), (26, .getfield 12), (29, .iload_n 1)] (by decide +kernel) (Ps := []) (pc' := 30) (lv' := [(0, .ref 0), (1, .int (nI w)), (2, .int xi)]) (st' := [.int (nI w), .ref 1, .ref 22]) (σ' := σ) rfl True.intro ?_
      refine rw_callVv hX (as := [.ref 1, .int (nI w)]) (rest := []) (c_trace_1 _ _ _ V w hV hv hw) (by decide +kernel) mvX8_trace lk9_231 (ci := 7) rfl rfl rfl (by decide) (Nat.le_of_ble_eq_true rfl) rfl ?_
      intro τ1 ht9
      obtain ⟨⟨F, hS⟩, hTR, hD, hq⟩ := ht9
      have hq1 := XQ_S hq
      have hL5 := lC_50 hv hw
      have hR := hS.1 w hw
      have hsn := spN_50 (s := sT V w (vR V 4)) hL5
      have hLs := wf_L hv
      refine rw_go hX [(33, .iload_n 2)] (by decide +kernel) (Ps := []) (pc' := 34) (lv' := [(0, .ref 0), (1, .int (nI w)), (2, .int xi)]) (st' := [.int xi]) (σ' := τ1) rfl True.intro ?_
      refine rw_if hX (tgt := 52) (cnd := .lt) (off := 18) (by decide +kernel) (by decide) (fun h34 => ?_) (fun h34 => ?_)
      · replace h34 : (xi < 0) := h34
        refine rw_go hX [(52, .bipush (-12))] (by decide +kernel) (Ps := []) (pc' := 54) (lv' := [(0, .ref 0), (1, .int (nI w)), (2, .int xi)]) (st' := [.int (-(nI 12))]) (σ' := τ1) rfl True.intro ?_
        exact rw_iret hX (by decide +kernel) (⟨by simp only [aSource, eq_true h4, hcw, eq_false h15, eq_true h34, if_true, if_false, Bool.false_eq_true, and_self, and_true, true_and, and_false, false_and, oel_n, oel_s, decide_true, decide_false], hq1⟩)
      · replace h34 : ¬ (xi < 0) := h34
        refine rw_go hX [(37, .iload_n 2), (38, .aload_n 0), (39, .getfield 25), (42, .getfield 105), (45, .iload_n 1)] (by decide +kernel) (Ps := []) (pc' := 46) (lv' := [(0, .ref 0), (1, .int (nI w)), (2, .int xi)]) (st' := [.int (nI w), .ref 23, .int xi]) (σ' := τ1) rfl True.intro ?_
        refine rw_callVi hX (as := [.int (nI w)]) (rest := [.int xi]) (c_letterCount _ _ _ w hw) (by decide +kernel) mvX3_letterCount lk9_115 (ci := 2) rfl rfl rfl (by decide) (Nat.le_of_ble_eq_true rfl) rfl ?_
        intro r1 σ1 hr
        rw [hr.1, show r1 = nI (lC V w) from hr.2.trans hR.1.1]
        clear hr σ1 r1
        refine rw_icmp hX (tgt := 55) (cnd := .lt) (off := 6) (by decide +kernel) (by decide) (fun h49 => ?_) (fun h49 => ?_)
        · replace h49 : (xi < nI (lC V w)) := h49
          obtain ⟨i, hi, rfl⟩ := rngO (m := lC V w) (by omega) ⟨Int32.not_lt.mp h34, h49⟩
          have hci : (nI i).toNatClampNeg = i := nI_clamp (by omega)
          have hTi := hTR.2 i hi
          have hpb := pT_b hv hw i 5 (Nat.le_refl _)
          refine rw_go hX [(55, .aload_n 0), (56, .getfield 25), (59, .getfield 227), (62, .iload_n 2), (63, .aload_n 0), (64, .getfield 12), (67, .getfield 137), (70, .iconst 4), (71, .iaload)] (by decide +kernel) (Ps := [vp_in (nI 4) 6]) (pc' := 72) (lv' := [(0, .ref 0), (1, .int (nI w)), (2, .int (nI i))]) (st' := [.int (τ1 6 (nI 4).toNatClampNeg), .int (nI i), .ref 53]) (σ' := τ1) rfl (vp_in_nI (by omega) (by omega)) ?_
          rw [show (τ1 6 (nI 4).toNatClampNeg) = nI (vR V 4) from (by rw [nI_clamp (by omega), (hq 6 (by omega)), (vw_at hV 4 (by omega)), hLs.1])]
          refine rw_callVi hX (as := [.int (nI i), .int (nI (vR V 4))]) (rest := []) (c_sourceAt _ _ _ i (lC V w) (pT V w 5 i).1 (vR V 4) (by omega) hTR.1 hL5 hTi.1 hpb.1 (by omega)) (by decide +kernel) mvX7_sourceAt lk9_243 (ci := 6) rfl rfl rfl (by decide) (Nat.le_of_ble_eq_true rfl) rfl ?_
          intro r1 σ1 hr
          rw [hr.1, show r1 = en ((sT V w (vR V 4)) i) from hr.2.trans (by
            unfold sT
            by_cases g : vR V 4 ≤ (pT V w 5 i).1
            · rw [if_pos ⟨hi, g⟩, if_pos g]; exact hTi.2
            · rw [if_neg (fun z => g z.2), if_neg g]; rfl)]
          clear hr σ1 r1
          exact rw_iret hX (by decide +kernel) (⟨by simp only [aSource, eq_true h4, hcw, eq_false h15, eq_false h34, eq_true h49, hci, if_true, if_false, Bool.false_eq_true, and_self, and_true, true_and, and_false, false_and, oel_n, oel_s, decide_true, decide_false], hq1⟩)
        · replace h49 : ¬ (xi < nI (lC V w)) := h49
          refine rw_go hX [(52, .bipush (-12))] (by decide +kernel) (Ps := []) (pc' := 54) (lv' := [(0, .ref 0), (1, .int (nI w)), (2, .int xi)]) (st' := [.int (-(nI 12))]) (σ' := τ1) rfl True.intro ?_
          exact rw_iret hX (by decide +kernel) (⟨by simp only [aSource, eq_true h4, hcw, eq_false h15, eq_false h34, eq_false h49, if_true, if_false, Bool.false_eq_true, and_self, and_true, true_and, and_false, false_and, oel_n, oel_s, decide_true, decide_false], hq1⟩)
    · replace h15 := of_decide_eq_true (zb_eqF h15)
      refine rw_go hX [(18, .bipush (-11))] (by decide +kernel) (Ps := []) (pc' := 20) (lv' := [(0, .ref 0), (1, .int (nI w)), (2, .int xi)]) (st' := [.int (-(nI 11))]) (σ' := σ) rfl True.intro ?_
      exact rw_iret hX (by decide +kernel) (⟨by simp only [aSource, eq_true h4, hcw, eq_true h15, if_true, if_false, Bool.false_eq_true, and_self, and_true, true_and, and_false, false_and, oel_n, oel_s, decide_true, decide_false], XQ_rfl _⟩)
  · replace h4 := of_decide_eq_false (zb_neF h4)
    refine rw_go hX [(7, .bipush (-2))] (by decide +kernel) (Ps := []) (pc' := 9) (lv' := [(0, .ref 0), (1, .int xw), (2, .int xi)]) (st' := [.int (-(nI 2))]) (σ' := σ) rfl True.intro ?_
    exact rw_iret hX (by decide +kernel) (⟨by simp only [aSource, eq_false h4, if_true, if_false, Bool.false_eq_true, and_self, and_true, true_and, and_false, false_and, oel_n, oel_s, decide_true, decide_false], XQ_rfl _⟩)
set_option maxRecDepth 20000 in
set_option maxHeartbeats 4000000 in
theorem f_share (l : Launch) (G : Gl) (σ : Mm) (V : Mm) (xw xq : Int32) (hV : vw σ 2 = V) (hv : wf V) : AMi l G 6 mX9_share [.ref 0, .int xw, .int xq] σ (fun r σ' => r = aShare V xw xq ∧ XQ σ σ') := by
  refine rw_inI 9 (by decide +kernel) rfl rfl ?_
  intro E hE hX
  subst hE
  refine rw_go hX [(0, .iload_n 1)] (by decide +kernel) (Ps := []) (pc' := 1) (lv' := [(0, .ref 0), (1, .int xw), (2, .int xq)]) (st' := [.int xw]) (σ' := σ) rfl True.intro ?_
  refine rw_callSi hX (as := [.int xw]) (rest := []) (c_X9_isWork _ _ _ (xw)) (by decide +kernel) msX9_isWork (Or.inl lk9_56) rfl (by decide) (Nat.le_of_ble_eq_true rfl) rfl ?_
  intro r1 σ1 hr
  rw [hr.1, show r1 = bz (decide (0 ≤ xw ∧ xw ≤ 4)) from hr.2]
  clear hr σ1 r1
  refine rw_if hX (tgt := 15) (cnd := .eq) (off := 11) (by decide +kernel) (by decide) (fun h4 => ?_) (fun h4 => ?_)
  · replace h4 := of_decide_eq_false (zb_eqT h4)
    refine rw_go hX [(15, .bipush (-2))] (by decide +kernel) (Ps := []) (pc' := 17) (lv' := [(0, .ref 0), (1, .int xw), (2, .int xq)]) (st' := [.int (-(nI 2))]) (σ' := σ) rfl True.intro ?_
    exact rw_iret hX (by decide +kernel) (⟨by simp only [aShare, eq_false h4, if_true, if_false, Bool.false_eq_true, and_self, and_true, true_and, and_false, false_and, oel_n, oel_s, decide_true, decide_false], XQ_rfl _⟩)
  · replace h4 := of_decide_eq_true (zb_eqF h4)
    obtain ⟨w, hw, rfl⟩ := rng (m := 4) (by omega) h4
    have hw : w < 5 := hw
    have hcw : (nI w).toNatClampNeg = w := nI_clamp (by omega)
    refine rw_go hX [(7, .iload_n 2), (8, .iconst 3)] (by decide +kernel) (Ps := []) (pc' := 9) (lv' := [(0, .ref 0), (1, .int (nI w)), (2, .int xq)]) (st' := [.int (nI 3), .int xq]) (σ' := σ) rfl True.intro ?_
    refine rw_callSi hX (as := [.int xq, .int (nI 3)]) (rest := []) (c_X9_isOneOf _ _ _ (xq) (nI 3)) (by decide +kernel) msX9_isOneOf (Or.inl lk9_97) rfl (by decide) (Nat.le_of_ble_eq_true rfl) rfl ?_
    intro r1 σ1 hr
    rw [hr.1, show r1 = bz (decide (0 ≤ xq ∧ xq < nI 3)) from hr.2]
    clear hr σ1 r1
    refine rw_if hX (tgt := 18) (cnd := .ne) (off := 6) (by decide +kernel) (by decide) (fun h12 => ?_) (fun h12 => ?_)
    · replace h12 := of_decide_eq_true (zb_neT h12)
      refine rw_go hX [(18, .aload_n 0), (19, .iload_n 1)] (by decide +kernel) (Ps := []) (pc' := 20) (lv' := [(0, .ref 0), (1, .int (nI w)), (2, .int xq)]) (st' := [.int (nI w), .ref 0]) (σ' := σ) rfl True.intro ?_
      refine rw_callVi hX (as := [.int (nI w)]) (rest := []) (c_missing _ _ _ V w hV hv hw) (by decide +kernel) mvX9_isMissing lk9_78 (ci := 8) rfl rfl rfl (by decide) (Nat.le_of_ble_eq_true rfl) rfl ?_
      intro r1 σ1 hr
      rw [hr.1, show r1 = bz (decide (vS V w = 0)) from hr.2]
      clear hr σ1 r1
      refine rw_if hX (tgt := 29) (cnd := .eq) (off := 6) (by decide +kernel) (by decide) (fun h23 => ?_) (fun h23 => ?_)
      · replace h23 := of_decide_eq_false (zb_eqT h23)
        refine rw_go hX [(29, .aload_n 0), (30, .getfield 25), (33, .aload_n 0), (34, .getfield 12), (37, .iload_n 1)] (by decide +kernel) (Ps := []) (pc' := 38) (lv' := [(0, .ref 0), (1, .int (nI w)), (2, .int xq)]) (st' := [.int (nI w), .ref 1, .ref 22]) (σ' := σ) rfl True.intro ?_
        refine rw_callVv hX (as := [.ref 1, .int (nI w)]) (rest := []) (c_trace_1 _ _ _ V w hV hv hw) (by decide +kernel) mvX8_trace lk9_231 (ci := 7) rfl rfl rfl (by decide) (Nat.le_of_ble_eq_true rfl) rfl ?_
        intro τ1 ht9
        obtain ⟨⟨F, hS⟩, hTR, hD, hq⟩ := ht9
        have hq1 := XQ_S hq
        have hL5 := lC_50 hv hw
        have hR := hS.1 w hw
        have hsn := spN_50 (s := sT V w (vR V 4)) hL5
        have hLs := wf_L hv
        refine rw_go hX [(41, .iload_n 2), (42, .iconst 2)] (by decide +kernel) (Ps := []) (pc' := 43) (lv' := [(0, .ref 0), (1, .int (nI w)), (2, .int xq)]) (st' := [.int (nI 2), .int xq]) (σ' := τ1) rfl True.intro ?_
        refine rw_icmp hX (tgt := 57) (cnd := .ne) (off := 14) (by decide +kernel) (by decide) (fun h43 => ?_) (fun h43 => ?_)
        · replace h43 : (xq ≠ nI 2) := h43
          obtain ⟨c, hc, rfl⟩ := rngO (m := 3) (by omega) h12
          have hcc : (nI c).toNatClampNeg = c := nI_clamp (by omega)
          have hc2 : c < 2 := by
            rcases Nat.lt_or_ge c 2 with q | q
            · exact q
            · exact absurd (by rw [show c = 2 by omega]) h43
          refine rw_go hX [(57, .aload_n 0), (58, .iload_n 1), (59, .iload_n 2)] (by decide +kernel) (Ps := []) (pc' := 60) (lv' := [(0, .ref 0), (1, .int (nI w)), (2, .int (nI c))]) (st' := [.int (nI c), .int (nI w), .ref 0]) (σ' := τ1) rfl True.intro ?_
          refine rw_callVi hX (as := [.int (nI w), .int (nI c)]) (rest := []) (c_tellShare _ _ _ w (cvV V w) (lC V w) c hw hD.2.1 (cvV_L V w) hR.1.1 hL5 (by omega)) (by decide +kernel) mvX9_tellShare lk9_249 (ci := 8) rfl rfl rfl (by decide) (Nat.le_of_ble_eq_true rfl) rfl ?_
          intro r1 σ1 hr
          rw [hr.1, show r1 = nI (shN (cvV V w) (lC V w) c) from hr.2]
          clear hr σ1 r1
          exact rw_iret hX (by decide +kernel) (⟨by simp only [aShare, eq_true h4, hcw, eq_true h12, eq_false h23, eq_false h43, hcc, if_true, if_false, Bool.false_eq_true, and_self, and_true, true_and, and_false, false_and, oel_n, oel_s, decide_true, decide_false], hq1⟩)
        · replace h43 : xq = nI 2 := Classical.not_not.mp h43
          refine rw_go hX [(46, .aload_n 0), (47, .getfield 25), (50, .getfield 227)] (by decide +kernel) (Ps := []) (pc' := 53) (lv' := [(0, .ref 0), (1, .int (nI w)), (2, .int xq)]) (st' := [.ref 53]) (σ' := τ1) rfl True.intro ?_
          refine rw_callVi hX (as := []) (rest := []) (c_mainSource _ _ _ (fun v => tyN (sT V w (vR V 4)) v (lC V w)) (fun v hv9 => ⟨hD.2.2.1 v hv9, Nat.le_trans (tyN_le _ _ _) hL5⟩)) (by decide +kernel) mvX7_mainSource lk9_246 (ci := 6) rfl rfl rfl (by decide) (Nat.le_of_ble_eq_true rfl) rfl ?_
          intro r1 σ1 hr
          rw [hr.1, show r1 = en (msS (fun v => tyN (sT V w (vR V 4)) v (lC V w)) 5).1 from hr.2]
          clear hr σ1 r1
          exact rw_iret hX (by decide +kernel) (⟨by simp only [aShare, eq_true h4, hcw, eq_true h12, eq_false h23, eq_true h43, if_true, if_false, Bool.false_eq_true, and_self, and_true, true_and, and_false, false_and, oel_n, oel_s, decide_true, decide_false], hq1⟩)
      · replace h23 := of_decide_eq_true (zb_eqF h23)
        refine rw_go hX [(26, .bipush (-11))] (by decide +kernel) (Ps := []) (pc' := 28) (lv' := [(0, .ref 0), (1, .int (nI w)), (2, .int xq)]) (st' := [.int (-(nI 11))]) (σ' := σ) rfl True.intro ?_
        exact rw_iret hX (by decide +kernel) (⟨by simp only [aShare, eq_true h4, hcw, eq_true h12, eq_true h23, if_true, if_false, Bool.false_eq_true, and_self, and_true, true_and, and_false, false_and, oel_n, oel_s, decide_true, decide_false], XQ_rfl _⟩)
    · replace h12 := of_decide_eq_false (zb_neF h12)
      refine rw_go hX [(15, .bipush (-2))] (by decide +kernel) (Ps := []) (pc' := 17) (lv' := [(0, .ref 0), (1, .int (nI w)), (2, .int xq)]) (st' := [.int (-(nI 2))]) (σ' := σ) rfl True.intro ?_
      exact rw_iret hX (by decide +kernel) (⟨by simp only [aShare, eq_true h4, hcw, eq_false h12, if_true, if_false, Bool.false_eq_true, and_self, and_true, true_and, and_false, false_and, oel_n, oel_s, decide_true, decide_false], XQ_rfl _⟩)
set_option maxRecDepth 20000 in
set_option maxHeartbeats 4000000 in
theorem f_group (l : Launch) (G : Gl) (σ : Mm) (V : Mm) (xw : Int32) (hV : vw σ 2 = V) (hv : wf V) : AMi l G 6 mX9_group [.ref 0, .int xw] σ (fun r σ' => pGroup V xw r ∧ XQ σ σ') := by
  refine rw_inI 9 (by decide +kernel) rfl rfl ?_
  intro E hE hX
  subst hE
  refine rw_go hX [(0, .iload_n 1)] (by decide +kernel) (Ps := []) (pc' := 1) (lv' := [(0, .ref 0), (1, .int xw)]) (st' := [.int xw]) (σ' := σ) rfl True.intro ?_
  refine rw_callSi hX (as := [.int xw]) (rest := []) (c_X9_isWork _ _ _ (xw)) (by decide +kernel) msX9_isWork (Or.inl lk9_56) rfl (by decide) (Nat.le_of_ble_eq_true rfl) rfl ?_
  intro r1 σ1 hr
  rw [hr.1, show r1 = bz (decide (0 ≤ xw ∧ xw ≤ 4)) from hr.2]
  clear hr σ1 r1
  refine rw_if hX (tgt := 10) (cnd := .ne) (off := 6) (by decide +kernel) (by decide) (fun h4 => ?_) (fun h4 => ?_)
  · replace h4 := of_decide_eq_true (zb_neT h4)
    obtain ⟨w, hw, rfl⟩ := rng (m := 4) (by omega) h4
    have hw : w < 5 := hw
    have hcw : (nI w).toNatClampNeg = w := nI_clamp (by omega)
    refine rw_go hX [(10, .aload_n 0), (11, .iload_n 1)] (by decide +kernel) (Ps := []) (pc' := 12) (lv' := [(0, .ref 0), (1, .int (nI w))]) (st' := [.int (nI w), .ref 0]) (σ' := σ) rfl True.intro ?_
    refine rw_callVi hX (as := [.int (nI w)]) (rest := []) (c_missing _ _ _ V w hV hv hw) (by decide +kernel) mvX9_isMissing lk9_78 (ci := 8) rfl rfl rfl (by decide) (Nat.le_of_ble_eq_true rfl) rfl ?_
    intro r1 σ1 hr
    rw [hr.1, show r1 = bz (decide (vS V w = 0)) from hr.2]
    clear hr σ1 r1
    refine rw_if hX (tgt := 21) (cnd := .eq) (off := 6) (by decide +kernel) (by decide) (fun h15 => ?_) (fun h15 => ?_)
    · replace h15 := of_decide_eq_false (zb_eqT h15)
      refine rw_go hX [(21, .aload_n 0), (22, .getfield 25), (25, .aload_n 0), (26, .getfield 12)] (by decide +kernel) (Ps := []) (pc' := 29) (lv' := [(0, .ref 0), (1, .int (nI w))]) (st' := [.ref 1, .ref 22]) (σ' := σ) rfl True.intro ?_
      refine rw_callVv hX (as := [.ref 1]) (rest := []) (c_look_1 _ _ _ V hV hv) (by decide +kernel) mvX8_look lk9_152 (ci := 7) rfl rfl rfl (by decide) (Nat.le_of_ble_eq_true rfl) rfl ?_
      intro τ1 ht1
      obtain ⟨F, hS, h0⟩ := LK_SN ht1
      have hq := LK_SQ ht1
      have hV1 : vw τ1 2 = V := (vw_of (fun j hj => hq _ (by omega))).trans hV
      refine rw_go hX [(32, .aload_n 0), (33, .getfield 25), (36, .aload_n 0), (37, .getfield 12)] (by decide +kernel) (Ps := []) (pc' := 40) (lv' := [(0, .ref 0), (1, .int (nI w))]) (st' := [.ref 1, .ref 22]) (σ' := τ1) rfl True.intro ?_
      refine rw_callVv hX (as := [.ref 1]) (rest := []) (c_bindAll _ _ _ V F hV1 hv hS) (by decide +kernel) mvX8_bindAll lk9_252 (ci := 7) rfl rfl rfl (by decide) (Nat.le_of_ble_eq_true rfl) rfl ?_
      intro τ2 ht2
      have hq2 : XQ σ τ2 := XQ_S (hq.trans ht2.2)
      obtain ⟨m, hm⟩ : ∃ m : Nat → Nat, ∀ a, a < 5 → m a < 32 ∧ τ2 60 a = nI (m a) ∧ ∀ b, b < 5 → (m a).testBit b = bd V a b := by
        refine ⟨fun a => (τ2 60 a).toNatClampNeg, fun a ha => ?_⟩
        obtain ⟨m, h1, h2, h3⟩ := ht2.1 a ha
        have e : (τ2 60 a).toNatClampNeg = m := by rw [h2, nI_clamp (by omega)]
        show (τ2 60 a).toNatClampNeg < 32 ∧ τ2 60 a = nI (τ2 60 a).toNatClampNeg ∧ ∀ b, b < 5 → ((τ2 60 a).toNatClampNeg).testBit b = bd V a b
        rw [e]
        refine ⟨h1, h2, fun b hb => ?_⟩
        rw [h3 b hb, show pd 5 0 a b = true from decide_eq_true (by omega), Bool.and_true]
      refine rw_go hX [(43, .aload_n 0), (44, .getfield 25), (47, .iload_n 1)] (by decide +kernel) (Ps := []) (pc' := 48) (lv' := [(0, .ref 0), (1, .int (nI w))]) (st' := [.int (nI w), .ref 22]) (σ' := τ2) rfl True.intro ?_
      refine rw_callVi hX (as := [.int (nI w)]) (rest := []) (c_boundTo _ _ _ m (bd V) w hw (fun a ha => ⟨(hm a ha).2.1, (hm a ha).1⟩) (fun a ha b hb => (hm a ha).2.2 b hb)) (by decide +kernel) mvX8_boundTo lk9_255 (ci := 7) rfl rfl rfl (by decide) (Nat.le_of_ble_eq_true rfl) rfl ?_
      intro r1 σ1 hr
      rw [hr.1]
      obtain ⟨-, S, hGS, hrS⟩ := hr
      clear σ1
      exact rw_iret hX (by decide +kernel) (⟨by simp only [pGroup, eq_true h4, hcw, eq_false h15, if_true, if_false, Bool.false_eq_true, and_self, and_true, true_and, and_false, false_and, oel_n, oel_s, decide_true, decide_false]; exact ⟨S, hGS, hrS⟩, hq2⟩)
    · replace h15 := of_decide_eq_true (zb_eqF h15)
      refine rw_go hX [(18, .bipush (-11))] (by decide +kernel) (Ps := []) (pc' := 20) (lv' := [(0, .ref 0), (1, .int (nI w))]) (st' := [.int (-(nI 11))]) (σ' := σ) rfl True.intro ?_
      exact rw_iret hX (by decide +kernel) (⟨by simp only [pGroup, eq_true h4, hcw, eq_true h15, if_true, if_false, Bool.false_eq_true, and_self, and_true, true_and, and_false, false_and, oel_n, oel_s, decide_true, decide_false], XQ_rfl _⟩)
  · replace h4 := of_decide_eq_false (zb_neF h4)
    refine rw_go hX [(7, .bipush (-2))] (by decide +kernel) (Ps := []) (pc' := 9) (lv' := [(0, .ref 0), (1, .int xw)]) (st' := [.int (-(nI 2))]) (σ' := σ) rfl True.intro ?_
    exact rw_iret hX (by decide +kernel) (⟨by simp only [pGroup, eq_false h4, if_true, if_false, Bool.false_eq_true, and_self, and_true, true_and, and_false, false_and, oel_n, oel_s, decide_true, decide_false], XQ_rfl _⟩)
set_option maxRecDepth 20000 in
set_option maxHeartbeats 4000000 in
theorem f_without (l : Launch) (G : Gl) (σ : Mm) (V : Mm) (xw xo : Int32) (hV : vw σ 2 = V) (hv : wf V) : AMi l G 6 mX9_without [.ref 0, .int xw, .int xo] σ (fun r σ' => r = aWithout V xw xo ∧ XQ σ σ') := by
  refine rw_inI 9 (by decide +kernel) rfl rfl ?_
  intro E hE hX
  subst hE
  refine rw_go hX [(0, .iload_n 1), (1, .iload_n 2)] (by decide +kernel) (Ps := []) (pc' := 2) (lv' := [(0, .ref 0), (1, .int xw), (2, .int xo)]) (st' := [.int xo, .int xw]) (σ' := σ) rfl True.intro ?_
  refine rw_callSi hX (as := [.int xw, .int xo]) (rest := []) (c_X9_areTwoWorks _ _ _ xw xo) (by decide +kernel) msX9_areTwoWorks (Or.inl lk9_185) rfl (by decide) (Nat.le_of_ble_eq_true rfl) rfl ?_
  intro r1 σ1 hr
  rw [hr.1, show r1 = bz (decide (tw xw xo)) from hr.2]
  clear hr σ1 r1
  refine rw_if hX (tgt := 11) (cnd := .ne) (off := 6) (by decide +kernel) (by decide) (fun h5 => ?_) (fun h5 => ?_)
  · replace h5 := of_decide_eq_true (zb_neT h5)
    obtain ⟨w, u, ⟨hw, hu⟩, ⟨rfl, rfl⟩, hwu⟩ := tw_n h5
    have hcw : (nI w).toNatClampNeg = w := nI_clamp (by omega)
    have hcu : (nI u).toNatClampNeg = u := nI_clamp (by omega)
    refine rw_go hX [(11, .aload_n 0), (12, .iload_n 1)] (by decide +kernel) (Ps := []) (pc' := 13) (lv' := [(0, .ref 0), (1, .int (nI w)), (2, .int (nI u))]) (st' := [.int (nI w), .ref 0]) (σ' := σ) rfl True.intro ?_
    refine rw_callVi hX (as := [.int (nI w)]) (rest := []) (c_missing _ _ _ V w hV hv hw) (by decide +kernel) mvX9_isMissing lk9_78 (ci := 8) rfl rfl rfl (by decide) (Nat.le_of_ble_eq_true rfl) rfl ?_
    intro r1 σ1 hr
    rw [hr.1, show r1 = bz (decide (vS V w = 0)) from hr.2]
    clear hr σ1 r1
    refine rw_if hX (tgt := 27) (cnd := .ne) (off := 11) (by decide +kernel) (by decide) (fun h16 => ?_) (fun h16 => ?_)
    · replace h16 := of_decide_eq_true (zb_neT h16)
      refine rw_go hX [(27, .bipush (-11))] (by decide +kernel) (Ps := []) (pc' := 29) (lv' := [(0, .ref 0), (1, .int (nI w)), (2, .int (nI u))]) (st' := [.int (-(nI 11))]) (σ' := σ) rfl True.intro ?_
      exact rw_iret hX (by decide +kernel) (⟨by simp only [aWithout, eq_true h5, hcw, hcu, eq_true h16, if_true, if_false, Bool.false_eq_true, and_self, and_true, true_and, and_false, false_and, oel_n, oel_s, decide_true, decide_false], XQ_rfl _⟩)
    · replace h16 := of_decide_eq_false (zb_neF h16)
      refine rw_go hX [(19, .aload_n 0), (20, .iload_n 2)] (by decide +kernel) (Ps := []) (pc' := 21) (lv' := [(0, .ref 0), (1, .int (nI w)), (2, .int (nI u))]) (st' := [.int (nI u), .ref 0]) (σ' := σ) rfl True.intro ?_
      refine rw_callVi hX (as := [.int (nI u)]) (rest := []) (c_missing _ _ _ V u hV hv hu) (by decide +kernel) mvX9_isMissing lk9_78 (ci := 8) rfl rfl rfl (by decide) (Nat.le_of_ble_eq_true rfl) rfl ?_
      intro r1 σ1 hr
      rw [hr.1, show r1 = bz (decide (vS V u = 0)) from hr.2]
      clear hr σ1 r1
      refine rw_if hX (tgt := 30) (cnd := .eq) (off := 6) (by decide +kernel) (by decide) (fun h24 => ?_) (fun h24 => ?_)
      · replace h24 := of_decide_eq_false (zb_eqT h24)
        refine rw_go hX [(30, .aload_n 0), (31, .getfield 19), (34, .aload_n 0), (35, .getfield 12)] (by decide +kernel) (Ps := []) (pc' := 38) (lv' := [(0, .ref 0), (1, .int (nI w)), (2, .int (nI u))]) (st' := [.ref 1, .ref 15]) (σ' := σ) rfl True.intro ?_
        refine rw_callVv hX (as := [.ref 1]) (rest := []) (c_take_15_1 _ _ _) (by decide +kernel) mvX5_take lk9_258 (ci := 4) rfl rfl rfl (by decide) (Nat.le_of_ble_eq_true rfl) rfl ?_
        intro σ1 hr
        rw [hr]
        clear hr σ1
        refine rw_go hX [(41, .aload_n 0), (42, .getfield 19), (45, .iload_n 2)] (by decide +kernel) (Ps := []) (pc' := 46) (lv' := [(0, .ref 0), (1, .int (nI w)), (2, .int (nI u))]) (st' := [.int (nI u), .ref 15]) (σ' := tkM 1 15 σ) rfl True.intro ?_
        refine rw_callVv hX (as := [.int (nI u)]) (rest := []) (c_lose_15 _ _ _ u hu) (by decide +kernel) mvX5_lose lk9_93 (ci := 4) rfl rfl rfl (by decide) (Nat.le_of_ble_eq_true rfl) rfl ?_
        intro σ1 hr
        rw [hr]
        clear hr σ1
        obtain ⟨hVW, hqa⟩ := tkM_1 hV u
        have hvW := wf_lt hv u
        refine rw_go hX [(49, .aload_n 0), (50, .getfield 25), (53, .aload_n 0), (54, .getfield 19), (57, .iload_n 1)] (by decide +kernel) (Ps := []) (pc' := 58) (lv' := [(0, .ref 0), (1, .int (nI w)), (2, .int (nI u))]) (st' := [.int (nI w), .ref 15, .ref 22]) (σ' := sw (tkM 1 15 σ) 17 u (nI 0)) rfl True.intro ?_
        refine rw_callVv hX (as := [.ref 15, .int (nI w)]) (rest := []) (c_trace_15 _ _ _ (ltV V u) w hVW hvW hw) (by decide +kernel) mvX8_trace lk9_231 (ci := 7) rfl rfl rfl (by decide) (Nat.le_of_ble_eq_true rfl) rfl ?_
        intro τ1 ht9
        obtain ⟨⟨F, hS⟩, hTR, hD, hq⟩ := ht9
        have hq2 := hqa.trans (XQ_S hq)
        have hL5 := lC_50 hvW hw
        have hR := hS.1 w hw
        refine rw_go hX [(61, .aload_n 0), (62, .iload_n 1), (63, .iconst 0)] (by decide +kernel) (Ps := []) (pc' := 64) (lv' := [(0, .ref 0), (1, .int (nI w)), (2, .int (nI u))]) (st' := [.int (nI 0), .int (nI w), .ref 0]) (σ' := τ1) rfl True.intro ?_
        refine rw_callVi hX (as := [.int (nI w), .int (nI 0)]) (rest := []) (c_tellShare _ _ _ w (cvV (ltV V u) w) (lC (ltV V u) w) 0 hw hD.2.1 (cvV_L _ w) hR.1.1 hL5 (by omega)) (by decide +kernel) mvX9_tellShare lk9_249 (ci := 8) rfl rfl rfl (by decide) (Nat.le_of_ble_eq_true rfl) rfl ?_
        intro r1 σ1 hr
        rw [hr.1, show r1 = nI (cvV (ltV V u) w) from hr.2]
        clear hr σ1 r1
        exact rw_iret hX (by decide +kernel) (⟨by simp only [aWithout, eq_true h5, hcw, hcu, eq_false h16, eq_false h24, if_true, if_false, Bool.false_eq_true, and_self, and_true, true_and, and_false, false_and, oel_n, oel_s, decide_true, decide_false], hq2⟩)
      · replace h24 := of_decide_eq_true (zb_eqF h24)
        refine rw_go hX [(27, .bipush (-11))] (by decide +kernel) (Ps := []) (pc' := 29) (lv' := [(0, .ref 0), (1, .int (nI w)), (2, .int (nI u))]) (st' := [.int (-(nI 11))]) (σ' := σ) rfl True.intro ?_
        exact rw_iret hX (by decide +kernel) (⟨by simp only [aWithout, eq_true h5, hcw, hcu, eq_false h16, eq_true h24, if_true, if_false, Bool.false_eq_true, and_self, and_true, true_and, and_false, false_and, oel_n, oel_s, decide_true, decide_false], XQ_rfl _⟩)
  · replace h5 := of_decide_eq_false (zb_neF h5)
    refine rw_go hX [(8, .bipush (-2))] (by decide +kernel) (Ps := []) (pc' := 10) (lv' := [(0, .ref 0), (1, .int xw), (2, .int xo)]) (st' := [.int (-(nI 2))]) (σ' := σ) rfl True.intro ?_
    exact rw_iret hX (by decide +kernel) (⟨by simp only [aWithout, eq_false h5, if_true, if_false, Bool.false_eq_true, and_self, and_true, true_and, and_false, false_and, oel_n, oel_s, decide_true, decide_false], XQ_rfl _⟩)
set_option maxRecDepth 20000 in
set_option maxHeartbeats 4000000 in
theorem f_drawn (l : Launch) (G : Gl) (σ : Mm) (V : Mm) (xw xz xn xq : Int32) (hV : vw σ 2 = V) (hv : wf V) : AMi l G 6 mX9_drawn [.ref 0, .int xw, .int xz, .int xn, .int xq] σ (fun r σ' => r = aDrawn V xw xz xn xq ∧ XQ σ σ') := by
  refine rw_inI 9 (by decide +kernel) rfl rfl ?_
  intro E hE hX
  subst hE
  refine rw_go hX [(0, .iload_n 1)] (by decide +kernel) (Ps := []) (pc' := 1) (lv' := [(0, .ref 0), (1, .int xw), (2, .int xz), (3, .int xn), (4, .int xq)]) (st' := [.int xw]) (σ' := σ) rfl True.intro ?_
  refine rw_callSi hX (as := [.int xw]) (rest := []) (c_X9_isWork _ _ _ (xw)) (by decide +kernel) msX9_isWork (Or.inl lk9_56) rfl (by decide) (Nat.le_of_ble_eq_true rfl) rfl ?_
  intro r1 σ1 hr
  rw [hr.1, show r1 = bz (decide (0 ≤ xw ∧ xw ≤ 4)) from hr.2]
  clear hr σ1 r1
  refine rw_if hX (tgt := 26) (cnd := .eq) (off := 22) (by decide +kernel) (by decide) (fun h4 => ?_) (fun h4 => ?_)
  · replace h4 := of_decide_eq_false (zb_eqT h4)
    refine rw_go hX [(26, .bipush (-2))] (by decide +kernel) (Ps := []) (pc' := 28) (lv' := [(0, .ref 0), (1, .int xw), (2, .int xz), (3, .int xn), (4, .int xq)]) (st' := [.int (-(nI 2))]) (σ' := σ) rfl True.intro ?_
    exact rw_iret hX (by decide +kernel) (⟨by simp only [aDrawn, eq_false h4, if_true, if_false, Bool.false_eq_true, and_self, and_true, true_and, and_false, false_and, oel_n, oel_s, decide_true, decide_false], XQ_rfl _⟩)
  · replace h4 := of_decide_eq_true (zb_eqF h4)
    obtain ⟨w, hw, rfl⟩ := rng (m := 4) (by omega) h4
    have hw : w < 5 := hw
    have hcw : (nI w).toNatClampNeg = w := nI_clamp (by omega)
    refine rw_go hX [(7, .iload_n 3)] (by decide +kernel) (Ps := []) (pc' := 8) (lv' := [(0, .ref 0), (1, .int (nI w)), (2, .int xz), (3, .int xn), (4, .int xq)]) (st' := [.int xn]) (σ' := σ) rfl True.intro ?_
    refine rw_if hX (tgt := 26) (cnd := .lt) (off := 18) (by decide +kernel) (by decide) (fun h8 => ?_) (fun h8 => ?_)
    · replace h8 : (xn < 0) := h8
      refine rw_go hX [(26, .bipush (-2))] (by decide +kernel) (Ps := []) (pc' := 28) (lv' := [(0, .ref 0), (1, .int (nI w)), (2, .int xz), (3, .int xn), (4, .int xq)]) (st' := [.int (-(nI 2))]) (σ' := σ) rfl True.intro ?_
      exact rw_iret hX (by decide +kernel) (⟨by simp only [aDrawn, eq_true h4, hcw, eq_true h8, if_true, if_false, Bool.false_eq_true, and_self, and_true, true_and, and_false, false_and, oel_n, oel_s, decide_true, decide_false], XQ_rfl _⟩)
    · replace h8 : ¬ (xn < 0) := h8
      refine rw_go hX [(11, .iload_n 3), (12, .bipush 20)] (by decide +kernel) (Ps := []) (pc' := 14) (lv' := [(0, .ref 0), (1, .int (nI w)), (2, .int xz), (3, .int xn), (4, .int xq)]) (st' := [.int (nI 20), .int xn]) (σ' := σ) rfl True.intro ?_
      refine rw_icmp hX (tgt := 26) (cnd := .gt) (off := 12) (by decide +kernel) (by decide) (fun h14 => ?_) (fun h14 => ?_)
      · replace h14 : (xn > nI 20) := h14
        refine rw_go hX [(26, .bipush (-2))] (by decide +kernel) (Ps := []) (pc' := 28) (lv' := [(0, .ref 0), (1, .int (nI w)), (2, .int xz), (3, .int xn), (4, .int xq)]) (st' := [.int (-(nI 2))]) (σ' := σ) rfl True.intro ?_
        exact rw_iret hX (by decide +kernel) (⟨by simp only [aDrawn, eq_true h4, hcw, eq_false h8, eq_true h14, if_true, if_false, Bool.false_eq_true, and_self, and_true, true_and, and_false, false_and, oel_n, oel_s, decide_true, decide_false], XQ_rfl _⟩)
      · replace h14 : ¬ (xn > nI 20) := h14
        refine rw_go hX [(17, .iload 4), (19, .iconst 2)] (by decide +kernel) (Ps := []) (pc' := 20) (lv' := [(0, .ref 0), (1, .int (nI w)), (2, .int xz), (3, .int xn), (4, .int xq)]) (st' := [.int (nI 2), .int xq]) (σ' := σ) rfl True.intro ?_
        refine rw_callSi hX (as := [.int xq, .int (nI 2)]) (rest := []) (c_X9_isOneOf _ _ _ (xq) (nI 2)) (by decide +kernel) msX9_isOneOf (Or.inl lk9_97) rfl (by decide) (Nat.le_of_ble_eq_true rfl) rfl ?_
        intro r1 σ1 hr
        rw [hr.1, show r1 = bz (decide (0 ≤ xq ∧ xq < nI 2)) from hr.2]
        clear hr σ1 r1
        refine rw_if hX (tgt := 29) (cnd := .ne) (off := 6) (by decide +kernel) (by decide) (fun h23 => ?_) (fun h23 => ?_)
        · replace h23 := of_decide_eq_true (zb_neT h23)
          obtain ⟨c, hc, rfl⟩ := rngO (m := 2) (by omega) h23
          have hcc : (nI c).toNatClampNeg = c := nI_clamp (by omega)
          obtain ⟨n, hn, rfl⟩ := rng (m := 20) (by omega) ⟨Int32.not_lt.mp h8, Int32.not_lt.mp h14⟩
          have hcn : (nI n).toNatClampNeg = n := nI_clamp (by omega)
          refine rw_go hX [(29, .aload_n 0), (30, .iload_n 1)] (by decide +kernel) (Ps := []) (pc' := 31) (lv' := [(0, .ref 0), (1, .int (nI w)), (2, .int xz), (3, .int (nI n)), (4, .int (nI c))]) (st' := [.int (nI w), .ref 0]) (σ' := σ) rfl True.intro ?_
          refine rw_callVi hX (as := [.int (nI w)]) (rest := []) (c_missing _ _ _ V w hV hv hw) (by decide +kernel) mvX9_isMissing lk9_78 (ci := 8) rfl rfl rfl (by decide) (Nat.le_of_ble_eq_true rfl) rfl ?_
          intro r1 σ1 hr
          rw [hr.1, show r1 = bz (decide (vS V w = 0)) from hr.2]
          clear hr σ1 r1
          refine rw_if hX (tgt := 40) (cnd := .eq) (off := 6) (by decide +kernel) (by decide) (fun h34 => ?_) (fun h34 => ?_)
          · replace h34 := of_decide_eq_false (zb_eqT h34)
            refine rw_go hX [(40, .aload_n 0), (41, .iload_n 1), (42, .iload_n 2), (43, .iload_n 3)] (by decide +kernel) (Ps := []) (pc' := 44) (lv' := [(0, .ref 0), (1, .int (nI w)), (2, .int xz), (3, .int (nI n)), (4, .int (nI c))]) (st' := [.int (nI n), .int xz, .int (nI w), .ref 0]) (σ' := σ) rfl True.intro ?_
            refine rw_callVv hX (as := [.int (nI w), .int xz, .int (nI n)]) (rest := []) (c_drawIn _ _ _ V w n xz hV hv hw (by omega) (by omega)) (by decide +kernel) mvX9_drawInThought lk9_261 (ci := 8) rfl rfl rfl (by decide) (Nat.le_of_ble_eq_true rfl) rfl ?_
            intro τ0 ht0
            obtain ⟨hVW, hqa⟩ := ht0
            have hvW := wf_dr hv w xz n
            refine rw_go hX [(47, .aload_n 0), (48, .getfield 25), (51, .aload_n 0), (52, .getfield 19), (55, .iload_n 1)] (by decide +kernel) (Ps := []) (pc' := 56) (lv' := [(0, .ref 0), (1, .int (nI w)), (2, .int xz), (3, .int (nI n)), (4, .int (nI c))]) (st' := [.int (nI w), .ref 15, .ref 22]) (σ' := τ0) rfl True.intro ?_
            refine rw_callVv hX (as := [.ref 15, .int (nI w)]) (rest := []) (c_trace_15 _ _ _ (drV V w xz n) w hVW hvW hw) (by decide +kernel) mvX8_trace lk9_231 (ci := 7) rfl rfl rfl (by decide) (Nat.le_of_ble_eq_true rfl) rfl ?_
            intro τ1 ht9
            obtain ⟨⟨F, hS⟩, hTR, hD, hq⟩ := ht9
            have hq2 := hqa.trans (XQ_S hq)
            have hL5 := lC_50 hvW hw
            have hR := hS.1 w hw
            refine rw_go hX [(59, .aload_n 0), (60, .iload_n 1), (61, .iload 4)] (by decide +kernel) (Ps := []) (pc' := 63) (lv' := [(0, .ref 0), (1, .int (nI w)), (2, .int xz), (3, .int (nI n)), (4, .int (nI c))]) (st' := [.int (nI c), .int (nI w), .ref 0]) (σ' := τ1) rfl True.intro ?_
            refine rw_callVi hX (as := [.int (nI w), .int (nI c)]) (rest := []) (c_tellShare _ _ _ w (cvV (drV V w xz n) w) (lC (drV V w xz n) w) c hw hD.2.1 (cvV_L _ w) hR.1.1 hL5 hc) (by decide +kernel) mvX9_tellShare lk9_249 (ci := 8) rfl rfl rfl (by decide) (Nat.le_of_ble_eq_true rfl) rfl ?_
            intro r1 σ1 hr
            rw [hr.1, show r1 = nI (shV (drV V w xz n) w c) from hr.2]
            clear hr σ1 r1
            exact rw_iret hX (by decide +kernel) (⟨by simp only [aDrawn, eq_true h4, hcw, eq_false h8, eq_false h14, eq_true h23, hcc, hcn, eq_false h34, if_true, if_false, Bool.false_eq_true, and_self, and_true, true_and, and_false, false_and, oel_n, oel_s, decide_true, decide_false], hq2⟩)
          · replace h34 := of_decide_eq_true (zb_eqF h34)
            refine rw_go hX [(37, .bipush (-11))] (by decide +kernel) (Ps := []) (pc' := 39) (lv' := [(0, .ref 0), (1, .int (nI w)), (2, .int xz), (3, .int (nI n)), (4, .int (nI c))]) (st' := [.int (-(nI 11))]) (σ' := σ) rfl True.intro ?_
            exact rw_iret hX (by decide +kernel) (⟨by simp only [aDrawn, eq_true h4, hcw, eq_false h8, eq_false h14, eq_true h23, hcc, hcn, eq_true h34, if_true, if_false, Bool.false_eq_true, and_self, and_true, true_and, and_false, false_and, oel_n, oel_s, decide_true, decide_false], XQ_rfl _⟩)
        · replace h23 := of_decide_eq_false (zb_neF h23)
          refine rw_go hX [(26, .bipush (-2))] (by decide +kernel) (Ps := []) (pc' := 28) (lv' := [(0, .ref 0), (1, .int (nI w)), (2, .int xz), (3, .int xn), (4, .int xq)]) (st' := [.int (-(nI 2))]) (σ' := σ) rfl True.intro ?_
          exact rw_iret hX (by decide +kernel) (⟨by simp only [aDrawn, eq_true h4, hcw, eq_false h8, eq_false h14, eq_false h23, if_true, if_false, Bool.false_eq_true, and_self, and_true, true_and, and_false, false_and, oel_n, oel_s, decide_true, decide_false], XQ_rfl _⟩)
set_option maxRecDepth 20000 in
set_option maxHeartbeats 4000000 in
theorem f_chance (l : Launch) (G : Gl) (σ : Mm) (V : Mm) (xw xz xm xs xp : Int32) (hV : vw σ 2 = V) (hv : wf V) : AMi l G 6 mX9_chance [.ref 0, .int xw, .int xz, .int xm, .int xs, .int xp] σ (fun r σ' => r = aChance V xw xz xm xs xp ∧ XQ σ σ') := by
  refine rw_inI 9 (by decide +kernel) rfl rfl ?_
  intro E hE hX
  subst hE
  refine rw_go hX [(0, .iload_n 1)] (by decide +kernel) (Ps := []) (pc' := 1) (lv' := [(0, .ref 0), (1, .int xw), (2, .int xz), (3, .int xm), (4, .int xs), (5, .int xp)]) (st' := [.int xw]) (σ' := σ) rfl True.intro ?_
  refine rw_callSi hX (as := [.int xw]) (rest := []) (c_X9_isWork _ _ _ (xw)) (by decide +kernel) msX9_isWork (Or.inl lk9_56) rfl (by decide) (Nat.le_of_ble_eq_true rfl) rfl ?_
  intro r1 σ1 hr
  rw [hr.1, show r1 = bz (decide (0 ≤ xw ∧ xw ≤ 4)) from hr.2]
  clear hr σ1 r1
  refine rw_if hX (tgt := 38) (cnd := .eq) (off := 34) (by decide +kernel) (by decide) (fun h4 => ?_) (fun h4 => ?_)
  · replace h4 := of_decide_eq_false (zb_eqT h4)
    refine rw_go hX [(38, .bipush (-2))] (by decide +kernel) (Ps := []) (pc' := 40) (lv' := [(0, .ref 0), (1, .int xw), (2, .int xz), (3, .int xm), (4, .int xs), (5, .int xp)]) (st' := [.int (-(nI 2))]) (σ' := σ) rfl True.intro ?_
    exact rw_iret hX (by decide +kernel) (⟨by simp only [aChance, eq_false h4, if_true, if_false, Bool.false_eq_true, and_self, and_true, true_and, and_false, false_and, oel_n, oel_s, decide_true, decide_false], XQ_rfl _⟩)
  · replace h4 := of_decide_eq_true (zb_eqF h4)
    obtain ⟨w, hw, rfl⟩ := rng (m := 4) (by omega) h4
    have hw : w < 5 := hw
    have hcw : (nI w).toNatClampNeg = w := nI_clamp (by omega)
    refine rw_go hX [(7, .iload_n 3), (8, .iconst 1)] (by decide +kernel) (Ps := []) (pc' := 9) (lv' := [(0, .ref 0), (1, .int (nI w)), (2, .int xz), (3, .int xm), (4, .int xs), (5, .int xp)]) (st' := [.int (nI 1), .int xm]) (σ' := σ) rfl True.intro ?_
    refine rw_icmp hX (tgt := 38) (cnd := .lt) (off := 29) (by decide +kernel) (by decide) (fun h9 => ?_) (fun h9 => ?_)
    · replace h9 : (xm < nI 1) := h9
      refine rw_go hX [(38, .bipush (-2))] (by decide +kernel) (Ps := []) (pc' := 40) (lv' := [(0, .ref 0), (1, .int (nI w)), (2, .int xz), (3, .int xm), (4, .int xs), (5, .int xp)]) (st' := [.int (-(nI 2))]) (σ' := σ) rfl True.intro ?_
      exact rw_iret hX (by decide +kernel) (⟨by simp only [aChance, eq_true h4, hcw, eq_true h9, if_true, if_false, Bool.false_eq_true, and_self, and_true, true_and, and_false, false_and, oel_n, oel_s, decide_true, decide_false], XQ_rfl _⟩)
    · replace h9 : ¬ (xm < nI 1) := h9
      refine rw_go hX [(12, .iload_n 3), (13, .iconst 3)] (by decide +kernel) (Ps := []) (pc' := 14) (lv' := [(0, .ref 0), (1, .int (nI w)), (2, .int xz), (3, .int xm), (4, .int xs), (5, .int xp)]) (st' := [.int (nI 3), .int xm]) (σ' := σ) rfl True.intro ?_
      refine rw_icmp hX (tgt := 38) (cnd := .gt) (off := 24) (by decide +kernel) (by decide) (fun h14 => ?_) (fun h14 => ?_)
      · replace h14 : (xm > nI 3) := h14
        refine rw_go hX [(38, .bipush (-2))] (by decide +kernel) (Ps := []) (pc' := 40) (lv' := [(0, .ref 0), (1, .int (nI w)), (2, .int xz), (3, .int xm), (4, .int xs), (5, .int xp)]) (st' := [.int (-(nI 2))]) (σ' := σ) rfl True.intro ?_
        exact rw_iret hX (by decide +kernel) (⟨by simp only [aChance, eq_true h4, hcw, eq_false h9, eq_true h14, if_true, if_false, Bool.false_eq_true, and_self, and_true, true_and, and_false, false_and, oel_n, oel_s, decide_true, decide_false], XQ_rfl _⟩)
      · replace h14 : ¬ (xm > nI 3) := h14
        refine rw_go hX [(17, .iload 4)] (by decide +kernel) (Ps := []) (pc' := 19) (lv' := [(0, .ref 0), (1, .int (nI w)), (2, .int xz), (3, .int xm), (4, .int xs), (5, .int xp)]) (st' := [.int xs]) (σ' := σ) rfl True.intro ?_
        refine rw_if hX (tgt := 38) (cnd := .lt) (off := 19) (by decide +kernel) (by decide) (fun h19 => ?_) (fun h19 => ?_)
        · replace h19 : (xs < 0) := h19
          refine rw_go hX [(38, .bipush (-2))] (by decide +kernel) (Ps := []) (pc' := 40) (lv' := [(0, .ref 0), (1, .int (nI w)), (2, .int xz), (3, .int xm), (4, .int xs), (5, .int xp)]) (st' := [.int (-(nI 2))]) (σ' := σ) rfl True.intro ?_
          exact rw_iret hX (by decide +kernel) (⟨by simp only [aChance, eq_true h4, hcw, eq_false h9, eq_false h14, eq_true h19, if_true, if_false, Bool.false_eq_true, and_self, and_true, true_and, and_false, false_and, oel_n, oel_s, decide_true, decide_false], XQ_rfl _⟩)
        · replace h19 : ¬ (xs < 0) := h19
          refine rw_go hX [(22, .iload 4), (24, .bipush 100)] (by decide +kernel) (Ps := []) (pc' := 26) (lv' := [(0, .ref 0), (1, .int (nI w)), (2, .int xz), (3, .int xm), (4, .int xs), (5, .int xp)]) (st' := [.int (nI 100), .int xs]) (σ' := σ) rfl True.intro ?_
          refine rw_icmp hX (tgt := 38) (cnd := .gt) (off := 12) (by decide +kernel) (by decide) (fun h26 => ?_) (fun h26 => ?_)
          · replace h26 : (xs > nI 100) := h26
            refine rw_go hX [(38, .bipush (-2))] (by decide +kernel) (Ps := []) (pc' := 40) (lv' := [(0, .ref 0), (1, .int (nI w)), (2, .int xz), (3, .int xm), (4, .int xs), (5, .int xp)]) (st' := [.int (-(nI 2))]) (σ' := σ) rfl True.intro ?_
            exact rw_iret hX (by decide +kernel) (⟨by simp only [aChance, eq_true h4, hcw, eq_false h9, eq_false h14, eq_false h19, eq_true h26, if_true, if_false, Bool.false_eq_true, and_self, and_true, true_and, and_false, false_and, oel_n, oel_s, decide_true, decide_false], XQ_rfl _⟩)
          · replace h26 : ¬ (xs > nI 100) := h26
            refine rw_go hX [(29, .iload 5), (31, .iconst 2)] (by decide +kernel) (Ps := []) (pc' := 32) (lv' := [(0, .ref 0), (1, .int (nI w)), (2, .int xz), (3, .int xm), (4, .int xs), (5, .int xp)]) (st' := [.int (nI 2), .int xp]) (σ' := σ) rfl True.intro ?_
            refine rw_callSi hX (as := [.int xp, .int (nI 2)]) (rest := []) (c_X9_isOneOf _ _ _ (xp) (nI 2)) (by decide +kernel) msX9_isOneOf (Or.inl lk9_97) rfl (by decide) (Nat.le_of_ble_eq_true rfl) rfl ?_
            intro r1 σ1 hr
            rw [hr.1, show r1 = bz (decide (0 ≤ xp ∧ xp < nI 2)) from hr.2]
            clear hr σ1 r1
            refine rw_if hX (tgt := 41) (cnd := .ne) (off := 6) (by decide +kernel) (by decide) (fun h35 => ?_) (fun h35 => ?_)
            · replace h35 := of_decide_eq_true (zb_neT h35)
              obtain ⟨p, hp, rfl⟩ := rngO (m := 2) (by omega) h35
              have hcp : (nI p).toNatClampNeg = p := nI_clamp (by omega)
              obtain ⟨m, hm, rfl⟩ := rng (m := 3) (by omega) ⟨Int32.le_trans (nI_pos' (by omega)) (Int32.not_lt.mp h9), Int32.not_lt.mp h14⟩
              have hcm : (nI m).toNatClampNeg = m := nI_clamp (by omega)
              refine rw_go hX [(41, .aload_n 0), (42, .iload_n 1)] (by decide +kernel) (Ps := []) (pc' := 43) (lv' := [(0, .ref 0), (1, .int (nI w)), (2, .int xz), (3, .int (nI m)), (4, .int xs), (5, .int (nI p))]) (st' := [.int (nI w), .ref 0]) (σ' := σ) rfl True.intro ?_
              refine rw_callVi hX (as := [.int (nI w)]) (rest := []) (c_missing _ _ _ V w hV hv hw) (by decide +kernel) mvX9_isMissing lk9_78 (ci := 8) rfl rfl rfl (by decide) (Nat.le_of_ble_eq_true rfl) rfl ?_
              intro r1 σ1 hr
              rw [hr.1, show r1 = bz (decide (vS V w = 0)) from hr.2]
              clear hr σ1 r1
              refine rw_if hX (tgt := 52) (cnd := .eq) (off := 6) (by decide +kernel) (by decide) (fun h46 => ?_) (fun h46 => ?_)
              · replace h46 := of_decide_eq_false (zb_eqT h46)
                refine rw_go hX [(52, .iconst 0), (53, .istore 6), (55, .iconst 0), (56, .istore 7)] (by decide +kernel) (Ps := []) (pc' := 58) (lv' := [(0, .ref 0), (1, .int (nI w)), (2, .int xz), (3, .int (nI m)), (4, .int xs), (5, .int (nI p)), (6, .int (nI 0)), (7, .int (nI 0))]) (st' := []) (σ' := σ) rfl True.intro ?_
                have L58 : ∀ (μ58 : Nat) (i : Nat) (τ : Mm), μ58 = m - i → (i ≤ m) → (XQ σ τ) → RW E G 6 8 (QI E G (fun r σ' => r = aChance V (nI w) xz (nI m) xs (nI p) ∧ XQ σ σ')) 58 [(0, .ref 0), (1, .int (nI w)), (2, .int xz), (3, .int (nI m)), (4, .int xs), (5, .int (nI p)), (6, .int (nI (cB (chB V w xz xs) i))), (7, .int (nI i))] [] τ := by
                  intro μ58
                  induction μ58 using Nat.strongRecOn with
                  | ind μ58 ih58 =>
                    intro i τ hμ58 hi hqt
                    refine rw_go hX [(58, .iload 7), (60, .iload_n 3)] (by decide +kernel) (Ps := []) (pc' := 61) (lv' := [(0, .ref 0), (1, .int (nI w)), (2, .int xz), (3, .int (nI m)), (4, .int xs), (5, .int (nI p)), (6, .int (nI (cB (chB V w xz xs) i))), (7, .int (nI i))]) (st' := [.int (nI m), .int (nI i)]) (σ' := τ) rfl True.intro ?_
                    refine rw_icmp hX (tgt := 116) (cnd := .ge) (off := 55) (by decide +kernel) (by decide) (fun h61 => ?_) (fun h61 => ?_)
                    · replace h61 := c2_geT h61
                      have e : i = m := by omega
                      refine rw_go hX [(116, .iload 6), (118, .iload_n 3), (119, .iload 5)] (by decide +kernel) (Ps := []) (pc' := 121) (lv' := [(0, .ref 0), (1, .int (nI w)), (2, .int xz), (3, .int (nI m)), (4, .int xs), (5, .int (nI p)), (6, .int (nI (cB (chB V w xz xs) i))), (7, .int (nI i))]) (st' := [.int (nI p), .int (nI m), .int (nI (cB (chB V w xz xs) i))]) (σ' := τ) rfl True.intro ?_
                      refine rw_callSi hX (as := [.int (nI (cB (chB V w xz xs) i)), .int (nI m), .int (nI p)]) (rest := []) (c_lowest _ _ _ (cB (chB V w xz xs) i) m p (by have := cB_le (chB V w xz xs) i; omega) (by omega) hp) (by decide +kernel) msX9_inLowestTerms (Or.inl lk9_223) rfl (by decide) (Nat.le_of_ble_eq_true rfl) rfl ?_
                      intro r1 σ1 hr
                      rw [hr.1, show r1 = nI (lowT (cB (chB V w xz xs) m) m p) from hr.2.trans (by rw [e])]
                      clear hr σ1 r1
                      exact rw_iret hX (by decide +kernel) (⟨by simp only [aChance, eq_true h4, hcw, eq_false h9, eq_false h14, eq_false h19, eq_false h26, eq_true h35, hcp, hcm, eq_false h46, eq_true h61, if_true, if_false, Bool.false_eq_true, and_self, and_true, true_and, and_false, false_and, oel_n, oel_s, decide_true, decide_false], hqt⟩)
                    · replace h61 := c2_geF h61
                      refine rw_go hX [(64, .aload_n 0), (65, .iload_n 1), (66, .iload_n 2), (67, .iload 7), (69, .iadd), (70, .iconst 3)] (by decide +kernel) (Ps := []) (pc' := 71) (lv' := [(0, .ref 0), (1, .int (nI w)), (2, .int xz), (3, .int (nI m)), (4, .int xs), (5, .int (nI p)), (6, .int (nI (cB (chB V w xz xs) i))), (7, .int (nI i))]) (st' := [.int (nI 3), .int (xz + nI i), .int (nI w), .ref 0]) (σ' := τ) rfl True.intro ?_
                      refine rw_callVv hX (as := [.int (nI w), .int (xz + nI i), .int (nI 3)]) (rest := []) (c_drawIn _ _ _ V w 3 (xz + nI i) ((vw_of (fun j hj => hqt _ (by omega))).trans hV) hv hw (by omega) (by omega)) (by decide +kernel) mvX9_drawInThought lk9_261 (ci := 8) rfl rfl rfl (by decide) (Nat.le_of_ble_eq_true rfl) rfl ?_
                      intro τ0 ht0
                      obtain ⟨hVW, hqb⟩ := ht0
                      have hqa := hqt.trans hqb
                      have hvW := wf_dr hv w (xz + nI i) 3
                      refine rw_go hX [(74, .aload_n 0), (75, .getfield 25), (78, .aload_n 0), (79, .getfield 19), (82, .iload_n 1)] (by decide +kernel) (Ps := []) (pc' := 83) (lv' := [(0, .ref 0), (1, .int (nI w)), (2, .int xz), (3, .int (nI m)), (4, .int xs), (5, .int (nI p)), (6, .int (nI (cB (chB V w xz xs) i))), (7, .int (nI i))]) (st' := [.int (nI w), .ref 15, .ref 22]) (σ' := τ0) rfl True.intro ?_
                      refine rw_callVv hX (as := [.ref 15, .int (nI w)]) (rest := []) (c_trace_15 _ _ _ (drV V w (xz + nI i) 3) w hVW hvW hw) (by decide +kernel) mvX8_trace lk9_231 (ci := 7) rfl rfl rfl (by decide) (Nat.le_of_ble_eq_true rfl) rfl ?_
                      intro τ1 ht9
                      obtain ⟨⟨F, hS⟩, hTR, hD, hq⟩ := ht9
                      have hq2 := hqa.trans (XQ_S hq)
                      have hL5 := lC_50 hvW hw
                      have hR := hS.1 w hw
                      refine rw_go hX [(86, .iload 6), (88, .aload_n 0), (89, .iload_n 1), (90, .iconst 1)] (by decide +kernel) (Ps := []) (pc' := 91) (lv' := [(0, .ref 0), (1, .int (nI w)), (2, .int xz), (3, .int (nI m)), (4, .int xs), (5, .int (nI p)), (6, .int (nI (cB (chB V w xz xs) i))), (7, .int (nI i))]) (st' := [.int (nI 1), .int (nI w), .ref 0, .int (nI (cB (chB V w xz xs) i))]) (σ' := τ1) rfl True.intro ?_
                      refine rw_callVi hX (as := [.int (nI w), .int (nI 1)]) (rest := [.int (nI (cB (chB V w xz xs) i))]) (c_tellShare _ _ _ w (cvV (drV V w (xz + nI i) 3) w) (lC (drV V w (xz + nI i) 3) w) 1 hw hD.2.1 (cvV_L _ w) hR.1.1 hL5 (by omega)) (by decide +kernel) mvX9_tellShare lk9_249 (ci := 8) rfl rfl rfl (by decide) (Nat.le_of_ble_eq_true rfl) rfl ?_
                      intro r1 σ1 hr
                      rw [hr.1, show r1 = nI (shV (drV V w (xz + nI i) 3) w 1) from hr.2]
                      clear hr σ1 r1
                      refine rw_go hX [(94, .iload 4)] (by decide +kernel) (Ps := []) (pc' := 96) (lv' := [(0, .ref 0), (1, .int (nI w)), (2, .int xz), (3, .int (nI m)), (4, .int xs), (5, .int (nI p)), (6, .int (nI (cB (chB V w xz xs) i))), (7, .int (nI i))]) (st' := [.int xs, .int (nI (shV (drV V w (xz + nI i) 3) w 1)), .int (nI (cB (chB V w xz xs) i))]) (σ' := τ1) rfl True.intro ?_
                      refine rw_icmp hX (tgt := 103) (cnd := .lt) (off := 7) (by decide +kernel) (by decide) (fun h96 => ?_) (fun h96 => ?_)
                      · replace h96 : (nI (shV (drV V w (xz + nI i) 3) w 1) < xs) := h96
                        have hup : chB V w xz xs i = false := decide_eq_false (Int32.not_le.mpr h96)
                        refine rw_go hX [(103, .iconst 0)] (by decide +kernel) (Ps := []) (pc' := 104) (lv' := [(0, .ref 0), (1, .int (nI w)), (2, .int xz), (3, .int (nI m)), (4, .int xs), (5, .int (nI p)), (6, .int (nI (cB (chB V w xz xs) i))), (7, .int (nI i))]) (st' := [.int (nI 0), .int (nI (cB (chB V w xz xs) i))]) (σ' := τ1) rfl True.intro ?_
                        refine rw_callSi hX (as := [.int (nI 0)]) (rest := [.int (nI (cB (chB V w xz xs) i))]) (c_X9_asNumber _ _ _ false) (by decide +kernel) msX9_asNumber (Or.inl lk9_177) rfl (by decide) (Nat.le_of_ble_eq_true rfl) rfl ?_
                        intro r1 σ1 hr
                        rw [hr.1, show r1 = nI 0 from hr.2]
                        clear hr σ1 r1
                        refine rw_go hX [(107, .iadd), (108, .istore 6), (110, .iinc 7 1), (113, .goto (-55))] (by decide +kernel) (Ps := []) (pc' := 58) (lv' := [(0, .ref 0), (1, .int (nI w)), (2, .int xz), (3, .int (nI m)), (4, .int xs), (5, .int (nI p)), (6, .int (nI (cB (chB V w xz xs) i) + nI 0)), (7, .int (nI i + nI 1))]) (st' := []) (σ' := τ1) rfl True.intro ?_
                        refine rw_lsub (ks := [0, 1, 2, 3, 4, 5, 6, 7]) (lv' := [(0, .ref 0), (1, .int (nI w)), (2, .int xz), (3, .int (nI m)), (4, .int xs), (5, .int (nI p)), (6, .int (nI (cB (chB V w xz xs) i) + nI 0)), (7, .int (nI i + nI 1))]) rfl ?_
                        have q := ih58 (m - (i + 1)) (by omega) (i + 1) _ rfl (by omega) hq2
                        rw [cB_n (k := i) hup] at q
                        rw [nI_add, nI_add, Nat.add_zero]
                        exact q
                      · replace h96 : ¬ (nI (shV (drV V w (xz + nI i) 3) w 1) < xs) := h96
                        have hup : chB V w xz xs i = true := decide_eq_true (Int32.not_lt.mp h96)
                        refine rw_go hX [(99, .iconst 1), (100, .goto 4)] (by decide +kernel) (Ps := []) (pc' := 104) (lv' := [(0, .ref 0), (1, .int (nI w)), (2, .int xz), (3, .int (nI m)), (4, .int xs), (5, .int (nI p)), (6, .int (nI (cB (chB V w xz xs) i))), (7, .int (nI i))]) (st' := [.int (nI 1), .int (nI (cB (chB V w xz xs) i))]) (σ' := τ1) rfl True.intro ?_
                        refine rw_callSi hX (as := [.int (nI 1)]) (rest := [.int (nI (cB (chB V w xz xs) i))]) (c_X9_asNumber _ _ _ true) (by decide +kernel) msX9_asNumber (Or.inl lk9_177) rfl (by decide) (Nat.le_of_ble_eq_true rfl) rfl ?_
                        intro r1 σ1 hr
                        rw [hr.1, show r1 = nI 1 from hr.2]
                        clear hr σ1 r1
                        refine rw_go hX [(107, .iadd), (108, .istore 6), (110, .iinc 7 1), (113, .goto (-55))] (by decide +kernel) (Ps := []) (pc' := 58) (lv' := [(0, .ref 0), (1, .int (nI w)), (2, .int xz), (3, .int (nI m)), (4, .int xs), (5, .int (nI p)), (6, .int (nI (cB (chB V w xz xs) i) + nI 1)), (7, .int (nI i + nI 1))]) (st' := []) (σ' := τ1) rfl True.intro ?_
                        refine rw_lsub (ks := [0, 1, 2, 3, 4, 5, 6, 7]) (lv' := [(0, .ref 0), (1, .int (nI w)), (2, .int xz), (3, .int (nI m)), (4, .int xs), (5, .int (nI p)), (6, .int (nI (cB (chB V w xz xs) i) + nI 1)), (7, .int (nI i + nI 1))]) rfl ?_
                        have q := ih58 (m - (i + 1)) (by omega) (i + 1) _ rfl (by omega) hq2
                        rw [cB_y (k := i) hup] at q
                        rw [nI_add, nI_add]
                        exact q
                refine rw_lsub (ks := [0, 1, 2, 3, 4, 5, 6, 7]) (lv' := [(0, .ref 0), (1, .int (nI w)), (2, .int xz), (3, .int (nI m)), (4, .int xs), (5, .int (nI p)), (6, .int (nI 0)), (7, .int (nI 0))]) rfl ?_
                exact L58 m 0 σ rfl (by omega) (XQ_rfl σ)
              · replace h46 := of_decide_eq_true (zb_eqF h46)
                refine rw_go hX [(49, .bipush (-11))] (by decide +kernel) (Ps := []) (pc' := 51) (lv' := [(0, .ref 0), (1, .int (nI w)), (2, .int xz), (3, .int (nI m)), (4, .int xs), (5, .int (nI p))]) (st' := [.int (-(nI 11))]) (σ' := σ) rfl True.intro ?_
                exact rw_iret hX (by decide +kernel) (⟨by simp only [aChance, eq_true h4, hcw, eq_false h9, eq_false h14, eq_false h19, eq_false h26, eq_true h35, hcp, hcm, eq_true h46, if_true, if_false, Bool.false_eq_true, and_self, and_true, true_and, and_false, false_and, oel_n, oel_s, decide_true, decide_false], XQ_rfl _⟩)
            · replace h35 := of_decide_eq_false (zb_neF h35)
              refine rw_go hX [(38, .bipush (-2))] (by decide +kernel) (Ps := []) (pc' := 40) (lv' := [(0, .ref 0), (1, .int (nI w)), (2, .int xz), (3, .int xm), (4, .int xs), (5, .int xp)]) (st' := [.int (-(nI 2))]) (σ' := σ) rfl True.intro ?_
              exact rw_iret hX (by decide +kernel) (⟨by simp only [aChance, eq_true h4, hcw, eq_false h9, eq_false h14, eq_false h19, eq_false h26, eq_false h35, if_true, if_false, Bool.false_eq_true, and_self, and_true, true_and, and_false, false_and, oel_n, oel_s, decide_true, decide_false], XQ_rfl _⟩)
