/-! the calls on what was told, the host's sheets -/
noncomputable def pTl (V : Mm) (w n : Nat) (E : (Nat → Option Nat) → Nat → Prop) (q r : Int32) : Prop := if q = 0 then FO (E (sT V w (vR V 4))) (2 * spN (sT V w (vR V 4)) (lC V w)) n r else if q = nI 1 then LTd (fun ls => 2 * spN (sT V w ls) (lC V w) = n ∧ ∀ j, j < n → E (sT V w ls) j) r else GTd (fun ls => 2 * spN (sT V w ls) (lC V w) = n ∧ ∀ j, j < n → E (sT V w ls) j) r
noncomputable def pTells (V : Mm) (n : Nat → Nat) (so : Nat → Int32) (E : Nat → Nat → (Nat → Option Nat) → Nat → Prop) (s x q r : Int32) : Prop := if 0 ≤ s ∧ s ≤ 3 then (if 0 ≤ x ∧ x ≤ 4 then (if 0 ≤ q ∧ q < nI 3 then (if vS V x.toNatClampNeg = 0 then r = -(nI 11) else if so s.toNatClampNeg = -(nI 1) then r = -(nI 11) else if n s.toNatClampNeg ≤ 20 then pTl V x.toNatClampNeg (n s.toNatClampNeg) (E s.toNatClampNeg x.toNatClampNeg) q r else r = -(nI 2)) else r = -(nI 2)) else r = -(nI 2)) else r = -(nI 2)
noncomputable def flN (V : Mm) (w : Nat) : Nat := min 20 (2 * spN (sT V w (vR V 4)) (lC V w))
noncomputable def aFilm (V : Mm) (s x : Int32) : Int32 := if 0 ≤ s ∧ s ≤ 3 then (if 0 ≤ x ∧ x ≤ 4 then (if vS V x.toNatClampNeg = 0 then -(nI 11) else nI (flN V x.toNatClampNeg)) else -(nI 2)) else -(nI 2)
noncomputable def flT (V : Mm) (w j : Nat) : Int32 := nI (PL V w (tPi (sT V w (vR V 4)) (lC V w) j))
def flC (V σ σ' : Mm) (s w : Nat) : Prop := (∀ k, k < 15 ∨ 60 < k → k ≠ 62 → k ≠ 63 → k ≠ 64 → σ' k = σ k) ∧ σ' 63 = upd (σ 63) s (nI (flN V w)) ∧ σ' 64 = upd (σ 64) s (nI 0) ∧ ∀ j, σ' 62 j = if 40 * s ≤ j ∧ j < 40 * s + flN V w then flT V w (j - 40 * s) else fl (σ 62) (40 * s) (40 * s + 40) (nI 0) j
def sFilm (V σ σ' : Mm) (s x : Int32) : Prop := if 0 ≤ s ∧ s ≤ 3 then (if 0 ≤ x ∧ x ≤ 4 then (if vS V x.toNatClampNeg = 0 then σ' = σ else flC V σ σ' s.toNatClampNeg x.toNatClampNeg) else σ' = σ) else σ' = σ
def thN (V : Mm) : Nat := cB (fun w => decide (0 < vS V w)) 5
noncomputable def aCount (V : Mm) (t : Nat) (q : Int32) : Int32 := if q = nI 0 then nI (thN V) else if q = nI 1 then nI (sN (vS V) 5) else if q = nI 2 then nI (sN (lC V) 5) else if q = nI 3 then nI (sN (fun w => pNs V w (gC V w)) 5) else if q = nI 4 then nI (UG V) else if q = nI 5 then nI t else -(nI 2)
theorem cnt6 (q : Int32) : q = nI 0 ∨ q = nI 1 ∨ q = nI 2 ∨ q = nI 3 ∨ q = nI 4 ∨ q = nI 5 ∨ (q.toInt < 0 ∨ 5 < q.toInt) := by
  by_cases h : q.toInt < 0 ∨ 5 < q.toInt
  · exact Or.inr (Or.inr (Or.inr (Or.inr (Or.inr (Or.inr h)))))
  · have e : ∀ k : Nat, k < 6 → q.toInt = k → q = nI k := fun k hk hq => Int32.toInt_inj.mp (hq.trans (nI_toInt (by omega)).symm)
    rcases (show q.toInt = (0 : Nat) ∨ q.toInt = (1 : Nat) ∨ q.toInt = (2 : Nat) ∨ q.toInt = (3 : Nat) ∨ q.toInt = (4 : Nat) ∨ q.toInt = (5 : Nat) by omega) with g | g | g | g | g | g
    · exact Or.inl (e 0 (by omega) g)
    · exact Or.inr (Or.inl (e 1 (by omega) g))
    · exact Or.inr (Or.inr (Or.inl (e 2 (by omega) g)))
    · exact Or.inr (Or.inr (Or.inr (Or.inl (e 3 (by omega) g))))
    · exact Or.inr (Or.inr (Or.inr (Or.inr (Or.inl (e 4 (by omega) g)))))
    · exact Or.inr (Or.inr (Or.inr (Or.inr (Or.inr (Or.inl (e 5 (by omega) g))))))
theorem cnt6n {q : Int32} (h : q.toInt < 0 ∨ 5 < q.toInt) {k : Nat} (hk : k < 6) : q ≠ nI k := fun z => by rw [z, nI_toInt (by omega)] at h; omega
def aSheet (s q n : Int32) : Int32 := if 0 ≤ s ∧ s ≤ 3 then (if q < -(nI 1) then -(nI 2) else if q ≤ nI 1 then (if q = -(nI 1) then nI 1 else if n ≤ nI 40 then (if n < 0 then -(nI 14) else nI 1) else -(nI 2)) else -(nI 2)) else -(nI 2)
def bcS (σ : Mm) (s : Nat) (q : Int32) (n : Nat) : Mm := sr (sw (sw σ 64 s q) 63 s (nI n)) 62 (fl (σ 62) (40 * s) (40 * s + 40) (nI 0))
def sSheet (σ : Mm) (s q n : Int32) : Mm := if 0 ≤ s ∧ s ≤ 3 then (if q < -(nI 1) then σ else if q ≤ nI 1 then (if q = -(nI 1) then bcS σ s.toNatClampNeg (-(nI 1)) 0 else if n ≤ nI 40 then (if n < 0 then σ else bcS σ s.toNatClampNeg q n.toNatClampNeg) else σ) else σ) else σ
def aPut (n : Nat → Nat) (so : Nat → Int32) (s i : Int32) : Int32 := if 0 ≤ s ∧ s ≤ 3 then (if so s.toNatClampNeg = -(nI 1) then -(nI 11) else if i < 0 then -(nI 12) else if i < nI (n s.toNatClampNeg) then nI 1 else -(nI 12)) else -(nI 2)
def sPut (n : Nat → Nat) (σ : Mm) (s i v : Int32) : Mm := if 0 ≤ s ∧ s ≤ 3 then (if σ 64 s.toNatClampNeg = -(nI 1) then σ else if i < 0 then σ else if i < nI (n s.toNatClampNeg) then sw σ 62 (40 * s.toNatClampNeg + i.toNatClampNeg) (if σ 64 s.toNatClampNeg = 0 then v &&& nI 255 else v) else σ) else σ
def cpOK (i j n : Int32) (a b : Nat) : Prop := ∃ x y k, i = nI x ∧ j = nI y ∧ n = nI k ∧ x + k ≤ a ∧ y + k ≤ b
noncomputable def aCopy (n : Nat → Nat) (so : Nat → Int32) (s i u j k : Int32) : Int32 := if 0 ≤ s ∧ s ≤ 3 then (if 0 ≤ u ∧ u ≤ 3 then (if so s.toNatClampNeg = -(nI 1) then -(nI 11) else if so u.toNatClampNeg = -(nI 1) then -(nI 11) else if so s.toNatClampNeg = so u.toNatClampNeg then (if pz (cpOK i j k (n s.toNatClampNeg) (n u.toNatClampNeg)) = true then k else -(nI 12)) else -(nI 13)) else -(nI 2)) else -(nI 2)
noncomputable def sCopy (n : Nat → Nat) (σ : Mm) (s i u j k : Int32) : Mm := if 0 ≤ s ∧ s ≤ 3 then (if 0 ≤ u ∧ u ≤ 3 then (if σ 64 s.toNatClampNeg = -(nI 1) then σ else if σ 64 u.toNatClampNeg = -(nI 1) then σ else if σ 64 s.toNatClampNeg = σ 64 u.toNatClampNeg then (if pz (cpOK i j k (n s.toNatClampNeg) (n u.toNatClampNeg)) = true then sr σ 62 (va_cpy (σ 62) (σ 62) (40 * s.toNatClampNeg + i.toNatClampNeg) (40 * u.toNatClampNeg + j.toNatClampNeg) k.toNatClampNeg) else σ) else σ) else σ) else σ
theorem subr0 {n f : Int32} {t : Nat} (hf : ¬ f < 0) (hn : ¬ n < 0) (h : n ≤ nI t - f) (ht : t ≤ 50) : ∃ k j, n = nI k ∧ f = nI j ∧ j + k ≤ t := by
  obtain ⟨j, hj, rfl⟩ := nI_of hf
  obtain ⟨k, hk, rfl⟩ := nI_of hn
  refine ⟨k, j, rfl, rfl, ?_⟩
  rcases Nat.lt_or_ge t j with q | q
  · exfalso
    have h1 := Int32.le_iff_toInt_le.mp h
    have h2 : (nI t - nI j).toInt = (t : Int) - j := by
      rw [Int32.toInt_sub, nI_toInt (by omega), nI_toInt hj, Int.bmod_eq_of_le (by omega) (by omega)]
    rw [h2, nI_toInt hk] at h1
    omega
  · rw [pk_sub q] at h
    have := (nI_leI hk (by omega)).mp h
    omega
noncomputable def flR (V σ : Mm) (s w i : Nat) : Nat → Int32 := fun j => if 40 * s ≤ j ∧ j < 40 * s + i then flT V w (j - 40 * s) else fl (σ 62) (40 * s) (40 * s + 40) (nI 0) j
theorem flR_0 (V σ : Mm) (s w : Nat) : flR V σ s w 0 = fl (σ 62) (40 * s) (40 * s + 40) (nI 0) := by
  funext j
  exact if_neg (by omega)
theorem flR_1 (V σ : Mm) (s w i : Nat) : upd (flR V σ s w i) (40 * s + i) (flT V w i) = flR V σ s w (i + 1) := by
  funext j
  by_cases q : j = 40 * s + i
  · subst q
    rw [upd_s]
    unfold flR
    rw [if_pos (by omega), show 40 * s + i - 40 * s = i by omega]
  · rw [upd_n _ _ q]
    unfold flR
    by_cases g : 40 * s ≤ j ∧ j < 40 * s + i
    · rw [if_pos g, if_pos (by omega)]
    · rw [if_neg g, if_neg (by omega)]
theorem and255n {n : Nat} (h : n < 256) : nI n &&& nI 255 = nI n := by
  rw [and255, pk_tn (by omega)]
  congr 1
  omega
set_option maxRecDepth 20000 in
set_option maxHeartbeats 4000000 in
theorem f_tells (l : Launch) (G : Gl) (σ : Mm) (V : Mm) (n : Nat → Nat) (xs xw xq : Int32) (hV : vw σ 2 = V) (hv : wf V) (hsh : ∀ s, s < 4 → σ 63 s = nI (n s) ∧ n s ≤ 40) : AMi l G 6 mX9_tells [.ref 0, .int xs, .int xw, .int xq] σ (fun r σ' => pTells V n (σ 64) (Eq62 V σ) xs xw xq r ∧ XQ σ σ') := by
  refine rw_inI 9 (by decide +kernel) rfl rfl ?_
  intro E hE hX
  subst hE
  refine rw_go hX [(0, .iload_n 1)] (by decide +kernel) (Ps := []) (pc' := 1) (lv' := [(0, .ref 0), (1, .int xs), (2, .int xw), (3, .int xq)]) (st' := [.int xs]) (σ' := σ) rfl True.intro ?_
  refine rw_callSi hX (as := [.int xs]) (rest := []) (c_X9_isSheet _ _ _ (xs)) (by decide +kernel) msX9_isSheet (Or.inl lk9_264) rfl (by decide) (Nat.le_of_ble_eq_true rfl) rfl ?_
  intro r1 σ1 hr
  rw [hr.1, show r1 = bz (decide (0 ≤ xs ∧ xs ≤ 3)) from hr.2]
  clear hr σ1 r1
  refine rw_if hX (tgt := 22) (cnd := .eq) (off := 18) (by decide +kernel) (by decide) (fun h4 => ?_) (fun h4 => ?_)
  · replace h4 := of_decide_eq_false (zb_eqT h4)
    refine rw_go hX [(22, .bipush (-2))] (by decide +kernel) (Ps := []) (pc' := 24) (lv' := [(0, .ref 0), (1, .int xs), (2, .int xw), (3, .int xq)]) (st' := [.int (-(nI 2))]) (σ' := σ) rfl True.intro ?_
    exact rw_iret hX (by decide +kernel) (⟨by simp only [pTells, eq_false h4, if_true, if_false, Bool.false_eq_true, and_self, and_true, true_and, and_false, false_and, oel_n, oel_s, decide_true, decide_false], XQ_rfl _⟩)
  · replace h4 := of_decide_eq_true (zb_eqF h4)
    obtain ⟨s, hs, rfl⟩ := rng (m := 3) (by omega) h4
    have hs : s < 4 := hs
    have hcs : (nI s).toNatClampNeg = s := nI_clamp (by omega)
    have hns := hsh s hs
    refine rw_go hX [(7, .iload_n 2)] (by decide +kernel) (Ps := []) (pc' := 8) (lv' := [(0, .ref 0), (1, .int (nI s)), (2, .int xw), (3, .int xq)]) (st' := [.int xw]) (σ' := σ) rfl True.intro ?_
    refine rw_callSi hX (as := [.int xw]) (rest := []) (c_X9_isWork _ _ _ (xw)) (by decide +kernel) msX9_isWork (Or.inl lk9_56) rfl (by decide) (Nat.le_of_ble_eq_true rfl) rfl ?_
    intro r1 σ1 hr
    rw [hr.1, show r1 = bz (decide (0 ≤ xw ∧ xw ≤ 4)) from hr.2]
    clear hr σ1 r1
    refine rw_if hX (tgt := 22) (cnd := .eq) (off := 11) (by decide +kernel) (by decide) (fun h11 => ?_) (fun h11 => ?_)
    · replace h11 := of_decide_eq_false (zb_eqT h11)
      refine rw_go hX [(22, .bipush (-2))] (by decide +kernel) (Ps := []) (pc' := 24) (lv' := [(0, .ref 0), (1, .int (nI s)), (2, .int xw), (3, .int xq)]) (st' := [.int (-(nI 2))]) (σ' := σ) rfl True.intro ?_
      exact rw_iret hX (by decide +kernel) (⟨by simp only [pTells, eq_true h4, hcs, eq_false h11, if_true, if_false, Bool.false_eq_true, and_self, and_true, true_and, and_false, false_and, oel_n, oel_s, decide_true, decide_false], XQ_rfl _⟩)
    · replace h11 := of_decide_eq_true (zb_eqF h11)
      obtain ⟨w, hw, rfl⟩ := rng (m := 4) (by omega) h11
      have hw : w < 5 := hw
      have hcw : (nI w).toNatClampNeg = w := nI_clamp (by omega)
      refine rw_go hX [(14, .iload_n 3), (15, .iconst 3)] (by decide +kernel) (Ps := []) (pc' := 16) (lv' := [(0, .ref 0), (1, .int (nI s)), (2, .int (nI w)), (3, .int xq)]) (st' := [.int (nI 3), .int xq]) (σ' := σ) rfl True.intro ?_
      refine rw_callSi hX (as := [.int xq, .int (nI 3)]) (rest := []) (c_X9_isOneOf _ _ _ (xq) (nI 3)) (by decide +kernel) msX9_isOneOf (Or.inl lk9_97) rfl (by decide) (Nat.le_of_ble_eq_true rfl) rfl ?_
      intro r1 σ1 hr
      rw [hr.1, show r1 = bz (decide (0 ≤ xq ∧ xq < nI 3)) from hr.2]
      clear hr σ1 r1
      refine rw_if hX (tgt := 25) (cnd := .ne) (off := 6) (by decide +kernel) (by decide) (fun h19 => ?_) (fun h19 => ?_)
      · replace h19 := of_decide_eq_true (zb_neT h19)
        refine rw_go hX [(25, .aload_n 0), (26, .iload_n 2)] (by decide +kernel) (Ps := []) (pc' := 27) (lv' := [(0, .ref 0), (1, .int (nI s)), (2, .int (nI w)), (3, .int xq)]) (st' := [.int (nI w), .ref 0]) (σ' := σ) rfl True.intro ?_
        refine rw_callVi hX (as := [.int (nI w)]) (rest := []) (c_missing _ _ _ V w hV hv hw) (by decide +kernel) mvX9_isMissing lk9_78 (ci := 8) rfl rfl rfl (by decide) (Nat.le_of_ble_eq_true rfl) rfl ?_
        intro r1 σ1 hr
        rw [hr.1, show r1 = bz (decide (vS V w = 0)) from hr.2]
        clear hr σ1 r1
        refine rw_if hX (tgt := 44) (cnd := .ne) (off := 14) (by decide +kernel) (by decide) (fun h30 => ?_) (fun h30 => ?_)
        · replace h30 := of_decide_eq_true (zb_neT h30)
          refine rw_go hX [(44, .bipush (-11))] (by decide +kernel) (Ps := []) (pc' := 46) (lv' := [(0, .ref 0), (1, .int (nI s)), (2, .int (nI w)), (3, .int xq)]) (st' := [.int (-(nI 11))]) (σ' := σ) rfl True.intro ?_
          exact rw_iret hX (by decide +kernel) (⟨by simp only [pTells, eq_true h4, hcs, eq_true h11, hcw, eq_true h19, eq_true h30, if_true, if_false, Bool.false_eq_true, and_self, and_true, true_and, and_false, false_and, oel_n, oel_s, decide_true, decide_false], XQ_rfl _⟩)
        · replace h30 := of_decide_eq_false (zb_neF h30)
          refine rw_go hX [(33, .aload_n 0), (34, .getfield 32), (37, .iload_n 1)] (by decide +kernel) (Ps := []) (pc' := 38) (lv' := [(0, .ref 0), (1, .int (nI s)), (2, .int (nI w)), (3, .int xq)]) (st' := [.int (nI s), .ref 61]) (σ' := σ) rfl True.intro ?_
          refine rw_callVi hX (as := [.int (nI s)]) (rest := []) (c_shMissing _ _ _ s hs) (by decide +kernel) mvX4_isMissing lk9_267 (ci := 3) rfl rfl rfl (by decide) (Nat.le_of_ble_eq_true rfl) rfl ?_
          intro r1 σ1 hr
          rw [hr.1, show r1 = bz (decide (σ 64 s = -(nI 1))) from hr.2]
          clear hr σ1 r1
          refine rw_if hX (tgt := 47) (cnd := .eq) (off := 6) (by decide +kernel) (by decide) (fun h41 => ?_) (fun h41 => ?_)
          · replace h41 := of_decide_eq_false (zb_eqT h41)
            refine rw_go hX [(47, .aload_n 0), (48, .getfield 32), (51, .iload_n 1)] (by decide +kernel) (Ps := []) (pc' := 52) (lv' := [(0, .ref 0), (1, .int (nI s)), (2, .int (nI w)), (3, .int xq)]) (st' := [.int (nI s), .ref 61]) (σ' := σ) rfl True.intro ?_
            refine rw_callVi hX (as := [.int (nI s)]) (rest := []) (c_shSize _ _ _ s hs) (by decide +kernel) mvX4_sizeOf lk9_268 (ci := 3) rfl rfl rfl (by decide) (Nat.le_of_ble_eq_true rfl) rfl ?_
            intro r1 σ1 hr
            rw [hr.1, show r1 = nI (n s) from hr.2.trans hns.1]
            clear hr σ1 r1
            refine rw_go hX [(55, .bipush 20)] (by decide +kernel) (Ps := []) (pc' := 57) (lv' := [(0, .ref 0), (1, .int (nI s)), (2, .int (nI w)), (3, .int xq)]) (st' := [.int (nI 20), .int (nI (n s))]) (σ' := σ) rfl True.intro ?_
            refine rw_icmp hX (tgt := 63) (cnd := .le) (off := 6) (by decide +kernel) (by decide) (fun h57 => ?_) (fun h57 => ?_)
            · replace h57 := c2_leT h57
              refine rw_go hX [(63, .aload_n 0), (64, .getfield 25), (67, .aload_n 0), (68, .getfield 12), (71, .iload_n 2)] (by decide +kernel) (Ps := []) (pc' := 72) (lv' := [(0, .ref 0), (1, .int (nI s)), (2, .int (nI w)), (3, .int xq)]) (st' := [.int (nI w), .ref 1, .ref 22]) (σ' := σ) rfl True.intro ?_
              refine rw_callVv hX (as := [.ref 1, .int (nI w)]) (rest := []) (c_trace_1 _ _ _ V w hV hv hw) (by decide +kernel) mvX8_trace lk9_231 (ci := 7) rfl rfl rfl (by decide) (Nat.le_of_ble_eq_true rfl) rfl ?_
              intro τ1 ht9
              obtain ⟨⟨F, hS⟩, hTR, hD, hq⟩ := ht9
              have hq1 := XQ_S hq
              have hR := hS.1 w hw
              have hE : Eq62 V τ1 = Eq62 V σ := by
                funext s9 w9 S9 j9
                unfold Eq62
                rw [hq 62 (by omega)]
              have h63 : τ1 63 s = nI (n s) := by rw [hq 63 (by omega)]; exact hns.1
              refine rw_go hX [(75, .iload_n 3)] (by decide +kernel) (Ps := []) (pc' := 76) (lv' := [(0, .ref 0), (1, .int (nI s)), (2, .int (nI w)), (3, .int xq)]) (st' := [.int xq]) (σ' := τ1) rfl True.intro ?_
              refine rw_if hX (tgt := 86) (cnd := .ne) (off := 10) (by decide +kernel) (by decide) (fun h76 => ?_) (fun h76 => ?_)
              · replace h76 : (xq ≠ 0) := h76
                refine rw_go hX [(86, .iload_n 3), (87, .iconst 1)] (by decide +kernel) (Ps := []) (pc' := 88) (lv' := [(0, .ref 0), (1, .int (nI s)), (2, .int (nI w)), (3, .int xq)]) (st' := [.int (nI 1), .int xq]) (σ' := τ1) rfl True.intro ?_
                refine rw_icmp hX (tgt := 100) (cnd := .ne) (off := 12) (by decide +kernel) (by decide) (fun h88 => ?_) (fun h88 => ?_)
                · replace h88 : (xq ≠ nI 1) := h88
                  refine rw_go hX [(100, .aload_n 0), (101, .iload_n 1), (102, .iload_n 2)] (by decide +kernel) (Ps := []) (pc' := 103) (lv' := [(0, .ref 0), (1, .int (nI s)), (2, .int (nI w)), (3, .int xq)]) (st' := [.int (nI w), .int (nI s), .ref 0]) (σ' := τ1) rfl True.intro ?_
                  refine rw_callVi hX (as := [.int (nI s), .int (nI w)]) (rest := []) (c_greatestTold _ _ _ V s w (n s) hv hw hs hTR hR h63 hns.2) (by decide +kernel) mvX9_greatestTold lk9_275 (ci := 8) rfl rfl rfl (by decide) (Nat.le_of_ble_eq_true rfl) rfl ?_
                  intro r1 τ2 hr
                  obtain ⟨hq9, hr2⟩ := hr
                  unfold WTc at hr2
                  rw [hE] at hr2
                  have hq2 := hq1.trans (XQ_S hq9)
                  exact rw_iret hX (by decide +kernel) (⟨by simp only [pTells, pTl, eq_true h4, hcs, eq_true h11, hcw, eq_true h19, eq_false h30, eq_false h41, eq_true h57, eq_false h76, eq_false h88, if_true, if_false, Bool.false_eq_true, and_self, and_true, true_and, and_false, false_and, oel_n, oel_s, decide_true, decide_false]; exact hr2, hq2⟩)
                · replace h88 : xq = nI 1 := Classical.not_not.mp h88
                  refine rw_go hX [(91, .aload_n 0), (92, .iload_n 1), (93, .iload_n 2)] (by decide +kernel) (Ps := []) (pc' := 94) (lv' := [(0, .ref 0), (1, .int (nI s)), (2, .int (nI w)), (3, .int xq)]) (st' := [.int (nI w), .int (nI s), .ref 0]) (σ' := τ1) rfl True.intro ?_
                  refine rw_callVi hX (as := [.int (nI s), .int (nI w)]) (rest := []) (c_leastTold _ _ _ V s w (n s) hv hw hs hTR hR h63 hns.2) (by decide +kernel) mvX9_leastTold lk9_272 (ci := 8) rfl rfl rfl (by decide) (Nat.le_of_ble_eq_true rfl) rfl ?_
                  intro r1 τ2 hr
                  obtain ⟨hq9, hr2⟩ := hr
                  unfold WTc at hr2
                  rw [hE] at hr2
                  have hq2 := hq1.trans (XQ_S hq9)
                  refine rw_go hX [(97, .goto 9)] (by decide +kernel) (Ps := []) (pc' := 106) (lv' := [(0, .ref 0), (1, .int (nI s)), (2, .int (nI w)), (3, .int xq)]) (st' := [.int r1]) (σ' := τ2) rfl True.intro ?_
                  exact rw_iret hX (by decide +kernel) (⟨by simp only [pTells, pTl, eq_true h4, hcs, eq_true h11, hcw, eq_true h19, eq_false h30, eq_false h41, eq_true h57, eq_false h76, eq_true h88, if_true, if_false, Bool.false_eq_true, and_self, and_true, true_and, and_false, false_and, oel_n, oel_s, decide_true, decide_false]; exact hr2, hq2⟩)
              · replace h76 : xq = 0 := Classical.not_not.mp h76
                refine rw_go hX [(79, .aload_n 0), (80, .iload_n 1), (81, .iload_n 2)] (by decide +kernel) (Ps := []) (pc' := 82) (lv' := [(0, .ref 0), (1, .int (nI s)), (2, .int (nI w)), (3, .int xq)]) (st' := [.int (nI w), .int (nI s), .ref 0]) (σ' := τ1) rfl True.intro ?_
                refine rw_callVi hX (as := [.int (nI s), .int (nI w)]) (rest := []) (c_firstO _ _ _ V (sT V w (vR V 4)) s w (n s) hv hw hs hD hR h63 hns.2) (by decide +kernel) mvX9_firstOtherwise lk9_269 (ci := 8) rfl rfl rfl (by decide) (Nat.le_of_ble_eq_true rfl) rfl ?_
                intro r1 σ1 hr
                rw [hr.1]
                have hr2 := hr.2
                rw [hE] at hr2
                clear hr σ1
                exact rw_iret hX (by decide +kernel) (⟨by simp only [pTells, pTl, eq_true h4, hcs, eq_true h11, hcw, eq_true h19, eq_false h30, eq_false h41, eq_true h57, eq_true h76, if_true, if_false, Bool.false_eq_true, and_self, and_true, true_and, and_false, false_and, oel_n, oel_s, decide_true, decide_false]; exact hr2, hq1⟩)
            · replace h57 := c2_leF h57
              have hn20 : ¬ n s ≤ 20 := by omega
              refine rw_go hX [(60, .bipush (-2))] (by decide +kernel) (Ps := []) (pc' := 62) (lv' := [(0, .ref 0), (1, .int (nI s)), (2, .int (nI w)), (3, .int xq)]) (st' := [.int (-(nI 2))]) (σ' := σ) rfl True.intro ?_
              exact rw_iret hX (by decide +kernel) (⟨by simp only [pTells, eq_true h4, hcs, eq_true h11, hcw, eq_true h19, eq_false h30, eq_false h41, eq_true h57, hn20, if_true, if_false, Bool.false_eq_true, and_self, and_true, true_and, and_false, false_and, oel_n, oel_s, decide_true, decide_false], XQ_rfl _⟩)
          · replace h41 := of_decide_eq_true (zb_eqF h41)
            refine rw_go hX [(44, .bipush (-11))] (by decide +kernel) (Ps := []) (pc' := 46) (lv' := [(0, .ref 0), (1, .int (nI s)), (2, .int (nI w)), (3, .int xq)]) (st' := [.int (-(nI 11))]) (σ' := σ) rfl True.intro ?_
            exact rw_iret hX (by decide +kernel) (⟨by simp only [pTells, eq_true h4, hcs, eq_true h11, hcw, eq_true h19, eq_false h30, eq_true h41, if_true, if_false, Bool.false_eq_true, and_self, and_true, true_and, and_false, false_and, oel_n, oel_s, decide_true, decide_false], XQ_rfl _⟩)
      · replace h19 := of_decide_eq_false (zb_neF h19)
        refine rw_go hX [(22, .bipush (-2))] (by decide +kernel) (Ps := []) (pc' := 24) (lv' := [(0, .ref 0), (1, .int (nI s)), (2, .int (nI w)), (3, .int xq)]) (st' := [.int (-(nI 2))]) (σ' := σ) rfl True.intro ?_
        exact rw_iret hX (by decide +kernel) (⟨by simp only [pTells, eq_true h4, hcs, eq_true h11, hcw, eq_false h19, if_true, if_false, Bool.false_eq_true, and_self, and_true, true_and, and_false, false_and, oel_n, oel_s, decide_true, decide_false], XQ_rfl _⟩)
set_option maxRecDepth 20000 in
set_option maxHeartbeats 4000000 in
theorem f_film (l : Launch) (G : Gl) (σ : Mm) (V : Mm) (n : Nat → Nat) (xs xw : Int32) (hV : vw σ 2 = V) (hv : wf V) (hsh : ∀ s, s < 4 → σ 63 s = nI (n s) ∧ n s ≤ 40) : AMi l G 6 mX9_film [.ref 0, .int xs, .int xw] σ (fun r σ' => r = aFilm V xs xw ∧ sFilm V σ σ' xs xw) := by
  refine rw_inI 9 (by decide +kernel) rfl rfl ?_
  intro E hE hX
  subst hE
  refine rw_go hX [(0, .iload_n 1)] (by decide +kernel) (Ps := []) (pc' := 1) (lv' := [(0, .ref 0), (1, .int xs), (2, .int xw)]) (st' := [.int xs]) (σ' := σ) rfl True.intro ?_
  refine rw_callSi hX (as := [.int xs]) (rest := []) (c_X9_isSheet _ _ _ (xs)) (by decide +kernel) msX9_isSheet (Or.inl lk9_264) rfl (by decide) (Nat.le_of_ble_eq_true rfl) rfl ?_
  intro r1 σ1 hr
  rw [hr.1, show r1 = bz (decide (0 ≤ xs ∧ xs ≤ 3)) from hr.2]
  clear hr σ1 r1
  refine rw_if hX (tgt := 14) (cnd := .eq) (off := 10) (by decide +kernel) (by decide) (fun h4 => ?_) (fun h4 => ?_)
  · replace h4 := of_decide_eq_false (zb_eqT h4)
    refine rw_go hX [(14, .bipush (-2))] (by decide +kernel) (Ps := []) (pc' := 16) (lv' := [(0, .ref 0), (1, .int xs), (2, .int xw)]) (st' := [.int (-(nI 2))]) (σ' := σ) rfl True.intro ?_
    exact rw_iret hX (by decide +kernel) (⟨by simp only [aFilm, eq_false h4, if_true, if_false, Bool.false_eq_true, and_self, and_true, true_and, and_false, false_and, oel_n, oel_s, decide_true, decide_false], by simp only [sFilm, eq_false h4, if_true, if_false, Bool.false_eq_true, and_self, and_true, true_and, and_false, false_and, oel_n, oel_s, decide_true, decide_false]⟩)
  · replace h4 := of_decide_eq_true (zb_eqF h4)
    obtain ⟨s, hs, rfl⟩ := rng (m := 3) (by omega) h4
    have hs : s < 4 := hs
    have hcs : (nI s).toNatClampNeg = s := nI_clamp (by omega)
    have hns := hsh s hs
    refine rw_go hX [(7, .iload_n 2)] (by decide +kernel) (Ps := []) (pc' := 8) (lv' := [(0, .ref 0), (1, .int (nI s)), (2, .int xw)]) (st' := [.int xw]) (σ' := σ) rfl True.intro ?_
    refine rw_callSi hX (as := [.int xw]) (rest := []) (c_X9_isWork _ _ _ (xw)) (by decide +kernel) msX9_isWork (Or.inl lk9_56) rfl (by decide) (Nat.le_of_ble_eq_true rfl) rfl ?_
    intro r1 σ1 hr
    rw [hr.1, show r1 = bz (decide (0 ≤ xw ∧ xw ≤ 4)) from hr.2]
    clear hr σ1 r1
    refine rw_if hX (tgt := 17) (cnd := .ne) (off := 6) (by decide +kernel) (by decide) (fun h11 => ?_) (fun h11 => ?_)
    · replace h11 := of_decide_eq_true (zb_neT h11)
      obtain ⟨w, hw, rfl⟩ := rng (m := 4) (by omega) h11
      have hw : w < 5 := hw
      have hcw : (nI w).toNatClampNeg = w := nI_clamp (by omega)
      refine rw_go hX [(17, .aload_n 0), (18, .iload_n 2)] (by decide +kernel) (Ps := []) (pc' := 19) (lv' := [(0, .ref 0), (1, .int (nI s)), (2, .int (nI w))]) (st' := [.int (nI w), .ref 0]) (σ' := σ) rfl True.intro ?_
      refine rw_callVi hX (as := [.int (nI w)]) (rest := []) (c_missing _ _ _ V w hV hv hw) (by decide +kernel) mvX9_isMissing lk9_78 (ci := 8) rfl rfl rfl (by decide) (Nat.le_of_ble_eq_true rfl) rfl ?_
      intro r1 σ1 hr
      rw [hr.1, show r1 = bz (decide (vS V w = 0)) from hr.2]
      clear hr σ1 r1
      refine rw_if hX (tgt := 28) (cnd := .eq) (off := 6) (by decide +kernel) (by decide) (fun h22 => ?_) (fun h22 => ?_)
      · replace h22 := of_decide_eq_false (zb_eqT h22)
        refine rw_go hX [(28, .aload_n 0), (29, .getfield 25), (32, .aload_n 0), (33, .getfield 12), (36, .iload_n 2)] (by decide +kernel) (Ps := []) (pc' := 37) (lv' := [(0, .ref 0), (1, .int (nI s)), (2, .int (nI w))]) (st' := [.int (nI w), .ref 1, .ref 22]) (σ' := σ) rfl True.intro ?_
        refine rw_callVv hX (as := [.ref 1, .int (nI w)]) (rest := []) (c_trace_1 _ _ _ V w hV hv hw) (by decide +kernel) mvX8_trace lk9_231 (ci := 7) rfl rfl rfl (by decide) (Nat.le_of_ble_eq_true rfl) rfl ?_
        intro τ1 ht9
        obtain ⟨⟨F, hS⟩, hTR, hD, hq⟩ := ht9
        have hL5 := lC_50 hv hw
        have hsn := spN_50 (s := sT V w (vR V 4)) hL5
        have hN20 : flN V w ≤ 20 := Nat.min_le_left _ _
        have hN2 : flN V w ≤ 2 * spN (sT V w (vR V 4)) (lC V w) := Nat.min_le_right _ _
        refine rw_go hX [(40, .bipush 20), (42, .iconst 2), (43, .aload_n 0), (44, .getfield 25), (47, .getfield 227), (50, .getfield 234)] (by decide +kernel) (Ps := []) (pc' := 53) (lv' := [(0, .ref 0), (1, .int (nI s)), (2, .int (nI w))]) (st' := [.int (τ1 53 0), .int (nI 2), .int (nI 20)]) (σ' := τ1) rfl True.intro ?_
        rw [show (τ1 53 0) = nI (spN (sT V w (vR V 4)) (lC V w)) from (by rw [hD.1])]
        refine rw_go hX [(53, .imul)] (by decide +kernel) (Ps := []) (pc' := 54) (lv' := [(0, .ref 0), (1, .int (nI s)), (2, .int (nI w))]) (st' := [.int (nI 2 * nI (spN (sT V w (vR V 4)) (lC V w))), .int (nI 20)]) (σ' := τ1) rfl True.intro ?_
        rw [show (nI 2 * nI (spN (sT V w (vR V 4)) (lC V w))) = nI (2 * spN (sT V w (vR V 4)) (lC V w)) from pk_mul _ _]
        refine rw_min hX (by decide +kernel) lk9_278 (Nat.le_of_ble_eq_true rfl) ?_
        rw [show (if nI (2 * spN (sT V w (vR V 4)) (lC V w)) < nI 20 then nI (2 * spN (sT V w (vR V 4)) (lC V w)) else nI 20) = nI (flN V w) from by rw [mn_min (by omega) (by omega)]; rfl]
        refine rw_go hX [(57, .istore_n 3), (58, .aload_n 0), (59, .getfield 32), (62, .iload_n 1), (63, .iconst 0), (64, .iload_n 3)] (by decide +kernel) (Ps := []) (pc' := 65) (lv' := [(0, .ref 0), (1, .int (nI s)), (2, .int (nI w)), (3, .int (nI (flN V w)))]) (st' := [.int (nI (flN V w)), .int (nI 0), .int (nI s), .ref 61]) (σ' := τ1) rfl True.intro ?_
        refine rw_callVv hX (as := [.int (nI s), .int (nI 0), .int (nI (flN V w))]) (rest := []) (c_shBecome _ _ _ s (flN V w) (nI 0) hs (by omega)) (by decide +kernel) mvX4_become lk9_283 (ci := 3) rfl rfl rfl (by decide) (Nat.le_of_ble_eq_true rfl) rfl ?_
        intro τ2 ht2
        have hk2 : ∀ k, k ≠ 62 → k ≠ 63 → k ≠ 64 → τ2 k = τ1 k := fun k h1 h2 h3 => by rw [ht2, sr_n _ _ h1, sw_ne _ _ _ h2, sw_ne _ _ _ h3]
        have e62 : τ2 62 = flR V σ s w 0 := by rw [ht2, sr_s, flR_0, hq 62 (by omega)]
        have e63 : τ2 63 = upd (σ 63) s (nI (flN V w)) := by rw [ht2, sr_n _ _ (by decide), sw_row, sw_ne _ _ _ (by decide), hq 63 (by omega)]
        have e64 : τ2 64 = upd (σ 64) s (nI 0) := by rw [ht2, sr_n _ _ (by decide), sw_ne _ _ _ (by decide), sw_row, hq 64 (by omega)]
        have hR2 : RD V w τ2 := RD_k (hS.1 w hw) fun k hk => hk2 k (fun z => by rw [z] at hk; revert hk; decide) (fun z => by rw [z] at hk; revert hk; decide) (fun z => by rw [z] at hk; revert hk; decide)
        have hD2 : DV (sT V w (vR V 4)) (lC V w) τ2 := by
          unfold DV
          rw [hk2 53 (by decide) (by decide) (by decide), hk2 56 (by decide) (by decide) (by decide), hk2 57 (by decide) (by decide) (by decide), hk2 58 (by decide) (by decide) (by decide), hk2 59 (by decide) (by decide) (by decide)]
          exact hD
        clear ht2
        refine rw_go hX [(68, .iconst 0), (69, .istore 4)] (by decide +kernel) (Ps := []) (pc' := 71) (lv' := [(0, .ref 0), (1, .int (nI s)), (2, .int (nI w)), (3, .int (nI (flN V w))), (4, .int (nI 0))]) (st' := []) (σ' := τ2) rfl True.intro ?_
        have L71 : ∀ (μ71 : Nat) (i : Nat), μ71 = flN V w - i → (i ≤ flN V w) → RW E G 6 5 (QI E G (fun r σ' => r = aFilm V (nI s) (nI w) ∧ sFilm V σ σ' (nI s) (nI w))) 71 [(0, .ref 0), (1, .int (nI s)), (2, .int (nI w)), (3, .int (nI (flN V w))), (4, .int (nI i))] [] (sr τ2 62 (flR V σ s w i)) := by
          intro μ71
          induction μ71 using Nat.strongRecOn with
          | ind μ71 ih71 =>
            intro i hμ71 hi
            have hR3 : RD V w (sr τ2 62 (flR V σ s w i)) := RD_k hR2 fun k hk => sr_n _ _ (fun z => by rw [z] at hk; revert hk; decide)
            have hD3 : DV (sT V w (vR V 4)) (lC V w) (sr τ2 62 (flR V σ s w i)) := by
              unfold DV
              rw [sr_n _ _ (show 53 ≠ 62 by decide), sr_n _ _ (show 56 ≠ 62 by decide), sr_n _ _ (show 57 ≠ 62 by decide), sr_n _ _ (show 58 ≠ 62 by decide), sr_n _ _ (show 59 ≠ 62 by decide)]
              exact hD2
            refine rw_go hX [(71, .iload 4), (73, .iload_n 3)] (by decide +kernel) (Ps := []) (pc' := 74) (lv' := [(0, .ref 0), (1, .int (nI s)), (2, .int (nI w)), (3, .int (nI (flN V w))), (4, .int (nI i))]) (st' := [.int (nI (flN V w)), .int (nI i)]) (σ' := sr τ2 62 (flR V σ s w i)) rfl True.intro ?_
            refine rw_icmp hX (tgt := 103) (cnd := .ge) (off := 29) (by decide +kernel) (by decide) (fun h74 => ?_) (fun h74 => ?_)
            · replace h74 := c2_geT h74
              have e : i = flN V w := by omega
              refine rw_go hX [(103, .iload_n 3)] (by decide +kernel) (Ps := []) (pc' := 104) (lv' := [(0, .ref 0), (1, .int (nI s)), (2, .int (nI w)), (3, .int (nI (flN V w))), (4, .int (nI i))]) (st' := [.int (nI (flN V w))]) (σ' := sr τ2 62 (flR V σ s w i)) rfl True.intro ?_
              exact rw_iret hX (by decide +kernel) (⟨by simp only [aFilm, h4, h11, h22, hcs, hcw, if_true, if_false, Bool.false_eq_true, and_self, and_true, true_and, and_false, false_and, oel_n, oel_s, decide_true, decide_false], by
  simp only [sFilm, h4, h11, h22, hcs, hcw, if_true, if_false, Bool.false_eq_true, and_self, and_true, true_and, and_false, false_and, oel_n, oel_s, decide_true, decide_false]
  rw [e]
  refine ⟨fun k hk h1 h2 h3 => ?_, by rw [sr_n _ _ (by decide)]; exact e63, by rw [sr_n _ _ (by decide)]; exact e64, fun j => by rw [sr_s]; rfl⟩
  rw [sr_n _ _ h1, hk2 k h1 h2 h3]
  exact hq k (by omega)⟩)
            · replace h74 := c2_geF h74
              refine rw_go hX [(77, .aload_n 0), (78, .getfield 32), (81, .iload_n 1), (82, .iload 4), (84, .aload_n 0), (85, .getfield 25), (88, .iload_n 2), (89, .iload 4)] (by decide +kernel) (Ps := []) (pc' := 91) (lv' := [(0, .ref 0), (1, .int (nI s)), (2, .int (nI w)), (3, .int (nI (flN V w))), (4, .int (nI i))]) (st' := [.int (nI i), .int (nI w), .ref 22, .int (nI i), .int (nI s), .ref 61]) (σ' := sr τ2 62 (flR V σ s w i)) rfl True.intro ?_
              refine rw_callVi hX (as := [.int (nI w), .int (nI i)]) (rest := [.int (nI i), .int (nI s), .ref 61]) (c_toldPlace _ _ _ V (sT V w (vR V 4)) w i hv hw hD3 hR3 (by omega)) (by decide +kernel) mvX8_toldPlace lk9_240 (ci := 7) rfl rfl rfl (by decide) (Nat.le_of_ble_eq_true rfl) rfl ?_
              intro r1 σ1 hr
              rw [hr.1, show r1 = flT V w i from hr.2.trans rfl]
              clear hr σ1 r1
              refine rw_callVv hX (as := [.int (nI s), .int (nI i), .int (flT V w i)]) (rest := []) (c_setItem _ _ _ s i (flN V w) (flT V w i) hs (by rw [sr_n _ _ (by decide), e63, upd_s]) (by omega) (by omega)) (by decide +kernel) mvX4_setItem lk9_285 (ci := 3) rfl rfl rfl (by decide) (Nat.le_of_ble_eq_true rfl) rfl ?_
              intro σ1 hr
              rw [sr_n _ _ (show 64 ≠ 62 by decide), e64, upd_s, if_pos nI_0, sw_sr] at hr
              rw [show (flT V w i &&& nI 255) = flT V w i from and255n (by
                have h1 := PL_lt V w (tPi_lt (s := sT V w (vR V 4)) (L := lC V w) (i := i) (by omega))
                have h2 := wf_s50 hv hw
                omega)] at hr
              rw [hr]
              clear hr σ1
              refine rw_go hX [(97, .iinc 4 1), (100, .goto (-29))] (by decide +kernel) (Ps := []) (pc' := 71) (lv' := [(0, .ref 0), (1, .int (nI s)), (2, .int (nI w)), (3, .int (nI (flN V w))), (4, .int (nI i + nI 1))]) (st' := []) (σ' := sr τ2 62 (upd (flR V σ s w i) (40 * s + i) (flT V w i))) rfl True.intro ?_
              refine rw_lsub (ks := [0, 1, 2, 3, 4]) (lv' := [(0, .ref 0), (1, .int (nI s)), (2, .int (nI w)), (3, .int (nI (flN V w))), (4, .int (nI i + nI 1))]) rfl ?_
              rw [nI_add]
              have q := ih71 (flN V w - (i + 1)) (by omega) (i + 1) rfl (by omega)
              rw [← flR_1] at q
              exact q
        refine rw_lsub (ks := [0, 1, 2, 3, 4]) (lv' := [(0, .ref 0), (1, .int (nI s)), (2, .int (nI w)), (3, .int (nI (flN V w))), (4, .int (nI 0))]) rfl ?_
        have q := L71 (flN V w) 0 rfl (by omega)
        rw [← e62, sr_id] at q
        exact q
      · replace h22 := of_decide_eq_true (zb_eqF h22)
        refine rw_go hX [(25, .bipush (-11))] (by decide +kernel) (Ps := []) (pc' := 27) (lv' := [(0, .ref 0), (1, .int (nI s)), (2, .int (nI w))]) (st' := [.int (-(nI 11))]) (σ' := σ) rfl True.intro ?_
        exact rw_iret hX (by decide +kernel) (⟨by simp only [aFilm, eq_true h4, hcs, eq_true h11, hcw, eq_true h22, if_true, if_false, Bool.false_eq_true, and_self, and_true, true_and, and_false, false_and, oel_n, oel_s, decide_true, decide_false], by simp only [sFilm, eq_true h4, hcs, eq_true h11, hcw, eq_true h22, if_true, if_false, Bool.false_eq_true, and_self, and_true, true_and, and_false, false_and, oel_n, oel_s, decide_true, decide_false]⟩)
    · replace h11 := of_decide_eq_false (zb_neF h11)
      refine rw_go hX [(14, .bipush (-2))] (by decide +kernel) (Ps := []) (pc' := 16) (lv' := [(0, .ref 0), (1, .int (nI s)), (2, .int xw)]) (st' := [.int (-(nI 2))]) (σ' := σ) rfl True.intro ?_
      exact rw_iret hX (by decide +kernel) (⟨by simp only [aFilm, eq_true h4, hcs, eq_false h11, if_true, if_false, Bool.false_eq_true, and_self, and_true, true_and, and_false, false_and, oel_n, oel_s, decide_true, decide_false], by simp only [sFilm, eq_true h4, hcs, eq_false h11, if_true, if_false, Bool.false_eq_true, and_self, and_true, true_and, and_false, false_and, oel_n, oel_s, decide_true, decide_false]⟩)
theorem tkM_3 (a b : Nat) (σ : Mm) (h : b + 2 ≠ a + 2) : tkM a b σ (b + 2) = σ (a + 2) := by
  unfold tkM
  rw [sr_n _ _ (by omega), sr_n _ _ (by omega), sr_n _ _ (by omega), sr_s]
set_option maxRecDepth 20000 in
set_option maxHeartbeats 4000000 in
theorem f_image (l : Launch) (G : Gl) (σ : Mm) (V : Mm) (hV : vw σ 2 = V) (hv : wf V) : AMi l G 2 mX9_image [.ref 0] σ (fun r σ' => r = nI (thN V) ∧ σ' = sw (tkM 1 8 σ) 0 7 (nI 1)) := by
  refine rw_inI 9 (by decide +kernel) rfl rfl ?_
  intro E hE hX
  subst hE
  obtain ⟨-, htk⟩ := tkM_vw (a := 1) (b := 8) (by decide) hV
  refine rw_go hX [(0, .aload_n 0), (1, .getfield 16), (4, .aload_n 0), (5, .getfield 12)] (by decide +kernel) (Ps := []) (pc' := 8) (lv' := [(0, .ref 0)]) (st' := [.ref 1, .ref 8]) (σ' := σ) rfl True.intro ?_
  refine rw_callVv hX (as := [.ref 1]) (rest := []) (c_take_8_1 _ _ _) (by decide +kernel) mvX5_take lk9_258 (ci := 4) rfl rfl rfl (by decide) (Nat.le_of_ble_eq_true rfl) rfl ?_
  intro σ1 hr
  rw [hr]
  clear hr σ1
  refine rw_go hX [(11, .aload_n 0), (12, .iconst 1), (13, .putfield 44), (16, .aload_n 0), (17, .getfield 12)] (by decide +kernel) (Ps := [(nI 1) = 0 ∨ (nI 1) = 1]) (pc' := 20) (lv' := [(0, .ref 0)]) (st' := [.ref 1]) (σ' := sw (tkM 1 8 σ) 0 7 (nI 1)) rfl (Or.inr rfl) ?_
  refine rw_callVi hX (as := []) (rest := []) (c_worksThere _ _ _ (vS V) (fun w hw => ⟨by rw [sw_ne _ _ _ (by decide), htk 3 (by decide)]; exact (congrFun (vw_at hV 1 (by omega)) w).trans (wf_s hv hw), wf_s50 hv hw⟩)) (by decide +kernel) mvX5_worksThere lk9_288 (ci := 4) rfl rfl rfl (by decide) (Nat.le_of_ble_eq_true rfl) rfl ?_
  intro r1 σ1 hr
  rw [hr.1, show r1 = nI (thN V) from hr.2]
  clear hr σ1 r1
  exact rw_iret hX (by decide +kernel) (⟨rfl, rfl⟩)
set_option maxRecDepth 20000 in
set_option maxHeartbeats 4000000 in
theorem f_back (l : Launch) (G : Gl) (σ : Mm) (W : Mm) (b : Bool) (hW : vw σ 9 = W) (hv : b = true → wf W) (hb : σ 0 7 = bz b) : AMi l G 2 mX9_back [.ref 0] σ (fun r σ' => r = (if b = true then nI (thN W) else -(nI 3)) ∧ σ' = (if b = true then tkM 8 1 σ else σ)) := by
  refine rw_inI 9 (by decide +kernel) rfl rfl ?_
  intro E hE hX
  subst hE
  refine rw_go hX [(0, .aload_n 0), (1, .getfield 44)] (by decide +kernel) (Ps := []) (pc' := 4) (lv' := [(0, .ref 0)]) (st' := [.int (σ 0 7)]) (σ' := σ) rfl True.intro ?_
  rw [show (σ 0 7) = bz b from (by rw [hb])]
  refine rw_if hX (tgt := 10) (cnd := .ne) (off := 6) (by decide +kernel) (by decide) (fun h4 => ?_) (fun h4 => ?_)
  · replace h4 := zb_neT h4
    have hvW := hv h4
    obtain ⟨htk, -⟩ := tkM_vw (a := 8) (b := 1) (by decide) hW
    refine rw_go hX [(10, .aload_n 0), (11, .getfield 12), (14, .aload_n 0), (15, .getfield 16)] (by decide +kernel) (Ps := []) (pc' := 18) (lv' := [(0, .ref 0)]) (st' := [.ref 8, .ref 1]) (σ' := σ) rfl True.intro ?_
    refine rw_callVv hX (as := [.ref 8]) (rest := []) (c_take_1_8 _ _ _) (by decide +kernel) mvX5_take lk9_258 (ci := 4) rfl rfl rfl (by decide) (Nat.le_of_ble_eq_true rfl) rfl ?_
    intro σ1 hr
    rw [hr]
    clear hr σ1
    refine rw_go hX [(21, .aload_n 0), (22, .getfield 12)] (by decide +kernel) (Ps := []) (pc' := 25) (lv' := [(0, .ref 0)]) (st' := [.ref 1]) (σ' := tkM 8 1 σ) rfl True.intro ?_
    refine rw_callVi hX (as := []) (rest := []) (c_worksThere _ _ _ (vS W) (fun w hw => ⟨(congrFun (vw_at htk 1 (by omega)) w).trans (wf_s hvW hw), wf_s50 hvW hw⟩)) (by decide +kernel) mvX5_worksThere lk9_288 (ci := 4) rfl rfl rfl (by decide) (Nat.le_of_ble_eq_true rfl) rfl ?_
    intro r1 σ1 hr
    rw [hr.1, show r1 = nI (thN W) from hr.2]
    clear hr σ1 r1
    exact rw_iret hX (by decide +kernel) (by rw [h4]; exact ⟨rfl, rfl⟩)
  · replace h4 := zb_neF h4
    refine rw_go hX [(7, .bipush (-3))] (by decide +kernel) (Ps := []) (pc' := 9) (lv' := [(0, .ref 0)]) (st' := [.int (-(nI 3))]) (σ' := σ) rfl True.intro ?_
    exact rw_iret hX (by decide +kernel) (by rw [h4]; exact ⟨rfl, rfl⟩)
set_option maxRecDepth 20000 in
set_option maxHeartbeats 4000000 in
theorem f_count (l : Launch) (G : Gl) (σ : Mm) (V : Mm) (t : Nat) (xq : Int32) (hV : vw σ 2 = V) (hv : wf V) (ht : σ 0 6 = nI t) : AMi l G 5 mX9_count [.ref 0, .int xq] σ (fun r σ' => r = aCount V t xq ∧ XQ σ σ') := by
  refine rw_inI 9 (by decide +kernel) rfl rfl ?_
  intro E hE hX
  subst hE
  refine rw_go hX [(0, .iload_n 1)] (by decide +kernel) (Ps := []) (pc' := 1) (lv' := [(0, .ref 0), (1, .int xq)]) (st' := [.int xq]) (σ' := σ) rfl True.intro ?_
  rcases cnt6 xq with rfl | rfl | rfl | rfl | rfl | rfl | hout
  · skip
    refine rw_tabIn hX (tgt := 40) (df := 132) (lo := 0) (hi := 5) (offs := #[39, 47, 58, 83, 105, 127]) (len := 39) (off := 39) (by decide +kernel) (by decide +kernel) (by decide +kernel) (by decide +kernel) (by decide) ?_
    refine rw_go hX [(40, .aload_n 0), (41, .getfield 12)] (by decide +kernel) (Ps := []) (pc' := 44) (lv' := [(0, .ref 0), (1, .int (nI 0))]) (st' := [.ref 1]) (σ' := σ) rfl True.intro ?_
    refine rw_callVi hX (as := []) (rest := []) (c_worksThere _ _ _ (vS V) (fun w hw => ⟨(congrFun (vw_at hV 1 (by omega)) w).trans (wf_s hv hw), wf_s50 hv hw⟩)) (by decide +kernel) mvX5_worksThere lk9_288 (ci := 4) rfl rfl rfl (by decide) (Nat.le_of_ble_eq_true rfl) rfl ?_
    intro r1 σ1 hr
    rw [hr.1, show r1 = nI (thN V) from hr.2]
    clear hr σ1 r1
    exact rw_iret hX (by decide +kernel) (⟨by unfold aCount; rw [if_pos rfl], XQ_rfl _⟩)
  · skip
    refine rw_tabIn hX (tgt := 48) (df := 132) (lo := 0) (hi := 5) (offs := #[39, 47, 58, 83, 105, 127]) (len := 39) (off := 47) (by decide +kernel) (by decide +kernel) (by decide +kernel) (by decide +kernel) (by decide) ?_
    refine rw_go hX [(48, .aload_n 0), (49, .getfield 12), (52, .getfield 291)] (by decide +kernel) (Ps := []) (pc' := 55) (lv' := [(0, .ref 0), (1, .int (nI 1))]) (st' := [.ref 3]) (σ' := σ) rfl True.intro ?_
    refine rw_callSi hX (as := [.ref 3]) (rest := []) (c_sumOf _ _ _ 3 (vS V) (by decide +kernel) (fun w hw => ⟨(congrFun (vw_at hV 1 (by omega)) w).trans (wf_s hv hw), wf_s50 hv hw⟩)) (by decide +kernel) msX9_sumOf (Or.inl lk9_294) rfl (by decide) (Nat.le_of_ble_eq_true rfl) rfl ?_
    intro r1 σ1 hr
    rw [hr.1, show r1 = nI (sN (vS V) 5) from hr.2]
    clear hr σ1 r1
    exact rw_iret hX (by decide +kernel) (⟨by unfold aCount; rw [if_neg (by decide +kernel), if_pos rfl], XQ_rfl _⟩)
  · skip
    refine rw_tabIn hX (tgt := 59) (df := 132) (lo := 0) (hi := 5) (offs := #[39, 47, 58, 83, 105, 127]) (len := 39) (off := 58) (by decide +kernel) (by decide +kernel) (by decide +kernel) (by decide +kernel) (by decide) ?_
    refine rw_go hX [(59, .aload_n 0), (60, .getfield 25), (63, .aload_n 0), (64, .getfield 12)] (by decide +kernel) (Ps := []) (pc' := 67) (lv' := [(0, .ref 0), (1, .int (nI 2))]) (st' := [.ref 1, .ref 22]) (σ' := σ) rfl True.intro ?_
    refine rw_callVv hX (as := [.ref 1]) (rest := []) (c_look_1 _ _ _ V hV hv) (by decide +kernel) mvX8_look lk9_152 (ci := 7) rfl rfl rfl (by decide) (Nat.le_of_ble_eq_true rfl) rfl ?_
    intro τ1 ht1
    obtain ⟨F, hS, h0⟩ := LK_SN ht1
    have hq1 := XQ_S (LK_SQ ht1)
    have hF5 := hS.2.1
    refine rw_go hX [(70, .aload_n 0), (71, .getfield 25), (74, .getfield 105), (77, .getfield 298)] (by decide +kernel) (Ps := []) (pc' := 80) (lv' := [(0, .ref 0), (1, .int (nI 2))]) (st' := [.ref 24]) (σ' := τ1) rfl True.intro ?_
    refine rw_callSi hX (as := [.ref 24]) (rest := []) (c_sumOf _ _ _ 24 (lC V) (by decide +kernel) (fun w hw => ⟨(hS.1 w hw).1.1, lC_50 hv hw⟩)) (by decide +kernel) msX9_sumOf (Or.inl lk9_294) rfl (by decide) (Nat.le_of_ble_eq_true rfl) rfl ?_
    intro r1 σ1 hr
    rw [hr.1, show r1 = nI (sN (lC V) 5) from hr.2]
    clear hr σ1 r1
    exact rw_iret hX (by decide +kernel) (⟨by unfold aCount; rw [if_neg (by decide +kernel), if_neg (by decide +kernel), if_pos rfl], hq1⟩)
  · skip
    refine rw_tabIn hX (tgt := 84) (df := 132) (lo := 0) (hi := 5) (offs := #[39, 47, 58, 83, 105, 127]) (len := 39) (off := 83) (by decide +kernel) (by decide +kernel) (by decide +kernel) (by decide +kernel) (by decide) ?_
    refine rw_go hX [(84, .aload_n 0), (85, .getfield 25), (88, .aload_n 0), (89, .getfield 12)] (by decide +kernel) (Ps := []) (pc' := 92) (lv' := [(0, .ref 0), (1, .int (nI 3))]) (st' := [.ref 1, .ref 22]) (σ' := σ) rfl True.intro ?_
    refine rw_callVv hX (as := [.ref 1]) (rest := []) (c_look_1 _ _ _ V hV hv) (by decide +kernel) mvX8_look lk9_152 (ci := 7) rfl rfl rfl (by decide) (Nat.le_of_ble_eq_true rfl) rfl ?_
    intro τ1 ht1
    obtain ⟨F, hS, h0⟩ := LK_SN ht1
    have hq1 := XQ_S (LK_SQ ht1)
    have hF5 := hS.2.1
    refine rw_go hX [(95, .aload_n 0), (96, .getfield 25), (99, .getfield 105)] (by decide +kernel) (Ps := []) (pc' := 102) (lv' := [(0, .ref 0), (1, .int (nI 3))]) (st' := [.ref 23]) (σ' := τ1) rfl True.intro ?_
    refine rw_callVi hX (as := []) (rest := []) (c_printsOfAll _ _ _ (gC V) (fun w hw => ⟨(hS.1 w hw).2.1, by have := gC_50 hv hw; omega⟩)) (by decide +kernel) mvX3_printsOfAll lk9_301 (ci := 2) rfl rfl rfl (by decide) (Nat.le_of_ble_eq_true rfl) rfl ?_
    intro r1 σ1 hr
    rw [hr.1, show r1 = nI (sN (fun w => pNs V w (gC V w)) 5) from hr.2.trans (by rw [sN_e (fun w hw => pC_e (hS.1 w hw) (Nat.le_refl _))])]
    clear hr σ1 r1
    exact rw_iret hX (by decide +kernel) (⟨by unfold aCount; rw [if_neg (by decide +kernel), if_neg (by decide +kernel), if_neg (by decide +kernel), if_pos rfl], hq1⟩)
  · skip
    refine rw_tabIn hX (tgt := 106) (df := 132) (lo := 0) (hi := 5) (offs := #[39, 47, 58, 83, 105, 127]) (len := 39) (off := 105) (by decide +kernel) (by decide +kernel) (by decide +kernel) (by decide +kernel) (by decide) ?_
    refine rw_go hX [(106, .aload_n 0), (107, .getfield 25), (110, .aload_n 0), (111, .getfield 12)] (by decide +kernel) (Ps := []) (pc' := 114) (lv' := [(0, .ref 0), (1, .int (nI 4))]) (st' := [.ref 1, .ref 22]) (σ' := σ) rfl True.intro ?_
    refine rw_callVv hX (as := [.ref 1]) (rest := []) (c_look_1 _ _ _ V hV hv) (by decide +kernel) mvX8_look lk9_152 (ci := 7) rfl rfl rfl (by decide) (Nat.le_of_ble_eq_true rfl) rfl ?_
    intro τ1 ht1
    obtain ⟨F, hS, h0⟩ := LK_SN ht1
    have hq1 := XQ_S (LK_SQ ht1)
    have hF5 := hS.2.1
    refine rw_go hX [(117, .aload_n 0), (118, .getfield 25), (121, .getfield 165), (124, .getfield 304)] (by decide +kernel) (Ps := []) (pc' := 127) (lv' := [(0, .ref 0), (1, .int (nI 4))]) (st' := [.int (τ1 31 0)]) (σ' := τ1) rfl True.intro ?_
    rw [show (τ1 31 0) = nI (UG V) from (by rw [hS.2.2.1, hS.2.2.2.1])]
    exact rw_iret hX (by decide +kernel) (⟨by unfold aCount; rw [if_neg (by decide +kernel), if_neg (by decide +kernel), if_neg (by decide +kernel), if_neg (by decide +kernel), if_pos rfl], hq1⟩)
  · skip
    refine rw_tabIn hX (tgt := 128) (df := 132) (lo := 0) (hi := 5) (offs := #[39, 47, 58, 83, 105, 127]) (len := 39) (off := 127) (by decide +kernel) (by decide +kernel) (by decide +kernel) (by decide +kernel) (by decide) ?_
    refine rw_go hX [(128, .aload_n 0), (129, .getfield 40)] (by decide +kernel) (Ps := []) (pc' := 132) (lv' := [(0, .ref 0), (1, .int (nI 5))]) (st' := [.int (σ 0 6)]) (σ' := σ) rfl True.intro ?_
    rw [show (σ 0 6) = nI t from (by rw [ht])]
    exact rw_iret hX (by decide +kernel) (⟨by unfold aCount; rw [if_neg (by decide +kernel), if_neg (by decide +kernel), if_neg (by decide +kernel), if_neg (by decide +kernel), if_neg (by decide +kernel), if_pos rfl], XQ_rfl _⟩)
  · skip
    refine rw_tabOut hX (tgt := 133) (df := 132) (lo := 0) (hi := 5) (offs := #[39, 47, 58, 83, 105, 127]) (len := 39) (by decide +kernel) (hout) (by decide) ?_
    refine rw_go hX [(133, .bipush (-2))] (by decide +kernel) (Ps := []) (pc' := 135) (lv' := [(0, .ref 0), (1, .int xq)]) (st' := [.int (-(nI 2))]) (σ' := σ) rfl True.intro ?_
    exact rw_iret hX (by decide +kernel) (⟨by unfold aCount; rw [if_neg (cnt6n hout (show 0 < 6 by omega)), if_neg (cnt6n hout (show 1 < 6 by omega)), if_neg (cnt6n hout (show 2 < 6 by omega)), if_neg (cnt6n hout (show 3 < 6 by omega)), if_neg (cnt6n hout (show 4 < 6 by omega)), if_neg (cnt6n hout (show 5 < 6 by omega))], XQ_rfl _⟩)
set_option maxRecDepth 20000 in
set_option maxHeartbeats 4000000 in
theorem f_sheet (l : Launch) (G : Gl) (σ : Mm) (n : Nat → Nat) (xs xq xn : Int32) (hsh : ∀ s, s < 4 → σ 63 s = nI (n s) ∧ n s ≤ 40) : AMi l G 3 mX9_sheet [.ref 0, .int xs, .int xq, .int xn] σ (fun r σ' => r = aSheet xs xq xn ∧ σ' = sSheet σ xs xq xn) := by
  refine rw_inI 9 (by decide +kernel) rfl rfl ?_
  intro E hE hX
  subst hE
  refine rw_go hX [(0, .iload_n 1)] (by decide +kernel) (Ps := []) (pc' := 1) (lv' := [(0, .ref 0), (1, .int xs), (2, .int xq), (3, .int xn)]) (st' := [.int xs]) (σ' := σ) rfl True.intro ?_
  refine rw_callSi hX (as := [.int xs]) (rest := []) (c_X9_isSheet _ _ _ (xs)) (by decide +kernel) msX9_isSheet (Or.inl lk9_264) rfl (by decide) (Nat.le_of_ble_eq_true rfl) rfl ?_
  intro r1 σ1 hr
  rw [hr.1, show r1 = bz (decide (0 ≤ xs ∧ xs ≤ 3)) from hr.2]
  clear hr σ1 r1
  refine rw_if hX (tgt := 17) (cnd := .eq) (off := 13) (by decide +kernel) (by decide) (fun h4 => ?_) (fun h4 => ?_)
  · replace h4 := of_decide_eq_false (zb_eqT h4)
    refine rw_go hX [(17, .bipush (-2))] (by decide +kernel) (Ps := []) (pc' := 19) (lv' := [(0, .ref 0), (1, .int xs), (2, .int xq), (3, .int xn)]) (st' := [.int (-(nI 2))]) (σ' := σ) rfl True.intro ?_
    exact rw_iret hX (by decide +kernel) (⟨by simp only [aSheet, eq_false h4, if_true, if_false, Bool.false_eq_true, and_self, and_true, true_and, and_false, false_and] <;> rfl, by simp only [sSheet, eq_false h4, if_true, if_false, Bool.false_eq_true, and_self, and_true, true_and, and_false, false_and] <;> rfl⟩)
  · replace h4 := of_decide_eq_true (zb_eqF h4)
    obtain ⟨s, hs, rfl⟩ := rng (m := 3) (by omega) h4
    have hs : s < 4 := hs
    have hcs : (nI s).toNatClampNeg = s := nI_clamp (by omega)
    have hns := hsh s hs
    refine rw_go hX [(7, .iload_n 2), (8, .iconst (-1))] (by decide +kernel) (Ps := []) (pc' := 9) (lv' := [(0, .ref 0), (1, .int (nI s)), (2, .int xq), (3, .int xn)]) (st' := [.int (-(nI 1)), .int xq]) (σ' := σ) rfl True.intro ?_
    refine rw_icmp hX (tgt := 17) (cnd := .lt) (off := 8) (by decide +kernel) (by decide) (fun h9 => ?_) (fun h9 => ?_)
    · replace h9 : (xq < (-(nI 1))) := h9
      refine rw_go hX [(17, .bipush (-2))] (by decide +kernel) (Ps := []) (pc' := 19) (lv' := [(0, .ref 0), (1, .int (nI s)), (2, .int xq), (3, .int xn)]) (st' := [.int (-(nI 2))]) (σ' := σ) rfl True.intro ?_
      exact rw_iret hX (by decide +kernel) (⟨by simp only [aSheet, eq_true h4, hcs, eq_true h9, if_true, if_false, Bool.false_eq_true, and_self, and_true, true_and, and_false, false_and] <;> rfl, by simp only [sSheet, eq_true h4, hcs, eq_true h9, if_true, if_false, Bool.false_eq_true, and_self, and_true, true_and, and_false, false_and] <;> rfl⟩)
    · replace h9 : ¬ (xq < (-(nI 1))) := h9
      refine rw_go hX [(12, .iload_n 2), (13, .iconst 1)] (by decide +kernel) (Ps := []) (pc' := 14) (lv' := [(0, .ref 0), (1, .int (nI s)), (2, .int xq), (3, .int xn)]) (st' := [.int (nI 1), .int xq]) (σ' := σ) rfl True.intro ?_
      refine rw_icmp hX (tgt := 20) (cnd := .le) (off := 6) (by decide +kernel) (by decide) (fun h14 => ?_) (fun h14 => ?_)
      · replace h14 : (xq ≤ nI 1) := h14
        refine rw_go hX [(20, .iload_n 2), (21, .iconst (-1))] (by decide +kernel) (Ps := []) (pc' := 22) (lv' := [(0, .ref 0), (1, .int (nI s)), (2, .int xq), (3, .int xn)]) (st' := [.int (-(nI 1)), .int xq]) (σ' := σ) rfl True.intro ?_
        refine rw_icmp hX (tgt := 37) (cnd := .ne) (off := 15) (by decide +kernel) (by decide) (fun h22 => ?_) (fun h22 => ?_)
        · replace h22 : (xq ≠ (-(nI 1))) := h22
          refine rw_go hX [(37, .iload_n 3), (38, .bipush 40)] (by decide +kernel) (Ps := []) (pc' := 40) (lv' := [(0, .ref 0), (1, .int (nI s)), (2, .int xq), (3, .int xn)]) (st' := [.int (nI 40), .int xn]) (σ' := σ) rfl True.intro ?_
          refine rw_icmp hX (tgt := 46) (cnd := .le) (off := 6) (by decide +kernel) (by decide) (fun h40 => ?_) (fun h40 => ?_)
          · replace h40 : (xn ≤ nI 40) := h40
            refine rw_go hX [(46, .iload_n 3)] (by decide +kernel) (Ps := []) (pc' := 47) (lv' := [(0, .ref 0), (1, .int (nI s)), (2, .int xq), (3, .int xn)]) (st' := [.int xn]) (σ' := σ) rfl True.intro ?_
            refine rw_if hX (tgt := 53) (cnd := .ge) (off := 6) (by decide +kernel) (by decide) (fun h47 => ?_) (fun h47 => ?_)
            · replace h47 : (xn ≥ 0) := h47
              obtain ⟨m, hm, rfl⟩ := rng (m := 40) (by omega) ⟨by exact h47, h40⟩
              have hcm : (nI m).toNatClampNeg = m := nI_clamp (by omega)
              have hm0 : ¬ nI m < 0 := nI_pos (by omega)
              refine rw_go hX [(53, .aload_n 0), (54, .getfield 32), (57, .iload_n 1), (58, .iload_n 2), (59, .iload_n 3)] (by decide +kernel) (Ps := []) (pc' := 60) (lv' := [(0, .ref 0), (1, .int (nI s)), (2, .int xq), (3, .int (nI m))]) (st' := [.int (nI m), .int xq, .int (nI s), .ref 61]) (σ' := σ) rfl True.intro ?_
              refine rw_callVv hX (as := [.int (nI s), .int xq, .int (nI m)]) (rest := []) (c_shBecome _ _ _ s m xq hs (by omega)) (by decide +kernel) mvX4_become lk9_283 (ci := 3) rfl rfl rfl (by decide) (Nat.le_of_ble_eq_true rfl) rfl ?_
              intro σ1 hr
              rw [hr]
              clear hr σ1
              refine rw_go hX [(63, .iconst 1)] (by decide +kernel) (Ps := []) (pc' := 64) (lv' := [(0, .ref 0), (1, .int (nI s)), (2, .int xq), (3, .int (nI m))]) (st' := [.int (nI 1)]) (σ' := bcS σ s xq m) rfl True.intro ?_
              exact rw_iret hX (by decide +kernel) (⟨by simp only [aSheet, eq_true h4, hcs, eq_false h9, eq_true h14, eq_false h22, eq_true h40, eq_true h47, hcm, hm0, if_true, if_false, Bool.false_eq_true, and_self, and_true, true_and, and_false, false_and] <;> rfl, by simp only [sSheet, eq_true h4, hcs, eq_false h9, eq_true h14, eq_false h22, eq_true h40, eq_true h47, hcm, hm0, if_true, if_false, Bool.false_eq_true, and_self, and_true, true_and, and_false, false_and] <;> rfl⟩)
            · replace h47 : ¬ (xn ≥ 0) := h47
              have hm0 : xn < 0 := Int32.not_le.mp h47
              refine rw_go hX [(50, .bipush (-14))] (by decide +kernel) (Ps := []) (pc' := 52) (lv' := [(0, .ref 0), (1, .int (nI s)), (2, .int xq), (3, .int xn)]) (st' := [.int (-(nI 14))]) (σ' := σ) rfl True.intro ?_
              exact rw_iret hX (by decide +kernel) (⟨by simp only [aSheet, eq_true h4, hcs, eq_false h9, eq_true h14, eq_false h22, eq_true h40, eq_false h47, hm0, if_true, if_false, Bool.false_eq_true, and_self, and_true, true_and, and_false, false_and] <;> rfl, by simp only [sSheet, eq_true h4, hcs, eq_false h9, eq_true h14, eq_false h22, eq_true h40, eq_false h47, hm0, if_true, if_false, Bool.false_eq_true, and_self, and_true, true_and, and_false, false_and] <;> rfl⟩)
          · replace h40 : ¬ (xn ≤ nI 40) := h40
            refine rw_go hX [(43, .bipush (-2))] (by decide +kernel) (Ps := []) (pc' := 45) (lv' := [(0, .ref 0), (1, .int (nI s)), (2, .int xq), (3, .int xn)]) (st' := [.int (-(nI 2))]) (σ' := σ) rfl True.intro ?_
            exact rw_iret hX (by decide +kernel) (⟨by simp only [aSheet, eq_true h4, hcs, eq_false h9, eq_true h14, eq_false h22, eq_false h40, if_true, if_false, Bool.false_eq_true, and_self, and_true, true_and, and_false, false_and] <;> rfl, by simp only [sSheet, eq_true h4, hcs, eq_false h9, eq_true h14, eq_false h22, eq_false h40, if_true, if_false, Bool.false_eq_true, and_self, and_true, true_and, and_false, false_and] <;> rfl⟩)
        · replace h22 : xq = (-(nI 1)) := Classical.not_not.mp h22
          refine rw_go hX [(25, .aload_n 0), (26, .getfield 32), (29, .iload_n 1), (30, .iconst (-1)), (31, .iconst 0)] (by decide +kernel) (Ps := []) (pc' := 32) (lv' := [(0, .ref 0), (1, .int (nI s)), (2, .int xq), (3, .int xn)]) (st' := [.int (nI 0), .int (-(nI 1)), .int (nI s), .ref 61]) (σ' := σ) rfl True.intro ?_
          refine rw_callVv hX (as := [.int (nI s), .int (-(nI 1)), .int (nI 0)]) (rest := []) (c_shBecome _ _ _ s 0 (-(nI 1)) hs (by omega)) (by decide +kernel) mvX4_become lk9_283 (ci := 3) rfl rfl rfl (by decide) (Nat.le_of_ble_eq_true rfl) rfl ?_
          intro σ1 hr
          rw [hr]
          clear hr σ1
          refine rw_go hX [(35, .iconst 1)] (by decide +kernel) (Ps := []) (pc' := 36) (lv' := [(0, .ref 0), (1, .int (nI s)), (2, .int xq), (3, .int xn)]) (st' := [.int (nI 1)]) (σ' := bcS σ s (-(nI 1)) 0) rfl True.intro ?_
          exact rw_iret hX (by decide +kernel) (⟨by simp only [aSheet, eq_true h4, hcs, eq_false h9, eq_true h14, eq_true h22, if_true, if_false, Bool.false_eq_true, and_self, and_true, true_and, and_false, false_and] <;> rfl, by simp only [sSheet, eq_true h4, hcs, eq_false h9, eq_true h14, eq_true h22, if_true, if_false, Bool.false_eq_true, and_self, and_true, true_and, and_false, false_and] <;> rfl⟩)
      · replace h14 : ¬ (xq ≤ nI 1) := h14
        refine rw_go hX [(17, .bipush (-2))] (by decide +kernel) (Ps := []) (pc' := 19) (lv' := [(0, .ref 0), (1, .int (nI s)), (2, .int xq), (3, .int xn)]) (st' := [.int (-(nI 2))]) (σ' := σ) rfl True.intro ?_
        exact rw_iret hX (by decide +kernel) (⟨by simp only [aSheet, eq_true h4, hcs, eq_false h9, eq_false h14, if_true, if_false, Bool.false_eq_true, and_self, and_true, true_and, and_false, false_and] <;> rfl, by simp only [sSheet, eq_true h4, hcs, eq_false h9, eq_false h14, if_true, if_false, Bool.false_eq_true, and_self, and_true, true_and, and_false, false_and] <;> rfl⟩)
set_option maxRecDepth 20000 in
set_option maxHeartbeats 4000000 in
theorem f_put (l : Launch) (G : Gl) (σ : Mm) (n : Nat → Nat) (xs xi xv : Int32) (hsh : ∀ s, s < 4 → σ 63 s = nI (n s) ∧ n s ≤ 40) : AMi l G 3 mX9_put [.ref 0, .int xs, .int xi, .int xv] σ (fun r σ' => r = aPut n (σ 64) xs xi ∧ σ' = sPut n σ xs xi xv) := by
  refine rw_inI 9 (by decide +kernel) rfl rfl ?_
  intro E hE hX
  subst hE
  refine rw_go hX [(0, .iload_n 1)] (by decide +kernel) (Ps := []) (pc' := 1) (lv' := [(0, .ref 0), (1, .int xs), (2, .int xi), (3, .int xv)]) (st' := [.int xs]) (σ' := σ) rfl True.intro ?_
  refine rw_callSi hX (as := [.int xs]) (rest := []) (c_X9_isSheet _ _ _ (xs)) (by decide +kernel) msX9_isSheet (Or.inl lk9_264) rfl (by decide) (Nat.le_of_ble_eq_true rfl) rfl ?_
  intro r1 σ1 hr
  rw [hr.1, show r1 = bz (decide (0 ≤ xs ∧ xs ≤ 3)) from hr.2]
  clear hr σ1 r1
  refine rw_if hX (tgt := 10) (cnd := .ne) (off := 6) (by decide +kernel) (by decide) (fun h4 => ?_) (fun h4 => ?_)
  · replace h4 := of_decide_eq_true (zb_neT h4)
    obtain ⟨s, hs, rfl⟩ := rng (m := 3) (by omega) h4
    have hs : s < 4 := hs
    have hcs : (nI s).toNatClampNeg = s := nI_clamp (by omega)
    have hns := hsh s hs
    refine rw_go hX [(10, .aload_n 0), (11, .getfield 32), (14, .iload_n 1)] (by decide +kernel) (Ps := []) (pc' := 15) (lv' := [(0, .ref 0), (1, .int (nI s)), (2, .int xi), (3, .int xv)]) (st' := [.int (nI s), .ref 61]) (σ' := σ) rfl True.intro ?_
    refine rw_callVi hX (as := [.int (nI s)]) (rest := []) (c_shMissing _ _ _ s hs) (by decide +kernel) mvX4_isMissing lk9_267 (ci := 3) rfl rfl rfl (by decide) (Nat.le_of_ble_eq_true rfl) rfl ?_
    intro r1 σ1 hr
    rw [hr.1, show r1 = bz (decide (σ 64 s = -(nI 1))) from hr.2]
    clear hr σ1 r1
    refine rw_if hX (tgt := 24) (cnd := .eq) (off := 6) (by decide +kernel) (by decide) (fun h18 => ?_) (fun h18 => ?_)
    · replace h18 := of_decide_eq_false (zb_eqT h18)
      refine rw_go hX [(24, .iload_n 2)] (by decide +kernel) (Ps := []) (pc' := 25) (lv' := [(0, .ref 0), (1, .int (nI s)), (2, .int xi), (3, .int xv)]) (st' := [.int xi]) (σ' := σ) rfl True.intro ?_
      refine rw_if hX (tgt := 40) (cnd := .lt) (off := 15) (by decide +kernel) (by decide) (fun h25 => ?_) (fun h25 => ?_)
      · replace h25 : (xi < 0) := h25
        refine rw_go hX [(40, .bipush (-12))] (by decide +kernel) (Ps := []) (pc' := 42) (lv' := [(0, .ref 0), (1, .int (nI s)), (2, .int xi), (3, .int xv)]) (st' := [.int (-(nI 12))]) (σ' := σ) rfl True.intro ?_
        exact rw_iret hX (by decide +kernel) (⟨by simp only [aPut, eq_true h4, hcs, eq_false h18, eq_true h25, if_true, if_false, Bool.false_eq_true, and_self, and_true, true_and, and_false, false_and] <;> rfl, by simp only [sPut, eq_true h4, hcs, eq_false h18, eq_true h25, if_true, if_false, Bool.false_eq_true, and_self, and_true, true_and, and_false, false_and] <;> rfl⟩)
      · replace h25 : ¬ (xi < 0) := h25
        refine rw_go hX [(28, .iload_n 2), (29, .aload_n 0), (30, .getfield 32), (33, .iload_n 1)] (by decide +kernel) (Ps := []) (pc' := 34) (lv' := [(0, .ref 0), (1, .int (nI s)), (2, .int xi), (3, .int xv)]) (st' := [.int (nI s), .ref 61, .int xi]) (σ' := σ) rfl True.intro ?_
        refine rw_callVi hX (as := [.int (nI s)]) (rest := [.int xi]) (c_shSize _ _ _ s hs) (by decide +kernel) mvX4_sizeOf lk9_268 (ci := 3) rfl rfl rfl (by decide) (Nat.le_of_ble_eq_true rfl) rfl ?_
        intro r1 σ1 hr
        rw [hr.1, show r1 = nI (n s) from hr.2.trans hns.1]
        clear hr σ1 r1
        refine rw_icmp hX (tgt := 43) (cnd := .lt) (off := 6) (by decide +kernel) (by decide) (fun h37 => ?_) (fun h37 => ?_)
        · replace h37 : (xi < nI (n s)) := h37
          obtain ⟨i, hi, rfl⟩ := rngO (m := n s) (by omega) ⟨Int32.not_lt.mp h25, h37⟩
          have hci : (nI i).toNatClampNeg = i := nI_clamp (by omega)
          refine rw_go hX [(43, .aload_n 0), (44, .getfield 32), (47, .iload_n 1), (48, .iload_n 2), (49, .iload_n 3)] (by decide +kernel) (Ps := []) (pc' := 50) (lv' := [(0, .ref 0), (1, .int (nI s)), (2, .int (nI i)), (3, .int xv)]) (st' := [.int xv, .int (nI i), .int (nI s), .ref 61]) (σ' := σ) rfl True.intro ?_
          refine rw_callVv hX (as := [.int (nI s), .int (nI i), .int xv]) (rest := []) (c_setItem _ _ _ s i (n s) xv hs hns.1 hns.2 hi) (by decide +kernel) mvX4_setItem lk9_285 (ci := 3) rfl rfl rfl (by decide) (Nat.le_of_ble_eq_true rfl) rfl ?_
          intro σ1 hr
          rw [hr]
          clear hr σ1
          refine rw_go hX [(53, .iconst 1)] (by decide +kernel) (Ps := []) (pc' := 54) (lv' := [(0, .ref 0), (1, .int (nI s)), (2, .int (nI i)), (3, .int xv)]) (st' := [.int (nI 1)]) (σ' := sw σ 62 (40 * s + i) (if σ 64 s = 0 then xv &&& nI 255 else xv)) rfl True.intro ?_
          exact rw_iret hX (by decide +kernel) (⟨by simp only [aPut, eq_true h4, hcs, eq_false h18, eq_false h25, eq_true h37, hci, if_true, if_false, Bool.false_eq_true, and_self, and_true, true_and, and_false, false_and] <;> rfl, by simp only [sPut, eq_true h4, hcs, eq_false h18, eq_false h25, eq_true h37, hci, if_true, if_false, Bool.false_eq_true, and_self, and_true, true_and, and_false, false_and] <;> rfl⟩)
        · replace h37 : ¬ (xi < nI (n s)) := h37
          refine rw_go hX [(40, .bipush (-12))] (by decide +kernel) (Ps := []) (pc' := 42) (lv' := [(0, .ref 0), (1, .int (nI s)), (2, .int xi), (3, .int xv)]) (st' := [.int (-(nI 12))]) (σ' := σ) rfl True.intro ?_
          exact rw_iret hX (by decide +kernel) (⟨by simp only [aPut, eq_true h4, hcs, eq_false h18, eq_false h25, eq_false h37, if_true, if_false, Bool.false_eq_true, and_self, and_true, true_and, and_false, false_and] <;> rfl, by simp only [sPut, eq_true h4, hcs, eq_false h18, eq_false h25, eq_false h37, if_true, if_false, Bool.false_eq_true, and_self, and_true, true_and, and_false, false_and] <;> rfl⟩)
    · replace h18 := of_decide_eq_true (zb_eqF h18)
      refine rw_go hX [(21, .bipush (-11))] (by decide +kernel) (Ps := []) (pc' := 23) (lv' := [(0, .ref 0), (1, .int (nI s)), (2, .int xi), (3, .int xv)]) (st' := [.int (-(nI 11))]) (σ' := σ) rfl True.intro ?_
      exact rw_iret hX (by decide +kernel) (⟨by simp only [aPut, eq_true h4, hcs, eq_true h18, if_true, if_false, Bool.false_eq_true, and_self, and_true, true_and, and_false, false_and] <;> rfl, by simp only [sPut, eq_true h4, hcs, eq_true h18, if_true, if_false, Bool.false_eq_true, and_self, and_true, true_and, and_false, false_and] <;> rfl⟩)
  · replace h4 := of_decide_eq_false (zb_neF h4)
    refine rw_go hX [(7, .bipush (-2))] (by decide +kernel) (Ps := []) (pc' := 9) (lv' := [(0, .ref 0), (1, .int xs), (2, .int xi), (3, .int xv)]) (st' := [.int (-(nI 2))]) (σ' := σ) rfl True.intro ?_
    exact rw_iret hX (by decide +kernel) (⟨by simp only [aPut, eq_false h4, if_true, if_false, Bool.false_eq_true, and_self, and_true, true_and, and_false, false_and] <;> rfl, by simp only [sPut, eq_false h4, if_true, if_false, Bool.false_eq_true, and_self, and_true, true_and, and_false, false_and] <;> rfl⟩)
set_option maxRecDepth 20000 in
set_option maxHeartbeats 4000000 in
theorem f_copy (l : Launch) (G : Gl) (σ : Mm) (n : Nat → Nat) (xs xi xu xj xk : Int32) (hsh : ∀ s, s < 4 → σ 63 s = nI (n s) ∧ n s ≤ 40) : AMi l G 3 mX9_copy [.ref 0, .int xs, .int xi, .int xu, .int xj, .int xk] σ (fun r σ' => r = aCopy n (σ 64) xs xi xu xj xk ∧ σ' = sCopy n σ xs xi xu xj xk) := by
  refine rw_inI 9 (by decide +kernel) rfl rfl ?_
  intro E hE hX
  subst hE
  refine rw_go hX [(0, .iload_n 1)] (by decide +kernel) (Ps := []) (pc' := 1) (lv' := [(0, .ref 0), (1, .int xs), (2, .int xi), (3, .int xu), (4, .int xj), (5, .int xk)]) (st' := [.int xs]) (σ' := σ) rfl True.intro ?_
  refine rw_callSi hX (as := [.int xs]) (rest := []) (c_X9_isSheet _ _ _ (xs)) (by decide +kernel) msX9_isSheet (Or.inl lk9_264) rfl (by decide) (Nat.le_of_ble_eq_true rfl) rfl ?_
  intro r1 σ1 hr
  rw [hr.1, show r1 = bz (decide (0 ≤ xs ∧ xs ≤ 3)) from hr.2]
  clear hr σ1 r1
  refine rw_if hX (tgt := 14) (cnd := .eq) (off := 10) (by decide +kernel) (by decide) (fun h4 => ?_) (fun h4 => ?_)
  · replace h4 := of_decide_eq_false (zb_eqT h4)
    refine rw_go hX [(14, .bipush (-2))] (by decide +kernel) (Ps := []) (pc' := 16) (lv' := [(0, .ref 0), (1, .int xs), (2, .int xi), (3, .int xu), (4, .int xj), (5, .int xk)]) (st' := [.int (-(nI 2))]) (σ' := σ) rfl True.intro ?_
    exact rw_iret hX (by decide +kernel) (⟨by simp only [aCopy, eq_false h4, if_true, if_false, Bool.false_eq_true, and_self, and_true, true_and, and_false, false_and] <;> rfl, by simp only [sCopy, eq_false h4, if_true, if_false, Bool.false_eq_true, and_self, and_true, true_and, and_false, false_and] <;> rfl⟩)
  · replace h4 := of_decide_eq_true (zb_eqF h4)
    obtain ⟨s, hs, rfl⟩ := rng (m := 3) (by omega) h4
    have hs : s < 4 := hs
    have hcs : (nI s).toNatClampNeg = s := nI_clamp (by omega)
    have hns := hsh s hs
    refine rw_go hX [(7, .iload_n 3)] (by decide +kernel) (Ps := []) (pc' := 8) (lv' := [(0, .ref 0), (1, .int (nI s)), (2, .int xi), (3, .int xu), (4, .int xj), (5, .int xk)]) (st' := [.int xu]) (σ' := σ) rfl True.intro ?_
    refine rw_callSi hX (as := [.int xu]) (rest := []) (c_X9_isSheet _ _ _ (xu)) (by decide +kernel) msX9_isSheet (Or.inl lk9_264) rfl (by decide) (Nat.le_of_ble_eq_true rfl) rfl ?_
    intro r1 σ1 hr
    rw [hr.1, show r1 = bz (decide (0 ≤ xu ∧ xu ≤ 3)) from hr.2]
    clear hr σ1 r1
    refine rw_if hX (tgt := 17) (cnd := .ne) (off := 6) (by decide +kernel) (by decide) (fun h11 => ?_) (fun h11 => ?_)
    · replace h11 := of_decide_eq_true (zb_neT h11)
      obtain ⟨u, hu, rfl⟩ := rng (m := 3) (by omega) h11
      have hu : u < 4 := hu
      have hcu : (nI u).toNatClampNeg = u := nI_clamp (by omega)
      have hnu := hsh u hu
      refine rw_go hX [(17, .aload_n 0), (18, .getfield 32), (21, .iload_n 1)] (by decide +kernel) (Ps := []) (pc' := 22) (lv' := [(0, .ref 0), (1, .int (nI s)), (2, .int xi), (3, .int (nI u)), (4, .int xj), (5, .int xk)]) (st' := [.int (nI s), .ref 61]) (σ' := σ) rfl True.intro ?_
      refine rw_callVi hX (as := [.int (nI s)]) (rest := []) (c_shMissing _ _ _ s hs) (by decide +kernel) mvX4_isMissing lk9_267 (ci := 3) rfl rfl rfl (by decide) (Nat.le_of_ble_eq_true rfl) rfl ?_
      intro r1 σ1 hr
      rw [hr.1, show r1 = bz (decide (σ 64 s = -(nI 1))) from hr.2]
      clear hr σ1 r1
      refine rw_if hX (tgt := 39) (cnd := .ne) (off := 14) (by decide +kernel) (by decide) (fun h25 => ?_) (fun h25 => ?_)
      · replace h25 := of_decide_eq_true (zb_neT h25)
        refine rw_go hX [(39, .bipush (-11))] (by decide +kernel) (Ps := []) (pc' := 41) (lv' := [(0, .ref 0), (1, .int (nI s)), (2, .int xi), (3, .int (nI u)), (4, .int xj), (5, .int xk)]) (st' := [.int (-(nI 11))]) (σ' := σ) rfl True.intro ?_
        exact rw_iret hX (by decide +kernel) (⟨by simp only [aCopy, eq_true h4, hcs, eq_true h11, hcu, eq_true h25, if_true, if_false, Bool.false_eq_true, and_self, and_true, true_and, and_false, false_and] <;> rfl, by simp only [sCopy, eq_true h4, hcs, eq_true h11, hcu, eq_true h25, if_true, if_false, Bool.false_eq_true, and_self, and_true, true_and, and_false, false_and] <;> rfl⟩)
      · replace h25 := of_decide_eq_false (zb_neF h25)
        refine rw_go hX [(28, .aload_n 0), (29, .getfield 32), (32, .iload_n 3)] (by decide +kernel) (Ps := []) (pc' := 33) (lv' := [(0, .ref 0), (1, .int (nI s)), (2, .int xi), (3, .int (nI u)), (4, .int xj), (5, .int xk)]) (st' := [.int (nI u), .ref 61]) (σ' := σ) rfl True.intro ?_
        refine rw_callVi hX (as := [.int (nI u)]) (rest := []) (c_shMissing _ _ _ u hu) (by decide +kernel) mvX4_isMissing lk9_267 (ci := 3) rfl rfl rfl (by decide) (Nat.le_of_ble_eq_true rfl) rfl ?_
        intro r1 σ1 hr
        rw [hr.1, show r1 = bz (decide (σ 64 u = -(nI 1))) from hr.2]
        clear hr σ1 r1
        refine rw_if hX (tgt := 42) (cnd := .eq) (off := 6) (by decide +kernel) (by decide) (fun h36 => ?_) (fun h36 => ?_)
        · replace h36 := of_decide_eq_false (zb_eqT h36)
          refine rw_go hX [(42, .aload_n 0), (43, .getfield 32), (46, .iload_n 1)] (by decide +kernel) (Ps := []) (pc' := 47) (lv' := [(0, .ref 0), (1, .int (nI s)), (2, .int xi), (3, .int (nI u)), (4, .int xj), (5, .int xk)]) (st' := [.int (nI s), .ref 61]) (σ' := σ) rfl True.intro ?_
          refine rw_callVi hX (as := [.int (nI s)]) (rest := []) (c_sortOf _ _ _ s hs) (by decide +kernel) mvX4_sortOf lk9_305 (ci := 3) rfl rfl rfl (by decide) (Nat.le_of_ble_eq_true rfl) rfl ?_
          intro r1 σ1 hr
          rw [hr.1, show r1 = σ 64 s from hr.2]
          clear hr σ1 r1
          refine rw_go hX [(50, .aload_n 0), (51, .getfield 32), (54, .iload_n 3)] (by decide +kernel) (Ps := []) (pc' := 55) (lv' := [(0, .ref 0), (1, .int (nI s)), (2, .int xi), (3, .int (nI u)), (4, .int xj), (5, .int xk)]) (st' := [.int (nI u), .ref 61, .int (σ 64 s)]) (σ' := σ) rfl True.intro ?_
          refine rw_callVi hX (as := [.int (nI u)]) (rest := [.int (σ 64 s)]) (c_sortOf _ _ _ u hu) (by decide +kernel) mvX4_sortOf lk9_305 (ci := 3) rfl rfl rfl (by decide) (Nat.le_of_ble_eq_true rfl) rfl ?_
          intro r1 σ1 hr
          rw [hr.1, show r1 = σ 64 u from hr.2]
          clear hr σ1 r1
          refine rw_icmp hX (tgt := 64) (cnd := .eq) (off := 6) (by decide +kernel) (by decide) (fun h58 => ?_) (fun h58 => ?_)
          · replace h58 : (σ 64 s = σ 64 u) := h58
            refine rw_go hX [(64, .iload 5)] (by decide +kernel) (Ps := []) (pc' := 66) (lv' := [(0, .ref 0), (1, .int (nI s)), (2, .int xi), (3, .int (nI u)), (4, .int xj), (5, .int xk)]) (st' := [.int xk]) (σ' := σ) rfl True.intro ?_
            refine rw_if hX (tgt := 109) (cnd := .lt) (off := 43) (by decide +kernel) (by decide) (fun h66 => ?_) (fun h66 => ?_)
            · replace h66 : (xk < 0) := h66
              have hcp : pz (cpOK xi xj xk (n s) (n u)) = false := pz_f fun ⟨a, b, k, e1, e2, e3, g1, g2⟩ => by
                rw [e3] at h66; exact absurd h66 (nI_pos (by omega))
              refine rw_go hX [(109, .bipush (-12))] (by decide +kernel) (Ps := []) (pc' := 111) (lv' := [(0, .ref 0), (1, .int (nI s)), (2, .int xi), (3, .int (nI u)), (4, .int xj), (5, .int xk)]) (st' := [.int (-(nI 12))]) (σ' := σ) rfl True.intro ?_
              exact rw_iret hX (by decide +kernel) (⟨by simp only [aCopy, eq_true h4, hcs, eq_true h11, hcu, eq_false h25, eq_false h36, eq_true h58, eq_true h66, hcp, if_true, if_false, Bool.false_eq_true, and_self, and_true, true_and, and_false, false_and] <;> rfl, by simp only [sCopy, eq_true h4, hcs, eq_true h11, hcu, eq_false h25, eq_false h36, eq_true h58, eq_true h66, hcp, if_true, if_false, Bool.false_eq_true, and_self, and_true, true_and, and_false, false_and] <;> rfl⟩)
            · replace h66 : ¬ (xk < 0) := h66
              refine rw_go hX [(69, .iload_n 2)] (by decide +kernel) (Ps := []) (pc' := 70) (lv' := [(0, .ref 0), (1, .int (nI s)), (2, .int xi), (3, .int (nI u)), (4, .int xj), (5, .int xk)]) (st' := [.int xi]) (σ' := σ) rfl True.intro ?_
              refine rw_if hX (tgt := 109) (cnd := .lt) (off := 39) (by decide +kernel) (by decide) (fun h70 => ?_) (fun h70 => ?_)
              · replace h70 : (xi < 0) := h70
                have hcp : pz (cpOK xi xj xk (n s) (n u)) = false := pz_f fun ⟨a, b, k, e1, e2, e3, g1, g2⟩ => by
                  rw [e1] at h70; exact absurd h70 (nI_pos (by omega))
                refine rw_go hX [(109, .bipush (-12))] (by decide +kernel) (Ps := []) (pc' := 111) (lv' := [(0, .ref 0), (1, .int (nI s)), (2, .int xi), (3, .int (nI u)), (4, .int xj), (5, .int xk)]) (st' := [.int (-(nI 12))]) (σ' := σ) rfl True.intro ?_
                exact rw_iret hX (by decide +kernel) (⟨by simp only [aCopy, eq_true h4, hcs, eq_true h11, hcu, eq_false h25, eq_false h36, eq_true h58, eq_false h66, eq_true h70, hcp, if_true, if_false, Bool.false_eq_true, and_self, and_true, true_and, and_false, false_and] <;> rfl, by simp only [sCopy, eq_true h4, hcs, eq_true h11, hcu, eq_false h25, eq_false h36, eq_true h58, eq_false h66, eq_true h70, hcp, if_true, if_false, Bool.false_eq_true, and_self, and_true, true_and, and_false, false_and] <;> rfl⟩)
              · replace h70 : ¬ (xi < 0) := h70
                refine rw_go hX [(73, .iload 4)] (by decide +kernel) (Ps := []) (pc' := 75) (lv' := [(0, .ref 0), (1, .int (nI s)), (2, .int xi), (3, .int (nI u)), (4, .int xj), (5, .int xk)]) (st' := [.int xj]) (σ' := σ) rfl True.intro ?_
                refine rw_if hX (tgt := 109) (cnd := .lt) (off := 34) (by decide +kernel) (by decide) (fun h75 => ?_) (fun h75 => ?_)
                · replace h75 : (xj < 0) := h75
                  have hcp : pz (cpOK xi xj xk (n s) (n u)) = false := pz_f fun ⟨a, b, k, e1, e2, e3, g1, g2⟩ => by
                    rw [e2] at h75; exact absurd h75 (nI_pos (by omega))
                  refine rw_go hX [(109, .bipush (-12))] (by decide +kernel) (Ps := []) (pc' := 111) (lv' := [(0, .ref 0), (1, .int (nI s)), (2, .int xi), (3, .int (nI u)), (4, .int xj), (5, .int xk)]) (st' := [.int (-(nI 12))]) (σ' := σ) rfl True.intro ?_
                  exact rw_iret hX (by decide +kernel) (⟨by simp only [aCopy, eq_true h4, hcs, eq_true h11, hcu, eq_false h25, eq_false h36, eq_true h58, eq_false h66, eq_false h70, eq_true h75, hcp, if_true, if_false, Bool.false_eq_true, and_self, and_true, true_and, and_false, false_and] <;> rfl, by simp only [sCopy, eq_true h4, hcs, eq_true h11, hcu, eq_false h25, eq_false h36, eq_true h58, eq_false h66, eq_false h70, eq_true h75, hcp, if_true, if_false, Bool.false_eq_true, and_self, and_true, true_and, and_false, false_and] <;> rfl⟩)
                · replace h75 : ¬ (xj < 0) := h75
                  refine rw_go hX [(78, .iload 5), (80, .aload_n 0), (81, .getfield 32), (84, .iload_n 1)] (by decide +kernel) (Ps := []) (pc' := 85) (lv' := [(0, .ref 0), (1, .int (nI s)), (2, .int xi), (3, .int (nI u)), (4, .int xj), (5, .int xk)]) (st' := [.int (nI s), .ref 61, .int xk]) (σ' := σ) rfl True.intro ?_
                  refine rw_callVi hX (as := [.int (nI s)]) (rest := [.int xk]) (c_shSize _ _ _ s hs) (by decide +kernel) mvX4_sizeOf lk9_268 (ci := 3) rfl rfl rfl (by decide) (Nat.le_of_ble_eq_true rfl) rfl ?_
                  intro r1 σ1 hr
                  rw [hr.1, show r1 = nI (n s) from hr.2.trans hns.1]
                  clear hr σ1 r1
                  refine rw_go hX [(88, .iload_n 2), (89, .isub)] (by decide +kernel) (Ps := []) (pc' := 90) (lv' := [(0, .ref 0), (1, .int (nI s)), (2, .int xi), (3, .int (nI u)), (4, .int xj), (5, .int xk)]) (st' := [.int (nI (n s) - xi), .int xk]) (σ' := σ) rfl True.intro ?_
                  refine rw_icmp hX (tgt := 109) (cnd := .gt) (off := 19) (by decide +kernel) (by decide) (fun h90 => ?_) (fun h90 => ?_)
                  · replace h90 : (xk > (nI (n s) - xi)) := h90
                    have hcp : pz (cpOK xi xj xk (n s) (n u)) = false := pz_f fun ⟨a, b, k, e1, e2, e3, g1, g2⟩ => by
                      rw [e1, e3] at h90; exact absurd (subr_no g1 (by omega)) (Int32.not_le.mpr h90)
                    refine rw_go hX [(109, .bipush (-12))] (by decide +kernel) (Ps := []) (pc' := 111) (lv' := [(0, .ref 0), (1, .int (nI s)), (2, .int xi), (3, .int (nI u)), (4, .int xj), (5, .int xk)]) (st' := [.int (-(nI 12))]) (σ' := σ) rfl True.intro ?_
                    exact rw_iret hX (by decide +kernel) (⟨by simp only [aCopy, eq_true h4, hcs, eq_true h11, hcu, eq_false h25, eq_false h36, eq_true h58, eq_false h66, eq_false h70, eq_false h75, eq_true h90, hcp, if_true, if_false, Bool.false_eq_true, and_self, and_true, true_and, and_false, false_and] <;> rfl, by simp only [sCopy, eq_true h4, hcs, eq_true h11, hcu, eq_false h25, eq_false h36, eq_true h58, eq_false h66, eq_false h70, eq_false h75, eq_true h90, hcp, if_true, if_false, Bool.false_eq_true, and_self, and_true, true_and, and_false, false_and] <;> rfl⟩)
                  · replace h90 : ¬ (xk > (nI (n s) - xi)) := h90
                    refine rw_go hX [(93, .iload 5), (95, .aload_n 0), (96, .getfield 32), (99, .iload_n 3)] (by decide +kernel) (Ps := []) (pc' := 100) (lv' := [(0, .ref 0), (1, .int (nI s)), (2, .int xi), (3, .int (nI u)), (4, .int xj), (5, .int xk)]) (st' := [.int (nI u), .ref 61, .int xk]) (σ' := σ) rfl True.intro ?_
                    refine rw_callVi hX (as := [.int (nI u)]) (rest := [.int xk]) (c_shSize _ _ _ u hu) (by decide +kernel) mvX4_sizeOf lk9_268 (ci := 3) rfl rfl rfl (by decide) (Nat.le_of_ble_eq_true rfl) rfl ?_
                    intro r1 σ1 hr
                    rw [hr.1, show r1 = nI (n u) from hr.2.trans hnu.1]
                    clear hr σ1 r1
                    refine rw_go hX [(103, .iload 4), (105, .isub)] (by decide +kernel) (Ps := []) (pc' := 106) (lv' := [(0, .ref 0), (1, .int (nI s)), (2, .int xi), (3, .int (nI u)), (4, .int xj), (5, .int xk)]) (st' := [.int (nI (n u) - xj), .int xk]) (σ' := σ) rfl True.intro ?_
                    refine rw_icmp hX (tgt := 112) (cnd := .le) (off := 6) (by decide +kernel) (by decide) (fun h106 => ?_) (fun h106 => ?_)
                    · replace h106 : (xk ≤ (nI (n u) - xj)) := h106
                      obtain ⟨k, i, rfl, rfl, hki⟩ := subr0 h70 h66 (Int32.not_lt.mp h90) (show n s ≤ 50 by omega)
                      obtain ⟨k2, j, e9, rfl, hkj⟩ := subr0 h75 h66 h106 (show n u ≤ 50 by omega)
                      have hck : (nI k).toNatClampNeg = k := nI_clamp (by omega)
                      have hk2 : (nI k2).toNatClampNeg = k2 := nI_clamp (by omega)
                      have ek : k = k2 := by rw [← hck, e9, hk2]
                      subst ek
                      have hci : (nI i).toNatClampNeg = i := nI_clamp (by omega)
                      have hcj : (nI j).toNatClampNeg = j := nI_clamp (by omega)
                      have hcp : pz (cpOK (nI i) (nI j) (nI k) (n s) (n u)) = true := pz_t ⟨i, j, k, rfl, rfl, rfl, hki, hkj⟩
                      refine rw_go hX [(112, .aload_n 0), (113, .getfield 32), (116, .iload_n 1), (117, .iload_n 2), (118, .iload_n 3), (119, .iload 4), (121, .iload 5)] (by decide +kernel) (Ps := []) (pc' := 123) (lv' := [(0, .ref 0), (1, .int (nI s)), (2, .int (nI i)), (3, .int (nI u)), (4, .int (nI j)), (5, .int (nI k))]) (st' := [.int (nI k), .int (nI j), .int (nI u), .int (nI i), .int (nI s), .ref 61]) (σ' := σ) rfl True.intro ?_
                      refine rw_callVv hX (as := [.int (nI s), .int (nI i), .int (nI u), .int (nI j), .int (nI k)]) (rest := []) (c_move _ _ _ s i u j k (n s) (n u) hs hu hns.1 hnu.1 hns.2 hnu.2 hki hkj) (by decide +kernel) mvX4_move lk9_308 (ci := 3) rfl rfl rfl (by decide) (Nat.le_of_ble_eq_true rfl) rfl ?_
                      intro σ1 hr
                      rw [hr]
                      clear hr σ1
                      refine rw_go hX [(126, .iload 5)] (by decide +kernel) (Ps := []) (pc' := 128) (lv' := [(0, .ref 0), (1, .int (nI s)), (2, .int (nI i)), (3, .int (nI u)), (4, .int (nI j)), (5, .int (nI k))]) (st' := [.int (nI k)]) (σ' := sr σ 62 (va_cpy (σ 62) (σ 62) (40 * s + i) (40 * u + j) k)) rfl True.intro ?_
                      exact rw_iret hX (by decide +kernel) (⟨by simp only [aCopy, eq_true h4, hcs, eq_true h11, hcu, eq_false h25, eq_false h36, eq_true h58, eq_false h66, eq_false h70, eq_false h75, eq_false h90, eq_true h106, hck, hci, hcj, hcp, if_true, if_false, Bool.false_eq_true, and_self, and_true, true_and, and_false, false_and] <;> rfl, by simp only [sCopy, eq_true h4, hcs, eq_true h11, hcu, eq_false h25, eq_false h36, eq_true h58, eq_false h66, eq_false h70, eq_false h75, eq_false h90, eq_true h106, hck, hci, hcj, hcp, if_true, if_false, Bool.false_eq_true, and_self, and_true, true_and, and_false, false_and] <;> rfl⟩)
                    · replace h106 : ¬ (xk ≤ (nI (n u) - xj)) := h106
                      have hcp : pz (cpOK xi xj xk (n s) (n u)) = false := pz_f fun ⟨a, b, k, e1, e2, e3, g1, g2⟩ => by
                        rw [e2, e3] at h106; exact absurd (subr_no g2 (by omega)) h106
                      refine rw_go hX [(109, .bipush (-12))] (by decide +kernel) (Ps := []) (pc' := 111) (lv' := [(0, .ref 0), (1, .int (nI s)), (2, .int xi), (3, .int (nI u)), (4, .int xj), (5, .int xk)]) (st' := [.int (-(nI 12))]) (σ' := σ) rfl True.intro ?_
                      exact rw_iret hX (by decide +kernel) (⟨by simp only [aCopy, eq_true h4, hcs, eq_true h11, hcu, eq_false h25, eq_false h36, eq_true h58, eq_false h66, eq_false h70, eq_false h75, eq_false h90, eq_false h106, hcp, if_true, if_false, Bool.false_eq_true, and_self, and_true, true_and, and_false, false_and] <;> rfl, by simp only [sCopy, eq_true h4, hcs, eq_true h11, hcu, eq_false h25, eq_false h36, eq_true h58, eq_false h66, eq_false h70, eq_false h75, eq_false h90, eq_false h106, hcp, if_true, if_false, Bool.false_eq_true, and_self, and_true, true_and, and_false, false_and] <;> rfl⟩)
          · replace h58 : ¬ (σ 64 s = σ 64 u) := h58
            refine rw_go hX [(61, .bipush (-13))] (by decide +kernel) (Ps := []) (pc' := 63) (lv' := [(0, .ref 0), (1, .int (nI s)), (2, .int xi), (3, .int (nI u)), (4, .int xj), (5, .int xk)]) (st' := [.int (-(nI 13))]) (σ' := σ) rfl True.intro ?_
            exact rw_iret hX (by decide +kernel) (⟨by simp only [aCopy, eq_true h4, hcs, eq_true h11, hcu, eq_false h25, eq_false h36, eq_false h58, if_true, if_false, Bool.false_eq_true, and_self, and_true, true_and, and_false, false_and] <;> rfl, by simp only [sCopy, eq_true h4, hcs, eq_true h11, hcu, eq_false h25, eq_false h36, eq_false h58, if_true, if_false, Bool.false_eq_true, and_self, and_true, true_and, and_false, false_and] <;> rfl⟩)
        · replace h36 := of_decide_eq_true (zb_eqF h36)
          refine rw_go hX [(39, .bipush (-11))] (by decide +kernel) (Ps := []) (pc' := 41) (lv' := [(0, .ref 0), (1, .int (nI s)), (2, .int xi), (3, .int (nI u)), (4, .int xj), (5, .int xk)]) (st' := [.int (-(nI 11))]) (σ' := σ) rfl True.intro ?_
          exact rw_iret hX (by decide +kernel) (⟨by simp only [aCopy, eq_true h4, hcs, eq_true h11, hcu, eq_false h25, eq_true h36, if_true, if_false, Bool.false_eq_true, and_self, and_true, true_and, and_false, false_and] <;> rfl, by simp only [sCopy, eq_true h4, hcs, eq_true h11, hcu, eq_false h25, eq_true h36, if_true, if_false, Bool.false_eq_true, and_self, and_true, true_and, and_false, false_and] <;> rfl⟩)
    · replace h11 := of_decide_eq_false (zb_neF h11)
      refine rw_go hX [(14, .bipush (-2))] (by decide +kernel) (Ps := []) (pc' := 16) (lv' := [(0, .ref 0), (1, .int (nI s)), (2, .int xi), (3, .int xu), (4, .int xj), (5, .int xk)]) (st' := [.int (-(nI 2))]) (σ' := σ) rfl True.intro ?_
      exact rw_iret hX (by decide +kernel) (⟨by simp only [aCopy, eq_true h4, hcs, eq_false h11, if_true, if_false, Bool.false_eq_true, and_self, and_true, true_and, and_false, false_and] <;> rfl, by simp only [sCopy, eq_true h4, hcs, eq_false h11, if_true, if_false, Bool.false_eq_true, and_self, and_true, true_and, and_false, false_and] <;> rfl⟩)
