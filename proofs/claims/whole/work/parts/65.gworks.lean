/-! the model: the calls on works -/
def tpM (σ : Mm) (t n : Nat) (a b c d e : Int32) : Mm := sw (sr σ 72 (tpF (σ 72) t n a b c d e)) 66 6 (nI (t + n))
theorem tpM_0 {σ : Mm} {t : Nat} (h : σ 66 6 = nI t) (a b c d e : Int32) : tpM σ t 0 a b c d e = σ := by
  unfold tpM
  rw [tp_0, sr_id, Nat.add_zero, ← h, sw_id]
theorem tpM_1 (σ : Mm) (t n : Nat) (a b c d e : Int32) {v : Int32} (h : v = sel5 a b c d e n) : sw (sw (tpM σ t n a b c d e) 72 (t + n) v) 66 6 (nI (t + n + 1)) = tpM σ t (n + 1) a b c d e := by
  unfold tpM
  rw [← tp_1 _ _ _ _ _ _ _ _ h]
  funext k
  by_cases q : k = 72
  · subst q
    rw [sw_ne _ _ _ (by decide), sw_row, sw_ne _ _ _ (by decide), sr_s, sw_ne _ _ _ (by decide), sr_s]
  · by_cases g : k = 66
    · subst g
      rw [sw_row, sw_row, sw_ne _ _ _ (by decide), sw_row, sr_n _ _ (by decide), sr_n _ _ (by decide)]
      funext j
      by_cases y : j = 6
      · subst y; rw [upd_s, upd_s]; rfl
      · rw [upd_n _ _ y, upd_n _ _ y, upd_n _ _ y]
    · rw [sw_ne _ _ _ g, sw_ne _ _ _ q, sw_ne _ _ _ g, sr_n _ _ q, sw_ne _ _ _ g, sr_n _ _ q]
theorem tpM_6 (σ : Mm) (t n : Nat) (a b c d e : Int32) : tpM σ t n a b c d e 66 6 = nI (t + n) := sw_eq
def wkM (σ : Mm) (w t : Nat) (k d : Int32) : Mm := sw (sw (sw (sr (sw σ 66 6 (nI 0)) 67 (va_cpy (σ 72) (σ 67) 0 (50 * w) t)) 68 w (nI t)) 69 w k) 70 w d
noncomputable def sWorkM (σ : Mm) (t : Nat) (x k d : Int32) : Mm := if 0 ≤ x ∧ x ≤ 4 then (if 0 ≤ k ∧ k ≤ 5 then (if 0 ≤ d ∧ d ≤ 99 then (if pz (rawA (σ 72) t) = true then wkM σ x.toNatClampNeg t k d else sw σ 66 6 (nI 0)) else σ) else σ) else σ
def splH (σ : Mm) (u f k : Nat) : Nat → Int32 := va_cpy (σ 67) (σ 74) (50 * u + f) 0 k
def splM (σ : Mm) (w a u f k s : Nat) : Mm := sw (sr (sr σ 74 (splH σ u f k)) 67 (va_cpy (splH σ u f k) (va_cpy (σ 67) (σ 67) (50 * w + a) (50 * w + a + k) (s - a)) 0 (50 * w + a) k)) 68 w (nI (s + k))
noncomputable def sSplM (V σ : Mm) (x at_ y fr n : Int32) : Mm := if 0 ≤ x ∧ x ≤ 4 then (if 0 ≤ y ∧ y ≤ 4 then (if vS V x.toNatClampNeg = 0 then σ else if vS V y.toNatClampNeg = 0 then σ else if pz (spOK at_ fr n (vS V x.toNatClampNeg) (vS V y.toNatClampNeg)) = true then (if n ≤ nI (50 - vS V x.toNatClampNeg) then splM σ x.toNatClampNeg at_.toNatClampNeg y.toNatClampNeg fr.toNatClampNeg n.toNatClampNeg (vS V x.toNatClampNeg) else σ) else σ) else σ) else σ
def cutM (σ : Mm) (w a k s : Nat) : Mm := sw (sr σ 67 (va_cpy (σ 67) (σ 67) (50 * w + a + k) (50 * w + a) (s - a - k))) 68 w (nI (s - k))
noncomputable def sCutM (V σ : Mm) (x at_ n : Int32) : Mm := if 0 ≤ x ∧ x ≤ 4 then (if vS V x.toNatClampNeg = 0 then σ else if pz (ctOK at_ n (vS V x.toNatClampNeg)) = true then (if n = nI (vS V x.toNatClampNeg) then σ else cutM σ x.toNatClampNeg at_.toNatClampNeg n.toNatClampNeg (vS V x.toNatClampNeg)) else σ) else σ
theorem cpy_0 (f g : Nat → Int32) (sp dp : Nat) : va_cpy f g sp dp 0 = g := by
  funext j
  exact pk_cpy_out (by omega)
theorem cpy_1 (f g : Nat → Int32) (sp dp k : Nat) : upd (va_cpy f g sp dp k) (dp + k) (f (sp + k)) = va_cpy f g sp dp (k + 1) := by
  funext j
  by_cases e : j = dp + k
  · subst e
    rw [upd_s, pk_cpy_in (by omega) (by omega), show dp + k - dp = k by omega]
  · rw [upd_n _ _ e]
    by_cases q : dp ≤ j ∧ j < dp + k
    · rw [pk_cpy_in q.1 q.2, pk_cpy_in q.1 (by omega)]
    · rw [pk_cpy_out (by omega), pk_cpy_out (by omega)]
/-- a piece moved up by n, from its end down to place lo -/
def dnR (f : Nat → Int32) (lo hi n : Nat) : Nat → Int32 := fun j => if lo + n ≤ j ∧ j < hi + n then f (j - n) else f j
theorem dnR_0 (f : Nat → Int32) (hi n : Nat) : dnR f hi hi n = f := by
  funext j
  exact if_neg (by omega)
theorem dnR_1 (f : Nat → Int32) {lo hi n : Nat} (h : lo < hi) (hn : 1 ≤ n) : upd (dnR f (lo + 1) hi n) (lo + n) (f lo) = dnR f lo hi n := by
  funext j
  unfold dnR
  by_cases e : j = lo + n
  · subst e
    rw [upd_s, if_pos (by omega), show lo + n - n = lo by omega]
  · rw [upd_n _ _ e]
    by_cases q : lo + 1 + n ≤ j ∧ j < hi + n
    · rw [if_pos q, if_pos (by omega)]
    · rw [if_neg q, if_neg (by omega)]
theorem dnR_lo (f : Nat → Int32) {lo hi n : Nat} (hn : 1 ≤ n) : dnR f (lo + 1) hi n lo = f lo := if_neg (by omega)
theorem dnR_cpy (f : Nat → Int32) {lo hi n : Nat} (h : lo ≤ hi) : dnR f lo hi n = va_cpy f f lo (lo + n) (hi - lo) := by
  funext j
  unfold dnR
  by_cases q : lo + n ≤ j ∧ j < hi + n
  · rw [if_pos q, pk_cpy_in (by omega) (by omega), show lo + (j - (lo + n)) = j - n by omega]
  · rw [if_neg q, pk_cpy_out (by omega)]
set_option maxRecDepth 20000 in
set_option maxHeartbeats 4000000 in
theorem g_feed (l : Launch) (G : Gl) (σ : Mm) (t : Nat) (xn xa xb xc xd xe : Int32) (ht : σ 66 6 = nI t) (ht5 : t ≤ 50) : AMi l G 1 mX10_feed [.ref 66, .int xn, .int xa, .int xb, .int xc, .int xd, .int xe] σ (fun r σ' => r = aFeed t xn xa xb xc xd xe ∧ σ' = sFeed 72 66 6 σ t xn xa xb xc xd xe) := by
  refine rw_inI 10 (by decide +kernel) rfl rfl ?_
  intro E hE hX
  subst hE
  refine rw_go hX [(0, .iload_n 1), (1, .i2l), (2, .lconst 1), (3, .ldc2_w 136)] (by decide +kernel) (Ps := []) (pc' := 6) (lv' := [(0, .ref 66), (1, .int xn), (2, .int xa), (3, .int xb), (4, .int xc), (5, .int xd), (6, .int xe)]) (st' := [.long 5, .long (Int64.ofNat 1), .long (xn.toInt64)]) (σ' := σ) rfl True.intro ?_
  refine rw_callSi hX (as := [.long (xn.toInt64), .long (Int64.ofNat 1), .long 5]) (rest := []) (m_inI _ _ _ (xn) (nI 1) (nI 5) _ _ _ rfl (by first | rfl | decide +kernel) (by first | rfl | decide +kernel)) (by decide +kernel) msX10_in (Or.inl lk10_105) rfl (by decide) (Nat.le_of_ble_eq_true rfl) rfl ?_
  intro r1 σ1 hr
  rw [hr.1, show r1 = bz (decide (nI 1 ≤ xn ∧ xn ≤ nI 5)) from hr.2]
  clear hr σ1 r1
  refine rw_if hX (tgt := 75) (cnd := .eq) (off := 66) (by decide +kernel) (by decide) (fun h9 => ?_) (fun h9 => ?_)
  · replace h9 := of_decide_eq_false (zb_eqT h9)
    have e : pz (fdB xn xa xb xc xd xe) = false := pz_f fun z => h9 ⟨Int32.not_lt.mp z.1, Int32.not_lt.mp z.2.1⟩
    refine rw_go hX [(75, .bipush (-2))] (by decide +kernel) (Ps := []) (pc' := 77) (lv' := [(0, .ref 66), (1, .int xn), (2, .int xa), (3, .int xb), (4, .int xc), (5, .int xd), (6, .int xe)]) (st' := [.int (-(nI 2))]) (σ' := σ) rfl True.intro ?_
    exact rw_iret hX (by decide +kernel) (⟨by simp only [aFeed, e, if_true, if_false, Bool.false_eq_true, and_self, and_true, true_and, and_false, false_and, oel_n, oel_s, decide_true, decide_false], by simp only [sFeed, e, if_true, if_false, Bool.false_eq_true, and_self, and_true, true_and, and_false, false_and, oel_n, oel_s, decide_true, decide_false]⟩)
  · replace h9 := of_decide_eq_true (zb_eqF h9)
    refine rw_go hX [(12, .iload_n 2), (13, .i2l), (14, .lconst 0), (15, .ldc2_w 138)] (by decide +kernel) (Ps := []) (pc' := 18) (lv' := [(0, .ref 66), (1, .int xn), (2, .int xa), (3, .int xb), (4, .int xc), (5, .int xd), (6, .int xe)]) (st' := [.long 255, .long (Int64.ofNat 0), .long (xa.toInt64)]) (σ' := σ) rfl True.intro ?_
    refine rw_callSi hX (as := [.long (xa.toInt64), .long (Int64.ofNat 0), .long 255]) (rest := []) (m_inI _ _ _ (xa) (0) (255) _ _ _ rfl (by first | rfl | decide +kernel) (by first | rfl | decide +kernel)) (by decide +kernel) msX10_in (Or.inl lk10_105) rfl (by decide) (Nat.le_of_ble_eq_true rfl) rfl ?_
    intro r1 σ1 hr
    rw [hr.1, show r1 = bz (decide (0 ≤ xa ∧ xa ≤ 255)) from hr.2]
    clear hr σ1 r1
    refine rw_if hX (tgt := 75) (cnd := .eq) (off := 54) (by decide +kernel) (by decide) (fun h21 => ?_) (fun h21 => ?_)
    · replace h21 := of_decide_eq_false (zb_eqT h21)
      have e : pz (fdB xn xa xb xc xd xe) = false := pz_f fun z => h21 z.2.2.1
      refine rw_go hX [(75, .bipush (-2))] (by decide +kernel) (Ps := []) (pc' := 77) (lv' := [(0, .ref 66), (1, .int xn), (2, .int xa), (3, .int xb), (4, .int xc), (5, .int xd), (6, .int xe)]) (st' := [.int (-(nI 2))]) (σ' := σ) rfl True.intro ?_
      exact rw_iret hX (by decide +kernel) (⟨by simp only [aFeed, e, if_true, if_false, Bool.false_eq_true, and_self, and_true, true_and, and_false, false_and, oel_n, oel_s, decide_true, decide_false], by simp only [sFeed, e, if_true, if_false, Bool.false_eq_true, and_self, and_true, true_and, and_false, false_and, oel_n, oel_s, decide_true, decide_false]⟩)
    · replace h21 := of_decide_eq_true (zb_eqF h21)
      refine rw_go hX [(24, .iload_n 3), (25, .i2l), (26, .lconst 0), (27, .ldc2_w 138)] (by decide +kernel) (Ps := []) (pc' := 30) (lv' := [(0, .ref 66), (1, .int xn), (2, .int xa), (3, .int xb), (4, .int xc), (5, .int xd), (6, .int xe)]) (st' := [.long 255, .long (Int64.ofNat 0), .long (xb.toInt64)]) (σ' := σ) rfl True.intro ?_
      refine rw_callSi hX (as := [.long (xb.toInt64), .long (Int64.ofNat 0), .long 255]) (rest := []) (m_inI _ _ _ (xb) (0) (255) _ _ _ rfl (by first | rfl | decide +kernel) (by first | rfl | decide +kernel)) (by decide +kernel) msX10_in (Or.inl lk10_105) rfl (by decide) (Nat.le_of_ble_eq_true rfl) rfl ?_
      intro r1 σ1 hr
      rw [hr.1, show r1 = bz (decide (0 ≤ xb ∧ xb ≤ 255)) from hr.2]
      clear hr σ1 r1
      refine rw_if hX (tgt := 75) (cnd := .eq) (off := 42) (by decide +kernel) (by decide) (fun h33 => ?_) (fun h33 => ?_)
      · replace h33 := of_decide_eq_false (zb_eqT h33)
        have e : pz (fdB xn xa xb xc xd xe) = false := pz_f fun z => h33 z.2.2.2.1
        refine rw_go hX [(75, .bipush (-2))] (by decide +kernel) (Ps := []) (pc' := 77) (lv' := [(0, .ref 66), (1, .int xn), (2, .int xa), (3, .int xb), (4, .int xc), (5, .int xd), (6, .int xe)]) (st' := [.int (-(nI 2))]) (σ' := σ) rfl True.intro ?_
        exact rw_iret hX (by decide +kernel) (⟨by simp only [aFeed, e, if_true, if_false, Bool.false_eq_true, and_self, and_true, true_and, and_false, false_and, oel_n, oel_s, decide_true, decide_false], by simp only [sFeed, e, if_true, if_false, Bool.false_eq_true, and_self, and_true, true_and, and_false, false_and, oel_n, oel_s, decide_true, decide_false]⟩)
      · replace h33 := of_decide_eq_true (zb_eqF h33)
        refine rw_go hX [(36, .iload 4), (38, .i2l), (39, .lconst 0), (40, .ldc2_w 138)] (by decide +kernel) (Ps := []) (pc' := 43) (lv' := [(0, .ref 66), (1, .int xn), (2, .int xa), (3, .int xb), (4, .int xc), (5, .int xd), (6, .int xe)]) (st' := [.long 255, .long (Int64.ofNat 0), .long (xc.toInt64)]) (σ' := σ) rfl True.intro ?_
        refine rw_callSi hX (as := [.long (xc.toInt64), .long (Int64.ofNat 0), .long 255]) (rest := []) (m_inI _ _ _ (xc) (0) (255) _ _ _ rfl (by first | rfl | decide +kernel) (by first | rfl | decide +kernel)) (by decide +kernel) msX10_in (Or.inl lk10_105) rfl (by decide) (Nat.le_of_ble_eq_true rfl) rfl ?_
        intro r1 σ1 hr
        rw [hr.1, show r1 = bz (decide (0 ≤ xc ∧ xc ≤ 255)) from hr.2]
        clear hr σ1 r1
        refine rw_if hX (tgt := 75) (cnd := .eq) (off := 29) (by decide +kernel) (by decide) (fun h46 => ?_) (fun h46 => ?_)
        · replace h46 := of_decide_eq_false (zb_eqT h46)
          have e : pz (fdB xn xa xb xc xd xe) = false := pz_f fun z => h46 z.2.2.2.2.1
          refine rw_go hX [(75, .bipush (-2))] (by decide +kernel) (Ps := []) (pc' := 77) (lv' := [(0, .ref 66), (1, .int xn), (2, .int xa), (3, .int xb), (4, .int xc), (5, .int xd), (6, .int xe)]) (st' := [.int (-(nI 2))]) (σ' := σ) rfl True.intro ?_
          exact rw_iret hX (by decide +kernel) (⟨by simp only [aFeed, e, if_true, if_false, Bool.false_eq_true, and_self, and_true, true_and, and_false, false_and, oel_n, oel_s, decide_true, decide_false], by simp only [sFeed, e, if_true, if_false, Bool.false_eq_true, and_self, and_true, true_and, and_false, false_and, oel_n, oel_s, decide_true, decide_false]⟩)
        · replace h46 := of_decide_eq_true (zb_eqF h46)
          refine rw_go hX [(49, .iload 5), (51, .i2l), (52, .lconst 0), (53, .ldc2_w 138)] (by decide +kernel) (Ps := []) (pc' := 56) (lv' := [(0, .ref 66), (1, .int xn), (2, .int xa), (3, .int xb), (4, .int xc), (5, .int xd), (6, .int xe)]) (st' := [.long 255, .long (Int64.ofNat 0), .long (xd.toInt64)]) (σ' := σ) rfl True.intro ?_
          refine rw_callSi hX (as := [.long (xd.toInt64), .long (Int64.ofNat 0), .long 255]) (rest := []) (m_inI _ _ _ (xd) (0) (255) _ _ _ rfl (by first | rfl | decide +kernel) (by first | rfl | decide +kernel)) (by decide +kernel) msX10_in (Or.inl lk10_105) rfl (by decide) (Nat.le_of_ble_eq_true rfl) rfl ?_
          intro r1 σ1 hr
          rw [hr.1, show r1 = bz (decide (0 ≤ xd ∧ xd ≤ 255)) from hr.2]
          clear hr σ1 r1
          refine rw_if hX (tgt := 75) (cnd := .eq) (off := 16) (by decide +kernel) (by decide) (fun h59 => ?_) (fun h59 => ?_)
          · replace h59 := of_decide_eq_false (zb_eqT h59)
            have e : pz (fdB xn xa xb xc xd xe) = false := pz_f fun z => h59 z.2.2.2.2.2.1
            refine rw_go hX [(75, .bipush (-2))] (by decide +kernel) (Ps := []) (pc' := 77) (lv' := [(0, .ref 66), (1, .int xn), (2, .int xa), (3, .int xb), (4, .int xc), (5, .int xd), (6, .int xe)]) (st' := [.int (-(nI 2))]) (σ' := σ) rfl True.intro ?_
            exact rw_iret hX (by decide +kernel) (⟨by simp only [aFeed, e, if_true, if_false, Bool.false_eq_true, and_self, and_true, true_and, and_false, false_and, oel_n, oel_s, decide_true, decide_false], by simp only [sFeed, e, if_true, if_false, Bool.false_eq_true, and_self, and_true, true_and, and_false, false_and, oel_n, oel_s, decide_true, decide_false]⟩)
          · replace h59 := of_decide_eq_true (zb_eqF h59)
            refine rw_go hX [(62, .iload 6), (64, .i2l), (65, .lconst 0), (66, .ldc2_w 138)] (by decide +kernel) (Ps := []) (pc' := 69) (lv' := [(0, .ref 66), (1, .int xn), (2, .int xa), (3, .int xb), (4, .int xc), (5, .int xd), (6, .int xe)]) (st' := [.long 255, .long (Int64.ofNat 0), .long (xe.toInt64)]) (σ' := σ) rfl True.intro ?_
            refine rw_callSi hX (as := [.long (xe.toInt64), .long (Int64.ofNat 0), .long 255]) (rest := []) (m_inI _ _ _ (xe) (0) (255) _ _ _ rfl (by first | rfl | decide +kernel) (by first | rfl | decide +kernel)) (by decide +kernel) msX10_in (Or.inl lk10_105) rfl (by decide) (Nat.le_of_ble_eq_true rfl) rfl ?_
            intro r1 σ1 hr
            rw [hr.1, show r1 = bz (decide (0 ≤ xe ∧ xe ≤ 255)) from hr.2]
            clear hr σ1 r1
            refine rw_if hX (tgt := 78) (cnd := .ne) (off := 6) (by decide +kernel) (by decide) (fun h72 => ?_) (fun h72 => ?_)
            · replace h72 := of_decide_eq_true (zb_neT h72)
              have e : pz (fdB xn xa xb xc xd xe) = true := pz_t ⟨Int32.not_lt.mpr h9.1, Int32.not_lt.mpr h9.2, h21, h33, h46, h59, h72⟩
              obtain ⟨k, hk, rfl⟩ := rng (m := 5) (by omega) ⟨Int32.le_trans (nI_pos' (by omega)) h9.1, h9.2⟩
              have hk1 : 1 ≤ k := (nI_leI (by omega) (by omega)).mp h9.1
              have hck : (nI k).toNatClampNeg = k := nI_clamp (by omega)
              refine rw_go hX [(78, .aload_n 0), (79, .getfield 140)] (by decide +kernel) (Ps := []) (pc' := 82) (lv' := [(0, .ref 66), (1, .int (nI k)), (2, .int xa), (3, .int xb), (4, .int xc), (5, .int xd), (6, .int xe)]) (st' := [.int (σ 66 6)]) (σ' := σ) rfl True.intro ?_
              rw [show (σ 66 6) = nI t from (by rw [ht])]
              refine rw_go hX [(82, .iload_n 1), (83, .iadd)] (by decide +kernel) (Ps := []) (pc' := 84) (lv' := [(0, .ref 66), (1, .int (nI k)), (2, .int xa), (3, .int xb), (4, .int xc), (5, .int xd), (6, .int xe)]) (st' := [.int (nI t + nI k)]) (σ' := σ) rfl True.intro ?_
              rw [show (nI t + nI k) = nI (t + k) from nI_add _ _]
              refine rw_go hX [(84, .bipush 50)] (by decide +kernel) (Ps := []) (pc' := 86) (lv' := [(0, .ref 66), (1, .int (nI k)), (2, .int xa), (3, .int xb), (4, .int xc), (5, .int xd), (6, .int xe)]) (st' := [.int (nI 50), .int (nI (t + k))]) (σ' := σ) rfl True.intro ?_
              refine rw_icmp hX (tgt := 92) (cnd := .le) (off := 6) (by decide +kernel) (by decide) (fun h86 => ?_) (fun h86 => ?_)
              · replace h86 := c2_leT h86
                have hkt : nI k ≤ nI (50 - t) := nI_le (by omega) (by omega)
                refine rw_go hX [(92, .iconst 0), (93, .istore 7)] (by decide +kernel) (Ps := []) (pc' := 95) (lv' := [(0, .ref 66), (1, .int (nI k)), (2, .int xa), (3, .int xb), (4, .int xc), (5, .int xd), (6, .int xe), (7, .int (nI 0))]) (st' := []) (σ' := σ) rfl True.intro ?_
                have L95 : ∀ (μ95 : Nat) (j : Nat), μ95 = k - j → (j ≤ k) → RW E G 1 8 (QI E G (fun r σ' => r = aFeed t (nI k) xa xb xc xd xe ∧ σ' = sFeed 72 66 6 σ t (nI k) xa xb xc xd xe)) 95 [(0, .ref 66), (1, .int (nI k)), (2, .int xa), (3, .int xb), (4, .int xc), (5, .int xd), (6, .int xe), (7, .int (nI j))] [] (tpM σ t (j) xa xb xc xd xe) := by
                  intro μ95
                  induction μ95 using Nat.strongRecOn with
                  | ind μ95 ih95 =>
                    intro j hμ95 hj
                    refine rw_go hX [(95, .iload 7), (97, .iload_n 1)] (by decide +kernel) (Ps := []) (pc' := 98) (lv' := [(0, .ref 66), (1, .int (nI k)), (2, .int xa), (3, .int xb), (4, .int xc), (5, .int xd), (6, .int xe), (7, .int (nI j))]) (st' := [.int (nI k), .int (nI j)]) (σ' := tpM σ t (j) xa xb xc xd xe) rfl True.intro ?_
                    refine rw_icmp hX (tgt := 169) (cnd := .ge) (off := 71) (by decide +kernel) (by decide) (fun h98 => ?_) (fun h98 => ?_)
                    · replace h98 := c2_geT h98
                      have ej : j = k := by omega
                      refine rw_go hX [(169, .aload_n 0), (170, .getfield 140)] (by decide +kernel) (Ps := []) (pc' := 173) (lv' := [(0, .ref 66), (1, .int (nI k)), (2, .int xa), (3, .int xb), (4, .int xc), (5, .int xd), (6, .int xe), (7, .int (nI j))]) (st' := [.int ((tpM σ t (j) xa xb xc xd xe) 66 6)]) (σ' := tpM σ t (j) xa xb xc xd xe) rfl True.intro ?_
                      rw [show ((tpM σ t (j) xa xb xc xd xe) 66 6) = nI (t + j) from (by rw [tpM_6 _ _ _ _ _ _ _ _])]
                      exact rw_iret hX (by decide +kernel) (⟨by simp only [aFeed, e, eq_true hkt, hck, ej, if_true, if_false, Bool.false_eq_true, and_self, and_true, true_and, and_false, false_and, oel_n, oel_s, decide_true, decide_false], by simp only [sFeed, e, eq_true hkt, hck, ej, if_true, if_false, Bool.false_eq_true, and_self, and_true, true_and, and_false, false_and, oel_n, oel_s, decide_true, decide_false]; rfl⟩)
                    · replace h98 := c2_geF h98
                      refine rw_go hX [(101, .aload_n 0), (102, .getfield 25), (105, .aload_n 0), (106, .getfield 140)] (by decide +kernel) (Ps := []) (pc' := 109) (lv' := [(0, .ref 66), (1, .int (nI k)), (2, .int xa), (3, .int xb), (4, .int xc), (5, .int xd), (6, .int xe), (7, .int (nI j))]) (st' := [.int ((tpM σ t (j) xa xb xc xd xe) 66 6), .ref 72]) (σ' := tpM σ t (j) xa xb xc xd xe) rfl True.intro ?_
                      rw [show ((tpM σ t (j) xa xb xc xd xe) 66 6) = nI (t + j) from (by rw [tpM_6 _ _ _ _ _ _ _ _])]
                      refine rw_go hX [(109, .iload 7)] (by decide +kernel) (Ps := []) (pc' := 111) (lv' := [(0, .ref 66), (1, .int (nI k)), (2, .int xa), (3, .int xb), (4, .int xc), (5, .int xd), (6, .int xe), (7, .int (nI j))]) (st' := [.int (nI j), .int (nI (t + j)), .ref 72]) (σ' := tpM σ t (j) xa xb xc xd xe) rfl True.intro ?_
                      refine rw_if hX (tgt := 118) (cnd := .ne) (off := 7) (by decide +kernel) (by decide) (fun h111 => ?_) (fun h111 => ?_)
                      · replace h111 := zn_neT h111
                        refine rw_go hX [(118, .iload 7), (120, .iconst 1)] (by decide +kernel) (Ps := []) (pc' := 121) (lv' := [(0, .ref 66), (1, .int (nI k)), (2, .int xa), (3, .int xb), (4, .int xc), (5, .int xd), (6, .int xe), (7, .int (nI j))]) (st' := [.int (nI 1), .int (nI j), .int (nI (t + j)), .ref 72]) (σ' := tpM σ t (j) xa xb xc xd xe) rfl True.intro ?_
                        refine rw_icmp hX (tgt := 128) (cnd := .ne) (off := 7) (by decide +kernel) (by decide) (fun h121 => ?_) (fun h121 => ?_)
                        · replace h121 := c2_neT h121
                          refine rw_go hX [(128, .iload 7), (130, .iconst 2)] (by decide +kernel) (Ps := []) (pc' := 131) (lv' := [(0, .ref 66), (1, .int (nI k)), (2, .int xa), (3, .int xb), (4, .int xc), (5, .int xd), (6, .int xe), (7, .int (nI j))]) (st' := [.int (nI 2), .int (nI j), .int (nI (t + j)), .ref 72]) (σ' := tpM σ t (j) xa xb xc xd xe) rfl True.intro ?_
                          refine rw_icmp hX (tgt := 139) (cnd := .ne) (off := 8) (by decide +kernel) (by decide) (fun h131 => ?_) (fun h131 => ?_)
                          · replace h131 := c2_neT h131
                            refine rw_go hX [(139, .iload 7), (141, .iconst 3)] (by decide +kernel) (Ps := []) (pc' := 142) (lv' := [(0, .ref 66), (1, .int (nI k)), (2, .int xa), (3, .int xb), (4, .int xc), (5, .int xd), (6, .int xe), (7, .int (nI j))]) (st' := [.int (nI 3), .int (nI j), .int (nI (t + j)), .ref 72]) (σ' := tpM σ t (j) xa xb xc xd xe) rfl True.intro ?_
                            refine rw_icmp hX (tgt := 150) (cnd := .ne) (off := 8) (by decide +kernel) (by decide) (fun h142 => ?_) (fun h142 => ?_)
                            · replace h142 := c2_neT h142
                              refine rw_go hX [(150, .iload 6), (152, .iastore)] (by decide +kernel) (Ps := [vp_in (nI (t + j)) 50]) (pc' := 153) (lv' := [(0, .ref 66), (1, .int (nI k)), (2, .int xa), (3, .int xb), (4, .int xc), (5, .int xd), (6, .int xe), (7, .int (nI j))]) (st' := []) (σ' := sw (tpM σ t (j) xa xb xc xd xe) 72 (nI (t + j)).toNatClampNeg xe) rfl (vp_in_nI (by omega) (by omega)) ?_
                              rw [show (sw (tpM σ t (j) xa xb xc xd xe) 72 (nI (t + j)).toNatClampNeg xe) = sw (tpM σ t (j) xa xb xc xd xe) 72 (t + j) xe from (by rw [nI_clamp (by omega)])]
                              refine rw_go hX [(153, .aload_n 0), (154, .dup), (155, .getfield 140)] (by decide +kernel) (Ps := []) (pc' := 158) (lv' := [(0, .ref 66), (1, .int (nI k)), (2, .int xa), (3, .int xb), (4, .int xc), (5, .int xd), (6, .int xe), (7, .int (nI j))]) (st' := [.int ((sw (tpM σ t (j) xa xb xc xd xe) 72 (t + j) xe) 66 6), .ref 66]) (σ' := sw (tpM σ t (j) xa xb xc xd xe) 72 (t + j) xe) rfl True.intro ?_
                              rw [show ((sw (tpM σ t (j) xa xb xc xd xe) 72 (t + j) xe) 66 6) = nI (t + j) from (by rw [sw_ne _ _ _ (by decide), tpM_6 _ _ _ _ _ _ _ _])]
                              refine rw_go hX [(158, .iconst 1), (159, .iadd)] (by decide +kernel) (Ps := []) (pc' := 160) (lv' := [(0, .ref 66), (1, .int (nI k)), (2, .int xa), (3, .int xb), (4, .int xc), (5, .int xd), (6, .int xe), (7, .int (nI j))]) (st' := [.int (nI (t + j) + nI 1), .ref 66]) (σ' := sw (tpM σ t (j) xa xb xc xd xe) 72 (t + j) xe) rfl True.intro ?_
                              rw [show (nI (t + j) + nI 1) = nI (t + j + 1) from nI_add _ _]
                              refine rw_go hX [(160, .putfield 140), (163, .iinc 7 1)] (by decide +kernel) (Ps := []) (pc' := 166) (lv' := [(0, .ref 66), (1, .int (nI k)), (2, .int xa), (3, .int xb), (4, .int xc), (5, .int xd), (6, .int xe), (7, .int (nI j + nI 1))]) (st' := []) (σ' := sw (sw (tpM σ t (j) xa xb xc xd xe) 72 (t + j) xe) 66 6 (nI (t + j + 1))) rfl True.intro ?_
                              rw [show (nI j + nI 1) = nI (j + 1) from nI_add _ _]
                              refine rw_go hX [(166, .goto (-71))] (by decide +kernel) (Ps := []) (pc' := 95) (lv' := [(0, .ref 66), (1, .int (nI k)), (2, .int xa), (3, .int xb), (4, .int xc), (5, .int xd), (6, .int xe), (7, .int (nI (j + 1)))]) (st' := []) (σ' := sw (sw (tpM σ t (j) xa xb xc xd xe) 72 (t + j) xe) 66 6 (nI (t + j + 1))) rfl True.intro ?_
                              refine rw_lsub (ks := [0, 1, 2, 3, 4, 5, 6, 7]) (lv' := [(0, .ref 66), (1, .int (nI k)), (2, .int xa), (3, .int xb), (4, .int xc), (5, .int xd), (6, .int xe), (7, .int (nI (j + 1)))]) rfl ?_
                              rw [tpM_1 _ _ _ _ _ _ _ _ (show xe = sel5 xa xb xc xd xe j from by unfold sel5; rw [if_neg (by omega), if_neg (by omega), if_neg (by omega), if_neg (by omega)])]
                              exact ih95 (k - (j + 1)) (by omega) (j + 1) rfl (by omega)
                            · replace h142 := c2_neF h142
                              refine rw_go hX [(145, .iload 5), (147, .goto 5), (152, .iastore)] (by decide +kernel) (Ps := [vp_in (nI (t + j)) 50]) (pc' := 153) (lv' := [(0, .ref 66), (1, .int (nI k)), (2, .int xa), (3, .int xb), (4, .int xc), (5, .int xd), (6, .int xe), (7, .int (nI j))]) (st' := []) (σ' := sw (tpM σ t (j) xa xb xc xd xe) 72 (nI (t + j)).toNatClampNeg xd) rfl (vp_in_nI (by omega) (by omega)) ?_
                              rw [show (sw (tpM σ t (j) xa xb xc xd xe) 72 (nI (t + j)).toNatClampNeg xd) = sw (tpM σ t (j) xa xb xc xd xe) 72 (t + j) xd from (by rw [nI_clamp (by omega)])]
                              refine rw_go hX [(153, .aload_n 0), (154, .dup), (155, .getfield 140)] (by decide +kernel) (Ps := []) (pc' := 158) (lv' := [(0, .ref 66), (1, .int (nI k)), (2, .int xa), (3, .int xb), (4, .int xc), (5, .int xd), (6, .int xe), (7, .int (nI j))]) (st' := [.int ((sw (tpM σ t (j) xa xb xc xd xe) 72 (t + j) xd) 66 6), .ref 66]) (σ' := sw (tpM σ t (j) xa xb xc xd xe) 72 (t + j) xd) rfl True.intro ?_
                              rw [show ((sw (tpM σ t (j) xa xb xc xd xe) 72 (t + j) xd) 66 6) = nI (t + j) from (by rw [sw_ne _ _ _ (by decide), tpM_6 _ _ _ _ _ _ _ _])]
                              refine rw_go hX [(158, .iconst 1), (159, .iadd)] (by decide +kernel) (Ps := []) (pc' := 160) (lv' := [(0, .ref 66), (1, .int (nI k)), (2, .int xa), (3, .int xb), (4, .int xc), (5, .int xd), (6, .int xe), (7, .int (nI j))]) (st' := [.int (nI (t + j) + nI 1), .ref 66]) (σ' := sw (tpM σ t (j) xa xb xc xd xe) 72 (t + j) xd) rfl True.intro ?_
                              rw [show (nI (t + j) + nI 1) = nI (t + j + 1) from nI_add _ _]
                              refine rw_go hX [(160, .putfield 140), (163, .iinc 7 1)] (by decide +kernel) (Ps := []) (pc' := 166) (lv' := [(0, .ref 66), (1, .int (nI k)), (2, .int xa), (3, .int xb), (4, .int xc), (5, .int xd), (6, .int xe), (7, .int (nI j + nI 1))]) (st' := []) (σ' := sw (sw (tpM σ t (j) xa xb xc xd xe) 72 (t + j) xd) 66 6 (nI (t + j + 1))) rfl True.intro ?_
                              rw [show (nI j + nI 1) = nI (j + 1) from nI_add _ _]
                              refine rw_go hX [(166, .goto (-71))] (by decide +kernel) (Ps := []) (pc' := 95) (lv' := [(0, .ref 66), (1, .int (nI k)), (2, .int xa), (3, .int xb), (4, .int xc), (5, .int xd), (6, .int xe), (7, .int (nI (j + 1)))]) (st' := []) (σ' := sw (sw (tpM σ t (j) xa xb xc xd xe) 72 (t + j) xd) 66 6 (nI (t + j + 1))) rfl True.intro ?_
                              refine rw_lsub (ks := [0, 1, 2, 3, 4, 5, 6, 7]) (lv' := [(0, .ref 66), (1, .int (nI k)), (2, .int xa), (3, .int xb), (4, .int xc), (5, .int xd), (6, .int xe), (7, .int (nI (j + 1)))]) rfl ?_
                              rw [tpM_1 _ _ _ _ _ _ _ _ (show xd = sel5 xa xb xc xd xe j from by unfold sel5; rw [if_neg (by omega), if_neg (by omega), if_neg (by omega), if_pos (by omega)])]
                              exact ih95 (k - (j + 1)) (by omega) (j + 1) rfl (by omega)
                          · replace h131 := c2_neF h131
                            refine rw_go hX [(134, .iload 4), (136, .goto 16), (152, .iastore)] (by decide +kernel) (Ps := [vp_in (nI (t + j)) 50]) (pc' := 153) (lv' := [(0, .ref 66), (1, .int (nI k)), (2, .int xa), (3, .int xb), (4, .int xc), (5, .int xd), (6, .int xe), (7, .int (nI j))]) (st' := []) (σ' := sw (tpM σ t (j) xa xb xc xd xe) 72 (nI (t + j)).toNatClampNeg xc) rfl (vp_in_nI (by omega) (by omega)) ?_
                            rw [show (sw (tpM σ t (j) xa xb xc xd xe) 72 (nI (t + j)).toNatClampNeg xc) = sw (tpM σ t (j) xa xb xc xd xe) 72 (t + j) xc from (by rw [nI_clamp (by omega)])]
                            refine rw_go hX [(153, .aload_n 0), (154, .dup), (155, .getfield 140)] (by decide +kernel) (Ps := []) (pc' := 158) (lv' := [(0, .ref 66), (1, .int (nI k)), (2, .int xa), (3, .int xb), (4, .int xc), (5, .int xd), (6, .int xe), (7, .int (nI j))]) (st' := [.int ((sw (tpM σ t (j) xa xb xc xd xe) 72 (t + j) xc) 66 6), .ref 66]) (σ' := sw (tpM σ t (j) xa xb xc xd xe) 72 (t + j) xc) rfl True.intro ?_
                            rw [show ((sw (tpM σ t (j) xa xb xc xd xe) 72 (t + j) xc) 66 6) = nI (t + j) from (by rw [sw_ne _ _ _ (by decide), tpM_6 _ _ _ _ _ _ _ _])]
                            refine rw_go hX [(158, .iconst 1), (159, .iadd)] (by decide +kernel) (Ps := []) (pc' := 160) (lv' := [(0, .ref 66), (1, .int (nI k)), (2, .int xa), (3, .int xb), (4, .int xc), (5, .int xd), (6, .int xe), (7, .int (nI j))]) (st' := [.int (nI (t + j) + nI 1), .ref 66]) (σ' := sw (tpM σ t (j) xa xb xc xd xe) 72 (t + j) xc) rfl True.intro ?_
                            rw [show (nI (t + j) + nI 1) = nI (t + j + 1) from nI_add _ _]
                            refine rw_go hX [(160, .putfield 140), (163, .iinc 7 1)] (by decide +kernel) (Ps := []) (pc' := 166) (lv' := [(0, .ref 66), (1, .int (nI k)), (2, .int xa), (3, .int xb), (4, .int xc), (5, .int xd), (6, .int xe), (7, .int (nI j + nI 1))]) (st' := []) (σ' := sw (sw (tpM σ t (j) xa xb xc xd xe) 72 (t + j) xc) 66 6 (nI (t + j + 1))) rfl True.intro ?_
                            rw [show (nI j + nI 1) = nI (j + 1) from nI_add _ _]
                            refine rw_go hX [(166, .goto (-71))] (by decide +kernel) (Ps := []) (pc' := 95) (lv' := [(0, .ref 66), (1, .int (nI k)), (2, .int xa), (3, .int xb), (4, .int xc), (5, .int xd), (6, .int xe), (7, .int (nI (j + 1)))]) (st' := []) (σ' := sw (sw (tpM σ t (j) xa xb xc xd xe) 72 (t + j) xc) 66 6 (nI (t + j + 1))) rfl True.intro ?_
                            refine rw_lsub (ks := [0, 1, 2, 3, 4, 5, 6, 7]) (lv' := [(0, .ref 66), (1, .int (nI k)), (2, .int xa), (3, .int xb), (4, .int xc), (5, .int xd), (6, .int xe), (7, .int (nI (j + 1)))]) rfl ?_
                            rw [tpM_1 _ _ _ _ _ _ _ _ (show xc = sel5 xa xb xc xd xe j from by unfold sel5; rw [if_neg (by omega), if_neg (by omega), if_pos (by omega)])]
                            exact ih95 (k - (j + 1)) (by omega) (j + 1) rfl (by omega)
                        · replace h121 := c2_neF h121
                          refine rw_go hX [(124, .iload_n 3), (125, .goto 27), (152, .iastore)] (by decide +kernel) (Ps := [vp_in (nI (t + j)) 50]) (pc' := 153) (lv' := [(0, .ref 66), (1, .int (nI k)), (2, .int xa), (3, .int xb), (4, .int xc), (5, .int xd), (6, .int xe), (7, .int (nI j))]) (st' := []) (σ' := sw (tpM σ t (j) xa xb xc xd xe) 72 (nI (t + j)).toNatClampNeg xb) rfl (vp_in_nI (by omega) (by omega)) ?_
                          rw [show (sw (tpM σ t (j) xa xb xc xd xe) 72 (nI (t + j)).toNatClampNeg xb) = sw (tpM σ t (j) xa xb xc xd xe) 72 (t + j) xb from (by rw [nI_clamp (by omega)])]
                          refine rw_go hX [(153, .aload_n 0), (154, .dup), (155, .getfield 140)] (by decide +kernel) (Ps := []) (pc' := 158) (lv' := [(0, .ref 66), (1, .int (nI k)), (2, .int xa), (3, .int xb), (4, .int xc), (5, .int xd), (6, .int xe), (7, .int (nI j))]) (st' := [.int ((sw (tpM σ t (j) xa xb xc xd xe) 72 (t + j) xb) 66 6), .ref 66]) (σ' := sw (tpM σ t (j) xa xb xc xd xe) 72 (t + j) xb) rfl True.intro ?_
                          rw [show ((sw (tpM σ t (j) xa xb xc xd xe) 72 (t + j) xb) 66 6) = nI (t + j) from (by rw [sw_ne _ _ _ (by decide), tpM_6 _ _ _ _ _ _ _ _])]
                          refine rw_go hX [(158, .iconst 1), (159, .iadd)] (by decide +kernel) (Ps := []) (pc' := 160) (lv' := [(0, .ref 66), (1, .int (nI k)), (2, .int xa), (3, .int xb), (4, .int xc), (5, .int xd), (6, .int xe), (7, .int (nI j))]) (st' := [.int (nI (t + j) + nI 1), .ref 66]) (σ' := sw (tpM σ t (j) xa xb xc xd xe) 72 (t + j) xb) rfl True.intro ?_
                          rw [show (nI (t + j) + nI 1) = nI (t + j + 1) from nI_add _ _]
                          refine rw_go hX [(160, .putfield 140), (163, .iinc 7 1)] (by decide +kernel) (Ps := []) (pc' := 166) (lv' := [(0, .ref 66), (1, .int (nI k)), (2, .int xa), (3, .int xb), (4, .int xc), (5, .int xd), (6, .int xe), (7, .int (nI j + nI 1))]) (st' := []) (σ' := sw (sw (tpM σ t (j) xa xb xc xd xe) 72 (t + j) xb) 66 6 (nI (t + j + 1))) rfl True.intro ?_
                          rw [show (nI j + nI 1) = nI (j + 1) from nI_add _ _]
                          refine rw_go hX [(166, .goto (-71))] (by decide +kernel) (Ps := []) (pc' := 95) (lv' := [(0, .ref 66), (1, .int (nI k)), (2, .int xa), (3, .int xb), (4, .int xc), (5, .int xd), (6, .int xe), (7, .int (nI (j + 1)))]) (st' := []) (σ' := sw (sw (tpM σ t (j) xa xb xc xd xe) 72 (t + j) xb) 66 6 (nI (t + j + 1))) rfl True.intro ?_
                          refine rw_lsub (ks := [0, 1, 2, 3, 4, 5, 6, 7]) (lv' := [(0, .ref 66), (1, .int (nI k)), (2, .int xa), (3, .int xb), (4, .int xc), (5, .int xd), (6, .int xe), (7, .int (nI (j + 1)))]) rfl ?_
                          rw [tpM_1 _ _ _ _ _ _ _ _ (show xb = sel5 xa xb xc xd xe j from by unfold sel5; rw [if_neg (by omega), if_pos (by omega)])]
                          exact ih95 (k - (j + 1)) (by omega) (j + 1) rfl (by omega)
                      · replace h111 := zn_neF h111
                        refine rw_go hX [(114, .iload_n 2), (115, .goto 37), (152, .iastore)] (by decide +kernel) (Ps := [vp_in (nI (t + j)) 50]) (pc' := 153) (lv' := [(0, .ref 66), (1, .int (nI k)), (2, .int xa), (3, .int xb), (4, .int xc), (5, .int xd), (6, .int xe), (7, .int (nI j))]) (st' := []) (σ' := sw (tpM σ t (j) xa xb xc xd xe) 72 (nI (t + j)).toNatClampNeg xa) rfl (vp_in_nI (by omega) (by omega)) ?_
                        rw [show (sw (tpM σ t (j) xa xb xc xd xe) 72 (nI (t + j)).toNatClampNeg xa) = sw (tpM σ t (j) xa xb xc xd xe) 72 (t + j) xa from (by rw [nI_clamp (by omega)])]
                        refine rw_go hX [(153, .aload_n 0), (154, .dup), (155, .getfield 140)] (by decide +kernel) (Ps := []) (pc' := 158) (lv' := [(0, .ref 66), (1, .int (nI k)), (2, .int xa), (3, .int xb), (4, .int xc), (5, .int xd), (6, .int xe), (7, .int (nI j))]) (st' := [.int ((sw (tpM σ t (j) xa xb xc xd xe) 72 (t + j) xa) 66 6), .ref 66]) (σ' := sw (tpM σ t (j) xa xb xc xd xe) 72 (t + j) xa) rfl True.intro ?_
                        rw [show ((sw (tpM σ t (j) xa xb xc xd xe) 72 (t + j) xa) 66 6) = nI (t + j) from (by rw [sw_ne _ _ _ (by decide), tpM_6 _ _ _ _ _ _ _ _])]
                        refine rw_go hX [(158, .iconst 1), (159, .iadd)] (by decide +kernel) (Ps := []) (pc' := 160) (lv' := [(0, .ref 66), (1, .int (nI k)), (2, .int xa), (3, .int xb), (4, .int xc), (5, .int xd), (6, .int xe), (7, .int (nI j))]) (st' := [.int (nI (t + j) + nI 1), .ref 66]) (σ' := sw (tpM σ t (j) xa xb xc xd xe) 72 (t + j) xa) rfl True.intro ?_
                        rw [show (nI (t + j) + nI 1) = nI (t + j + 1) from nI_add _ _]
                        refine rw_go hX [(160, .putfield 140), (163, .iinc 7 1)] (by decide +kernel) (Ps := []) (pc' := 166) (lv' := [(0, .ref 66), (1, .int (nI k)), (2, .int xa), (3, .int xb), (4, .int xc), (5, .int xd), (6, .int xe), (7, .int (nI j + nI 1))]) (st' := []) (σ' := sw (sw (tpM σ t (j) xa xb xc xd xe) 72 (t + j) xa) 66 6 (nI (t + j + 1))) rfl True.intro ?_
                        rw [show (nI j + nI 1) = nI (j + 1) from nI_add _ _]
                        refine rw_go hX [(166, .goto (-71))] (by decide +kernel) (Ps := []) (pc' := 95) (lv' := [(0, .ref 66), (1, .int (nI k)), (2, .int xa), (3, .int xb), (4, .int xc), (5, .int xd), (6, .int xe), (7, .int (nI (j + 1)))]) (st' := []) (σ' := sw (sw (tpM σ t (j) xa xb xc xd xe) 72 (t + j) xa) 66 6 (nI (t + j + 1))) rfl True.intro ?_
                        refine rw_lsub (ks := [0, 1, 2, 3, 4, 5, 6, 7]) (lv' := [(0, .ref 66), (1, .int (nI k)), (2, .int xa), (3, .int xb), (4, .int xc), (5, .int xd), (6, .int xe), (7, .int (nI (j + 1)))]) rfl ?_
                        rw [tpM_1 _ _ _ _ _ _ _ _ (show xa = sel5 xa xb xc xd xe j from by unfold sel5; rw [if_pos (by omega)])]
                        exact ih95 (k - (j + 1)) (by omega) (j + 1) rfl (by omega)
                refine rw_lsub (ks := [0, 1, 2, 3, 4, 5, 6, 7]) (lv' := [(0, .ref 66), (1, .int (nI k)), (2, .int xa), (3, .int xb), (4, .int xc), (5, .int xd), (6, .int xe), (7, .int (nI 0))]) rfl ?_
                have q := L95 k 0 rfl (by omega)
                rw [tpM_0 ht] at q
                exact q
              · replace h86 := c2_leF h86
                have hkt : ¬ nI k ≤ nI (50 - t) := nI_ge (by omega) (by omega)
                refine rw_go hX [(89, .bipush (-4))] (by decide +kernel) (Ps := []) (pc' := 91) (lv' := [(0, .ref 66), (1, .int (nI k)), (2, .int xa), (3, .int xb), (4, .int xc), (5, .int xd), (6, .int xe)]) (st' := [.int (-(nI 4))]) (σ' := σ) rfl True.intro ?_
                exact rw_iret hX (by decide +kernel) (⟨by simp only [aFeed, e, eq_false hkt, if_true, if_false, Bool.false_eq_true, and_self, and_true, true_and, and_false, false_and, oel_n, oel_s, decide_true, decide_false], by simp only [sFeed, e, eq_false hkt, if_true, if_false, Bool.false_eq_true, and_self, and_true, true_and, and_false, false_and, oel_n, oel_s, decide_true, decide_false]⟩)
            · replace h72 := of_decide_eq_false (zb_neF h72)
              have e : pz (fdB xn xa xb xc xd xe) = false := pz_f fun z => h72 z.2.2.2.2.2.2
              refine rw_go hX [(75, .bipush (-2))] (by decide +kernel) (Ps := []) (pc' := 77) (lv' := [(0, .ref 66), (1, .int xn), (2, .int xa), (3, .int xb), (4, .int xc), (5, .int xd), (6, .int xe)]) (st' := [.int (-(nI 2))]) (σ' := σ) rfl True.intro ?_
              exact rw_iret hX (by decide +kernel) (⟨by simp only [aFeed, e, if_true, if_false, Bool.false_eq_true, and_self, and_true, true_and, and_false, false_and, oel_n, oel_s, decide_true, decide_false], by simp only [sFeed, e, if_true, if_false, Bool.false_eq_true, and_self, and_true, true_and, and_false, false_and, oel_n, oel_s, decide_true, decide_false]⟩)
set_option maxRecDepth 20000 in
set_option maxHeartbeats 4000000 in
theorem m_isRaw (l : Launch) (G : Gl) (σ : Mm) (t : Nat) (ht : σ 66 6 = nI t) (ht5 : t ≤ 50) : AMi l G 2 mX10_isRaw [.ref 66] σ (fun r σ' => σ' = σ ∧ ((rawA (σ 72) t ∧ r = nI 1) ∨ (¬ rawA (σ 72) t ∧ r = nI 0))) := by
  refine rw_inI 10 (by decide +kernel) rfl rfl ?_
  intro E hE hX
  subst hE
  refine rw_go hX [(0, .iconst 0), (1, .istore_n 1)] (by decide +kernel) (Ps := []) (pc' := 2) (lv' := [(0, .ref 66), (1, .int (nI 0))]) (st' := []) (σ' := σ) rfl True.intro ?_
  have L2 : ∀ (μ2 : Nat) (i : Nat), μ2 = t - i → (i ≤ t) → (∀ j, j < i → rawB (σ 72 j) = true) → RW E G 2 2 (QI E G (fun r σ' => σ' = σ ∧ ((rawA (σ 72) t ∧ r = nI 1) ∨ (¬ rawA (σ 72) t ∧ r = nI 0)))) 2 [(0, .ref 66), (1, .int (nI i))] [] σ := by
    intro μ2
    induction μ2 using Nat.strongRecOn with
    | ind μ2 ih2 =>
      intro i hμ2 hi hr0
      refine rw_go hX [(2, .iload_n 1), (3, .aload_n 0), (4, .getfield 140)] (by decide +kernel) (Ps := []) (pc' := 7) (lv' := [(0, .ref 66), (1, .int (nI i))]) (st' := [.int (σ 66 6), .int (nI i)]) (σ' := σ) rfl True.intro ?_
      rw [show (σ 66 6) = nI t from (by rw [ht])]
      refine rw_icmp hX (tgt := 75) (cnd := .ge) (off := 68) (by decide +kernel) (by decide) (fun h7 => ?_) (fun h7 => ?_)
      · replace h7 := c2_geT h7
        have e : i = t := by omega
        refine rw_go hX [(75, .aload_n 0), (76, .getfield 140)] (by decide +kernel) (Ps := []) (pc' := 79) (lv' := [(0, .ref 66), (1, .int (nI i))]) (st' := [.int (σ 66 6)]) (σ' := σ) rfl True.intro ?_
        rw [show (σ 66 6) = nI t from (by rw [ht])]
        refine rw_if hX (tgt := 86) (cnd := .le) (off := 7) (by decide +kernel) (by decide) (fun h79 => ?_) (fun h79 => ?_)
        · replace h79 := zn_leT h79
          refine rw_go hX [(86, .iconst 0)] (by decide +kernel) (Ps := []) (pc' := 87) (lv' := [(0, .ref 66), (1, .int (nI i))]) (st' := [.int (nI 0)]) (σ' := σ) rfl True.intro ?_
          exact rw_zret hX (by decide +kernel) (by first | exact Or.inl rfl | exact Or.inr rfl) (⟨rfl, by first | exact Or.inl ⟨⟨by omega, by rw [← e]; exact hr0⟩, rfl⟩ | exact Or.inr ⟨fun z => by have := z.1; omega, rfl⟩⟩)
        · replace h79 := zn_leF h79
          refine rw_go hX [(82, .iconst 1), (83, .goto 4)] (by decide +kernel) (Ps := []) (pc' := 87) (lv' := [(0, .ref 66), (1, .int (nI i))]) (st' := [.int (nI 1)]) (σ' := σ) rfl True.intro ?_
          exact rw_zret hX (by decide +kernel) (by first | exact Or.inl rfl | exact Or.inr rfl) (⟨rfl, by first | exact Or.inl ⟨⟨by omega, by rw [← e]; exact hr0⟩, rfl⟩ | exact Or.inr ⟨fun z => by have := z.1; omega, rfl⟩⟩)
      · replace h7 := c2_geF h7
        refine rw_go hX [(10, .aload_n 0), (11, .getfield 25), (14, .iload_n 1), (15, .iaload)] (by decide +kernel) (Ps := [vp_in (nI i) 50]) (pc' := 16) (lv' := [(0, .ref 66), (1, .int (nI i))]) (st' := [.int (σ 72 (nI i).toNatClampNeg)]) (σ' := σ) rfl (vp_in_nI (by omega) (by omega)) ?_
        rw [show (σ 72 (nI i).toNatClampNeg) = σ 72 i from (by rw [nI_clamp (by omega)])]
        refine rw_callSi hX (as := [.int (σ 72 i)]) (rest := []) (m_isLetter _ _ _ (σ 72 i)) (by decide +kernel) msX10_isLetter (Or.inl lk10_151) rfl (by decide) (Nat.le_of_ble_eq_true rfl) rfl ?_
        intro r1 σ1 hr
        rw [hr.1, show r1 = bz (isL (σ 72 i)) from hr.2]
        clear hr σ1 r1
        refine rw_if hX (tgt := 69) (cnd := .ne) (off := 50) (by decide +kernel) (by decide) (fun h19 => ?_) (fun h19 => ?_)
        · replace h19 := zb_neT h19
          have hri : rawB (σ 72 i) = true := by unfold rawB; simp only [h19, Bool.true_or, Bool.or_true]
          refine rw_go hX [(69, .iinc 1 1)] (by decide +kernel) (Ps := []) (pc' := 72) (lv' := [(0, .ref 66), (1, .int (nI i + nI 1))]) (st' := []) (σ' := σ) rfl True.intro ?_
          rw [show (nI i + nI 1) = nI (i + 1) from nI_add _ _]
          refine rw_go hX [(72, .goto (-70))] (by decide +kernel) (Ps := []) (pc' := 2) (lv' := [(0, .ref 66), (1, .int (nI (i + 1)))]) (st' := []) (σ' := σ) rfl True.intro ?_
          refine rw_lsub (ks := [0, 1]) (lv' := [(0, .ref 66), (1, .int (nI (i + 1)))]) rfl ?_
          exact ih2 (t - (i + 1)) (by omega) (i + 1) rfl (by omega) (fun j hj => by
            rcases Nat.lt_or_ge j i with q | q
            · exact hr0 j q
            · rw [show j = i by omega]; exact hri)
        · replace h19 := zb_neF h19
          refine rw_go hX [(22, .aload_n 0), (23, .getfield 25), (26, .iload_n 1), (27, .iaload)] (by decide +kernel) (Ps := [vp_in (nI i) 50]) (pc' := 28) (lv' := [(0, .ref 66), (1, .int (nI i))]) (st' := [.int (σ 72 (nI i).toNatClampNeg)]) (σ' := σ) rfl (vp_in_nI (by omega) (by omega)) ?_
          rw [show (σ 72 (nI i).toNatClampNeg) = σ 72 i from (by rw [nI_clamp (by omega)])]
          refine rw_callSi hX (as := [.int (σ 72 i)]) (rest := []) (m_isDigit _ _ _ (σ 72 i)) (by decide +kernel) msX10_isDigit (Or.inl lk10_154) rfl (by decide) (Nat.le_of_ble_eq_true rfl) rfl ?_
          intro r1 σ1 hr
          rw [hr.1, show r1 = bz (isD (σ 72 i)) from hr.2]
          clear hr σ1 r1
          refine rw_if hX (tgt := 69) (cnd := .ne) (off := 38) (by decide +kernel) (by decide) (fun h31 => ?_) (fun h31 => ?_)
          · replace h31 := zb_neT h31
            have hri : rawB (σ 72 i) = true := by unfold rawB; simp only [h31, Bool.true_or, Bool.or_true]
            refine rw_go hX [(69, .iinc 1 1)] (by decide +kernel) (Ps := []) (pc' := 72) (lv' := [(0, .ref 66), (1, .int (nI i + nI 1))]) (st' := []) (σ' := σ) rfl True.intro ?_
            rw [show (nI i + nI 1) = nI (i + 1) from nI_add _ _]
            refine rw_go hX [(72, .goto (-70))] (by decide +kernel) (Ps := []) (pc' := 2) (lv' := [(0, .ref 66), (1, .int (nI (i + 1)))]) (st' := []) (σ' := σ) rfl True.intro ?_
            refine rw_lsub (ks := [0, 1]) (lv' := [(0, .ref 66), (1, .int (nI (i + 1)))]) rfl ?_
            exact ih2 (t - (i + 1)) (by omega) (i + 1) rfl (by omega) (fun j hj => by
              rcases Nat.lt_or_ge j i with q | q
              · exact hr0 j q
              · rw [show j = i by omega]; exact hri)
          · replace h31 := zb_neF h31
            refine rw_go hX [(34, .aload_n 0), (35, .getfield 25), (38, .iload_n 1), (39, .iaload)] (by decide +kernel) (Ps := [vp_in (nI i) 50]) (pc' := 40) (lv' := [(0, .ref 66), (1, .int (nI i))]) (st' := [.int (σ 72 (nI i).toNatClampNeg)]) (σ' := σ) rfl (vp_in_nI (by omega) (by omega)) ?_
            rw [show (σ 72 (nI i).toNatClampNeg) = σ 72 i from (by rw [nI_clamp (by omega)])]
            refine rw_go hX [(40, .bipush 32)] (by decide +kernel) (Ps := []) (pc' := 42) (lv' := [(0, .ref 66), (1, .int (nI i))]) (st' := [.int (nI 32), .int (σ 72 i)]) (σ' := σ) rfl True.intro ?_
            refine rw_icmp hX (tgt := 69) (cnd := .eq) (off := 27) (by decide +kernel) (by decide) (fun h42 => ?_) (fun h42 => ?_)
            · replace h42 : (σ 72 i = nI 32) := h42
              have hri : rawB (σ 72 i) = true := by unfold rawB; simp only [eq_true h42, decide_true, Bool.true_or, Bool.or_true]
              refine rw_go hX [(69, .iinc 1 1)] (by decide +kernel) (Ps := []) (pc' := 72) (lv' := [(0, .ref 66), (1, .int (nI i + nI 1))]) (st' := []) (σ' := σ) rfl True.intro ?_
              rw [show (nI i + nI 1) = nI (i + 1) from nI_add _ _]
              refine rw_go hX [(72, .goto (-70))] (by decide +kernel) (Ps := []) (pc' := 2) (lv' := [(0, .ref 66), (1, .int (nI (i + 1)))]) (st' := []) (σ' := σ) rfl True.intro ?_
              refine rw_lsub (ks := [0, 1]) (lv' := [(0, .ref 66), (1, .int (nI (i + 1)))]) rfl ?_
              exact ih2 (t - (i + 1)) (by omega) (i + 1) rfl (by omega) (fun j hj => by
                rcases Nat.lt_or_ge j i with q | q
                · exact hr0 j q
                · rw [show j = i by omega]; exact hri)
            · replace h42 : ¬ (σ 72 i = nI 32) := h42
              refine rw_go hX [(45, .aload_n 0), (46, .getfield 25), (49, .iload_n 1), (50, .iaload)] (by decide +kernel) (Ps := [vp_in (nI i) 50]) (pc' := 51) (lv' := [(0, .ref 66), (1, .int (nI i))]) (st' := [.int (σ 72 (nI i).toNatClampNeg)]) (σ' := σ) rfl (vp_in_nI (by omega) (by omega)) ?_
              rw [show (σ 72 (nI i).toNatClampNeg) = σ 72 i from (by rw [nI_clamp (by omega)])]
              refine rw_go hX [(51, .bipush 10)] (by decide +kernel) (Ps := []) (pc' := 53) (lv' := [(0, .ref 66), (1, .int (nI i))]) (st' := [.int (nI 10), .int (σ 72 i)]) (σ' := σ) rfl True.intro ?_
              refine rw_icmp hX (tgt := 69) (cnd := .eq) (off := 16) (by decide +kernel) (by decide) (fun h53 => ?_) (fun h53 => ?_)
              · replace h53 : (σ 72 i = nI 10) := h53
                have hri : rawB (σ 72 i) = true := by unfold rawB; simp only [eq_true h53, decide_true, Bool.true_or, Bool.or_true]
                refine rw_go hX [(69, .iinc 1 1)] (by decide +kernel) (Ps := []) (pc' := 72) (lv' := [(0, .ref 66), (1, .int (nI i + nI 1))]) (st' := []) (σ' := σ) rfl True.intro ?_
                rw [show (nI i + nI 1) = nI (i + 1) from nI_add _ _]
                refine rw_go hX [(72, .goto (-70))] (by decide +kernel) (Ps := []) (pc' := 2) (lv' := [(0, .ref 66), (1, .int (nI (i + 1)))]) (st' := []) (σ' := σ) rfl True.intro ?_
                refine rw_lsub (ks := [0, 1]) (lv' := [(0, .ref 66), (1, .int (nI (i + 1)))]) rfl ?_
                exact ih2 (t - (i + 1)) (by omega) (i + 1) rfl (by omega) (fun j hj => by
                  rcases Nat.lt_or_ge j i with q | q
                  · exact hr0 j q
                  · rw [show j = i by omega]; exact hri)
              · replace h53 : ¬ (σ 72 i = nI 10) := h53
                refine rw_go hX [(56, .aload_n 0), (57, .getfield 25), (60, .iload_n 1), (61, .iaload)] (by decide +kernel) (Ps := [vp_in (nI i) 50]) (pc' := 62) (lv' := [(0, .ref 66), (1, .int (nI i))]) (st' := [.int (σ 72 (nI i).toNatClampNeg)]) (σ' := σ) rfl (vp_in_nI (by omega) (by omega)) ?_
                rw [show (σ 72 (nI i).toNatClampNeg) = σ 72 i from (by rw [nI_clamp (by omega)])]
                refine rw_go hX [(62, .bipush 34)] (by decide +kernel) (Ps := []) (pc' := 64) (lv' := [(0, .ref 66), (1, .int (nI i))]) (st' := [.int (nI 34), .int (σ 72 i)]) (σ' := σ) rfl True.intro ?_
                refine rw_icmp hX (tgt := 69) (cnd := .eq) (off := 5) (by decide +kernel) (by decide) (fun h64 => ?_) (fun h64 => ?_)
                · replace h64 : (σ 72 i = nI 34) := h64
                  have hri : rawB (σ 72 i) = true := by unfold rawB; simp only [eq_true h64, decide_true, Bool.true_or, Bool.or_true]
                  refine rw_go hX [(69, .iinc 1 1)] (by decide +kernel) (Ps := []) (pc' := 72) (lv' := [(0, .ref 66), (1, .int (nI i + nI 1))]) (st' := []) (σ' := σ) rfl True.intro ?_
                  rw [show (nI i + nI 1) = nI (i + 1) from nI_add _ _]
                  refine rw_go hX [(72, .goto (-70))] (by decide +kernel) (Ps := []) (pc' := 2) (lv' := [(0, .ref 66), (1, .int (nI (i + 1)))]) (st' := []) (σ' := σ) rfl True.intro ?_
                  refine rw_lsub (ks := [0, 1]) (lv' := [(0, .ref 66), (1, .int (nI (i + 1)))]) rfl ?_
                  exact ih2 (t - (i + 1)) (by omega) (i + 1) rfl (by omega) (fun j hj => by
                    rcases Nat.lt_or_ge j i with q | q
                    · exact hr0 j q
                    · rw [show j = i by omega]; exact hri)
                · replace h64 : ¬ (σ 72 i = nI 34) := h64
                  have hno : ¬ rawA (σ 72) t := fun z => by
                    have q := z.2 i h7
                    unfold rawB at q
                    rw [h19, h31, decide_eq_false h42, decide_eq_false h53, decide_eq_false h64] at q
                    cases q
                  refine rw_go hX [(67, .iconst 0)] (by decide +kernel) (Ps := []) (pc' := 68) (lv' := [(0, .ref 66), (1, .int (nI i))]) (st' := [.int (nI 0)]) (σ' := σ) rfl True.intro ?_
                  exact rw_zret hX (by decide +kernel) (by first | exact Or.inl rfl | exact Or.inr rfl) (⟨rfl, Or.inr ⟨hno, rfl⟩⟩)
  refine rw_lsub (ks := [0, 1]) (lv' := [(0, .ref 66), (1, .int (nI 0))]) rfl ?_
  exact L2 t 0 rfl (by omega) (fun j hj => by omega)
set_option maxRecDepth 20000 in
set_option maxHeartbeats 4000000 in
theorem g_work (l : Launch) (G : Gl) (σ : Mm) (t : Nat) (xw xk xd : Int32) (ht : σ 66 6 = nI t) (ht5 : t ≤ 50) : AMi l G 3 mX10_work [.ref 66, .int xw, .int xk, .int xd] σ (fun r σ' => r = aWork (σ 72) t xw xk xd ∧ σ' = sWorkM σ t xw xk xd) := by
  refine rw_inI 10 (by decide +kernel) rfl rfl ?_
  intro E hE hX
  subst hE
  refine rw_go hX [(0, .iload_n 1)] (by decide +kernel) (Ps := []) (pc' := 1) (lv' := [(0, .ref 66), (1, .int xw), (2, .int xk), (3, .int xd)]) (st' := [.int xw]) (σ' := σ) rfl True.intro ?_
  refine rw_callSi hX (as := [.int xw]) (rest := []) (m_isWork _ _ _ (xw)) (by decide +kernel) msX10_isWork (Or.inl lk10_157) rfl (by decide) (Nat.le_of_ble_eq_true rfl) rfl ?_
  intro r1 σ1 hr
  rw [hr.1, show r1 = bz (decide (0 ≤ xw ∧ xw ≤ 4)) from hr.2]
  clear hr σ1 r1
  refine rw_if hX (tgt := 31) (cnd := .eq) (off := 27) (by decide +kernel) (by decide) (fun h4 => ?_) (fun h4 => ?_)
  · replace h4 := of_decide_eq_false (zb_eqT h4)
    refine rw_go hX [(31, .bipush (-2))] (by decide +kernel) (Ps := []) (pc' := 33) (lv' := [(0, .ref 66), (1, .int xw), (2, .int xk), (3, .int xd)]) (st' := [.int (-(nI 2))]) (σ' := σ) rfl True.intro ?_
    exact rw_iret hX (by decide +kernel) (⟨by simp only [aWork, eq_false h4, if_true, if_false, Bool.false_eq_true, and_self, and_true, true_and, and_false, false_and, oel_n, oel_s, decide_true, decide_false], by simp only [sWorkM, eq_false h4, if_true, if_false, Bool.false_eq_true, and_self, and_true, true_and, and_false, false_and, oel_n, oel_s, decide_true, decide_false]⟩)
  · replace h4 := of_decide_eq_true (zb_eqF h4)
    refine rw_go hX [(7, .iload_n 2), (8, .i2l), (9, .lconst 0), (10, .ldc2_w 136)] (by decide +kernel) (Ps := []) (pc' := 13) (lv' := [(0, .ref 66), (1, .int xw), (2, .int xk), (3, .int xd)]) (st' := [.long 5, .long (Int64.ofNat 0), .long (xk.toInt64)]) (σ' := σ) rfl True.intro ?_
    refine rw_callSi hX (as := [.long (xk.toInt64), .long (Int64.ofNat 0), .long 5]) (rest := []) (m_inI _ _ _ (xk) (0) (5) _ _ _ rfl (by first | rfl | decide +kernel) (by first | rfl | decide +kernel)) (by decide +kernel) msX10_in (Or.inl lk10_105) rfl (by decide) (Nat.le_of_ble_eq_true rfl) rfl ?_
    intro r1 σ1 hr
    rw [hr.1, show r1 = bz (decide (0 ≤ xk ∧ xk ≤ 5)) from hr.2]
    clear hr σ1 r1
    refine rw_if hX (tgt := 31) (cnd := .eq) (off := 15) (by decide +kernel) (by decide) (fun h16 => ?_) (fun h16 => ?_)
    · replace h16 := of_decide_eq_false (zb_eqT h16)
      refine rw_go hX [(31, .bipush (-2))] (by decide +kernel) (Ps := []) (pc' := 33) (lv' := [(0, .ref 66), (1, .int xw), (2, .int xk), (3, .int xd)]) (st' := [.int (-(nI 2))]) (σ' := σ) rfl True.intro ?_
      exact rw_iret hX (by decide +kernel) (⟨by simp only [aWork, eq_true h4, eq_false h16, if_true, if_false, Bool.false_eq_true, and_self, and_true, true_and, and_false, false_and, oel_n, oel_s, decide_true, decide_false], by simp only [sWorkM, eq_true h4, eq_false h16, if_true, if_false, Bool.false_eq_true, and_self, and_true, true_and, and_false, false_and, oel_n, oel_s, decide_true, decide_false]⟩)
    · replace h16 := of_decide_eq_true (zb_eqF h16)
      refine rw_go hX [(19, .iload_n 3), (20, .i2l), (21, .lconst 0), (22, .ldc2_w 160)] (by decide +kernel) (Ps := []) (pc' := 25) (lv' := [(0, .ref 66), (1, .int xw), (2, .int xk), (3, .int xd)]) (st' := [.long 99, .long (Int64.ofNat 0), .long (xd.toInt64)]) (σ' := σ) rfl True.intro ?_
      refine rw_callSi hX (as := [.long (xd.toInt64), .long (Int64.ofNat 0), .long 99]) (rest := []) (m_inI _ _ _ (xd) (0) (99) _ _ _ rfl (by first | rfl | decide +kernel) (by first | rfl | decide +kernel)) (by decide +kernel) msX10_in (Or.inl lk10_105) rfl (by decide) (Nat.le_of_ble_eq_true rfl) rfl ?_
      intro r1 σ1 hr
      rw [hr.1, show r1 = bz (decide (0 ≤ xd ∧ xd ≤ 99)) from hr.2]
      clear hr σ1 r1
      refine rw_if hX (tgt := 34) (cnd := .ne) (off := 6) (by decide +kernel) (by decide) (fun h28 => ?_) (fun h28 => ?_)
      · replace h28 := of_decide_eq_true (zb_neT h28)
        refine rw_go hX [(34, .aload_n 0)] (by decide +kernel) (Ps := []) (pc' := 35) (lv' := [(0, .ref 66), (1, .int xw), (2, .int xk), (3, .int xd)]) (st' := [.ref 66]) (σ' := σ) rfl True.intro ?_
        refine rw_callVi hX (as := []) (rest := []) (m_isRaw _ _ _ t ht ht5) (by decide +kernel) mvX10_isRaw lk10_162 (ci := 9) rfl rfl rfl (by decide) (Nat.le_of_ble_eq_true rfl) rfl ?_
        intro r1 σ1 hr
        rw [hr.1]
        have hr2 := hr.2
        clear hr σ1
        refine rw_go hX [(38, .istore 4), (40, .aload_n 0), (41, .getfield 140)] (by decide +kernel) (Ps := []) (pc' := 44) (lv' := [(0, .ref 66), (1, .int xw), (2, .int xk), (3, .int xd), (4, .int r1)]) (st' := [.int (σ 66 6)]) (σ' := σ) rfl True.intro ?_
        rw [show (σ 66 6) = nI t from (by rw [ht])]
        refine rw_go hX [(44, .istore 5), (46, .aload_n 0), (47, .iconst 0), (48, .putfield 140), (51, .iload 4)] (by decide +kernel) (Ps := []) (pc' := 53) (lv' := [(0, .ref 66), (1, .int xw), (2, .int xk), (3, .int xd), (4, .int r1), (5, .int (nI t))]) (st' := [.int r1]) (σ' := sw σ 66 6 (nI 0)) rfl True.intro ?_
        refine rw_if hX (tgt := 59) (cnd := .ne) (off := 6) (by decide +kernel) (by decide) (fun h53 => ?_) (fun h53 => ?_)
        · have hraw : pz (rawA (σ 72) t) = true := by
            rcases hr2 with q | q
            · exact pz_t q.1
            · rw [q.2] at h53; exact absurd rfl h53
          obtain ⟨w, hw, rfl⟩ := rng (m := 4) (by omega) h4
          have hw : w < 5 := hw
          have hcw : (nI w).toNatClampNeg = w := nI_clamp (by omega)
          refine rw_go hX [(59, .iconst 0), (60, .istore 6)] (by decide +kernel) (Ps := []) (pc' := 62) (lv' := [(0, .ref 66), (1, .int (nI w)), (2, .int xk), (3, .int xd), (4, .int r1), (5, .int (nI t)), (6, .int (nI 0))]) (st' := []) (σ' := sw σ 66 6 (nI 0)) rfl True.intro ?_
          have L62 : ∀ (μ62 : Nat) (k : Nat), μ62 = t - k → (k ≤ t) → RW E G 3 7 (QI E G (fun r σ' => r = aWork (σ 72) t (nI w) xk xd ∧ σ' = sWorkM σ t (nI w) xk xd)) 62 [(0, .ref 66), (1, .int (nI w)), (2, .int xk), (3, .int xd), (5, .int (nI t)), (6, .int (nI k))] [] (sr (sw σ 66 6 (nI 0)) 67 (va_cpy (σ 72) (σ 67) 0 (50 * w) k)) := by
            intro μ62
            induction μ62 using Nat.strongRecOn with
            | ind μ62 ih62 =>
              intro k hμ62 hk
              refine rw_go hX [(62, .iload 6), (64, .iload 5)] (by decide +kernel) (Ps := []) (pc' := 66) (lv' := [(0, .ref 66), (1, .int (nI w)), (2, .int xk), (3, .int xd), (5, .int (nI t)), (6, .int (nI k))]) (st' := [.int (nI t), .int (nI k)]) (σ' := sr (sw σ 66 6 (nI 0)) 67 (va_cpy (σ 72) (σ 67) 0 (50 * w) k)) rfl True.intro ?_
              refine rw_icmp hX (tgt := 94) (cnd := .ge) (off := 28) (by decide +kernel) (by decide) (fun h66 => ?_) (fun h66 => ?_)
              · replace h66 := c2_geT h66
                have ek : k = t := by omega
                refine rw_go hX [(94, .aload_n 0), (95, .getfield 13), (98, .iload_n 1), (99, .iload 5), (101, .iastore)] (by decide +kernel) (Ps := [vp_in (nI w) 5]) (pc' := 102) (lv' := [(0, .ref 66), (1, .int (nI w)), (2, .int xk), (3, .int xd), (5, .int (nI t)), (6, .int (nI k))]) (st' := []) (σ' := sw (sr (sw σ 66 6 (nI 0)) 67 (va_cpy (σ 72) (σ 67) 0 (50 * w) k)) 68 (nI w).toNatClampNeg (nI t)) rfl (vp_in_nI (by omega) (by omega)) ?_
                rw [show (sw (sr (sw σ 66 6 (nI 0)) 67 (va_cpy (σ 72) (σ 67) 0 (50 * w) k)) 68 (nI w).toNatClampNeg (nI t)) = sw (sr (sw σ 66 6 (nI 0)) 67 (va_cpy (σ 72) (σ 67) 0 (50 * w) k)) 68 w (nI t) from (by rw [nI_clamp (by omega)])]
                refine rw_go hX [(102, .aload_n 0), (103, .getfield 16), (106, .iload_n 1), (107, .iload_n 2), (108, .iastore)] (by decide +kernel) (Ps := [vp_in (nI w) 5]) (pc' := 109) (lv' := [(0, .ref 66), (1, .int (nI w)), (2, .int xk), (3, .int xd), (5, .int (nI t)), (6, .int (nI k))]) (st' := []) (σ' := sw (sw (sr (sw σ 66 6 (nI 0)) 67 (va_cpy (σ 72) (σ 67) 0 (50 * w) k)) 68 w (nI t)) 69 (nI w).toNatClampNeg xk) rfl (vp_in_nI (by omega) (by omega)) ?_
                rw [show (sw (sw (sr (sw σ 66 6 (nI 0)) 67 (va_cpy (σ 72) (σ 67) 0 (50 * w) k)) 68 w (nI t)) 69 (nI w).toNatClampNeg xk) = sw (sw (sr (sw σ 66 6 (nI 0)) 67 (va_cpy (σ 72) (σ 67) 0 (50 * w) k)) 68 w (nI t)) 69 w xk from (by rw [nI_clamp (by omega)])]
                refine rw_go hX [(109, .aload_n 0), (110, .getfield 19), (113, .iload_n 1), (114, .iload_n 3), (115, .iastore)] (by decide +kernel) (Ps := [vp_in (nI w) 5]) (pc' := 116) (lv' := [(0, .ref 66), (1, .int (nI w)), (2, .int xk), (3, .int xd), (5, .int (nI t)), (6, .int (nI k))]) (st' := []) (σ' := sw (sw (sw (sr (sw σ 66 6 (nI 0)) 67 (va_cpy (σ 72) (σ 67) 0 (50 * w) k)) 68 w (nI t)) 69 w xk) 70 (nI w).toNatClampNeg xd) rfl (vp_in_nI (by omega) (by omega)) ?_
                rw [show (sw (sw (sw (sr (sw σ 66 6 (nI 0)) 67 (va_cpy (σ 72) (σ 67) 0 (50 * w) k)) 68 w (nI t)) 69 w xk) 70 (nI w).toNatClampNeg xd) = sw (sw (sw (sr (sw σ 66 6 (nI 0)) 67 (va_cpy (σ 72) (σ 67) 0 (50 * w) k)) 68 w (nI t)) 69 w xk) 70 w xd from (by rw [nI_clamp (by omega)])]
                refine rw_go hX [(116, .iload 5)] (by decide +kernel) (Ps := []) (pc' := 118) (lv' := [(0, .ref 66), (1, .int (nI w)), (2, .int xk), (3, .int xd), (5, .int (nI t)), (6, .int (nI k))]) (st' := [.int (nI t)]) (σ' := sw (sw (sw (sr (sw σ 66 6 (nI 0)) 67 (va_cpy (σ 72) (σ 67) 0 (50 * w) k)) 68 w (nI t)) 69 w xk) 70 w xd) rfl True.intro ?_
                exact rw_iret hX (by decide +kernel) (⟨by simp only [aWork, eq_true h4, eq_true h16, eq_true h28, hcw, hraw, eq_true h66, if_true, if_false, Bool.false_eq_true, and_self, and_true, true_and, and_false, false_and, oel_n, oel_s, decide_true, decide_false], by simp only [sWorkM, eq_true h4, eq_true h16, eq_true h28, hcw, hraw, eq_true h66, if_true, if_false, Bool.false_eq_true, and_self, and_true, true_and, and_false, false_and, oel_n, oel_s, decide_true, decide_false]; rw [ek]; rfl⟩)
              · replace h66 := c2_geF h66
                refine rw_go hX [(69, .aload_n 0), (70, .getfield 9), (73, .bipush 50), (75, .iload_n 1), (76, .imul)] (by decide +kernel) (Ps := []) (pc' := 77) (lv' := [(0, .ref 66), (1, .int (nI w)), (2, .int xk), (3, .int xd), (5, .int (nI t)), (6, .int (nI k))]) (st' := [.int (nI 50 * nI w), .ref 67]) (σ' := sr (sw σ 66 6 (nI 0)) 67 (va_cpy (σ 72) (σ 67) 0 (50 * w) k)) rfl True.intro ?_
                rw [show (nI 50 * nI w) = nI (50 * w) from pk_mul _ _]
                refine rw_go hX [(77, .iload 6), (79, .iadd)] (by decide +kernel) (Ps := []) (pc' := 80) (lv' := [(0, .ref 66), (1, .int (nI w)), (2, .int xk), (3, .int xd), (5, .int (nI t)), (6, .int (nI k))]) (st' := [.int (nI (50 * w) + nI k), .ref 67]) (σ' := sr (sw σ 66 6 (nI 0)) 67 (va_cpy (σ 72) (σ 67) 0 (50 * w) k)) rfl True.intro ?_
                rw [show (nI (50 * w) + nI k) = nI (50 * w + k) from nI_add _ _]
                refine rw_go hX [(80, .aload_n 0), (81, .getfield 25), (84, .iload 6), (86, .iaload)] (by decide +kernel) (Ps := [vp_in (nI k) 50]) (pc' := 87) (lv' := [(0, .ref 66), (1, .int (nI w)), (2, .int xk), (3, .int xd), (5, .int (nI t)), (6, .int (nI k))]) (st' := [.int ((sr (sw σ 66 6 (nI 0)) 67 (va_cpy (σ 72) (σ 67) 0 (50 * w) k)) 72 (nI k).toNatClampNeg), .int (nI (50 * w + k)), .ref 67]) (σ' := sr (sw σ 66 6 (nI 0)) 67 (va_cpy (σ 72) (σ 67) 0 (50 * w) k)) rfl (vp_in_nI (by omega) (by omega)) ?_
                rw [show ((sr (sw σ 66 6 (nI 0)) 67 (va_cpy (σ 72) (σ 67) 0 (50 * w) k)) 72 (nI k).toNatClampNeg) = σ 72 k from (by rw [nI_clamp (by omega), sr_n _ _ (by decide), sw_ne _ _ _ (by decide)])]
                refine rw_go hX [(87, .iastore)] (by decide +kernel) (Ps := [vp_in (nI (50 * w + k)) 250]) (pc' := 88) (lv' := [(0, .ref 66), (1, .int (nI w)), (2, .int xk), (3, .int xd), (5, .int (nI t)), (6, .int (nI k))]) (st' := []) (σ' := sw (sr (sw σ 66 6 (nI 0)) 67 (va_cpy (σ 72) (σ 67) 0 (50 * w) k)) 67 (nI (50 * w + k)).toNatClampNeg (σ 72 k)) rfl (vp_in_nI (by omega) (by omega)) ?_
                rw [show (sw (sr (sw σ 66 6 (nI 0)) 67 (va_cpy (σ 72) (σ 67) 0 (50 * w) k)) 67 (nI (50 * w + k)).toNatClampNeg (σ 72 k)) = sw (sr (sw σ 66 6 (nI 0)) 67 (va_cpy (σ 72) (σ 67) 0 (50 * w) k)) 67 (50 * w + k) (σ 72 k) from (by rw [nI_clamp (by omega)])]
                refine rw_go hX [(88, .iinc 6 1)] (by decide +kernel) (Ps := []) (pc' := 91) (lv' := [(0, .ref 66), (1, .int (nI w)), (2, .int xk), (3, .int xd), (5, .int (nI t)), (6, .int (nI k + nI 1))]) (st' := []) (σ' := sw (sr (sw σ 66 6 (nI 0)) 67 (va_cpy (σ 72) (σ 67) 0 (50 * w) k)) 67 (50 * w + k) (σ 72 k)) rfl True.intro ?_
                rw [show (nI k + nI 1) = nI (k + 1) from nI_add _ _]
                refine rw_go hX [(91, .goto (-29))] (by decide +kernel) (Ps := []) (pc' := 62) (lv' := [(0, .ref 66), (1, .int (nI w)), (2, .int xk), (3, .int xd), (5, .int (nI t)), (6, .int (nI (k + 1)))]) (st' := []) (σ' := sw (sr (sw σ 66 6 (nI 0)) 67 (va_cpy (σ 72) (σ 67) 0 (50 * w) k)) 67 (50 * w + k) (σ 72 k)) rfl True.intro ?_
                refine rw_lsub (ks := [0, 1, 2, 3, 4, 5]) (lv' := [(0, .ref 66), (1, .int (nI w)), (2, .int xk), (3, .int xd), (5, .int (nI t)), (6, .int (nI (k + 1)))]) rfl ?_
                have q := ih62 (t - (k + 1)) (by omega) (k + 1) rfl (by omega)
                rw [← cpy_1, Nat.zero_add] at q
                rw [sw_sr]
                exact q
          refine rw_lsub (ks := [0, 1, 2, 3, 5, 6]) (lv' := [(0, .ref 66), (1, .int (nI w)), (2, .int xk), (3, .int xd), (5, .int (nI t)), (6, .int (nI 0))]) rfl ?_
          have q := L62 t 0 rfl (by omega)
          rw [cpy_0, show σ 67 = sw σ 66 6 (nI 0) 67 from (sw_ne _ _ _ (by decide)).symm, sr_id] at q
          exact q
        · have hraw : pz (rawA (σ 72) t) = false := by
            rcases hr2 with q | q
            · rw [q.2] at h53; exact absurd (by show (nI 1 : Int32) ≠ 0; decide +kernel) h53
            · exact pz_f q.1
          refine rw_go hX [(56, .bipush (-3))] (by decide +kernel) (Ps := []) (pc' := 58) (lv' := [(0, .ref 66), (1, .int xw), (2, .int xk), (3, .int xd), (4, .int r1), (5, .int (nI t))]) (st' := [.int (-(nI 3))]) (σ' := sw σ 66 6 (nI 0)) rfl True.intro ?_
          exact rw_iret hX (by decide +kernel) (⟨by simp only [aWork, eq_true h4, eq_true h16, eq_true h28, hraw, if_true, if_false, Bool.false_eq_true, and_self, and_true, true_and, and_false, false_and, oel_n, oel_s, decide_true, decide_false], by simp only [sWorkM, eq_true h4, eq_true h16, eq_true h28, hraw, if_true, if_false, Bool.false_eq_true, and_self, and_true, true_and, and_false, false_and, oel_n, oel_s, decide_true, decide_false]⟩)
      · replace h28 := of_decide_eq_false (zb_neF h28)
        refine rw_go hX [(31, .bipush (-2))] (by decide +kernel) (Ps := []) (pc' := 33) (lv' := [(0, .ref 66), (1, .int xw), (2, .int xk), (3, .int xd)]) (st' := [.int (-(nI 2))]) (σ' := σ) rfl True.intro ?_
        exact rw_iret hX (by decide +kernel) (⟨by simp only [aWork, eq_true h4, eq_true h16, eq_false h28, if_true, if_false, Bool.false_eq_true, and_self, and_true, true_and, and_false, false_and, oel_n, oel_s, decide_true, decide_false], by simp only [sWorkM, eq_true h4, eq_true h16, eq_false h28, if_true, if_false, Bool.false_eq_true, and_self, and_true, true_and, and_false, false_and, oel_n, oel_s, decide_true, decide_false]⟩)
