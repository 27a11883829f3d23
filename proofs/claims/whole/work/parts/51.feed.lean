theorem sw_row (σ : Mm) (k j : Nat) (v : Int32) : sw σ k j v k = upd (σ k) j v := by
  unfold sw
  rw [sr_s]
theorem sw_id (σ : Mm) (k j : Nat) : sw σ k j (σ k j) = σ := by
  unfold sw
  have e : upd (σ k) j (σ k j) = σ k := by
    funext i
    by_cases q : i = j
    · subst q; rw [upd_s]
    · rw [upd_n _ _ q]
  rw [e, sr_id]
theorem tp_1 (f : Nat → Int32) (t n : Nat) (a b c d e : Int32) {v : Int32} (h : v = sel5 a b c d e n) : upd (tpF f t n a b c d e) (t + n) v = tpF f t (n + 1) a b c d e := by
  funext j
  by_cases q : j = t + n
  · subst q
    rw [upd_s]
    unfold tpF
    rw [if_pos (by omega), h, show t + n - t = n by omega]
  · rw [upd_n _ _ q]
    unfold tpF
    by_cases g : t ≤ j ∧ j < t + n
    · rw [if_pos g, if_pos (by omega)]
    · rw [if_neg g, if_neg (by omega)]
theorem tp_0 (f : Nat → Int32) (t : Nat) (a b c d e : Int32) : tpF f t 0 a b c d e = f := by
  funext j
  unfold tpF
  rw [if_neg (by omega)]
/-- the tape behind n bytes more -/
def tpS (σ : Mm) (t n : Nat) (a b c d e : Int32) : Mm := sw (sr σ 65 (tpF (σ 65) t n a b c d e)) 0 6 (nI (t + n))
theorem tpS_0 {σ : Mm} {t : Nat} (h : σ 0 6 = nI t) (a b c d e : Int32) : tpS σ t 0 a b c d e = σ := by
  unfold tpS
  rw [tp_0, sr_id, Nat.add_zero, ← h, sw_id]
theorem tpS_1 (σ : Mm) (t n : Nat) (a b c d e : Int32) {v : Int32} (h : v = sel5 a b c d e n) : sw (sw (tpS σ t n a b c d e) 65 (t + n) v) 0 6 (nI (t + n + 1)) = tpS σ t (n + 1) a b c d e := by
  unfold tpS
  rw [← tp_1 _ _ _ _ _ _ _ _ h]
  funext k
  by_cases q : k = 65
  · subst q
    rw [sw_ne _ _ _ (by decide), sw_row, sw_ne _ _ _ (by decide), sr_s, sw_ne _ _ _ (by decide), sr_s]
  · by_cases g : k = 0
    · subst g
      rw [sw_row, sw_row, sw_ne _ _ _ (by decide), sw_row, sr_n _ _ (by decide), sr_n _ _ (by decide)]
      funext j
      by_cases y : j = 6
      · subst y; rw [upd_s, upd_s]; rfl
      · rw [upd_n _ _ y, upd_n _ _ y, upd_n _ _ y]
    · rw [sw_ne _ _ _ g, sw_ne _ _ _ q, sw_ne _ _ _ g, sr_n _ _ q, sw_ne _ _ _ g, sr_n _ _ q]
theorem tpS_6 (σ : Mm) (t n : Nat) (a b c d e : Int32) : tpS σ t n a b c d e 0 6 = nI (t + n) := sw_eq
theorem c_tapeY (i : Nat) (l : Launch) (G : Gl) (σ : Mm) (t k : Nat) (a b c d e v : Int32) (y : Bool) (hk : t + k ≤ 50) (hv : v = sel5 a b c d e i) (hy : decide (i < k) = y) : AMv l G 0 mX9_tapeByte [.ref 0, .int v, .int (bz y)] (tpS σ t (min k i) a b c d e) (fun σ' => σ' = tpS σ t (min k (i + 1)) a b c d e) := by
  cases y with
  | true =>
    have h := of_decide_eq_true hy
    have e9 : min k i = i := by omega
    rw [e9, show min k (i + 1) = i + 1 by omega]
    exact (c_tape1 l G _ v (t + i) (tpS_6 σ t i a b c d e) (by omega)).mono fun σ' h => by rw [h, tpS_1 _ _ _ _ _ _ _ _ hv]
  | false =>
    have h := of_decide_eq_false hy
    rw [show min k i = k by omega, show min k (i + 1) = k by omega]
    exact c_tape0 l G _ v
set_option maxRecDepth 20000 in
set_option maxHeartbeats 4000000 in
theorem f_feed (l : Launch) (G : Gl) (σ : Mm) (t : Nat) (xn xa xb xc xd xe : Int32) (ht : σ 0 6 = nI t) (ht5 : t ≤ 50) : AMi l G 1 mX9_feed [.ref 0, .int xn, .int xa, .int xb, .int xc, .int xd, .int xe] σ (fun r σ' => r = aFeed t xn xa xb xc xd xe ∧ σ' = sFeed 65 0 6 σ t xn xa xb xc xd xe) := by
  refine rw_inI 9 (by decide +kernel) rfl rfl ?_
  intro E hE hX
  subst hE
  refine rw_go hX [(0, .iload_n 1), (1, .iconst 1)] (by decide +kernel) (Ps := []) (pc' := 2) (lv' := [(0, .ref 0), (1, .int xn), (2, .int xa), (3, .int xb), (4, .int xc), (5, .int xd), (6, .int xe)]) (st' := [.int (nI 1), .int xn]) (σ' := σ) rfl True.intro ?_
  refine rw_icmp hX (tgt := 48) (cnd := .lt) (off := 46) (by decide +kernel) (by decide) (fun h2 => ?_) (fun h2 => ?_)
  · replace h2 : (xn < nI 1) := h2
    skip
    refine rw_go hX [(48, .bipush (-2))] (by decide +kernel) (Ps := []) (pc' := 50) (lv' := [(0, .ref 0), (1, .int xn), (2, .int xa), (3, .int xb), (4, .int xc), (5, .int xd), (6, .int xe)]) (st' := [.int (-(nI 2))]) (σ' := σ) rfl True.intro ?_
    exact rw_iret hX (by decide +kernel) (by
  have e : pz (fdB xn xa xb xc xd xe) = false := pz_f fun z => by
    simp only [fdB, h2, not_true_eq_false, and_false, false_and] at z
  exact ⟨by simp only [aFeed, e, if_true, if_false, Bool.false_eq_true], by simp only [sFeed, e, if_true, if_false, Bool.false_eq_true]⟩)
  · replace h2 : ¬ (xn < nI 1) := h2
    refine rw_go hX [(5, .iload_n 1), (6, .iconst 5)] (by decide +kernel) (Ps := []) (pc' := 7) (lv' := [(0, .ref 0), (1, .int xn), (2, .int xa), (3, .int xb), (4, .int xc), (5, .int xd), (6, .int xe)]) (st' := [.int (nI 5), .int xn]) (σ' := σ) rfl True.intro ?_
    refine rw_icmp hX (tgt := 48) (cnd := .gt) (off := 41) (by decide +kernel) (by decide) (fun h7 => ?_) (fun h7 => ?_)
    · replace h7 : (xn > nI 5) := h7
      refine rw_go hX [(48, .bipush (-2))] (by decide +kernel) (Ps := []) (pc' := 50) (lv' := [(0, .ref 0), (1, .int xn), (2, .int xa), (3, .int xb), (4, .int xc), (5, .int xd), (6, .int xe)]) (st' := [.int (-(nI 2))]) (σ' := σ) rfl True.intro ?_
      exact rw_iret hX (by decide +kernel) (by
  have e : pz (fdB xn xa xb xc xd xe) = false := pz_f fun z => by
    simp only [fdB, h2, h7, not_true_eq_false, and_false, false_and] at z
  exact ⟨by simp only [aFeed, e, if_true, if_false, Bool.false_eq_true], by simp only [sFeed, e, if_true, if_false, Bool.false_eq_true]⟩)
    · replace h7 : ¬ (xn > nI 5) := h7
      refine rw_go hX [(10, .iload_n 2)] (by decide +kernel) (Ps := []) (pc' := 11) (lv' := [(0, .ref 0), (1, .int xn), (2, .int xa), (3, .int xb), (4, .int xc), (5, .int xd), (6, .int xe)]) (st' := [.int xa]) (σ' := σ) rfl True.intro ?_
      refine rw_callSi hX (as := [.int xa]) (rest := []) (c_X9_isByte _ _ _ (xa)) (by decide +kernel) msX9_isByte (Or.inl lk9_48) rfl (by decide) (Nat.le_of_ble_eq_true rfl) rfl ?_
      intro r1 σ1 hr
      rw [hr.1, show r1 = bz (decide (0 ≤ xa ∧ xa ≤ 255)) from hr.2]
      clear hr σ1 r1
      refine rw_if hX (tgt := 48) (cnd := .eq) (off := 34) (by decide +kernel) (by decide) (fun h14 => ?_) (fun h14 => ?_)
      · replace h14 := of_decide_eq_false (zb_eqT h14)
        refine rw_go hX [(48, .bipush (-2))] (by decide +kernel) (Ps := []) (pc' := 50) (lv' := [(0, .ref 0), (1, .int xn), (2, .int xa), (3, .int xb), (4, .int xc), (5, .int xd), (6, .int xe)]) (st' := [.int (-(nI 2))]) (σ' := σ) rfl True.intro ?_
        exact rw_iret hX (by decide +kernel) (by
  have e : pz (fdB xn xa xb xc xd xe) = false := pz_f fun z => by
    simp only [fdB, h2, h7, h14, not_true_eq_false, and_false, false_and] at z
  exact ⟨by simp only [aFeed, e, if_true, if_false, Bool.false_eq_true], by simp only [sFeed, e, if_true, if_false, Bool.false_eq_true]⟩)
      · replace h14 := of_decide_eq_true (zb_eqF h14)
        refine rw_go hX [(17, .iload_n 3)] (by decide +kernel) (Ps := []) (pc' := 18) (lv' := [(0, .ref 0), (1, .int xn), (2, .int xa), (3, .int xb), (4, .int xc), (5, .int xd), (6, .int xe)]) (st' := [.int xb]) (σ' := σ) rfl True.intro ?_
        refine rw_callSi hX (as := [.int xb]) (rest := []) (c_X9_isByte _ _ _ (xb)) (by decide +kernel) msX9_isByte (Or.inl lk9_48) rfl (by decide) (Nat.le_of_ble_eq_true rfl) rfl ?_
        intro r1 σ1 hr
        rw [hr.1, show r1 = bz (decide (0 ≤ xb ∧ xb ≤ 255)) from hr.2]
        clear hr σ1 r1
        refine rw_if hX (tgt := 48) (cnd := .eq) (off := 27) (by decide +kernel) (by decide) (fun h21 => ?_) (fun h21 => ?_)
        · replace h21 := of_decide_eq_false (zb_eqT h21)
          refine rw_go hX [(48, .bipush (-2))] (by decide +kernel) (Ps := []) (pc' := 50) (lv' := [(0, .ref 0), (1, .int xn), (2, .int xa), (3, .int xb), (4, .int xc), (5, .int xd), (6, .int xe)]) (st' := [.int (-(nI 2))]) (σ' := σ) rfl True.intro ?_
          exact rw_iret hX (by decide +kernel) (by
  have e : pz (fdB xn xa xb xc xd xe) = false := pz_f fun z => by
    simp only [fdB, h2, h7, h14, h21, not_true_eq_false, and_false, false_and] at z
  exact ⟨by simp only [aFeed, e, if_true, if_false, Bool.false_eq_true], by simp only [sFeed, e, if_true, if_false, Bool.false_eq_true]⟩)
        · replace h21 := of_decide_eq_true (zb_eqF h21)
          refine rw_go hX [(24, .iload 4)] (by decide +kernel) (Ps := []) (pc' := 26) (lv' := [(0, .ref 0), (1, .int xn), (2, .int xa), (3, .int xb), (4, .int xc), (5, .int xd), (6, .int xe)]) (st' := [.int xc]) (σ' := σ) rfl True.intro ?_
          refine rw_callSi hX (as := [.int xc]) (rest := []) (c_X9_isByte _ _ _ (xc)) (by decide +kernel) msX9_isByte (Or.inl lk9_48) rfl (by decide) (Nat.le_of_ble_eq_true rfl) rfl ?_
          intro r1 σ1 hr
          rw [hr.1, show r1 = bz (decide (0 ≤ xc ∧ xc ≤ 255)) from hr.2]
          clear hr σ1 r1
          refine rw_if hX (tgt := 48) (cnd := .eq) (off := 19) (by decide +kernel) (by decide) (fun h29 => ?_) (fun h29 => ?_)
          · replace h29 := of_decide_eq_false (zb_eqT h29)
            refine rw_go hX [(48, .bipush (-2))] (by decide +kernel) (Ps := []) (pc' := 50) (lv' := [(0, .ref 0), (1, .int xn), (2, .int xa), (3, .int xb), (4, .int xc), (5, .int xd), (6, .int xe)]) (st' := [.int (-(nI 2))]) (σ' := σ) rfl True.intro ?_
            exact rw_iret hX (by decide +kernel) (by
  have e : pz (fdB xn xa xb xc xd xe) = false := pz_f fun z => by
    simp only [fdB, h2, h7, h14, h21, h29, not_true_eq_false, and_false, false_and] at z
  exact ⟨by simp only [aFeed, e, if_true, if_false, Bool.false_eq_true], by simp only [sFeed, e, if_true, if_false, Bool.false_eq_true]⟩)
          · replace h29 := of_decide_eq_true (zb_eqF h29)
            refine rw_go hX [(32, .iload 5)] (by decide +kernel) (Ps := []) (pc' := 34) (lv' := [(0, .ref 0), (1, .int xn), (2, .int xa), (3, .int xb), (4, .int xc), (5, .int xd), (6, .int xe)]) (st' := [.int xd]) (σ' := σ) rfl True.intro ?_
            refine rw_callSi hX (as := [.int xd]) (rest := []) (c_X9_isByte _ _ _ (xd)) (by decide +kernel) msX9_isByte (Or.inl lk9_48) rfl (by decide) (Nat.le_of_ble_eq_true rfl) rfl ?_
            intro r1 σ1 hr
            rw [hr.1, show r1 = bz (decide (0 ≤ xd ∧ xd ≤ 255)) from hr.2]
            clear hr σ1 r1
            refine rw_if hX (tgt := 48) (cnd := .eq) (off := 11) (by decide +kernel) (by decide) (fun h37 => ?_) (fun h37 => ?_)
            · replace h37 := of_decide_eq_false (zb_eqT h37)
              refine rw_go hX [(48, .bipush (-2))] (by decide +kernel) (Ps := []) (pc' := 50) (lv' := [(0, .ref 0), (1, .int xn), (2, .int xa), (3, .int xb), (4, .int xc), (5, .int xd), (6, .int xe)]) (st' := [.int (-(nI 2))]) (σ' := σ) rfl True.intro ?_
              exact rw_iret hX (by decide +kernel) (by
  have e : pz (fdB xn xa xb xc xd xe) = false := pz_f fun z => by
    simp only [fdB, h2, h7, h14, h21, h29, h37, not_true_eq_false, and_false, false_and] at z
  exact ⟨by simp only [aFeed, e, if_true, if_false, Bool.false_eq_true], by simp only [sFeed, e, if_true, if_false, Bool.false_eq_true]⟩)
            · replace h37 := of_decide_eq_true (zb_eqF h37)
              refine rw_go hX [(40, .iload 6)] (by decide +kernel) (Ps := []) (pc' := 42) (lv' := [(0, .ref 0), (1, .int xn), (2, .int xa), (3, .int xb), (4, .int xc), (5, .int xd), (6, .int xe)]) (st' := [.int xe]) (σ' := σ) rfl True.intro ?_
              refine rw_callSi hX (as := [.int xe]) (rest := []) (c_X9_isByte _ _ _ (xe)) (by decide +kernel) msX9_isByte (Or.inl lk9_48) rfl (by decide) (Nat.le_of_ble_eq_true rfl) rfl ?_
              intro r1 σ1 hr
              rw [hr.1, show r1 = bz (decide (0 ≤ xe ∧ xe ≤ 255)) from hr.2]
              clear hr σ1 r1
              refine rw_if hX (tgt := 51) (cnd := .ne) (off := 6) (by decide +kernel) (by decide) (fun h45 => ?_) (fun h45 => ?_)
              · replace h45 := of_decide_eq_true (zb_neT h45)
                refine rw_go hX [(51, .iload_n 1), (52, .bipush 50), (54, .aload_n 0), (55, .getfield 40)] (by decide +kernel) (Ps := []) (pc' := 58) (lv' := [(0, .ref 0), (1, .int xn), (2, .int xa), (3, .int xb), (4, .int xc), (5, .int xd), (6, .int xe)]) (st' := [.int (σ 0 6), .int (nI 50), .int xn]) (σ' := σ) rfl True.intro ?_
                rw [show (σ 0 6) = nI t from (by rw [ht])]
                refine rw_go hX [(58, .isub)] (by decide +kernel) (Ps := []) (pc' := 59) (lv' := [(0, .ref 0), (1, .int xn), (2, .int xa), (3, .int xb), (4, .int xc), (5, .int xd), (6, .int xe)]) (st' := [.int (nI 50 - nI t), .int xn]) (σ' := σ) rfl True.intro ?_
                rw [show (nI 50 - nI t) = nI (50 - t) from pk_sub (by omega)]
                refine rw_icmp hX (tgt := 65) (cnd := .le) (off := 6) (by decide +kernel) (by decide) (fun h59 => ?_) (fun h59 => ?_)
                · replace h59 : (xn ≤ nI (50 - t)) := h59
                  have e : pz (fdB xn xa xb xc xd xe) = true := pz_t ⟨h2, h7, h14, h21, h29, h37, h45⟩
                  have hn0 : ¬ xn < 0 := fun z => h2 (Int32.lt_of_lt_of_le z (nI_pos' (by omega)))
                  obtain ⟨k, hk, rfl⟩ := nI_of hn0
                  have hk1 : 1 ≤ k := Nat.not_lt.mp fun z => h2 (nI_lt z (by omega))
                  have hk5 : k ≤ 5 := Nat.not_lt.mp fun z => h7 (nI_lt z (by omega))
                  have hk2 : k ≤ 50 - t := (nI_leI (by omega) (by omega)).mp h59
                  have hck : (nI k).toNatClampNeg = k := nI_clamp (by omega)
                  have h0 : tpS σ t (min k 0) xa xb xc xd xe = σ := by rw [Nat.min_zero]; exact tpS_0 ht xa xb xc xd xe
                  rw [← h0]
                  have hk2b : t + k ≤ 50 := by omega
                  refine rw_go hX [(65, .aload_n 0), (66, .iload_n 2), (67, .iload_n 1)] (by decide +kernel) (Ps := []) (pc' := 68) (lv' := [(0, .ref 0), (1, .int (nI k)), (2, .int xa), (3, .int xb), (4, .int xc), (5, .int xd), (6, .int xe)]) (st' := [.int (nI k), .int xa, .ref 0]) (σ' := tpS σ t (min k 0) xa xb xc xd xe) rfl True.intro ?_
                  refine rw_if hX (tgt := 75) (cnd := .le) (off := 7) (by decide +kernel) (by decide) (fun h68 => ?_) (fun h68 => ?_)
                  · replace h68 := zn_leT h68
                    refine rw_go hX [(75, .iconst 0)] (by decide +kernel) (Ps := []) (pc' := 76) (lv' := [(0, .ref 0), (1, .int (nI k)), (2, .int xa), (3, .int xb), (4, .int xc), (5, .int xd), (6, .int xe)]) (st' := [.int (nI 0), .int xa, .ref 0]) (σ' := tpS σ t (min k 0) xa xb xc xd xe) rfl True.intro ?_
                    refine rw_callVv hX (as := [.int xa, .int (nI 0)]) (rest := []) ((c_tapeY 0 _ _ _ t k xa xb xc xd xe xa false hk2b rfl (decide_eq_false (by omega)))) (by decide +kernel) mvX9_tapeByte lk9_52 (ci := 8) rfl rfl rfl (by decide) (Nat.le_of_ble_eq_true rfl) rfl ?_
                    intro σ1 hr
                    rw [hr]
                    clear hr σ1
                    refine rw_go hX [(79, .aload_n 0), (80, .iload_n 3), (81, .iload_n 1), (82, .iconst 1)] (by decide +kernel) (Ps := []) (pc' := 83) (lv' := [(0, .ref 0), (1, .int (nI k)), (2, .int xa), (3, .int xb), (4, .int xc), (5, .int xd), (6, .int xe)]) (st' := [.int (nI 1), .int (nI k), .int xb, .ref 0]) (σ' := tpS σ t (min k 1) xa xb xc xd xe) rfl True.intro ?_
                    refine rw_icmp hX (tgt := 90) (cnd := .le) (off := 7) (by decide +kernel) (by decide) (fun h83 => ?_) (fun h83 => ?_)
                    · replace h83 := c2_leT h83
                      refine rw_go hX [(90, .iconst 0)] (by decide +kernel) (Ps := []) (pc' := 91) (lv' := [(0, .ref 0), (1, .int (nI k)), (2, .int xa), (3, .int xb), (4, .int xc), (5, .int xd), (6, .int xe)]) (st' := [.int (nI 0), .int xb, .ref 0]) (σ' := tpS σ t (min k 1) xa xb xc xd xe) rfl True.intro ?_
                      refine rw_callVv hX (as := [.int xb, .int (nI 0)]) (rest := []) ((c_tapeY 1 _ _ _ t k xa xb xc xd xe xb false hk2b rfl (decide_eq_false (by omega)))) (by decide +kernel) mvX9_tapeByte lk9_52 (ci := 8) rfl rfl rfl (by decide) (Nat.le_of_ble_eq_true rfl) rfl ?_
                      intro σ1 hr
                      rw [hr]
                      clear hr σ1
                      refine rw_go hX [(94, .aload_n 0), (95, .iload 4), (97, .iload_n 1), (98, .iconst 2)] (by decide +kernel) (Ps := []) (pc' := 99) (lv' := [(0, .ref 0), (1, .int (nI k)), (2, .int xa), (3, .int xb), (4, .int xc), (5, .int xd), (6, .int xe)]) (st' := [.int (nI 2), .int (nI k), .int xc, .ref 0]) (σ' := tpS σ t (min k 2) xa xb xc xd xe) rfl True.intro ?_
                      refine rw_icmp hX (tgt := 106) (cnd := .le) (off := 7) (by decide +kernel) (by decide) (fun h99 => ?_) (fun h99 => ?_)
                      · replace h99 := c2_leT h99
                        refine rw_go hX [(106, .iconst 0)] (by decide +kernel) (Ps := []) (pc' := 107) (lv' := [(0, .ref 0), (1, .int (nI k)), (2, .int xa), (3, .int xb), (4, .int xc), (5, .int xd), (6, .int xe)]) (st' := [.int (nI 0), .int xc, .ref 0]) (σ' := tpS σ t (min k 2) xa xb xc xd xe) rfl True.intro ?_
                        refine rw_callVv hX (as := [.int xc, .int (nI 0)]) (rest := []) ((c_tapeY 2 _ _ _ t k xa xb xc xd xe xc false hk2b rfl (decide_eq_false (by omega)))) (by decide +kernel) mvX9_tapeByte lk9_52 (ci := 8) rfl rfl rfl (by decide) (Nat.le_of_ble_eq_true rfl) rfl ?_
                        intro σ1 hr
                        rw [hr]
                        clear hr σ1
                        refine rw_go hX [(110, .aload_n 0), (111, .iload 5), (113, .iload_n 1), (114, .iconst 3)] (by decide +kernel) (Ps := []) (pc' := 115) (lv' := [(0, .ref 0), (1, .int (nI k)), (2, .int xa), (3, .int xb), (4, .int xc), (5, .int xd), (6, .int xe)]) (st' := [.int (nI 3), .int (nI k), .int xd, .ref 0]) (σ' := tpS σ t (min k 3) xa xb xc xd xe) rfl True.intro ?_
                        refine rw_icmp hX (tgt := 122) (cnd := .le) (off := 7) (by decide +kernel) (by decide) (fun h115 => ?_) (fun h115 => ?_)
                        · replace h115 := c2_leT h115
                          refine rw_go hX [(122, .iconst 0)] (by decide +kernel) (Ps := []) (pc' := 123) (lv' := [(0, .ref 0), (1, .int (nI k)), (2, .int xa), (3, .int xb), (4, .int xc), (5, .int xd), (6, .int xe)]) (st' := [.int (nI 0), .int xd, .ref 0]) (σ' := tpS σ t (min k 3) xa xb xc xd xe) rfl True.intro ?_
                          refine rw_callVv hX (as := [.int xd, .int (nI 0)]) (rest := []) ((c_tapeY 3 _ _ _ t k xa xb xc xd xe xd false hk2b rfl (decide_eq_false (by omega)))) (by decide +kernel) mvX9_tapeByte lk9_52 (ci := 8) rfl rfl rfl (by decide) (Nat.le_of_ble_eq_true rfl) rfl ?_
                          intro σ1 hr
                          rw [hr]
                          clear hr σ1
                          refine rw_go hX [(126, .aload_n 0), (127, .iload 6), (129, .iload_n 1), (130, .iconst 4)] (by decide +kernel) (Ps := []) (pc' := 131) (lv' := [(0, .ref 0), (1, .int (nI k)), (2, .int xa), (3, .int xb), (4, .int xc), (5, .int xd), (6, .int xe)]) (st' := [.int (nI 4), .int (nI k), .int xe, .ref 0]) (σ' := tpS σ t (min k 4) xa xb xc xd xe) rfl True.intro ?_
                          refine rw_icmp hX (tgt := 138) (cnd := .le) (off := 7) (by decide +kernel) (by decide) (fun h131 => ?_) (fun h131 => ?_)
                          · replace h131 := c2_leT h131
                            refine rw_go hX [(138, .iconst 0)] (by decide +kernel) (Ps := []) (pc' := 139) (lv' := [(0, .ref 0), (1, .int (nI k)), (2, .int xa), (3, .int xb), (4, .int xc), (5, .int xd), (6, .int xe)]) (st' := [.int (nI 0), .int xe, .ref 0]) (σ' := tpS σ t (min k 4) xa xb xc xd xe) rfl True.intro ?_
                            refine rw_callVv hX (as := [.int xe, .int (nI 0)]) (rest := []) ((c_tapeY 4 _ _ _ t k xa xb xc xd xe xe false hk2b rfl (decide_eq_false (by omega)))) (by decide +kernel) mvX9_tapeByte lk9_52 (ci := 8) rfl rfl rfl (by decide) (Nat.le_of_ble_eq_true rfl) rfl ?_
                            intro σ1 hr
                            rw [hr]
                            clear hr σ1
                            refine rw_go hX [(142, .aload_n 0), (143, .getfield 40)] (by decide +kernel) (Ps := []) (pc' := 146) (lv' := [(0, .ref 0), (1, .int (nI k)), (2, .int xa), (3, .int xb), (4, .int xc), (5, .int xd), (6, .int xe)]) (st' := [.int ((tpS σ t (min k 5) xa xb xc xd xe) 0 6)]) (σ' := tpS σ t (min k 5) xa xb xc xd xe) rfl True.intro ?_
                            rw [show ((tpS σ t (min k 5) xa xb xc xd xe) 0 6) = nI (t + min k 5) from (by rw [tpS_6 _ _ _ _ _ _ _ _])]
                            exact rw_iret hX (by decide +kernel) (by
  rw [show min k 5 = k by omega]
  exact ⟨by simp only [aFeed, e, h59, hck, if_true, if_false, Bool.false_eq_true], by simp only [sFeed, e, h59, hck, h0, if_true, if_false, Bool.false_eq_true]; rfl⟩)
                          · replace h131 := c2_leF h131
                            refine rw_go hX [(134, .iconst 1), (135, .goto 4)] (by decide +kernel) (Ps := []) (pc' := 139) (lv' := [(0, .ref 0), (1, .int (nI k)), (2, .int xa), (3, .int xb), (4, .int xc), (5, .int xd), (6, .int xe)]) (st' := [.int (nI 1), .int xe, .ref 0]) (σ' := tpS σ t (min k 4) xa xb xc xd xe) rfl True.intro ?_
                            refine rw_callVv hX (as := [.int xe, .int (nI 1)]) (rest := []) ((c_tapeY 4 _ _ _ t k xa xb xc xd xe xe true hk2b rfl (decide_eq_true (by omega)))) (by decide +kernel) mvX9_tapeByte lk9_52 (ci := 8) rfl rfl rfl (by decide) (Nat.le_of_ble_eq_true rfl) rfl ?_
                            intro σ1 hr
                            rw [hr]
                            clear hr σ1
                            refine rw_go hX [(142, .aload_n 0), (143, .getfield 40)] (by decide +kernel) (Ps := []) (pc' := 146) (lv' := [(0, .ref 0), (1, .int (nI k)), (2, .int xa), (3, .int xb), (4, .int xc), (5, .int xd), (6, .int xe)]) (st' := [.int ((tpS σ t (min k 5) xa xb xc xd xe) 0 6)]) (σ' := tpS σ t (min k 5) xa xb xc xd xe) rfl True.intro ?_
                            rw [show ((tpS σ t (min k 5) xa xb xc xd xe) 0 6) = nI (t + min k 5) from (by rw [tpS_6 _ _ _ _ _ _ _ _])]
                            exact rw_iret hX (by decide +kernel) (by
  rw [show min k 5 = k by omega]
  exact ⟨by simp only [aFeed, e, h59, hck, if_true, if_false, Bool.false_eq_true], by simp only [sFeed, e, h59, hck, h0, if_true, if_false, Bool.false_eq_true]; rfl⟩)
                        · replace h115 := c2_leF h115
                          refine rw_go hX [(118, .iconst 1), (119, .goto 4)] (by decide +kernel) (Ps := []) (pc' := 123) (lv' := [(0, .ref 0), (1, .int (nI k)), (2, .int xa), (3, .int xb), (4, .int xc), (5, .int xd), (6, .int xe)]) (st' := [.int (nI 1), .int xd, .ref 0]) (σ' := tpS σ t (min k 3) xa xb xc xd xe) rfl True.intro ?_
                          refine rw_callVv hX (as := [.int xd, .int (nI 1)]) (rest := []) ((c_tapeY 3 _ _ _ t k xa xb xc xd xe xd true hk2b rfl (decide_eq_true (by omega)))) (by decide +kernel) mvX9_tapeByte lk9_52 (ci := 8) rfl rfl rfl (by decide) (Nat.le_of_ble_eq_true rfl) rfl ?_
                          intro σ1 hr
                          rw [hr]
                          clear hr σ1
                          refine rw_go hX [(126, .aload_n 0), (127, .iload 6), (129, .iload_n 1), (130, .iconst 4)] (by decide +kernel) (Ps := []) (pc' := 131) (lv' := [(0, .ref 0), (1, .int (nI k)), (2, .int xa), (3, .int xb), (4, .int xc), (5, .int xd), (6, .int xe)]) (st' := [.int (nI 4), .int (nI k), .int xe, .ref 0]) (σ' := tpS σ t (min k 4) xa xb xc xd xe) rfl True.intro ?_
                          refine rw_icmp hX (tgt := 138) (cnd := .le) (off := 7) (by decide +kernel) (by decide) (fun h131 => ?_) (fun h131 => ?_)
                          · replace h131 := c2_leT h131
                            refine rw_go hX [(138, .iconst 0)] (by decide +kernel) (Ps := []) (pc' := 139) (lv' := [(0, .ref 0), (1, .int (nI k)), (2, .int xa), (3, .int xb), (4, .int xc), (5, .int xd), (6, .int xe)]) (st' := [.int (nI 0), .int xe, .ref 0]) (σ' := tpS σ t (min k 4) xa xb xc xd xe) rfl True.intro ?_
                            refine rw_callVv hX (as := [.int xe, .int (nI 0)]) (rest := []) ((c_tapeY 4 _ _ _ t k xa xb xc xd xe xe false hk2b rfl (decide_eq_false (by omega)))) (by decide +kernel) mvX9_tapeByte lk9_52 (ci := 8) rfl rfl rfl (by decide) (Nat.le_of_ble_eq_true rfl) rfl ?_
                            intro σ1 hr
                            rw [hr]
                            clear hr σ1
                            refine rw_go hX [(142, .aload_n 0), (143, .getfield 40)] (by decide +kernel) (Ps := []) (pc' := 146) (lv' := [(0, .ref 0), (1, .int (nI k)), (2, .int xa), (3, .int xb), (4, .int xc), (5, .int xd), (6, .int xe)]) (st' := [.int ((tpS σ t (min k 5) xa xb xc xd xe) 0 6)]) (σ' := tpS σ t (min k 5) xa xb xc xd xe) rfl True.intro ?_
                            rw [show ((tpS σ t (min k 5) xa xb xc xd xe) 0 6) = nI (t + min k 5) from (by rw [tpS_6 _ _ _ _ _ _ _ _])]
                            exact rw_iret hX (by decide +kernel) (by
  rw [show min k 5 = k by omega]
  exact ⟨by simp only [aFeed, e, h59, hck, if_true, if_false, Bool.false_eq_true], by simp only [sFeed, e, h59, hck, h0, if_true, if_false, Bool.false_eq_true]; rfl⟩)
                          · replace h131 := c2_leF h131
                            refine rw_go hX [(134, .iconst 1), (135, .goto 4)] (by decide +kernel) (Ps := []) (pc' := 139) (lv' := [(0, .ref 0), (1, .int (nI k)), (2, .int xa), (3, .int xb), (4, .int xc), (5, .int xd), (6, .int xe)]) (st' := [.int (nI 1), .int xe, .ref 0]) (σ' := tpS σ t (min k 4) xa xb xc xd xe) rfl True.intro ?_
                            refine rw_callVv hX (as := [.int xe, .int (nI 1)]) (rest := []) ((c_tapeY 4 _ _ _ t k xa xb xc xd xe xe true hk2b rfl (decide_eq_true (by omega)))) (by decide +kernel) mvX9_tapeByte lk9_52 (ci := 8) rfl rfl rfl (by decide) (Nat.le_of_ble_eq_true rfl) rfl ?_
                            intro σ1 hr
                            rw [hr]
                            clear hr σ1
                            refine rw_go hX [(142, .aload_n 0), (143, .getfield 40)] (by decide +kernel) (Ps := []) (pc' := 146) (lv' := [(0, .ref 0), (1, .int (nI k)), (2, .int xa), (3, .int xb), (4, .int xc), (5, .int xd), (6, .int xe)]) (st' := [.int ((tpS σ t (min k 5) xa xb xc xd xe) 0 6)]) (σ' := tpS σ t (min k 5) xa xb xc xd xe) rfl True.intro ?_
                            rw [show ((tpS σ t (min k 5) xa xb xc xd xe) 0 6) = nI (t + min k 5) from (by rw [tpS_6 _ _ _ _ _ _ _ _])]
                            exact rw_iret hX (by decide +kernel) (by
  rw [show min k 5 = k by omega]
  exact ⟨by simp only [aFeed, e, h59, hck, if_true, if_false, Bool.false_eq_true], by simp only [sFeed, e, h59, hck, h0, if_true, if_false, Bool.false_eq_true]; rfl⟩)
                      · replace h99 := c2_leF h99
                        refine rw_go hX [(102, .iconst 1), (103, .goto 4)] (by decide +kernel) (Ps := []) (pc' := 107) (lv' := [(0, .ref 0), (1, .int (nI k)), (2, .int xa), (3, .int xb), (4, .int xc), (5, .int xd), (6, .int xe)]) (st' := [.int (nI 1), .int xc, .ref 0]) (σ' := tpS σ t (min k 2) xa xb xc xd xe) rfl True.intro ?_
                        refine rw_callVv hX (as := [.int xc, .int (nI 1)]) (rest := []) ((c_tapeY 2 _ _ _ t k xa xb xc xd xe xc true hk2b rfl (decide_eq_true (by omega)))) (by decide +kernel) mvX9_tapeByte lk9_52 (ci := 8) rfl rfl rfl (by decide) (Nat.le_of_ble_eq_true rfl) rfl ?_
                        intro σ1 hr
                        rw [hr]
                        clear hr σ1
                        refine rw_go hX [(110, .aload_n 0), (111, .iload 5), (113, .iload_n 1), (114, .iconst 3)] (by decide +kernel) (Ps := []) (pc' := 115) (lv' := [(0, .ref 0), (1, .int (nI k)), (2, .int xa), (3, .int xb), (4, .int xc), (5, .int xd), (6, .int xe)]) (st' := [.int (nI 3), .int (nI k), .int xd, .ref 0]) (σ' := tpS σ t (min k 3) xa xb xc xd xe) rfl True.intro ?_
                        refine rw_icmp hX (tgt := 122) (cnd := .le) (off := 7) (by decide +kernel) (by decide) (fun h115 => ?_) (fun h115 => ?_)
                        · replace h115 := c2_leT h115
                          refine rw_go hX [(122, .iconst 0)] (by decide +kernel) (Ps := []) (pc' := 123) (lv' := [(0, .ref 0), (1, .int (nI k)), (2, .int xa), (3, .int xb), (4, .int xc), (5, .int xd), (6, .int xe)]) (st' := [.int (nI 0), .int xd, .ref 0]) (σ' := tpS σ t (min k 3) xa xb xc xd xe) rfl True.intro ?_
                          refine rw_callVv hX (as := [.int xd, .int (nI 0)]) (rest := []) ((c_tapeY 3 _ _ _ t k xa xb xc xd xe xd false hk2b rfl (decide_eq_false (by omega)))) (by decide +kernel) mvX9_tapeByte lk9_52 (ci := 8) rfl rfl rfl (by decide) (Nat.le_of_ble_eq_true rfl) rfl ?_
                          intro σ1 hr
                          rw [hr]
                          clear hr σ1
                          refine rw_go hX [(126, .aload_n 0), (127, .iload 6), (129, .iload_n 1), (130, .iconst 4)] (by decide +kernel) (Ps := []) (pc' := 131) (lv' := [(0, .ref 0), (1, .int (nI k)), (2, .int xa), (3, .int xb), (4, .int xc), (5, .int xd), (6, .int xe)]) (st' := [.int (nI 4), .int (nI k), .int xe, .ref 0]) (σ' := tpS σ t (min k 4) xa xb xc xd xe) rfl True.intro ?_
                          refine rw_icmp hX (tgt := 138) (cnd := .le) (off := 7) (by decide +kernel) (by decide) (fun h131 => ?_) (fun h131 => ?_)
                          · replace h131 := c2_leT h131
                            refine rw_go hX [(138, .iconst 0)] (by decide +kernel) (Ps := []) (pc' := 139) (lv' := [(0, .ref 0), (1, .int (nI k)), (2, .int xa), (3, .int xb), (4, .int xc), (5, .int xd), (6, .int xe)]) (st' := [.int (nI 0), .int xe, .ref 0]) (σ' := tpS σ t (min k 4) xa xb xc xd xe) rfl True.intro ?_
                            refine rw_callVv hX (as := [.int xe, .int (nI 0)]) (rest := []) ((c_tapeY 4 _ _ _ t k xa xb xc xd xe xe false hk2b rfl (decide_eq_false (by omega)))) (by decide +kernel) mvX9_tapeByte lk9_52 (ci := 8) rfl rfl rfl (by decide) (Nat.le_of_ble_eq_true rfl) rfl ?_
                            intro σ1 hr
                            rw [hr]
                            clear hr σ1
                            refine rw_go hX [(142, .aload_n 0), (143, .getfield 40)] (by decide +kernel) (Ps := []) (pc' := 146) (lv' := [(0, .ref 0), (1, .int (nI k)), (2, .int xa), (3, .int xb), (4, .int xc), (5, .int xd), (6, .int xe)]) (st' := [.int ((tpS σ t (min k 5) xa xb xc xd xe) 0 6)]) (σ' := tpS σ t (min k 5) xa xb xc xd xe) rfl True.intro ?_
                            rw [show ((tpS σ t (min k 5) xa xb xc xd xe) 0 6) = nI (t + min k 5) from (by rw [tpS_6 _ _ _ _ _ _ _ _])]
                            exact rw_iret hX (by decide +kernel) (by
  rw [show min k 5 = k by omega]
  exact ⟨by simp only [aFeed, e, h59, hck, if_true, if_false, Bool.false_eq_true], by simp only [sFeed, e, h59, hck, h0, if_true, if_false, Bool.false_eq_true]; rfl⟩)
                          · replace h131 := c2_leF h131
                            refine rw_go hX [(134, .iconst 1), (135, .goto 4)] (by decide +kernel) (Ps := []) (pc' := 139) (lv' := [(0, .ref 0), (1, .int (nI k)), (2, .int xa), (3, .int xb), (4, .int xc), (5, .int xd), (6, .int xe)]) (st' := [.int (nI 1), .int xe, .ref 0]) (σ' := tpS σ t (min k 4) xa xb xc xd xe) rfl True.intro ?_
                            refine rw_callVv hX (as := [.int xe, .int (nI 1)]) (rest := []) ((c_tapeY 4 _ _ _ t k xa xb xc xd xe xe true hk2b rfl (decide_eq_true (by omega)))) (by decide +kernel) mvX9_tapeByte lk9_52 (ci := 8) rfl rfl rfl (by decide) (Nat.le_of_ble_eq_true rfl) rfl ?_
                            intro σ1 hr
                            rw [hr]
                            clear hr σ1
                            refine rw_go hX [(142, .aload_n 0), (143, .getfield 40)] (by decide +kernel) (Ps := []) (pc' := 146) (lv' := [(0, .ref 0), (1, .int (nI k)), (2, .int xa), (3, .int xb), (4, .int xc), (5, .int xd), (6, .int xe)]) (st' := [.int ((tpS σ t (min k 5) xa xb xc xd xe) 0 6)]) (σ' := tpS σ t (min k 5) xa xb xc xd xe) rfl True.intro ?_
                            rw [show ((tpS σ t (min k 5) xa xb xc xd xe) 0 6) = nI (t + min k 5) from (by rw [tpS_6 _ _ _ _ _ _ _ _])]
                            exact rw_iret hX (by decide +kernel) (by
  rw [show min k 5 = k by omega]
  exact ⟨by simp only [aFeed, e, h59, hck, if_true, if_false, Bool.false_eq_true], by simp only [sFeed, e, h59, hck, h0, if_true, if_false, Bool.false_eq_true]; rfl⟩)
                        · replace h115 := c2_leF h115
                          refine rw_go hX [(118, .iconst 1), (119, .goto 4)] (by decide +kernel) (Ps := []) (pc' := 123) (lv' := [(0, .ref 0), (1, .int (nI k)), (2, .int xa), (3, .int xb), (4, .int xc), (5, .int xd), (6, .int xe)]) (st' := [.int (nI 1), .int xd, .ref 0]) (σ' := tpS σ t (min k 3) xa xb xc xd xe) rfl True.intro ?_
                          refine rw_callVv hX (as := [.int xd, .int (nI 1)]) (rest := []) ((c_tapeY 3 _ _ _ t k xa xb xc xd xe xd true hk2b rfl (decide_eq_true (by omega)))) (by decide +kernel) mvX9_tapeByte lk9_52 (ci := 8) rfl rfl rfl (by decide) (Nat.le_of_ble_eq_true rfl) rfl ?_
                          intro σ1 hr
                          rw [hr]
                          clear hr σ1
                          refine rw_go hX [(126, .aload_n 0), (127, .iload 6), (129, .iload_n 1), (130, .iconst 4)] (by decide +kernel) (Ps := []) (pc' := 131) (lv' := [(0, .ref 0), (1, .int (nI k)), (2, .int xa), (3, .int xb), (4, .int xc), (5, .int xd), (6, .int xe)]) (st' := [.int (nI 4), .int (nI k), .int xe, .ref 0]) (σ' := tpS σ t (min k 4) xa xb xc xd xe) rfl True.intro ?_
                          refine rw_icmp hX (tgt := 138) (cnd := .le) (off := 7) (by decide +kernel) (by decide) (fun h131 => ?_) (fun h131 => ?_)
                          · replace h131 := c2_leT h131
                            refine rw_go hX [(138, .iconst 0)] (by decide +kernel) (Ps := []) (pc' := 139) (lv' := [(0, .ref 0), (1, .int (nI k)), (2, .int xa), (3, .int xb), (4, .int xc), (5, .int xd), (6, .int xe)]) (st' := [.int (nI 0), .int xe, .ref 0]) (σ' := tpS σ t (min k 4) xa xb xc xd xe) rfl True.intro ?_
                            refine rw_callVv hX (as := [.int xe, .int (nI 0)]) (rest := []) ((c_tapeY 4 _ _ _ t k xa xb xc xd xe xe false hk2b rfl (decide_eq_false (by omega)))) (by decide +kernel) mvX9_tapeByte lk9_52 (ci := 8) rfl rfl rfl (by decide) (Nat.le_of_ble_eq_true rfl) rfl ?_
                            intro σ1 hr
                            rw [hr]
                            clear hr σ1
                            refine rw_go hX [(142, .aload_n 0), (143, .getfield 40)] (by decide +kernel) (Ps := []) (pc' := 146) (lv' := [(0, .ref 0), (1, .int (nI k)), (2, .int xa), (3, .int xb), (4, .int xc), (5, .int xd), (6, .int xe)]) (st' := [.int ((tpS σ t (min k 5) xa xb xc xd xe) 0 6)]) (σ' := tpS σ t (min k 5) xa xb xc xd xe) rfl True.intro ?_
                            rw [show ((tpS σ t (min k 5) xa xb xc xd xe) 0 6) = nI (t + min k 5) from (by rw [tpS_6 _ _ _ _ _ _ _ _])]
                            exact rw_iret hX (by decide +kernel) (by
  rw [show min k 5 = k by omega]
  exact ⟨by simp only [aFeed, e, h59, hck, if_true, if_false, Bool.false_eq_true], by simp only [sFeed, e, h59, hck, h0, if_true, if_false, Bool.false_eq_true]; rfl⟩)
                          · replace h131 := c2_leF h131
                            refine rw_go hX [(134, .iconst 1), (135, .goto 4)] (by decide +kernel) (Ps := []) (pc' := 139) (lv' := [(0, .ref 0), (1, .int (nI k)), (2, .int xa), (3, .int xb), (4, .int xc), (5, .int xd), (6, .int xe)]) (st' := [.int (nI 1), .int xe, .ref 0]) (σ' := tpS σ t (min k 4) xa xb xc xd xe) rfl True.intro ?_
                            refine rw_callVv hX (as := [.int xe, .int (nI 1)]) (rest := []) ((c_tapeY 4 _ _ _ t k xa xb xc xd xe xe true hk2b rfl (decide_eq_true (by omega)))) (by decide +kernel) mvX9_tapeByte lk9_52 (ci := 8) rfl rfl rfl (by decide) (Nat.le_of_ble_eq_true rfl) rfl ?_
                            intro σ1 hr
                            rw [hr]
                            clear hr σ1
                            refine rw_go hX [(142, .aload_n 0), (143, .getfield 40)] (by decide +kernel) (Ps := []) (pc' := 146) (lv' := [(0, .ref 0), (1, .int (nI k)), (2, .int xa), (3, .int xb), (4, .int xc), (5, .int xd), (6, .int xe)]) (st' := [.int ((tpS σ t (min k 5) xa xb xc xd xe) 0 6)]) (σ' := tpS σ t (min k 5) xa xb xc xd xe) rfl True.intro ?_
                            rw [show ((tpS σ t (min k 5) xa xb xc xd xe) 0 6) = nI (t + min k 5) from (by rw [tpS_6 _ _ _ _ _ _ _ _])]
                            exact rw_iret hX (by decide +kernel) (by
  rw [show min k 5 = k by omega]
  exact ⟨by simp only [aFeed, e, h59, hck, if_true, if_false, Bool.false_eq_true], by simp only [sFeed, e, h59, hck, h0, if_true, if_false, Bool.false_eq_true]; rfl⟩)
                    · replace h83 := c2_leF h83
                      refine rw_go hX [(86, .iconst 1), (87, .goto 4)] (by decide +kernel) (Ps := []) (pc' := 91) (lv' := [(0, .ref 0), (1, .int (nI k)), (2, .int xa), (3, .int xb), (4, .int xc), (5, .int xd), (6, .int xe)]) (st' := [.int (nI 1), .int xb, .ref 0]) (σ' := tpS σ t (min k 1) xa xb xc xd xe) rfl True.intro ?_
                      refine rw_callVv hX (as := [.int xb, .int (nI 1)]) (rest := []) ((c_tapeY 1 _ _ _ t k xa xb xc xd xe xb true hk2b rfl (decide_eq_true (by omega)))) (by decide +kernel) mvX9_tapeByte lk9_52 (ci := 8) rfl rfl rfl (by decide) (Nat.le_of_ble_eq_true rfl) rfl ?_
                      intro σ1 hr
                      rw [hr]
                      clear hr σ1
                      refine rw_go hX [(94, .aload_n 0), (95, .iload 4), (97, .iload_n 1), (98, .iconst 2)] (by decide +kernel) (Ps := []) (pc' := 99) (lv' := [(0, .ref 0), (1, .int (nI k)), (2, .int xa), (3, .int xb), (4, .int xc), (5, .int xd), (6, .int xe)]) (st' := [.int (nI 2), .int (nI k), .int xc, .ref 0]) (σ' := tpS σ t (min k 2) xa xb xc xd xe) rfl True.intro ?_
                      refine rw_icmp hX (tgt := 106) (cnd := .le) (off := 7) (by decide +kernel) (by decide) (fun h99 => ?_) (fun h99 => ?_)
                      · replace h99 := c2_leT h99
                        refine rw_go hX [(106, .iconst 0)] (by decide +kernel) (Ps := []) (pc' := 107) (lv' := [(0, .ref 0), (1, .int (nI k)), (2, .int xa), (3, .int xb), (4, .int xc), (5, .int xd), (6, .int xe)]) (st' := [.int (nI 0), .int xc, .ref 0]) (σ' := tpS σ t (min k 2) xa xb xc xd xe) rfl True.intro ?_
                        refine rw_callVv hX (as := [.int xc, .int (nI 0)]) (rest := []) ((c_tapeY 2 _ _ _ t k xa xb xc xd xe xc false hk2b rfl (decide_eq_false (by omega)))) (by decide +kernel) mvX9_tapeByte lk9_52 (ci := 8) rfl rfl rfl (by decide) (Nat.le_of_ble_eq_true rfl) rfl ?_
                        intro σ1 hr
                        rw [hr]
                        clear hr σ1
                        refine rw_go hX [(110, .aload_n 0), (111, .iload 5), (113, .iload_n 1), (114, .iconst 3)] (by decide +kernel) (Ps := []) (pc' := 115) (lv' := [(0, .ref 0), (1, .int (nI k)), (2, .int xa), (3, .int xb), (4, .int xc), (5, .int xd), (6, .int xe)]) (st' := [.int (nI 3), .int (nI k), .int xd, .ref 0]) (σ' := tpS σ t (min k 3) xa xb xc xd xe) rfl True.intro ?_
                        refine rw_icmp hX (tgt := 122) (cnd := .le) (off := 7) (by decide +kernel) (by decide) (fun h115 => ?_) (fun h115 => ?_)
                        · replace h115 := c2_leT h115
                          refine rw_go hX [(122, .iconst 0)] (by decide +kernel) (Ps := []) (pc' := 123) (lv' := [(0, .ref 0), (1, .int (nI k)), (2, .int xa), (3, .int xb), (4, .int xc), (5, .int xd), (6, .int xe)]) (st' := [.int (nI 0), .int xd, .ref 0]) (σ' := tpS σ t (min k 3) xa xb xc xd xe) rfl True.intro ?_
                          refine rw_callVv hX (as := [.int xd, .int (nI 0)]) (rest := []) ((c_tapeY 3 _ _ _ t k xa xb xc xd xe xd false hk2b rfl (decide_eq_false (by omega)))) (by decide +kernel) mvX9_tapeByte lk9_52 (ci := 8) rfl rfl rfl (by decide) (Nat.le_of_ble_eq_true rfl) rfl ?_
                          intro σ1 hr
                          rw [hr]
                          clear hr σ1
                          refine rw_go hX [(126, .aload_n 0), (127, .iload 6), (129, .iload_n 1), (130, .iconst 4)] (by decide +kernel) (Ps := []) (pc' := 131) (lv' := [(0, .ref 0), (1, .int (nI k)), (2, .int xa), (3, .int xb), (4, .int xc), (5, .int xd), (6, .int xe)]) (st' := [.int (nI 4), .int (nI k), .int xe, .ref 0]) (σ' := tpS σ t (min k 4) xa xb xc xd xe) rfl True.intro ?_
                          refine rw_icmp hX (tgt := 138) (cnd := .le) (off := 7) (by decide +kernel) (by decide) (fun h131 => ?_) (fun h131 => ?_)
                          · replace h131 := c2_leT h131
                            refine rw_go hX [(138, .iconst 0)] (by decide +kernel) (Ps := []) (pc' := 139) (lv' := [(0, .ref 0), (1, .int (nI k)), (2, .int xa), (3, .int xb), (4, .int xc), (5, .int xd), (6, .int xe)]) (st' := [.int (nI 0), .int xe, .ref 0]) (σ' := tpS σ t (min k 4) xa xb xc xd xe) rfl True.intro ?_
                            refine rw_callVv hX (as := [.int xe, .int (nI 0)]) (rest := []) ((c_tapeY 4 _ _ _ t k xa xb xc xd xe xe false hk2b rfl (decide_eq_false (by omega)))) (by decide +kernel) mvX9_tapeByte lk9_52 (ci := 8) rfl rfl rfl (by decide) (Nat.le_of_ble_eq_true rfl) rfl ?_
                            intro σ1 hr
                            rw [hr]
                            clear hr σ1
                            refine rw_go hX [(142, .aload_n 0), (143, .getfield 40)] (by decide +kernel) (Ps := []) (pc' := 146) (lv' := [(0, .ref 0), (1, .int (nI k)), (2, .int xa), (3, .int xb), (4, .int xc), (5, .int xd), (6, .int xe)]) (st' := [.int ((tpS σ t (min k 5) xa xb xc xd xe) 0 6)]) (σ' := tpS σ t (min k 5) xa xb xc xd xe) rfl True.intro ?_
                            rw [show ((tpS σ t (min k 5) xa xb xc xd xe) 0 6) = nI (t + min k 5) from (by rw [tpS_6 _ _ _ _ _ _ _ _])]
                            exact rw_iret hX (by decide +kernel) (by
  rw [show min k 5 = k by omega]
  exact ⟨by simp only [aFeed, e, h59, hck, if_true, if_false, Bool.false_eq_true], by simp only [sFeed, e, h59, hck, h0, if_true, if_false, Bool.false_eq_true]; rfl⟩)
                          · replace h131 := c2_leF h131
                            refine rw_go hX [(134, .iconst 1), (135, .goto 4)] (by decide +kernel) (Ps := []) (pc' := 139) (lv' := [(0, .ref 0), (1, .int (nI k)), (2, .int xa), (3, .int xb), (4, .int xc), (5, .int xd), (6, .int xe)]) (st' := [.int (nI 1), .int xe, .ref 0]) (σ' := tpS σ t (min k 4) xa xb xc xd xe) rfl True.intro ?_
                            refine rw_callVv hX (as := [.int xe, .int (nI 1)]) (rest := []) ((c_tapeY 4 _ _ _ t k xa xb xc xd xe xe true hk2b rfl (decide_eq_true (by omega)))) (by decide +kernel) mvX9_tapeByte lk9_52 (ci := 8) rfl rfl rfl (by decide) (Nat.le_of_ble_eq_true rfl) rfl ?_
                            intro σ1 hr
                            rw [hr]
                            clear hr σ1
                            refine rw_go hX [(142, .aload_n 0), (143, .getfield 40)] (by decide +kernel) (Ps := []) (pc' := 146) (lv' := [(0, .ref 0), (1, .int (nI k)), (2, .int xa), (3, .int xb), (4, .int xc), (5, .int xd), (6, .int xe)]) (st' := [.int ((tpS σ t (min k 5) xa xb xc xd xe) 0 6)]) (σ' := tpS σ t (min k 5) xa xb xc xd xe) rfl True.intro ?_
                            rw [show ((tpS σ t (min k 5) xa xb xc xd xe) 0 6) = nI (t + min k 5) from (by rw [tpS_6 _ _ _ _ _ _ _ _])]
                            exact rw_iret hX (by decide +kernel) (by
  rw [show min k 5 = k by omega]
  exact ⟨by simp only [aFeed, e, h59, hck, if_true, if_false, Bool.false_eq_true], by simp only [sFeed, e, h59, hck, h0, if_true, if_false, Bool.false_eq_true]; rfl⟩)
                        · replace h115 := c2_leF h115
                          refine rw_go hX [(118, .iconst 1), (119, .goto 4)] (by decide +kernel) (Ps := []) (pc' := 123) (lv' := [(0, .ref 0), (1, .int (nI k)), (2, .int xa), (3, .int xb), (4, .int xc), (5, .int xd), (6, .int xe)]) (st' := [.int (nI 1), .int xd, .ref 0]) (σ' := tpS σ t (min k 3) xa xb xc xd xe) rfl True.intro ?_
                          refine rw_callVv hX (as := [.int xd, .int (nI 1)]) (rest := []) ((c_tapeY 3 _ _ _ t k xa xb xc xd xe xd true hk2b rfl (decide_eq_true (by omega)))) (by decide +kernel) mvX9_tapeByte lk9_52 (ci := 8) rfl rfl rfl (by decide) (Nat.le_of_ble_eq_true rfl) rfl ?_
                          intro σ1 hr
                          rw [hr]
                          clear hr σ1
                          refine rw_go hX [(126, .aload_n 0), (127, .iload 6), (129, .iload_n 1), (130, .iconst 4)] (by decide +kernel) (Ps := []) (pc' := 131) (lv' := [(0, .ref 0), (1, .int (nI k)), (2, .int xa), (3, .int xb), (4, .int xc), (5, .int xd), (6, .int xe)]) (st' := [.int (nI 4), .int (nI k), .int xe, .ref 0]) (σ' := tpS σ t (min k 4) xa xb xc xd xe) rfl True.intro ?_
                          refine rw_icmp hX (tgt := 138) (cnd := .le) (off := 7) (by decide +kernel) (by decide) (fun h131 => ?_) (fun h131 => ?_)
                          · replace h131 := c2_leT h131
                            refine rw_go hX [(138, .iconst 0)] (by decide +kernel) (Ps := []) (pc' := 139) (lv' := [(0, .ref 0), (1, .int (nI k)), (2, .int xa), (3, .int xb), (4, .int xc), (5, .int xd), (6, .int xe)]) (st' := [.int (nI 0), .int xe, .ref 0]) (σ' := tpS σ t (min k 4) xa xb xc xd xe) rfl True.intro ?_
                            refine rw_callVv hX (as := [.int xe, .int (nI 0)]) (rest := []) ((c_tapeY 4 _ _ _ t k xa xb xc xd xe xe false hk2b rfl (decide_eq_false (by omega)))) (by decide +kernel) mvX9_tapeByte lk9_52 (ci := 8) rfl rfl rfl (by decide) (Nat.le_of_ble_eq_true rfl) rfl ?_
                            intro σ1 hr
                            rw [hr]
                            clear hr σ1
                            refine rw_go hX [(142, .aload_n 0), (143, .getfield 40)] (by decide +kernel) (Ps := []) (pc' := 146) (lv' := [(0, .ref 0), (1, .int (nI k)), (2, .int xa), (3, .int xb), (4, .int xc), (5, .int xd), (6, .int xe)]) (st' := [.int ((tpS σ t (min k 5) xa xb xc xd xe) 0 6)]) (σ' := tpS σ t (min k 5) xa xb xc xd xe) rfl True.intro ?_
                            rw [show ((tpS σ t (min k 5) xa xb xc xd xe) 0 6) = nI (t + min k 5) from (by rw [tpS_6 _ _ _ _ _ _ _ _])]
                            exact rw_iret hX (by decide +kernel) (by
  rw [show min k 5 = k by omega]
  exact ⟨by simp only [aFeed, e, h59, hck, if_true, if_false, Bool.false_eq_true], by simp only [sFeed, e, h59, hck, h0, if_true, if_false, Bool.false_eq_true]; rfl⟩)
                          · replace h131 := c2_leF h131
                            refine rw_go hX [(134, .iconst 1), (135, .goto 4)] (by decide +kernel) (Ps := []) (pc' := 139) (lv' := [(0, .ref 0), (1, .int (nI k)), (2, .int xa), (3, .int xb), (4, .int xc), (5, .int xd), (6, .int xe)]) (st' := [.int (nI 1), .int xe, .ref 0]) (σ' := tpS σ t (min k 4) xa xb xc xd xe) rfl True.intro ?_
                            refine rw_callVv hX (as := [.int xe, .int (nI 1)]) (rest := []) ((c_tapeY 4 _ _ _ t k xa xb xc xd xe xe true hk2b rfl (decide_eq_true (by omega)))) (by decide +kernel) mvX9_tapeByte lk9_52 (ci := 8) rfl rfl rfl (by decide) (Nat.le_of_ble_eq_true rfl) rfl ?_
                            intro σ1 hr
                            rw [hr]
                            clear hr σ1
                            refine rw_go hX [(142, .aload_n 0), (143, .getfield 40)] (by decide +kernel) (Ps := []) (pc' := 146) (lv' := [(0, .ref 0), (1, .int (nI k)), (2, .int xa), (3, .int xb), (4, .int xc), (5, .int xd), (6, .int xe)]) (st' := [.int ((tpS σ t (min k 5) xa xb xc xd xe) 0 6)]) (σ' := tpS σ t (min k 5) xa xb xc xd xe) rfl True.intro ?_
                            rw [show ((tpS σ t (min k 5) xa xb xc xd xe) 0 6) = nI (t + min k 5) from (by rw [tpS_6 _ _ _ _ _ _ _ _])]
                            exact rw_iret hX (by decide +kernel) (by
  rw [show min k 5 = k by omega]
  exact ⟨by simp only [aFeed, e, h59, hck, if_true, if_false, Bool.false_eq_true], by simp only [sFeed, e, h59, hck, h0, if_true, if_false, Bool.false_eq_true]; rfl⟩)
                      · replace h99 := c2_leF h99
                        refine rw_go hX [(102, .iconst 1), (103, .goto 4)] (by decide +kernel) (Ps := []) (pc' := 107) (lv' := [(0, .ref 0), (1, .int (nI k)), (2, .int xa), (3, .int xb), (4, .int xc), (5, .int xd), (6, .int xe)]) (st' := [.int (nI 1), .int xc, .ref 0]) (σ' := tpS σ t (min k 2) xa xb xc xd xe) rfl True.intro ?_
                        refine rw_callVv hX (as := [.int xc, .int (nI 1)]) (rest := []) ((c_tapeY 2 _ _ _ t k xa xb xc xd xe xc true hk2b rfl (decide_eq_true (by omega)))) (by decide +kernel) mvX9_tapeByte lk9_52 (ci := 8) rfl rfl rfl (by decide) (Nat.le_of_ble_eq_true rfl) rfl ?_
                        intro σ1 hr
                        rw [hr]
                        clear hr σ1
                        refine rw_go hX [(110, .aload_n 0), (111, .iload 5), (113, .iload_n 1), (114, .iconst 3)] (by decide +kernel) (Ps := []) (pc' := 115) (lv' := [(0, .ref 0), (1, .int (nI k)), (2, .int xa), (3, .int xb), (4, .int xc), (5, .int xd), (6, .int xe)]) (st' := [.int (nI 3), .int (nI k), .int xd, .ref 0]) (σ' := tpS σ t (min k 3) xa xb xc xd xe) rfl True.intro ?_
                        refine rw_icmp hX (tgt := 122) (cnd := .le) (off := 7) (by decide +kernel) (by decide) (fun h115 => ?_) (fun h115 => ?_)
                        · replace h115 := c2_leT h115
                          refine rw_go hX [(122, .iconst 0)] (by decide +kernel) (Ps := []) (pc' := 123) (lv' := [(0, .ref 0), (1, .int (nI k)), (2, .int xa), (3, .int xb), (4, .int xc), (5, .int xd), (6, .int xe)]) (st' := [.int (nI 0), .int xd, .ref 0]) (σ' := tpS σ t (min k 3) xa xb xc xd xe) rfl True.intro ?_
                          refine rw_callVv hX (as := [.int xd, .int (nI 0)]) (rest := []) ((c_tapeY 3 _ _ _ t k xa xb xc xd xe xd false hk2b rfl (decide_eq_false (by omega)))) (by decide +kernel) mvX9_tapeByte lk9_52 (ci := 8) rfl rfl rfl (by decide) (Nat.le_of_ble_eq_true rfl) rfl ?_
                          intro σ1 hr
                          rw [hr]
                          clear hr σ1
                          refine rw_go hX [(126, .aload_n 0), (127, .iload 6), (129, .iload_n 1), (130, .iconst 4)] (by decide +kernel) (Ps := []) (pc' := 131) (lv' := [(0, .ref 0), (1, .int (nI k)), (2, .int xa), (3, .int xb), (4, .int xc), (5, .int xd), (6, .int xe)]) (st' := [.int (nI 4), .int (nI k), .int xe, .ref 0]) (σ' := tpS σ t (min k 4) xa xb xc xd xe) rfl True.intro ?_
                          refine rw_icmp hX (tgt := 138) (cnd := .le) (off := 7) (by decide +kernel) (by decide) (fun h131 => ?_) (fun h131 => ?_)
                          · replace h131 := c2_leT h131
                            refine rw_go hX [(138, .iconst 0)] (by decide +kernel) (Ps := []) (pc' := 139) (lv' := [(0, .ref 0), (1, .int (nI k)), (2, .int xa), (3, .int xb), (4, .int xc), (5, .int xd), (6, .int xe)]) (st' := [.int (nI 0), .int xe, .ref 0]) (σ' := tpS σ t (min k 4) xa xb xc xd xe) rfl True.intro ?_
                            refine rw_callVv hX (as := [.int xe, .int (nI 0)]) (rest := []) ((c_tapeY 4 _ _ _ t k xa xb xc xd xe xe false hk2b rfl (decide_eq_false (by omega)))) (by decide +kernel) mvX9_tapeByte lk9_52 (ci := 8) rfl rfl rfl (by decide) (Nat.le_of_ble_eq_true rfl) rfl ?_
                            intro σ1 hr
                            rw [hr]
                            clear hr σ1
                            refine rw_go hX [(142, .aload_n 0), (143, .getfield 40)] (by decide +kernel) (Ps := []) (pc' := 146) (lv' := [(0, .ref 0), (1, .int (nI k)), (2, .int xa), (3, .int xb), (4, .int xc), (5, .int xd), (6, .int xe)]) (st' := [.int ((tpS σ t (min k 5) xa xb xc xd xe) 0 6)]) (σ' := tpS σ t (min k 5) xa xb xc xd xe) rfl True.intro ?_
                            rw [show ((tpS σ t (min k 5) xa xb xc xd xe) 0 6) = nI (t + min k 5) from (by rw [tpS_6 _ _ _ _ _ _ _ _])]
                            exact rw_iret hX (by decide +kernel) (by
  rw [show min k 5 = k by omega]
  exact ⟨by simp only [aFeed, e, h59, hck, if_true, if_false, Bool.false_eq_true], by simp only [sFeed, e, h59, hck, h0, if_true, if_false, Bool.false_eq_true]; rfl⟩)
                          · replace h131 := c2_leF h131
                            refine rw_go hX [(134, .iconst 1), (135, .goto 4)] (by decide +kernel) (Ps := []) (pc' := 139) (lv' := [(0, .ref 0), (1, .int (nI k)), (2, .int xa), (3, .int xb), (4, .int xc), (5, .int xd), (6, .int xe)]) (st' := [.int (nI 1), .int xe, .ref 0]) (σ' := tpS σ t (min k 4) xa xb xc xd xe) rfl True.intro ?_
                            refine rw_callVv hX (as := [.int xe, .int (nI 1)]) (rest := []) ((c_tapeY 4 _ _ _ t k xa xb xc xd xe xe true hk2b rfl (decide_eq_true (by omega)))) (by decide +kernel) mvX9_tapeByte lk9_52 (ci := 8) rfl rfl rfl (by decide) (Nat.le_of_ble_eq_true rfl) rfl ?_
                            intro σ1 hr
                            rw [hr]
                            clear hr σ1
                            refine rw_go hX [(142, .aload_n 0), (143, .getfield 40)] (by decide +kernel) (Ps := []) (pc' := 146) (lv' := [(0, .ref 0), (1, .int (nI k)), (2, .int xa), (3, .int xb), (4, .int xc), (5, .int xd), (6, .int xe)]) (st' := [.int ((tpS σ t (min k 5) xa xb xc xd xe) 0 6)]) (σ' := tpS σ t (min k 5) xa xb xc xd xe) rfl True.intro ?_
                            rw [show ((tpS σ t (min k 5) xa xb xc xd xe) 0 6) = nI (t + min k 5) from (by rw [tpS_6 _ _ _ _ _ _ _ _])]
                            exact rw_iret hX (by decide +kernel) (by
  rw [show min k 5 = k by omega]
  exact ⟨by simp only [aFeed, e, h59, hck, if_true, if_false, Bool.false_eq_true], by simp only [sFeed, e, h59, hck, h0, if_true, if_false, Bool.false_eq_true]; rfl⟩)
                        · replace h115 := c2_leF h115
                          refine rw_go hX [(118, .iconst 1), (119, .goto 4)] (by decide +kernel) (Ps := []) (pc' := 123) (lv' := [(0, .ref 0), (1, .int (nI k)), (2, .int xa), (3, .int xb), (4, .int xc), (5, .int xd), (6, .int xe)]) (st' := [.int (nI 1), .int xd, .ref 0]) (σ' := tpS σ t (min k 3) xa xb xc xd xe) rfl True.intro ?_
                          refine rw_callVv hX (as := [.int xd, .int (nI 1)]) (rest := []) ((c_tapeY 3 _ _ _ t k xa xb xc xd xe xd true hk2b rfl (decide_eq_true (by omega)))) (by decide +kernel) mvX9_tapeByte lk9_52 (ci := 8) rfl rfl rfl (by decide) (Nat.le_of_ble_eq_true rfl) rfl ?_
                          intro σ1 hr
                          rw [hr]
                          clear hr σ1
                          refine rw_go hX [(126, .aload_n 0), (127, .iload 6), (129, .iload_n 1), (130, .iconst 4)] (by decide +kernel) (Ps := []) (pc' := 131) (lv' := [(0, .ref 0), (1, .int (nI k)), (2, .int xa), (3, .int xb), (4, .int xc), (5, .int xd), (6, .int xe)]) (st' := [.int (nI 4), .int (nI k), .int xe, .ref 0]) (σ' := tpS σ t (min k 4) xa xb xc xd xe) rfl True.intro ?_
                          refine rw_icmp hX (tgt := 138) (cnd := .le) (off := 7) (by decide +kernel) (by decide) (fun h131 => ?_) (fun h131 => ?_)
                          · replace h131 := c2_leT h131
                            refine rw_go hX [(138, .iconst 0)] (by decide +kernel) (Ps := []) (pc' := 139) (lv' := [(0, .ref 0), (1, .int (nI k)), (2, .int xa), (3, .int xb), (4, .int xc), (5, .int xd), (6, .int xe)]) (st' := [.int (nI 0), .int xe, .ref 0]) (σ' := tpS σ t (min k 4) xa xb xc xd xe) rfl True.intro ?_
                            refine rw_callVv hX (as := [.int xe, .int (nI 0)]) (rest := []) ((c_tapeY 4 _ _ _ t k xa xb xc xd xe xe false hk2b rfl (decide_eq_false (by omega)))) (by decide +kernel) mvX9_tapeByte lk9_52 (ci := 8) rfl rfl rfl (by decide) (Nat.le_of_ble_eq_true rfl) rfl ?_
                            intro σ1 hr
                            rw [hr]
                            clear hr σ1
                            refine rw_go hX [(142, .aload_n 0), (143, .getfield 40)] (by decide +kernel) (Ps := []) (pc' := 146) (lv' := [(0, .ref 0), (1, .int (nI k)), (2, .int xa), (3, .int xb), (4, .int xc), (5, .int xd), (6, .int xe)]) (st' := [.int ((tpS σ t (min k 5) xa xb xc xd xe) 0 6)]) (σ' := tpS σ t (min k 5) xa xb xc xd xe) rfl True.intro ?_
                            rw [show ((tpS σ t (min k 5) xa xb xc xd xe) 0 6) = nI (t + min k 5) from (by rw [tpS_6 _ _ _ _ _ _ _ _])]
                            exact rw_iret hX (by decide +kernel) (by
  rw [show min k 5 = k by omega]
  exact ⟨by simp only [aFeed, e, h59, hck, if_true, if_false, Bool.false_eq_true], by simp only [sFeed, e, h59, hck, h0, if_true, if_false, Bool.false_eq_true]; rfl⟩)
                          · replace h131 := c2_leF h131
                            refine rw_go hX [(134, .iconst 1), (135, .goto 4)] (by decide +kernel) (Ps := []) (pc' := 139) (lv' := [(0, .ref 0), (1, .int (nI k)), (2, .int xa), (3, .int xb), (4, .int xc), (5, .int xd), (6, .int xe)]) (st' := [.int (nI 1), .int xe, .ref 0]) (σ' := tpS σ t (min k 4) xa xb xc xd xe) rfl True.intro ?_
                            refine rw_callVv hX (as := [.int xe, .int (nI 1)]) (rest := []) ((c_tapeY 4 _ _ _ t k xa xb xc xd xe xe true hk2b rfl (decide_eq_true (by omega)))) (by decide +kernel) mvX9_tapeByte lk9_52 (ci := 8) rfl rfl rfl (by decide) (Nat.le_of_ble_eq_true rfl) rfl ?_
                            intro σ1 hr
                            rw [hr]
                            clear hr σ1
                            refine rw_go hX [(142, .aload_n 0), (143, .getfield 40)] (by decide +kernel) (Ps := []) (pc' := 146) (lv' := [(0, .ref 0), (1, .int (nI k)), (2, .int xa), (3, .int xb), (4, .int xc), (5, .int xd), (6, .int xe)]) (st' := [.int ((tpS σ t (min k 5) xa xb xc xd xe) 0 6)]) (σ' := tpS σ t (min k 5) xa xb xc xd xe) rfl True.intro ?_
                            rw [show ((tpS σ t (min k 5) xa xb xc xd xe) 0 6) = nI (t + min k 5) from (by rw [tpS_6 _ _ _ _ _ _ _ _])]
                            exact rw_iret hX (by decide +kernel) (by
  rw [show min k 5 = k by omega]
  exact ⟨by simp only [aFeed, e, h59, hck, if_true, if_false, Bool.false_eq_true], by simp only [sFeed, e, h59, hck, h0, if_true, if_false, Bool.false_eq_true]; rfl⟩)
                  · replace h68 := zn_leF h68
                    refine rw_go hX [(71, .iconst 1), (72, .goto 4)] (by decide +kernel) (Ps := []) (pc' := 76) (lv' := [(0, .ref 0), (1, .int (nI k)), (2, .int xa), (3, .int xb), (4, .int xc), (5, .int xd), (6, .int xe)]) (st' := [.int (nI 1), .int xa, .ref 0]) (σ' := tpS σ t (min k 0) xa xb xc xd xe) rfl True.intro ?_
                    refine rw_callVv hX (as := [.int xa, .int (nI 1)]) (rest := []) ((c_tapeY 0 _ _ _ t k xa xb xc xd xe xa true hk2b rfl (decide_eq_true (by omega)))) (by decide +kernel) mvX9_tapeByte lk9_52 (ci := 8) rfl rfl rfl (by decide) (Nat.le_of_ble_eq_true rfl) rfl ?_
                    intro σ1 hr
                    rw [hr]
                    clear hr σ1
                    refine rw_go hX [(79, .aload_n 0), (80, .iload_n 3), (81, .iload_n 1), (82, .iconst 1)] (by decide +kernel) (Ps := []) (pc' := 83) (lv' := [(0, .ref 0), (1, .int (nI k)), (2, .int xa), (3, .int xb), (4, .int xc), (5, .int xd), (6, .int xe)]) (st' := [.int (nI 1), .int (nI k), .int xb, .ref 0]) (σ' := tpS σ t (min k 1) xa xb xc xd xe) rfl True.intro ?_
                    refine rw_icmp hX (tgt := 90) (cnd := .le) (off := 7) (by decide +kernel) (by decide) (fun h83 => ?_) (fun h83 => ?_)
                    · replace h83 := c2_leT h83
                      refine rw_go hX [(90, .iconst 0)] (by decide +kernel) (Ps := []) (pc' := 91) (lv' := [(0, .ref 0), (1, .int (nI k)), (2, .int xa), (3, .int xb), (4, .int xc), (5, .int xd), (6, .int xe)]) (st' := [.int (nI 0), .int xb, .ref 0]) (σ' := tpS σ t (min k 1) xa xb xc xd xe) rfl True.intro ?_
                      refine rw_callVv hX (as := [.int xb, .int (nI 0)]) (rest := []) ((c_tapeY 1 _ _ _ t k xa xb xc xd xe xb false hk2b rfl (decide_eq_false (by omega)))) (by decide +kernel) mvX9_tapeByte lk9_52 (ci := 8) rfl rfl rfl (by decide) (Nat.le_of_ble_eq_true rfl) rfl ?_
                      intro σ1 hr
                      rw [hr]
                      clear hr σ1
                      refine rw_go hX [(94, .aload_n 0), (95, .iload 4), (97, .iload_n 1), (98, .iconst 2)] (by decide +kernel) (Ps := []) (pc' := 99) (lv' := [(0, .ref 0), (1, .int (nI k)), (2, .int xa), (3, .int xb), (4, .int xc), (5, .int xd), (6, .int xe)]) (st' := [.int (nI 2), .int (nI k), .int xc, .ref 0]) (σ' := tpS σ t (min k 2) xa xb xc xd xe) rfl True.intro ?_
                      refine rw_icmp hX (tgt := 106) (cnd := .le) (off := 7) (by decide +kernel) (by decide) (fun h99 => ?_) (fun h99 => ?_)
                      · replace h99 := c2_leT h99
                        refine rw_go hX [(106, .iconst 0)] (by decide +kernel) (Ps := []) (pc' := 107) (lv' := [(0, .ref 0), (1, .int (nI k)), (2, .int xa), (3, .int xb), (4, .int xc), (5, .int xd), (6, .int xe)]) (st' := [.int (nI 0), .int xc, .ref 0]) (σ' := tpS σ t (min k 2) xa xb xc xd xe) rfl True.intro ?_
                        refine rw_callVv hX (as := [.int xc, .int (nI 0)]) (rest := []) ((c_tapeY 2 _ _ _ t k xa xb xc xd xe xc false hk2b rfl (decide_eq_false (by omega)))) (by decide +kernel) mvX9_tapeByte lk9_52 (ci := 8) rfl rfl rfl (by decide) (Nat.le_of_ble_eq_true rfl) rfl ?_
                        intro σ1 hr
                        rw [hr]
                        clear hr σ1
                        refine rw_go hX [(110, .aload_n 0), (111, .iload 5), (113, .iload_n 1), (114, .iconst 3)] (by decide +kernel) (Ps := []) (pc' := 115) (lv' := [(0, .ref 0), (1, .int (nI k)), (2, .int xa), (3, .int xb), (4, .int xc), (5, .int xd), (6, .int xe)]) (st' := [.int (nI 3), .int (nI k), .int xd, .ref 0]) (σ' := tpS σ t (min k 3) xa xb xc xd xe) rfl True.intro ?_
                        refine rw_icmp hX (tgt := 122) (cnd := .le) (off := 7) (by decide +kernel) (by decide) (fun h115 => ?_) (fun h115 => ?_)
                        · replace h115 := c2_leT h115
                          refine rw_go hX [(122, .iconst 0)] (by decide +kernel) (Ps := []) (pc' := 123) (lv' := [(0, .ref 0), (1, .int (nI k)), (2, .int xa), (3, .int xb), (4, .int xc), (5, .int xd), (6, .int xe)]) (st' := [.int (nI 0), .int xd, .ref 0]) (σ' := tpS σ t (min k 3) xa xb xc xd xe) rfl True.intro ?_
                          refine rw_callVv hX (as := [.int xd, .int (nI 0)]) (rest := []) ((c_tapeY 3 _ _ _ t k xa xb xc xd xe xd false hk2b rfl (decide_eq_false (by omega)))) (by decide +kernel) mvX9_tapeByte lk9_52 (ci := 8) rfl rfl rfl (by decide) (Nat.le_of_ble_eq_true rfl) rfl ?_
                          intro σ1 hr
                          rw [hr]
                          clear hr σ1
                          refine rw_go hX [(126, .aload_n 0), (127, .iload 6), (129, .iload_n 1), (130, .iconst 4)] (by decide +kernel) (Ps := []) (pc' := 131) (lv' := [(0, .ref 0), (1, .int (nI k)), (2, .int xa), (3, .int xb), (4, .int xc), (5, .int xd), (6, .int xe)]) (st' := [.int (nI 4), .int (nI k), .int xe, .ref 0]) (σ' := tpS σ t (min k 4) xa xb xc xd xe) rfl True.intro ?_
                          refine rw_icmp hX (tgt := 138) (cnd := .le) (off := 7) (by decide +kernel) (by decide) (fun h131 => ?_) (fun h131 => ?_)
                          · replace h131 := c2_leT h131
                            refine rw_go hX [(138, .iconst 0)] (by decide +kernel) (Ps := []) (pc' := 139) (lv' := [(0, .ref 0), (1, .int (nI k)), (2, .int xa), (3, .int xb), (4, .int xc), (5, .int xd), (6, .int xe)]) (st' := [.int (nI 0), .int xe, .ref 0]) (σ' := tpS σ t (min k 4) xa xb xc xd xe) rfl True.intro ?_
                            refine rw_callVv hX (as := [.int xe, .int (nI 0)]) (rest := []) ((c_tapeY 4 _ _ _ t k xa xb xc xd xe xe false hk2b rfl (decide_eq_false (by omega)))) (by decide +kernel) mvX9_tapeByte lk9_52 (ci := 8) rfl rfl rfl (by decide) (Nat.le_of_ble_eq_true rfl) rfl ?_
                            intro σ1 hr
                            rw [hr]
                            clear hr σ1
                            refine rw_go hX [(142, .aload_n 0), (143, .getfield 40)] (by decide +kernel) (Ps := []) (pc' := 146) (lv' := [(0, .ref 0), (1, .int (nI k)), (2, .int xa), (3, .int xb), (4, .int xc), (5, .int xd), (6, .int xe)]) (st' := [.int ((tpS σ t (min k 5) xa xb xc xd xe) 0 6)]) (σ' := tpS σ t (min k 5) xa xb xc xd xe) rfl True.intro ?_
                            rw [show ((tpS σ t (min k 5) xa xb xc xd xe) 0 6) = nI (t + min k 5) from (by rw [tpS_6 _ _ _ _ _ _ _ _])]
                            exact rw_iret hX (by decide +kernel) (by
  rw [show min k 5 = k by omega]
  exact ⟨by simp only [aFeed, e, h59, hck, if_true, if_false, Bool.false_eq_true], by simp only [sFeed, e, h59, hck, h0, if_true, if_false, Bool.false_eq_true]; rfl⟩)
                          · replace h131 := c2_leF h131
                            refine rw_go hX [(134, .iconst 1), (135, .goto 4)] (by decide +kernel) (Ps := []) (pc' := 139) (lv' := [(0, .ref 0), (1, .int (nI k)), (2, .int xa), (3, .int xb), (4, .int xc), (5, .int xd), (6, .int xe)]) (st' := [.int (nI 1), .int xe, .ref 0]) (σ' := tpS σ t (min k 4) xa xb xc xd xe) rfl True.intro ?_
                            refine rw_callVv hX (as := [.int xe, .int (nI 1)]) (rest := []) ((c_tapeY 4 _ _ _ t k xa xb xc xd xe xe true hk2b rfl (decide_eq_true (by omega)))) (by decide +kernel) mvX9_tapeByte lk9_52 (ci := 8) rfl rfl rfl (by decide) (Nat.le_of_ble_eq_true rfl) rfl ?_
                            intro σ1 hr
                            rw [hr]
                            clear hr σ1
                            refine rw_go hX [(142, .aload_n 0), (143, .getfield 40)] (by decide +kernel) (Ps := []) (pc' := 146) (lv' := [(0, .ref 0), (1, .int (nI k)), (2, .int xa), (3, .int xb), (4, .int xc), (5, .int xd), (6, .int xe)]) (st' := [.int ((tpS σ t (min k 5) xa xb xc xd xe) 0 6)]) (σ' := tpS σ t (min k 5) xa xb xc xd xe) rfl True.intro ?_
                            rw [show ((tpS σ t (min k 5) xa xb xc xd xe) 0 6) = nI (t + min k 5) from (by rw [tpS_6 _ _ _ _ _ _ _ _])]
                            exact rw_iret hX (by decide +kernel) (by
  rw [show min k 5 = k by omega]
  exact ⟨by simp only [aFeed, e, h59, hck, if_true, if_false, Bool.false_eq_true], by simp only [sFeed, e, h59, hck, h0, if_true, if_false, Bool.false_eq_true]; rfl⟩)
                        · replace h115 := c2_leF h115
                          refine rw_go hX [(118, .iconst 1), (119, .goto 4)] (by decide +kernel) (Ps := []) (pc' := 123) (lv' := [(0, .ref 0), (1, .int (nI k)), (2, .int xa), (3, .int xb), (4, .int xc), (5, .int xd), (6, .int xe)]) (st' := [.int (nI 1), .int xd, .ref 0]) (σ' := tpS σ t (min k 3) xa xb xc xd xe) rfl True.intro ?_
                          refine rw_callVv hX (as := [.int xd, .int (nI 1)]) (rest := []) ((c_tapeY 3 _ _ _ t k xa xb xc xd xe xd true hk2b rfl (decide_eq_true (by omega)))) (by decide +kernel) mvX9_tapeByte lk9_52 (ci := 8) rfl rfl rfl (by decide) (Nat.le_of_ble_eq_true rfl) rfl ?_
                          intro σ1 hr
                          rw [hr]
                          clear hr σ1
                          refine rw_go hX [(126, .aload_n 0), (127, .iload 6), (129, .iload_n 1), (130, .iconst 4)] (by decide +kernel) (Ps := []) (pc' := 131) (lv' := [(0, .ref 0), (1, .int (nI k)), (2, .int xa), (3, .int xb), (4, .int xc), (5, .int xd), (6, .int xe)]) (st' := [.int (nI 4), .int (nI k), .int xe, .ref 0]) (σ' := tpS σ t (min k 4) xa xb xc xd xe) rfl True.intro ?_
                          refine rw_icmp hX (tgt := 138) (cnd := .le) (off := 7) (by decide +kernel) (by decide) (fun h131 => ?_) (fun h131 => ?_)
                          · replace h131 := c2_leT h131
                            refine rw_go hX [(138, .iconst 0)] (by decide +kernel) (Ps := []) (pc' := 139) (lv' := [(0, .ref 0), (1, .int (nI k)), (2, .int xa), (3, .int xb), (4, .int xc), (5, .int xd), (6, .int xe)]) (st' := [.int (nI 0), .int xe, .ref 0]) (σ' := tpS σ t (min k 4) xa xb xc xd xe) rfl True.intro ?_
                            refine rw_callVv hX (as := [.int xe, .int (nI 0)]) (rest := []) ((c_tapeY 4 _ _ _ t k xa xb xc xd xe xe false hk2b rfl (decide_eq_false (by omega)))) (by decide +kernel) mvX9_tapeByte lk9_52 (ci := 8) rfl rfl rfl (by decide) (Nat.le_of_ble_eq_true rfl) rfl ?_
                            intro σ1 hr
                            rw [hr]
                            clear hr σ1
                            refine rw_go hX [(142, .aload_n 0), (143, .getfield 40)] (by decide +kernel) (Ps := []) (pc' := 146) (lv' := [(0, .ref 0), (1, .int (nI k)), (2, .int xa), (3, .int xb), (4, .int xc), (5, .int xd), (6, .int xe)]) (st' := [.int ((tpS σ t (min k 5) xa xb xc xd xe) 0 6)]) (σ' := tpS σ t (min k 5) xa xb xc xd xe) rfl True.intro ?_
                            rw [show ((tpS σ t (min k 5) xa xb xc xd xe) 0 6) = nI (t + min k 5) from (by rw [tpS_6 _ _ _ _ _ _ _ _])]
                            exact rw_iret hX (by decide +kernel) (by
  rw [show min k 5 = k by omega]
  exact ⟨by simp only [aFeed, e, h59, hck, if_true, if_false, Bool.false_eq_true], by simp only [sFeed, e, h59, hck, h0, if_true, if_false, Bool.false_eq_true]; rfl⟩)
                          · replace h131 := c2_leF h131
                            refine rw_go hX [(134, .iconst 1), (135, .goto 4)] (by decide +kernel) (Ps := []) (pc' := 139) (lv' := [(0, .ref 0), (1, .int (nI k)), (2, .int xa), (3, .int xb), (4, .int xc), (5, .int xd), (6, .int xe)]) (st' := [.int (nI 1), .int xe, .ref 0]) (σ' := tpS σ t (min k 4) xa xb xc xd xe) rfl True.intro ?_
                            refine rw_callVv hX (as := [.int xe, .int (nI 1)]) (rest := []) ((c_tapeY 4 _ _ _ t k xa xb xc xd xe xe true hk2b rfl (decide_eq_true (by omega)))) (by decide +kernel) mvX9_tapeByte lk9_52 (ci := 8) rfl rfl rfl (by decide) (Nat.le_of_ble_eq_true rfl) rfl ?_
                            intro σ1 hr
                            rw [hr]
                            clear hr σ1
                            refine rw_go hX [(142, .aload_n 0), (143, .getfield 40)] (by decide +kernel) (Ps := []) (pc' := 146) (lv' := [(0, .ref 0), (1, .int (nI k)), (2, .int xa), (3, .int xb), (4, .int xc), (5, .int xd), (6, .int xe)]) (st' := [.int ((tpS σ t (min k 5) xa xb xc xd xe) 0 6)]) (σ' := tpS σ t (min k 5) xa xb xc xd xe) rfl True.intro ?_
                            rw [show ((tpS σ t (min k 5) xa xb xc xd xe) 0 6) = nI (t + min k 5) from (by rw [tpS_6 _ _ _ _ _ _ _ _])]
                            exact rw_iret hX (by decide +kernel) (by
  rw [show min k 5 = k by omega]
  exact ⟨by simp only [aFeed, e, h59, hck, if_true, if_false, Bool.false_eq_true], by simp only [sFeed, e, h59, hck, h0, if_true, if_false, Bool.false_eq_true]; rfl⟩)
                      · replace h99 := c2_leF h99
                        refine rw_go hX [(102, .iconst 1), (103, .goto 4)] (by decide +kernel) (Ps := []) (pc' := 107) (lv' := [(0, .ref 0), (1, .int (nI k)), (2, .int xa), (3, .int xb), (4, .int xc), (5, .int xd), (6, .int xe)]) (st' := [.int (nI 1), .int xc, .ref 0]) (σ' := tpS σ t (min k 2) xa xb xc xd xe) rfl True.intro ?_
                        refine rw_callVv hX (as := [.int xc, .int (nI 1)]) (rest := []) ((c_tapeY 2 _ _ _ t k xa xb xc xd xe xc true hk2b rfl (decide_eq_true (by omega)))) (by decide +kernel) mvX9_tapeByte lk9_52 (ci := 8) rfl rfl rfl (by decide) (Nat.le_of_ble_eq_true rfl) rfl ?_
                        intro σ1 hr
                        rw [hr]
                        clear hr σ1
                        refine rw_go hX [(110, .aload_n 0), (111, .iload 5), (113, .iload_n 1), (114, .iconst 3)] (by decide +kernel) (Ps := []) (pc' := 115) (lv' := [(0, .ref 0), (1, .int (nI k)), (2, .int xa), (3, .int xb), (4, .int xc), (5, .int xd), (6, .int xe)]) (st' := [.int (nI 3), .int (nI k), .int xd, .ref 0]) (σ' := tpS σ t (min k 3) xa xb xc xd xe) rfl True.intro ?_
                        refine rw_icmp hX (tgt := 122) (cnd := .le) (off := 7) (by decide +kernel) (by decide) (fun h115 => ?_) (fun h115 => ?_)
                        · replace h115 := c2_leT h115
                          refine rw_go hX [(122, .iconst 0)] (by decide +kernel) (Ps := []) (pc' := 123) (lv' := [(0, .ref 0), (1, .int (nI k)), (2, .int xa), (3, .int xb), (4, .int xc), (5, .int xd), (6, .int xe)]) (st' := [.int (nI 0), .int xd, .ref 0]) (σ' := tpS σ t (min k 3) xa xb xc xd xe) rfl True.intro ?_
                          refine rw_callVv hX (as := [.int xd, .int (nI 0)]) (rest := []) ((c_tapeY 3 _ _ _ t k xa xb xc xd xe xd false hk2b rfl (decide_eq_false (by omega)))) (by decide +kernel) mvX9_tapeByte lk9_52 (ci := 8) rfl rfl rfl (by decide) (Nat.le_of_ble_eq_true rfl) rfl ?_
                          intro σ1 hr
                          rw [hr]
                          clear hr σ1
                          refine rw_go hX [(126, .aload_n 0), (127, .iload 6), (129, .iload_n 1), (130, .iconst 4)] (by decide +kernel) (Ps := []) (pc' := 131) (lv' := [(0, .ref 0), (1, .int (nI k)), (2, .int xa), (3, .int xb), (4, .int xc), (5, .int xd), (6, .int xe)]) (st' := [.int (nI 4), .int (nI k), .int xe, .ref 0]) (σ' := tpS σ t (min k 4) xa xb xc xd xe) rfl True.intro ?_
                          refine rw_icmp hX (tgt := 138) (cnd := .le) (off := 7) (by decide +kernel) (by decide) (fun h131 => ?_) (fun h131 => ?_)
                          · replace h131 := c2_leT h131
                            refine rw_go hX [(138, .iconst 0)] (by decide +kernel) (Ps := []) (pc' := 139) (lv' := [(0, .ref 0), (1, .int (nI k)), (2, .int xa), (3, .int xb), (4, .int xc), (5, .int xd), (6, .int xe)]) (st' := [.int (nI 0), .int xe, .ref 0]) (σ' := tpS σ t (min k 4) xa xb xc xd xe) rfl True.intro ?_
                            refine rw_callVv hX (as := [.int xe, .int (nI 0)]) (rest := []) ((c_tapeY 4 _ _ _ t k xa xb xc xd xe xe false hk2b rfl (decide_eq_false (by omega)))) (by decide +kernel) mvX9_tapeByte lk9_52 (ci := 8) rfl rfl rfl (by decide) (Nat.le_of_ble_eq_true rfl) rfl ?_
                            intro σ1 hr
                            rw [hr]
                            clear hr σ1
                            refine rw_go hX [(142, .aload_n 0), (143, .getfield 40)] (by decide +kernel) (Ps := []) (pc' := 146) (lv' := [(0, .ref 0), (1, .int (nI k)), (2, .int xa), (3, .int xb), (4, .int xc), (5, .int xd), (6, .int xe)]) (st' := [.int ((tpS σ t (min k 5) xa xb xc xd xe) 0 6)]) (σ' := tpS σ t (min k 5) xa xb xc xd xe) rfl True.intro ?_
                            rw [show ((tpS σ t (min k 5) xa xb xc xd xe) 0 6) = nI (t + min k 5) from (by rw [tpS_6 _ _ _ _ _ _ _ _])]
                            exact rw_iret hX (by decide +kernel) (by
  rw [show min k 5 = k by omega]
  exact ⟨by simp only [aFeed, e, h59, hck, if_true, if_false, Bool.false_eq_true], by simp only [sFeed, e, h59, hck, h0, if_true, if_false, Bool.false_eq_true]; rfl⟩)
                          · replace h131 := c2_leF h131
                            refine rw_go hX [(134, .iconst 1), (135, .goto 4)] (by decide +kernel) (Ps := []) (pc' := 139) (lv' := [(0, .ref 0), (1, .int (nI k)), (2, .int xa), (3, .int xb), (4, .int xc), (5, .int xd), (6, .int xe)]) (st' := [.int (nI 1), .int xe, .ref 0]) (σ' := tpS σ t (min k 4) xa xb xc xd xe) rfl True.intro ?_
                            refine rw_callVv hX (as := [.int xe, .int (nI 1)]) (rest := []) ((c_tapeY 4 _ _ _ t k xa xb xc xd xe xe true hk2b rfl (decide_eq_true (by omega)))) (by decide +kernel) mvX9_tapeByte lk9_52 (ci := 8) rfl rfl rfl (by decide) (Nat.le_of_ble_eq_true rfl) rfl ?_
                            intro σ1 hr
                            rw [hr]
                            clear hr σ1
                            refine rw_go hX [(142, .aload_n 0), (143, .getfield 40)] (by decide +kernel) (Ps := []) (pc' := 146) (lv' := [(0, .ref 0), (1, .int (nI k)), (2, .int xa), (3, .int xb), (4, .int xc), (5, .int xd), (6, .int xe)]) (st' := [.int ((tpS σ t (min k 5) xa xb xc xd xe) 0 6)]) (σ' := tpS σ t (min k 5) xa xb xc xd xe) rfl True.intro ?_
                            rw [show ((tpS σ t (min k 5) xa xb xc xd xe) 0 6) = nI (t + min k 5) from (by rw [tpS_6 _ _ _ _ _ _ _ _])]
                            exact rw_iret hX (by decide +kernel) (by
  rw [show min k 5 = k by omega]
  exact ⟨by simp only [aFeed, e, h59, hck, if_true, if_false, Bool.false_eq_true], by simp only [sFeed, e, h59, hck, h0, if_true, if_false, Bool.false_eq_true]; rfl⟩)
                        · replace h115 := c2_leF h115
                          refine rw_go hX [(118, .iconst 1), (119, .goto 4)] (by decide +kernel) (Ps := []) (pc' := 123) (lv' := [(0, .ref 0), (1, .int (nI k)), (2, .int xa), (3, .int xb), (4, .int xc), (5, .int xd), (6, .int xe)]) (st' := [.int (nI 1), .int xd, .ref 0]) (σ' := tpS σ t (min k 3) xa xb xc xd xe) rfl True.intro ?_
                          refine rw_callVv hX (as := [.int xd, .int (nI 1)]) (rest := []) ((c_tapeY 3 _ _ _ t k xa xb xc xd xe xd true hk2b rfl (decide_eq_true (by omega)))) (by decide +kernel) mvX9_tapeByte lk9_52 (ci := 8) rfl rfl rfl (by decide) (Nat.le_of_ble_eq_true rfl) rfl ?_
                          intro σ1 hr
                          rw [hr]
                          clear hr σ1
                          refine rw_go hX [(126, .aload_n 0), (127, .iload 6), (129, .iload_n 1), (130, .iconst 4)] (by decide +kernel) (Ps := []) (pc' := 131) (lv' := [(0, .ref 0), (1, .int (nI k)), (2, .int xa), (3, .int xb), (4, .int xc), (5, .int xd), (6, .int xe)]) (st' := [.int (nI 4), .int (nI k), .int xe, .ref 0]) (σ' := tpS σ t (min k 4) xa xb xc xd xe) rfl True.intro ?_
                          refine rw_icmp hX (tgt := 138) (cnd := .le) (off := 7) (by decide +kernel) (by decide) (fun h131 => ?_) (fun h131 => ?_)
                          · replace h131 := c2_leT h131
                            refine rw_go hX [(138, .iconst 0)] (by decide +kernel) (Ps := []) (pc' := 139) (lv' := [(0, .ref 0), (1, .int (nI k)), (2, .int xa), (3, .int xb), (4, .int xc), (5, .int xd), (6, .int xe)]) (st' := [.int (nI 0), .int xe, .ref 0]) (σ' := tpS σ t (min k 4) xa xb xc xd xe) rfl True.intro ?_
                            refine rw_callVv hX (as := [.int xe, .int (nI 0)]) (rest := []) ((c_tapeY 4 _ _ _ t k xa xb xc xd xe xe false hk2b rfl (decide_eq_false (by omega)))) (by decide +kernel) mvX9_tapeByte lk9_52 (ci := 8) rfl rfl rfl (by decide) (Nat.le_of_ble_eq_true rfl) rfl ?_
                            intro σ1 hr
                            rw [hr]
                            clear hr σ1
                            refine rw_go hX [(142, .aload_n 0), (143, .getfield 40)] (by decide +kernel) (Ps := []) (pc' := 146) (lv' := [(0, .ref 0), (1, .int (nI k)), (2, .int xa), (3, .int xb), (4, .int xc), (5, .int xd), (6, .int xe)]) (st' := [.int ((tpS σ t (min k 5) xa xb xc xd xe) 0 6)]) (σ' := tpS σ t (min k 5) xa xb xc xd xe) rfl True.intro ?_
                            rw [show ((tpS σ t (min k 5) xa xb xc xd xe) 0 6) = nI (t + min k 5) from (by rw [tpS_6 _ _ _ _ _ _ _ _])]
                            exact rw_iret hX (by decide +kernel) (by
  rw [show min k 5 = k by omega]
  exact ⟨by simp only [aFeed, e, h59, hck, if_true, if_false, Bool.false_eq_true], by simp only [sFeed, e, h59, hck, h0, if_true, if_false, Bool.false_eq_true]; rfl⟩)
                          · replace h131 := c2_leF h131
                            refine rw_go hX [(134, .iconst 1), (135, .goto 4)] (by decide +kernel) (Ps := []) (pc' := 139) (lv' := [(0, .ref 0), (1, .int (nI k)), (2, .int xa), (3, .int xb), (4, .int xc), (5, .int xd), (6, .int xe)]) (st' := [.int (nI 1), .int xe, .ref 0]) (σ' := tpS σ t (min k 4) xa xb xc xd xe) rfl True.intro ?_
                            refine rw_callVv hX (as := [.int xe, .int (nI 1)]) (rest := []) ((c_tapeY 4 _ _ _ t k xa xb xc xd xe xe true hk2b rfl (decide_eq_true (by omega)))) (by decide +kernel) mvX9_tapeByte lk9_52 (ci := 8) rfl rfl rfl (by decide) (Nat.le_of_ble_eq_true rfl) rfl ?_
                            intro σ1 hr
                            rw [hr]
                            clear hr σ1
                            refine rw_go hX [(142, .aload_n 0), (143, .getfield 40)] (by decide +kernel) (Ps := []) (pc' := 146) (lv' := [(0, .ref 0), (1, .int (nI k)), (2, .int xa), (3, .int xb), (4, .int xc), (5, .int xd), (6, .int xe)]) (st' := [.int ((tpS σ t (min k 5) xa xb xc xd xe) 0 6)]) (σ' := tpS σ t (min k 5) xa xb xc xd xe) rfl True.intro ?_
                            rw [show ((tpS σ t (min k 5) xa xb xc xd xe) 0 6) = nI (t + min k 5) from (by rw [tpS_6 _ _ _ _ _ _ _ _])]
                            exact rw_iret hX (by decide +kernel) (by
  rw [show min k 5 = k by omega]
  exact ⟨by simp only [aFeed, e, h59, hck, if_true, if_false, Bool.false_eq_true], by simp only [sFeed, e, h59, hck, h0, if_true, if_false, Bool.false_eq_true]; rfl⟩)
                    · replace h83 := c2_leF h83
                      refine rw_go hX [(86, .iconst 1), (87, .goto 4)] (by decide +kernel) (Ps := []) (pc' := 91) (lv' := [(0, .ref 0), (1, .int (nI k)), (2, .int xa), (3, .int xb), (4, .int xc), (5, .int xd), (6, .int xe)]) (st' := [.int (nI 1), .int xb, .ref 0]) (σ' := tpS σ t (min k 1) xa xb xc xd xe) rfl True.intro ?_
                      refine rw_callVv hX (as := [.int xb, .int (nI 1)]) (rest := []) ((c_tapeY 1 _ _ _ t k xa xb xc xd xe xb true hk2b rfl (decide_eq_true (by omega)))) (by decide +kernel) mvX9_tapeByte lk9_52 (ci := 8) rfl rfl rfl (by decide) (Nat.le_of_ble_eq_true rfl) rfl ?_
                      intro σ1 hr
                      rw [hr]
                      clear hr σ1
                      refine rw_go hX [(94, .aload_n 0), (95, .iload 4), (97, .iload_n 1), (98, .iconst 2)] (by decide +kernel) (Ps := []) (pc' := 99) (lv' := [(0, .ref 0), (1, .int (nI k)), (2, .int xa), (3, .int xb), (4, .int xc), (5, .int xd), (6, .int xe)]) (st' := [.int (nI 2), .int (nI k), .int xc, .ref 0]) (σ' := tpS σ t (min k 2) xa xb xc xd xe) rfl True.intro ?_
                      refine rw_icmp hX (tgt := 106) (cnd := .le) (off := 7) (by decide +kernel) (by decide) (fun h99 => ?_) (fun h99 => ?_)
                      · replace h99 := c2_leT h99
                        refine rw_go hX [(106, .iconst 0)] (by decide +kernel) (Ps := []) (pc' := 107) (lv' := [(0, .ref 0), (1, .int (nI k)), (2, .int xa), (3, .int xb), (4, .int xc), (5, .int xd), (6, .int xe)]) (st' := [.int (nI 0), .int xc, .ref 0]) (σ' := tpS σ t (min k 2) xa xb xc xd xe) rfl True.intro ?_
                        refine rw_callVv hX (as := [.int xc, .int (nI 0)]) (rest := []) ((c_tapeY 2 _ _ _ t k xa xb xc xd xe xc false hk2b rfl (decide_eq_false (by omega)))) (by decide +kernel) mvX9_tapeByte lk9_52 (ci := 8) rfl rfl rfl (by decide) (Nat.le_of_ble_eq_true rfl) rfl ?_
                        intro σ1 hr
                        rw [hr]
                        clear hr σ1
                        refine rw_go hX [(110, .aload_n 0), (111, .iload 5), (113, .iload_n 1), (114, .iconst 3)] (by decide +kernel) (Ps := []) (pc' := 115) (lv' := [(0, .ref 0), (1, .int (nI k)), (2, .int xa), (3, .int xb), (4, .int xc), (5, .int xd), (6, .int xe)]) (st' := [.int (nI 3), .int (nI k), .int xd, .ref 0]) (σ' := tpS σ t (min k 3) xa xb xc xd xe) rfl True.intro ?_
                        refine rw_icmp hX (tgt := 122) (cnd := .le) (off := 7) (by decide +kernel) (by decide) (fun h115 => ?_) (fun h115 => ?_)
                        · replace h115 := c2_leT h115
                          refine rw_go hX [(122, .iconst 0)] (by decide +kernel) (Ps := []) (pc' := 123) (lv' := [(0, .ref 0), (1, .int (nI k)), (2, .int xa), (3, .int xb), (4, .int xc), (5, .int xd), (6, .int xe)]) (st' := [.int (nI 0), .int xd, .ref 0]) (σ' := tpS σ t (min k 3) xa xb xc xd xe) rfl True.intro ?_
                          refine rw_callVv hX (as := [.int xd, .int (nI 0)]) (rest := []) ((c_tapeY 3 _ _ _ t k xa xb xc xd xe xd false hk2b rfl (decide_eq_false (by omega)))) (by decide +kernel) mvX9_tapeByte lk9_52 (ci := 8) rfl rfl rfl (by decide) (Nat.le_of_ble_eq_true rfl) rfl ?_
                          intro σ1 hr
                          rw [hr]
                          clear hr σ1
                          refine rw_go hX [(126, .aload_n 0), (127, .iload 6), (129, .iload_n 1), (130, .iconst 4)] (by decide +kernel) (Ps := []) (pc' := 131) (lv' := [(0, .ref 0), (1, .int (nI k)), (2, .int xa), (3, .int xb), (4, .int xc), (5, .int xd), (6, .int xe)]) (st' := [.int (nI 4), .int (nI k), .int xe, .ref 0]) (σ' := tpS σ t (min k 4) xa xb xc xd xe) rfl True.intro ?_
                          refine rw_icmp hX (tgt := 138) (cnd := .le) (off := 7) (by decide +kernel) (by decide) (fun h131 => ?_) (fun h131 => ?_)
                          · replace h131 := c2_leT h131
                            refine rw_go hX [(138, .iconst 0)] (by decide +kernel) (Ps := []) (pc' := 139) (lv' := [(0, .ref 0), (1, .int (nI k)), (2, .int xa), (3, .int xb), (4, .int xc), (5, .int xd), (6, .int xe)]) (st' := [.int (nI 0), .int xe, .ref 0]) (σ' := tpS σ t (min k 4) xa xb xc xd xe) rfl True.intro ?_
                            refine rw_callVv hX (as := [.int xe, .int (nI 0)]) (rest := []) ((c_tapeY 4 _ _ _ t k xa xb xc xd xe xe false hk2b rfl (decide_eq_false (by omega)))) (by decide +kernel) mvX9_tapeByte lk9_52 (ci := 8) rfl rfl rfl (by decide) (Nat.le_of_ble_eq_true rfl) rfl ?_
                            intro σ1 hr
                            rw [hr]
                            clear hr σ1
                            refine rw_go hX [(142, .aload_n 0), (143, .getfield 40)] (by decide +kernel) (Ps := []) (pc' := 146) (lv' := [(0, .ref 0), (1, .int (nI k)), (2, .int xa), (3, .int xb), (4, .int xc), (5, .int xd), (6, .int xe)]) (st' := [.int ((tpS σ t (min k 5) xa xb xc xd xe) 0 6)]) (σ' := tpS σ t (min k 5) xa xb xc xd xe) rfl True.intro ?_
                            rw [show ((tpS σ t (min k 5) xa xb xc xd xe) 0 6) = nI (t + min k 5) from (by rw [tpS_6 _ _ _ _ _ _ _ _])]
                            exact rw_iret hX (by decide +kernel) (by
  rw [show min k 5 = k by omega]
  exact ⟨by simp only [aFeed, e, h59, hck, if_true, if_false, Bool.false_eq_true], by simp only [sFeed, e, h59, hck, h0, if_true, if_false, Bool.false_eq_true]; rfl⟩)
                          · replace h131 := c2_leF h131
                            refine rw_go hX [(134, .iconst 1), (135, .goto 4)] (by decide +kernel) (Ps := []) (pc' := 139) (lv' := [(0, .ref 0), (1, .int (nI k)), (2, .int xa), (3, .int xb), (4, .int xc), (5, .int xd), (6, .int xe)]) (st' := [.int (nI 1), .int xe, .ref 0]) (σ' := tpS σ t (min k 4) xa xb xc xd xe) rfl True.intro ?_
                            refine rw_callVv hX (as := [.int xe, .int (nI 1)]) (rest := []) ((c_tapeY 4 _ _ _ t k xa xb xc xd xe xe true hk2b rfl (decide_eq_true (by omega)))) (by decide +kernel) mvX9_tapeByte lk9_52 (ci := 8) rfl rfl rfl (by decide) (Nat.le_of_ble_eq_true rfl) rfl ?_
                            intro σ1 hr
                            rw [hr]
                            clear hr σ1
                            refine rw_go hX [(142, .aload_n 0), (143, .getfield 40)] (by decide +kernel) (Ps := []) (pc' := 146) (lv' := [(0, .ref 0), (1, .int (nI k)), (2, .int xa), (3, .int xb), (4, .int xc), (5, .int xd), (6, .int xe)]) (st' := [.int ((tpS σ t (min k 5) xa xb xc xd xe) 0 6)]) (σ' := tpS σ t (min k 5) xa xb xc xd xe) rfl True.intro ?_
                            rw [show ((tpS σ t (min k 5) xa xb xc xd xe) 0 6) = nI (t + min k 5) from (by rw [tpS_6 _ _ _ _ _ _ _ _])]
                            exact rw_iret hX (by decide +kernel) (by
  rw [show min k 5 = k by omega]
  exact ⟨by simp only [aFeed, e, h59, hck, if_true, if_false, Bool.false_eq_true], by simp only [sFeed, e, h59, hck, h0, if_true, if_false, Bool.false_eq_true]; rfl⟩)
                        · replace h115 := c2_leF h115
                          refine rw_go hX [(118, .iconst 1), (119, .goto 4)] (by decide +kernel) (Ps := []) (pc' := 123) (lv' := [(0, .ref 0), (1, .int (nI k)), (2, .int xa), (3, .int xb), (4, .int xc), (5, .int xd), (6, .int xe)]) (st' := [.int (nI 1), .int xd, .ref 0]) (σ' := tpS σ t (min k 3) xa xb xc xd xe) rfl True.intro ?_
                          refine rw_callVv hX (as := [.int xd, .int (nI 1)]) (rest := []) ((c_tapeY 3 _ _ _ t k xa xb xc xd xe xd true hk2b rfl (decide_eq_true (by omega)))) (by decide +kernel) mvX9_tapeByte lk9_52 (ci := 8) rfl rfl rfl (by decide) (Nat.le_of_ble_eq_true rfl) rfl ?_
                          intro σ1 hr
                          rw [hr]
                          clear hr σ1
                          refine rw_go hX [(126, .aload_n 0), (127, .iload 6), (129, .iload_n 1), (130, .iconst 4)] (by decide +kernel) (Ps := []) (pc' := 131) (lv' := [(0, .ref 0), (1, .int (nI k)), (2, .int xa), (3, .int xb), (4, .int xc), (5, .int xd), (6, .int xe)]) (st' := [.int (nI 4), .int (nI k), .int xe, .ref 0]) (σ' := tpS σ t (min k 4) xa xb xc xd xe) rfl True.intro ?_
                          refine rw_icmp hX (tgt := 138) (cnd := .le) (off := 7) (by decide +kernel) (by decide) (fun h131 => ?_) (fun h131 => ?_)
                          · replace h131 := c2_leT h131
                            refine rw_go hX [(138, .iconst 0)] (by decide +kernel) (Ps := []) (pc' := 139) (lv' := [(0, .ref 0), (1, .int (nI k)), (2, .int xa), (3, .int xb), (4, .int xc), (5, .int xd), (6, .int xe)]) (st' := [.int (nI 0), .int xe, .ref 0]) (σ' := tpS σ t (min k 4) xa xb xc xd xe) rfl True.intro ?_
                            refine rw_callVv hX (as := [.int xe, .int (nI 0)]) (rest := []) ((c_tapeY 4 _ _ _ t k xa xb xc xd xe xe false hk2b rfl (decide_eq_false (by omega)))) (by decide +kernel) mvX9_tapeByte lk9_52 (ci := 8) rfl rfl rfl (by decide) (Nat.le_of_ble_eq_true rfl) rfl ?_
                            intro σ1 hr
                            rw [hr]
                            clear hr σ1
                            refine rw_go hX [(142, .aload_n 0), (143, .getfield 40)] (by decide +kernel) (Ps := []) (pc' := 146) (lv' := [(0, .ref 0), (1, .int (nI k)), (2, .int xa), (3, .int xb), (4, .int xc), (5, .int xd), (6, .int xe)]) (st' := [.int ((tpS σ t (min k 5) xa xb xc xd xe) 0 6)]) (σ' := tpS σ t (min k 5) xa xb xc xd xe) rfl True.intro ?_
                            rw [show ((tpS σ t (min k 5) xa xb xc xd xe) 0 6) = nI (t + min k 5) from (by rw [tpS_6 _ _ _ _ _ _ _ _])]
                            exact rw_iret hX (by decide +kernel) (by
  rw [show min k 5 = k by omega]
  exact ⟨by simp only [aFeed, e, h59, hck, if_true, if_false, Bool.false_eq_true], by simp only [sFeed, e, h59, hck, h0, if_true, if_false, Bool.false_eq_true]; rfl⟩)
                          · replace h131 := c2_leF h131
                            refine rw_go hX [(134, .iconst 1), (135, .goto 4)] (by decide +kernel) (Ps := []) (pc' := 139) (lv' := [(0, .ref 0), (1, .int (nI k)), (2, .int xa), (3, .int xb), (4, .int xc), (5, .int xd), (6, .int xe)]) (st' := [.int (nI 1), .int xe, .ref 0]) (σ' := tpS σ t (min k 4) xa xb xc xd xe) rfl True.intro ?_
                            refine rw_callVv hX (as := [.int xe, .int (nI 1)]) (rest := []) ((c_tapeY 4 _ _ _ t k xa xb xc xd xe xe true hk2b rfl (decide_eq_true (by omega)))) (by decide +kernel) mvX9_tapeByte lk9_52 (ci := 8) rfl rfl rfl (by decide) (Nat.le_of_ble_eq_true rfl) rfl ?_
                            intro σ1 hr
                            rw [hr]
                            clear hr σ1
                            refine rw_go hX [(142, .aload_n 0), (143, .getfield 40)] (by decide +kernel) (Ps := []) (pc' := 146) (lv' := [(0, .ref 0), (1, .int (nI k)), (2, .int xa), (3, .int xb), (4, .int xc), (5, .int xd), (6, .int xe)]) (st' := [.int ((tpS σ t (min k 5) xa xb xc xd xe) 0 6)]) (σ' := tpS σ t (min k 5) xa xb xc xd xe) rfl True.intro ?_
                            rw [show ((tpS σ t (min k 5) xa xb xc xd xe) 0 6) = nI (t + min k 5) from (by rw [tpS_6 _ _ _ _ _ _ _ _])]
                            exact rw_iret hX (by decide +kernel) (by
  rw [show min k 5 = k by omega]
  exact ⟨by simp only [aFeed, e, h59, hck, if_true, if_false, Bool.false_eq_true], by simp only [sFeed, e, h59, hck, h0, if_true, if_false, Bool.false_eq_true]; rfl⟩)
                      · replace h99 := c2_leF h99
                        refine rw_go hX [(102, .iconst 1), (103, .goto 4)] (by decide +kernel) (Ps := []) (pc' := 107) (lv' := [(0, .ref 0), (1, .int (nI k)), (2, .int xa), (3, .int xb), (4, .int xc), (5, .int xd), (6, .int xe)]) (st' := [.int (nI 1), .int xc, .ref 0]) (σ' := tpS σ t (min k 2) xa xb xc xd xe) rfl True.intro ?_
                        refine rw_callVv hX (as := [.int xc, .int (nI 1)]) (rest := []) ((c_tapeY 2 _ _ _ t k xa xb xc xd xe xc true hk2b rfl (decide_eq_true (by omega)))) (by decide +kernel) mvX9_tapeByte lk9_52 (ci := 8) rfl rfl rfl (by decide) (Nat.le_of_ble_eq_true rfl) rfl ?_
                        intro σ1 hr
                        rw [hr]
                        clear hr σ1
                        refine rw_go hX [(110, .aload_n 0), (111, .iload 5), (113, .iload_n 1), (114, .iconst 3)] (by decide +kernel) (Ps := []) (pc' := 115) (lv' := [(0, .ref 0), (1, .int (nI k)), (2, .int xa), (3, .int xb), (4, .int xc), (5, .int xd), (6, .int xe)]) (st' := [.int (nI 3), .int (nI k), .int xd, .ref 0]) (σ' := tpS σ t (min k 3) xa xb xc xd xe) rfl True.intro ?_
                        refine rw_icmp hX (tgt := 122) (cnd := .le) (off := 7) (by decide +kernel) (by decide) (fun h115 => ?_) (fun h115 => ?_)
                        · replace h115 := c2_leT h115
                          refine rw_go hX [(122, .iconst 0)] (by decide +kernel) (Ps := []) (pc' := 123) (lv' := [(0, .ref 0), (1, .int (nI k)), (2, .int xa), (3, .int xb), (4, .int xc), (5, .int xd), (6, .int xe)]) (st' := [.int (nI 0), .int xd, .ref 0]) (σ' := tpS σ t (min k 3) xa xb xc xd xe) rfl True.intro ?_
                          refine rw_callVv hX (as := [.int xd, .int (nI 0)]) (rest := []) ((c_tapeY 3 _ _ _ t k xa xb xc xd xe xd false hk2b rfl (decide_eq_false (by omega)))) (by decide +kernel) mvX9_tapeByte lk9_52 (ci := 8) rfl rfl rfl (by decide) (Nat.le_of_ble_eq_true rfl) rfl ?_
                          intro σ1 hr
                          rw [hr]
                          clear hr σ1
                          refine rw_go hX [(126, .aload_n 0), (127, .iload 6), (129, .iload_n 1), (130, .iconst 4)] (by decide +kernel) (Ps := []) (pc' := 131) (lv' := [(0, .ref 0), (1, .int (nI k)), (2, .int xa), (3, .int xb), (4, .int xc), (5, .int xd), (6, .int xe)]) (st' := [.int (nI 4), .int (nI k), .int xe, .ref 0]) (σ' := tpS σ t (min k 4) xa xb xc xd xe) rfl True.intro ?_
                          refine rw_icmp hX (tgt := 138) (cnd := .le) (off := 7) (by decide +kernel) (by decide) (fun h131 => ?_) (fun h131 => ?_)
                          · replace h131 := c2_leT h131
                            refine rw_go hX [(138, .iconst 0)] (by decide +kernel) (Ps := []) (pc' := 139) (lv' := [(0, .ref 0), (1, .int (nI k)), (2, .int xa), (3, .int xb), (4, .int xc), (5, .int xd), (6, .int xe)]) (st' := [.int (nI 0), .int xe, .ref 0]) (σ' := tpS σ t (min k 4) xa xb xc xd xe) rfl True.intro ?_
                            refine rw_callVv hX (as := [.int xe, .int (nI 0)]) (rest := []) ((c_tapeY 4 _ _ _ t k xa xb xc xd xe xe false hk2b rfl (decide_eq_false (by omega)))) (by decide +kernel) mvX9_tapeByte lk9_52 (ci := 8) rfl rfl rfl (by decide) (Nat.le_of_ble_eq_true rfl) rfl ?_
                            intro σ1 hr
                            rw [hr]
                            clear hr σ1
                            refine rw_go hX [(142, .aload_n 0), (143, .getfield 40)] (by decide +kernel) (Ps := []) (pc' := 146) (lv' := [(0, .ref 0), (1, .int (nI k)), (2, .int xa), (3, .int xb), (4, .int xc), (5, .int xd), (6, .int xe)]) (st' := [.int ((tpS σ t (min k 5) xa xb xc xd xe) 0 6)]) (σ' := tpS σ t (min k 5) xa xb xc xd xe) rfl True.intro ?_
                            rw [show ((tpS σ t (min k 5) xa xb xc xd xe) 0 6) = nI (t + min k 5) from (by rw [tpS_6 _ _ _ _ _ _ _ _])]
                            exact rw_iret hX (by decide +kernel) (by
  rw [show min k 5 = k by omega]
  exact ⟨by simp only [aFeed, e, h59, hck, if_true, if_false, Bool.false_eq_true], by simp only [sFeed, e, h59, hck, h0, if_true, if_false, Bool.false_eq_true]; rfl⟩)
                          · replace h131 := c2_leF h131
                            refine rw_go hX [(134, .iconst 1), (135, .goto 4)] (by decide +kernel) (Ps := []) (pc' := 139) (lv' := [(0, .ref 0), (1, .int (nI k)), (2, .int xa), (3, .int xb), (4, .int xc), (5, .int xd), (6, .int xe)]) (st' := [.int (nI 1), .int xe, .ref 0]) (σ' := tpS σ t (min k 4) xa xb xc xd xe) rfl True.intro ?_
                            refine rw_callVv hX (as := [.int xe, .int (nI 1)]) (rest := []) ((c_tapeY 4 _ _ _ t k xa xb xc xd xe xe true hk2b rfl (decide_eq_true (by omega)))) (by decide +kernel) mvX9_tapeByte lk9_52 (ci := 8) rfl rfl rfl (by decide) (Nat.le_of_ble_eq_true rfl) rfl ?_
                            intro σ1 hr
                            rw [hr]
                            clear hr σ1
                            refine rw_go hX [(142, .aload_n 0), (143, .getfield 40)] (by decide +kernel) (Ps := []) (pc' := 146) (lv' := [(0, .ref 0), (1, .int (nI k)), (2, .int xa), (3, .int xb), (4, .int xc), (5, .int xd), (6, .int xe)]) (st' := [.int ((tpS σ t (min k 5) xa xb xc xd xe) 0 6)]) (σ' := tpS σ t (min k 5) xa xb xc xd xe) rfl True.intro ?_
                            rw [show ((tpS σ t (min k 5) xa xb xc xd xe) 0 6) = nI (t + min k 5) from (by rw [tpS_6 _ _ _ _ _ _ _ _])]
                            exact rw_iret hX (by decide +kernel) (by
  rw [show min k 5 = k by omega]
  exact ⟨by simp only [aFeed, e, h59, hck, if_true, if_false, Bool.false_eq_true], by simp only [sFeed, e, h59, hck, h0, if_true, if_false, Bool.false_eq_true]; rfl⟩)
                        · replace h115 := c2_leF h115
                          refine rw_go hX [(118, .iconst 1), (119, .goto 4)] (by decide +kernel) (Ps := []) (pc' := 123) (lv' := [(0, .ref 0), (1, .int (nI k)), (2, .int xa), (3, .int xb), (4, .int xc), (5, .int xd), (6, .int xe)]) (st' := [.int (nI 1), .int xd, .ref 0]) (σ' := tpS σ t (min k 3) xa xb xc xd xe) rfl True.intro ?_
                          refine rw_callVv hX (as := [.int xd, .int (nI 1)]) (rest := []) ((c_tapeY 3 _ _ _ t k xa xb xc xd xe xd true hk2b rfl (decide_eq_true (by omega)))) (by decide +kernel) mvX9_tapeByte lk9_52 (ci := 8) rfl rfl rfl (by decide) (Nat.le_of_ble_eq_true rfl) rfl ?_
                          intro σ1 hr
                          rw [hr]
                          clear hr σ1
                          refine rw_go hX [(126, .aload_n 0), (127, .iload 6), (129, .iload_n 1), (130, .iconst 4)] (by decide +kernel) (Ps := []) (pc' := 131) (lv' := [(0, .ref 0), (1, .int (nI k)), (2, .int xa), (3, .int xb), (4, .int xc), (5, .int xd), (6, .int xe)]) (st' := [.int (nI 4), .int (nI k), .int xe, .ref 0]) (σ' := tpS σ t (min k 4) xa xb xc xd xe) rfl True.intro ?_
                          refine rw_icmp hX (tgt := 138) (cnd := .le) (off := 7) (by decide +kernel) (by decide) (fun h131 => ?_) (fun h131 => ?_)
                          · replace h131 := c2_leT h131
                            refine rw_go hX [(138, .iconst 0)] (by decide +kernel) (Ps := []) (pc' := 139) (lv' := [(0, .ref 0), (1, .int (nI k)), (2, .int xa), (3, .int xb), (4, .int xc), (5, .int xd), (6, .int xe)]) (st' := [.int (nI 0), .int xe, .ref 0]) (σ' := tpS σ t (min k 4) xa xb xc xd xe) rfl True.intro ?_
                            refine rw_callVv hX (as := [.int xe, .int (nI 0)]) (rest := []) ((c_tapeY 4 _ _ _ t k xa xb xc xd xe xe false hk2b rfl (decide_eq_false (by omega)))) (by decide +kernel) mvX9_tapeByte lk9_52 (ci := 8) rfl rfl rfl (by decide) (Nat.le_of_ble_eq_true rfl) rfl ?_
                            intro σ1 hr
                            rw [hr]
                            clear hr σ1
                            refine rw_go hX [(142, .aload_n 0), (143, .getfield 40)] (by decide +kernel) (Ps := []) (pc' := 146) (lv' := [(0, .ref 0), (1, .int (nI k)), (2, .int xa), (3, .int xb), (4, .int xc), (5, .int xd), (6, .int xe)]) (st' := [.int ((tpS σ t (min k 5) xa xb xc xd xe) 0 6)]) (σ' := tpS σ t (min k 5) xa xb xc xd xe) rfl True.intro ?_
                            rw [show ((tpS σ t (min k 5) xa xb xc xd xe) 0 6) = nI (t + min k 5) from (by rw [tpS_6 _ _ _ _ _ _ _ _])]
                            exact rw_iret hX (by decide +kernel) (by
  rw [show min k 5 = k by omega]
  exact ⟨by simp only [aFeed, e, h59, hck, if_true, if_false, Bool.false_eq_true], by simp only [sFeed, e, h59, hck, h0, if_true, if_false, Bool.false_eq_true]; rfl⟩)
                          · replace h131 := c2_leF h131
                            refine rw_go hX [(134, .iconst 1), (135, .goto 4)] (by decide +kernel) (Ps := []) (pc' := 139) (lv' := [(0, .ref 0), (1, .int (nI k)), (2, .int xa), (3, .int xb), (4, .int xc), (5, .int xd), (6, .int xe)]) (st' := [.int (nI 1), .int xe, .ref 0]) (σ' := tpS σ t (min k 4) xa xb xc xd xe) rfl True.intro ?_
                            refine rw_callVv hX (as := [.int xe, .int (nI 1)]) (rest := []) ((c_tapeY 4 _ _ _ t k xa xb xc xd xe xe true hk2b rfl (decide_eq_true (by omega)))) (by decide +kernel) mvX9_tapeByte lk9_52 (ci := 8) rfl rfl rfl (by decide) (Nat.le_of_ble_eq_true rfl) rfl ?_
                            intro σ1 hr
                            rw [hr]
                            clear hr σ1
                            refine rw_go hX [(142, .aload_n 0), (143, .getfield 40)] (by decide +kernel) (Ps := []) (pc' := 146) (lv' := [(0, .ref 0), (1, .int (nI k)), (2, .int xa), (3, .int xb), (4, .int xc), (5, .int xd), (6, .int xe)]) (st' := [.int ((tpS σ t (min k 5) xa xb xc xd xe) 0 6)]) (σ' := tpS σ t (min k 5) xa xb xc xd xe) rfl True.intro ?_
                            rw [show ((tpS σ t (min k 5) xa xb xc xd xe) 0 6) = nI (t + min k 5) from (by rw [tpS_6 _ _ _ _ _ _ _ _])]
                            exact rw_iret hX (by decide +kernel) (by
  rw [show min k 5 = k by omega]
  exact ⟨by simp only [aFeed, e, h59, hck, if_true, if_false, Bool.false_eq_true], by simp only [sFeed, e, h59, hck, h0, if_true, if_false, Bool.false_eq_true]; rfl⟩)
                · replace h59 : ¬ (xn ≤ nI (50 - t)) := h59
                  have e : pz (fdB xn xa xb xc xd xe) = true := pz_t ⟨h2, h7, h14, h21, h29, h37, h45⟩
                  refine rw_go hX [(62, .bipush (-4))] (by decide +kernel) (Ps := []) (pc' := 64) (lv' := [(0, .ref 0), (1, .int xn), (2, .int xa), (3, .int xb), (4, .int xc), (5, .int xd), (6, .int xe)]) (st' := [.int (-(nI 4))]) (σ' := σ) rfl True.intro ?_
                  exact rw_iret hX (by decide +kernel) (by
  exact ⟨by simp only [aFeed, e, h2, h7, h14, h21, h29, h37, h45, h59, if_true, if_false, Bool.false_eq_true], by simp only [sFeed, e, h2, h7, h14, h21, h29, h37, h45, h59, if_true, if_false, Bool.false_eq_true]⟩)
              · replace h45 := of_decide_eq_false (zb_neF h45)
                refine rw_go hX [(48, .bipush (-2))] (by decide +kernel) (Ps := []) (pc' := 50) (lv' := [(0, .ref 0), (1, .int xn), (2, .int xa), (3, .int xb), (4, .int xc), (5, .int xd), (6, .int xe)]) (st' := [.int (-(nI 2))]) (σ' := σ) rfl True.intro ?_
                exact rw_iret hX (by decide +kernel) (by
  have e : pz (fdB xn xa xb xc xd xe) = false := pz_f fun z => by
    simp only [fdB, h2, h7, h14, h21, h29, h37, h45, not_true_eq_false, and_false, false_and] at z
  exact ⟨by simp only [aFeed, e, if_true, if_false, Bool.false_eq_true], by simp only [sFeed, e, if_true, if_false, Bool.false_eq_true]⟩)
