/-! spans: the small methods (letters' longest matches 54, sources 55, firsts 56, lasts 57, origins 58, tally 59) -/
def spB (L : Nat) (σ : Mm) : Mm := sr (sr (sw σ 53 2 (nI L)) 54 (fl (σ 54) 0 50 (nI 0))) 55 (fl (σ 55) 0 50 (-(nI 1)))
def msS (T : Nat → Nat) : Nat → Option Nat × Nat
  | 0 => (none, 0)
  | w + 1 => if (msS T w).2 < T w then (some w, T w) else msS T w
theorem msS_y {T : Nat → Nat} {w : Nat} (h : (msS T w).2 < T w) : msS T (w + 1) = (some w, T w) := if_pos h
theorem msS_n {T : Nat → Nat} {w : Nat} (h : ¬ (msS T w).2 < T w) : msS T (w + 1) = msS T w := if_neg h
theorem msS_le {T : Nat → Nat} {C : Nat} (h : ∀ w, w < 5 → T w ≤ C) : ∀ w, w ≤ 5 → (msS T w).2 ≤ C
  | 0, _ => Nat.zero_le _
  | w + 1, hw => by
    by_cases g : (msS T w).2 < T w
    · rw [msS_y g]; exact h w (by omega)
    · rw [msS_n g]; exact msS_le h w (by omega)
/-- a letter of a source: a span goes on or a new one begins -/
def spE (n i : Nat) (src : Int32) (g : Bool) (σ : Mm) : Mm := if g = true then sw σ 57 (n - 1) (nI i) else sw (sw (sw (sw σ 56 n (nI i)) 58 n src) 53 0 (nI (n + 1))) 57 n (nI i)
set_option maxRecDepth 20000 in
set_option maxHeartbeats 4000000 in
theorem c_spBegin (l : Launch) (G : Gl) (σ : Mm) (L : Nat) (hL : L ≤ 50) : AMv l G 1 mX7_begin [.ref 53, .int (nI L)] σ (fun σ' => σ' = spB L σ) := by
  refine rw_inV 7 (by decide +kernel) rfl rfl ?_
  intro E hE hX
  subst hE
  refine rw_go hX [(0, .aload_n 0), (1, .bipush 50), (3, .iload_n 1)] (by decide +kernel) (Ps := []) (pc' := 4) (lv' := [(0, .ref 53), (1, .int (nI L))]) (st' := [.int (nI L), .int (nI 50), .ref 53]) (σ' := σ) rfl True.intro ?_
  refine rw_min hX (by decide +kernel) lk7_40 (Nat.le_of_ble_eq_true rfl) ?_
  rw [show (if nI L < nI 50 then nI L else nI 50) = nI L from mn_l hL (by omega)]
  refine rw_go hX [(7, .putfield 18), (10, .aload_n 0), (11, .getfield 21), (14, .iconst 0)] (by decide +kernel) (Ps := []) (pc' := 15) (lv' := [(0, .ref 53), (1, .int (nI L))]) (st' := [.int (nI 0), .ref 54]) (σ' := sw σ 53 2 (nI L)) rfl True.intro ?_
  refine rw_callSv hX (as := [.ref 54, .int (nI 0)]) (rest := []) (c_J7_fill_53178 _ _ _ 54 50 (nI 0) (by decide +kernel) (by omega)) (by decide +kernel) msJ7_fill_53178 (Or.inl lk7_46) rfl (by decide) (Nat.le_of_ble_eq_true rfl) rfl ?_
  intro σ1 hr
  rw [hr]
  clear hr σ1
  refine rw_go hX [(18, .aload_n 0), (19, .getfield 25), (22, .iconst (-1))] (by decide +kernel) (Ps := []) (pc' := 23) (lv' := [(0, .ref 53), (1, .int (nI L))]) (st' := [.int (-(nI 1)), .ref 55]) (σ' := sr (sw σ 53 2 (nI L)) 54 (fl ((sw σ 53 2 (nI L)) 54) 0 50 (nI 0))) rfl True.intro ?_
  refine rw_callSv hX (as := [.ref 55, .int (-(nI 1))]) (rest := []) (c_J7_fill_53178 _ _ _ 55 50 (-(nI 1)) (by decide +kernel) (by omega)) (by decide +kernel) msJ7_fill_53178 (Or.inl lk7_46) rfl (by decide) (Nat.le_of_ble_eq_true rfl) rfl ?_
  intro σ1 hr
  rw [hr]
  clear hr σ1
  exact rw_vret hX (by decide +kernel) (by unfold spB; rw [sr_n _ _ (show 55 ≠ 54 by decide), sw_ne _ _ _ (show 54 ≠ 53 by decide), sw_ne _ _ _ (show 55 ≠ 53 by decide)])
set_option maxRecDepth 20000 in
set_option maxHeartbeats 4000000 in
theorem c_isBetter (l : Launch) (G : Gl) (σ : Mm) (len w i lg dk : Nat) (x : Option Nat) (hlen : len ≤ 50) (hw : w < 5) (hi : i < 50) (hl : σ 54 i = nI lg) (hl5 : lg ≤ 50) (hx : σ 55 i = en x) (hx5 : ∀ v, x = some v → v < 5) (hdk : shapes[dk]? = some (.inl (0, 5))) : AMi l G 1 mX7_isBetter [.ref 53, .int (nI len), .int (nI w), .int (nI i), .ref dk] σ (fun r σ' => σ' = σ ∧ r = bz (if len = lg then decide (σ dk w < pkE (σ dk) x) else decide (lg < len))) := by
  refine rw_inI 7 (by decide +kernel) rfl rfl ?_
  intro E hE hX
  subst hE
  refine rw_go hX [(0, .iload_n 1), (1, .aload_n 0), (2, .getfield 21), (5, .iload_n 3), (6, .iaload)] (by decide +kernel) (Ps := [vp_in (nI i) 50]) (pc' := 7) (lv' := [(0, .ref 53), (1, .int (nI len)), (2, .int (nI w)), (3, .int (nI i)), (4, .ref dk)]) (st' := [.int (σ 54 (nI i).toNatClampNeg), .int (nI len)]) (σ' := σ) rfl (vp_in_nI (by omega) (by omega)) ?_
  rw [show (σ 54 (nI i).toNatClampNeg) = nI lg from (by rw [nI_clamp (by omega), hl])]
  refine rw_icmp hX (tgt := 26) (cnd := .eq) (off := 19) (by decide +kernel) (by decide) (fun h7 => ?_) (fun h7 => ?_)
  · replace h7 := c2_eqT h7
    refine rw_go hX [(26, .aload 4), (28, .iload_n 2)] (by decide +kernel) (Ps := []) (pc' := 29) (lv' := [(0, .ref 53), (1, .int (nI len)), (2, .int (nI w)), (3, .int (nI i)), (4, .ref dk)]) (st' := [.int (nI w), .ref dk]) (σ' := σ) rfl True.intro ?_
    refine rw_callSi hX (as := [.ref dk, .int (nI w)]) (rest := []) (c_pick _ _ _ dk 5 w hdk (by omega) hw) (by decide +kernel) msX9_pick (Or.inr lk7_69) rfl (by decide) (Nat.le_of_ble_eq_true rfl) rfl ?_
    intro r1 σ1 hr
    rw [hr.1, hr.2]
    clear hr σ1 r1
    refine rw_go hX [(32, .aload 4), (34, .aload_n 0), (35, .getfield 25), (38, .iload_n 3), (39, .iaload)] (by decide +kernel) (Ps := [vp_in (nI i) 50]) (pc' := 40) (lv' := [(0, .ref 53), (1, .int (nI len)), (2, .int (nI w)), (3, .int (nI i)), (4, .ref dk)]) (st' := [.int (σ 55 (nI i).toNatClampNeg), .ref dk, .int (σ dk w)]) (σ' := σ) rfl (vp_in_nI (by omega) (by omega)) ?_
    rw [show (σ 55 (nI i).toNatClampNeg) = en x from (by rw [nI_clamp (by omega), hx])]
    refine rw_callSi hX (as := [.ref dk, .int (en x)]) (rest := [.int (σ dk w)]) (c_pickE _ _ _ dk 5 x hdk (by omega) hx5) (by decide +kernel) msX9_pick (Or.inr lk7_69) rfl (by decide) (Nat.le_of_ble_eq_true rfl) rfl ?_
    intro r1 σ1 hr
    rw [hr.1, hr.2]
    clear hr σ1 r1
    refine rw_icmp hX (tgt := 50) (cnd := .ge) (off := 7) (by decide +kernel) (by decide) (fun h43 => ?_) (fun h43 => ?_)
    · replace h43 : (σ dk w ≥ pkE (σ dk) x) := h43
      refine rw_go hX [(50, .iconst 0)] (by decide +kernel) (Ps := []) (pc' := 51) (lv' := [(0, .ref 53), (1, .int (nI len)), (2, .int (nI w)), (3, .int (nI i)), (4, .ref dk)]) (st' := [.int (nI 0)]) (σ' := σ) rfl True.intro ?_
      exact rw_zret hX (by decide +kernel) (Or.inl rfl) (⟨rfl, by first | (rw [if_pos (by omega), decide_eq_true (Int32.not_le.mp h43)]; rfl) | (rw [if_pos (by omega), decide_eq_false (Int32.not_lt.mpr h43)]; rfl)⟩)
    · replace h43 : ¬ (σ dk w ≥ pkE (σ dk) x) := h43
      refine rw_go hX [(46, .iconst 1), (47, .goto 4)] (by decide +kernel) (Ps := []) (pc' := 51) (lv' := [(0, .ref 53), (1, .int (nI len)), (2, .int (nI w)), (3, .int (nI i)), (4, .ref dk)]) (st' := [.int (nI 1)]) (σ' := σ) rfl True.intro ?_
      exact rw_zret hX (by decide +kernel) (Or.inr rfl) (⟨rfl, by first | (rw [if_pos (by omega), decide_eq_true (Int32.not_le.mp h43)]; rfl) | (rw [if_pos (by omega), decide_eq_false (Int32.not_lt.mpr h43)]; rfl)⟩)
  · replace h7 := c2_eqF h7
    refine rw_go hX [(10, .iload_n 1), (11, .aload_n 0), (12, .getfield 21), (15, .iload_n 3), (16, .iaload)] (by decide +kernel) (Ps := [vp_in (nI i) 50]) (pc' := 17) (lv' := [(0, .ref 53), (1, .int (nI len)), (2, .int (nI w)), (3, .int (nI i)), (4, .ref dk)]) (st' := [.int (σ 54 (nI i).toNatClampNeg), .int (nI len)]) (σ' := σ) rfl (vp_in_nI (by omega) (by omega)) ?_
    rw [show (σ 54 (nI i).toNatClampNeg) = nI lg from (by rw [nI_clamp (by omega), hl])]
    refine rw_icmp hX (tgt := 24) (cnd := .le) (off := 7) (by decide +kernel) (by decide) (fun h17 => ?_) (fun h17 => ?_)
    · replace h17 := c2_leT h17
      refine rw_go hX [(24, .iconst 0)] (by decide +kernel) (Ps := []) (pc' := 25) (lv' := [(0, .ref 53), (1, .int (nI len)), (2, .int (nI w)), (3, .int (nI i)), (4, .ref dk)]) (st' := [.int (nI 0)]) (σ' := σ) rfl True.intro ?_
      exact rw_zret hX (by decide +kernel) (Or.inl rfl) (⟨rfl, by first | (rw [if_neg (by omega), decide_eq_true (by omega)]; rfl) | (rw [if_neg (by omega), decide_eq_false (by omega)]; rfl)⟩)
    · replace h17 := c2_leF h17
      refine rw_go hX [(20, .iconst 1), (21, .goto 4)] (by decide +kernel) (Ps := []) (pc' := 25) (lv' := [(0, .ref 53), (1, .int (nI len)), (2, .int (nI w)), (3, .int (nI i)), (4, .ref dk)]) (st' := [.int (nI 1)]) (σ' := σ) rfl True.intro ?_
      exact rw_zret hX (by decide +kernel) (Or.inr rfl) (⟨rfl, by first | (rw [if_neg (by omega), decide_eq_true (by omega)]; rfl) | (rw [if_neg (by omega), decide_eq_false (by omega)]; rfl)⟩)
set_option maxRecDepth 20000 in
set_option maxHeartbeats 4000000 in
theorem c_sourceAt (l : Launch) (G : Gl) (σ : Mm) (i L lg ls : Nat) (hi : i < 50) (hL : σ 53 2 = nI L) (hL5 : L ≤ 50) (hl : σ 54 i = nI lg) (hl5 : lg ≤ 50) (hls : ls ≤ 50) : AMi l G 0 mX7_sourceAt [.ref 53, .int (nI i), .int (nI ls)] σ (fun r σ' => σ' = σ ∧ r = if i < L ∧ ls ≤ lg then σ 55 i else -(nI 1)) := by
  refine rw_inI 7 (by decide +kernel) rfl rfl ?_
  intro E hE hX
  subst hE
  refine rw_go hX [(0, .iload_n 1)] (by decide +kernel) (Ps := []) (pc' := 1) (lv' := [(0, .ref 53), (1, .int (nI i)), (2, .int (nI ls))]) (st' := [.int (nI i)]) (σ' := σ) rfl True.intro ?_
  refine rw_if hX (tgt := 37) (cnd := .lt) (off := 36) (by decide +kernel) (by decide) (fun h1 => ?_) (fun h1 => ?_)
  · exact zn_ltT h1
  · clear h1
    refine rw_go hX [(4, .iload_n 1), (5, .aload_n 0), (6, .getfield 18)] (by decide +kernel) (Ps := []) (pc' := 9) (lv' := [(0, .ref 53), (1, .int (nI i)), (2, .int (nI ls))]) (st' := [.int (σ 53 2), .int (nI i)]) (σ' := σ) rfl True.intro ?_
    rw [show (σ 53 2) = nI L from (by rw [hL])]
    refine rw_icmp hX (tgt := 37) (cnd := .ge) (off := 28) (by decide +kernel) (by decide) (fun h9 => ?_) (fun h9 => ?_)
    · replace h9 := c2_geT h9
      refine rw_go hX [(37, .iconst (-1))] (by decide +kernel) (Ps := []) (pc' := 38) (lv' := [(0, .ref 53), (1, .int (nI i)), (2, .int (nI ls))]) (st' := [.int (-(nI 1))]) (σ' := σ) rfl True.intro ?_
      exact rw_iret hX (by decide +kernel) (⟨rfl, by first | (rw [if_pos ⟨by omega, by omega⟩]; done) | (rw [if_neg (by omega)]; done)⟩)
    · replace h9 := c2_geF h9
      refine rw_go hX [(12, .iload_n 1), (13, .bipush 50)] (by decide +kernel) (Ps := []) (pc' := 15) (lv' := [(0, .ref 53), (1, .int (nI i)), (2, .int (nI ls))]) (st' := [.int (nI 50), .int (nI i)]) (σ' := σ) rfl True.intro ?_
      refine rw_icmp hX (tgt := 37) (cnd := .ge) (off := 22) (by decide +kernel) (by decide) (fun h15 => ?_) (fun h15 => ?_)
      · replace h15 := c2_geT h15
        omega
      · replace h15 := c2_geF h15
        refine rw_go hX [(18, .aload_n 0), (19, .getfield 21), (22, .iload_n 1), (23, .iaload)] (by decide +kernel) (Ps := [vp_in (nI i) 50]) (pc' := 24) (lv' := [(0, .ref 53), (1, .int (nI i)), (2, .int (nI ls))]) (st' := [.int (σ 54 (nI i).toNatClampNeg)]) (σ' := σ) rfl (vp_in_nI (by omega) (by omega)) ?_
        rw [show (σ 54 (nI i).toNatClampNeg) = nI lg from (by rw [nI_clamp (by omega), hl])]
        refine rw_go hX [(24, .iload_n 2)] (by decide +kernel) (Ps := []) (pc' := 25) (lv' := [(0, .ref 53), (1, .int (nI i)), (2, .int (nI ls))]) (st' := [.int (nI ls), .int (nI lg)]) (σ' := σ) rfl True.intro ?_
        refine rw_icmp hX (tgt := 37) (cnd := .lt) (off := 12) (by decide +kernel) (by decide) (fun h25 => ?_) (fun h25 => ?_)
        · replace h25 := c2_ltT h25
          refine rw_go hX [(37, .iconst (-1))] (by decide +kernel) (Ps := []) (pc' := 38) (lv' := [(0, .ref 53), (1, .int (nI i)), (2, .int (nI ls))]) (st' := [.int (-(nI 1))]) (σ' := σ) rfl True.intro ?_
          exact rw_iret hX (by decide +kernel) (⟨rfl, by first | (rw [if_pos ⟨by omega, by omega⟩]; done) | (rw [if_neg (by omega)]; done)⟩)
        · replace h25 := c2_ltF h25
          refine rw_go hX [(28, .aload_n 0), (29, .getfield 25), (32, .iload_n 1), (33, .iaload)] (by decide +kernel) (Ps := [vp_in (nI i) 50]) (pc' := 34) (lv' := [(0, .ref 53), (1, .int (nI i)), (2, .int (nI ls))]) (st' := [.int (σ 55 (nI i).toNatClampNeg)]) (σ' := σ) rfl (vp_in_nI (by omega) (by omega)) ?_
          rw [show (σ 55 (nI i).toNatClampNeg) = σ 55 i from (by rw [nI_clamp (by omega)])]
          refine rw_go hX [(34, .goto 4)] (by decide +kernel) (Ps := []) (pc' := 38) (lv' := [(0, .ref 53), (1, .int (nI i)), (2, .int (nI ls))]) (st' := [.int (σ 55 i)]) (σ' := σ) rfl True.intro ?_
          exact rw_iret hX (by decide +kernel) (⟨rfl, by first | (rw [if_pos ⟨by omega, by omega⟩]; done) | (rw [if_neg (by omega)]; done)⟩)
set_option maxRecDepth 20000 in
set_option maxHeartbeats 4000000 in
theorem c_firstOfSpan (l : Launch) (G : Gl) (σ : Mm) (x : Nat) (hx : x < 50) : AMi l G 1 mX7_firstOfSpan [.ref 53, .int (nI x)] σ (fun r σ' => σ' = σ ∧ r = σ 56 x) := by
  refine rw_inI 7 (by decide +kernel) rfl rfl ?_
  intro E hE hX
  subst hE
  refine rw_go hX [(0, .aload_n 0), (1, .getfield 28), (4, .iload_n 1)] (by decide +kernel) (Ps := []) (pc' := 5) (lv' := [(0, .ref 53), (1, .int (nI x))]) (st' := [.int (nI x), .ref 56]) (σ' := σ) rfl True.intro ?_
  refine rw_callSi hX (as := [.ref 56, .int (nI x)]) (rest := []) (c_pick _ _ _ 56 50 x (by decide +kernel) (by omega) hx) (by decide +kernel) msX9_pick (Or.inr lk7_69) rfl (by decide) (Nat.le_of_ble_eq_true rfl) rfl ?_
  intro r1 σ1 hr
  rw [hr.1, hr.2]
  clear hr σ1 r1
  exact rw_iret hX (by decide +kernel) (⟨rfl, rfl⟩)
set_option maxRecDepth 20000 in
set_option maxHeartbeats 4000000 in
theorem c_lastOfSpan (l : Launch) (G : Gl) (σ : Mm) (x : Nat) (hx : x < 50) : AMi l G 1 mX7_lastOfSpan [.ref 53, .int (nI x)] σ (fun r σ' => σ' = σ ∧ r = σ 57 x) := by
  refine rw_inI 7 (by decide +kernel) rfl rfl ?_
  intro E hE hX
  subst hE
  refine rw_go hX [(0, .aload_n 0), (1, .getfield 31), (4, .iload_n 1)] (by decide +kernel) (Ps := []) (pc' := 5) (lv' := [(0, .ref 53), (1, .int (nI x))]) (st' := [.int (nI x), .ref 57]) (σ' := σ) rfl True.intro ?_
  refine rw_callSi hX (as := [.ref 57, .int (nI x)]) (rest := []) (c_pick _ _ _ 57 50 x (by decide +kernel) (by omega) hx) (by decide +kernel) msX9_pick (Or.inr lk7_69) rfl (by decide) (Nat.le_of_ble_eq_true rfl) rfl ?_
  intro r1 σ1 hr
  rw [hr.1, hr.2]
  clear hr σ1 r1
  exact rw_iret hX (by decide +kernel) (⟨rfl, rfl⟩)
set_option maxRecDepth 20000 in
set_option maxHeartbeats 4000000 in
theorem c_sourceOfSpan (l : Launch) (G : Gl) (σ : Mm) (x : Nat) (hx : x < 50) : AMi l G 1 mX7_sourceOfSpan [.ref 53, .int (nI x)] σ (fun r σ' => σ' = σ ∧ r = σ 58 x) := by
  refine rw_inI 7 (by decide +kernel) rfl rfl ?_
  intro E hE hX
  subst hE
  refine rw_go hX [(0, .aload_n 0), (1, .getfield 34), (4, .iload_n 1)] (by decide +kernel) (Ps := []) (pc' := 5) (lv' := [(0, .ref 53), (1, .int (nI x))]) (st' := [.int (nI x), .ref 58]) (σ' := σ) rfl True.intro ?_
  refine rw_callSi hX (as := [.ref 58, .int (nI x)]) (rest := []) (c_pick _ _ _ 58 50 x (by decide +kernel) (by omega) hx) (by decide +kernel) msX9_pick (Or.inr lk7_69) rfl (by decide) (Nat.le_of_ble_eq_true rfl) rfl ?_
  intro r1 σ1 hr
  rw [hr.1, hr.2]
  clear hr σ1 r1
  exact rw_iret hX (by decide +kernel) (⟨rfl, rfl⟩)
set_option maxRecDepth 20000 in
set_option maxHeartbeats 4000000 in
theorem c_mainSource (l : Launch) (G : Gl) (σ : Mm) (T : Nat → Nat) (hT : ∀ w, w < 5 → σ 59 w = nI (T w) ∧ T w ≤ 50) : AMi l G 0 mX7_mainSource [.ref 53] σ (fun r σ' => σ' = σ ∧ r = en (msS T 5).1) := by
  refine rw_inI 7 (by decide +kernel) rfl rfl ?_
  intro E hE hX
  subst hE
  refine rw_go hX [(0, .iconst (-1)), (1, .istore_n 1), (2, .iconst 0), (3, .istore_n 2), (4, .iconst 0), (5, .istore_n 3)] (by decide +kernel) (Ps := []) (pc' := 6) (lv' := [(0, .ref 53), (1, .int (-(nI 1))), (2, .int (nI 0)), (3, .int (nI 0))]) (st' := []) (σ' := σ) rfl True.intro ?_
  have L6 : ∀ (μ6 : Nat) (w : Nat), μ6 = 5 - w → (w ≤ 5) → RW E G 0 4 (QI E G (fun r σ' => σ' = σ ∧ r = en (msS T 5).1)) 6 [(0, .ref 53), (1, .int (en ((msS T w).1))), (2, .int (nI ((msS T w).2))), (3, .int (nI w))] [] σ := by
    intro μ6
    induction μ6 using Nat.strongRecOn with
    | ind μ6 ih6 =>
      intro w hμ6 hw
      have hle := msS_le (fun w hw => (hT w hw).2) w hw
      refine rw_go hX [(6, .iload_n 3), (7, .iconst 5)] (by decide +kernel) (Ps := []) (pc' := 8) (lv' := [(0, .ref 53), (1, .int (en ((msS T w).1))), (2, .int (nI ((msS T w).2))), (3, .int (nI w))]) (st' := [.int (nI 5), .int (nI w)]) (σ' := σ) rfl True.intro ?_
      refine rw_icmp hX (tgt := 36) (cnd := .ge) (off := 28) (by decide +kernel) (by decide) (fun h8 => ?_) (fun h8 => ?_)
      · replace h8 := c2_geT h8
        have e : w = 5 := by omega
        refine rw_go hX [(36, .iload_n 1)] (by decide +kernel) (Ps := []) (pc' := 37) (lv' := [(0, .ref 53), (1, .int (en ((msS T w).1))), (2, .int (nI ((msS T w).2))), (3, .int (nI w))]) (st' := [.int (en ((msS T w).1))]) (σ' := σ) rfl True.intro ?_
        exact rw_iret hX (by decide +kernel) (⟨rfl, by rw [e]⟩)
      · replace h8 := c2_geF h8
        have hTw := (hT w h8).2
        refine rw_go hX [(11, .aload_n 0), (12, .getfield 37), (15, .iload_n 3), (16, .iaload)] (by decide +kernel) (Ps := [vp_in (nI w) 5]) (pc' := 17) (lv' := [(0, .ref 53), (1, .int (en ((msS T w).1))), (2, .int (nI ((msS T w).2))), (3, .int (nI w))]) (st' := [.int (σ 59 (nI w).toNatClampNeg)]) (σ' := σ) rfl (vp_in_nI (by omega) (by omega)) ?_
        rw [show (σ 59 (nI w).toNatClampNeg) = nI (T w) from (by rw [nI_clamp (by omega), (hT w (by omega)).1])]
        refine rw_go hX [(17, .iload_n 2)] (by decide +kernel) (Ps := []) (pc' := 18) (lv' := [(0, .ref 53), (1, .int (en ((msS T w).1))), (2, .int (nI ((msS T w).2))), (3, .int (nI w))]) (st' := [.int (nI ((msS T w).2)), .int (nI (T w))]) (σ' := σ) rfl True.intro ?_
        refine rw_icmp hX (tgt := 30) (cnd := .le) (off := 12) (by decide +kernel) (by decide) (fun h18 => ?_) (fun h18 => ?_)
        · replace h18 := c2_leT h18
          refine rw_go hX [(30, .iinc 3 1), (33, .goto (-27))] (by decide +kernel) (Ps := []) (pc' := 6) (lv' := [(0, .ref 53), (1, .int (en ((msS T w).1))), (2, .int (nI ((msS T w).2))), (3, .int (nI w + nI 1))]) (st' := []) (σ' := σ) rfl True.intro ?_
          refine rw_lsub (ks := [0, 1, 2, 3]) (lv' := [(0, .ref 53), (1, .int (en ((msS T w).1))), (2, .int (nI ((msS T w).2))), (3, .int (nI w + nI 1))]) rfl ?_
          have q := ih6 (5 - (w + 1)) (by omega) (w + 1) rfl (by omega)
          rw [msS_n (T := T) (w := w) (by omega)] at q
          rw [nI_add]
          exact q
        · replace h18 := c2_leF h18
          refine rw_go hX [(21, .iload_n 3), (22, .istore_n 1), (23, .aload_n 0), (24, .getfield 37), (27, .iload_n 3), (28, .iaload)] (by decide +kernel) (Ps := [vp_in (nI w) 5]) (pc' := 29) (lv' := [(0, .ref 53), (1, .int (nI w)), (2, .int (nI ((msS T w).2))), (3, .int (nI w))]) (st' := [.int (σ 59 (nI w).toNatClampNeg)]) (σ' := σ) rfl (vp_in_nI (by omega) (by omega)) ?_
          rw [show (σ 59 (nI w).toNatClampNeg) = nI (T w) from (by rw [nI_clamp (by omega), (hT w (by omega)).1])]
          refine rw_go hX [(29, .istore_n 2), (30, .iinc 3 1), (33, .goto (-27))] (by decide +kernel) (Ps := []) (pc' := 6) (lv' := [(0, .ref 53), (1, .int (nI w)), (2, .int (nI (T w))), (3, .int (nI w + nI 1))]) (st' := []) (σ' := σ) rfl True.intro ?_
          refine rw_lsub (ks := [0, 1, 2, 3]) (lv' := [(0, .ref 53), (1, .int (nI w)), (2, .int (nI (T w))), (3, .int (nI w + nI 1))]) rfl ?_
          have q := ih6 (5 - (w + 1)) (by omega) (w + 1) rfl (by omega)
          rw [msS_y (T := T) (w := w) h18] at q
          rw [nI_add]
          exact q
  refine rw_lsub (ks := [0, 1, 2, 3]) (lv' := [(0, .ref 53), (1, .int (-(nI 1))), (2, .int (nI 0)), (3, .int (nI 0))]) rfl ?_
  exact L6 5 0 rfl (by omega)
set_option maxRecDepth 20000 in
set_option maxHeartbeats 4000000 in
theorem c_extend (l : Launch) (G : Gl) (σ : Mm) (i n : Nat) (src : Int32) (g : Bool) (hn : σ 53 0 = nI n) (hi : i < 50) (h1 : g = true → 1 ≤ n) (h2 : n ≤ 50) (h0 : g = false → n < 50) : AMv l G 1 mX7_extend [.ref 53, .int (nI i), .int src, .int (bz g)] σ (fun σ' => σ' = spE n i src g σ) := by
  refine rw_inV 7 (by decide +kernel) rfl rfl ?_
  intro E hE hX
  subst hE
  refine rw_go hX [(0, .iload_n 3)] (by decide +kernel) (Ps := []) (pc' := 1) (lv' := [(0, .ref 53), (1, .int (nI i)), (2, .int src), (3, .int (bz g))]) (st' := [.int (bz g)]) (σ' := σ) rfl True.intro ?_
  refine rw_if hX (tgt := 43) (cnd := .ne) (off := 42) (by decide +kernel) (by decide) (fun hz => ?_) (fun hz => ?_)
  · have hg := zb_neT hz
    have g1 := h1 hg
    refine rw_go hX [(43, .aload_n 0), (44, .getfield 31), (47, .aload_n 0), (48, .getfield 9)] (by decide +kernel) (Ps := []) (pc' := 51) (lv' := [(0, .ref 53), (1, .int (nI i)), (2, .int src), (3, .int (bz g))]) (st' := [.int (σ 53 0), .ref 57]) (σ' := σ) rfl True.intro ?_
    rw [show (σ 53 0) = nI n from (by rw [hn])]
    refine rw_go hX [(51, .iconst 1), (52, .isub)] (by decide +kernel) (Ps := []) (pc' := 53) (lv' := [(0, .ref 53), (1, .int (nI i)), (2, .int src), (3, .int (bz g))]) (st' := [.int (nI n - nI 1), .ref 57]) (σ' := σ) rfl True.intro ?_
    first | rw [show (nI (n + 1) - nI 1 : Int32) = nI n from by rw [pk_sub (by omega)]; rfl] | rw [show (nI n - nI 1 : Int32) = nI (n - 1) from pk_sub (by omega)]
    refine rw_go hX [(53, .iload_n 1)] (by decide +kernel) (Ps := []) (pc' := 54) (lv' := [(0, .ref 53), (1, .int (nI i)), (2, .int src), (3, .int (bz g))]) (st' := [.int (nI i), .int (nI (n - 1)), .ref 57]) (σ' := σ) rfl True.intro ?_
    refine rw_callSv hX (as := [.ref 57, .int (nI (n - 1)), .int (nI i)]) (rest := []) (c_place _ _ _ 57 50 (n - 1) (nI i) (by decide +kernel) (by omega) (by omega)) (by decide +kernel) msX9_place (Or.inr lk7_84) rfl (by decide) (Nat.le_of_ble_eq_true rfl) rfl ?_
    intro σ1 hr
    rw [hr]
    clear hr σ1
    exact rw_vret hX (by decide +kernel) (by first | exact (if_pos hg).symm | exact (if_neg (by rw [hg]; decide)).symm)
  · have hg := zb_neF hz
    have g0 := h0 hg
    refine rw_go hX [(4, .aload_n 0), (5, .getfield 9)] (by decide +kernel) (Ps := []) (pc' := 8) (lv' := [(0, .ref 53), (1, .int (nI i)), (2, .int src), (3, .int (bz g))]) (st' := [.int (σ 53 0)]) (σ' := σ) rfl True.intro ?_
    rw [show (σ 53 0) = nI n from (by rw [hn])]
    refine rw_go hX [(8, .bipush 50)] (by decide +kernel) (Ps := []) (pc' := 10) (lv' := [(0, .ref 53), (1, .int (nI i)), (2, .int src), (3, .int (bz g))]) (st' := [.int (nI 50), .int (nI n)]) (σ' := σ) rfl True.intro ?_
    refine rw_icmp hX (tgt := 43) (cnd := .ge) (off := 33) (by decide +kernel) (by decide) (fun h10 => ?_) (fun h10 => ?_)
    · replace h10 := c2_geT h10
      omega
    · replace h10 := c2_geF h10
      refine rw_go hX [(13, .aload_n 0), (14, .getfield 28), (17, .aload_n 0), (18, .getfield 9)] (by decide +kernel) (Ps := []) (pc' := 21) (lv' := [(0, .ref 53), (1, .int (nI i)), (2, .int src), (3, .int (bz g))]) (st' := [.int (σ 53 0), .ref 56]) (σ' := σ) rfl True.intro ?_
      rw [show (σ 53 0) = nI n from (by rw [hn])]
      refine rw_go hX [(21, .iload_n 1), (22, .iastore)] (by decide +kernel) (Ps := [vp_in (nI n) 50]) (pc' := 23) (lv' := [(0, .ref 53), (1, .int (nI i)), (2, .int src), (3, .int (bz g))]) (st' := []) (σ' := sw σ 56 (nI n).toNatClampNeg (nI i)) rfl (vp_in_nI (by omega) (by omega)) ?_
      rw [show (sw σ 56 (nI n).toNatClampNeg (nI i)) = sw σ 56 n (nI i) from (by rw [nI_clamp (by omega)])]
      refine rw_go hX [(23, .aload_n 0), (24, .getfield 34), (27, .aload_n 0), (28, .getfield 9)] (by decide +kernel) (Ps := []) (pc' := 31) (lv' := [(0, .ref 53), (1, .int (nI i)), (2, .int src), (3, .int (bz g))]) (st' := [.int ((sw σ 56 n (nI i)) 53 0), .ref 58]) (σ' := sw σ 56 n (nI i)) rfl True.intro ?_
      rw [show ((sw σ 56 n (nI i)) 53 0) = nI n from (by rw [sw_ne _ _ _ (by decide), hn])]
      refine rw_go hX [(31, .iload_n 2), (32, .iastore)] (by decide +kernel) (Ps := [vp_in (nI n) 50]) (pc' := 33) (lv' := [(0, .ref 53), (1, .int (nI i)), (2, .int src), (3, .int (bz g))]) (st' := []) (σ' := sw (sw σ 56 n (nI i)) 58 (nI n).toNatClampNeg src) rfl (vp_in_nI (by omega) (by omega)) ?_
      rw [show (sw (sw σ 56 n (nI i)) 58 (nI n).toNatClampNeg src) = sw (sw σ 56 n (nI i)) 58 n src from (by rw [nI_clamp (by omega)])]
      refine rw_go hX [(33, .aload_n 0), (34, .dup), (35, .getfield 9)] (by decide +kernel) (Ps := []) (pc' := 38) (lv' := [(0, .ref 53), (1, .int (nI i)), (2, .int src), (3, .int (bz g))]) (st' := [.int ((sw (sw σ 56 n (nI i)) 58 n src) 53 0), .ref 53]) (σ' := sw (sw σ 56 n (nI i)) 58 n src) rfl True.intro ?_
      rw [show ((sw (sw σ 56 n (nI i)) 58 n src) 53 0) = nI n from (by rw [sw_ne _ _ _ (by decide), sw_ne _ _ _ (by decide), hn])]
      refine rw_go hX [(38, .iconst 1), (39, .iadd)] (by decide +kernel) (Ps := []) (pc' := 40) (lv' := [(0, .ref 53), (1, .int (nI i)), (2, .int src), (3, .int (bz g))]) (st' := [.int (nI n + nI 1), .ref 53]) (σ' := sw (sw σ 56 n (nI i)) 58 n src) rfl True.intro ?_
      rw [show (nI n + nI 1) = nI (n + 1) from nI_add n 1]
      refine rw_go hX [(40, .putfield 9), (43, .aload_n 0), (44, .getfield 31), (47, .aload_n 0), (48, .getfield 9)] (by decide +kernel) (Ps := []) (pc' := 51) (lv' := [(0, .ref 53), (1, .int (nI i)), (2, .int src), (3, .int (bz g))]) (st' := [.int ((sw (sw (sw σ 56 n (nI i)) 58 n src) 53 0 (nI (n + 1))) 53 0), .ref 57]) (σ' := sw (sw (sw σ 56 n (nI i)) 58 n src) 53 0 (nI (n + 1))) rfl True.intro ?_
      rw [show ((sw (sw (sw σ 56 n (nI i)) 58 n src) 53 0 (nI (n + 1))) 53 0) = nI (n + 1) from (by rw [sw_eq])]
      refine rw_go hX [(51, .iconst 1), (52, .isub)] (by decide +kernel) (Ps := []) (pc' := 53) (lv' := [(0, .ref 53), (1, .int (nI i)), (2, .int src), (3, .int (bz g))]) (st' := [.int (nI (n + 1) - nI 1), .ref 57]) (σ' := sw (sw (sw σ 56 n (nI i)) 58 n src) 53 0 (nI (n + 1))) rfl True.intro ?_
      first | rw [show (nI (n + 1) - nI 1 : Int32) = nI n from by rw [pk_sub (by omega)]; rfl] | rw [show (nI n - nI 1 : Int32) = nI (n - 1) from pk_sub (by omega)]
      refine rw_go hX [(53, .iload_n 1)] (by decide +kernel) (Ps := []) (pc' := 54) (lv' := [(0, .ref 53), (1, .int (nI i)), (2, .int src), (3, .int (bz g))]) (st' := [.int (nI i), .int (nI n), .ref 57]) (σ' := sw (sw (sw σ 56 n (nI i)) 58 n src) 53 0 (nI (n + 1))) rfl True.intro ?_
      refine rw_callSv hX (as := [.ref 57, .int (nI n), .int (nI i)]) (rest := []) (c_place _ _ _ 57 50 (n) (nI i) (by decide +kernel) (by omega) (by omega)) (by decide +kernel) msX9_place (Or.inr lk7_84) rfl (by decide) (Nat.le_of_ble_eq_true rfl) rfl ?_
      intro σ1 hr
      rw [hr]
      clear hr σ1
      exact rw_vret hX (by decide +kernel) (by first | exact (if_pos hg).symm | exact (if_neg (by rw [hg]; decide)).symm)
