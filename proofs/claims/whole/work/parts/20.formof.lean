/-! forms found: chains by the low bits of the marks -/
def hs (x : Int32) : Nat := x.toBitVec.toNat % 2 ^ 6
theorem hs_and (x : Int32) : x &&& nI 63 = nI (hs x) := pk_and x 6 (by decide +kernel)
theorem hs_lt (x : Int32) : hs x < 64 := Nat.mod_lt _ (by decide)
/-- the last of m forms with head h -/
def pv (hc : Nat → Nat) (h : Nat) : Nat → Option Nat
  | 0 => none
  | m + 1 => if hc m = h then some m else pv hc h m
def en (x : Option Nat) : Int32 := match x with
  | none => -(nI 1)
  | some f => nI f
theorem pv_some {hc : Nat → Nat} {h f : Nat} : ∀ {m : Nat}, pv hc h m = some f → f < m ∧ hc f = h ∧ ∀ i, f < i → i < m → hc i ≠ h
  | 0, e => by cases e
  | m + 1, e => by
    simp only [pv] at e
    by_cases g : hc m = h
    · rw [if_pos g] at e
      cases e
      exact ⟨by omega, g, fun i h1 h2 => by omega⟩
    · rw [if_neg g] at e
      obtain ⟨h1, h2, h3⟩ := pv_some e
      refine ⟨by omega, h2, fun i h4 h5 => ?_⟩
      rcases Nat.lt_or_ge i m with h6 | h6
      · exact h3 i h4 h6
      · rw [show i = m by omega]; exact g
theorem pv_none {hc : Nat → Nat} {h : Nat} : ∀ {m : Nat}, pv hc h m = none → ∀ i, i < m → hc i ≠ h
  | 0, _, i, hi => by omega
  | m + 1, e, i, hi => by
    simp only [pv] at e
    by_cases g : hc m = h
    · rw [if_pos g] at e; cases e
    · rw [if_neg g] at e
      rcases Nat.lt_or_ge i m with h6 | h6
      · exact pv_none e i h6
      · rw [show i = m by omega]; exact g
theorem en_none {x : Option Nat} (h : en x = -(nI 1)) (hx : ∀ f, x = some f → f < 2 ^ 31) : x = none := by
  cases x with
  | none => rfl
  | some f =>
    have h2 : nI f = -(nI 1) := h
    have h3 := nI_pos' (hx f rfl)
    rw [h2] at h3
    exact absurd h3 (by decide +kernel)
/-- what formOf takes as given: F forms with first cells c; chains -/
def FC (σ : Mm) (K F : Nat) (c : Nat → Nat) : Prop := σ 31 0 = nI F ∧ (∀ f, f < F → σ 34 f = nI (c f) ∧ c f + K ≤ 250) ∧ (∀ h, h < 64 → σ 32 h = en (pv (fun f => hs (σ 28 (c f))) h F)) ∧ (∀ f, f < F → σ 33 f = en (pv (fun f => hs (σ 28 (c f))) (hs (σ 28 (c f))) f))
set_option maxRecDepth 20000 in
set_option maxHeartbeats 4000000 in
theorem c_formOf (l : Launch) (G : Gl) (σ : Mm) (w g K F : Nat) (c : Nat → Nat) (hw : w < 5) (hg : g < 50) (hK : 50 * w + g + K ≤ 250) (hFC : FC σ K F c) (hF : F < 250) (hlk : ∀ f, f < F → lkC (σ 26) (c f) (50 * w + g) K = true → hs (σ 28 (c f)) = hs (σ 28 (50 * w + g))) : AMi l G 2 mX0_formOf [.ref 31, .ref 23, .int (nI w), .int (nI g), .int (nI K)] σ (fun r σ' => ∃ f, r = nI f ∧ ((f < F ∧ lkC (σ 26) (c f) (50 * w + g) K = true ∧ σ' = σ) ∨ (f = F ∧ (∀ i, i < F → lkC (σ 26) (c i) (50 * w + g) K = false) ∧ σ' = fAdd F (hs (σ 28 (50 * w + g))) (50 * w + g) σ))) := by
  refine rw_inI 0 (by decide +kernel) rfl rfl ?_
  intro E hE hX
  subst hE
  have hF0 := hFC.1
  have hh := hs_lt (σ 28 (50 * w + g))
  refine rw_go hX [(0, .iload_n 2), (1, .iload_n 3)] (by decide +kernel) (Ps := []) (pc' := 2) (lv' := [(0, .ref 31), (1, .ref 23), (2, .int (nI w)), (3, .int (nI g)), (4, .int (nI K))]) (st' := [.int (nI g), .int (nI w)]) (σ' := σ) rfl True.intro ?_
  refine rw_callSi hX (as := [.int (nI w), .int (nI g)]) (rest := []) (c_cellOf _ _ _ w g hw hg) (by decide +kernel) msX9_cellOf (Or.inr lk0_68) rfl (by decide) (Nat.le_of_ble_eq_true rfl) rfl ?_
  intro r1 σ1 hr
  rw [hr.1, hr.2]
  clear hr σ1 r1
  refine rw_go hX [(5, .istore 5), (7, .aload_n 1), (8, .iload_n 2), (9, .iload_n 3)] (by decide +kernel) (Ps := []) (pc' := 10) (lv' := [(0, .ref 31), (1, .ref 23), (2, .int (nI w)), (3, .int (nI g)), (4, .int (nI K)), (5, .int (nI (50 * w + g)))]) (st' := [.int (nI g), .int (nI w), .ref 23]) (σ' := σ) rfl True.intro ?_
  refine rw_callVi hX (as := [.int (nI w), .int (nI g)]) (rest := []) (c_markAt _ _ _ w g hw hg) (by decide +kernel) mvX3_markAt lk0_72 (ci := 2) rfl rfl rfl (by decide) (Nat.le_of_ble_eq_true rfl) rfl ?_
  intro r1 σ1 hr
  rw [hr.1, hr.2]
  clear hr σ1 r1
  refine rw_go hX [(13, .bipush 63), (15, .iand)] (by decide +kernel) (Ps := []) (pc' := 16) (lv' := [(0, .ref 31), (1, .ref 23), (2, .int (nI w)), (3, .int (nI g)), (4, .int (nI K)), (5, .int (nI (50 * w + g)))]) (st' := [.int (σ 28 (50 * w + g) &&& nI 63)]) (σ' := σ) rfl True.intro ?_
  rw [show (σ 28 (50 * w + g) &&& nI 63) = nI (hs (σ 28 (50 * w + g))) from hs_and _]
  refine rw_go hX [(16, .istore 6), (18, .aload_n 0), (19, .getfield 15), (22, .iload 6), (24, .iaload)] (by decide +kernel) (Ps := [vp_in (nI (hs (σ 28 (50 * w + g)))) 64]) (pc' := 25) (lv' := [(0, .ref 31), (1, .ref 23), (2, .int (nI w)), (3, .int (nI g)), (4, .int (nI K)), (5, .int (nI (50 * w + g))), (6, .int (nI (hs (σ 28 (50 * w + g)))))]) (st' := [.int (σ 32 (nI (hs (σ 28 (50 * w + g)))).toNatClampNeg)]) (σ' := σ) rfl (vp_in_nI (hs_lt _) (by omega)) ?_
  rw [show (σ 32 (nI (hs (σ 28 (50 * w + g)))).toNatClampNeg) = σ 32 (hs (σ 28 (50 * w + g))) from (by rw [nI_clamp (by omega)])]
  rw [show (σ 32 (hs (σ 28 (50 * w + g)))) = en (pv (fun f => hs (σ 28 (c f))) (hs (σ 28 (50 * w + g))) F) from hFC.2.2.1 _ (hs_lt _)]
  refine rw_go hX [(25, .istore 7), (27, .iconst 0), (28, .istore 8)] (by decide +kernel) (Ps := []) (pc' := 30) (lv' := [(0, .ref 31), (1, .ref 23), (2, .int (nI w)), (3, .int (nI g)), (4, .int (nI K)), (5, .int (nI (50 * w + g))), (6, .int (nI (hs (σ 28 (50 * w + g))))), (7, .int (en (pv (fun f => hs (σ 28 (c f))) (hs (σ 28 (50 * w + g))) F))), (8, .int (nI 0))]) (st' := []) (σ' := σ) rfl True.intro ?_
  have L30 : ∀ (μ30 : Nat) (m s : Nat), μ30 = m → (m + s ≤ F) → (∀ i, m ≤ i → i < F → lkC (σ 26) (c i) (50 * w + g) K = false) → RW E G 2 9 (QI E G (fun r σ' => ∃ f, r = nI f ∧ ((f < F ∧ lkC (σ 26) (c f) (50 * w + g) K = true ∧ σ' = σ) ∨ (f = F ∧ (∀ i, i < F → lkC (σ 26) (c i) (50 * w + g) K = false) ∧ σ' = fAdd F (hs (σ 28 (50 * w + g))) (50 * w + g) σ)))) 30 [(0, .ref 31), (1, .ref 23), (2, .int (nI w)), (3, .int (nI g)), (4, .int (nI K)), (5, .int (nI (50 * w + g))), (6, .int (nI (hs (σ 28 (50 * w + g))))), (7, .int (en (pv (fun f => hs (σ 28 (c f))) (hs (σ 28 (50 * w + g))) m))), (8, .int (nI s))] [] σ := by
    intro μ30
    induction μ30 using Nat.strongRecOn with
    | ind μ30 ih30 =>
      intro m s hμ30 hm hno
      refine rw_go hX [(30, .iload 8), (32, .aload_n 0), (33, .getfield 9)] (by decide +kernel) (Ps := []) (pc' := 36) (lv' := [(0, .ref 31), (1, .ref 23), (2, .int (nI w)), (3, .int (nI g)), (4, .int (nI K)), (5, .int (nI (50 * w + g))), (6, .int (nI (hs (σ 28 (50 * w + g))))), (7, .int (en (pv (fun f => hs (σ 28 (c f))) (hs (σ 28 (50 * w + g))) m))), (8, .int (nI s))]) (st' := [.int (σ 31 0), .int (nI s)]) (σ' := σ) rfl True.intro ?_
      rw [show (σ 31 0) = nI F from (by rw [hF0])]
      refine rw_icmp hX (tgt := 85) (cnd := .ge) (off := 49) (by decide +kernel) (by decide) (fun h36 => ?_) (fun h36 => ?_)
      · replace h36 := c2_geT h36
        have e0 : m = 0 := by omega
        have hall : ∀ i, i < F → lkC (σ 26) (c i) (50 * w + g) K = false := fun i hi => hno i (by omega) hi
        refine rw_go hX [(85, .aload_n 0), (86, .iload 6), (88, .iload 5)] (by decide +kernel) (Ps := []) (pc' := 90) (lv' := [(0, .ref 31), (1, .ref 23), (2, .int (nI w)), (3, .int (nI g)), (4, .int (nI K)), (5, .int (nI (50 * w + g))), (6, .int (nI (hs (σ 28 (50 * w + g))))), (7, .int (en (pv (fun f => hs (σ 28 (c f))) (hs (σ 28 (50 * w + g))) m))), (8, .int (nI s))]) (st' := [.int (nI (50 * w + g)), .int (nI (hs (σ 28 (50 * w + g)))), .ref 31]) (σ' := σ) rfl True.intro ?_
        refine rw_callVi hX (as := [.int (nI (hs (σ 28 (50 * w + g)))), .int (nI (50 * w + g))]) (rest := []) (c_add _ _ _ F (hs (σ 28 (50 * w + g))) (50 * w + g) hF0 hF (hs_lt _)) (by decide +kernel) mvX0_add lk0_79 (ci := 0) rfl rfl rfl (by decide) (Nat.le_of_ble_eq_true rfl) rfl ?_
        intro r1 σ1 hr
        rw [hr.1, hr.2]
        clear hr σ1 r1
        exact rw_iret hX (by decide +kernel) (⟨F, rfl, Or.inr ⟨rfl, hall, rfl⟩⟩)
      · replace h36 := c2_geF h36
        refine rw_go hX [(39, .iload 7), (41, .iconst (-1))] (by decide +kernel) (Ps := []) (pc' := 42) (lv' := [(0, .ref 31), (1, .ref 23), (2, .int (nI w)), (3, .int (nI g)), (4, .int (nI K)), (5, .int (nI (50 * w + g))), (6, .int (nI (hs (σ 28 (50 * w + g))))), (7, .int (en (pv (fun f => hs (σ 28 (c f))) (hs (σ 28 (50 * w + g))) m))), (8, .int (nI s))]) (st' := [.int (-(nI 1)), .int (en (pv (fun f => hs (σ 28 (c f))) (hs (σ 28 (50 * w + g))) m))]) (σ' := σ) rfl True.intro ?_
        refine rw_icmp hX (tgt := 85) (cnd := .eq) (off := 43) (by decide +kernel) (by decide) (fun h42 => ?_) (fun h42 => ?_)
        · replace h42 : (en (pv (fun f => hs (σ 28 (c f))) (hs (σ 28 (50 * w + g))) m) = (-(nI 1))) := h42
          have e0 := pv_none (en_none h42 (fun f hf => by have := (pv_some hf).1; omega))
          have hall : ∀ i, i < F → lkC (σ 26) (c i) (50 * w + g) K = false := fun i hi => by
            rcases Nat.lt_or_ge i m with h3 | h3
            · cases hz : lkC (σ 26) (c i) (50 * w + g) K with
              | false => rfl
              | true => exact absurd (hlk i hi hz) (e0 i h3)
            · exact hno i h3 hi
          refine rw_go hX [(85, .aload_n 0), (86, .iload 6), (88, .iload 5)] (by decide +kernel) (Ps := []) (pc' := 90) (lv' := [(0, .ref 31), (1, .ref 23), (2, .int (nI w)), (3, .int (nI g)), (4, .int (nI K)), (5, .int (nI (50 * w + g))), (6, .int (nI (hs (σ 28 (50 * w + g))))), (7, .int (en (pv (fun f => hs (σ 28 (c f))) (hs (σ 28 (50 * w + g))) m))), (8, .int (nI s))]) (st' := [.int (nI (50 * w + g)), .int (nI (hs (σ 28 (50 * w + g)))), .ref 31]) (σ' := σ) rfl True.intro ?_
          refine rw_callVi hX (as := [.int (nI (hs (σ 28 (50 * w + g)))), .int (nI (50 * w + g))]) (rest := []) (c_add _ _ _ F (hs (σ 28 (50 * w + g))) (50 * w + g) hF0 hF (hs_lt _)) (by decide +kernel) mvX0_add lk0_79 (ci := 0) rfl rfl rfl (by decide) (Nat.le_of_ble_eq_true rfl) rfl ?_
          intro r1 σ1 hr
          rw [hr.1, hr.2]
          clear hr σ1 r1
          exact rw_iret hX (by decide +kernel) (⟨F, rfl, Or.inr ⟨rfl, hall, rfl⟩⟩)
        · replace h42 : ¬ (en (pv (fun f => hs (σ 28 (c f))) (hs (σ 28 (50 * w + g))) m) = (-(nI 1))) := h42
          obtain ⟨f, hf⟩ : ∃ f, pv (fun f => hs (σ 28 (c f))) (hs (σ 28 (50 * w + g))) m = some f := by
            cases hz : pv (fun f => hs (σ 28 (c f))) (hs (σ 28 (50 * w + g))) m with
            | none => exact absurd (by rw [hz]; rfl) h42
            | some f => exact ⟨f, rfl⟩
          have hpv := pv_some hf
          rw [show en (pv (fun f => hs (σ 28 (c f))) (hs (σ 28 (50 * w + g))) m) = nI f from by rw [hf]; rfl]
          refine rw_go hX [(45, .aload_n 1), (46, .aload_n 0), (47, .getfield 22), (50, .iload 7)] (by decide +kernel) (Ps := []) (pc' := 52) (lv' := [(0, .ref 31), (1, .ref 23), (2, .int (nI w)), (3, .int (nI g)), (4, .int (nI K)), (5, .int (nI (50 * w + g))), (6, .int (nI (hs (σ 28 (50 * w + g))))), (7, .int (nI f)), (8, .int (nI s))]) (st' := [.int (nI f), .ref 34, .ref 23]) (σ' := σ) rfl True.intro ?_
          refine rw_callSi hX (as := [.ref 34, .int (nI f)]) (rest := [.ref 23]) (c_pick _ _ _ 34 250 f (by decide +kernel) (by omega) (by omega)) (by decide +kernel) msX9_pick (Or.inr lk0_41) rfl (by decide) (Nat.le_of_ble_eq_true rfl) rfl ?_
          intro r1 σ1 hr
          rw [hr.1, show r1 = nI (c f) from hr.2.trans (hFC.2.1 f (by omega)).1]
          clear hr σ1 r1
          refine rw_go hX [(55, .iload 5), (57, .iload 4)] (by decide +kernel) (Ps := []) (pc' := 59) (lv' := [(0, .ref 31), (1, .ref 23), (2, .int (nI w)), (3, .int (nI g)), (4, .int (nI K)), (5, .int (nI (50 * w + g))), (6, .int (nI (hs (σ 28 (50 * w + g))))), (7, .int (nI f)), (8, .int (nI s))]) (st' := [.int (nI K), .int (nI (50 * w + g)), .int (nI (c f)), .ref 23]) (σ' := σ) rfl True.intro ?_
          refine rw_callVi hX (as := [.int (nI (c f)), .int (nI (50 * w + g)), .int (nI K)]) (rest := []) (c_areLikeCells _ _ _ (c f) (50 * w + g) K (hFC.2.1 f (by omega)).2 hK) (by decide +kernel) mvX3_areLikeCells lk0_75 (ci := 2) rfl rfl rfl (by decide) (Nat.le_of_ble_eq_true rfl) rfl ?_
          intro r1 σ1 hr
          rw [hr.1, hr.2]
          clear hr σ1 r1
          refine rw_if hX (tgt := 68) (cnd := .eq) (off := 6) (by decide +kernel) (by decide) (fun h62 => ?_) (fun h62 => ?_)
          · replace h62 := zb_eqT h62
            refine rw_go hX [(68, .aload_n 0), (69, .getfield 19), (72, .iload 7)] (by decide +kernel) (Ps := []) (pc' := 74) (lv' := [(0, .ref 31), (1, .ref 23), (2, .int (nI w)), (3, .int (nI g)), (4, .int (nI K)), (5, .int (nI (50 * w + g))), (6, .int (nI (hs (σ 28 (50 * w + g))))), (7, .int (nI f)), (8, .int (nI s))]) (st' := [.int (nI f), .ref 33]) (σ' := σ) rfl True.intro ?_
            refine rw_callSi hX (as := [.ref 33, .int (nI f)]) (rest := []) (c_pick _ _ _ 33 250 f (by decide +kernel) (by omega) (by omega)) (by decide +kernel) msX9_pick (Or.inr lk0_41) rfl (by decide) (Nat.le_of_ble_eq_true rfl) rfl ?_
            intro r1 σ1 hr
            rw [hr.1, show r1 = en (pv (fun f => hs (σ 28 (c f))) (hs (σ 28 (50 * w + g))) f) from hr.2.trans ((hFC.2.2.2 f (by omega)).trans (by rw [hpv.2.1]))]
            clear hr σ1 r1
            refine rw_go hX [(77, .istore 7), (79, .iinc 8 1), (82, .goto (-52))] (by decide +kernel) (Ps := []) (pc' := 30) (lv' := [(0, .ref 31), (1, .ref 23), (2, .int (nI w)), (3, .int (nI g)), (4, .int (nI K)), (5, .int (nI (50 * w + g))), (6, .int (nI (hs (σ 28 (50 * w + g))))), (7, .int (en (pv (fun f => hs (σ 28 (c f))) (hs (σ 28 (50 * w + g))) f))), (8, .int (nI s + nI 1))]) (st' := []) (σ' := σ) rfl True.intro ?_
            refine rw_lsub (ks := [0, 1, 2, 3, 4, 5, 6, 7, 8]) (lv' := [(0, .ref 31), (1, .ref 23), (2, .int (nI w)), (3, .int (nI g)), (4, .int (nI K)), (5, .int (nI (50 * w + g))), (6, .int (nI (hs (σ 28 (50 * w + g))))), (7, .int (en (pv (fun f => hs (σ 28 (c f))) (hs (σ 28 (50 * w + g))) f))), (8, .int (nI s + nI 1))]) rfl ?_
            rw [nI_add]
            exact ih30 f (by omega) f (s + 1) rfl (by omega) (fun i h1 h2 => by
              rcases Nat.lt_or_ge i m with h3 | h3
              · rcases Nat.lt_or_ge f i with h4 | h4
                · cases hz : lkC (σ 26) (c i) (50 * w + g) K with
                  | false => rfl
                  | true => exact absurd (hlk i h2 hz) (hpv.2.2 i h4 h3)
                · rw [show i = f by omega]; exact h62
              · exact hno i h3 h2)
          · replace h62 := zb_eqF h62
            refine rw_go hX [(65, .iload 7)] (by decide +kernel) (Ps := []) (pc' := 67) (lv' := [(0, .ref 31), (1, .ref 23), (2, .int (nI w)), (3, .int (nI g)), (4, .int (nI K)), (5, .int (nI (50 * w + g))), (6, .int (nI (hs (σ 28 (50 * w + g))))), (7, .int (nI f)), (8, .int (nI s))]) (st' := [.int (nI f)]) (σ' := σ) rfl True.intro ?_
            exact rw_iret hX (by decide +kernel) (⟨f, rfl, Or.inl ⟨by omega, h62, rfl⟩⟩)
  refine rw_lsub (ks := [0, 1, 2, 3, 4, 5, 6, 7, 8]) (lv' := [(0, .ref 31), (1, .ref 23), (2, .int (nI w)), (3, .int (nI g)), (4, .int (nI K)), (5, .int (nI (50 * w + g))), (6, .int (nI (hs (σ 28 (50 * w + g))))), (7, .int (en (pv (fun f => hs (σ 28 (c f))) (hs (σ 28 (50 * w + g))) F))), (8, .int (nI 0))]) rfl ?_
  exact L30 F F 0 rfl (by omega) (fun i h1 h2 => absurd h2 (by omega))
