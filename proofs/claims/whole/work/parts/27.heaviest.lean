/-! the heaviest chain -/
def hb (b1 b2 ln W : Nat → Nat) (k : Nat) : Nat → Option Nat × Nat
  | 0 => (none, 0)
  | j + 1 => if (hb b1 b2 ln W k j).2 < W (k + 1 + j) ∧ b1 k + ln k ≤ b1 (k + 1 + j) ∧ b2 k + ln k ≤ b2 (k + 1 + j) then (some (k + 1 + j), W (k + 1 + j)) else hb b1 b2 ln W k j
theorem hb_y {b1 b2 ln W : Nat → Nat} {k j : Nat} (h1 : (hb b1 b2 ln W k j).2 < W (k + 1 + j)) (h2 : b1 k + ln k ≤ b1 (k + 1 + j)) (h3 : b2 k + ln k ≤ b2 (k + 1 + j)) : hb b1 b2 ln W k (j + 1) = (some (k + 1 + j), W (k + 1 + j)) := if_pos ⟨h1, h2, h3⟩
theorem hb_n {b1 b2 ln W : Nat → Nat} {k j : Nat} (h : ¬ ((hb b1 b2 ln W k j).2 < W (k + 1 + j) ∧ b1 k + ln k ≤ b1 (k + 1 + j) ∧ b2 k + ln k ≤ b2 (k + 1 + j))) : hb b1 b2 ln W k (j + 1) = hb b1 b2 ln W k j := if_neg h
theorem hb_in {b1 b2 ln W : Nat → Nat} {k : Nat} : ∀ j, (∀ x, (hb b1 b2 ln W k j).1 = some x → k < x ∧ x < k + 1 + j ∧ (hb b1 b2 ln W k j).2 = W x) ∧ ((hb b1 b2 ln W k j).1 = none → (hb b1 b2 ln W k j).2 = 0) ∧ ((∀ x, k < x → x < k + 1 + j → W x ≤ 42000) → (hb b1 b2 ln W k j).2 ≤ 42000)
  | 0 => ⟨fun x h => (by cases h), fun _ => rfl, fun _ => Nat.zero_le _⟩
  | j + 1 => by
    obtain ⟨i1, i2, i3⟩ := hb_in (b1 := b1) (b2 := b2) (ln := ln) (W := W) (k := k) j
    by_cases h : (hb b1 b2 ln W k j).2 < W (k + 1 + j) ∧ b1 k + ln k ≤ b1 (k + 1 + j) ∧ b2 k + ln k ≤ b2 (k + 1 + j)
    · rw [hb_y h.1 h.2.1 h.2.2]
      refine ⟨fun x hx => ?_, fun hx => (by cases hx), fun hx => hx _ (by omega) (by omega)⟩
      cases hx
      exact ⟨by omega, by omega, rfl⟩
    · rw [hb_n h]
      exact ⟨fun x hx => ⟨(i1 x hx).1, by have := (i1 x hx).2.1; omega, (i1 x hx).2.2⟩, i2, fun hx => i3 (fun x h1 h2 => hx x h1 (by omega))⟩
def pkE (f : Nat → Int32) (x : Option Nat) : Int32 := match x with
  | none => -(nI 1)
  | some i => f i
theorem c_pickE (l : Launch) (G : Gl) (σ : Mm) (k n : Nat) (x : Option Nat) (hk : shapes[k]? = some (.inl (0, n))) (hn : n < 2 ^ 31) (hx : ∀ i, x = some i → i < n) : AMi l G 0 mX9_pick [.ref k, .int (en x)] σ (fun r σ' => σ' = σ ∧ r = pkE (σ k) x) := by
  cases x with
  | none => exact c_pickN l G σ k n hk hn
  | some i => exact c_pick l G σ k n i hk hn (hx i rfl)
set_option maxRecDepth 20000 in
set_option maxHeartbeats 4000000 in
theorem c_heaviest (l : Launch) (G : Gl) (σ : Mm) (m k : Nat) (b1 b2 ln W : Nat → Nat) (hm : σ 39 0 = nI m) (hm8 : m ≤ 840) (hb1 : ∀ x, x < m → σ 46 x = nI (b1 x) ∧ b1 x ≤ 50) (hb2 : ∀ x, x < m → σ 47 x = nI (b2 x) ∧ b2 x ≤ 50) (hln : ∀ x, x < m → σ 48 x = nI (ln x) ∧ ln x ≤ 50) (hk : k < m) (hW : ∀ x, k < x → x < m → σ 49 x = nI (W x) ∧ W x ≤ 42000) : AMi l G 1 mX2_heaviestBehind [.ref 39, .int (nI k)] σ (fun r σ' => σ' = σ ∧ r = en (hb b1 b2 ln W k (m - 1 - k)).1) := by
  refine rw_inI 2 (by decide +kernel) rfl rfl ?_
  intro E hE hX
  subst hE
  refine rw_go hX [(0, .iconst (-1)), (1, .istore_n 2), (2, .iconst 0), (3, .istore_n 3), (4, .aload_n 0), (5, .getfield 25), (8, .iload_n 1)] (by decide +kernel) (Ps := []) (pc' := 9) (lv' := [(0, .ref 39), (1, .int (nI k)), (2, .int (-(nI 1))), (3, .int (nI 0))]) (st' := [.int (nI k), .ref 46]) (σ' := σ) rfl True.intro ?_
  refine rw_callSi hX (as := [.ref 46, .int (nI k)]) (rest := []) (c_pick _ _ _ 46 840 k (by decide +kernel) (by omega) (by omega)) (by decide +kernel) msX9_pick (Or.inr lk2_64) rfl (by decide) (Nat.le_of_ble_eq_true rfl) rfl ?_
  intro r1 σ1 hr
  rw [hr.1, show r1 = nI (b1 k) from hr.2.trans (hb1 k hk).1]
  clear hr σ1 r1
  refine rw_go hX [(12, .aload_n 0), (13, .getfield 32), (16, .iload_n 1)] (by decide +kernel) (Ps := []) (pc' := 17) (lv' := [(0, .ref 39), (1, .int (nI k)), (2, .int (-(nI 1))), (3, .int (nI 0))]) (st' := [.int (nI k), .ref 48, .int (nI (b1 k))]) (σ' := σ) rfl True.intro ?_
  refine rw_callSi hX (as := [.ref 48, .int (nI k)]) (rest := [.int (nI (b1 k))]) (c_pick _ _ _ 48 840 k (by decide +kernel) (by omega) (by omega)) (by decide +kernel) msX9_pick (Or.inr lk2_64) rfl (by decide) (Nat.le_of_ble_eq_true rfl) rfl ?_
  intro r1 σ1 hr
  rw [hr.1, show r1 = nI (ln k) from hr.2.trans (hln k hk).1]
  clear hr σ1 r1
  refine rw_go hX [(20, .iadd)] (by decide +kernel) (Ps := []) (pc' := 21) (lv' := [(0, .ref 39), (1, .int (nI k)), (2, .int (-(nI 1))), (3, .int (nI 0))]) (st' := [.int (nI (b1 k) + nI (ln k))]) (σ' := σ) rfl True.intro ?_
  rw [show (nI (b1 k) + nI (ln k)) = nI (b1 k + ln k) from nI_add _ _]
  refine rw_go hX [(21, .istore 4), (23, .aload_n 0), (24, .getfield 29), (27, .iload_n 1)] (by decide +kernel) (Ps := []) (pc' := 28) (lv' := [(0, .ref 39), (1, .int (nI k)), (2, .int (-(nI 1))), (3, .int (nI 0)), (4, .int (nI (b1 k + ln k)))]) (st' := [.int (nI k), .ref 47]) (σ' := σ) rfl True.intro ?_
  refine rw_callSi hX (as := [.ref 47, .int (nI k)]) (rest := []) (c_pick _ _ _ 47 840 k (by decide +kernel) (by omega) (by omega)) (by decide +kernel) msX9_pick (Or.inr lk2_64) rfl (by decide) (Nat.le_of_ble_eq_true rfl) rfl ?_
  intro r1 σ1 hr
  rw [hr.1, show r1 = nI (b2 k) from hr.2.trans (hb2 k hk).1]
  clear hr σ1 r1
  refine rw_go hX [(31, .aload_n 0), (32, .getfield 32), (35, .iload_n 1)] (by decide +kernel) (Ps := []) (pc' := 36) (lv' := [(0, .ref 39), (1, .int (nI k)), (2, .int (-(nI 1))), (3, .int (nI 0)), (4, .int (nI (b1 k + ln k)))]) (st' := [.int (nI k), .ref 48, .int (nI (b2 k))]) (σ' := σ) rfl True.intro ?_
  refine rw_callSi hX (as := [.ref 48, .int (nI k)]) (rest := [.int (nI (b2 k))]) (c_pick _ _ _ 48 840 k (by decide +kernel) (by omega) (by omega)) (by decide +kernel) msX9_pick (Or.inr lk2_64) rfl (by decide) (Nat.le_of_ble_eq_true rfl) rfl ?_
  intro r1 σ1 hr
  rw [hr.1, show r1 = nI (ln k) from hr.2.trans (hln k hk).1]
  clear hr σ1 r1
  refine rw_go hX [(39, .iadd)] (by decide +kernel) (Ps := []) (pc' := 40) (lv' := [(0, .ref 39), (1, .int (nI k)), (2, .int (-(nI 1))), (3, .int (nI 0)), (4, .int (nI (b1 k + ln k)))]) (st' := [.int (nI (b2 k) + nI (ln k))]) (σ' := σ) rfl True.intro ?_
  rw [show (nI (b2 k) + nI (ln k)) = nI (b2 k + ln k) from nI_add _ _]
  refine rw_go hX [(40, .istore 5), (42, .iload_n 1), (43, .iconst 1), (44, .iadd), (45, .istore 6)] (by decide +kernel) (Ps := []) (pc' := 47) (lv' := [(0, .ref 39), (1, .int (nI k)), (2, .int (-(nI 1))), (3, .int (nI 0)), (4, .int (nI (b1 k + ln k))), (5, .int (nI (b2 k + ln k))), (6, .int (nI k + nI 1))]) (st' := []) (σ' := σ) rfl True.intro ?_
  have L47 : ∀ (μ47 : Nat) (j : Nat), μ47 = m - j → (k + 1 + j ≤ m) → RW E G 1 7 (QI E G (fun r σ' => σ' = σ ∧ r = en (hb b1 b2 ln W k (m - 1 - k)).1)) 47 [(0, .ref 39), (1, .int (nI k)), (2, .int (en ((hb b1 b2 ln W k j).1))), (3, .int (nI ((hb b1 b2 ln W k j).2))), (4, .int (nI (b1 k + ln k))), (5, .int (nI (b2 k + ln k))), (6, .int (nI (k + 1 + j)))] [] σ := by
    intro μ47
    induction μ47 using Nat.strongRecOn with
    | ind μ47 ih47 =>
      intro j hμ47 hj
      have hbi := (hb_in (b1 := b1) (b2 := b2) (ln := ln) (W := W) (k := k) j).2.2 (fun x h1 h2 => (hW x h1 (by omega)).2)
      have hb1k := (hb1 k hk).2
      have hb2k := (hb2 k hk).2
      have hlnk := (hln k hk).2
      refine rw_go hX [(47, .iload 6), (49, .aload_n 0), (50, .getfield 9)] (by decide +kernel) (Ps := []) (pc' := 53) (lv' := [(0, .ref 39), (1, .int (nI k)), (2, .int (en ((hb b1 b2 ln W k j).1))), (3, .int (nI ((hb b1 b2 ln W k j).2))), (4, .int (nI (b1 k + ln k))), (5, .int (nI (b2 k + ln k))), (6, .int (nI (k + 1 + j)))]) (st' := [.int (σ 39 0), .int (nI (k + 1 + j))]) (σ' := σ) rfl True.intro ?_
      rw [show (σ 39 0) = nI m from (by rw [hm])]
      refine rw_icmp hX (tgt := 116) (cnd := .ge) (off := 63) (by decide +kernel) (by decide) (fun h53 => ?_) (fun h53 => ?_)
      · replace h53 := c2_geT h53
        have e : j = m - 1 - k := by omega
        refine rw_go hX [(116, .iload_n 2)] (by decide +kernel) (Ps := []) (pc' := 117) (lv' := [(0, .ref 39), (1, .int (nI k)), (2, .int (en ((hb b1 b2 ln W k j).1))), (3, .int (nI ((hb b1 b2 ln W k j).2))), (4, .int (nI (b1 k + ln k))), (5, .int (nI (b2 k + ln k))), (6, .int (nI (k + 1 + j)))]) (st' := [.int (en ((hb b1 b2 ln W k j).1))]) (σ' := σ) rfl True.intro ?_
        exact rw_iret hX (by decide +kernel) (⟨rfl, by rw [e]⟩)
      · replace h53 := c2_geF h53
        have hWj := (hW (k + 1 + j) (by omega) (by omega)).2
        have hb1j := (hb1 (k + 1 + j) h53).2
        have hb2j := (hb2 (k + 1 + j) h53).2
        refine rw_go hX [(56, .iload 6), (58, .sipush 840)] (by decide +kernel) (Ps := []) (pc' := 61) (lv' := [(0, .ref 39), (1, .int (nI k)), (2, .int (en ((hb b1 b2 ln W k j).1))), (3, .int (nI ((hb b1 b2 ln W k j).2))), (4, .int (nI (b1 k + ln k))), (5, .int (nI (b2 k + ln k))), (6, .int (nI (k + 1 + j)))]) (st' := [.int (nI 840), .int (nI (k + 1 + j))]) (σ' := σ) rfl True.intro ?_
        refine rw_icmp hX (tgt := 116) (cnd := .ge) (off := 55) (by decide +kernel) (by decide) (fun h61 => ?_) (fun h61 => ?_)
        · replace h61 := c2_geT h61
          omega
        · replace h61 := c2_geF h61
          refine rw_go hX [(64, .aload_n 0), (65, .getfield 35), (68, .iload 6), (70, .iaload)] (by decide +kernel) (Ps := [vp_in (nI (k + 1 + j)) 840]) (pc' := 71) (lv' := [(0, .ref 39), (1, .int (nI k)), (2, .int (en ((hb b1 b2 ln W k j).1))), (3, .int (nI ((hb b1 b2 ln W k j).2))), (4, .int (nI (b1 k + ln k))), (5, .int (nI (b2 k + ln k))), (6, .int (nI (k + 1 + j)))]) (st' := [.int (σ 49 (nI (k + 1 + j)).toNatClampNeg)]) (σ' := σ) rfl (vp_in_nI (by omega) (by omega)) ?_
          rw [show (σ 49 (nI (k + 1 + j)).toNatClampNeg) = nI (W (k + 1 + j)) from (by rw [nI_clamp (by omega), (hW (k + 1 + j) (by omega) (by omega)).1])]
          refine rw_go hX [(71, .iload_n 3)] (by decide +kernel) (Ps := []) (pc' := 72) (lv' := [(0, .ref 39), (1, .int (nI k)), (2, .int (en ((hb b1 b2 ln W k j).1))), (3, .int (nI ((hb b1 b2 ln W k j).2))), (4, .int (nI (b1 k + ln k))), (5, .int (nI (b2 k + ln k))), (6, .int (nI (k + 1 + j)))]) (st' := [.int (nI ((hb b1 b2 ln W k j).2)), .int (nI (W (k + 1 + j)))]) (σ' := σ) rfl True.intro ?_
          refine rw_icmp hX (tgt := 110) (cnd := .le) (off := 38) (by decide +kernel) (by decide) (fun h72 => ?_) (fun h72 => ?_)
          · replace h72 := c2_leT h72
            refine rw_go hX [(110, .iinc 6 1), (113, .goto (-66))] (by decide +kernel) (Ps := []) (pc' := 47) (lv' := [(0, .ref 39), (1, .int (nI k)), (2, .int (en ((hb b1 b2 ln W k j).1))), (3, .int (nI ((hb b1 b2 ln W k j).2))), (4, .int (nI (b1 k + ln k))), (5, .int (nI (b2 k + ln k))), (6, .int (nI (k + 1 + j) + nI 1))]) (st' := []) (σ' := σ) rfl True.intro ?_
            refine rw_lsub (ks := [0, 1, 2, 3, 4, 5, 6]) (lv' := [(0, .ref 39), (1, .int (nI k)), (2, .int (en ((hb b1 b2 ln W k j).1))), (3, .int (nI ((hb b1 b2 ln W k j).2))), (4, .int (nI (b1 k + ln k))), (5, .int (nI (b2 k + ln k))), (6, .int (nI (k + 1 + j) + nI 1))]) rfl ?_
            have q := ih47 (m - (j + 1)) (by omega) (j + 1) rfl (by omega)
            rw [hb_n (by omega)] at q
            rw [nI_add]
            exact q
          · replace h72 := c2_leF h72
            refine rw_go hX [(75, .aload_n 0), (76, .getfield 25), (79, .iload 6), (81, .iaload)] (by decide +kernel) (Ps := [vp_in (nI (k + 1 + j)) 840]) (pc' := 82) (lv' := [(0, .ref 39), (1, .int (nI k)), (2, .int (en ((hb b1 b2 ln W k j).1))), (3, .int (nI ((hb b1 b2 ln W k j).2))), (4, .int (nI (b1 k + ln k))), (5, .int (nI (b2 k + ln k))), (6, .int (nI (k + 1 + j)))]) (st' := [.int (σ 46 (nI (k + 1 + j)).toNatClampNeg)]) (σ' := σ) rfl (vp_in_nI (by omega) (by omega)) ?_
            rw [show (σ 46 (nI (k + 1 + j)).toNatClampNeg) = nI (b1 (k + 1 + j)) from (by rw [nI_clamp (by omega), (hb1 (k + 1 + j) (by omega)).1])]
            refine rw_go hX [(82, .iload 4)] (by decide +kernel) (Ps := []) (pc' := 84) (lv' := [(0, .ref 39), (1, .int (nI k)), (2, .int (en ((hb b1 b2 ln W k j).1))), (3, .int (nI ((hb b1 b2 ln W k j).2))), (4, .int (nI (b1 k + ln k))), (5, .int (nI (b2 k + ln k))), (6, .int (nI (k + 1 + j)))]) (st' := [.int (nI (b1 k + ln k)), .int (nI (b1 (k + 1 + j)))]) (σ' := σ) rfl True.intro ?_
            refine rw_icmp hX (tgt := 110) (cnd := .lt) (off := 26) (by decide +kernel) (by decide) (fun h84 => ?_) (fun h84 => ?_)
            · replace h84 := c2_ltT h84
              refine rw_go hX [(110, .iinc 6 1), (113, .goto (-66))] (by decide +kernel) (Ps := []) (pc' := 47) (lv' := [(0, .ref 39), (1, .int (nI k)), (2, .int (en ((hb b1 b2 ln W k j).1))), (3, .int (nI ((hb b1 b2 ln W k j).2))), (4, .int (nI (b1 k + ln k))), (5, .int (nI (b2 k + ln k))), (6, .int (nI (k + 1 + j) + nI 1))]) (st' := []) (σ' := σ) rfl True.intro ?_
              refine rw_lsub (ks := [0, 1, 2, 3, 4, 5, 6]) (lv' := [(0, .ref 39), (1, .int (nI k)), (2, .int (en ((hb b1 b2 ln W k j).1))), (3, .int (nI ((hb b1 b2 ln W k j).2))), (4, .int (nI (b1 k + ln k))), (5, .int (nI (b2 k + ln k))), (6, .int (nI (k + 1 + j) + nI 1))]) rfl ?_
              have q := ih47 (m - (j + 1)) (by omega) (j + 1) rfl (by omega)
              rw [hb_n (by omega)] at q
              rw [nI_add]
              exact q
            · replace h84 := c2_ltF h84
              refine rw_go hX [(87, .aload_n 0), (88, .getfield 29), (91, .iload 6), (93, .iaload)] (by decide +kernel) (Ps := [vp_in (nI (k + 1 + j)) 840]) (pc' := 94) (lv' := [(0, .ref 39), (1, .int (nI k)), (2, .int (en ((hb b1 b2 ln W k j).1))), (3, .int (nI ((hb b1 b2 ln W k j).2))), (4, .int (nI (b1 k + ln k))), (5, .int (nI (b2 k + ln k))), (6, .int (nI (k + 1 + j)))]) (st' := [.int (σ 47 (nI (k + 1 + j)).toNatClampNeg)]) (σ' := σ) rfl (vp_in_nI (by omega) (by omega)) ?_
              rw [show (σ 47 (nI (k + 1 + j)).toNatClampNeg) = nI (b2 (k + 1 + j)) from (by rw [nI_clamp (by omega), (hb2 (k + 1 + j) (by omega)).1])]
              refine rw_go hX [(94, .iload 5)] (by decide +kernel) (Ps := []) (pc' := 96) (lv' := [(0, .ref 39), (1, .int (nI k)), (2, .int (en ((hb b1 b2 ln W k j).1))), (3, .int (nI ((hb b1 b2 ln W k j).2))), (4, .int (nI (b1 k + ln k))), (5, .int (nI (b2 k + ln k))), (6, .int (nI (k + 1 + j)))]) (st' := [.int (nI (b2 k + ln k)), .int (nI (b2 (k + 1 + j)))]) (σ' := σ) rfl True.intro ?_
              refine rw_icmp hX (tgt := 110) (cnd := .lt) (off := 14) (by decide +kernel) (by decide) (fun h96 => ?_) (fun h96 => ?_)
              · replace h96 := c2_ltT h96
                refine rw_go hX [(110, .iinc 6 1), (113, .goto (-66))] (by decide +kernel) (Ps := []) (pc' := 47) (lv' := [(0, .ref 39), (1, .int (nI k)), (2, .int (en ((hb b1 b2 ln W k j).1))), (3, .int (nI ((hb b1 b2 ln W k j).2))), (4, .int (nI (b1 k + ln k))), (5, .int (nI (b2 k + ln k))), (6, .int (nI (k + 1 + j) + nI 1))]) (st' := []) (σ' := σ) rfl True.intro ?_
                refine rw_lsub (ks := [0, 1, 2, 3, 4, 5, 6]) (lv' := [(0, .ref 39), (1, .int (nI k)), (2, .int (en ((hb b1 b2 ln W k j).1))), (3, .int (nI ((hb b1 b2 ln W k j).2))), (4, .int (nI (b1 k + ln k))), (5, .int (nI (b2 k + ln k))), (6, .int (nI (k + 1 + j) + nI 1))]) rfl ?_
                have q := ih47 (m - (j + 1)) (by omega) (j + 1) rfl (by omega)
                rw [hb_n (by omega)] at q
                rw [nI_add]
                exact q
              · replace h96 := c2_ltF h96
                refine rw_go hX [(99, .iload 6), (101, .istore_n 2), (102, .aload_n 0), (103, .getfield 35), (106, .iload 6), (108, .iaload)] (by decide +kernel) (Ps := [vp_in (nI (k + 1 + j)) 840]) (pc' := 109) (lv' := [(0, .ref 39), (1, .int (nI k)), (2, .int (nI (k + 1 + j))), (3, .int (nI ((hb b1 b2 ln W k j).2))), (4, .int (nI (b1 k + ln k))), (5, .int (nI (b2 k + ln k))), (6, .int (nI (k + 1 + j)))]) (st' := [.int (σ 49 (nI (k + 1 + j)).toNatClampNeg)]) (σ' := σ) rfl (vp_in_nI (by omega) (by omega)) ?_
                rw [show (σ 49 (nI (k + 1 + j)).toNatClampNeg) = nI (W (k + 1 + j)) from (by rw [nI_clamp (by omega), (hW (k + 1 + j) (by omega) (by omega)).1])]
                refine rw_go hX [(109, .istore_n 3), (110, .iinc 6 1), (113, .goto (-66))] (by decide +kernel) (Ps := []) (pc' := 47) (lv' := [(0, .ref 39), (1, .int (nI k)), (2, .int (nI (k + 1 + j))), (3, .int (nI (W (k + 1 + j)))), (4, .int (nI (b1 k + ln k))), (5, .int (nI (b2 k + ln k))), (6, .int (nI (k + 1 + j) + nI 1))]) (st' := []) (σ' := σ) rfl True.intro ?_
                refine rw_lsub (ks := [0, 1, 2, 3, 4, 5, 6]) (lv' := [(0, .ref 39), (1, .int (nI k)), (2, .int (nI (k + 1 + j))), (3, .int (nI (W (k + 1 + j)))), (4, .int (nI (b1 k + ln k))), (5, .int (nI (b2 k + ln k))), (6, .int (nI (k + 1 + j) + nI 1))]) rfl ?_
                have q := ih47 (m - (j + 1)) (by omega) (j + 1) rfl (by omega)
                rw [hb_y (by omega) (by omega) (by omega)] at q
                rw [nI_add]
                exact q
  refine rw_lsub (ks := [0, 1, 2, 3, 4, 5, 6]) (lv' := [(0, .ref 39), (1, .int (nI k)), (2, .int (-(nI 1))), (3, .int (nI 0)), (4, .int (nI (b1 k + ln k))), (5, .int (nI (b2 k + ln k))), (6, .int (nI k + nI 1))]) rfl ?_
  rw [nI_add]
  exact L47 m 0 (by omega) (by omega)
