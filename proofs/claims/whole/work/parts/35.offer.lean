/-! matches offered to the letters: of each letter the longest match that holds it, and its source -/
abbrev Lx : Type := Nat × Option Nat
def bt (D : Nat → Int32) (len w : Nat) (x : Lx) : Lx := if (if len = x.1 then decide (D w < pkE D x.2) else decide (x.1 < len)) = true then (len, some w) else x
def oS (D : Nat → Int32) (w : Nat) (b ln : Nat → Nat) (p : Nat → Lx) : Nat → Nat → Lx
  | 0, i => p i
  | x + 1, i => if b x ≤ i ∧ i < b x + ln x then bt D (ln x) w (oS D w b ln p x i) else oS D w b ln p x i
theorem oS_1 (D : Nat → Int32) (w : Nat) (b ln : Nat → Nat) (p : Nat → Lx) (x i : Nat) : oS D w b ln p (x + 1) i = if b x ≤ i ∧ i < b x + ln x then bt D (ln x) w (oS D w b ln p x i) else oS D w b ln p x i := rfl
def bx (x : Lx) : Prop := x.1 ≤ 50 ∧ ∀ v, x.2 = some v → v < 5
theorem bx_ite {b : Bool} {x y : Lx} (h : bx x) (g : bx y) : bx (if b = true then x else y) := by
  cases b
  · exact g
  · exact h
theorem bt_b {D : Nat → Int32} {len w : Nat} {x : Lx} (h : bx x) (hl : len ≤ 50) (hw : w < 5) : bx (bt D len w x) := by
  exact bx_ite ⟨hl, fun v hv => by cases hv; exact hw⟩ h
theorem oS_b {D : Nat → Int32} {w : Nat} {b ln : Nat → Nat} {p : Nat → Lx} {i : Nat} (h : bx (p i)) (hw : w < 5) : ∀ x, (∀ y, y < x → ln y ≤ 50) → bx (oS D w b ln p x i)
  | 0, _ => h
  | x + 1, hl => by
    have ih := oS_b (D := D) (b := b) h hw x (fun y hy => hl y (by omega))
    rw [oS_1]
    split
    · exact bt_b ih (hl x (by omega)) hw
    · exact ih
def OI (τ σ : Mm) (L : Nat) (p : Nat → Lx) : Prop := (∀ i, i < L → τ 54 i = nI (p i).1 ∧ τ 55 i = en (p i).2) ∧ ∀ k, k ≠ 54 → k ≠ 55 → τ k = σ k
def mx2 (f g : Nat → Lx) (t : Nat) : Nat → Lx := fun i => if i < t then g i else f i
theorem OI_c {τ σ : Mm} {L : Nat} {p q : Nat → Lx} (h : OI τ σ L p) (e : ∀ i, i < L → p i = q i) : OI τ σ L q := ⟨fun i hi => by rw [← e i hi]; exact h.1 i hi, h.2⟩
theorem OI_n {τ σ : Mm} {L i : Nat} {f g : Nat → Lx} (h : OI τ σ L (mx2 f g i)) (e : g i = f i) : OI τ σ L (mx2 f g (i + 1)) := OI_c h fun j _ => by
  unfold mx2
  by_cases q : j = i
  · subst q; rw [if_neg (by omega), if_pos (by omega), e]
  · by_cases r : j < i
    · rw [if_pos r, if_pos (by omega)]
    · rw [if_neg r, if_neg (by omega)]
theorem OI_y {τ σ : Mm} {L i len w : Nat} {f g : Nat → Lx} (h : OI τ σ L (mx2 f g i)) (e : g i = (len, some w)) : OI (sw (sw τ 54 i (nI len)) 55 i (nI w)) σ L (mx2 f g (i + 1)) := by
  refine ⟨fun j hj => ?_, fun k h1 h2 => by rw [sw_ne _ _ _ h2, sw_ne _ _ _ h1]; exact h.2 k h1 h2⟩
  by_cases q : j = i
  · subst q
    have e2 : mx2 f g (j + 1) j = (len, some w) := by unfold mx2; rw [if_pos (by omega), e]
    rw [e2]
    exact ⟨by rw [sw_ne _ _ _ (by decide), sw_eq], sw_eq⟩
  · have e2 : mx2 f g (i + 1) j = mx2 f g i j := by
      unfold mx2
      by_cases r : j < i
      · rw [if_pos r, if_pos (by omega)]
      · rw [if_neg r, if_neg (by omega)]
    rw [e2]
    have := h.1 j hj
    exact ⟨by rw [← this.1]; simp [sw, sr, upd, q], by rw [← this.2]; simp [sw, sr, upd, q]⟩
theorem OI_in {τ σ : Mm} {L x w : Nat} {D : Nat → Int32} {b ln : Nat → Nat} {p : Nat → Lx} (h : OI τ σ L (oS D w b ln p x)) : OI τ σ L (mx2 (oS D w b ln p x) (oS D w b ln p (x + 1)) (b x)) := OI_c h fun j _ => by
  unfold mx2
  by_cases r : j < b x
  · rw [if_pos r, oS_1, if_neg (by omega)]
  · rw [if_neg r]
theorem OI_out {τ σ : Mm} {L x w i : Nat} {D : Nat → Int32} {b ln : Nat → Nat} {p : Nat → Lx} (h : OI τ σ L (mx2 (oS D w b ln p x) (oS D w b ln p (x + 1)) i)) (hi : i = max (b x) (min L (b x + ln x))) : OI τ σ L (oS D w b ln p (x + 1)) := OI_c h fun j hj => by
  unfold mx2
  by_cases r : j < i
  · rw [if_pos r]
  · rw [if_neg r, oS_1, if_neg (by omega)]
set_option maxRecDepth 20000 in
set_option maxHeartbeats 4000000 in
theorem c_offer (l : Launch) (G : Gl) (σ : Mm) (m L w dk : Nat) (b ln : Nat → Nat) (p : Nat → Lx) (hdk : shapes[dk]? = some (.inl (0, 5))) (hdn : dk ≠ 54 ∧ dk ≠ 55) (hw : w < 5) (hm : σ 39 0 = nI m) (hm8 : m ≤ 840) (hb : ∀ x, x < m → σ 46 x = nI (b x) ∧ b x ≤ 50) (hln : ∀ x, x < m → σ 48 x = nI (ln x) ∧ ln x ≤ 50) (hL : σ 53 2 = nI L) (hL5 : L ≤ 50) (hp : OI σ σ L p) (hpb : ∀ i, i < L → bx (p i)) : AMv l G 2 mX7_offer [.ref 53, .ref 39, .int (nI w), .ref dk] σ (fun σ' => OI σ' σ L (oS (σ dk) w b ln p m)) := by
  refine rw_inV 7 (by decide +kernel) rfl rfl ?_
  intro E hE hX
  subst hE
  refine rw_go hX [(0, .iconst 0), (1, .istore 4)] (by decide +kernel) (Ps := []) (pc' := 3) (lv' := [(0, .ref 53), (1, .ref 39), (2, .int (nI w)), (3, .ref dk), (4, .int (nI 0))]) (st' := []) (σ' := σ) rfl True.intro ?_
  have L3 : ∀ (μ3 : Nat) (x : Nat) (τ : Mm), μ3 = m - x → (x ≤ m) → (OI τ σ L (oS (σ dk) w b ln p x)) → RW E G 2 9 (QV E G (fun σ' => OI σ' σ L (oS (σ dk) w b ln p m))) 3 [(0, .ref 53), (1, .ref 39), (2, .int (nI w)), (3, .ref dk), (4, .int (nI x))] [] τ := by
    intro μ3
    induction μ3 using Nat.strongRecOn with
    | ind μ3 ih3 =>
      intro x τ hμ3 hx ho
      refine rw_go hX [(3, .iload 4), (5, .aload_n 1), (6, .getfield 52)] (by decide +kernel) (Ps := []) (pc' := 9) (lv' := [(0, .ref 53), (1, .ref 39), (2, .int (nI w)), (3, .ref dk), (4, .int (nI x))]) (st' := [.int (τ 39 0), .int (nI x)]) (σ' := τ) rfl True.intro ?_
      rw [show (τ 39 0) = nI m from (by rw [congrFun (ho.2 39 (by decide) (by decide)) 0, hm])]
      refine rw_icmp hX (tgt := 106) (cnd := .ge) (off := 97) (by decide +kernel) (by decide) (fun h9 => ?_) (fun h9 => ?_)
      · replace h9 := c2_geT h9
        have e : x = m := by omega
        exact rw_vret hX (by decide +kernel) (by rw [← e]; exact ho)
      · replace h9 := c2_geF h9
        have hbx := hb x h9
        have hlx := hln x h9
        refine rw_go hX [(12, .aload_n 1), (13, .iload 4)] (by decide +kernel) (Ps := []) (pc' := 15) (lv' := [(0, .ref 53), (1, .ref 39), (2, .int (nI w)), (3, .ref dk), (4, .int (nI x))]) (st' := [.int (nI x), .ref 39]) (σ' := τ) rfl True.intro ?_
        refine rw_callVi hX (as := [.int (nI x)]) (rest := []) (c_lengthOf _ _ _ x (by omega)) (by decide +kernel) mvX2_lengthOf lk7_55 (ci := 1) rfl rfl rfl (by decide) (Nat.le_of_ble_eq_true rfl) rfl ?_
        intro r1 σ1 hr
        rw [hr.1, show r1 = nI (ln x) from hr.2.trans ((congrFun (ho.2 48 (by decide) (by decide)) x).trans hlx.1)]
        clear hr σ1 r1
        refine rw_go hX [(18, .istore 5), (20, .iconst 0), (21, .aload_n 1), (22, .iload 4)] (by decide +kernel) (Ps := []) (pc' := 24) (lv' := [(0, .ref 53), (1, .ref 39), (2, .int (nI w)), (3, .ref dk), (4, .int (nI x)), (5, .int (nI (ln x)))]) (st' := [.int (nI x), .ref 39, .int (nI 0)]) (σ' := τ) rfl True.intro ?_
        refine rw_callVi hX (as := [.int (nI x)]) (rest := [.int (nI 0)]) (c_beginOf _ _ _ x (by omega)) (by decide +kernel) mvX2_beginOf lk7_59 (ci := 1) rfl rfl rfl (by decide) (Nat.le_of_ble_eq_true rfl) rfl ?_
        intro r1 σ1 hr
        rw [hr.1, show r1 = nI (b x) from hr.2.trans ((congrFun (ho.2 46 (by decide) (by decide)) x).trans hbx.1)]
        clear hr σ1 r1
        refine rw_max hX (by decide +kernel) lk7_62 (Nat.le_of_ble_eq_true rfl) ?_
        rw [show (if nI 0 < nI (b x) then nI (b x) else nI 0) = nI (b x) from mx_r (Nat.zero_le _) (by omega)]
        refine rw_go hX [(30, .istore 6), (32, .aload_n 0), (33, .getfield 18)] (by decide +kernel) (Ps := []) (pc' := 36) (lv' := [(0, .ref 53), (1, .ref 39), (2, .int (nI w)), (3, .ref dk), (4, .int (nI x)), (5, .int (nI (ln x))), (6, .int (nI (b x)))]) (st' := [.int (τ 53 2)]) (σ' := τ) rfl True.intro ?_
        rw [show (τ 53 2) = nI L from (by rw [congrFun (ho.2 53 (by decide) (by decide)) 2, hL])]
        refine rw_go hX [(36, .iload 6), (38, .iload 5), (40, .iadd)] (by decide +kernel) (Ps := []) (pc' := 41) (lv' := [(0, .ref 53), (1, .ref 39), (2, .int (nI w)), (3, .ref dk), (4, .int (nI x)), (5, .int (nI (ln x))), (6, .int (nI (b x)))]) (st' := [.int (nI (b x) + nI (ln x)), .int (nI L)]) (σ' := τ) rfl True.intro ?_
        rw [show (nI (b x) + nI (ln x)) = nI (b x + ln x) from nI_add _ _]
        refine rw_min hX (by decide +kernel) lk7_40 (Nat.le_of_ble_eq_true rfl) ?_
        rw [show (if nI (b x + ln x) < nI L then nI (b x + ln x) else nI L) = nI (min L (b x + ln x)) from mn_min (by omega) (by omega)]
        refine rw_go hX [(44, .istore 7), (46, .iload 6), (48, .istore 8)] (by decide +kernel) (Ps := []) (pc' := 50) (lv' := [(0, .ref 53), (1, .ref 39), (2, .int (nI w)), (3, .ref dk), (4, .int (nI x)), (5, .int (nI (ln x))), (6, .int (nI (b x))), (7, .int (nI (min L (b x + ln x)))), (8, .int (nI (b x)))]) (st' := []) (σ' := τ) rfl True.intro ?_
        have L50 : ∀ (μ50 : Nat) (i : Nat) (τ1 : Mm), μ50 = 50 - i → (b x ≤ i) → (i ≤ max (b x) (min L (b x + ln x))) → (OI τ1 σ L (mx2 (oS (σ dk) w b ln p x) (oS (σ dk) w b ln p (x + 1)) i)) → RW E G 2 9 (QV E G (fun σ' => OI σ' σ L (oS (σ dk) w b ln p m))) 50 [(0, .ref 53), (1, .ref 39), (2, .int (nI w)), (3, .ref dk), (4, .int (nI x)), (5, .int (nI (ln x))), (7, .int (nI (min L (b x + ln x)))), (8, .int (nI i))] [] τ1 := by
          intro μ50
          induction μ50 using Nat.strongRecOn with
          | ind μ50 ih50 =>
            intro i τ1 hμ50 hi1 hi2 hj
            refine rw_go hX [(50, .iload 8), (52, .iload 7)] (by decide +kernel) (Ps := []) (pc' := 54) (lv' := [(0, .ref 53), (1, .ref 39), (2, .int (nI w)), (3, .ref dk), (4, .int (nI x)), (5, .int (nI (ln x))), (7, .int (nI (min L (b x + ln x)))), (8, .int (nI i))]) (st' := [.int (nI (min L (b x + ln x))), .int (nI i)]) (σ' := τ1) rfl True.intro ?_
            refine rw_icmp hX (tgt := 100) (cnd := .ge) (off := 46) (by decide +kernel) (by decide) (fun h54 => ?_) (fun h54 => ?_)
            · replace h54 := c2_geT h54
              refine rw_go hX [(100, .iinc 4 1), (103, .goto (-100))] (by decide +kernel) (Ps := []) (pc' := 3) (lv' := [(0, .ref 53), (1, .ref 39), (2, .int (nI w)), (3, .ref dk), (4, .int (nI x + nI 1)), (5, .int (nI (ln x))), (7, .int (nI (min L (b x + ln x)))), (8, .int (nI i))]) (st' := []) (σ' := τ1) rfl True.intro ?_
              refine rw_lsub (ks := [0, 1, 2, 3, 4]) (lv' := [(0, .ref 53), (1, .ref 39), (2, .int (nI w)), (3, .ref dk), (4, .int (nI x + nI 1))]) rfl ?_
              rw [nI_add]
              exact ih3 (m - (x + 1)) (by omega) (x + 1) _ rfl (by omega) (OI_out hj (by omega))
            · replace h54 := c2_geF h54
              have hiL : i < L := by omega
              have hq := hj.1 i hiL
              have e9 : mx2 (oS (σ dk) w b ln p x) (oS (σ dk) w b ln p (x + 1)) i i = oS (σ dk) w b ln p x i := if_neg (Nat.lt_irrefl i)
              rw [e9] at hq
              have hbq := oS_b (D := σ dk) (b := b) (hpb i hiL) hw x (fun y hy => (hln y (by omega)).2)
              have hD : τ1 dk = σ dk := hj.2 dk hdn.1 hdn.2
              refine rw_go hX [(57, .iload 8), (59, .bipush 50)] (by decide +kernel) (Ps := []) (pc' := 61) (lv' := [(0, .ref 53), (1, .ref 39), (2, .int (nI w)), (3, .ref dk), (4, .int (nI x)), (5, .int (nI (ln x))), (7, .int (nI (min L (b x + ln x)))), (8, .int (nI i))]) (st' := [.int (nI 50), .int (nI i)]) (σ' := τ1) rfl True.intro ?_
              refine rw_icmp hX (tgt := 100) (cnd := .ge) (off := 39) (by decide +kernel) (by decide) (fun h61 => ?_) (fun h61 => ?_)
              · replace h61 := c2_geT h61
                omega
              · replace h61 := c2_geF h61
                refine rw_go hX [(64, .aload_n 0), (65, .iload 5), (67, .iload_n 2), (68, .iload 8), (70, .aload_n 3)] (by decide +kernel) (Ps := []) (pc' := 71) (lv' := [(0, .ref 53), (1, .ref 39), (2, .int (nI w)), (3, .ref dk), (4, .int (nI x)), (5, .int (nI (ln x))), (7, .int (nI (min L (b x + ln x)))), (8, .int (nI i))]) (st' := [.ref dk, .int (nI i), .int (nI w), .int (nI (ln x)), .ref 53]) (σ' := τ1) rfl True.intro ?_
                refine rw_callVi hX (as := [.int (nI (ln x)), .int (nI w), .int (nI i), .ref dk]) (rest := []) (c_isBetter _ _ _ (ln x) w i (oS (σ dk) w b ln p x i).1 dk (oS (σ dk) w b ln p x i).2 hlx.2 hw (by omega) hq.1 hbq.1 hq.2 hbq.2 hdk) (by decide +kernel) mvX7_isBetter lk7_65 (ci := 6) rfl rfl rfl (by decide) (Nat.le_of_ble_eq_true rfl) rfl ?_
                intro r1 σ1 hr
                rw [hD] at hr
                rw [hr.1, hr.2]
                clear hr σ1 r1
                refine rw_if hX (tgt := 94) (cnd := .eq) (off := 20) (by decide +kernel) (by decide) (fun h74 => ?_) (fun h74 => ?_)
                · replace h74 := zb_eqT h74
                  refine rw_go hX [(94, .iinc 8 1), (97, .goto (-47))] (by decide +kernel) (Ps := []) (pc' := 50) (lv' := [(0, .ref 53), (1, .ref 39), (2, .int (nI w)), (3, .ref dk), (4, .int (nI x)), (5, .int (nI (ln x))), (7, .int (nI (min L (b x + ln x)))), (8, .int (nI i + nI 1))]) (st' := []) (σ' := τ1) rfl True.intro ?_
                  refine rw_lsub (ks := [0, 1, 2, 3, 4, 5, 6, 7]) (lv' := [(0, .ref 53), (1, .ref 39), (2, .int (nI w)), (3, .ref dk), (4, .int (nI x)), (5, .int (nI (ln x))), (7, .int (nI (min L (b x + ln x)))), (8, .int (nI i + nI 1))]) rfl ?_
                  rw [nI_add]
                  exact ih50 (50 - (i + 1)) (by omega) (i + 1) _ rfl (by omega) (by omega) (OI_n hj (by rw [oS_1, if_pos ⟨hi1, by omega⟩]; unfold bt; rw [if_neg (by rw [h74]; decide)]))
                · replace h74 := zb_eqF h74
                  refine rw_go hX [(77, .aload_n 0), (78, .getfield 21), (81, .iload 8), (83, .iload 5), (85, .iastore)] (by decide +kernel) (Ps := [vp_in (nI i) 50]) (pc' := 86) (lv' := [(0, .ref 53), (1, .ref 39), (2, .int (nI w)), (3, .ref dk), (4, .int (nI x)), (5, .int (nI (ln x))), (7, .int (nI (min L (b x + ln x)))), (8, .int (nI i))]) (st' := []) (σ' := sw τ1 54 (nI i).toNatClampNeg (nI (ln x))) rfl (vp_in_nI (by omega) (by omega)) ?_
                  rw [show (sw τ1 54 (nI i).toNatClampNeg (nI (ln x))) = sw τ1 54 i (nI (ln x)) from (by rw [nI_clamp (by omega)])]
                  refine rw_go hX [(86, .aload_n 0), (87, .getfield 25), (90, .iload 8), (92, .iload_n 2), (93, .iastore)] (by decide +kernel) (Ps := [vp_in (nI i) 50]) (pc' := 94) (lv' := [(0, .ref 53), (1, .ref 39), (2, .int (nI w)), (3, .ref dk), (4, .int (nI x)), (5, .int (nI (ln x))), (7, .int (nI (min L (b x + ln x)))), (8, .int (nI i))]) (st' := []) (σ' := sw (sw τ1 54 i (nI (ln x))) 55 (nI i).toNatClampNeg (nI w)) rfl (vp_in_nI (by omega) (by omega)) ?_
                  rw [show (sw (sw τ1 54 i (nI (ln x))) 55 (nI i).toNatClampNeg (nI w)) = sw (sw τ1 54 i (nI (ln x))) 55 i (nI w) from (by rw [nI_clamp (by omega)])]
                  refine rw_go hX [(94, .iinc 8 1), (97, .goto (-47))] (by decide +kernel) (Ps := []) (pc' := 50) (lv' := [(0, .ref 53), (1, .ref 39), (2, .int (nI w)), (3, .ref dk), (4, .int (nI x)), (5, .int (nI (ln x))), (7, .int (nI (min L (b x + ln x)))), (8, .int (nI i + nI 1))]) (st' := []) (σ' := sw (sw τ1 54 i (nI (ln x))) 55 i (nI w)) rfl True.intro ?_
                  refine rw_lsub (ks := [0, 1, 2, 3, 4, 5, 6, 7]) (lv' := [(0, .ref 53), (1, .ref 39), (2, .int (nI w)), (3, .ref dk), (4, .int (nI x)), (5, .int (nI (ln x))), (7, .int (nI (min L (b x + ln x)))), (8, .int (nI i + nI 1))]) rfl ?_
                  rw [nI_add]
                  exact ih50 (50 - (i + 1)) (by omega) (i + 1) _ rfl (by omega) (by omega) (OI_y hj (by rw [oS_1, if_pos ⟨hi1, by omega⟩]; unfold bt; rw [if_pos h74]))
        refine rw_lsub (ks := [0, 1, 2, 3, 4, 5, 7, 8]) (lv' := [(0, .ref 53), (1, .ref 39), (2, .int (nI w)), (3, .ref dk), (4, .int (nI x)), (5, .int (nI (ln x))), (7, .int (nI (min L (b x + ln x)))), (8, .int (nI (b x)))]) rfl ?_
        exact L50 (50 - b x) (b x) τ rfl (Nat.le_refl _) (by omega) (OI_in ho)
  refine rw_lsub (ks := [0, 1, 2, 3, 4]) (lv' := [(0, .ref 53), (1, .ref 39), (2, .int (nI w)), (3, .ref dk), (4, .int (nI 0))]) rfl ?_
  exact L3 m 0 σ rfl (by omega) hp
