/-! the model: what is told -/
def EqM (V σ : Mm) (s w : Nat) (S : Nat → Option Nat) (j : Nat) : Prop := σ (93 + s) j = nI (PL V w (tPi S (lC V w) j))
theorem FO_neg {E : Nat → Prop} {a b : Nat} {r : Int32} (h : FO E a b r) (ha : a < 2 ^ 30) (hb : b < 2 ^ 30) : r < 0 ↔ (a = b ∧ ∀ j, j < b → E j) := by
  rw [← FO_no h ha hb]
  rcases h with ⟨i, h1, h2, h3, h4⟩ | ⟨h1, h2, h3⟩
  · constructor
    · intro z; rw [h1] at z; exact absurd z (nI_pos (by omega))
    · intro z; rw [h1] at z; exact absurd z (m1_ne (by omega))
  · exact ⟨fun _ => h1, fun z => by rw [z]; decide +kernel⟩
def lsq (c y : Nat) : Nat := if c = 1 then y else 51 - y
def TI (W : Nat → Prop) (c k : Nat) (x : Int32) : Prop := (x = -(nI 1) ∧ ∀ y, 1 ≤ y → y < k → ¬ W (lsq c y)) ∨ (∃ y, 1 ≤ y ∧ y ≤ 50 ∧ W (lsq c y) ∧ (∀ z, 1 ≤ z → z < y → ¬ W (lsq c z)) ∧ x = nI (lsq c y))
theorem lsq_b {c y : Nat} (h1 : 1 ≤ y) (h2 : y ≤ 50) : 1 ≤ lsq c y ∧ lsq c y ≤ 50 := by
  unfold lsq
  split <;> omega
theorem TI_0 (W : Nat → Prop) (c : Nat) : TI W c 1 (-(nI 1)) := Or.inl ⟨rfl, fun y h1 h2 => by omega⟩
theorem TI_neg {W : Nat → Prop} {c k : Nat} {x : Int32} (h : TI W c k x) (hx : x < 0) : x = -(nI 1) ∧ ∀ y, 1 ≤ y → y < k → ¬ W (lsq c y) := by
  rcases h with h | ⟨y, h1, h2, h3, h4, h5⟩
  · exact h
  · rw [h5] at hx
    exact absurd hx (nI_pos (by have := (lsq_b (c := c) h1 h2).2; omega))
theorem TI_y {W : Nat → Prop} {c k : Nat} {x : Int32} (h : TI W c k x) (hx : x < 0) (h1 : 1 ≤ k) (h2 : k ≤ 50) (hW : W (lsq c k)) : TI W c (k + 1) (nI (lsq c k)) :=
  Or.inr ⟨k, h1, h2, hW, (TI_neg h hx).2, rfl⟩
theorem TI_n {W : Nat → Prop} {c k : Nat} {x : Int32} (h : TI W c k x) (hx : x < 0) (hW : ¬ W (lsq c k)) : TI W c (k + 1) x := by
  obtain ⟨h1, h2⟩ := TI_neg h hx
  refine Or.inl ⟨h1, fun y g1 g2 => ?_⟩
  by_cases q : y = k
  · rw [q]; exact hW
  · exact h2 y g1 (by omega)
theorem TI_1 {W : Nat → Prop} {k : Nat} {x : Int32} (h : TI W 1 k x) (hk : k = 51 ∨ ¬ x < 0) : LTd W x := by
  have e : ∀ y, lsq 1 y = y := fun y => if_pos rfl
  rcases h with ⟨h1, h2⟩ | ⟨y, h1, h2, h3, h4, h5⟩
  · right
    have hk1 : k = 51 := by
      rcases hk with g | g
      · exact g
      · rw [h1] at g; exact absurd (by decide +kernel) g
    refine ⟨h1, fun z g1 g2 => ?_⟩
    have := h2 z g1 (by omega)
    rw [e] at this
    exact this
  · left
    rw [e] at h3 h5
    exact ⟨y, h1, h2, h3, fun z g1 g2 => by have := h4 z g1 g2; rw [e] at this; exact this, h5⟩
theorem TI_2 {W : Nat → Prop} {c k : Nat} {x : Int32} (hc : c ≠ 1) (h : TI W c k x) (hk : k = 51 ∨ ¬ x < 0) : GTd W x := by
  have e : ∀ y, lsq c y = 51 - y := fun y => if_neg hc
  rcases h with ⟨h1, h2⟩ | ⟨y, h1, h2, h3, h4, h5⟩
  · right
    have hk1 : k = 51 := by
      rcases hk with g | g
      · exact g
      · rw [h1] at g; exact absurd (by decide +kernel) g
    refine ⟨h1, fun z g1 g2 => ?_⟩
    have := h2 (51 - z) (by omega) (by omega)
    rw [e, show 51 - (51 - z) = z by omega] at this
    exact this
  · left
    rw [e] at h3 h5
    exact ⟨51 - y, by omega, by omega, h3, fun z g1 g2 => by have := h4 (51 - z) (by omega) (by omega); rw [e, show 51 - (51 - z) = z by omega] at this; exact this, h5⟩
theorem so_m {x : Int32} (h : x = -(nI 1) ∨ x = nI 0 ∨ x = nI 1) : x < 0 ↔ x = -(nI 1) := by
  rcases h with h | h | h <;> rw [h] <;> decide +kernel
set_option maxRecDepth 20000 in
set_option maxHeartbeats 800000 in
theorem m_shows (l : Launch) (G : Gl) (σ : Mm) (V : Mm) (w ls : Nat) (hV : vw σ 67 = V) (hv : wf V) (hw : w < 5) (hAN : AN V σ) (hls : ls ≤ 50) (h1 : 1 ≤ ls) : AMi l G 4 mX10_shows [.ref 66, .int (nI w), .int (nI ls)] σ (fun r σ' => r = nI (2 * spN (sT V w ls) (lC V w)) ∧ (∀ j, j < 2 * spN (sT V w ls) (lC V w) → σ' 99 j = nI (PL V w (tPi (sT V w ls) (lC V w) j))) ∧ AN V σ' ∧ MQu σ σ') := by
  refine rw_inI 10 (by decide +kernel) rfl rfl ?_
  intro E hE hX
  subst hE
  refine rw_go hX [(0, .aload_n 0), (1, .iload_n 1), (2, .iload_n 2)] (by decide +kernel) (Ps := []) (pc' := 3) (lv' := [(0, .ref 66), (1, .int (nI w)), (2, .int (nI ls))]) (st' := [.int (nI ls), .int (nI w), .ref 66]) (σ' := σ) rfl True.intro ?_
  refine rw_callVv hX (as := [.int (nI w), .int (nI ls)]) (rest := []) (m_sources _ _ _ V w ls hV hv hw hAN hls h1) (by decide +kernel) mvX10_sources lk10_267 (ci := 9) rfl rfl rfl (by decide) (Nat.le_of_ble_eq_true rfl) rfl ?_
  intro τ2 ht2
  obtain ⟨hSr, hAN2, hMq⟩ := ht2
  have hR := hAN2.1 w hw
  have hL5 := lC_50 hv hw
  have hs5 := sT_5 hv hw ls
  have hsn := spN_50 (s := (sT V w ls)) hL5
  refine rw_go hX [(6, .iconst 2), (7, .aload_n 0), (8, .iload_n 1)] (by decide +kernel) (Ps := []) (pc' := 9) (lv' := [(0, .ref 66), (1, .int (nI w)), (2, .int (nI ls))]) (st' := [.int (nI w), .ref 66, .int (nI 2)]) (σ' := τ2) rfl True.intro ?_
  refine rw_callVi hX (as := [.int (nI w)]) (rest := [.int (nI 2)]) (m_spans _ _ _ (sT V w ls) (lC V w) w hw hR.1.1 hL5 hSr hs5) (by decide +kernel) mvX10_spans lk10_270 (ci := 9) rfl rfl rfl (by decide) (Nat.le_of_ble_eq_true rfl) rfl ?_
  intro r1 σ1 hr
  rw [hr.1, show r1 = nI (spN (sT V w ls) (lC V w)) from hr.2]
  clear hr σ1 r1
  refine rw_go hX [(12, .imul)] (by decide +kernel) (Ps := []) (pc' := 13) (lv' := [(0, .ref 66), (1, .int (nI w)), (2, .int (nI ls))]) (st' := [.int (nI 2 * nI (spN (sT V w ls) (lC V w)))]) (σ' := τ2) rfl True.intro ?_
  rw [show (nI 2 * nI (spN (sT V w ls) (lC V w))) = nI (2 * spN (sT V w ls) (lC V w)) from pk_mul _ _]
  refine rw_go hX [(13, .istore_n 3), (14, .iconst 0), (15, .istore 4)] (by decide +kernel) (Ps := []) (pc' := 17) (lv' := [(0, .ref 66), (1, .int (nI w)), (2, .int (nI ls)), (3, .int (nI (2 * spN (sT V w ls) (lC V w)))), (4, .int (nI 0))]) (st' := []) (σ' := τ2) rfl True.intro ?_
  have L17 : ∀ (μ17 : Nat) (c : Nat) (f : Nat → Int32), μ17 = spN (sT V w ls) (lC V w) - c → (c ≤ spN (sT V w ls) (lC V w)) → (∀ j, j < 2 * c → f j = nI (PL V w (tPi (sT V w ls) (lC V w) j))) → RW E G 4 6 (QI E G (fun r σ' => r = nI (2 * spN (sT V w ls) (lC V w)) ∧ (∀ j, j < 2 * spN (sT V w ls) (lC V w) → σ' 99 j = nI (PL V w (tPi (sT V w ls) (lC V w) j))) ∧ AN V σ' ∧ MQu σ σ')) 17 [(0, .ref 66), (1, .int (nI w)), (2, .int (nI ls)), (3, .int (nI (2 * spN (sT V w ls) (lC V w)))), (4, .int (nI (2 * c)))] [] (sr τ2 99 f) := by
    intro μ17
    induction μ17 using Nat.strongRecOn with
    | ind μ17 ih17 =>
      intro c f hμ17 hc hf
      have hSf : ∀ i, i < 50 → (sr τ2 99 f) 88 i = en ((sT V w ls) i) := fun i hi => by rw [sr_n _ _ (by decide)]; exact hSr i hi
      have h77 : (sr τ2 99 f) 77 w = nI (lC V w) := by rw [sr_n _ _ (by decide)]; exact hR.1.1
      refine rw_go hX [(17, .iload 4), (19, .iload_n 3)] (by decide +kernel) (Ps := []) (pc' := 20) (lv' := [(0, .ref 66), (1, .int (nI w)), (2, .int (nI ls)), (3, .int (nI (2 * spN (sT V w ls) (lC V w)))), (4, .int (nI (2 * c)))]) (st' := [.int (nI (2 * spN (sT V w ls) (lC V w))), .int (nI (2 * c))]) (σ' := sr τ2 99 f) rfl True.intro ?_
      refine rw_icmp hX (tgt := 84) (cnd := .ge) (off := 64) (by decide +kernel) (by decide) (fun h20 => ?_) (fun h20 => ?_)
      · replace h20 := c2_geT h20
        have ec : c = spN (sT V w ls) (lC V w) := by omega
        refine rw_go hX [(84, .iload_n 3)] (by decide +kernel) (Ps := []) (pc' := 85) (lv' := [(0, .ref 66), (1, .int (nI w)), (2, .int (nI ls)), (3, .int (nI (2 * spN (sT V w ls) (lC V w)))), (4, .int (nI (2 * c)))]) (st' := [.int (nI (2 * spN (sT V w ls) (lC V w)))]) (σ' := sr τ2 99 f) rfl True.intro ?_
        exact rw_iret hX (by decide +kernel) (⟨rfl, fun j hj => by rw [sr_s]; exact hf j (by omega), AN_k hAN2 fun q hq => sr_n _ _ (fun z => by rw [z] at hq; revert hq; decide), hMq.trans (MQu_k (ks := [99]) (fun q hq => sr_n _ _ (fun z => hq (by rw [z]; decide))) (by decide))⟩)
      · replace h20 := c2_geF h20
        have hk : c < spN (sT V w ls) (lC V w) := by omega
        have hA1 := (spA_in hk).1
        have hZ1 := spZ_in hk
        refine rw_go hX [(23, .aload_n 0), (24, .iload 4), (26, .iconst 2), (27, .idiv)] (by decide +kernel) (Ps := [¬ (nI 2) = 0]) (pc' := 28) (lv' := [(0, .ref 66), (1, .int (nI w)), (2, .int (nI ls)), (3, .int (nI (2 * spN (sT V w ls) (lC V w)))), (4, .int (nI (2 * c)))]) (st' := [.int (nI (2 * c) / nI 2), .ref 66]) (σ' := sr τ2 99 f) rfl (show ¬ nI 2 = 0 from by decide +kernel) ?_
        rw [show (nI (2 * c) / nI 2) = nI c from (by rw [pk_div (by omega) (by omega) (by omega)]; congr 1; omega)]
        refine rw_callVi hX (as := [.int (nI c)]) (rest := []) (m_spanAt _ _ _ (sT V w ls) (lC V w) c hSf hs5 hL5 hk) (by decide +kernel) mvX10_spanAt lk10_273 (ci := 9) rfl rfl rfl (by decide) (Nat.le_of_ble_eq_true rfl) rfl ?_
        intro r1 σ1 hr
        rw [hr.1, show r1 = nI (spA (sT V w ls) c (lC V w)) from hr.2]
        clear hr σ1 r1
        refine rw_go hX [(31, .istore 5), (33, .aload_n 0), (34, .getfield 97), (37, .iload 4), (39, .aload_n 0), (40, .getfield 37), (43, .bipush 50), (45, .iload_n 1), (46, .imul)] (by decide +kernel) (Ps := []) (pc' := 47) (lv' := [(0, .ref 66), (1, .int (nI w)), (2, .int (nI ls)), (3, .int (nI (2 * spN (sT V w ls) (lC V w)))), (4, .int (nI (2 * c))), (5, .int (nI (spA (sT V w ls) c (lC V w))))]) (st' := [.int (nI 50 * nI w), .ref 76, .int (nI (2 * c)), .ref 99]) (σ' := sr τ2 99 f) rfl True.intro ?_
        rw [show (nI 50 * nI w) = nI (50 * w) from pk_mul _ _]
        refine rw_go hX [(47, .iload 5), (49, .iadd)] (by decide +kernel) (Ps := []) (pc' := 50) (lv' := [(0, .ref 66), (1, .int (nI w)), (2, .int (nI ls)), (3, .int (nI (2 * spN (sT V w ls) (lC V w)))), (4, .int (nI (2 * c))), (5, .int (nI (spA (sT V w ls) c (lC V w))))]) (st' := [.int (nI (50 * w) + nI (spA (sT V w ls) c (lC V w))), .ref 76, .int (nI (2 * c)), .ref 99]) (σ' := sr τ2 99 f) rfl True.intro ?_
        rw [show (nI (50 * w) + nI (spA (sT V w ls) c (lC V w))) = nI (50 * w + spA (sT V w ls) c (lC V w)) from nI_add _ _]
        refine rw_go hX [(50, .iaload)] (by decide +kernel) (Ps := [vp_in (nI (50 * w + spA (sT V w ls) c (lC V w))) 250]) (pc' := 51) (lv' := [(0, .ref 66), (1, .int (nI w)), (2, .int (nI ls)), (3, .int (nI (2 * spN (sT V w ls) (lC V w)))), (4, .int (nI (2 * c))), (5, .int (nI (spA (sT V w ls) c (lC V w))))]) (st' := [.int ((sr τ2 99 f) 76 (nI (50 * w + spA (sT V w ls) c (lC V w))).toNatClampNeg), .int (nI (2 * c)), .ref 99]) (σ' := sr τ2 99 f) rfl (vp_in_nI (by omega) (by omega)) ?_
        rw [show ((sr τ2 99 f) 76 (nI (50 * w + spA (sT V w ls) c (lC V w))).toNatClampNeg) = nI (PL V w (spA (sT V w ls) c (lC V w))) from (by rw [nI_clamp (by omega), sr_n _ _ (by decide), (hR.1.2 _ hA1).2])]
        refine rw_go hX [(51, .iastore)] (by decide +kernel) (Ps := [vp_in (nI (2 * c)) 100]) (pc' := 52) (lv' := [(0, .ref 66), (1, .int (nI w)), (2, .int (nI ls)), (3, .int (nI (2 * spN (sT V w ls) (lC V w)))), (4, .int (nI (2 * c))), (5, .int (nI (spA (sT V w ls) c (lC V w))))]) (st' := []) (σ' := sw (sr τ2 99 f) 99 (nI (2 * c)).toNatClampNeg (nI (PL V w (spA (sT V w ls) c (lC V w))))) rfl (vp_in_nI (by omega) (by omega)) ?_
        rw [show (sw (sr τ2 99 f) 99 (nI (2 * c)).toNatClampNeg (nI (PL V w (spA (sT V w ls) c (lC V w))))) = sw (sr τ2 99 f) 99 (2 * c) (nI (PL V w (spA (sT V w ls) c (lC V w)))) from (by rw [nI_clamp (by omega)])]
        refine rw_go hX [(52, .aload_n 0), (53, .getfield 97), (56, .iload 4), (58, .iconst 1), (59, .iadd)] (by decide +kernel) (Ps := []) (pc' := 60) (lv' := [(0, .ref 66), (1, .int (nI w)), (2, .int (nI ls)), (3, .int (nI (2 * spN (sT V w ls) (lC V w)))), (4, .int (nI (2 * c))), (5, .int (nI (spA (sT V w ls) c (lC V w))))]) (st' := [.int (nI (2 * c) + nI 1), .ref 99]) (σ' := sw (sr τ2 99 f) 99 (2 * c) (nI (PL V w (spA (sT V w ls) c (lC V w))))) rfl True.intro ?_
        rw [show (nI (2 * c) + nI 1) = nI (2 * c + 1) from nI_add _ _]
        refine rw_go hX [(60, .aload_n 0), (61, .getfield 37), (64, .bipush 50), (66, .iload_n 1), (67, .imul)] (by decide +kernel) (Ps := []) (pc' := 68) (lv' := [(0, .ref 66), (1, .int (nI w)), (2, .int (nI ls)), (3, .int (nI (2 * spN (sT V w ls) (lC V w)))), (4, .int (nI (2 * c))), (5, .int (nI (spA (sT V w ls) c (lC V w))))]) (st' := [.int (nI 50 * nI w), .ref 76, .int (nI (2 * c + 1)), .ref 99]) (σ' := sw (sr τ2 99 f) 99 (2 * c) (nI (PL V w (spA (sT V w ls) c (lC V w))))) rfl True.intro ?_
        rw [show (nI 50 * nI w) = nI (50 * w) from pk_mul _ _]
        refine rw_go hX [(68, .aload_n 0), (69, .iload_n 1), (70, .iload 5)] (by decide +kernel) (Ps := []) (pc' := 72) (lv' := [(0, .ref 66), (1, .int (nI w)), (2, .int (nI ls)), (3, .int (nI (2 * spN (sT V w ls) (lC V w)))), (4, .int (nI (2 * c))), (5, .int (nI (spA (sT V w ls) c (lC V w))))]) (st' := [.int (nI (spA (sT V w ls) c (lC V w))), .int (nI w), .ref 66, .int (nI (50 * w)), .ref 76, .int (nI (2 * c + 1)), .ref 99]) (σ' := sw (sr τ2 99 f) 99 (2 * c) (nI (PL V w (spA (sT V w ls) c (lC V w))))) rfl True.intro ?_
        refine rw_callVi hX (as := [.int (nI w), .int (nI (spA (sT V w ls) c (lC V w)))]) (rest := [.int (nI (50 * w)), .ref 76, .int (nI (2 * c + 1)), .ref 99]) (m_spanEnd _ _ _ (sT V w ls) (lC V w) w c hw (by rw [sw_ne _ _ _ (by decide)]; exact h77) hL5 (fun i hi => by rw [sw_ne _ _ _ (by decide)]; exact hSf i hi) hs5 hk) (by decide +kernel) mvX10_spanEnd lk10_276 (ci := 9) rfl rfl rfl (by decide) (Nat.le_of_ble_eq_true rfl) rfl ?_
        intro r1 σ1 hr
        rw [hr.1, show r1 = nI (spZ (sT V w ls) c (lC V w)) from hr.2]
        clear hr σ1 r1
        refine rw_go hX [(75, .iadd)] (by decide +kernel) (Ps := []) (pc' := 76) (lv' := [(0, .ref 66), (1, .int (nI w)), (2, .int (nI ls)), (3, .int (nI (2 * spN (sT V w ls) (lC V w)))), (4, .int (nI (2 * c))), (5, .int (nI (spA (sT V w ls) c (lC V w))))]) (st' := [.int (nI (50 * w) + nI (spZ (sT V w ls) c (lC V w))), .ref 76, .int (nI (2 * c + 1)), .ref 99]) (σ' := sw (sr τ2 99 f) 99 (2 * c) (nI (PL V w (spA (sT V w ls) c (lC V w))))) rfl True.intro ?_
        rw [show (nI (50 * w) + nI (spZ (sT V w ls) c (lC V w))) = nI (50 * w + spZ (sT V w ls) c (lC V w)) from nI_add _ _]
        refine rw_go hX [(76, .iaload)] (by decide +kernel) (Ps := [vp_in (nI (50 * w + spZ (sT V w ls) c (lC V w))) 250]) (pc' := 77) (lv' := [(0, .ref 66), (1, .int (nI w)), (2, .int (nI ls)), (3, .int (nI (2 * spN (sT V w ls) (lC V w)))), (4, .int (nI (2 * c))), (5, .int (nI (spA (sT V w ls) c (lC V w))))]) (st' := [.int ((sw (sr τ2 99 f) 99 (2 * c) (nI (PL V w (spA (sT V w ls) c (lC V w))))) 76 (nI (50 * w + spZ (sT V w ls) c (lC V w))).toNatClampNeg), .int (nI (2 * c + 1)), .ref 99]) (σ' := sw (sr τ2 99 f) 99 (2 * c) (nI (PL V w (spA (sT V w ls) c (lC V w))))) rfl (vp_in_nI (by omega) (by omega)) ?_
        rw [show ((sw (sr τ2 99 f) 99 (2 * c) (nI (PL V w (spA (sT V w ls) c (lC V w))))) 76 (nI (50 * w + spZ (sT V w ls) c (lC V w))).toNatClampNeg) = nI (PL V w (spZ (sT V w ls) c (lC V w))) from (by rw [nI_clamp (by omega), sw_ne _ _ _ (by decide), sr_n _ _ (by decide), (hR.1.2 _ hZ1).2])]
        refine rw_go hX [(77, .iastore)] (by decide +kernel) (Ps := [vp_in (nI (2 * c + 1)) 100]) (pc' := 78) (lv' := [(0, .ref 66), (1, .int (nI w)), (2, .int (nI ls)), (3, .int (nI (2 * spN (sT V w ls) (lC V w)))), (4, .int (nI (2 * c))), (5, .int (nI (spA (sT V w ls) c (lC V w))))]) (st' := []) (σ' := sw (sw (sr τ2 99 f) 99 (2 * c) (nI (PL V w (spA (sT V w ls) c (lC V w))))) 99 (nI (2 * c + 1)).toNatClampNeg (nI (PL V w (spZ (sT V w ls) c (lC V w))))) rfl (vp_in_nI (by omega) (by omega)) ?_
        rw [show (sw (sw (sr τ2 99 f) 99 (2 * c) (nI (PL V w (spA (sT V w ls) c (lC V w))))) 99 (nI (2 * c + 1)).toNatClampNeg (nI (PL V w (spZ (sT V w ls) c (lC V w))))) = sw (sw (sr τ2 99 f) 99 (2 * c) (nI (PL V w (spA (sT V w ls) c (lC V w))))) 99 (2 * c + 1) (nI (PL V w (spZ (sT V w ls) c (lC V w)))) from (by rw [nI_clamp (by omega)])]
        refine rw_go hX [(78, .iinc 4 2)] (by decide +kernel) (Ps := []) (pc' := 81) (lv' := [(0, .ref 66), (1, .int (nI w)), (2, .int (nI ls)), (3, .int (nI (2 * spN (sT V w ls) (lC V w)))), (4, .int (nI (2 * c) + nI 2)), (5, .int (nI (spA (sT V w ls) c (lC V w))))]) (st' := []) (σ' := sw (sw (sr τ2 99 f) 99 (2 * c) (nI (PL V w (spA (sT V w ls) c (lC V w))))) 99 (2 * c + 1) (nI (PL V w (spZ (sT V w ls) c (lC V w))))) rfl True.intro ?_
        rw [show (nI (2 * c) + nI 2) = nI (2 * c + 2) from nI_add _ _]
        refine rw_go hX [(81, .goto (-64))] (by decide +kernel) (Ps := []) (pc' := 17) (lv' := [(0, .ref 66), (1, .int (nI w)), (2, .int (nI ls)), (3, .int (nI (2 * spN (sT V w ls) (lC V w)))), (4, .int (nI (2 * c + 2))), (5, .int (nI (spA (sT V w ls) c (lC V w))))]) (st' := []) (σ' := sw (sw (sr τ2 99 f) 99 (2 * c) (nI (PL V w (spA (sT V w ls) c (lC V w))))) 99 (2 * c + 1) (nI (PL V w (spZ (sT V w ls) c (lC V w))))) rfl True.intro ?_
        refine rw_lsub (ks := [0, 1, 2, 3, 4]) (lv' := [(0, .ref 66), (1, .int (nI w)), (2, .int (nI ls)), (3, .int (nI (2 * spN (sT V w ls) (lC V w)))), (4, .int (nI (2 * c + 2)))]) rfl ?_
        rw [sw_sr, sw_sr]
        refine ih17 (spN (sT V w ls) (lC V w) - (c + 1)) (by omega) (c + 1) _ rfl (by omega) (fun j hj => ?_)
        by_cases e1 : j = 2 * c + 1
        · rw [e1, upd_s]
          unfold tPi
          rw [if_neg (by omega), show (2 * c + 1) / 2 = c by omega]
        · rw [upd_n _ _ e1]
          by_cases e2 : j = 2 * c
          · rw [e2, upd_s]
            unfold tPi
            rw [if_pos (by omega), show (2 * c) / 2 = c by omega]
          · rw [upd_n _ _ e2]
            exact hf j (by omega)
  refine rw_lsub (ks := [0, 1, 2, 3, 4]) (lv' := [(0, .ref 66), (1, .int (nI w)), (2, .int (nI ls)), (3, .int (nI (2 * spN (sT V w ls) (lC V w)))), (4, .int (nI 0))]) rfl ?_
  have q := L17 (spN (sT V w ls) (lC V w)) 0 (τ2 99) rfl (by omega) (fun j hj => by omega)
  rw [sr_id] at q
  exact q
set_option maxRecDepth 20000 in
set_option maxHeartbeats 800000 in
theorem m_otherwise_0 (l : Launch) (G : Gl) (σ : Mm) (V : Mm) (w ls n : Nat) (hV : vw σ 67 = V) (hv : wf V) (hw : w < 5) (hAN : AN V σ) (hls : ls ≤ 50) (h1 : 1 ≤ ls) (hn : σ 98 0 = nI n) (hn40 : n ≤ 40) : AMi l G 5 mX10_otherwise [.ref 66, .int (nI 0), .int (nI w), .int (nI ls)] σ (fun r σ' => FO (EqM V σ 0 w (sT V w ls)) (2 * spN (sT V w ls) (lC V w)) n r ∧ AN V σ' ∧ MQu σ σ') := by
  refine rw_inI 10 (by decide +kernel) rfl rfl ?_
  intro E hE hX
  subst hE
  have hsn := spN_50 (s := (sT V w ls)) (lC_50 hv hw)
  refine rw_go hX [(0, .aload_n 0), (1, .iload_n 2), (2, .iload_n 3)] (by decide +kernel) (Ps := []) (pc' := 3) (lv' := [(0, .ref 66), (1, .int (nI 0)), (2, .int (nI w)), (3, .int (nI ls))]) (st' := [.int (nI ls), .int (nI w), .ref 66]) (σ' := σ) rfl True.intro ?_
  refine rw_callVi hX (as := [.int (nI w), .int (nI ls)]) (rest := []) (m_shows _ _ _ V w ls hV hv hw hAN hls h1) (by decide +kernel) mvX10_shows lk10_295 (ci := 9) rfl rfl rfl (by decide) (Nat.le_of_ble_eq_true rfl) rfl ?_
  intro r1 τ2 hr
  obtain ⟨hr1, hSh, hAN2, hMq⟩ := hr
  rw [hr1]
  clear hr1 r1
  have h98 : τ2 98 0 = nI n := by rw [hMq.1 98 (by omega) (by omega) (by omega)]; exact hn
  have h93 : τ2 93 = σ 93 := hMq.1 93 (by omega) (by omega) (by omega)
  refine rw_go hX [(6, .istore 4), (8, .iconst 0), (9, .istore 5)] (by decide +kernel) (Ps := []) (pc' := 11) (lv' := [(0, .ref 66), (1, .int (nI 0)), (2, .int (nI w)), (3, .int (nI ls)), (4, .int (nI (2 * spN (sT V w ls) (lC V w)))), (5, .int (nI 0))]) (st' := []) (σ' := τ2) rfl True.intro ?_
  have L11 : ∀ (μ11 : Nat) (j : Nat), μ11 = (2 * spN (sT V w ls) (lC V w)) - j → (j ≤ (2 * spN (sT V w ls) (lC V w))) → (j ≤ n) → (∀ i, i < j → EqM V σ 0 w (sT V w ls) i) → RW E G 5 6 (QI E G (fun r σ' => FO (EqM V σ 0 w (sT V w ls)) (2 * spN (sT V w ls) (lC V w)) n r ∧ AN V σ' ∧ MQu σ σ')) 11 [(0, .ref 66), (1, .int (nI 0)), (2, .int (nI w)), (3, .int (nI ls)), (4, .int (nI (2 * spN (sT V w ls) (lC V w)))), (5, .int (nI j))] [] τ2 := by
    intro μ11
    induction μ11 using Nat.strongRecOn with
    | ind μ11 ih11 =>
      intro j hμ11 hj1 hj2 hE
      refine rw_go hX [(11, .iload 5), (13, .iload 4)] (by decide +kernel) (Ps := []) (pc' := 15) (lv' := [(0, .ref 66), (1, .int (nI 0)), (2, .int (nI w)), (3, .int (nI ls)), (4, .int (nI (2 * spN (sT V w ls) (lC V w)))), (5, .int (nI j))]) (st' := [.int (nI (2 * spN (sT V w ls) (lC V w))), .int (nI j)]) (σ' := τ2) rfl True.intro ?_
      refine rw_icmp hX (tgt := 57) (cnd := .ge) (off := 42) (by decide +kernel) (by decide) (fun h15 => ?_) (fun h15 => ?_)
      · replace h15 := c2_geT h15
        have ej : j = min (2 * spN (sT V w ls) (lC V w)) n := by omega
        refine rw_go hX [(57, .iload 4), (59, .aload_n 0), (60, .getfield 94), (63, .iload_n 1), (64, .iaload)] (by decide +kernel) (Ps := [vp_in (nI 0) 4]) (pc' := 65) (lv' := [(0, .ref 66), (1, .int (nI 0)), (2, .int (nI w)), (3, .int (nI ls)), (4, .int (nI (2 * spN (sT V w ls) (lC V w)))), (5, .int (nI j))]) (st' := [.int (τ2 98 (nI 0).toNatClampNeg), .int (nI (2 * spN (sT V w ls) (lC V w)))]) (σ' := τ2) rfl (vp_in_nI (by omega) (by omega)) ?_
        rw [show (τ2 98 (nI 0).toNatClampNeg) = nI n from (by rw [nI_clamp (by omega), h98])]
        refine rw_icmp hX (tgt := 72) (cnd := .ne) (off := 7) (by decide +kernel) (by decide) (fun h65 => ?_) (fun h65 => ?_)
        · replace h65 := c2_neT h65
          refine rw_go hX [(72, .iload 4), (74, .aload_n 0), (75, .getfield 94), (78, .iload_n 1), (79, .iaload)] (by decide +kernel) (Ps := [vp_in (nI 0) 4]) (pc' := 80) (lv' := [(0, .ref 66), (1, .int (nI 0)), (2, .int (nI w)), (3, .int (nI ls)), (4, .int (nI (2 * spN (sT V w ls) (lC V w)))), (5, .int (nI j))]) (st' := [.int (τ2 98 (nI 0).toNatClampNeg), .int (nI (2 * spN (sT V w ls) (lC V w)))]) (σ' := τ2) rfl (vp_in_nI (by omega) (by omega)) ?_
          rw [show (τ2 98 (nI 0).toNatClampNeg) = nI n from (by rw [nI_clamp (by omega), h98])]
          refine rw_min hX (by decide +kernel) lk10_195 (Nat.le_of_ble_eq_true rfl) ?_
          rw [show (if nI n < nI (2 * spN (sT V w ls) (lC V w)) then nI n else nI (2 * spN (sT V w ls) (lC V w))) = nI (min (2 * spN (sT V w ls) (lC V w)) n) from mn_min (by omega) (by omega)]
          exact rw_iret hX (by decide +kernel) (⟨by
  first
  | exact Or.inr ⟨rfl, by omega, fun i hi => hE i (by omega)⟩
  | exact Or.inl ⟨min (2 * spN (sT V w ls) (lC V w)) n, rfl, by omega, fun i hi => ⟨by omega, by omega, hE i (by omega)⟩, fun z1 z2 => by omega⟩, hAN2, hMq⟩)
        · replace h65 := c2_neF h65
          refine rw_go hX [(68, .iconst (-1)), (69, .goto 14)] (by decide +kernel) (Ps := []) (pc' := 83) (lv' := [(0, .ref 66), (1, .int (nI 0)), (2, .int (nI w)), (3, .int (nI ls)), (4, .int (nI (2 * spN (sT V w ls) (lC V w)))), (5, .int (nI j))]) (st' := [.int (-(nI 1))]) (σ' := τ2) rfl True.intro ?_
          exact rw_iret hX (by decide +kernel) (⟨by
  first
  | exact Or.inr ⟨rfl, by omega, fun i hi => hE i (by omega)⟩
  | exact Or.inl ⟨min (2 * spN (sT V w ls) (lC V w)) n, rfl, by omega, fun i hi => ⟨by omega, by omega, hE i (by omega)⟩, fun z1 z2 => by omega⟩, hAN2, hMq⟩)
      · replace h15 := c2_geF h15
        refine rw_go hX [(18, .iload 5), (20, .aload_n 0), (21, .getfield 94), (24, .iload_n 1), (25, .iaload)] (by decide +kernel) (Ps := [vp_in (nI 0) 4]) (pc' := 26) (lv' := [(0, .ref 66), (1, .int (nI 0)), (2, .int (nI w)), (3, .int (nI ls)), (4, .int (nI (2 * spN (sT V w ls) (lC V w)))), (5, .int (nI j))]) (st' := [.int (τ2 98 (nI 0).toNatClampNeg), .int (nI j)]) (σ' := τ2) rfl (vp_in_nI (by omega) (by omega)) ?_
        rw [show (τ2 98 (nI 0).toNatClampNeg) = nI n from (by rw [nI_clamp (by omega), h98])]
        refine rw_icmp hX (tgt := 57) (cnd := .ge) (off := 31) (by decide +kernel) (by decide) (fun h26 => ?_) (fun h26 => ?_)
        · replace h26 := c2_geT h26
          have ej : j = min (2 * spN (sT V w ls) (lC V w)) n := by omega
          refine rw_go hX [(57, .iload 4), (59, .aload_n 0), (60, .getfield 94), (63, .iload_n 1), (64, .iaload)] (by decide +kernel) (Ps := [vp_in (nI 0) 4]) (pc' := 65) (lv' := [(0, .ref 66), (1, .int (nI 0)), (2, .int (nI w)), (3, .int (nI ls)), (4, .int (nI (2 * spN (sT V w ls) (lC V w)))), (5, .int (nI j))]) (st' := [.int (τ2 98 (nI 0).toNatClampNeg), .int (nI (2 * spN (sT V w ls) (lC V w)))]) (σ' := τ2) rfl (vp_in_nI (by omega) (by omega)) ?_
          rw [show (τ2 98 (nI 0).toNatClampNeg) = nI n from (by rw [nI_clamp (by omega), h98])]
          refine rw_icmp hX (tgt := 72) (cnd := .ne) (off := 7) (by decide +kernel) (by decide) (fun h65 => ?_) (fun h65 => ?_)
          · replace h65 := c2_neT h65
            refine rw_go hX [(72, .iload 4), (74, .aload_n 0), (75, .getfield 94), (78, .iload_n 1), (79, .iaload)] (by decide +kernel) (Ps := [vp_in (nI 0) 4]) (pc' := 80) (lv' := [(0, .ref 66), (1, .int (nI 0)), (2, .int (nI w)), (3, .int (nI ls)), (4, .int (nI (2 * spN (sT V w ls) (lC V w)))), (5, .int (nI j))]) (st' := [.int (τ2 98 (nI 0).toNatClampNeg), .int (nI (2 * spN (sT V w ls) (lC V w)))]) (σ' := τ2) rfl (vp_in_nI (by omega) (by omega)) ?_
            rw [show (τ2 98 (nI 0).toNatClampNeg) = nI n from (by rw [nI_clamp (by omega), h98])]
            refine rw_min hX (by decide +kernel) lk10_195 (Nat.le_of_ble_eq_true rfl) ?_
            rw [show (if nI n < nI (2 * spN (sT V w ls) (lC V w)) then nI n else nI (2 * spN (sT V w ls) (lC V w))) = nI (min (2 * spN (sT V w ls) (lC V w)) n) from mn_min (by omega) (by omega)]
            exact rw_iret hX (by decide +kernel) (⟨by
  first
  | exact Or.inr ⟨rfl, by omega, fun i hi => hE i (by omega)⟩
  | exact Or.inl ⟨min (2 * spN (sT V w ls) (lC V w)) n, rfl, by omega, fun i hi => ⟨by omega, by omega, hE i (by omega)⟩, fun z1 z2 => by omega⟩, hAN2, hMq⟩)
          · replace h65 := c2_neF h65
            refine rw_go hX [(68, .iconst (-1)), (69, .goto 14)] (by decide +kernel) (Ps := []) (pc' := 83) (lv' := [(0, .ref 66), (1, .int (nI 0)), (2, .int (nI w)), (3, .int (nI ls)), (4, .int (nI (2 * spN (sT V w ls) (lC V w)))), (5, .int (nI j))]) (st' := [.int (-(nI 1))]) (σ' := τ2) rfl True.intro ?_
            exact rw_iret hX (by decide +kernel) (⟨by
  first
  | exact Or.inr ⟨rfl, by omega, fun i hi => hE i (by omega)⟩
  | exact Or.inl ⟨min (2 * spN (sT V w ls) (lC V w)) n, rfl, by omega, fun i hi => ⟨by omega, by omega, hE i (by omega)⟩, fun z1 z2 => by omega⟩, hAN2, hMq⟩)
        · replace h26 := c2_geF h26
          refine rw_go hX [(29, .aload_n 0), (30, .getfield 97), (33, .iload 5), (35, .iaload)] (by decide +kernel) (Ps := [vp_in (nI j) 100]) (pc' := 36) (lv' := [(0, .ref 66), (1, .int (nI 0)), (2, .int (nI w)), (3, .int (nI ls)), (4, .int (nI (2 * spN (sT V w ls) (lC V w)))), (5, .int (nI j))]) (st' := [.int (τ2 99 (nI j).toNatClampNeg)]) (σ' := τ2) rfl (vp_in_nI (by omega) (by omega)) ?_
          rw [show (τ2 99 (nI j).toNatClampNeg) = nI (PL V w (tPi (sT V w ls) (lC V w) j)) from (by rw [nI_clamp (by omega), hSh j (by omega)])]
          refine rw_go hX [(36, .aload_n 0), (37, .getfield 88), (40, .iload_n 1), (41, .aaload), (42, .iload 5), (44, .iaload)] (by decide +kernel) (Ps := [vp_in (nI 0) 4, vp_in (nI j) 40]) (pc' := 45) (lv' := [(0, .ref 66), (1, .int (nI 0)), (2, .int (nI w)), (3, .int (nI ls)), (4, .int (nI (2 * spN (sT V w ls) (lC V w)))), (5, .int (nI j))]) (st' := [.int (τ2 93 (nI j).toNatClampNeg), .int (nI (PL V w (tPi (sT V w ls) (lC V w) j)))]) (σ' := τ2) rfl (⟨vp_in_nI (by omega) (by omega), vp_in_nI (by omega) (by omega)⟩) ?_
          rw [show (τ2 93 (nI j).toNatClampNeg) = σ 93 j from (by rw [nI_clamp (by omega), h93])]
          refine rw_icmp hX (tgt := 51) (cnd := .eq) (off := 6) (by decide +kernel) (by decide) (fun h45 => ?_) (fun h45 => ?_)
          · replace h45 : (nI (PL V w (tPi (sT V w ls) (lC V w) j)) = σ 93 j) := h45
            refine rw_go hX [(51, .iinc 5 1)] (by decide +kernel) (Ps := []) (pc' := 54) (lv' := [(0, .ref 66), (1, .int (nI 0)), (2, .int (nI w)), (3, .int (nI ls)), (4, .int (nI (2 * spN (sT V w ls) (lC V w)))), (5, .int (nI j + nI 1))]) (st' := []) (σ' := τ2) rfl True.intro ?_
            rw [show (nI j + nI 1) = nI (j + 1) from nI_add _ _]
            refine rw_go hX [(54, .goto (-43))] (by decide +kernel) (Ps := []) (pc' := 11) (lv' := [(0, .ref 66), (1, .int (nI 0)), (2, .int (nI w)), (3, .int (nI ls)), (4, .int (nI (2 * spN (sT V w ls) (lC V w)))), (5, .int (nI (j + 1)))]) (st' := []) (σ' := τ2) rfl True.intro ?_
            refine rw_lsub (ks := [0, 1, 2, 3, 4, 5]) (lv' := [(0, .ref 66), (1, .int (nI 0)), (2, .int (nI w)), (3, .int (nI ls)), (4, .int (nI (2 * spN (sT V w ls) (lC V w)))), (5, .int (nI (j + 1)))]) rfl ?_
            refine ih11 ((2 * spN (sT V w ls) (lC V w)) - (j + 1)) (by omega) (j + 1) rfl (by omega) (by omega) (fun i hi => ?_)
            by_cases e : i = j
            · rw [e]; exact h45.symm
            · exact hE i (by omega)
          · replace h45 : ¬ (nI (PL V w (tPi (sT V w ls) (lC V w) j)) = σ 93 j) := h45
            refine rw_go hX [(48, .iload 5)] (by decide +kernel) (Ps := []) (pc' := 50) (lv' := [(0, .ref 66), (1, .int (nI 0)), (2, .int (nI w)), (3, .int (nI ls)), (4, .int (nI (2 * spN (sT V w ls) (lC V w)))), (5, .int (nI j))]) (st' := [.int (nI j)]) (σ' := τ2) rfl True.intro ?_
            exact rw_iret hX (by decide +kernel) (⟨Or.inl ⟨j, rfl, by omega, fun i hi => ⟨by omega, by omega, hE i hi⟩, fun _ _ z => h45 z.symm⟩, hAN2, hMq⟩)
  refine rw_lsub (ks := [0, 1, 2, 3, 4, 5]) (lv' := [(0, .ref 66), (1, .int (nI 0)), (2, .int (nI w)), (3, .int (nI ls)), (4, .int (nI (2 * spN (sT V w ls) (lC V w)))), (5, .int (nI 0))]) rfl ?_
  exact L11 (2 * spN (sT V w ls) (lC V w)) 0 rfl (by omega) (by omega) (fun i hi => by omega)
set_option maxRecDepth 20000 in
set_option maxHeartbeats 800000 in
theorem m_otherwise_1 (l : Launch) (G : Gl) (σ : Mm) (V : Mm) (w ls n : Nat) (hV : vw σ 67 = V) (hv : wf V) (hw : w < 5) (hAN : AN V σ) (hls : ls ≤ 50) (h1 : 1 ≤ ls) (hn : σ 98 1 = nI n) (hn40 : n ≤ 40) : AMi l G 5 mX10_otherwise [.ref 66, .int (nI 1), .int (nI w), .int (nI ls)] σ (fun r σ' => FO (EqM V σ 1 w (sT V w ls)) (2 * spN (sT V w ls) (lC V w)) n r ∧ AN V σ' ∧ MQu σ σ') := by
  refine rw_inI 10 (by decide +kernel) rfl rfl ?_
  intro E hE hX
  subst hE
  have hsn := spN_50 (s := (sT V w ls)) (lC_50 hv hw)
  refine rw_go hX [(0, .aload_n 0), (1, .iload_n 2), (2, .iload_n 3)] (by decide +kernel) (Ps := []) (pc' := 3) (lv' := [(0, .ref 66), (1, .int (nI 1)), (2, .int (nI w)), (3, .int (nI ls))]) (st' := [.int (nI ls), .int (nI w), .ref 66]) (σ' := σ) rfl True.intro ?_
  refine rw_callVi hX (as := [.int (nI w), .int (nI ls)]) (rest := []) (m_shows _ _ _ V w ls hV hv hw hAN hls h1) (by decide +kernel) mvX10_shows lk10_295 (ci := 9) rfl rfl rfl (by decide) (Nat.le_of_ble_eq_true rfl) rfl ?_
  intro r1 τ2 hr
  obtain ⟨hr1, hSh, hAN2, hMq⟩ := hr
  rw [hr1]
  clear hr1 r1
  have h98 : τ2 98 1 = nI n := by rw [hMq.1 98 (by omega) (by omega) (by omega)]; exact hn
  have h93 : τ2 94 = σ 94 := hMq.1 94 (by omega) (by omega) (by omega)
  refine rw_go hX [(6, .istore 4), (8, .iconst 0), (9, .istore 5)] (by decide +kernel) (Ps := []) (pc' := 11) (lv' := [(0, .ref 66), (1, .int (nI 1)), (2, .int (nI w)), (3, .int (nI ls)), (4, .int (nI (2 * spN (sT V w ls) (lC V w)))), (5, .int (nI 0))]) (st' := []) (σ' := τ2) rfl True.intro ?_
  have L11 : ∀ (μ11 : Nat) (j : Nat), μ11 = (2 * spN (sT V w ls) (lC V w)) - j → (j ≤ (2 * spN (sT V w ls) (lC V w))) → (j ≤ n) → (∀ i, i < j → EqM V σ 1 w (sT V w ls) i) → RW E G 5 6 (QI E G (fun r σ' => FO (EqM V σ 1 w (sT V w ls)) (2 * spN (sT V w ls) (lC V w)) n r ∧ AN V σ' ∧ MQu σ σ')) 11 [(0, .ref 66), (1, .int (nI 1)), (2, .int (nI w)), (3, .int (nI ls)), (4, .int (nI (2 * spN (sT V w ls) (lC V w)))), (5, .int (nI j))] [] τ2 := by
    intro μ11
    induction μ11 using Nat.strongRecOn with
    | ind μ11 ih11 =>
      intro j hμ11 hj1 hj2 hE
      refine rw_go hX [(11, .iload 5), (13, .iload 4)] (by decide +kernel) (Ps := []) (pc' := 15) (lv' := [(0, .ref 66), (1, .int (nI 1)), (2, .int (nI w)), (3, .int (nI ls)), (4, .int (nI (2 * spN (sT V w ls) (lC V w)))), (5, .int (nI j))]) (st' := [.int (nI (2 * spN (sT V w ls) (lC V w))), .int (nI j)]) (σ' := τ2) rfl True.intro ?_
      refine rw_icmp hX (tgt := 57) (cnd := .ge) (off := 42) (by decide +kernel) (by decide) (fun h15 => ?_) (fun h15 => ?_)
      · replace h15 := c2_geT h15
        have ej : j = min (2 * spN (sT V w ls) (lC V w)) n := by omega
        refine rw_go hX [(57, .iload 4), (59, .aload_n 0), (60, .getfield 94), (63, .iload_n 1), (64, .iaload)] (by decide +kernel) (Ps := [vp_in (nI 1) 4]) (pc' := 65) (lv' := [(0, .ref 66), (1, .int (nI 1)), (2, .int (nI w)), (3, .int (nI ls)), (4, .int (nI (2 * spN (sT V w ls) (lC V w)))), (5, .int (nI j))]) (st' := [.int (τ2 98 (nI 1).toNatClampNeg), .int (nI (2 * spN (sT V w ls) (lC V w)))]) (σ' := τ2) rfl (vp_in_nI (by omega) (by omega)) ?_
        rw [show (τ2 98 (nI 1).toNatClampNeg) = nI n from (by rw [nI_clamp (by omega), h98])]
        refine rw_icmp hX (tgt := 72) (cnd := .ne) (off := 7) (by decide +kernel) (by decide) (fun h65 => ?_) (fun h65 => ?_)
        · replace h65 := c2_neT h65
          refine rw_go hX [(72, .iload 4), (74, .aload_n 0), (75, .getfield 94), (78, .iload_n 1), (79, .iaload)] (by decide +kernel) (Ps := [vp_in (nI 1) 4]) (pc' := 80) (lv' := [(0, .ref 66), (1, .int (nI 1)), (2, .int (nI w)), (3, .int (nI ls)), (4, .int (nI (2 * spN (sT V w ls) (lC V w)))), (5, .int (nI j))]) (st' := [.int (τ2 98 (nI 1).toNatClampNeg), .int (nI (2 * spN (sT V w ls) (lC V w)))]) (σ' := τ2) rfl (vp_in_nI (by omega) (by omega)) ?_
          rw [show (τ2 98 (nI 1).toNatClampNeg) = nI n from (by rw [nI_clamp (by omega), h98])]
          refine rw_min hX (by decide +kernel) lk10_195 (Nat.le_of_ble_eq_true rfl) ?_
          rw [show (if nI n < nI (2 * spN (sT V w ls) (lC V w)) then nI n else nI (2 * spN (sT V w ls) (lC V w))) = nI (min (2 * spN (sT V w ls) (lC V w)) n) from mn_min (by omega) (by omega)]
          exact rw_iret hX (by decide +kernel) (⟨by
  first
  | exact Or.inr ⟨rfl, by omega, fun i hi => hE i (by omega)⟩
  | exact Or.inl ⟨min (2 * spN (sT V w ls) (lC V w)) n, rfl, by omega, fun i hi => ⟨by omega, by omega, hE i (by omega)⟩, fun z1 z2 => by omega⟩, hAN2, hMq⟩)
        · replace h65 := c2_neF h65
          refine rw_go hX [(68, .iconst (-1)), (69, .goto 14)] (by decide +kernel) (Ps := []) (pc' := 83) (lv' := [(0, .ref 66), (1, .int (nI 1)), (2, .int (nI w)), (3, .int (nI ls)), (4, .int (nI (2 * spN (sT V w ls) (lC V w)))), (5, .int (nI j))]) (st' := [.int (-(nI 1))]) (σ' := τ2) rfl True.intro ?_
          exact rw_iret hX (by decide +kernel) (⟨by
  first
  | exact Or.inr ⟨rfl, by omega, fun i hi => hE i (by omega)⟩
  | exact Or.inl ⟨min (2 * spN (sT V w ls) (lC V w)) n, rfl, by omega, fun i hi => ⟨by omega, by omega, hE i (by omega)⟩, fun z1 z2 => by omega⟩, hAN2, hMq⟩)
      · replace h15 := c2_geF h15
        refine rw_go hX [(18, .iload 5), (20, .aload_n 0), (21, .getfield 94), (24, .iload_n 1), (25, .iaload)] (by decide +kernel) (Ps := [vp_in (nI 1) 4]) (pc' := 26) (lv' := [(0, .ref 66), (1, .int (nI 1)), (2, .int (nI w)), (3, .int (nI ls)), (4, .int (nI (2 * spN (sT V w ls) (lC V w)))), (5, .int (nI j))]) (st' := [.int (τ2 98 (nI 1).toNatClampNeg), .int (nI j)]) (σ' := τ2) rfl (vp_in_nI (by omega) (by omega)) ?_
        rw [show (τ2 98 (nI 1).toNatClampNeg) = nI n from (by rw [nI_clamp (by omega), h98])]
        refine rw_icmp hX (tgt := 57) (cnd := .ge) (off := 31) (by decide +kernel) (by decide) (fun h26 => ?_) (fun h26 => ?_)
        · replace h26 := c2_geT h26
          have ej : j = min (2 * spN (sT V w ls) (lC V w)) n := by omega
          refine rw_go hX [(57, .iload 4), (59, .aload_n 0), (60, .getfield 94), (63, .iload_n 1), (64, .iaload)] (by decide +kernel) (Ps := [vp_in (nI 1) 4]) (pc' := 65) (lv' := [(0, .ref 66), (1, .int (nI 1)), (2, .int (nI w)), (3, .int (nI ls)), (4, .int (nI (2 * spN (sT V w ls) (lC V w)))), (5, .int (nI j))]) (st' := [.int (τ2 98 (nI 1).toNatClampNeg), .int (nI (2 * spN (sT V w ls) (lC V w)))]) (σ' := τ2) rfl (vp_in_nI (by omega) (by omega)) ?_
          rw [show (τ2 98 (nI 1).toNatClampNeg) = nI n from (by rw [nI_clamp (by omega), h98])]
          refine rw_icmp hX (tgt := 72) (cnd := .ne) (off := 7) (by decide +kernel) (by decide) (fun h65 => ?_) (fun h65 => ?_)
          · replace h65 := c2_neT h65
            refine rw_go hX [(72, .iload 4), (74, .aload_n 0), (75, .getfield 94), (78, .iload_n 1), (79, .iaload)] (by decide +kernel) (Ps := [vp_in (nI 1) 4]) (pc' := 80) (lv' := [(0, .ref 66), (1, .int (nI 1)), (2, .int (nI w)), (3, .int (nI ls)), (4, .int (nI (2 * spN (sT V w ls) (lC V w)))), (5, .int (nI j))]) (st' := [.int (τ2 98 (nI 1).toNatClampNeg), .int (nI (2 * spN (sT V w ls) (lC V w)))]) (σ' := τ2) rfl (vp_in_nI (by omega) (by omega)) ?_
            rw [show (τ2 98 (nI 1).toNatClampNeg) = nI n from (by rw [nI_clamp (by omega), h98])]
            refine rw_min hX (by decide +kernel) lk10_195 (Nat.le_of_ble_eq_true rfl) ?_
            rw [show (if nI n < nI (2 * spN (sT V w ls) (lC V w)) then nI n else nI (2 * spN (sT V w ls) (lC V w))) = nI (min (2 * spN (sT V w ls) (lC V w)) n) from mn_min (by omega) (by omega)]
            exact rw_iret hX (by decide +kernel) (⟨by
  first
  | exact Or.inr ⟨rfl, by omega, fun i hi => hE i (by omega)⟩
  | exact Or.inl ⟨min (2 * spN (sT V w ls) (lC V w)) n, rfl, by omega, fun i hi => ⟨by omega, by omega, hE i (by omega)⟩, fun z1 z2 => by omega⟩, hAN2, hMq⟩)
          · replace h65 := c2_neF h65
            refine rw_go hX [(68, .iconst (-1)), (69, .goto 14)] (by decide +kernel) (Ps := []) (pc' := 83) (lv' := [(0, .ref 66), (1, .int (nI 1)), (2, .int (nI w)), (3, .int (nI ls)), (4, .int (nI (2 * spN (sT V w ls) (lC V w)))), (5, .int (nI j))]) (st' := [.int (-(nI 1))]) (σ' := τ2) rfl True.intro ?_
            exact rw_iret hX (by decide +kernel) (⟨by
  first
  | exact Or.inr ⟨rfl, by omega, fun i hi => hE i (by omega)⟩
  | exact Or.inl ⟨min (2 * spN (sT V w ls) (lC V w)) n, rfl, by omega, fun i hi => ⟨by omega, by omega, hE i (by omega)⟩, fun z1 z2 => by omega⟩, hAN2, hMq⟩)
        · replace h26 := c2_geF h26
          refine rw_go hX [(29, .aload_n 0), (30, .getfield 97), (33, .iload 5), (35, .iaload)] (by decide +kernel) (Ps := [vp_in (nI j) 100]) (pc' := 36) (lv' := [(0, .ref 66), (1, .int (nI 1)), (2, .int (nI w)), (3, .int (nI ls)), (4, .int (nI (2 * spN (sT V w ls) (lC V w)))), (5, .int (nI j))]) (st' := [.int (τ2 99 (nI j).toNatClampNeg)]) (σ' := τ2) rfl (vp_in_nI (by omega) (by omega)) ?_
          rw [show (τ2 99 (nI j).toNatClampNeg) = nI (PL V w (tPi (sT V w ls) (lC V w) j)) from (by rw [nI_clamp (by omega), hSh j (by omega)])]
          refine rw_go hX [(36, .aload_n 0), (37, .getfield 88), (40, .iload_n 1), (41, .aaload), (42, .iload 5), (44, .iaload)] (by decide +kernel) (Ps := [vp_in (nI 1) 4, vp_in (nI j) 40]) (pc' := 45) (lv' := [(0, .ref 66), (1, .int (nI 1)), (2, .int (nI w)), (3, .int (nI ls)), (4, .int (nI (2 * spN (sT V w ls) (lC V w)))), (5, .int (nI j))]) (st' := [.int (τ2 94 (nI j).toNatClampNeg), .int (nI (PL V w (tPi (sT V w ls) (lC V w) j)))]) (σ' := τ2) rfl (⟨vp_in_nI (by omega) (by omega), vp_in_nI (by omega) (by omega)⟩) ?_
          rw [show (τ2 94 (nI j).toNatClampNeg) = σ 94 j from (by rw [nI_clamp (by omega), h93])]
          refine rw_icmp hX (tgt := 51) (cnd := .eq) (off := 6) (by decide +kernel) (by decide) (fun h45 => ?_) (fun h45 => ?_)
          · replace h45 : (nI (PL V w (tPi (sT V w ls) (lC V w) j)) = σ 94 j) := h45
            refine rw_go hX [(51, .iinc 5 1)] (by decide +kernel) (Ps := []) (pc' := 54) (lv' := [(0, .ref 66), (1, .int (nI 1)), (2, .int (nI w)), (3, .int (nI ls)), (4, .int (nI (2 * spN (sT V w ls) (lC V w)))), (5, .int (nI j + nI 1))]) (st' := []) (σ' := τ2) rfl True.intro ?_
            rw [show (nI j + nI 1) = nI (j + 1) from nI_add _ _]
            refine rw_go hX [(54, .goto (-43))] (by decide +kernel) (Ps := []) (pc' := 11) (lv' := [(0, .ref 66), (1, .int (nI 1)), (2, .int (nI w)), (3, .int (nI ls)), (4, .int (nI (2 * spN (sT V w ls) (lC V w)))), (5, .int (nI (j + 1)))]) (st' := []) (σ' := τ2) rfl True.intro ?_
            refine rw_lsub (ks := [0, 1, 2, 3, 4, 5]) (lv' := [(0, .ref 66), (1, .int (nI 1)), (2, .int (nI w)), (3, .int (nI ls)), (4, .int (nI (2 * spN (sT V w ls) (lC V w)))), (5, .int (nI (j + 1)))]) rfl ?_
            refine ih11 ((2 * spN (sT V w ls) (lC V w)) - (j + 1)) (by omega) (j + 1) rfl (by omega) (by omega) (fun i hi => ?_)
            by_cases e : i = j
            · rw [e]; exact h45.symm
            · exact hE i (by omega)
          · replace h45 : ¬ (nI (PL V w (tPi (sT V w ls) (lC V w) j)) = σ 94 j) := h45
            refine rw_go hX [(48, .iload 5)] (by decide +kernel) (Ps := []) (pc' := 50) (lv' := [(0, .ref 66), (1, .int (nI 1)), (2, .int (nI w)), (3, .int (nI ls)), (4, .int (nI (2 * spN (sT V w ls) (lC V w)))), (5, .int (nI j))]) (st' := [.int (nI j)]) (σ' := τ2) rfl True.intro ?_
            exact rw_iret hX (by decide +kernel) (⟨Or.inl ⟨j, rfl, by omega, fun i hi => ⟨by omega, by omega, hE i hi⟩, fun _ _ z => h45 z.symm⟩, hAN2, hMq⟩)
  refine rw_lsub (ks := [0, 1, 2, 3, 4, 5]) (lv' := [(0, .ref 66), (1, .int (nI 1)), (2, .int (nI w)), (3, .int (nI ls)), (4, .int (nI (2 * spN (sT V w ls) (lC V w)))), (5, .int (nI 0))]) rfl ?_
  exact L11 (2 * spN (sT V w ls) (lC V w)) 0 rfl (by omega) (by omega) (fun i hi => by omega)
set_option maxRecDepth 20000 in
set_option maxHeartbeats 800000 in
theorem m_otherwise_2 (l : Launch) (G : Gl) (σ : Mm) (V : Mm) (w ls n : Nat) (hV : vw σ 67 = V) (hv : wf V) (hw : w < 5) (hAN : AN V σ) (hls : ls ≤ 50) (h1 : 1 ≤ ls) (hn : σ 98 2 = nI n) (hn40 : n ≤ 40) : AMi l G 5 mX10_otherwise [.ref 66, .int (nI 2), .int (nI w), .int (nI ls)] σ (fun r σ' => FO (EqM V σ 2 w (sT V w ls)) (2 * spN (sT V w ls) (lC V w)) n r ∧ AN V σ' ∧ MQu σ σ') := by
  refine rw_inI 10 (by decide +kernel) rfl rfl ?_
  intro E hE hX
  subst hE
  have hsn := spN_50 (s := (sT V w ls)) (lC_50 hv hw)
  refine rw_go hX [(0, .aload_n 0), (1, .iload_n 2), (2, .iload_n 3)] (by decide +kernel) (Ps := []) (pc' := 3) (lv' := [(0, .ref 66), (1, .int (nI 2)), (2, .int (nI w)), (3, .int (nI ls))]) (st' := [.int (nI ls), .int (nI w), .ref 66]) (σ' := σ) rfl True.intro ?_
  refine rw_callVi hX (as := [.int (nI w), .int (nI ls)]) (rest := []) (m_shows _ _ _ V w ls hV hv hw hAN hls h1) (by decide +kernel) mvX10_shows lk10_295 (ci := 9) rfl rfl rfl (by decide) (Nat.le_of_ble_eq_true rfl) rfl ?_
  intro r1 τ2 hr
  obtain ⟨hr1, hSh, hAN2, hMq⟩ := hr
  rw [hr1]
  clear hr1 r1
  have h98 : τ2 98 2 = nI n := by rw [hMq.1 98 (by omega) (by omega) (by omega)]; exact hn
  have h93 : τ2 95 = σ 95 := hMq.1 95 (by omega) (by omega) (by omega)
  refine rw_go hX [(6, .istore 4), (8, .iconst 0), (9, .istore 5)] (by decide +kernel) (Ps := []) (pc' := 11) (lv' := [(0, .ref 66), (1, .int (nI 2)), (2, .int (nI w)), (3, .int (nI ls)), (4, .int (nI (2 * spN (sT V w ls) (lC V w)))), (5, .int (nI 0))]) (st' := []) (σ' := τ2) rfl True.intro ?_
  have L11 : ∀ (μ11 : Nat) (j : Nat), μ11 = (2 * spN (sT V w ls) (lC V w)) - j → (j ≤ (2 * spN (sT V w ls) (lC V w))) → (j ≤ n) → (∀ i, i < j → EqM V σ 2 w (sT V w ls) i) → RW E G 5 6 (QI E G (fun r σ' => FO (EqM V σ 2 w (sT V w ls)) (2 * spN (sT V w ls) (lC V w)) n r ∧ AN V σ' ∧ MQu σ σ')) 11 [(0, .ref 66), (1, .int (nI 2)), (2, .int (nI w)), (3, .int (nI ls)), (4, .int (nI (2 * spN (sT V w ls) (lC V w)))), (5, .int (nI j))] [] τ2 := by
    intro μ11
    induction μ11 using Nat.strongRecOn with
    | ind μ11 ih11 =>
      intro j hμ11 hj1 hj2 hE
      refine rw_go hX [(11, .iload 5), (13, .iload 4)] (by decide +kernel) (Ps := []) (pc' := 15) (lv' := [(0, .ref 66), (1, .int (nI 2)), (2, .int (nI w)), (3, .int (nI ls)), (4, .int (nI (2 * spN (sT V w ls) (lC V w)))), (5, .int (nI j))]) (st' := [.int (nI (2 * spN (sT V w ls) (lC V w))), .int (nI j)]) (σ' := τ2) rfl True.intro ?_
      refine rw_icmp hX (tgt := 57) (cnd := .ge) (off := 42) (by decide +kernel) (by decide) (fun h15 => ?_) (fun h15 => ?_)
      · replace h15 := c2_geT h15
        have ej : j = min (2 * spN (sT V w ls) (lC V w)) n := by omega
        refine rw_go hX [(57, .iload 4), (59, .aload_n 0), (60, .getfield 94), (63, .iload_n 1), (64, .iaload)] (by decide +kernel) (Ps := [vp_in (nI 2) 4]) (pc' := 65) (lv' := [(0, .ref 66), (1, .int (nI 2)), (2, .int (nI w)), (3, .int (nI ls)), (4, .int (nI (2 * spN (sT V w ls) (lC V w)))), (5, .int (nI j))]) (st' := [.int (τ2 98 (nI 2).toNatClampNeg), .int (nI (2 * spN (sT V w ls) (lC V w)))]) (σ' := τ2) rfl (vp_in_nI (by omega) (by omega)) ?_
        rw [show (τ2 98 (nI 2).toNatClampNeg) = nI n from (by rw [nI_clamp (by omega), h98])]
        refine rw_icmp hX (tgt := 72) (cnd := .ne) (off := 7) (by decide +kernel) (by decide) (fun h65 => ?_) (fun h65 => ?_)
        · replace h65 := c2_neT h65
          refine rw_go hX [(72, .iload 4), (74, .aload_n 0), (75, .getfield 94), (78, .iload_n 1), (79, .iaload)] (by decide +kernel) (Ps := [vp_in (nI 2) 4]) (pc' := 80) (lv' := [(0, .ref 66), (1, .int (nI 2)), (2, .int (nI w)), (3, .int (nI ls)), (4, .int (nI (2 * spN (sT V w ls) (lC V w)))), (5, .int (nI j))]) (st' := [.int (τ2 98 (nI 2).toNatClampNeg), .int (nI (2 * spN (sT V w ls) (lC V w)))]) (σ' := τ2) rfl (vp_in_nI (by omega) (by omega)) ?_
          rw [show (τ2 98 (nI 2).toNatClampNeg) = nI n from (by rw [nI_clamp (by omega), h98])]
          refine rw_min hX (by decide +kernel) lk10_195 (Nat.le_of_ble_eq_true rfl) ?_
          rw [show (if nI n < nI (2 * spN (sT V w ls) (lC V w)) then nI n else nI (2 * spN (sT V w ls) (lC V w))) = nI (min (2 * spN (sT V w ls) (lC V w)) n) from mn_min (by omega) (by omega)]
          exact rw_iret hX (by decide +kernel) (⟨by
  first
  | exact Or.inr ⟨rfl, by omega, fun i hi => hE i (by omega)⟩
  | exact Or.inl ⟨min (2 * spN (sT V w ls) (lC V w)) n, rfl, by omega, fun i hi => ⟨by omega, by omega, hE i (by omega)⟩, fun z1 z2 => by omega⟩, hAN2, hMq⟩)
        · replace h65 := c2_neF h65
          refine rw_go hX [(68, .iconst (-1)), (69, .goto 14)] (by decide +kernel) (Ps := []) (pc' := 83) (lv' := [(0, .ref 66), (1, .int (nI 2)), (2, .int (nI w)), (3, .int (nI ls)), (4, .int (nI (2 * spN (sT V w ls) (lC V w)))), (5, .int (nI j))]) (st' := [.int (-(nI 1))]) (σ' := τ2) rfl True.intro ?_
          exact rw_iret hX (by decide +kernel) (⟨by
  first
  | exact Or.inr ⟨rfl, by omega, fun i hi => hE i (by omega)⟩
  | exact Or.inl ⟨min (2 * spN (sT V w ls) (lC V w)) n, rfl, by omega, fun i hi => ⟨by omega, by omega, hE i (by omega)⟩, fun z1 z2 => by omega⟩, hAN2, hMq⟩)
      · replace h15 := c2_geF h15
        refine rw_go hX [(18, .iload 5), (20, .aload_n 0), (21, .getfield 94), (24, .iload_n 1), (25, .iaload)] (by decide +kernel) (Ps := [vp_in (nI 2) 4]) (pc' := 26) (lv' := [(0, .ref 66), (1, .int (nI 2)), (2, .int (nI w)), (3, .int (nI ls)), (4, .int (nI (2 * spN (sT V w ls) (lC V w)))), (5, .int (nI j))]) (st' := [.int (τ2 98 (nI 2).toNatClampNeg), .int (nI j)]) (σ' := τ2) rfl (vp_in_nI (by omega) (by omega)) ?_
        rw [show (τ2 98 (nI 2).toNatClampNeg) = nI n from (by rw [nI_clamp (by omega), h98])]
        refine rw_icmp hX (tgt := 57) (cnd := .ge) (off := 31) (by decide +kernel) (by decide) (fun h26 => ?_) (fun h26 => ?_)
        · replace h26 := c2_geT h26
          have ej : j = min (2 * spN (sT V w ls) (lC V w)) n := by omega
          refine rw_go hX [(57, .iload 4), (59, .aload_n 0), (60, .getfield 94), (63, .iload_n 1), (64, .iaload)] (by decide +kernel) (Ps := [vp_in (nI 2) 4]) (pc' := 65) (lv' := [(0, .ref 66), (1, .int (nI 2)), (2, .int (nI w)), (3, .int (nI ls)), (4, .int (nI (2 * spN (sT V w ls) (lC V w)))), (5, .int (nI j))]) (st' := [.int (τ2 98 (nI 2).toNatClampNeg), .int (nI (2 * spN (sT V w ls) (lC V w)))]) (σ' := τ2) rfl (vp_in_nI (by omega) (by omega)) ?_
          rw [show (τ2 98 (nI 2).toNatClampNeg) = nI n from (by rw [nI_clamp (by omega), h98])]
          refine rw_icmp hX (tgt := 72) (cnd := .ne) (off := 7) (by decide +kernel) (by decide) (fun h65 => ?_) (fun h65 => ?_)
          · replace h65 := c2_neT h65
            refine rw_go hX [(72, .iload 4), (74, .aload_n 0), (75, .getfield 94), (78, .iload_n 1), (79, .iaload)] (by decide +kernel) (Ps := [vp_in (nI 2) 4]) (pc' := 80) (lv' := [(0, .ref 66), (1, .int (nI 2)), (2, .int (nI w)), (3, .int (nI ls)), (4, .int (nI (2 * spN (sT V w ls) (lC V w)))), (5, .int (nI j))]) (st' := [.int (τ2 98 (nI 2).toNatClampNeg), .int (nI (2 * spN (sT V w ls) (lC V w)))]) (σ' := τ2) rfl (vp_in_nI (by omega) (by omega)) ?_
            rw [show (τ2 98 (nI 2).toNatClampNeg) = nI n from (by rw [nI_clamp (by omega), h98])]
            refine rw_min hX (by decide +kernel) lk10_195 (Nat.le_of_ble_eq_true rfl) ?_
            rw [show (if nI n < nI (2 * spN (sT V w ls) (lC V w)) then nI n else nI (2 * spN (sT V w ls) (lC V w))) = nI (min (2 * spN (sT V w ls) (lC V w)) n) from mn_min (by omega) (by omega)]
            exact rw_iret hX (by decide +kernel) (⟨by
  first
  | exact Or.inr ⟨rfl, by omega, fun i hi => hE i (by omega)⟩
  | exact Or.inl ⟨min (2 * spN (sT V w ls) (lC V w)) n, rfl, by omega, fun i hi => ⟨by omega, by omega, hE i (by omega)⟩, fun z1 z2 => by omega⟩, hAN2, hMq⟩)
          · replace h65 := c2_neF h65
            refine rw_go hX [(68, .iconst (-1)), (69, .goto 14)] (by decide +kernel) (Ps := []) (pc' := 83) (lv' := [(0, .ref 66), (1, .int (nI 2)), (2, .int (nI w)), (3, .int (nI ls)), (4, .int (nI (2 * spN (sT V w ls) (lC V w)))), (5, .int (nI j))]) (st' := [.int (-(nI 1))]) (σ' := τ2) rfl True.intro ?_
            exact rw_iret hX (by decide +kernel) (⟨by
  first
  | exact Or.inr ⟨rfl, by omega, fun i hi => hE i (by omega)⟩
  | exact Or.inl ⟨min (2 * spN (sT V w ls) (lC V w)) n, rfl, by omega, fun i hi => ⟨by omega, by omega, hE i (by omega)⟩, fun z1 z2 => by omega⟩, hAN2, hMq⟩)
        · replace h26 := c2_geF h26
          refine rw_go hX [(29, .aload_n 0), (30, .getfield 97), (33, .iload 5), (35, .iaload)] (by decide +kernel) (Ps := [vp_in (nI j) 100]) (pc' := 36) (lv' := [(0, .ref 66), (1, .int (nI 2)), (2, .int (nI w)), (3, .int (nI ls)), (4, .int (nI (2 * spN (sT V w ls) (lC V w)))), (5, .int (nI j))]) (st' := [.int (τ2 99 (nI j).toNatClampNeg)]) (σ' := τ2) rfl (vp_in_nI (by omega) (by omega)) ?_
          rw [show (τ2 99 (nI j).toNatClampNeg) = nI (PL V w (tPi (sT V w ls) (lC V w) j)) from (by rw [nI_clamp (by omega), hSh j (by omega)])]
          refine rw_go hX [(36, .aload_n 0), (37, .getfield 88), (40, .iload_n 1), (41, .aaload), (42, .iload 5), (44, .iaload)] (by decide +kernel) (Ps := [vp_in (nI 2) 4, vp_in (nI j) 40]) (pc' := 45) (lv' := [(0, .ref 66), (1, .int (nI 2)), (2, .int (nI w)), (3, .int (nI ls)), (4, .int (nI (2 * spN (sT V w ls) (lC V w)))), (5, .int (nI j))]) (st' := [.int (τ2 95 (nI j).toNatClampNeg), .int (nI (PL V w (tPi (sT V w ls) (lC V w) j)))]) (σ' := τ2) rfl (⟨vp_in_nI (by omega) (by omega), vp_in_nI (by omega) (by omega)⟩) ?_
          rw [show (τ2 95 (nI j).toNatClampNeg) = σ 95 j from (by rw [nI_clamp (by omega), h93])]
          refine rw_icmp hX (tgt := 51) (cnd := .eq) (off := 6) (by decide +kernel) (by decide) (fun h45 => ?_) (fun h45 => ?_)
          · replace h45 : (nI (PL V w (tPi (sT V w ls) (lC V w) j)) = σ 95 j) := h45
            refine rw_go hX [(51, .iinc 5 1)] (by decide +kernel) (Ps := []) (pc' := 54) (lv' := [(0, .ref 66), (1, .int (nI 2)), (2, .int (nI w)), (3, .int (nI ls)), (4, .int (nI (2 * spN (sT V w ls) (lC V w)))), (5, .int (nI j + nI 1))]) (st' := []) (σ' := τ2) rfl True.intro ?_
            rw [show (nI j + nI 1) = nI (j + 1) from nI_add _ _]
            refine rw_go hX [(54, .goto (-43))] (by decide +kernel) (Ps := []) (pc' := 11) (lv' := [(0, .ref 66), (1, .int (nI 2)), (2, .int (nI w)), (3, .int (nI ls)), (4, .int (nI (2 * spN (sT V w ls) (lC V w)))), (5, .int (nI (j + 1)))]) (st' := []) (σ' := τ2) rfl True.intro ?_
            refine rw_lsub (ks := [0, 1, 2, 3, 4, 5]) (lv' := [(0, .ref 66), (1, .int (nI 2)), (2, .int (nI w)), (3, .int (nI ls)), (4, .int (nI (2 * spN (sT V w ls) (lC V w)))), (5, .int (nI (j + 1)))]) rfl ?_
            refine ih11 ((2 * spN (sT V w ls) (lC V w)) - (j + 1)) (by omega) (j + 1) rfl (by omega) (by omega) (fun i hi => ?_)
            by_cases e : i = j
            · rw [e]; exact h45.symm
            · exact hE i (by omega)
          · replace h45 : ¬ (nI (PL V w (tPi (sT V w ls) (lC V w) j)) = σ 95 j) := h45
            refine rw_go hX [(48, .iload 5)] (by decide +kernel) (Ps := []) (pc' := 50) (lv' := [(0, .ref 66), (1, .int (nI 2)), (2, .int (nI w)), (3, .int (nI ls)), (4, .int (nI (2 * spN (sT V w ls) (lC V w)))), (5, .int (nI j))]) (st' := [.int (nI j)]) (σ' := τ2) rfl True.intro ?_
            exact rw_iret hX (by decide +kernel) (⟨Or.inl ⟨j, rfl, by omega, fun i hi => ⟨by omega, by omega, hE i hi⟩, fun _ _ z => h45 z.symm⟩, hAN2, hMq⟩)
  refine rw_lsub (ks := [0, 1, 2, 3, 4, 5]) (lv' := [(0, .ref 66), (1, .int (nI 2)), (2, .int (nI w)), (3, .int (nI ls)), (4, .int (nI (2 * spN (sT V w ls) (lC V w)))), (5, .int (nI 0))]) rfl ?_
  exact L11 (2 * spN (sT V w ls) (lC V w)) 0 rfl (by omega) (by omega) (fun i hi => by omega)
set_option maxRecDepth 20000 in
set_option maxHeartbeats 800000 in
theorem m_otherwise_3 (l : Launch) (G : Gl) (σ : Mm) (V : Mm) (w ls n : Nat) (hV : vw σ 67 = V) (hv : wf V) (hw : w < 5) (hAN : AN V σ) (hls : ls ≤ 50) (h1 : 1 ≤ ls) (hn : σ 98 3 = nI n) (hn40 : n ≤ 40) : AMi l G 5 mX10_otherwise [.ref 66, .int (nI 3), .int (nI w), .int (nI ls)] σ (fun r σ' => FO (EqM V σ 3 w (sT V w ls)) (2 * spN (sT V w ls) (lC V w)) n r ∧ AN V σ' ∧ MQu σ σ') := by
  refine rw_inI 10 (by decide +kernel) rfl rfl ?_
  intro E hE hX
  subst hE
  have hsn := spN_50 (s := (sT V w ls)) (lC_50 hv hw)
  refine rw_go hX [(0, .aload_n 0), (1, .iload_n 2), (2, .iload_n 3)] (by decide +kernel) (Ps := []) (pc' := 3) (lv' := [(0, .ref 66), (1, .int (nI 3)), (2, .int (nI w)), (3, .int (nI ls))]) (st' := [.int (nI ls), .int (nI w), .ref 66]) (σ' := σ) rfl True.intro ?_
  refine rw_callVi hX (as := [.int (nI w), .int (nI ls)]) (rest := []) (m_shows _ _ _ V w ls hV hv hw hAN hls h1) (by decide +kernel) mvX10_shows lk10_295 (ci := 9) rfl rfl rfl (by decide) (Nat.le_of_ble_eq_true rfl) rfl ?_
  intro r1 τ2 hr
  obtain ⟨hr1, hSh, hAN2, hMq⟩ := hr
  rw [hr1]
  clear hr1 r1
  have h98 : τ2 98 3 = nI n := by rw [hMq.1 98 (by omega) (by omega) (by omega)]; exact hn
  have h93 : τ2 96 = σ 96 := hMq.1 96 (by omega) (by omega) (by omega)
  refine rw_go hX [(6, .istore 4), (8, .iconst 0), (9, .istore 5)] (by decide +kernel) (Ps := []) (pc' := 11) (lv' := [(0, .ref 66), (1, .int (nI 3)), (2, .int (nI w)), (3, .int (nI ls)), (4, .int (nI (2 * spN (sT V w ls) (lC V w)))), (5, .int (nI 0))]) (st' := []) (σ' := τ2) rfl True.intro ?_
  have L11 : ∀ (μ11 : Nat) (j : Nat), μ11 = (2 * spN (sT V w ls) (lC V w)) - j → (j ≤ (2 * spN (sT V w ls) (lC V w))) → (j ≤ n) → (∀ i, i < j → EqM V σ 3 w (sT V w ls) i) → RW E G 5 6 (QI E G (fun r σ' => FO (EqM V σ 3 w (sT V w ls)) (2 * spN (sT V w ls) (lC V w)) n r ∧ AN V σ' ∧ MQu σ σ')) 11 [(0, .ref 66), (1, .int (nI 3)), (2, .int (nI w)), (3, .int (nI ls)), (4, .int (nI (2 * spN (sT V w ls) (lC V w)))), (5, .int (nI j))] [] τ2 := by
    intro μ11
    induction μ11 using Nat.strongRecOn with
    | ind μ11 ih11 =>
      intro j hμ11 hj1 hj2 hE
      refine rw_go hX [(11, .iload 5), (13, .iload 4)] (by decide +kernel) (Ps := []) (pc' := 15) (lv' := [(0, .ref 66), (1, .int (nI 3)), (2, .int (nI w)), (3, .int (nI ls)), (4, .int (nI (2 * spN (sT V w ls) (lC V w)))), (5, .int (nI j))]) (st' := [.int (nI (2 * spN (sT V w ls) (lC V w))), .int (nI j)]) (σ' := τ2) rfl True.intro ?_
      refine rw_icmp hX (tgt := 57) (cnd := .ge) (off := 42) (by decide +kernel) (by decide) (fun h15 => ?_) (fun h15 => ?_)
      · replace h15 := c2_geT h15
        have ej : j = min (2 * spN (sT V w ls) (lC V w)) n := by omega
        refine rw_go hX [(57, .iload 4), (59, .aload_n 0), (60, .getfield 94), (63, .iload_n 1), (64, .iaload)] (by decide +kernel) (Ps := [vp_in (nI 3) 4]) (pc' := 65) (lv' := [(0, .ref 66), (1, .int (nI 3)), (2, .int (nI w)), (3, .int (nI ls)), (4, .int (nI (2 * spN (sT V w ls) (lC V w)))), (5, .int (nI j))]) (st' := [.int (τ2 98 (nI 3).toNatClampNeg), .int (nI (2 * spN (sT V w ls) (lC V w)))]) (σ' := τ2) rfl (vp_in_nI (by omega) (by omega)) ?_
        rw [show (τ2 98 (nI 3).toNatClampNeg) = nI n from (by rw [nI_clamp (by omega), h98])]
        refine rw_icmp hX (tgt := 72) (cnd := .ne) (off := 7) (by decide +kernel) (by decide) (fun h65 => ?_) (fun h65 => ?_)
        · replace h65 := c2_neT h65
          refine rw_go hX [(72, .iload 4), (74, .aload_n 0), (75, .getfield 94), (78, .iload_n 1), (79, .iaload)] (by decide +kernel) (Ps := [vp_in (nI 3) 4]) (pc' := 80) (lv' := [(0, .ref 66), (1, .int (nI 3)), (2, .int (nI w)), (3, .int (nI ls)), (4, .int (nI (2 * spN (sT V w ls) (lC V w)))), (5, .int (nI j))]) (st' := [.int (τ2 98 (nI 3).toNatClampNeg), .int (nI (2 * spN (sT V w ls) (lC V w)))]) (σ' := τ2) rfl (vp_in_nI (by omega) (by omega)) ?_
          rw [show (τ2 98 (nI 3).toNatClampNeg) = nI n from (by rw [nI_clamp (by omega), h98])]
          refine rw_min hX (by decide +kernel) lk10_195 (Nat.le_of_ble_eq_true rfl) ?_
          rw [show (if nI n < nI (2 * spN (sT V w ls) (lC V w)) then nI n else nI (2 * spN (sT V w ls) (lC V w))) = nI (min (2 * spN (sT V w ls) (lC V w)) n) from mn_min (by omega) (by omega)]
          exact rw_iret hX (by decide +kernel) (⟨by
  first
  | exact Or.inr ⟨rfl, by omega, fun i hi => hE i (by omega)⟩
  | exact Or.inl ⟨min (2 * spN (sT V w ls) (lC V w)) n, rfl, by omega, fun i hi => ⟨by omega, by omega, hE i (by omega)⟩, fun z1 z2 => by omega⟩, hAN2, hMq⟩)
        · replace h65 := c2_neF h65
          refine rw_go hX [(68, .iconst (-1)), (69, .goto 14)] (by decide +kernel) (Ps := []) (pc' := 83) (lv' := [(0, .ref 66), (1, .int (nI 3)), (2, .int (nI w)), (3, .int (nI ls)), (4, .int (nI (2 * spN (sT V w ls) (lC V w)))), (5, .int (nI j))]) (st' := [.int (-(nI 1))]) (σ' := τ2) rfl True.intro ?_
          exact rw_iret hX (by decide +kernel) (⟨by
  first
  | exact Or.inr ⟨rfl, by omega, fun i hi => hE i (by omega)⟩
  | exact Or.inl ⟨min (2 * spN (sT V w ls) (lC V w)) n, rfl, by omega, fun i hi => ⟨by omega, by omega, hE i (by omega)⟩, fun z1 z2 => by omega⟩, hAN2, hMq⟩)
      · replace h15 := c2_geF h15
        refine rw_go hX [(18, .iload 5), (20, .aload_n 0), (21, .getfield 94), (24, .iload_n 1), (25, .iaload)] (by decide +kernel) (Ps := [vp_in (nI 3) 4]) (pc' := 26) (lv' := [(0, .ref 66), (1, .int (nI 3)), (2, .int (nI w)), (3, .int (nI ls)), (4, .int (nI (2 * spN (sT V w ls) (lC V w)))), (5, .int (nI j))]) (st' := [.int (τ2 98 (nI 3).toNatClampNeg), .int (nI j)]) (σ' := τ2) rfl (vp_in_nI (by omega) (by omega)) ?_
        rw [show (τ2 98 (nI 3).toNatClampNeg) = nI n from (by rw [nI_clamp (by omega), h98])]
        refine rw_icmp hX (tgt := 57) (cnd := .ge) (off := 31) (by decide +kernel) (by decide) (fun h26 => ?_) (fun h26 => ?_)
        · replace h26 := c2_geT h26
          have ej : j = min (2 * spN (sT V w ls) (lC V w)) n := by omega
          refine rw_go hX [(57, .iload 4), (59, .aload_n 0), (60, .getfield 94), (63, .iload_n 1), (64, .iaload)] (by decide +kernel) (Ps := [vp_in (nI 3) 4]) (pc' := 65) (lv' := [(0, .ref 66), (1, .int (nI 3)), (2, .int (nI w)), (3, .int (nI ls)), (4, .int (nI (2 * spN (sT V w ls) (lC V w)))), (5, .int (nI j))]) (st' := [.int (τ2 98 (nI 3).toNatClampNeg), .int (nI (2 * spN (sT V w ls) (lC V w)))]) (σ' := τ2) rfl (vp_in_nI (by omega) (by omega)) ?_
          rw [show (τ2 98 (nI 3).toNatClampNeg) = nI n from (by rw [nI_clamp (by omega), h98])]
          refine rw_icmp hX (tgt := 72) (cnd := .ne) (off := 7) (by decide +kernel) (by decide) (fun h65 => ?_) (fun h65 => ?_)
          · replace h65 := c2_neT h65
            refine rw_go hX [(72, .iload 4), (74, .aload_n 0), (75, .getfield 94), (78, .iload_n 1), (79, .iaload)] (by decide +kernel) (Ps := [vp_in (nI 3) 4]) (pc' := 80) (lv' := [(0, .ref 66), (1, .int (nI 3)), (2, .int (nI w)), (3, .int (nI ls)), (4, .int (nI (2 * spN (sT V w ls) (lC V w)))), (5, .int (nI j))]) (st' := [.int (τ2 98 (nI 3).toNatClampNeg), .int (nI (2 * spN (sT V w ls) (lC V w)))]) (σ' := τ2) rfl (vp_in_nI (by omega) (by omega)) ?_
            rw [show (τ2 98 (nI 3).toNatClampNeg) = nI n from (by rw [nI_clamp (by omega), h98])]
            refine rw_min hX (by decide +kernel) lk10_195 (Nat.le_of_ble_eq_true rfl) ?_
            rw [show (if nI n < nI (2 * spN (sT V w ls) (lC V w)) then nI n else nI (2 * spN (sT V w ls) (lC V w))) = nI (min (2 * spN (sT V w ls) (lC V w)) n) from mn_min (by omega) (by omega)]
            exact rw_iret hX (by decide +kernel) (⟨by
  first
  | exact Or.inr ⟨rfl, by omega, fun i hi => hE i (by omega)⟩
  | exact Or.inl ⟨min (2 * spN (sT V w ls) (lC V w)) n, rfl, by omega, fun i hi => ⟨by omega, by omega, hE i (by omega)⟩, fun z1 z2 => by omega⟩, hAN2, hMq⟩)
          · replace h65 := c2_neF h65
            refine rw_go hX [(68, .iconst (-1)), (69, .goto 14)] (by decide +kernel) (Ps := []) (pc' := 83) (lv' := [(0, .ref 66), (1, .int (nI 3)), (2, .int (nI w)), (3, .int (nI ls)), (4, .int (nI (2 * spN (sT V w ls) (lC V w)))), (5, .int (nI j))]) (st' := [.int (-(nI 1))]) (σ' := τ2) rfl True.intro ?_
            exact rw_iret hX (by decide +kernel) (⟨by
  first
  | exact Or.inr ⟨rfl, by omega, fun i hi => hE i (by omega)⟩
  | exact Or.inl ⟨min (2 * spN (sT V w ls) (lC V w)) n, rfl, by omega, fun i hi => ⟨by omega, by omega, hE i (by omega)⟩, fun z1 z2 => by omega⟩, hAN2, hMq⟩)
        · replace h26 := c2_geF h26
          refine rw_go hX [(29, .aload_n 0), (30, .getfield 97), (33, .iload 5), (35, .iaload)] (by decide +kernel) (Ps := [vp_in (nI j) 100]) (pc' := 36) (lv' := [(0, .ref 66), (1, .int (nI 3)), (2, .int (nI w)), (3, .int (nI ls)), (4, .int (nI (2 * spN (sT V w ls) (lC V w)))), (5, .int (nI j))]) (st' := [.int (τ2 99 (nI j).toNatClampNeg)]) (σ' := τ2) rfl (vp_in_nI (by omega) (by omega)) ?_
          rw [show (τ2 99 (nI j).toNatClampNeg) = nI (PL V w (tPi (sT V w ls) (lC V w) j)) from (by rw [nI_clamp (by omega), hSh j (by omega)])]
          refine rw_go hX [(36, .aload_n 0), (37, .getfield 88), (40, .iload_n 1), (41, .aaload), (42, .iload 5), (44, .iaload)] (by decide +kernel) (Ps := [vp_in (nI 3) 4, vp_in (nI j) 40]) (pc' := 45) (lv' := [(0, .ref 66), (1, .int (nI 3)), (2, .int (nI w)), (3, .int (nI ls)), (4, .int (nI (2 * spN (sT V w ls) (lC V w)))), (5, .int (nI j))]) (st' := [.int (τ2 96 (nI j).toNatClampNeg), .int (nI (PL V w (tPi (sT V w ls) (lC V w) j)))]) (σ' := τ2) rfl (⟨vp_in_nI (by omega) (by omega), vp_in_nI (by omega) (by omega)⟩) ?_
          rw [show (τ2 96 (nI j).toNatClampNeg) = σ 96 j from (by rw [nI_clamp (by omega), h93])]
          refine rw_icmp hX (tgt := 51) (cnd := .eq) (off := 6) (by decide +kernel) (by decide) (fun h45 => ?_) (fun h45 => ?_)
          · replace h45 : (nI (PL V w (tPi (sT V w ls) (lC V w) j)) = σ 96 j) := h45
            refine rw_go hX [(51, .iinc 5 1)] (by decide +kernel) (Ps := []) (pc' := 54) (lv' := [(0, .ref 66), (1, .int (nI 3)), (2, .int (nI w)), (3, .int (nI ls)), (4, .int (nI (2 * spN (sT V w ls) (lC V w)))), (5, .int (nI j + nI 1))]) (st' := []) (σ' := τ2) rfl True.intro ?_
            rw [show (nI j + nI 1) = nI (j + 1) from nI_add _ _]
            refine rw_go hX [(54, .goto (-43))] (by decide +kernel) (Ps := []) (pc' := 11) (lv' := [(0, .ref 66), (1, .int (nI 3)), (2, .int (nI w)), (3, .int (nI ls)), (4, .int (nI (2 * spN (sT V w ls) (lC V w)))), (5, .int (nI (j + 1)))]) (st' := []) (σ' := τ2) rfl True.intro ?_
            refine rw_lsub (ks := [0, 1, 2, 3, 4, 5]) (lv' := [(0, .ref 66), (1, .int (nI 3)), (2, .int (nI w)), (3, .int (nI ls)), (4, .int (nI (2 * spN (sT V w ls) (lC V w)))), (5, .int (nI (j + 1)))]) rfl ?_
            refine ih11 ((2 * spN (sT V w ls) (lC V w)) - (j + 1)) (by omega) (j + 1) rfl (by omega) (by omega) (fun i hi => ?_)
            by_cases e : i = j
            · rw [e]; exact h45.symm
            · exact hE i (by omega)
          · replace h45 : ¬ (nI (PL V w (tPi (sT V w ls) (lC V w) j)) = σ 96 j) := h45
            refine rw_go hX [(48, .iload 5)] (by decide +kernel) (Ps := []) (pc' := 50) (lv' := [(0, .ref 66), (1, .int (nI 3)), (2, .int (nI w)), (3, .int (nI ls)), (4, .int (nI (2 * spN (sT V w ls) (lC V w)))), (5, .int (nI j))]) (st' := [.int (nI j)]) (σ' := τ2) rfl True.intro ?_
            exact rw_iret hX (by decide +kernel) (⟨Or.inl ⟨j, rfl, by omega, fun i hi => ⟨by omega, by omega, hE i hi⟩, fun _ _ z => h45 z.symm⟩, hAN2, hMq⟩)
  refine rw_lsub (ks := [0, 1, 2, 3, 4, 5]) (lv' := [(0, .ref 66), (1, .int (nI 3)), (2, .int (nI w)), (3, .int (nI ls)), (4, .int (nI (2 * spN (sT V w ls) (lC V w)))), (5, .int (nI 0))]) rfl ?_
  exact L11 (2 * spN (sT V w ls) (lC V w)) 0 rfl (by omega) (by omega) (fun i hi => by omega)
theorem m_otherwise (l : Launch) (G : Gl) (σ V : Mm) (s w ls n : Nat) (hs : s < 4) (hV : vw σ 67 = V) (hv : wf V) (hw : w < 5) (hAN : AN V σ) (hls : ls ≤ 50) (h1 : 1 ≤ ls) (hn : σ 98 s = nI n) (hn40 : n ≤ 40) : AMi l G 5 mX10_otherwise [.ref 66, .int (nI s), .int (nI w), .int (nI ls)] σ (fun r σ' => FO (EqM V σ s w (sT V w ls)) (2 * spN (sT V w ls) (lC V w)) n r ∧ AN V σ' ∧ MQu σ σ') := by
  rcases (show s = 0 ∨ s = 1 ∨ s = 2 ∨ s = 3 by omega) with rfl | rfl | rfl | rfl
  · exact m_otherwise_0 l G σ V w ls n hV hv hw hAN hls h1 hn hn40
  · exact m_otherwise_1 l G σ V w ls n hV hv hw hAN hls h1 hn hn40
  · exact m_otherwise_2 l G σ V w ls n hV hv hw hAN hls h1 hn hn40
  · exact m_otherwise_3 l G σ V w ls n hV hv hw hAN hls h1 hn hn40
