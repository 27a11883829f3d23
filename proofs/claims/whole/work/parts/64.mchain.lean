/-! the model: its chain -/
theorem mx_nat {a b : Nat} (ha : a < 2 ^ 31) (hb : b < 2 ^ 31) : (if nI a < nI b then nI b else nI a) = nI (max a b) := by
  rcases Nat.le_total a b with h | h
  · rw [mx_r h hb, Nat.max_eq_right h]
  · rw [mx_l h ha, Nat.max_eq_left h]
def MTb (L : Ml) : Prop := L.length ≤ 833 ∧ ∀ x, x < L.length → mB L x ≤ 50 ∧ mO L x ≤ 50 ∧ mG L x ≤ 50 ∧ 2 ≤ mG L x
theorem ML_b {V : Mm} (hv : wf V) {w v ls : Nat} (hw : w < 5) (hv5 : v < 5) : MTb (ML V w v ls) := ⟨mLa_833 hv ls hw hv5 _ (Nat.le_refl _), fun x hx => by
  have := ML_at hv hw hv5 hx
  omega⟩
theorem Wf_le {L : Ml} (h : MTb L) (x : Nat) : Wf (mB L) (mO L) (mG L) L.length x ≤ 41650 := by
  have := wS_le (b1 := mB L) (b2 := mO L) (ln := mG L) (m := L.length) (fun x hx => (h.2 x hx).2.2.1) L.length (Nat.le_refl _) x
  have := h.1
  unfold Wf
  omega
theorem hbW_le {L : Ml} (h : MTb L) (k j : Nat) : (hb (mB L) (mO L) (mG L) (Wf (mB L) (mO L) (mG L) L.length) k j).2 ≤ 41650 := hb_le (Wf_le h) j
theorem mxS_le {L : Ml} (h : MTb L) : ∀ s, mxS (mB L) (mO L) (mG L) L.length s ≤ 41650
  | 0 => Nat.zero_le _
  | s + 1 => by
    have := mxS_le h s
    have := Wf_le h (L.length - 1 - s)
    show max _ _ ≤ _
    omega
theorem sub1_add (c : Nat) : (nI c - nI 1) + nI 1 = nI c := Int32.sub_add_cancel _ _
theorem add_m1 (c : Nat) : nI c + (-(nI 1)) = nI c - nI 1 := (Int32.sub_eq_add_neg _ _).symm
set_option maxRecDepth 20000 in
set_option maxHeartbeats 4000000 in
theorem m_mayFollow (l : Launch) (G : Gl) (σ : Mm) (L : Ml) (k l9 : Nat) (hM : MTm L σ) (hb9 : MTb L) (hk : k < L.length) (hl : l9 < L.length) : AMi l G 0 mX10_mayFollow [.ref 66, .int (nI k), .int (nI l9)] σ (fun r σ' => σ' = σ ∧ r = bz (decide (mB L k + mG L k ≤ mB L l9 ∧ mO L k + mG L k ≤ mO L l9))) := by
  refine rw_inI 10 (by decide +kernel) rfl rfl ?_
  intro E hE hX
  subst hE
  have h1 := hM.2 k hk
  have h2 := hM.2 l9 hl
  have b1 := hb9.2 k hk
  have b2 := hb9.2 l9 hl
  have b3 := hb9.1
  refine rw_go hX [(0, .aload_n 0), (1, .getfield 59), (4, .iload_n 2), (5, .iaload)] (by decide +kernel) (Ps := [vp_in (nI l9) 1000]) (pc' := 6) (lv' := [(0, .ref 66), (1, .int (nI k)), (2, .int (nI l9))]) (st' := [.int (σ 83 (nI l9).toNatClampNeg)]) (σ' := σ) rfl (vp_in_nI (by omega) (by omega)) ?_
  rw [show (σ 83 (nI l9).toNatClampNeg) = nI (mB L l9) from (by rw [nI_clamp (by omega), h2.1])]
  refine rw_go hX [(6, .aload_n 0), (7, .getfield 59), (10, .iload_n 1), (11, .iaload)] (by decide +kernel) (Ps := [vp_in (nI k) 1000]) (pc' := 12) (lv' := [(0, .ref 66), (1, .int (nI k)), (2, .int (nI l9))]) (st' := [.int (σ 83 (nI k).toNatClampNeg), .int (nI (mB L l9))]) (σ' := σ) rfl (vp_in_nI (by omega) (by omega)) ?_
  rw [show (σ 83 (nI k).toNatClampNeg) = nI (mB L k) from (by rw [nI_clamp (by omega), h1.1])]
  refine rw_go hX [(12, .aload_n 0), (13, .getfield 65), (16, .iload_n 1), (17, .iaload)] (by decide +kernel) (Ps := [vp_in (nI k) 1000]) (pc' := 18) (lv' := [(0, .ref 66), (1, .int (nI k)), (2, .int (nI l9))]) (st' := [.int (σ 85 (nI k).toNatClampNeg), .int (nI (mB L k)), .int (nI (mB L l9))]) (σ' := σ) rfl (vp_in_nI (by omega) (by omega)) ?_
  rw [show (σ 85 (nI k).toNatClampNeg) = nI (mG L k) from (by rw [nI_clamp (by omega), h1.2.2])]
  refine rw_go hX [(18, .iadd)] (by decide +kernel) (Ps := []) (pc' := 19) (lv' := [(0, .ref 66), (1, .int (nI k)), (2, .int (nI l9))]) (st' := [.int (nI (mB L k) + nI (mG L k)), .int (nI (mB L l9))]) (σ' := σ) rfl True.intro ?_
  rw [show (nI (mB L k) + nI (mG L k)) = nI (mB L k + mG L k) from nI_add _ _]
  refine rw_icmp hX (tgt := 48) (cnd := .lt) (off := 29) (by decide +kernel) (by decide) (fun h19 => ?_) (fun h19 => ?_)
  · replace h19 := c2_ltT h19
    refine rw_go hX [(48, .iconst 0)] (by decide +kernel) (Ps := []) (pc' := 49) (lv' := [(0, .ref 66), (1, .int (nI k)), (2, .int (nI l9))]) (st' := [.int (nI 0)]) (σ' := σ) rfl True.intro ?_
    exact rw_zret hX (by decide +kernel) (Or.inl rfl) (⟨rfl, by first | (rw [decide_eq_true (by omega)]; rfl) | (rw [decide_eq_false (by omega)]; rfl)⟩)
  · replace h19 := c2_ltF h19
    refine rw_go hX [(22, .aload_n 0), (23, .getfield 62), (26, .iload_n 2), (27, .iaload)] (by decide +kernel) (Ps := [vp_in (nI l9) 1000]) (pc' := 28) (lv' := [(0, .ref 66), (1, .int (nI k)), (2, .int (nI l9))]) (st' := [.int (σ 84 (nI l9).toNatClampNeg)]) (σ' := σ) rfl (vp_in_nI (by omega) (by omega)) ?_
    rw [show (σ 84 (nI l9).toNatClampNeg) = nI (mO L l9) from (by rw [nI_clamp (by omega), h2.2.1])]
    refine rw_go hX [(28, .aload_n 0), (29, .getfield 62), (32, .iload_n 1), (33, .iaload)] (by decide +kernel) (Ps := [vp_in (nI k) 1000]) (pc' := 34) (lv' := [(0, .ref 66), (1, .int (nI k)), (2, .int (nI l9))]) (st' := [.int (σ 84 (nI k).toNatClampNeg), .int (nI (mO L l9))]) (σ' := σ) rfl (vp_in_nI (by omega) (by omega)) ?_
    rw [show (σ 84 (nI k).toNatClampNeg) = nI (mO L k) from (by rw [nI_clamp (by omega), h1.2.1])]
    refine rw_go hX [(34, .aload_n 0), (35, .getfield 65), (38, .iload_n 1), (39, .iaload)] (by decide +kernel) (Ps := [vp_in (nI k) 1000]) (pc' := 40) (lv' := [(0, .ref 66), (1, .int (nI k)), (2, .int (nI l9))]) (st' := [.int (σ 85 (nI k).toNatClampNeg), .int (nI (mO L k)), .int (nI (mO L l9))]) (σ' := σ) rfl (vp_in_nI (by omega) (by omega)) ?_
    rw [show (σ 85 (nI k).toNatClampNeg) = nI (mG L k) from (by rw [nI_clamp (by omega), h1.2.2])]
    refine rw_go hX [(40, .iadd)] (by decide +kernel) (Ps := []) (pc' := 41) (lv' := [(0, .ref 66), (1, .int (nI k)), (2, .int (nI l9))]) (st' := [.int (nI (mO L k) + nI (mG L k)), .int (nI (mO L l9))]) (σ' := σ) rfl True.intro ?_
    rw [show (nI (mO L k) + nI (mG L k)) = nI (mO L k + mG L k) from nI_add _ _]
    refine rw_icmp hX (tgt := 48) (cnd := .lt) (off := 7) (by decide +kernel) (by decide) (fun h41 => ?_) (fun h41 => ?_)
    · replace h41 := c2_ltT h41
      refine rw_go hX [(48, .iconst 0)] (by decide +kernel) (Ps := []) (pc' := 49) (lv' := [(0, .ref 66), (1, .int (nI k)), (2, .int (nI l9))]) (st' := [.int (nI 0)]) (σ' := σ) rfl True.intro ?_
      exact rw_zret hX (by decide +kernel) (Or.inl rfl) (⟨rfl, by first | (rw [decide_eq_true (by omega)]; rfl) | (rw [decide_eq_false (by omega)]; rfl)⟩)
    · replace h41 := c2_ltF h41
      refine rw_go hX [(44, .iconst 1), (45, .goto 4)] (by decide +kernel) (Ps := []) (pc' := 49) (lv' := [(0, .ref 66), (1, .int (nI k)), (2, .int (nI l9))]) (st' := [.int (nI 1)]) (σ' := σ) rfl True.intro ?_
      exact rw_zret hX (by decide +kernel) (Or.inr rfl) (⟨rfl, by first | (rw [decide_eq_true (by omega)]; rfl) | (rw [decide_eq_false (by omega)]; rfl)⟩)
theorem MTm_k {L : Ml} {σ τ : Mm} (h : MTm L σ) (e : ∀ k, k ∈ [66, 83, 84, 85] → τ k = σ k) : MTm L τ := by
  unfold MTm
  rw [e 66 (by decide), e 83 (by decide), e 84 (by decide), e 85 (by decide)]
  exact h
theorem hb_yx {b1 b2 ln W : Nat → Nat} {k j : Nat} (h : b1 k + ln k ≤ b1 (k + 1 + j) ∧ b2 k + ln k ≤ b2 (k + 1 + j)) : (hb b1 b2 ln W k (j + 1)).2 = max (hb b1 b2 ln W k j).2 (W (k + 1 + j)) := by
  by_cases g : (hb b1 b2 ln W k j).2 < W (k + 1 + j)
  · rw [hb_y g h.1 h.2]
    show W (k + 1 + j) = _
    omega
  · rw [hb_n (fun z => g z.1)]
    omega
set_option maxRecDepth 20000 in
set_option maxHeartbeats 4000000 in
theorem m_chains (l : Launch) (G : Gl) (σ : Mm) (L : Ml) (m : Nat) (hM : MTm L σ) (hb9 : MTb L) (hm : m = L.length) : AMi l G 1 mX10_chains [.ref 66] σ (fun r σ' => r = nI (mxS (mB L) (mO L) (mG L) m m) ∧ (∀ x, x < m → decide (σ' 86 x ≠ 0) = chn L x) ∧ ∀ k, k ∉ [86, 87] → σ' k = σ k) := by
  refine rw_inI 10 (by decide +kernel) rfl rfl ?_
  intro E hE hX
  subst hE
  have h833 := hb9.1
  have hbd := hb9.2
  have h66 : σ 66 20 = nI m := by rw [hm]; exact hM.1
  have hWb : ∀ x, Wf (mB L) (mO L) (mG L) m x ≤ 41650 := by rw [hm]; exact Wf_le hb9
  have hHb : ∀ k j, (hb (mB L) (mO L) (mG L) (Wf (mB L) (mO L) (mG L) m) k j).2 ≤ 41650 := by rw [hm]; exact hbW_le hb9
  have hXb : ∀ s, mxS (mB L) (mO L) (mG L) m s ≤ 41650 := by rw [hm]; exact mxS_le hb9
  have hln : ∀ x, x < m → 1 ≤ mG L x := fun x hx => by have := hbd x (by omega); omega
  refine rw_go hX [(0, .iconst 0), (1, .istore_n 1), (2, .aload_n 0), (3, .getfield 232)] (by decide +kernel) (Ps := []) (pc' := 6) (lv' := [(0, .ref 66), (1, .int (nI 0))]) (st' := [.int (σ 66 20)]) (σ' := σ) rfl True.intro ?_
  rw [show (σ 66 20) = nI m from (by rw [h66])]
  refine rw_go hX [(6, .iconst 1), (7, .isub), (8, .istore_n 2)] (by decide +kernel) (Ps := []) (pc' := 9) (lv' := [(0, .ref 66), (1, .int (nI 0)), (2, .int (nI m - nI 1))]) (st' := []) (σ' := σ) rfl True.intro ?_
  have L9 : ∀ (μ9 : Nat) (s : Nat), μ9 = m - s → (s ≤ m) → RW E G 1 5 (QI E G (fun r σ' => r = nI (mxS (mB L) (mO L) (mG L) m m) ∧ (∀ x, x < m → decide (σ' 86 x ≠ 0) = chn L x) ∧ ∀ k, k ∉ [86, 87] → σ' k = σ k)) 9 [(0, .ref 66), (1, .int (nI (mxS (mB L) (mO L) (mG L) m s))), (2, .int (nI (m - s) - nI 1))] [] (sr (sr σ 87 (bw (σ 87) (fun j => nI (Wf (mB L) (mO L) (mG L) m j)) (m - s) m)) 86 (bw (σ 86) (fun _ => nI 0) (m - s) m)) := by
    intro μ9
    induction μ9 using Nat.strongRecOn with
    | ind μ9 ih9 =>
      intro s hμ9 hs
      refine rw_go hX [(9, .iload_n 2)] (by decide +kernel) (Ps := []) (pc' := 10) (lv' := [(0, .ref 66), (1, .int (nI (mxS (mB L) (mO L) (mG L) m s))), (2, .int (nI (m - s) - nI 1))]) (st' := [.int (nI (m - s) - nI 1)]) (σ' := sr (sr σ 87 (bw (σ 87) (fun j => nI (Wf (mB L) (mO L) (mG L) m j)) (m - s) m)) 86 (bw (σ 86) (fun _ => nI 0) (m - s) m)) rfl True.intro ?_
      refine rw_if hX (tgt := 99) (cnd := .lt) (off := 89) (by decide +kernel) (by decide) (fun h10 => ?_) (fun h10 => ?_)
      · have es := neg1 (by omega) h10
        have es2 : s = m := by omega
        rw [show mxS (mB L) (mO L) (mG L) m s = mxS (mB L) (mO L) (mG L) m m from by rw [es2]]
        obtain ⟨τ, hτ⟩ : ∃ τ, τ = sr (sr σ 87 (bw (σ 87) (fun j => nI (Wf (mB L) (mO L) (mG L) m j)) (m - s) m)) 86 (bw (σ 86) (fun _ => nI 0) (m - s) m) := ⟨_, rfl⟩
        rw [← hτ]
        have hk9 : ∀ q, q ∉ [86, 87] → τ q = σ q := fun q hq => by rw [hτ, sr_n _ _ (fun z => hq (by rw [z]; decide)), sr_n _ _ (fun z => hq (by rw [z]; decide))]
        have h87 : ∀ x, x < m → τ 87 x = nI (Wf (mB L) (mO L) (mG L) m x) := fun x hx => by rw [hτ, sr_n _ _ (by decide), sr_s, bw_in (by omega) hx]
        have h86 : ∀ x, x < m → τ 86 x = nI 0 := fun x hx => by rw [hτ, sr_s, bw_in (by omega) hx]
        clear hτ
        refine rw_go hX [(99, .iload_n 1), (100, .istore_n 2), (101, .iconst (-1)), (102, .istore_n 3), (103, .iconst 0), (104, .istore 4)] (by decide +kernel) (Ps := []) (pc' := 106) (lv' := [(0, .ref 66), (1, .int (nI (mxS (mB L) (mO L) (mG L) m m))), (2, .int (nI (mxS (mB L) (mO L) (mG L) m m))), (3, .int (-(nI 1))), (4, .int (nI 0))]) (st' := []) (σ' := τ) rfl True.intro ?_
        have L106 : ∀ (μ106 : Nat) (k left : Nat) (last : Option Nat) (F : Nat → Int32), μ106 = m - k → (k ≤ m) → (left ≤ 41650) → (∀ y, last = some y → y < k) → (GI (mB L) (mO L) (mG L) m k left last (fun x => decide (F x ≠ 0))) → (∀ x, k ≤ x → x < m → F x = nI 0) → RW E G 1 5 (QI E G (fun r σ' => r = nI (mxS (mB L) (mO L) (mG L) m m) ∧ (∀ x, x < m → decide (σ' 86 x ≠ 0) = chn L x) ∧ ∀ k, k ∉ [86, 87] → σ' k = σ k)) 106 [(0, .ref 66), (1, .int (nI (mxS (mB L) (mO L) (mG L) m m))), (2, .int (nI left)), (3, .int (en last)), (4, .int (nI k))] [] (sr τ 86 F) := by
          intro μ106
          induction μ106 using Nat.strongRecOn with
          | ind μ106 ih106 =>
            intro k left last F hμ106 hk hle hlt hG hF0
            have hMt2 : MTm L (sr τ 86 F) := MTm_k hM fun q hq => by rw [sr_n _ _ (fun z => by rw [z] at hq; revert hq; decide)]; exact hk9 q (fun z => by revert hq z; simp only [List.mem_cons, List.not_mem_nil, or_false]; omega)
            refine rw_go hX [(106, .iload 4), (108, .aload_n 0), (109, .getfield 232)] (by decide +kernel) (Ps := []) (pc' := 112) (lv' := [(0, .ref 66), (1, .int (nI (mxS (mB L) (mO L) (mG L) m m))), (2, .int (nI left)), (3, .int (en last)), (4, .int (nI k))]) (st' := [.int ((sr τ 86 F) 66 20), .int (nI k)]) (σ' := sr τ 86 F) rfl True.intro ?_
            rw [show ((sr τ 86 F) 66 20) = nI m from (by rw [sr_n _ _ (by decide), hk9 66 (by decide), h66])]
            refine rw_icmp hX (tgt := 171) (cnd := .ge) (off := 59) (by decide +kernel) (by decide) (fun h112 => ?_) (fun h112 => ?_)
            · replace h112 := c2_geT h112
              have ek : k = m := by omega
              refine rw_go hX [(171, .iload_n 1)] (by decide +kernel) (Ps := []) (pc' := 172) (lv' := [(0, .ref 66), (1, .int (nI (mxS (mB L) (mO L) (mG L) m m))), (2, .int (nI left)), (3, .int (en last)), (4, .int (nI k))]) (st' := [.int (nI (mxS (mB L) (mO L) (mG L) m m))]) (σ' := sr τ 86 F) rfl True.intro ?_
              exact rw_iret hX (by decide +kernel) (by
  rw [ek] at hG
  obtain ⟨e1, e2⟩ := GI_end hG
  refine ⟨rfl, fun x hx => ?_, fun q hq => ?_⟩
  · rw [sr_s]
    exact (e1 x hx).trans (by rw [hm]; rfl)
  · rw [sr_n _ _ (fun z => hq (by rw [z]; decide))]
    exact hk9 q hq)
            · replace h112 := c2_geF h112
              refine rw_go hX [(115, .iload_n 2)] (by decide +kernel) (Ps := []) (pc' := 116) (lv' := [(0, .ref 66), (1, .int (nI (mxS (mB L) (mO L) (mG L) m m))), (2, .int (nI left)), (3, .int (en last)), (4, .int (nI k))]) (st' := [.int (nI left)]) (σ' := sr τ 86 F) rfl True.intro ?_
              refine rw_if hX (tgt := 165) (cnd := .le) (off := 49) (by decide +kernel) (by decide) (fun h116 => ?_) (fun h116 => ?_)
              · replace h116 := zn_leT h116
                have hno : ¬ (0 < left ∧ Wf (mB L) (mO L) (mG L) m k = left ∧ (last = none ∨ ∃ y, last = some y ∧ fol (mB L) (mO L) (mG L) y k)) := fun z => by
                  have := z.1; omega
                refine rw_go hX [(165, .iinc 4 1)] (by decide +kernel) (Ps := []) (pc' := 168) (lv' := [(0, .ref 66), (1, .int (nI (mxS (mB L) (mO L) (mG L) m m))), (2, .int (nI left)), (3, .int (en last)), (4, .int (nI k + nI 1))]) (st' := []) (σ' := sr τ 86 F) rfl True.intro ?_
                rw [show (nI k + nI 1) = nI (k + 1) from nI_add _ _]
                refine rw_go hX [(168, .goto (-62))] (by decide +kernel) (Ps := []) (pc' := 106) (lv' := [(0, .ref 66), (1, .int (nI (mxS (mB L) (mO L) (mG L) m m))), (2, .int (nI left)), (3, .int (en last)), (4, .int (nI (k + 1)))]) (st' := []) (σ' := sr τ 86 F) rfl True.intro ?_
                refine rw_lsub (ks := [0, 1, 2, 3, 4]) (lv' := [(0, .ref 66), (1, .int (nI (mxS (mB L) (mO L) (mG L) m m))), (2, .int (nI left)), (3, .int (en last)), (4, .int (nI (k + 1)))]) rfl ?_
                exact ih106 (m - (k + 1)) (by omega) (k + 1) left _ F rfl (by omega) hle (fun y hy => by have := hlt y hy; omega) (GI_n hln hG h112 hno (fun _ _ => rfl) (by rw [hF0 k (Nat.le_refl _) h112]; exact decide_eq_false (fun z => z rfl))) (fun x h1 h2 => hF0 x (by omega) h2)
              · replace h116 := zn_leF h116
                have hWk9 := hWb k
                refine rw_go hX [(119, .aload_n 0), (120, .getfield 71), (123, .iload 4), (125, .iaload)] (by decide +kernel) (Ps := [vp_in (nI k) 1001]) (pc' := 126) (lv' := [(0, .ref 66), (1, .int (nI (mxS (mB L) (mO L) (mG L) m m))), (2, .int (nI left)), (3, .int (en last)), (4, .int (nI k))]) (st' := [.int ((sr τ 86 F) 87 (nI k).toNatClampNeg)]) (σ' := sr τ 86 F) rfl (vp_in_nI (by omega) (by omega)) ?_
                rw [show ((sr τ 86 F) 87 (nI k).toNatClampNeg) = nI (Wf (mB L) (mO L) (mG L) m k) from (by rw [nI_clamp (by omega), sr_n _ _ (by decide), h87 k h112])]
                refine rw_go hX [(126, .iload_n 2)] (by decide +kernel) (Ps := []) (pc' := 127) (lv' := [(0, .ref 66), (1, .int (nI (mxS (mB L) (mO L) (mG L) m m))), (2, .int (nI left)), (3, .int (en last)), (4, .int (nI k))]) (st' := [.int (nI left), .int (nI (Wf (mB L) (mO L) (mG L) m k))]) (σ' := sr τ 86 F) rfl True.intro ?_
                refine rw_icmp hX (tgt := 165) (cnd := .ne) (off := 38) (by decide +kernel) (by decide) (fun h127 => ?_) (fun h127 => ?_)
                · replace h127 := c2_neT h127
                  have hno : ¬ (0 < left ∧ Wf (mB L) (mO L) (mG L) m k = left ∧ (last = none ∨ ∃ y, last = some y ∧ fol (mB L) (mO L) (mG L) y k)) := fun z => by
                    exact h127 z.2.1
                  refine rw_go hX [(165, .iinc 4 1)] (by decide +kernel) (Ps := []) (pc' := 168) (lv' := [(0, .ref 66), (1, .int (nI (mxS (mB L) (mO L) (mG L) m m))), (2, .int (nI left)), (3, .int (en last)), (4, .int (nI k + nI 1))]) (st' := []) (σ' := sr τ 86 F) rfl True.intro ?_
                  rw [show (nI k + nI 1) = nI (k + 1) from nI_add _ _]
                  refine rw_go hX [(168, .goto (-62))] (by decide +kernel) (Ps := []) (pc' := 106) (lv' := [(0, .ref 66), (1, .int (nI (mxS (mB L) (mO L) (mG L) m m))), (2, .int (nI left)), (3, .int (en last)), (4, .int (nI (k + 1)))]) (st' := []) (σ' := sr τ 86 F) rfl True.intro ?_
                  refine rw_lsub (ks := [0, 1, 2, 3, 4]) (lv' := [(0, .ref 66), (1, .int (nI (mxS (mB L) (mO L) (mG L) m m))), (2, .int (nI left)), (3, .int (en last)), (4, .int (nI (k + 1)))]) rfl ?_
                  exact ih106 (m - (k + 1)) (by omega) (k + 1) left _ F rfl (by omega) hle (fun y hy => by have := hlt y hy; omega) (GI_n hln hG h112 hno (fun _ _ => rfl) (by rw [hF0 k (Nat.le_refl _) h112]; exact decide_eq_false (fun z => z rfl))) (fun x h1 h2 => hF0 x (by omega) h2)
                · replace h127 := c2_neF h127
                  refine rw_go hX [(130, .iload_n 3)] (by decide +kernel) (Ps := []) (pc' := 131) (lv' := [(0, .ref 66), (1, .int (nI (mxS (mB L) (mO L) (mG L) m m))), (2, .int (nI left)), (3, .int (en last)), (4, .int (nI k))]) (st' := [.int (en last)]) (σ' := sr τ 86 F) rfl True.intro ?_
                  refine rw_if hX (tgt := 144) (cnd := .lt) (off := 13) (by decide +kernel) (by decide) (fun h131 => ?_) (fun h131 => ?_)
                  · replace h131 : (en last < 0) := h131
                    have hfo : last = none ∨ ∃ y, last = some y ∧ fol (mB L) (mO L) (mG L) y k := Or.inl (en_neg h131 (fun i hi => by have := hlt i hi; omega))
                    refine rw_go hX [(144, .aload_n 0), (145, .getfield 68), (148, .iload 4), (150, .iconst 1), (151, .bastore)] (by decide +kernel) (Ps := [vp_in (nI k) 1000, (nI 1) = 0 ∨ (nI 1) = 1]) (pc' := 152) (lv' := [(0, .ref 66), (1, .int (nI (mxS (mB L) (mO L) (mG L) m m))), (2, .int (nI left)), (3, .int (en last)), (4, .int (nI k))]) (st' := []) (σ' := sw (sr τ 86 F) 86 (nI k).toNatClampNeg (nI 1)) rfl (⟨vp_in_nI (by omega) (by omega), Or.inr rfl⟩) ?_
                    rw [show (sw (sr τ 86 F) 86 (nI k).toNatClampNeg (nI 1)) = sw (sr τ 86 F) 86 k (nI 1) from (by rw [nI_clamp (by omega)])]
                    refine rw_go hX [(152, .iload_n 2), (153, .aload_n 0), (154, .getfield 65), (157, .iload 4), (159, .iaload)] (by decide +kernel) (Ps := [vp_in (nI k) 1000]) (pc' := 160) (lv' := [(0, .ref 66), (1, .int (nI (mxS (mB L) (mO L) (mG L) m m))), (2, .int (nI left)), (3, .int (en last)), (4, .int (nI k))]) (st' := [.int ((sw (sr τ 86 F) 86 k (nI 1)) 85 (nI k).toNatClampNeg), .int (nI left)]) (σ' := sw (sr τ 86 F) 86 k (nI 1)) rfl (vp_in_nI (by omega) (by omega)) ?_
                    rw [show ((sw (sr τ 86 F) 86 k (nI 1)) 85 (nI k).toNatClampNeg) = nI (mG L k) from (by rw [nI_clamp (by omega), sw_ne _ _ _ (by decide), sr_n _ _ (by decide), hk9 85 (by decide), (hM.2 k (by omega)).2.2])]
                    refine rw_go hX [(160, .isub)] (by decide +kernel) (Ps := []) (pc' := 161) (lv' := [(0, .ref 66), (1, .int (nI (mxS (mB L) (mO L) (mG L) m m))), (2, .int (nI left)), (3, .int (en last)), (4, .int (nI k))]) (st' := [.int (nI left - nI (mG L k))]) (σ' := sw (sr τ 86 F) 86 k (nI 1)) rfl True.intro ?_
                    rw [show (nI left - nI (mG L k)) = nI (left - mG L k) from (by
  have h9 := (Wf_eq (b1 := mB L) (b2 := mO L) (ln := mG L) h112).1
  rw [pk_sub (by omega)])]
                    refine rw_go hX [(161, .istore_n 2), (162, .iload 4), (164, .istore_n 3), (165, .iinc 4 1)] (by decide +kernel) (Ps := []) (pc' := 168) (lv' := [(0, .ref 66), (1, .int (nI (mxS (mB L) (mO L) (mG L) m m))), (2, .int (nI (left - mG L k))), (3, .int (nI k)), (4, .int (nI k + nI 1))]) (st' := []) (σ' := sw (sr τ 86 F) 86 k (nI 1)) rfl True.intro ?_
                    rw [show (nI k + nI 1) = nI (k + 1) from nI_add _ _]
                    refine rw_go hX [(168, .goto (-62))] (by decide +kernel) (Ps := []) (pc' := 106) (lv' := [(0, .ref 66), (1, .int (nI (mxS (mB L) (mO L) (mG L) m m))), (2, .int (nI (left - mG L k))), (3, .int (nI k)), (4, .int (nI (k + 1)))]) (st' := []) (σ' := sw (sr τ 86 F) 86 k (nI 1)) rfl True.intro ?_
                    refine rw_lsub (ks := [0, 1, 2, 3, 4]) (lv' := [(0, .ref 66), (1, .int (nI (mxS (mB L) (mO L) (mG L) m m))), (2, .int (nI (left - mG L k))), (3, .int (nI k)), (4, .int (nI (k + 1)))]) rfl ?_
                    rw [sw_sr]
                    exact ih106 (m - (k + 1)) (by omega) (k + 1) (left - mG L k) (some k) _ rfl (by omega) (by omega) (fun y hy => by cases hy; omega) (GI_y hln hG h112 h116 h127 hfo (fun x hx => by show decide (upd F k (nI 1) x ≠ 0) = decide (F x ≠ 0); rw [upd_n _ _ hx]) (by show decide (upd F k (nI 1) k ≠ 0) = true; rw [upd_s]; decide +kernel)) (fun x h1 h2 => by rw [upd_n _ _ (by omega)]; exact hF0 x (by omega) h2)
                  · replace h131 : ¬ (en last < 0) := h131
                    obtain ⟨y, rfl⟩ := en_nn h131
                    have hyk := hlt y rfl
                    refine rw_go hX [(134, .aload_n 0), (135, .iload_n 3), (136, .iload 4)] (by decide +kernel) (Ps := []) (pc' := 138) (lv' := [(0, .ref 66), (1, .int (nI (mxS (mB L) (mO L) (mG L) m m))), (2, .int (nI left)), (3, .int (en ((some y)))), (4, .int (nI k))]) (st' := [.int (nI k), .int (en ((some y))), .ref 66]) (σ' := sr τ 86 F) rfl True.intro ?_
                    refine rw_callVi hX (as := [.int (en ((some y))), .int (nI k)]) (rest := []) (m_mayFollow _ _ _ L y k hMt2 hb9 (by omega) (by omega)) (by decide +kernel) mvX10_mayFollow lk10_235 (ci := 9) rfl rfl rfl (by decide) (Nat.le_of_ble_eq_true rfl) rfl ?_
                    intro r1 σ1 hr
                    rw [hr.1, show r1 = bz (decide (mB L y + mG L y ≤ mB L k ∧ mO L y + mG L y ≤ mO L k)) from hr.2]
                    clear hr σ1 r1
                    refine rw_if hX (tgt := 165) (cnd := .eq) (off := 24) (by decide +kernel) (by decide) (fun h141 => ?_) (fun h141 => ?_)
                    · replace h141 := of_decide_eq_false (zb_eqT h141)
                      have hno : ¬ (0 < left ∧ Wf (mB L) (mO L) (mG L) m k = left ∧ (some y = none ∨ ∃ y9, some y = some y9 ∧ fol (mB L) (mO L) (mG L) y9 k)) := fun z => by
                        rcases z.2.2 with z | ⟨y9, z, w⟩
                        · cases z
                        · cases z; exact h141 w
                      refine rw_go hX [(165, .iinc 4 1)] (by decide +kernel) (Ps := []) (pc' := 168) (lv' := [(0, .ref 66), (1, .int (nI (mxS (mB L) (mO L) (mG L) m m))), (2, .int (nI left)), (3, .int (en ((some y)))), (4, .int (nI k + nI 1))]) (st' := []) (σ' := sr τ 86 F) rfl True.intro ?_
                      rw [show (nI k + nI 1) = nI (k + 1) from nI_add _ _]
                      refine rw_go hX [(168, .goto (-62))] (by decide +kernel) (Ps := []) (pc' := 106) (lv' := [(0, .ref 66), (1, .int (nI (mxS (mB L) (mO L) (mG L) m m))), (2, .int (nI left)), (3, .int (en ((some y)))), (4, .int (nI (k + 1)))]) (st' := []) (σ' := sr τ 86 F) rfl True.intro ?_
                      refine rw_lsub (ks := [0, 1, 2, 3, 4]) (lv' := [(0, .ref 66), (1, .int (nI (mxS (mB L) (mO L) (mG L) m m))), (2, .int (nI left)), (3, .int (en ((some y)))), (4, .int (nI (k + 1)))]) rfl ?_
                      exact ih106 (m - (k + 1)) (by omega) (k + 1) left _ F rfl (by omega) hle (fun y hy => by have := hlt y hy; omega) (GI_n hln hG h112 hno (fun _ _ => rfl) (by rw [hF0 k (Nat.le_refl _) h112]; exact decide_eq_false (fun z => z rfl))) (fun x h1 h2 => hF0 x (by omega) h2)
                    · replace h141 := of_decide_eq_true (zb_eqF h141)
                      have hfo : some y = none ∨ ∃ y9, some y = some y9 ∧ fol (mB L) (mO L) (mG L) y9 k := Or.inr ⟨y, rfl, h141⟩
                      refine rw_go hX [(144, .aload_n 0), (145, .getfield 68), (148, .iload 4), (150, .iconst 1), (151, .bastore)] (by decide +kernel) (Ps := [vp_in (nI k) 1000, (nI 1) = 0 ∨ (nI 1) = 1]) (pc' := 152) (lv' := [(0, .ref 66), (1, .int (nI (mxS (mB L) (mO L) (mG L) m m))), (2, .int (nI left)), (3, .int (en ((some y)))), (4, .int (nI k))]) (st' := []) (σ' := sw (sr τ 86 F) 86 (nI k).toNatClampNeg (nI 1)) rfl (⟨vp_in_nI (by omega) (by omega), Or.inr rfl⟩) ?_
                      rw [show (sw (sr τ 86 F) 86 (nI k).toNatClampNeg (nI 1)) = sw (sr τ 86 F) 86 k (nI 1) from (by rw [nI_clamp (by omega)])]
                      refine rw_go hX [(152, .iload_n 2), (153, .aload_n 0), (154, .getfield 65), (157, .iload 4), (159, .iaload)] (by decide +kernel) (Ps := [vp_in (nI k) 1000]) (pc' := 160) (lv' := [(0, .ref 66), (1, .int (nI (mxS (mB L) (mO L) (mG L) m m))), (2, .int (nI left)), (3, .int (en ((some y)))), (4, .int (nI k))]) (st' := [.int ((sw (sr τ 86 F) 86 k (nI 1)) 85 (nI k).toNatClampNeg), .int (nI left)]) (σ' := sw (sr τ 86 F) 86 k (nI 1)) rfl (vp_in_nI (by omega) (by omega)) ?_
                      rw [show ((sw (sr τ 86 F) 86 k (nI 1)) 85 (nI k).toNatClampNeg) = nI (mG L k) from (by rw [nI_clamp (by omega), sw_ne _ _ _ (by decide), sr_n _ _ (by decide), hk9 85 (by decide), (hM.2 k (by omega)).2.2])]
                      refine rw_go hX [(160, .isub)] (by decide +kernel) (Ps := []) (pc' := 161) (lv' := [(0, .ref 66), (1, .int (nI (mxS (mB L) (mO L) (mG L) m m))), (2, .int (nI left)), (3, .int (en ((some y)))), (4, .int (nI k))]) (st' := [.int (nI left - nI (mG L k))]) (σ' := sw (sr τ 86 F) 86 k (nI 1)) rfl True.intro ?_
                      rw [show (nI left - nI (mG L k)) = nI (left - mG L k) from (by
  have h9 := (Wf_eq (b1 := mB L) (b2 := mO L) (ln := mG L) h112).1
  rw [pk_sub (by omega)])]
                      refine rw_go hX [(161, .istore_n 2), (162, .iload 4), (164, .istore_n 3), (165, .iinc 4 1)] (by decide +kernel) (Ps := []) (pc' := 168) (lv' := [(0, .ref 66), (1, .int (nI (mxS (mB L) (mO L) (mG L) m m))), (2, .int (nI (left - mG L k))), (3, .int (nI k)), (4, .int (nI k + nI 1))]) (st' := []) (σ' := sw (sr τ 86 F) 86 k (nI 1)) rfl True.intro ?_
                      rw [show (nI k + nI 1) = nI (k + 1) from nI_add _ _]
                      refine rw_go hX [(168, .goto (-62))] (by decide +kernel) (Ps := []) (pc' := 106) (lv' := [(0, .ref 66), (1, .int (nI (mxS (mB L) (mO L) (mG L) m m))), (2, .int (nI (left - mG L k))), (3, .int (nI k)), (4, .int (nI (k + 1)))]) (st' := []) (σ' := sw (sr τ 86 F) 86 k (nI 1)) rfl True.intro ?_
                      refine rw_lsub (ks := [0, 1, 2, 3, 4]) (lv' := [(0, .ref 66), (1, .int (nI (mxS (mB L) (mO L) (mG L) m m))), (2, .int (nI (left - mG L k))), (3, .int (nI k)), (4, .int (nI (k + 1)))]) rfl ?_
                      rw [sw_sr]
                      exact ih106 (m - (k + 1)) (by omega) (k + 1) (left - mG L k) (some k) _ rfl (by omega) (by omega) (fun y hy => by cases hy; omega) (GI_y hln hG h112 h116 h127 hfo (fun x hx => by show decide (upd F k (nI 1) x ≠ 0) = decide (F x ≠ 0); rw [upd_n _ _ hx]) (by show decide (upd F k (nI 1) k ≠ 0) = true; rw [upd_s]; decide +kernel)) (fun x h1 h2 => by rw [upd_n _ _ (by omega)]; exact hF0 x (by omega) h2)
        refine rw_lsub (ks := [0, 1, 2, 3, 4]) (lv' := [(0, .ref 66), (1, .int (nI (mxS (mB L) (mO L) (mG L) m m))), (2, .int (nI (mxS (mB L) (mO L) (mG L) m m))), (3, .int (-(nI 1))), (4, .int (nI 0))]) rfl ?_
        have q := L106 m 0 (mxS (mB L) (mO L) (mG L) m m) none (τ 86) (by omega) (by omega) (hXb m) (fun y hy => by cases hy) (GI_0 _) (fun x _ hx => h86 x hx)
        rw [sr_id] at q
        exact q
      · have h1s := nneg1 h10
        rw [show (nI (m - s) - nI 1) = nI (m - 1 - s) from (by rw [pk_sub h1s, show m - s - 1 = m - 1 - s from by omega])]
        refine rw_go hX [(13, .aload_n 0), (14, .getfield 68), (17, .iload_n 2), (18, .iconst 0), (19, .bastore)] (by decide +kernel) (Ps := [vp_in (nI (m - 1 - s)) 1000, (nI 0) = 0 ∨ (nI 0) = 1]) (pc' := 20) (lv' := [(0, .ref 66), (1, .int (nI (mxS (mB L) (mO L) (mG L) m s))), (2, .int (nI (m - 1 - s)))]) (st' := []) (σ' := sw (sr (sr σ 87 (bw (σ 87) (fun j => nI (Wf (mB L) (mO L) (mG L) m j)) (m - s) m)) 86 (bw (σ 86) (fun _ => nI 0) (m - s) m)) 86 (nI (m - 1 - s)).toNatClampNeg (nI 0)) rfl (⟨vp_in_nI (by omega) (by omega), Or.inl rfl⟩) ?_
        rw [show (sw (sr (sr σ 87 (bw (σ 87) (fun j => nI (Wf (mB L) (mO L) (mG L) m j)) (m - s) m)) 86 (bw (σ 86) (fun _ => nI 0) (m - s) m)) 86 (nI (m - 1 - s)).toNatClampNeg (nI 0)) = sw (sr (sr σ 87 (bw (σ 87) (fun j => nI (Wf (mB L) (mO L) (mG L) m j)) (m - s) m)) 86 (bw (σ 86) (fun _ => nI 0) (m - s) m)) 86 (m - 1 - s) (nI 0) from (by rw [nI_clamp (by omega)])]
        refine rw_go hX [(20, .iconst 0), (21, .istore_n 3), (22, .iload_n 2), (23, .iconst 1), (24, .iadd)] (by decide +kernel) (Ps := []) (pc' := 25) (lv' := [(0, .ref 66), (1, .int (nI (mxS (mB L) (mO L) (mG L) m s))), (2, .int (nI (m - 1 - s))), (3, .int (nI 0))]) (st' := [.int (nI (m - 1 - s) + nI 1)]) (σ' := sw (sr (sr σ 87 (bw (σ 87) (fun j => nI (Wf (mB L) (mO L) (mG L) m j)) (m - s) m)) 86 (bw (σ 86) (fun _ => nI 0) (m - s) m)) 86 (m - 1 - s) (nI 0)) rfl True.intro ?_
        rw [show (nI (m - 1 - s) + nI 1) = nI (m - 1 - s + 1) from nI_add _ _]
        refine rw_go hX [(25, .istore 4)] (by decide +kernel) (Ps := []) (pc' := 27) (lv' := [(0, .ref 66), (1, .int (nI (mxS (mB L) (mO L) (mG L) m s))), (2, .int (nI (m - 1 - s))), (3, .int (nI 0)), (4, .int (nI (m - 1 - s + 1)))]) (st' := []) (σ' := sw (sr (sr σ 87 (bw (σ 87) (fun j => nI (Wf (mB L) (mO L) (mG L) m j)) (m - s) m)) 86 (bw (σ 86) (fun _ => nI 0) (m - s) m)) 86 (m - 1 - s) (nI 0)) rfl True.intro ?_
        have L27 : ∀ (μ27 : Nat) (j : Nat), μ27 = m - j → (m - 1 - s + 1 + j ≤ m) → RW E G 1 5 (QI E G (fun r σ' => r = nI (mxS (mB L) (mO L) (mG L) m m) ∧ (∀ x, x < m → decide (σ' 86 x ≠ 0) = chn L x) ∧ ∀ k, k ∉ [86, 87] → σ' k = σ k)) 27 [(0, .ref 66), (1, .int (nI (mxS (mB L) (mO L) (mG L) m s))), (2, .int (nI (m - 1 - s))), (3, .int (nI ((hb (mB L) (mO L) (mG L) (Wf (mB L) (mO L) (mG L) m) (m - 1 - s) j).2))), (4, .int (nI (m - 1 - s + 1 + j)))] [] (sw (sr (sr σ 87 (bw (σ 87) (fun j => nI (Wf (mB L) (mO L) (mG L) m j)) (m - s) m)) 86 (bw (σ 86) (fun _ => nI 0) (m - s) m)) 86 (m - 1 - s) (nI 0)) := by
          intro μ27
          induction μ27 using Nat.strongRecOn with
          | ind μ27 ih27 =>
            intro j hμ27 hj
            have hMt : MTm L (sw (sr (sr σ 87 (bw (σ 87) (fun j => nI (Wf (mB L) (mO L) (mG L) m j)) (m - s) m)) 86 (bw (σ 86) (fun _ => nI 0) (m - s) m)) 86 (m - 1 - s) (nI 0)) := MTm_k hM fun k hk => by rw [sw_ne _ _ _ (fun z => by rw [z] at hk; revert hk; decide), sr_n _ _ (fun z => by rw [z] at hk; revert hk; decide), sr_n _ _ (fun z => by rw [z] at hk; revert hk; decide)]
            have hHj := hHb (m - 1 - s) j
            refine rw_go hX [(27, .iload 4), (29, .aload_n 0), (30, .getfield 232)] (by decide +kernel) (Ps := []) (pc' := 33) (lv' := [(0, .ref 66), (1, .int (nI (mxS (mB L) (mO L) (mG L) m s))), (2, .int (nI (m - 1 - s))), (3, .int (nI ((hb (mB L) (mO L) (mG L) (Wf (mB L) (mO L) (mG L) m) (m - 1 - s) j).2))), (4, .int (nI (m - 1 - s + 1 + j)))]) (st' := [.int ((sw (sr (sr σ 87 (bw (σ 87) (fun j => nI (Wf (mB L) (mO L) (mG L) m j)) (m - s) m)) 86 (bw (σ 86) (fun _ => nI 0) (m - s) m)) 86 (m - 1 - s) (nI 0)) 66 20), .int (nI (m - 1 - s + 1 + j))]) (σ' := sw (sr (sr σ 87 (bw (σ 87) (fun j => nI (Wf (mB L) (mO L) (mG L) m j)) (m - s) m)) 86 (bw (σ 86) (fun _ => nI 0) (m - s) m)) 86 (m - 1 - s) (nI 0)) rfl True.intro ?_
            rw [show ((sw (sr (sr σ 87 (bw (σ 87) (fun j => nI (Wf (mB L) (mO L) (mG L) m j)) (m - s) m)) 86 (bw (σ 86) (fun _ => nI 0) (m - s) m)) 86 (m - 1 - s) (nI 0)) 66 20) = nI m from (by rw [sw_ne _ _ _ (by decide), sr_n _ _ (by decide), sr_n _ _ (by decide), h66])]
            refine rw_icmp hX (tgt := 68) (cnd := .ge) (off := 35) (by decide +kernel) (by decide) (fun h33 => ?_) (fun h33 => ?_)
            · replace h33 := c2_geT h33
              have ej : j = m - 1 - (m - 1 - s) := by omega
              have hWe := (Wf_eq (b1 := mB L) (b2 := mO L) (ln := mG L) (m := m) (k := m - 1 - s) (by omega)).1
              rw [← ej] at hWe
              refine rw_go hX [(68, .aload_n 0), (69, .getfield 71), (72, .iload_n 2), (73, .aload_n 0), (74, .getfield 65), (77, .iload_n 2), (78, .iaload)] (by decide +kernel) (Ps := [vp_in (nI (m - 1 - s)) 1000]) (pc' := 79) (lv' := [(0, .ref 66), (1, .int (nI (mxS (mB L) (mO L) (mG L) m s))), (2, .int (nI (m - 1 - s))), (3, .int (nI ((hb (mB L) (mO L) (mG L) (Wf (mB L) (mO L) (mG L) m) (m - 1 - s) j).2))), (4, .int (nI (m - 1 - s + 1 + j)))]) (st' := [.int ((sw (sr (sr σ 87 (bw (σ 87) (fun j => nI (Wf (mB L) (mO L) (mG L) m j)) (m - s) m)) 86 (bw (σ 86) (fun _ => nI 0) (m - s) m)) 86 (m - 1 - s) (nI 0)) 85 (nI (m - 1 - s)).toNatClampNeg), .int (nI (m - 1 - s)), .ref 87]) (σ' := sw (sr (sr σ 87 (bw (σ 87) (fun j => nI (Wf (mB L) (mO L) (mG L) m j)) (m - s) m)) 86 (bw (σ 86) (fun _ => nI 0) (m - s) m)) 86 (m - 1 - s) (nI 0)) rfl (vp_in_nI (by omega) (by omega)) ?_
              rw [show ((sw (sr (sr σ 87 (bw (σ 87) (fun j => nI (Wf (mB L) (mO L) (mG L) m j)) (m - s) m)) 86 (bw (σ 86) (fun _ => nI 0) (m - s) m)) 86 (m - 1 - s) (nI 0)) 85 (nI (m - 1 - s)).toNatClampNeg) = nI (mG L (m - 1 - s)) from (by rw [nI_clamp (by omega), sw_ne _ _ _ (by decide), sr_n _ _ (by decide), sr_n _ _ (by decide), (hM.2 (m - 1 - s) (by omega)).2.2])]
              refine rw_go hX [(79, .iload_n 3), (80, .iadd)] (by decide +kernel) (Ps := []) (pc' := 81) (lv' := [(0, .ref 66), (1, .int (nI (mxS (mB L) (mO L) (mG L) m s))), (2, .int (nI (m - 1 - s))), (3, .int (nI ((hb (mB L) (mO L) (mG L) (Wf (mB L) (mO L) (mG L) m) (m - 1 - s) j).2))), (4, .int (nI (m - 1 - s + 1 + j)))]) (st' := [.int (nI (mG L (m - 1 - s)) + nI ((hb (mB L) (mO L) (mG L) (Wf (mB L) (mO L) (mG L) m) (m - 1 - s) j).2)), .int (nI (m - 1 - s)), .ref 87]) (σ' := sw (sr (sr σ 87 (bw (σ 87) (fun j => nI (Wf (mB L) (mO L) (mG L) m j)) (m - s) m)) 86 (bw (σ 86) (fun _ => nI 0) (m - s) m)) 86 (m - 1 - s) (nI 0)) rfl True.intro ?_
              rw [show (nI (mG L (m - 1 - s)) + nI ((hb (mB L) (mO L) (mG L) (Wf (mB L) (mO L) (mG L) m) (m - 1 - s) j).2)) = nI (mG L (m - 1 - s) + (hb (mB L) (mO L) (mG L) (Wf (mB L) (mO L) (mG L) m) (m - 1 - s) j).2) from nI_add _ _]
              rw [show (nI (mG L (m - 1 - s) + (hb (mB L) (mO L) (mG L) (Wf (mB L) (mO L) (mG L) m) (m - 1 - s) j).2)) = nI (Wf (mB L) (mO L) (mG L) m (m - 1 - s)) from by rw [hWe]]
              refine rw_go hX [(81, .iastore)] (by decide +kernel) (Ps := [vp_in (nI (m - 1 - s)) 1001]) (pc' := 82) (lv' := [(0, .ref 66), (1, .int (nI (mxS (mB L) (mO L) (mG L) m s))), (2, .int (nI (m - 1 - s))), (3, .int (nI ((hb (mB L) (mO L) (mG L) (Wf (mB L) (mO L) (mG L) m) (m - 1 - s) j).2))), (4, .int (nI (m - 1 - s + 1 + j)))]) (st' := []) (σ' := sw (sw (sr (sr σ 87 (bw (σ 87) (fun j => nI (Wf (mB L) (mO L) (mG L) m j)) (m - s) m)) 86 (bw (σ 86) (fun _ => nI 0) (m - s) m)) 86 (m - 1 - s) (nI 0)) 87 (nI (m - 1 - s)).toNatClampNeg (nI (Wf (mB L) (mO L) (mG L) m (m - 1 - s)))) rfl (vp_in_nI (by omega) (by omega)) ?_
              rw [show (sw (sw (sr (sr σ 87 (bw (σ 87) (fun j => nI (Wf (mB L) (mO L) (mG L) m j)) (m - s) m)) 86 (bw (σ 86) (fun _ => nI 0) (m - s) m)) 86 (m - 1 - s) (nI 0)) 87 (nI (m - 1 - s)).toNatClampNeg (nI (Wf (mB L) (mO L) (mG L) m (m - 1 - s)))) = sw (sw (sr (sr σ 87 (bw (σ 87) (fun j => nI (Wf (mB L) (mO L) (mG L) m j)) (m - s) m)) 86 (bw (σ 86) (fun _ => nI 0) (m - s) m)) 86 (m - 1 - s) (nI 0)) 87 (m - 1 - s) (nI (Wf (mB L) (mO L) (mG L) m (m - 1 - s))) from (by rw [nI_clamp (by omega)])]
              refine rw_go hX [(82, .iload_n 1), (83, .aload_n 0), (84, .getfield 71), (87, .iload_n 2), (88, .iaload)] (by decide +kernel) (Ps := [vp_in (nI (m - 1 - s)) 1001]) (pc' := 89) (lv' := [(0, .ref 66), (1, .int (nI (mxS (mB L) (mO L) (mG L) m s))), (2, .int (nI (m - 1 - s))), (3, .int (nI ((hb (mB L) (mO L) (mG L) (Wf (mB L) (mO L) (mG L) m) (m - 1 - s) j).2))), (4, .int (nI (m - 1 - s + 1 + j)))]) (st' := [.int ((sw (sw (sr (sr σ 87 (bw (σ 87) (fun j => nI (Wf (mB L) (mO L) (mG L) m j)) (m - s) m)) 86 (bw (σ 86) (fun _ => nI 0) (m - s) m)) 86 (m - 1 - s) (nI 0)) 87 (m - 1 - s) (nI (Wf (mB L) (mO L) (mG L) m (m - 1 - s)))) 87 (nI (m - 1 - s)).toNatClampNeg), .int (nI (mxS (mB L) (mO L) (mG L) m s))]) (σ' := sw (sw (sr (sr σ 87 (bw (σ 87) (fun j => nI (Wf (mB L) (mO L) (mG L) m j)) (m - s) m)) 86 (bw (σ 86) (fun _ => nI 0) (m - s) m)) 86 (m - 1 - s) (nI 0)) 87 (m - 1 - s) (nI (Wf (mB L) (mO L) (mG L) m (m - 1 - s)))) rfl (vp_in_nI (by omega) (by omega)) ?_
              rw [show ((sw (sw (sr (sr σ 87 (bw (σ 87) (fun j => nI (Wf (mB L) (mO L) (mG L) m j)) (m - s) m)) 86 (bw (σ 86) (fun _ => nI 0) (m - s) m)) 86 (m - 1 - s) (nI 0)) 87 (m - 1 - s) (nI (Wf (mB L) (mO L) (mG L) m (m - 1 - s)))) 87 (nI (m - 1 - s)).toNatClampNeg) = nI (Wf (mB L) (mO L) (mG L) m (m - 1 - s)) from (by rw [nI_clamp (by omega), sw_eq])]
              refine rw_max hX (by decide +kernel) lk10_182 (Nat.le_of_ble_eq_true rfl) ?_
              rw [show (if nI (mxS (mB L) (mO L) (mG L) m s) < nI (Wf (mB L) (mO L) (mG L) m (m - 1 - s)) then nI (Wf (mB L) (mO L) (mG L) m (m - 1 - s)) else nI (mxS (mB L) (mO L) (mG L) m s)) = nI (max (mxS (mB L) (mO L) (mG L) m s) (Wf (mB L) (mO L) (mG L) m (m - 1 - s))) from mx_nat (by have := hXb s; omega) (by have := hWb (m - 1 - s); omega)]
              refine rw_go hX [(92, .istore_n 1), (93, .iinc 2 (-1)), (96, .goto (-87))] (by decide +kernel) (Ps := []) (pc' := 9) (lv' := [(0, .ref 66), (1, .int (nI (max (mxS (mB L) (mO L) (mG L) m s) (Wf (mB L) (mO L) (mG L) m (m - 1 - s))))), (2, .int (nI (m - 1 - s) + (-(nI 1)))), (3, .int (nI ((hb (mB L) (mO L) (mG L) (Wf (mB L) (mO L) (mG L) m) (m - 1 - s) j).2))), (4, .int (nI (m - 1 - s + 1 + j)))]) (st' := []) (σ' := sw (sw (sr (sr σ 87 (bw (σ 87) (fun j => nI (Wf (mB L) (mO L) (mG L) m j)) (m - s) m)) 86 (bw (σ 86) (fun _ => nI 0) (m - s) m)) 86 (m - 1 - s) (nI 0)) 87 (m - 1 - s) (nI (Wf (mB L) (mO L) (mG L) m (m - 1 - s)))) rfl True.intro ?_
              refine rw_lsub (ks := [0, 1, 2]) (lv' := [(0, .ref 66), (1, .int (nI (max (mxS (mB L) (mO L) (mG L) m s) (Wf (mB L) (mO L) (mG L) m (m - 1 - s))))), (2, .int (nI (m - 1 - s) + (-(nI 1))))]) rfl ?_
              have q := ih9 (m - (s + 1)) (by omega) (s + 1) rfl (by omega)
              rw [show m - (s + 1) = m - 1 - s by omega] at q
              rw [add_m1, sw_2 _ (by decide), show m - s = m - 1 - s + 1 by omega, bw_1 (f := σ 87) (g := fun j => nI (Wf (mB L) (mO L) (mG L) m j)) (g' := fun j => nI (Wf (mB L) (mO L) (mG L) m j)) (lo := m - 1 - s) (hi := m) (by omega) (fun _ _ => rfl), bw_1 (f := σ 86) (g := fun _ => nI 0) (g' := fun _ => nI 0) (lo := m - 1 - s) (hi := m) (by omega) (fun _ _ => rfl)]
              exact q
            · replace h33 := c2_geF h33
              refine rw_go hX [(36, .aload_n 0), (37, .iload_n 2), (38, .iload 4)] (by decide +kernel) (Ps := []) (pc' := 40) (lv' := [(0, .ref 66), (1, .int (nI (mxS (mB L) (mO L) (mG L) m s))), (2, .int (nI (m - 1 - s))), (3, .int (nI ((hb (mB L) (mO L) (mG L) (Wf (mB L) (mO L) (mG L) m) (m - 1 - s) j).2))), (4, .int (nI (m - 1 - s + 1 + j)))]) (st' := [.int (nI (m - 1 - s + 1 + j)), .int (nI (m - 1 - s)), .ref 66]) (σ' := sw (sr (sr σ 87 (bw (σ 87) (fun j => nI (Wf (mB L) (mO L) (mG L) m j)) (m - s) m)) 86 (bw (σ 86) (fun _ => nI 0) (m - s) m)) 86 (m - 1 - s) (nI 0)) rfl True.intro ?_
              refine rw_callVi hX (as := [.int (nI (m - 1 - s)), .int (nI (m - 1 - s + 1 + j))]) (rest := []) (m_mayFollow _ _ _ L (m - 1 - s) (m - 1 - s + 1 + j) hMt hb9 (by omega) (by omega)) (by decide +kernel) mvX10_mayFollow lk10_235 (ci := 9) rfl rfl rfl (by decide) (Nat.le_of_ble_eq_true rfl) rfl ?_
              intro r1 σ1 hr
              rw [hr.1, show r1 = bz (decide (mB L (m - 1 - s) + mG L (m - 1 - s) ≤ mB L (m - 1 - s + 1 + j) ∧ mO L (m - 1 - s) + mG L (m - 1 - s) ≤ mO L (m - 1 - s + 1 + j))) from hr.2]
              clear hr σ1 r1
              refine rw_if hX (tgt := 60) (cnd := .eq) (off := 17) (by decide +kernel) (by decide) (fun h43 => ?_) (fun h43 => ?_)
              · replace h43 := of_decide_eq_false (zb_eqT h43)
                refine rw_go hX [(60, .iload_n 3), (61, .istore_n 3), (62, .iinc 4 1)] (by decide +kernel) (Ps := []) (pc' := 65) (lv' := [(0, .ref 66), (1, .int (nI (mxS (mB L) (mO L) (mG L) m s))), (2, .int (nI (m - 1 - s))), (3, .int (nI ((hb (mB L) (mO L) (mG L) (Wf (mB L) (mO L) (mG L) m) (m - 1 - s) j).2))), (4, .int (nI (m - 1 - s + 1 + j) + nI 1))]) (st' := []) (σ' := sw (sr (sr σ 87 (bw (σ 87) (fun j => nI (Wf (mB L) (mO L) (mG L) m j)) (m - s) m)) 86 (bw (σ 86) (fun _ => nI 0) (m - s) m)) 86 (m - 1 - s) (nI 0)) rfl True.intro ?_
                rw [show (nI (m - 1 - s + 1 + j) + nI 1) = nI (m - 1 - s + 1 + j + 1) from nI_add _ _]
                refine rw_go hX [(65, .goto (-38))] (by decide +kernel) (Ps := []) (pc' := 27) (lv' := [(0, .ref 66), (1, .int (nI (mxS (mB L) (mO L) (mG L) m s))), (2, .int (nI (m - 1 - s))), (3, .int (nI ((hb (mB L) (mO L) (mG L) (Wf (mB L) (mO L) (mG L) m) (m - 1 - s) j).2))), (4, .int (nI (m - 1 - s + 1 + j + 1)))]) (st' := []) (σ' := sw (sr (sr σ 87 (bw (σ 87) (fun j => nI (Wf (mB L) (mO L) (mG L) m j)) (m - s) m)) 86 (bw (σ 86) (fun _ => nI 0) (m - s) m)) 86 (m - 1 - s) (nI 0)) rfl True.intro ?_
                refine rw_lsub (ks := [0, 1, 2, 3, 4]) (lv' := [(0, .ref 66), (1, .int (nI (mxS (mB L) (mO L) (mG L) m s))), (2, .int (nI (m - 1 - s))), (3, .int (nI ((hb (mB L) (mO L) (mG L) (Wf (mB L) (mO L) (mG L) m) (m - 1 - s) j).2))), (4, .int (nI (m - 1 - s + 1 + j + 1)))]) rfl ?_
                have q := ih27 (m - (j + 1)) (by omega) (j + 1) rfl (by omega)
                rw [hb_n (fun z => h43 z.2)] at q
                exact q
              · replace h43 := of_decide_eq_true (zb_eqF h43)
                have hWj := hWb (m - 1 - s + 1 + j)
                refine rw_go hX [(46, .iload_n 3), (47, .aload_n 0), (48, .getfield 71), (51, .iload 4), (53, .iaload)] (by decide +kernel) (Ps := [vp_in (nI (m - 1 - s + 1 + j)) 1001]) (pc' := 54) (lv' := [(0, .ref 66), (1, .int (nI (mxS (mB L) (mO L) (mG L) m s))), (2, .int (nI (m - 1 - s))), (3, .int (nI ((hb (mB L) (mO L) (mG L) (Wf (mB L) (mO L) (mG L) m) (m - 1 - s) j).2))), (4, .int (nI (m - 1 - s + 1 + j)))]) (st' := [.int ((sw (sr (sr σ 87 (bw (σ 87) (fun j => nI (Wf (mB L) (mO L) (mG L) m j)) (m - s) m)) 86 (bw (σ 86) (fun _ => nI 0) (m - s) m)) 86 (m - 1 - s) (nI 0)) 87 (nI (m - 1 - s + 1 + j)).toNatClampNeg), .int (nI ((hb (mB L) (mO L) (mG L) (Wf (mB L) (mO L) (mG L) m) (m - 1 - s) j).2))]) (σ' := sw (sr (sr σ 87 (bw (σ 87) (fun j => nI (Wf (mB L) (mO L) (mG L) m j)) (m - s) m)) 86 (bw (σ 86) (fun _ => nI 0) (m - s) m)) 86 (m - 1 - s) (nI 0)) rfl (vp_in_nI (by omega) (by omega)) ?_
                rw [show ((sw (sr (sr σ 87 (bw (σ 87) (fun j => nI (Wf (mB L) (mO L) (mG L) m j)) (m - s) m)) 86 (bw (σ 86) (fun _ => nI 0) (m - s) m)) 86 (m - 1 - s) (nI 0)) 87 (nI (m - 1 - s + 1 + j)).toNatClampNeg) = nI (Wf (mB L) (mO L) (mG L) m (m - 1 - s + 1 + j)) from (by rw [nI_clamp (by omega), sw_ne _ _ _ (by decide), sr_n _ _ (by decide), sr_s, bw_in (by omega) (by omega)])]
                refine rw_max hX (by decide +kernel) lk10_182 (Nat.le_of_ble_eq_true rfl) ?_
                rw [show (if nI ((hb (mB L) (mO L) (mG L) (Wf (mB L) (mO L) (mG L) m) (m - 1 - s) j).2) < nI (Wf (mB L) (mO L) (mG L) m (m - 1 - s + 1 + j)) then nI (Wf (mB L) (mO L) (mG L) m (m - 1 - s + 1 + j)) else nI ((hb (mB L) (mO L) (mG L) (Wf (mB L) (mO L) (mG L) m) (m - 1 - s) j).2)) = nI (max (hb (mB L) (mO L) (mG L) (Wf (mB L) (mO L) (mG L) m) (m - 1 - s) j).2 (Wf (mB L) (mO L) (mG L) m (m - 1 - s + 1 + j))) from mx_nat (by omega) (by omega)]
                refine rw_go hX [(57, .goto 4), (61, .istore_n 3), (62, .iinc 4 1)] (by decide +kernel) (Ps := []) (pc' := 65) (lv' := [(0, .ref 66), (1, .int (nI (mxS (mB L) (mO L) (mG L) m s))), (2, .int (nI (m - 1 - s))), (3, .int (nI (max (hb (mB L) (mO L) (mG L) (Wf (mB L) (mO L) (mG L) m) (m - 1 - s) j).2 (Wf (mB L) (mO L) (mG L) m (m - 1 - s + 1 + j))))), (4, .int (nI (m - 1 - s + 1 + j) + nI 1))]) (st' := []) (σ' := sw (sr (sr σ 87 (bw (σ 87) (fun j => nI (Wf (mB L) (mO L) (mG L) m j)) (m - s) m)) 86 (bw (σ 86) (fun _ => nI 0) (m - s) m)) 86 (m - 1 - s) (nI 0)) rfl True.intro ?_
                rw [show (nI (m - 1 - s + 1 + j) + nI 1) = nI (m - 1 - s + 1 + j + 1) from nI_add _ _]
                refine rw_go hX [(65, .goto (-38))] (by decide +kernel) (Ps := []) (pc' := 27) (lv' := [(0, .ref 66), (1, .int (nI (mxS (mB L) (mO L) (mG L) m s))), (2, .int (nI (m - 1 - s))), (3, .int (nI (max (hb (mB L) (mO L) (mG L) (Wf (mB L) (mO L) (mG L) m) (m - 1 - s) j).2 (Wf (mB L) (mO L) (mG L) m (m - 1 - s + 1 + j))))), (4, .int (nI (m - 1 - s + 1 + j + 1)))]) (st' := []) (σ' := sw (sr (sr σ 87 (bw (σ 87) (fun j => nI (Wf (mB L) (mO L) (mG L) m j)) (m - s) m)) 86 (bw (σ 86) (fun _ => nI 0) (m - s) m)) 86 (m - 1 - s) (nI 0)) rfl True.intro ?_
                refine rw_lsub (ks := [0, 1, 2, 3, 4]) (lv' := [(0, .ref 66), (1, .int (nI (mxS (mB L) (mO L) (mG L) m s))), (2, .int (nI (m - 1 - s))), (3, .int (nI (max (hb (mB L) (mO L) (mG L) (Wf (mB L) (mO L) (mG L) m) (m - 1 - s) j).2 (Wf (mB L) (mO L) (mG L) m (m - 1 - s + 1 + j))))), (4, .int (nI (m - 1 - s + 1 + j + 1)))]) rfl ?_
                have q := ih27 (m - (j + 1)) (by omega) (j + 1) rfl (by omega)
                rw [show (hb (mB L) (mO L) (mG L) (Wf (mB L) (mO L) (mG L) m) (m - 1 - s) (j + 1)).2 = max (hb (mB L) (mO L) (mG L) (Wf (mB L) (mO L) (mG L) m) (m - 1 - s) j).2 (Wf (mB L) (mO L) (mG L) m (m - 1 - s + 1 + j)) from hb_yx h43] at q
                exact q
        refine rw_lsub (ks := [0, 1, 2, 3, 4]) (lv' := [(0, .ref 66), (1, .int (nI (mxS (mB L) (mO L) (mG L) m s))), (2, .int (nI (m - 1 - s))), (3, .int (nI 0)), (4, .int (nI (m - 1 - s + 1)))]) rfl ?_
        exact L27 m 0 rfl (by omega)
  refine rw_lsub (ks := [0, 1, 2]) (lv' := [(0, .ref 66), (1, .int (nI 0)), (2, .int (nI m - nI 1))]) rfl ?_
  have q := L9 m 0 rfl (by omega)
  rw [Nat.sub_zero, bw_0, bw_0, sr_id, sr_id] at q
  exact q
