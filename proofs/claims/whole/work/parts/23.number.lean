theorem mkF_c {f : Nat → Int32} {a b : Nat} : ∀ {k : Nat}, lkC f a b k = true → mkF f a k = mkF f b k
  | 0, _ => rfl
  | k + 1, h => by
    have h2 := (lkC_iff f a b (k + 1)).mp h
    rw [mkF_1, mkF_1, mkF_c ((lkC_iff f a b k).mpr (fun t ht => h2 t (by omega))), h2 k (by omega)]
theorem FI_init {σ : Mm} {n : Nat → Nat} {K : Nat} {base : Int32} {c : Nat → Nat} (h1 : σ 31 0 = nI 0) (h2 : ∀ h, h < 64 → σ 32 h = -(nI 1)) : FI σ n K base 0 0 c :=
  ⟨⟨h1, fun f hf => by omega, fun h hh => h2 h hh, fun f hf => by omega⟩, fun f hf => by omega, fun f g _ hg => by omega, fun p hp => by omega, fun f hf => by omega, fun f hf => by omega⟩
/-- what numbering leaves as it was -/
def NFr (σ σ1 : Mm) (m : Int32) : Prop := (∀ k, k ∉ [29, 31, 32, 33, 34, 35, 36, 37, 38] → σ1 k = σ k) ∧ σ1 31 8 = m
theorem fo_next {σ1 σ2 : Mm} {n : Nat → Nat} {K F w g f : Nat} {base : Int32} {c : Nat → Nat} (h : FI σ1 n K base (50 * w + g) F c) (hg : g < n w) (hw : w < 5) (hg5 : g < 50) (hPK : 50 * w + g + K ≤ 250)
    (hr : (f < F ∧ lkC (σ1 26) (c f) (50 * w + g) K = true ∧ σ2 = σ1) ∨ (f = F ∧ (∀ i, i < F → lkC (σ1 26) (c i) (50 * w + g) K = false) ∧ σ2 = fAdd F (hs (σ1 28 (50 * w + g))) (50 * w + g) σ1)) :
    ∃ F2 c2, σ2 31 0 = nI F2 ∧ F2 ≤ 250 ∧ f < F2 ∧ (σ2 38 f = 0 ∨ σ2 38 f = 1) ∧ (∀ m, NFr σ1 σ1 m → NFr σ1 σ2 m) ∧ FI (fSee f w base (sw σ2 29 (50 * w + g) (nI f))) n K base (50 * w + g + 1) F2 c2 := by
  have hok : okc n (50 * w + g) := ⟨by omega, by rw [show (50 * w + g) % 50 = g by omega, show (50 * w + g) / 50 = w by omega]; exact hg⟩
  have hF := FI_F h
  rcases hr with ⟨a, b, rfl⟩ | ⟨rfl, b, rfl⟩
  · refine ⟨F, c, h.1.1, by omega, a, ?_, fun m hm => hm, FI_found h hok a (by omega) hw b⟩
    rw [(h.2.2.2.2.1 f a).2.2]
    exact bz_01 _
  · obtain ⟨r31, r32, r33, r34, r35, r36, r37, r38⟩ := fAdd_r f (hs (σ1 28 (50 * w + g))) (50 * w + g) σ1
    refine ⟨f + 1, _, by rw [r31]; exact upd_s _ _ _, by omega, by omega, by rw [r38, upd_s]; exact Or.inl rfl, fun m hm => ⟨fun k hk => ?_, by rw [r31, upd_n _ _ (by decide)]; exact hm.2⟩, FI_new h hok hPK (by omega) hw (fun i hi z => by rw [lkP, b i hi] at z; cases z)⟩
    refine fAdd_n _ _ _ _ (fun z => hk ?_)
    simp only [List.mem_cons, List.not_mem_nil, or_false] at z ⊢
    omega
theorem nfr_next {σ σ1 σ2 : Mm} {m : Int32} {f w P : Nat} {base : Int32} (h1 : NFr σ σ1 m) (h2 : ∀ m, NFr σ1 σ1 m → NFr σ1 σ2 m) : NFr σ (fSee f w base (sw σ2 29 P (nI f))) m := by
  have h3 := h2 m ⟨fun _ _ => rfl, h1.2⟩
  refine ⟨fun k hk => ?_, by rw [fSee_n _ _ _ _ (by decide) (by decide) (by decide), sw_ne _ _ _ (by decide)]; exact h3.2⟩
  have hk2 := hk
  simp only [List.mem_cons, List.not_mem_nil, or_false, not_or] at hk2
  rw [fSee_n _ _ _ _ hk2.2.2.2.2.2.1 hk2.2.2.2.2.2.2.1 hk2.2.2.2.2.2.2.2.2, sw_ne _ _ _ hk2.1, h3.1 k hk, h1.1 k hk]
set_option maxRecDepth 20000 in
set_option maxHeartbeats 4000000 in
theorem c_number (l : Launch) (G : Gl) (σ : Mm) (rk K : Nat) (n : Nat → Nat) (hk : shapes[rk]? = some (.inl (0, 6))) (hrk : rk ∉ [29, 31, 32, 33, 34, 35, 36, 37, 38]) (hK : σ rk 0 = nI K) (hn : ∀ w, w < 5 → σ 25 w = nI (n w) ∧ n w + K ≤ 51 ∧ 2 ≤ K) (hM : ∀ p, okc n p → σ 28 p = mkF (σ 26) p K) : AMv l G 3 mX0_number [.ref 31, .ref 23, .ref rk] σ (fun σ' => ∃ F c, FI σ' n K (σ rk 3) 250 F c ∧ NFr σ σ' (σ rk 2)) := by
  refine rw_inV 0 (by decide +kernel) rfl rfl ?_
  intro E hE hX
  subst hE
  refine rw_go hX [(0, .aload_n 2), (1, .iconst 3)] (by decide +kernel) (Ps := []) (pc' := 2) (lv' := [(0, .ref 31), (1, .ref 23), (2, .ref rk)]) (st' := [.int (nI 3), .ref rk]) (σ' := σ) rfl True.intro ?_
  refine rw_callSi hX (as := [.ref rk, .int (nI 3)]) (rest := []) (c_pick _ _ _ rk 6 3 hk (by omega) (by omega)) (by decide +kernel) msX9_pick (Or.inr lk0_41) rfl (by decide) (Nat.le_of_ble_eq_true rfl) rfl ?_
  intro r1 σ1 hr
  rw [hr.1, hr.2]
  clear hr σ1 r1
  refine rw_go hX [(5, .istore_n 3), (6, .aload_n 0), (7, .aload_n 2), (8, .iconst 2)] (by decide +kernel) (Ps := []) (pc' := 9) (lv' := [(0, .ref 31), (1, .ref 23), (2, .ref rk), (3, .int (σ rk 3))]) (st' := [.int (nI 2), .ref rk, .ref 31]) (σ' := σ) rfl True.intro ?_
  refine rw_callSi hX (as := [.ref rk, .int (nI 2)]) (rest := [.ref 31]) (c_pick _ _ _ rk 6 2 hk (by omega) (by omega)) (by decide +kernel) msX9_pick (Or.inr lk0_41) rfl (by decide) (Nat.le_of_ble_eq_true rfl) rfl ?_
  intro r1 σ1 hr
  rw [hr.1, hr.2]
  clear hr σ1 r1
  refine rw_go hX [(12, .putfield 38), (15, .aload_n 0), (16, .iconst 0), (17, .putfield 9), (20, .aload_n 0), (21, .getfield 15), (24, .iconst (-1))] (by decide +kernel) (Ps := []) (pc' := 25) (lv' := [(0, .ref 31), (1, .ref 23), (2, .ref rk), (3, .int (σ rk 3))]) (st' := [.int (-(nI 1)), .ref 32]) (σ' := sw (sw σ 31 8 (σ rk 2)) 31 0 (nI 0)) rfl True.intro ?_
  refine rw_callSv hX (as := [.ref 32, .int (-(nI 1))]) (rest := []) (c_J7_fill_53178 _ _ _ 32 64 (-(nI 1)) (by decide +kernel) (by omega)) (by decide +kernel) msJ7_fill_53178 (Or.inl lk0_45) rfl (by decide) (Nat.le_of_ble_eq_true rfl) rfl ?_
  intro σ1 hr
  rw [hr]
  clear hr σ1
  refine rw_go hX [(28, .iconst 0), (29, .istore 4)] (by decide +kernel) (Ps := []) (pc' := 31) (lv' := [(0, .ref 31), (1, .ref 23), (2, .ref rk), (3, .int (σ rk 3)), (4, .int (nI 0))]) (st' := []) (σ' := sr (sw (sw σ 31 8 (σ rk 2)) 31 0 (nI 0)) 32 (fl ((sw (sw σ 31 8 (σ rk 2)) 31 0 (nI 0)) 32) 0 64 (-(nI 1)))) rfl True.intro ?_
  have L31 : ∀ (μ31 : Nat) (w : Nat) (σ1 : Mm) (F : Nat) (c : Nat → Nat), μ31 = 5 - w → (w ≤ 5) → (FI σ1 n K (σ rk 3) (50 * w) F c) → (NFr σ σ1 (σ rk 2)) → RW E G 3 7 (QV E G (fun σ' => ∃ F c, FI σ' n K (σ rk 3) 250 F c ∧ NFr σ σ' (σ rk 2))) 31 [(0, .ref 31), (1, .ref 23), (2, .ref rk), (3, .int (σ rk 3)), (4, .int (nI w))] [] σ1 := by
    intro μ31
    induction μ31 using Nat.strongRecOn with
    | ind μ31 ih31 =>
      intro w σ1 F c hμ31 hw5 hFI hfr
      refine rw_go hX [(31, .iload 4), (33, .iconst 5)] (by decide +kernel) (Ps := []) (pc' := 34) (lv' := [(0, .ref 31), (1, .ref 23), (2, .ref rk), (3, .int (σ rk 3)), (4, .int (nI w))]) (st' := [.int (nI 5), .int (nI w)]) (σ' := σ1) rfl True.intro ?_
      refine rw_icmp hX (tgt := 98) (cnd := .ge) (off := 64) (by decide +kernel) (by decide) (fun h34 => ?_) (fun h34 => ?_)
      · replace h34 := c2_geT h34
        have e : w = 5 := by omega
        rw [e] at hFI
        exact rw_vret hX (by decide +kernel) (⟨F, c, hFI, hfr⟩)
      · replace h34 := c2_geF h34
        refine rw_go hX [(37, .iconst 0), (38, .istore 5)] (by decide +kernel) (Ps := []) (pc' := 40) (lv' := [(0, .ref 31), (1, .ref 23), (2, .ref rk), (3, .int (σ rk 3)), (4, .int (nI w)), (5, .int (nI 0))]) (st' := []) (σ' := σ1) rfl True.intro ?_
        have L40 : ∀ (μ40 : Nat) (g : Nat) (σ2 : Mm) (F2 : Nat) (c2 : Nat → Nat), μ40 = n w - g → (g ≤ n w) → (FI σ2 n K (σ rk 3) (50 * w + g) F2 c2) → (NFr σ σ2 (σ rk 2)) → RW E G 3 7 (QV E G (fun σ' => ∃ F c, FI σ' n K (σ rk 3) 250 F c ∧ NFr σ σ' (σ rk 2))) 40 [(0, .ref 31), (1, .ref 23), (2, .ref rk), (3, .int (σ rk 3)), (4, .int (nI w)), (5, .int (nI g))] [] σ2 := by
          intro μ40
          induction μ40 using Nat.strongRecOn with
          | ind μ40 ih40 =>
            intro g σ2 F2 c2 hμ40 hg hFI2 hfr2
            have hnw := (hn w h34).2
            have h26 : σ2 26 = σ 26 := hfr2.1 26 (by decide)
            have h28 : σ2 28 = σ 28 := hfr2.1 28 (by decide)
            refine rw_go hX [(40, .iload 5), (42, .aload_n 1), (43, .iload 4)] (by decide +kernel) (Ps := []) (pc' := 45) (lv' := [(0, .ref 31), (1, .ref 23), (2, .ref rk), (3, .int (σ rk 3)), (4, .int (nI w)), (5, .int (nI g))]) (st' := [.int (nI w), .ref 23, .int (nI g)]) (σ' := σ2) rfl True.intro ?_
            refine rw_callVi hX (as := [.int (nI w)]) (rest := [.int (nI g)]) (c_gramCount _ _ _ w h34) (by decide +kernel) mvX3_gramCount lk0_51 (ci := 2) rfl rfl rfl (by decide) (Nat.le_of_ble_eq_true rfl) rfl ?_
            intro r1 σ3 hr
            rw [hr.1, show r1 = nI (n w) from hr.2.trans ((congrFun (hfr2.1 25 (by decide)) w).trans (hn w h34).1)]
            clear hr σ3 r1
            refine rw_icmp hX (tgt := 92) (cnd := .ge) (off := 44) (by decide +kernel) (by decide) (fun h48 => ?_) (fun h48 => ?_)
            · replace h48 := c2_geT h48
              refine rw_go hX [(92, .iinc 4 1), (95, .goto (-64))] (by decide +kernel) (Ps := []) (pc' := 31) (lv' := [(0, .ref 31), (1, .ref 23), (2, .ref rk), (3, .int (σ rk 3)), (4, .int (nI w + nI 1)), (5, .int (nI g))]) (st' := []) (σ' := σ2) rfl True.intro ?_
              refine rw_lsub (ks := [0, 1, 2, 3, 4]) (lv' := [(0, .ref 31), (1, .ref 23), (2, .ref rk), (3, .int (σ rk 3)), (4, .int (nI w + nI 1))]) rfl ?_
              rw [nI_add]
              exact ih31 (5 - (w + 1)) (by omega) (w + 1) σ2 F2 c2 rfl (by omega) (FI_skip hFI2 (by omega) (fun q q1 q2 q3 => by
                have e1 : q / 50 = w := by omega
                have e2 := q3.2
                rw [e1] at e2
                omega)) hfr2
            · replace h48 := c2_geF h48
              refine rw_go hX [(51, .aload_n 0), (52, .aload_n 1), (53, .iload 4), (55, .iload 5), (57, .aload_n 2), (58, .iconst 0)] (by decide +kernel) (Ps := []) (pc' := 59) (lv' := [(0, .ref 31), (1, .ref 23), (2, .ref rk), (3, .int (σ rk 3)), (4, .int (nI w)), (5, .int (nI g))]) (st' := [.int (nI 0), .ref rk, .int (nI g), .int (nI w), .ref 23, .ref 31]) (σ' := σ2) rfl True.intro ?_
              refine rw_callSi hX (as := [.ref rk, .int (nI 0)]) (rest := [.int (nI g), .int (nI w), .ref 23, .ref 31]) (c_pick _ _ _ rk 6 0 hk (by omega) (by omega)) (by decide +kernel) msX9_pick (Or.inr lk0_41) rfl (by decide) (Nat.le_of_ble_eq_true rfl) rfl ?_
              intro r1 σ3 hr
              rw [hr.1, show r1 = nI K from hr.2.trans ((congrFun (hfr2.1 rk hrk) 0).trans hK)]
              clear hr σ3 r1
              refine rw_callVi hX (as := [.ref 23, .int (nI w), .int (nI g), .int (nI K)]) (rest := []) (c_formOf _ _ _ w g K F2 c2 h34 (by omega) (by omega) hFI2.1 (by have := FI_F hFI2; omega) (fun f hf z => by
  have o1 := (hFI2.2.1 f hf).1
  have o2 : okc n (50 * w + g) := ⟨by omega, by rw [show (50 * w + g) % 50 = g by omega, show (50 * w + g) / 50 = w by omega]; exact h48⟩
  rw [h28, hM _ o1, hM _ o2]
  rw [h26] at z
  rw [mkF_c z])) (by decide +kernel) mvX0_formOf lk0_57 (ci := 0) rfl rfl rfl (by decide) (Nat.le_of_ble_eq_true rfl) rfl ?_
              rintro r1 σ3 ⟨f, rfl, hr⟩
              obtain ⟨F3, c3, hF3, hF3b, hf3, hb38, hnx, hst⟩ := fo_next hFI2 h48 h34 (by omega) (by omega) hr
              refine rw_go hX [(65, .istore 6), (67, .aload_n 1), (68, .iload 4), (70, .iload 5), (72, .iload 6)] (by decide +kernel) (Ps := []) (pc' := 74) (lv' := [(0, .ref 31), (1, .ref 23), (2, .ref rk), (3, .int (σ rk 3)), (4, .int (nI w)), (5, .int (nI g)), (6, .int (nI f))]) (st' := [.int (nI f), .int (nI g), .int (nI w), .ref 23]) (σ' := σ3) rfl True.intro ?_
              refine rw_callVv hX (as := [.int (nI w), .int (nI g), .int (nI f)]) (rest := []) (c_setForm _ _ _ w g (nI f) h34 (by omega)) (by decide +kernel) mvX3_setForm lk0_61 (ci := 2) rfl rfl rfl (by decide) (Nat.le_of_ble_eq_true rfl) rfl ?_
              intro σ1 hr
              rw [hr]
              clear hr σ1
              refine rw_go hX [(77, .aload_n 0), (78, .iload 6), (80, .iload 4), (82, .iload_n 3)] (by decide +kernel) (Ps := []) (pc' := 83) (lv' := [(0, .ref 31), (1, .ref 23), (2, .ref rk), (3, .int (σ rk 3)), (4, .int (nI w)), (5, .int (nI g)), (6, .int (nI f))]) (st' := [.int (σ rk 3), .int (nI w), .int (nI f), .ref 31]) (σ' := sw σ3 29 (50 * w + g) (nI f)) rfl True.intro ?_
              refine rw_callVv hX (as := [.int (nI f), .int (nI w), .int (σ rk 3)]) (rest := []) (c_seeIn _ _ _ f F3 w (σ rk 3) (by rw [sw_ne _ _ _ (by decide)]; exact hF3) hF3b hf3 h34 (by rw [sw_ne _ _ _ (by decide)]; exact hb38)) (by decide +kernel) mvX0_seeIn lk0_65 (ci := 0) rfl rfl rfl (by decide) (Nat.le_of_ble_eq_true rfl) rfl ?_
              intro σ1 hr
              rw [hr]
              clear hr σ1
              refine rw_go hX [(86, .iinc 5 1), (89, .goto (-49))] (by decide +kernel) (Ps := []) (pc' := 40) (lv' := [(0, .ref 31), (1, .ref 23), (2, .ref rk), (3, .int (σ rk 3)), (4, .int (nI w)), (5, .int (nI g + nI 1)), (6, .int (nI f))]) (st' := []) (σ' := fSee f w (σ rk 3) (sw σ3 29 (50 * w + g) (nI f))) rfl True.intro ?_
              refine rw_lsub (ks := [0, 1, 2, 3, 4, 5]) (lv' := [(0, .ref 31), (1, .ref 23), (2, .ref rk), (3, .int (σ rk 3)), (4, .int (nI w)), (5, .int (nI g + nI 1))]) rfl ?_
              rw [nI_add]
              exact ih40 (n w - (g + 1)) (by omega) (g + 1) _ F3 c3 rfl (by omega) hst (nfr_next hfr2 hnx)
        refine rw_lsub (ks := [0, 1, 2, 3, 4, 5]) (lv' := [(0, .ref 31), (1, .ref 23), (2, .ref rk), (3, .int (σ rk 3)), (4, .int (nI w)), (5, .int (nI 0))]) rfl ?_
        exact L40 (n w) 0 σ1 F c rfl (by omega) hFI hfr
  refine rw_lsub (ks := [0, 1, 2, 3, 4]) (lv' := [(0, .ref 31), (1, .ref 23), (2, .ref rk), (3, .int (σ rk 3)), (4, .int (nI 0))]) rfl ?_
  refine L31 5 0 _ 0 (fun _ => 0) rfl (by omega) (FI_init ?_ ?_) ⟨?_, ?_⟩
  · rw [sr_n _ _ (by decide), sw_eq]
  · intro h hh
    rw [sr_s]
    exact if_pos ⟨Nat.zero_le _, hh⟩
  · intro k hk2
    simp only [List.mem_cons, List.not_mem_nil, or_false, not_or] at hk2
    rw [sr_n _ _ hk2.2.2.1, sw_ne _ _ _ hk2.2.1, sw_ne _ _ _ hk2.2.1]
  · rw [sr_n _ _ (by decide)]
    simp [sw, sr, upd]
