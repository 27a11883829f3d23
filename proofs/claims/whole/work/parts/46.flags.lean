/-! prints flagged -/
def pfF (V σ : Mm) (w f n : Nat) : Prop := ∃ g, g < n ∧ PR V (50 * w + g) = true ∧ σ 29 (50 * w + g) = nI f
def fgS (V σ : Mm) (w : Nat) (b : Int32) : Nat → (Nat → Int32)
  | 0 => σ 37
  | g + 1 => if PR V (50 * w + g) = true then upd (fgS V σ w b g) (σ 29 (50 * w + g)).toNatClampNeg (fgS V σ w b g (σ 29 (50 * w + g)).toNatClampNeg ||| b) else fgS V σ w b g
theorem fgS_y {V σ : Mm} {w g : Nat} {b : Int32} (h : PR V (50 * w + g) = true) : fgS V σ w b (g + 1) = upd (fgS V σ w b g) (σ 29 (50 * w + g)).toNatClampNeg (fgS V σ w b g (σ 29 (50 * w + g)).toNatClampNeg ||| b) := if_pos h
theorem fgS_n {V σ : Mm} {w g : Nat} {b : Int32} (h : PR V (50 * w + g) = false) : fgS V σ w b (g + 1) = fgS V σ w b g := if_neg (by rw [h]; decide)
set_option maxRecDepth 20000 in
set_option maxHeartbeats 4000000 in
theorem c_flagPrintsOf (l : Launch) (G : Gl) (σ : Mm) (V : Mm) (F w : Nat) (b : Int32) (hv : wf V) (hw : w < 5) (hS : SN V σ F) : AMv l G 3 mX8_flagPrintsOf [.ref 22, .int (nI w), .int b] σ (fun σ' => σ' = sr σ 37 (fgS V σ w b (gC V w))) := by
  refine rw_inV 8 (by decide +kernel) rfl rfl ?_
  intro E hE hX
  subst hE
  have hg5 := gC_50 hv hw
  have hF5 := hS.2.1
  refine rw_go hX [(0, .iconst 0), (1, .istore_n 3)] (by decide +kernel) (Ps := []) (pc' := 2) (lv' := [(0, .ref 22), (1, .int (nI w)), (2, .int b), (3, .int (nI 0))]) (st' := []) (σ' := σ) rfl True.intro ?_
  have L2 : ∀ (μ2 : Nat) (g : Nat), μ2 = gC V w - g → (g ≤ gC V w) → RW E G 3 4 (QV E G (fun σ' => σ' = sr σ 37 (fgS V σ w b (gC V w)))) 2 [(0, .ref 22), (1, .int (nI w)), (2, .int b), (3, .int (nI g))] [] (sr σ 37 (fgS V σ w b g)) := by
    intro μ2
    induction μ2 using Nat.strongRecOn with
    | ind μ2 ih2 =>
      intro g hμ2 hg
      refine rw_go hX [(2, .iload_n 3), (3, .aload_n 0), (4, .getfield 12), (7, .iload_n 1)] (by decide +kernel) (Ps := []) (pc' := 8) (lv' := [(0, .ref 22), (1, .int (nI w)), (2, .int b), (3, .int (nI g))]) (st' := [.int (nI w), .ref 23, .int (nI g)]) (σ' := sr σ 37 (fgS V σ w b g)) rfl True.intro ?_
      refine rw_callVi hX (as := [.int (nI w)]) (rest := [.int (nI g)]) (c_gramCount _ _ _ w hw) (by decide +kernel) mvX3_gramCount lk8_106 (ci := 2) rfl rfl rfl (by decide) (Nat.le_of_ble_eq_true rfl) rfl ?_
      intro r1 σ1 hr
      rw [hr.1, show r1 = nI (gC V w) from hr.2.trans (by rw [sr_n _ _ (by decide)]; exact (hS.1 w hw).2.1)]
      clear hr σ1 r1
      refine rw_icmp hX (tgt := 49) (cnd := .ge) (off := 38) (by decide +kernel) (by decide) (fun h11 => ?_) (fun h11 => ?_)
      · replace h11 := c2_geT h11
        have e : g = gC V w := by omega
        exact rw_vret hX (by decide +kernel) (by rw [e])
      · replace h11 := c2_geF h11
        have hpr := PR_e hS hw h11
        obtain ⟨f, hf, hf2, hf3, hf4⟩ := hS.2.2.2.2.1 _ (okc_i hv hw h11)
        refine rw_go hX [(14, .aload_n 0), (15, .getfield 12), (18, .iload_n 1), (19, .iload_n 3)] (by decide +kernel) (Ps := []) (pc' := 20) (lv' := [(0, .ref 22), (1, .int (nI w)), (2, .int b), (3, .int (nI g))]) (st' := [.int (nI g), .int (nI w), .ref 23]) (σ' := sr σ 37 (fgS V σ w b g)) rfl True.intro ?_
        refine rw_callVi hX (as := [.int (nI w), .int (nI g)]) (rest := []) (c_isPrint _ _ _ w g (gC V w) hw (by omega) (by rw [sr_n _ _ (by decide)]; exact (hS.1 w hw).2.1) (by omega)) (by decide +kernel) mvX3_isPrint lk8_109 (ci := 2) rfl rfl rfl (by decide) (Nat.le_of_ble_eq_true rfl) rfl ?_
        intro r1 σ1 hr
        rw [hr.1, show r1 = bz (PR V (50 * w + g)) from hr.2.trans (by rw [sr_n _ _ (by decide), hpr])]
        clear hr σ1 r1
        refine rw_if hX (tgt := 43) (cnd := .eq) (off := 20) (by decide +kernel) (by decide) (fun h23 => ?_) (fun h23 => ?_)
        · replace h23 := zb_eqT h23
          refine rw_go hX [(43, .iinc 3 1), (46, .goto (-44))] (by decide +kernel) (Ps := []) (pc' := 2) (lv' := [(0, .ref 22), (1, .int (nI w)), (2, .int b), (3, .int (nI g + nI 1))]) (st' := []) (σ' := sr σ 37 (fgS V σ w b g)) rfl True.intro ?_
          refine rw_lsub (ks := [0, 1, 2, 3]) (lv' := [(0, .ref 22), (1, .int (nI w)), (2, .int b), (3, .int (nI g + nI 1))]) rfl ?_
          rw [nI_add]
          have q := ih2 (gC V w - (g + 1)) (by omega) (g + 1) rfl (by omega)
          rw [fgS_n h23] at q
          exact q
        · replace h23 := zb_eqF h23
          refine rw_go hX [(26, .aload_n 0), (27, .getfield 21), (30, .aload_n 0), (31, .getfield 12), (34, .iload_n 1), (35, .iload_n 3)] (by decide +kernel) (Ps := []) (pc' := 36) (lv' := [(0, .ref 22), (1, .int (nI w)), (2, .int b), (3, .int (nI g))]) (st' := [.int (nI g), .int (nI w), .ref 23, .ref 31]) (σ' := sr σ 37 (fgS V σ w b g)) rfl True.intro ?_
          refine rw_callVi hX (as := [.int (nI w), .int (nI g)]) (rest := [.ref 31]) (c_formAt _ _ _ w g hw (by omega)) (by decide +kernel) mvX3_formAt lk8_113 (ci := 2) rfl rfl rfl (by decide) (Nat.le_of_ble_eq_true rfl) rfl ?_
          intro r1 σ1 hr
          rw [hr.1, show r1 = nI f from hr.2.trans (by rw [sr_n _ _ (by decide)]; exact hf2)]
          clear hr σ1 r1
          refine rw_go hX [(39, .iload_n 2)] (by decide +kernel) (Ps := []) (pc' := 40) (lv' := [(0, .ref 22), (1, .int (nI w)), (2, .int b), (3, .int (nI g))]) (st' := [.int b, .int (nI f), .ref 31]) (σ' := sr σ 37 (fgS V σ w b g)) rfl True.intro ?_
          refine rw_callVv hX (as := [.int (nI f), .int b]) (rest := []) (c_flag _ _ _ f F b (by rw [sr_n _ _ (by decide)]; exact hS.2.2.1) hF5 hf) (by decide +kernel) mvX0_flag lk8_127 (ci := 0) rfl rfl rfl (by decide) (Nat.le_of_ble_eq_true rfl) rfl ?_
          intro σ1 hr
          rw [sw_sr, sr_s] at hr
          rw [hr]
          clear hr σ1
          refine rw_go hX [(43, .iinc 3 1), (46, .goto (-44))] (by decide +kernel) (Ps := []) (pc' := 2) (lv' := [(0, .ref 22), (1, .int (nI w)), (2, .int b), (3, .int (nI g + nI 1))]) (st' := []) (σ' := sr σ 37 (upd (fgS V σ w b g) f (fgS V σ w b g f ||| b))) rfl True.intro ?_
          refine rw_lsub (ks := [0, 1, 2, 3]) (lv' := [(0, .ref 22), (1, .int (nI w)), (2, .int b), (3, .int (nI g + nI 1))]) rfl ?_
          rw [nI_add]
          have q := ih2 (gC V w - (g + 1)) (by omega) (g + 1) rfl (by omega)
          rw [fgS_y h23, hf2, nI_clamp (by omega)] at q
          exact q
  refine rw_lsub (ks := [0, 1, 2, 3]) (lv' := [(0, .ref 22), (1, .int (nI w)), (2, .int b), (3, .int (nI 0))]) rfl ?_
  have q := L2 (gC V w) 0 rfl (by omega)
  rw [show fgS V σ w b 0 = σ 37 from rfl, sr_id] at q
  exact q
theorem or_b (a b : Int32) : a ||| b ||| b = a ||| b := by
  apply Int32.toBitVec_inj.mp
  rw [Int32.toBitVec_or, Int32.toBitVec_or, BitVec.or_assoc, BitVec.or_self]
theorem fgS_at {V σ : Mm} {F w : Nat} {b : Int32} (hv : wf V) (hw : w < 5) (hS : SN V σ F) {f : Nat} (hf : f < F) : ∀ n, n ≤ gC V w → (pfF V σ w f n → fgS V σ w b n f = (σ 37 f ||| b)) ∧ (¬ pfF V σ w f n → fgS V σ w b n f = σ 37 f)
  | 0, _ => ⟨fun ⟨g, h, _⟩ => by omega, fun _ => rfl⟩
  | n + 1, hn => by
    obtain ⟨i1, i2⟩ := fgS_at (b := b) hv hw hS hf n (by omega)
    obtain ⟨e, he, he2, -⟩ := hS.2.2.2.2.1 _ (okc_i hv hw (show n < gC V w by omega))
    have hF5 := hS.2.1
    have step : pfF V σ w f (n + 1) ↔ pfF V σ w f n ∨ (PR V (50 * w + n) = true ∧ e = f) := by
      constructor
      · rintro ⟨g, h1, h2, h3⟩
        rcases Nat.lt_or_ge g n with q | q
        · exact Or.inl ⟨g, q, h2, h3⟩
        · have q2 : g = n := by omega
          subst q2
          rw [he2] at h3
          exact Or.inr ⟨h2, (nI_eq (by omega) (by omega)).mp h3⟩
      · rintro (⟨g, h1, h2, h3⟩ | ⟨h1, h2⟩)
        · exact ⟨g, by omega, h2, h3⟩
        · exact ⟨n, by omega, h1, by rw [he2, h2]⟩
    cases hp : PR V (50 * w + n) with
    | false =>
      rw [fgS_n hp]
      have : pfF V σ w f (n + 1) ↔ pfF V σ w f n := by rw [step, hp]; exact ⟨fun z => z.elim id (fun y => by cases y.1), Or.inl⟩
      exact ⟨fun z => i1 (this.mp z), fun z => i2 (fun y => z (this.mpr y))⟩
    | true =>
      rw [fgS_y hp, he2, nI_clamp (by omega)]
      by_cases q : e = f
      · subst q
        rw [upd_s]
        refine ⟨fun _ => ?_, fun z => absurd (step.mpr (Or.inr ⟨hp, rfl⟩)) z⟩
        by_cases r : pfF V σ w e n
        · rw [i1 r, or_b]
        · rw [i2 r]
      · rw [upd_n _ _ (fun z => q z.symm)]
        have : pfF V σ w f (n + 1) ↔ pfF V σ w f n := by rw [step]; exact ⟨fun z => z.elim id (fun y => absurd y.2 q), Or.inl⟩
        exact ⟨fun z => i1 (this.mp z), fun z => i2 (fun y => z (this.mpr y))⟩
noncomputable def fgB (V σ : Mm) (w f : Nat) : Bool := pz (pfF V σ w f (gC V w))
theorem SN_37 {V σ : Mm} {F : Nat} {g : Nat → Int32} (h : SN V σ F) : SN V (sr σ 37 g) F := SN_k h fun k hk => sr_n _ _ (by simp only [List.mem_cons, List.not_mem_nil, or_false] at hk; omega)
set_option maxRecDepth 20000 in
set_option maxHeartbeats 4000000 in
theorem c_flagPrints (l : Launch) (G : Gl) (σ : Mm) (V : Mm) (F w v : Nat) (hv : wf V) (hw : w < 5) (hv5 : v < 5) (hS : SN V σ F) (h0 : ∀ f, f < F → σ 37 f = nI 0) : AMv l G 4 mX8_flagPrints [.ref 22, .int (nI w), .int (nI v)] σ (fun σ' => (∀ f, f < F → σ' 37 f = ((if fgB V σ w f = true then nI 1 else nI 0) ||| (if fgB V σ v f = true then nI 2 else nI 0))) ∧ ∀ k, k ≠ 37 → σ' k = σ k) := by
  refine rw_inV 8 (by decide +kernel) rfl rfl ?_
  intro E hE hX
  subst hE
  refine rw_go hX [(0, .aload_n 0), (1, .iload_n 1), (2, .iconst 1)] (by decide +kernel) (Ps := []) (pc' := 3) (lv' := [(0, .ref 22), (1, .int (nI w)), (2, .int (nI v))]) (st' := [.int (nI 1), .int (nI w), .ref 22]) (σ' := σ) rfl True.intro ?_
  refine rw_callVv hX (as := [.int (nI w), .int (nI 1)]) (rest := []) (c_flagPrintsOf _ _ _ V F w (nI 1) hv hw hS) (by decide +kernel) mvX8_flagPrintsOf lk8_124 (ci := 7) rfl rfl rfl (by decide) (Nat.le_of_ble_eq_true rfl) rfl ?_
  intro σ1 hr
  rw [hr]
  clear hr σ1
  refine rw_go hX [(6, .aload_n 0), (7, .iload_n 2), (8, .iconst 2)] (by decide +kernel) (Ps := []) (pc' := 9) (lv' := [(0, .ref 22), (1, .int (nI w)), (2, .int (nI v))]) (st' := [.int (nI 2), .int (nI v), .ref 22]) (σ' := sr σ 37 (fgS V σ w (nI 1) (gC V w))) rfl True.intro ?_
  refine rw_callVv hX (as := [.int (nI v), .int (nI 2)]) (rest := []) (c_flagPrintsOf _ _ _ V F v (nI 2) hv hv5 (SN_37 hS)) (by decide +kernel) mvX8_flagPrintsOf lk8_124 (ci := 7) rfl rfl rfl (by decide) (Nat.le_of_ble_eq_true rfl) rfl ?_
  intro σ1 hr
  rw [hr]
  clear hr σ1
  exact rw_vret hX (by decide +kernel) (by
  refine ⟨fun f hf => ?_, fun k hk => by rw [sr_n _ _ hk, sr_n _ _ hk]⟩
  rw [sr_s]
  obtain ⟨a1, a2⟩ := fgS_at (b := nI 1) hv hw hS hf _ (Nat.le_refl _)
  obtain ⟨b1, b2⟩ := fgS_at (b := nI 2) hv hv5 (SN_37 (g := fgS V σ w (nI 1) (gC V w)) hS) hf _ (Nat.le_refl _)
  rw [sr_s] at b1 b2
  have e : pfF V (sr σ 37 (fgS V σ w (nI 1) (gC V w))) v f (gC V v) ↔ pfF V σ v f (gC V v) := by
    unfold pfF
    rw [sr_n _ _ (by decide)]
  rw [e] at b1 b2
  unfold fgB
  by_cases p : pfF V σ w f (gC V w) <;> by_cases q : pfF V σ v f (gC V v)
  · rw [pz_t p, pz_t q, b1 q, a1 p, h0 f hf]; rfl
  · rw [pz_t p, pz_f q, b2 q, a1 p, h0 f hf]; rfl
  · rw [pz_f p, pz_t q, b1 q, a2 p, h0 f hf]; rfl
  · rw [pz_f p, pz_f q, b2 q, a2 p, h0 f hf]; rfl)
