/-! prints by number; matches told; likeness; answers of the calls that only tell -/
noncomputable def pNs (V : Mm) (w : Nat) (g : Nat) : Nat := cB (fun g => PR V (50 * w + g)) g
noncomputable def pAtF (V : Mm) (w : Nat) (k : Int32) : Nat → Option Nat
  | 0 => none
  | g + 1 => if PR V (50 * w + g) = true ∧ nI (pNs V w g) = k then some g else pAtF V w k g
theorem cB_up (b : Nat → Bool) : ∀ {n m : Nat}, n ≤ m → cB b n ≤ cB b m
  | n, 0, h => by rw [show n = 0 by omega]; exact Nat.le_refl _
  | n, m + 1, h => by
    by_cases e : n = m + 1
    · rw [e]; exact Nat.le_refl _
    · have := cB_up b (n := n) (m := m) (by omega)
      rw [cB_1]
      omega
theorem pAtF_some {V : Mm} {w : Nat} {k : Int32} {g : Nat} (hp : PR V (50 * w + g) = true) (hk : nI (pNs V w g) = k) (hg : g < 50) : ∀ {n : Nat}, g < n → n ≤ 50 → pAtF V w k n = some g
  | 0, h, _ => by omega
  | n + 1, h, hn => by
    by_cases e : g = n
    · subst e; exact if_pos ⟨hp, hk⟩
    · have : ¬ (PR V (50 * w + n) = true ∧ nI (pNs V w n) = k) := by
        rintro ⟨q1, q2⟩
        rw [← hk] at q2
        have l1 : pNs V w n ≤ n := cB_le _ n
        have l2 : pNs V w g ≤ g := cB_le _ g
        have := (nI_eq (by omega) (by omega)).mp q2
        have l3 : pNs V w (g + 1) ≤ pNs V w n := cB_up _ (by omega)
        have l4 : pNs V w (g + 1) = pNs V w g + 1 := cB_y hp
        omega
      show (if PR V (50 * w + n) = true ∧ nI (pNs V w n) = k then some n else pAtF V w k n) = some g
      rw [if_neg this]
      exact pAtF_some hp hk hg (by omega) (by omega)
theorem pAtF_none {V : Mm} {w : Nat} {k : Int32} : ∀ {n : Nat}, (∀ g, g < n → PR V (50 * w + g) = true → nI (pNs V w g) ≠ k) → pAtF V w k n = none
  | 0, _ => rfl
  | n + 1, h => by
    show (if PR V (50 * w + n) = true ∧ nI (pNs V w n) = k then some n else pAtF V w k n) = none
    rw [if_neg (fun z => h n (by omega) z.1 z.2)]
    exact pAtF_none fun g hg => h g (by omega)
def oel (o : Option Nat) (b : Int32) (f : Nat → Int32) : Int32 := match o with
  | none => b
  | some g => f g
theorem oel_n (b : Int32) (f : Nat → Int32) : oel none b f = b := rfl
theorem oel_s (g : Nat) (b : Int32) (f : Nat → Int32) : oel (some g) b f = f g := rfl
noncomputable def aPrint (V : Mm) (x k q : Int32) : Int32 := if 0 ≤ x ∧ x ≤ 4 then (if 0 ≤ q ∧ q < nI 3 then (if vS V x.toNatClampNeg = 0 then -(nI 11) else if k = -(nI 1) then nI (pNs V x.toNatClampNeg (gC V x.toNatClampNeg)) else oel (pAtF V x.toNatClampNeg k (gC V x.toNatClampNeg)) (-(nI 12)) (fun g => if q = 0 then nI g else if q = nI 1 then nI (WN V (50 * x.toNatClampNeg + g)) else bz (CM V (50 * x.toNatClampNeg + g)))) else -(nI 2)) else -(nI 2)
noncomputable def aCommon (V : Mm) (x q : Int32) : Int32 := if 0 ≤ x ∧ x ≤ 4 then (if 0 ≤ q ∧ q < nI 2 then (if vS V x.toNatClampNeg = 0 then -(nI 11) else nI (cB (cmB V x.toNatClampNeg (decide (q = nI 1))) (gC V x.toNatClampNeg))) else -(nI 2)) else -(nI 2)
abbrev tw (x y : Int32) : Prop := 0 ≤ x ∧ x ≤ 4 ∧ 0 ≤ y ∧ y ≤ 4 ∧ x ≠ y
/-- what is in the chain -/
def chn (L : Ml) (x : Nat) : Bool := mk (mB L) (mO L) (mG L) L.length L.length x
def mtl (L : Ml) (q : Int32) (i : Nat) : Int32 := if q = 0 then nI (mB L i) else if q = nI 1 then nI (mO L i) else if q = nI 2 then nI (mG L i) else bz (chn L i)
def aMt (L : Ml) (k q : Int32) : Int32 := if k = -(nI 1) then nI L.length else if k < 0 then -(nI 12) else if k < nI L.length then mtl L q k.toNatClampNeg else -(nI 12)
noncomputable def aMatch (V : Mm) (x y k q : Int32) : Int32 := if tw x y then (if 0 ≤ q ∧ q < nI 4 then (if vS V x.toNatClampNeg = 0 then -(nI 11) else if vS V y.toNatClampNeg = 0 then -(nI 11) else aMt (ML V x.toNatClampNeg y.toNatClampNeg (vR V 4)) k q) else -(nI 2)) else -(nI 2)
def aCh (L : Ml) (q : Int32) : Int32 := if q = nI 1 then nI (cB (chn L) L.length) else if q = 0 then nI (sB (fun x => decide (chn L x = true)) (mG L) L.length) else nI (sB (fun x => decide (chn L x = false)) (mG L) L.length)
noncomputable def aChain (V : Mm) (x y q : Int32) : Int32 := if tw x y then (if 0 ≤ q ∧ q < nI 3 then (if vS V x.toNatClampNeg = 0 then -(nI 11) else if vS V y.toNatClampNeg = 0 then -(nI 11) else aCh (ML V x.toNatClampNeg y.toNatClampNeg (vR V 4)) q) else -(nI 2)) else -(nI 2)
noncomputable def lkF (V : Mm) (w g : Nat) : Bool := (PR V (50 * w + g) && !CM V (50 * w + g)) && !pz (∃ h, h < g ∧ PR V (50 * w + h) = true ∧ lkP (LT V) (vR V 0) (50 * w + g) (50 * w + h))
noncomputable def isPv (V : Mm) (v p : Nat) : Bool := pz (∃ h, h < gC V v ∧ PR V (50 * v + h) = true ∧ lkP (LT V) (vR V 0) p (50 * v + h))
noncomputable def LBo (V : Mm) (w v : Nat) : Nat := cB (fun g => lkF V w g && isPv V v (50 * w + g)) (gC V w)
noncomputable def LAn (V : Mm) (w v : Nat) : Nat := cB (lkF V w) (gC V w) + cB (fun g => lkF V v g && !isPv V w (50 * v + g)) (gC V v)
noncomputable def aLike (V : Mm) (x y p : Int32) : Int32 := if tw x y then (if 0 ≤ p ∧ p < nI 2 then (if vS V x.toNatClampNeg = 0 then -(nI 11) else if vS V y.toNatClampNeg = 0 then -(nI 11) else nI (lowT (LBo V x.toNatClampNeg y.toNatClampNeg) (LAn V x.toNatClampNeg y.toNatClampNeg) p.toNatClampNeg)) else -(nI 2)) else -(nI 2)
theorem cB_bij : ∀ {n m : Nat} {b b' : Nat → Bool} (φ : Nat → Nat), (∀ x, x < n → b x = true → φ x < m ∧ b' (φ x) = true) → (∀ x y, x < n → y < n → b x = true → b y = true → φ x = φ y → x = y) → (∀ y, y < m → b' y = true → ∃ x, x < n ∧ b x = true ∧ φ x = y) → cB b n = cB b' m
  | 0, m, b, b', φ, _, _, h3 => (cB_none (b := b') (k := m) fun v hv => by
      cases e : b' v with
      | false => rfl
      | true => obtain ⟨x, hx, -⟩ := h3 v hv e; omega).symm
  | n + 1, m, b, b', φ, h1, h2, h3 => by
    cases e : b n with
    | false =>
      rw [cB_n e]
      refine cB_bij φ (fun x hx => h1 x (by omega)) (fun x y hx hy => h2 x y (by omega) (by omega)) fun y hy hb => ?_
      obtain ⟨x, hx, a, c⟩ := h3 y hy hb
      refine ⟨x, ?_, a, c⟩
      rcases Nat.lt_or_ge x n with q | q
      · exact q
      · rw [show x = n by omega, e] at a; cases a
    | true =>
      obtain ⟨g1, g2⟩ := h1 n (by omega) e
      have ih := cB_bij (n := n) (m := m) (b := b) (b' := fun y => b' y && decide (y ≠ φ n)) φ (fun x hx hb => ⟨(h1 x (by omega) hb).1, by
        rw [(h1 x (by omega) hb).2, Bool.true_and]
        exact decide_eq_true fun z => by have := h2 x n (by omega) (by omega) hb e z; omega⟩) (fun x y hx hy => h2 x y (by omega) (by omega)) (fun y hy hb => by
        rw [Bool.and_eq_true, decide_eq_true_eq] at hb
        obtain ⟨x, hx, a, c⟩ := h3 y hy hb.1
        refine ⟨x, ?_, a, c⟩
        rcases Nat.lt_or_ge x n with q | q
        · exact q
        · rw [show x = n by omega] at c; exact absurd c.symm hb.2)
      rw [cB_y e, ih]
      exact (cB_one (b := fun y => b' y && decide (y ≠ φ n)) (b' := b') (w := φ n) (by show (b' (φ n) && decide (φ n ≠ φ n)) = false; rw [decide_eq_false (fun z => z rfl)]; exact Bool.and_false _) g2 (fun v hv => by show (b' v && decide (v ≠ φ n)) = b' v; rw [decide_eq_true hv]; exact Bool.and_true _) g1).symm
theorem cB_split (b c : Nat → Bool) : ∀ n, cB (fun x => b x || c x) n = cB b n + cB (fun x => c x && !b x) n
  | 0 => rfl
  | n + 1 => by
    rw [cB_1, cB_1, cB_1, cB_split b c n]
    cases b n <;> cases c n <;> simp <;> omega
noncomputable def cmm (σ : Mm) (f : Nat) : Bool := decide (σ 35 f ≥ σ 31 8) || decide (σ 38 f ≠ 0)
theorem pz_i {P : Prop} (h : pz P = true) : P := by
  by_cases g : P
  · exact g
  · rw [pz_f g] at h; cases h
theorem form_cnt {V σ : Mm} {F w : Nat} (hv : wf V) (hw : w < 5) (hS : SN V σ F) (Q : Nat → Bool) : cB (fun g => lkF V w g && Q (σ 29 (50 * w + g)).toNatClampNeg) (gC V w) = cB (fun f => (fgB V σ w f && !cmm σ f) && Q f) F := by
  have hF := hS.2.1
  have hform := fun g (hg : g < gC V w) => hS.2.2.2.2.1 _ (okc_i hv hw hg)
  have heq := fun g h (hg : g < gC V w) (hh : h < gC V w) => hS.2.2.2.2.2.1 _ _ (okc_i hv hw hg) (okc_i hv hw hh)
  refine cB_bij (fun g => (σ 29 (50 * w + g)).toNatClampNeg) (fun g hg hb => ?_) (fun g h hg hh hb hc e => ?_) (fun f hf hb => ?_)
  · rw [Bool.and_eq_true] at hb
    obtain ⟨f, a1, a2, a3, a4⟩ := hform g hg
    have e : (σ 29 (50 * w + g)).toNatClampNeg = f := by rw [a2, nI_clamp (by omega)]
    rw [e] at hb ⊢
    refine ⟨a1, ?_⟩
    have hb1 := hb.1
    unfold lkF at hb1
    rw [Bool.and_eq_true, Bool.and_eq_true] at hb1
    rw [hb.2, Bool.and_true]
    have c1 : fgB V σ w f = true := pz_t ⟨g, hg, hb1.1.1, a2⟩
    have c2 : cmm σ f = CM V (50 * w + g) := a4
    rw [c1, c2, hb1.1.2]
    rfl
  · rw [Bool.and_eq_true] at hb hc
    obtain ⟨f, a1, a2, -⟩ := hform g hg
    obtain ⟨f', b1, b2, -⟩ := hform h hh
    rw [a2, b2, nI_clamp (by omega), nI_clamp (by omega)] at e
    have hl := (heq g h hg hh).mp (by rw [a2, b2, e])
    have hb1 := hb.1
    have hc1 := hc.1
    unfold lkF at hb1 hc1
    rw [Bool.and_eq_true, Bool.and_eq_true] at hb1 hc1
    rcases Nat.lt_trichotomy g h with q | q | q
    · rw [pz_t ⟨g, q, hb1.1.1, lkP_s hl⟩] at hc1; cases hc1.2
    · exact q
    · rw [pz_t ⟨h, q, hc1.1.1, hl⟩] at hb1; cases hb1.2
  · rw [Bool.and_eq_true, Bool.and_eq_true] at hb
    obtain ⟨g0, p1, p2, p3⟩ := pz_i hb.1.1
    obtain ⟨g, ⟨q1, q2, q3⟩, q4⟩ := pk_least (fun g => g < gC V w ∧ PR V (50 * w + g) = true ∧ σ 29 (50 * w + g) = nI f) ⟨g0, p1, p2, p3⟩
    have e : (σ 29 (50 * w + g)).toNatClampNeg = f := by rw [q3, nI_clamp (by omega)]
    refine ⟨g, q1, ?_, e⟩
    rw [e, hb.2, Bool.and_true]
    unfold lkF
    obtain ⟨f', a1, a2, a3, a4⟩ := hform g q1
    have ef : f' = f := (nI_eq (by omega) (by omega)).mp (a2.symm.trans q3)
    subst ef
    have c2 : cmm σ f' = CM V (50 * w + g) := a4
    rw [q2, ← c2, hb.1.2, Bool.true_and, Bool.true_and]
    rw [pz_f]
    · rfl
    · rintro ⟨h, h1, h2, h3⟩
      exact q4 h h1 ⟨by omega, h2, ((heq g h q1 (by omega)).mpr h3).symm.trans q3⟩
theorem isPv_f {V σ : Mm} {F w v g : Nat} (hv : wf V) (hw : w < 5) (hv5 : v < 5) (hS : SN V σ F) (hg : g < gC V w) : isPv V v (50 * w + g) = fgB V σ v (σ 29 (50 * w + g)).toNatClampNeg := by
  have hF := hS.2.1
  obtain ⟨f, a1, a2, -⟩ := hS.2.2.2.2.1 _ (okc_i hv hw hg)
  rw [a2, nI_clamp (by omega)]
  refine pz_c ⟨fun ⟨h, h1, h2, h3⟩ => ⟨h, h1, h2, ?_⟩, fun ⟨h, h1, h2, h3⟩ => ⟨h, h1, h2, ?_⟩⟩
  · rw [← a2]; exact ((hS.2.2.2.2.2.1 _ _ (okc_i hv hw hg) (okc_i hv hv5 h1)).mpr h3).symm
  · exact (hS.2.2.2.2.2.1 _ _ (okc_i hv hw hg) (okc_i hv hv5 h1)).mp (a2.trans h3.symm)
theorem like_cnt {V σ σ' : Mm} {F w v : Nat} (hv : wf V) (hw : w < 5) (hv5 : v < 5) (hS : SN V σ F) (h37 : ∀ f, f < F → σ' 37 f = ((if fgB V σ w f = true then nI 1 else nI 0) ||| (if fgB V σ v f = true then nI 2 else nI 0))) (hk : ∀ k, k ≠ 37 → σ' k = σ k) : cB (fB3 σ') F = LBo V w v ∧ cB (fB0 σ') F = LAn V w v := by
  have n3 : ∀ a b : Bool, (decide (((if a = true then nI 1 else nI 0) ||| (if b = true then nI 2 else nI 0) : Int32) = nI 3)) = (a && b) := by decide +kernel
  have n0 : ∀ a b : Bool, (decide (((if a = true then nI 1 else nI 0) ||| (if b = true then nI 2 else nI 0) : Int32) ≠ 0)) = (a || b) := by decide +kernel
  have e3 : ∀ f, f < F → fB3 σ' f = ((fgB V σ w f && !cmm σ f) && fgB V σ v f) := fun f hf => by
    unfold fB3
    rw [hk 35 (by decide), hk 31 (by decide), hk 38 (by decide), h37 f hf, n3]
    show (_ && !cmm σ f) = _
    cases fgB V σ w f <;> cases cmm σ f <;> cases fgB V σ v f <;> rfl
  have e0 : ∀ f, f < F → fB0 σ' f = ((fgB V σ w f && !cmm σ f) || (fgB V σ v f && !cmm σ f)) := fun f hf => by
    unfold fB0
    rw [hk 35 (by decide), hk 31 (by decide), hk 38 (by decide), h37 f hf, n0]
    show (_ && !cmm σ f) = _
    cases fgB V σ w f <;> cases cmm σ f <;> cases fgB V σ v f <;> rfl
  refine ⟨?_, ?_⟩
  · rw [cB_congr e3, ← form_cnt hv hw hS (fgB V σ v)]
    unfold LBo
    exact cB_congr fun g hg => by rw [isPv_f hv hw hv5 hS hg]
  · rw [cB_congr e0, cB_split]
    unfold LAn
    congr 1
    · have := form_cnt hv hw hS (fun _ => true)
      simp only [Bool.and_true] at this
      exact this.symm
    · have := form_cnt hv hv5 hS (fun f => !fgB V σ w f)
      rw [cB_congr (b' := fun f => (fgB V σ v f && !cmm σ f) && !fgB V σ w f) (fun f _ => by cases fgB V σ w f <;> cases cmm σ f <;> cases fgB V σ v f <;> rfl), ← this]
      exact cB_congr fun g hg => by rw [isPv_f hv hv5 hw hS hg]
theorem LBo_50 {V : Mm} (hv : wf V) {w v : Nat} (hw : w < 5) (hv5 : v < 5) : LBo V w v ≤ 50 ∧ LAn V w v ≤ 100 := by
  have h1 := gC_50 hv hw
  have h2 := gC_50 hv hv5
  have a : LBo V w v ≤ gC V w := cB_le _ _
  have b : cB (lkF V w) (gC V w) ≤ gC V w := cB_le _ _
  have c : cB (fun g => lkF V v g && !isPv V w (50 * v + g)) (gC V v) ≤ gC V v := cB_le _ _
  unfold LAn
  omega
theorem pC_e {V σ : Mm} {w : Nat} (h : RD V w σ) : ∀ {g : Nat}, g ≤ gC V w → pC (σ 30) w g = pNs V w g
  | 0, _ => rfl
  | g + 1, hg => by
    have ih := pC_e h (g := g) (by omega)
    have q := (h.2.2 g (by omega)).2
    have e : pC (σ 30) w (g + 1) = if σ 30 (50 * w + g) ≠ 0 then pC (σ 30) w g + 1 else pC (σ 30) w g := rfl
    rw [e, ih]
    unfold pNs
    rw [cB_1]
    by_cases z : σ 30 (50 * w + g) ≠ 0
    · rw [if_pos z, if_pos (q.mp z)]
    · rw [if_neg z, if_neg (fun y => z (q.mpr y)), Nat.add_zero]
theorem tw_n {x y : Int32} (h : tw x y) : ∃ w u, (w < 5 ∧ u < 5) ∧ (x = nI w ∧ y = nI u) ∧ w ≠ u := by
  obtain ⟨w, hw, e1⟩ := rng (m := 4) (by omega) ⟨h.1, h.2.1⟩
  obtain ⟨u, hu, e2⟩ := rng (m := 4) (by omega) ⟨h.2.2.1, h.2.2.2.1⟩
  exact ⟨w, u, ⟨by omega, by omega⟩, ⟨e1, e2⟩, fun z => h.2.2.2.2 (by rw [e1, e2, z])⟩
theorem c_tellMV (l : Launch) (G : Gl) (σ : Mm) (L : Ml) (i : Nat) (xq : Int32) (h : 0 ≤ xq ∧ xq < nI 4) (hi : i < 840) (h1 : σ 46 i = nI (mB L i)) (h2 : σ 47 i = nI (mO L i)) (h3 : σ 48 i = nI (mG L i)) (h4 : xq = nI 3 → decide (σ 51 i ≠ 0) = chn L i) : AMi l G 2 mX2_tellMatch [.ref 39, .int (nI i), .int xq] σ (fun r σ' => σ' = σ ∧ r = mtl L xq i) := by
  obtain ⟨c, hc, rfl⟩ := rngO (m := 4) (by omega) h
  unfold mtl
  rcases (show c = 0 ∨ c = 1 ∨ c = 2 ∨ c = 3 by omega) with rfl | rfl | rfl | rfl
  · rw [if_pos nI_0]; exact (c_tellMatch0 l G σ i hi).mono fun r σ' z => ⟨z.1, z.2.trans h1⟩
  · rw [if_neg (by decide +kernel), if_pos rfl]; exact (c_tellMatch1 l G σ i hi).mono fun r σ' z => ⟨z.1, z.2.trans h2⟩
  · rw [if_neg (by decide +kernel), if_neg (by decide +kernel), if_pos rfl]; exact (c_tellMatch2 l G σ i hi).mono fun r σ' z => ⟨z.1, z.2.trans h3⟩
  · rw [if_neg (by decide +kernel), if_neg (by decide +kernel), if_neg (by decide +kernel)]; exact (c_tellMatch3 l G σ i hi).mono fun r σ' z => ⟨z.1, by rw [z.2, h4 rfl]⟩
theorem lkM_r {L : Ml} {τ : Mm} (h : MT L τ) : (∀ k, k ∉ [49, 50, 51] → lkM (mB L) (mO L) (mG L) L.length τ k = τ k) ∧ ∀ x, x < L.length → decide (lkM (mB L) (mO L) (mG L) L.length τ 51 x ≠ 0) = chn L x := by
  refine ⟨fun k hk => ?_, fun x hx => ?_⟩
  · simp only [List.mem_cons, List.not_mem_nil, or_false, not_or] at hk
    unfold lkM
    rw [sr_n _ _ hk.2.2, kS_n _ _ _ _ _ _ hk.1 hk.2.1]
  · unfold lkM
    rw [sr_s]
    unfold mR51 chn
    cases e : mk (mB L) (mO L) (mG L) L.length L.length x with
    | true => rw [if_pos rfl]; decide +kernel
    | false => rw [if_neg (by decide), (h.2 x hx).2.2.2]; decide +kernel
