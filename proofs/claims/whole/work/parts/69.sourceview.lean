/-! sources by matches of a least length are sources by all matches, those too short left out -/
def flt (ls : Nat) (x : Lx) : Lx := if ls ≤ x.1 then x else (0, none)
noncomputable def pM (V : Mm) (w ls : Nat) : Nat → Nat → Lx
  | 0 => fun _ => (0, none)
  | v + 1 => if v = w then pM V w ls v else oS (V 3) v (mB (ML V w v ls)) (mG (ML V w v ls)) (pM V w ls v) (ML V w v ls).length
theorem pM_s (V : Mm) (w ls : Nat) : pM V w ls (w + 1) = pM V w ls w := if_pos rfl
theorem pM_n (V : Mm) {w v : Nat} (ls : Nat) (h : v ≠ w) : pM V w ls (v + 1) = oS (V 3) v (mB (ML V w v ls)) (mG (ML V w v ls)) (pM V w ls v) (ML V w v ls).length := if_neg h
def stq (D : Nat → Int32) (v i : Nat) (q : Nat × (Nat × Nat)) (x : Lx) : Lx := if q.1 ≤ i ∧ i < q.1 + q.2.2 then bt D q.2.2 v x else x
theorem oS_e {D : Nat → Int32} {w i : Nat} {b b' ln ln' : Nat → Nat} {p p' : Nat → Lx} : ∀ {n : Nat}, (∀ x, x < n → b x = b' x ∧ ln x = ln' x) → p i = p' i → oS D w b ln p n i = oS D w b' ln' p' n i
  | 0, _, h => h
  | n + 1, h, g => by
    rw [oS_1, oS_1, oS_e (n := n) (fun x hx => h x (by omega)) g, (h n (by omega)).1, (h n (by omega)).2]
theorem oS_app (D : Nat → Int32) (w i : Nat) (L : Ml) (q : Nat × (Nat × Nat)) (p : Nat → Lx) : oS D w (mB (L ++ [q])) (mG (L ++ [q])) p (L ++ [q]).length i = stq D w i q (oS D w (mB L) (mG L) p L.length i) := by
  rw [List.length_append]
  show oS D w (mB (L ++ [q])) (mG (L ++ [q])) p (L.length + 1) i = _
  have e1 : mB (L ++ [q]) L.length = q.1 := by unfold mB; rw [getD_end]
  have e2 : mG (L ++ [q]) L.length = q.2.2 := by unfold mG; rw [getD_end]
  rw [oS_1, e1, e2, oS_e (b' := mB L) (ln' := mG L) (p' := p) (fun x hx => ⟨by unfold mB; rw [getD_app hx], by unfold mG; rw [getD_app hx]⟩) rfl]
  rfl
theorem bt_gt {D : Nat → Int32} {len w : Nat} {x : Lx} (h : x.1 < len) : bt D len w x = (len, some w) := by
  unfold bt
  rw [if_neg (show ¬ len = x.1 by omega), if_pos (decide_eq_true h)]
theorem bt_lt {D : Nat → Int32} {len w : Nat} {x : Lx} (h : len < x.1) : bt D len w x = x := by
  unfold bt
  rw [if_neg (show ¬ len = x.1 by omega), if_neg (by rw [decide_eq_true_eq]; omega)]
theorem bt_eqY {D : Nat → Int32} {len w : Nat} {x : Lx} (h : len = x.1) (g : D w < pkE D x.2) : bt D len w x = (len, some w) := by
  unfold bt
  rw [if_pos h, if_pos (decide_eq_true g)]
theorem bt_eqN {D : Nat → Int32} {len w : Nat} {x : Lx} (h : len = x.1) (g : ¬ D w < pkE D x.2) : bt D len w x = x := by
  unfold bt
  rw [if_pos h, if_neg (by rw [decide_eq_true_eq]; exact g)]
theorem bt_or (D : Nat → Int32) (len w : Nat) (x : Lx) : (bt D len w x = (len, some w) ∧ x.1 ≤ len) ∨ (bt D len w x = x ∧ len ≤ x.1) := by
  rcases Nat.lt_trichotomy len x.1 with h | h | h
  · exact Or.inr ⟨bt_lt h, by omega⟩
  · by_cases g : D w < pkE D x.2
    · exact Or.inl ⟨bt_eqY h g, by omega⟩
    · exact Or.inr ⟨bt_eqN h g, by omega⟩
  · exact Or.inl ⟨bt_gt h, by omega⟩
theorem flt_y {ls : Nat} {x : Lx} (h : ls ≤ x.1) : flt ls x = x := if_pos h
theorem flt_n {ls : Nat} {x : Lx} (h : ¬ ls ≤ x.1) : flt ls x = (0, none) := if_neg h
theorem stq_y {D : Nat → Int32} {v i ls : Nat} {q : Nat × (Nat × Nat)} {x : Lx} (h1 : 1 ≤ ls) (h : ls ≤ q.2.2) : stq D v i q (flt ls x) = flt ls (stq D v i q x) := by
  unfold stq
  by_cases c : q.1 ≤ i ∧ i < q.1 + q.2.2
  · rw [if_pos c, if_pos c]
    by_cases a : ls ≤ x.1
    · rw [flt_y a]
      rcases bt_or D q.2.2 v x with ⟨e, g⟩ | ⟨e, g⟩
      · rw [e, flt_y (show ls ≤ q.2.2 from h)]
      · rw [e, flt_y a]
    · rw [flt_n a, bt_gt (show (0, (none : Option Nat)).1 < q.2.2 by show 0 < q.2.2; omega), bt_gt (x := x) (by omega), flt_y (show ls ≤ q.2.2 from h)]
  · rw [if_neg c, if_neg c]
theorem stq_n {D : Nat → Int32} {v i ls : Nat} {q : Nat × (Nat × Nat)} {x : Lx} (h : q.2.2 < ls) : flt ls x = flt ls (stq D v i q x) := by
  unfold stq
  by_cases c : q.1 ≤ i ∧ i < q.1 + q.2.2
  · rw [if_pos c]
    rcases bt_or D q.2.2 v x with ⟨e, g⟩ | ⟨e, g⟩
    · rw [e, flt_n (show ¬ ls ≤ x.1 by omega), flt_n (show ¬ ls ≤ q.2.2 by omega)]
    · rw [e]
  · rw [if_neg c]
def fltC (D : Nat → Int32) (v i ls : Nat) (L L1 : Ml) : Prop := ∀ p p' : Nat → Lx, p' i = flt ls (p i) → oS D v (mB L) (mG L) p' L.length i = flt ls (oS D v (mB L1) (mG L1) p L1.length i)
theorem mLr_flt {V : Mm} (hv : wf V) {w v ls i0 : Nat} (D : Nat → Int32) (i : Nat) (h1 : 1 ≤ ls) (hw : w < 5) (hv5 : v < 5) (hi : i0 < lC V w) {acc acc1 : Ml} (h : fltC D v i ls acc acc1) : ∀ j, j ≤ lC V v → fltC D v i ls (mLr V w v ls acc i0 j) (mLr V w v 1 acc1 i0 j)
  | 0, _ => h
  | j + 1, hj => by
    have ih := mLr_flt hv D i h1 hw hv5 hi h j (by omega)
    intro p p' hp
    rw [mLr_1, mLr_1, mcb_mc hi (show j < lC V v by omega), mcb_mc hi (show j < lC V v by omega)]
    cases hm : mcb V w v i0 j with
    | false =>
      rw [Bool.false_and, Bool.false_and, if_neg (by decide), if_neg (by decide)]
      exact ih p p' hp
    | true =>
      have hr : 2 ≤ rn V w v i0 j := by
        have e : mc V w v 0 i0 j = true := by rw [mcb_mc hi (show j < lC V v by omega), hm, decide_eq_true (Nat.zero_le _)]; rfl
        exact (mc_run hv hw hv5 e).1
      rw [Bool.true_and, Bool.true_and, decide_eq_true (show 1 ≤ rn V w v i0 j by omega), if_pos rfl, oS_app]
      by_cases g : ls ≤ rn V w v i0 j
      · rw [decide_eq_true g, if_pos rfl, oS_app, ih p p' hp]
        exact stq_y h1 g
      · rw [decide_eq_false g, if_neg (by decide), ih p p' hp]
        exact stq_n (show rn V w v i0 j < ls by omega)
theorem mLa_flt {V : Mm} (hv : wf V) {w v ls : Nat} (D : Nat → Int32) (i : Nat) (h1 : 1 ≤ ls) (hw : w < 5) (hv5 : v < 5) : ∀ i0, i0 ≤ lC V w → fltC D v i ls (mLa V w v ls i0) (mLa V w v 1 i0)
  | 0, _ => fun p p' hp => hp
  | i0 + 1, h => mLr_flt hv D i h1 hw hv5 (by omega) (mLa_flt hv D i h1 hw hv5 i0 (by omega)) _ (Nat.le_refl _)
theorem pM_pT {V : Mm} (hv : wf V) {w ls : Nat} (h1 : 1 ≤ ls) (hw : w < 5) (i : Nat) : ∀ v, v ≤ 5 → pM V w ls v i = flt ls (pT V w v i)
  | 0, _ => (flt_n (x := ((0, none) : Lx)) (show ¬ ls ≤ 0 by omega)).symm
  | v + 1, h => by
    have ih := pM_pT hv h1 hw i v (by omega)
    by_cases e : v = w
    · subst e; rw [pM_s, pT_s]; exact ih
    · rw [pM_n V ls e, pT_n V e]
      exact mLa_flt hv (V 3) i h1 hw (by omega) _ (Nat.le_refl _) (pT V w v) (pM V w ls v) ih
theorem sT_pM {V : Mm} (hv : wf V) {w ls : Nat} (h1 : 1 ≤ ls) (hw : w < 5) (i : Nat) : sT V w ls i = (pM V w ls 5 i).2 := by
  rw [pM_pT hv h1 hw i 5 (Nat.le_refl _)]
  unfold sT flt
  split <;> rfl
def gx (x : Lx) : Prop := x.1 ≤ 50 ∧ (∀ v, x.2 = some v → v < 5) ∧ (1 ≤ x.1 → ∃ v, x.2 = some v)
theorem gx_bt {D : Nat → Int32} {len w : Nat} {x : Lx} (h : gx x) (hl : len ≤ 50) (hw : w < 5) : gx (bt D len w x) := by
  rcases bt_or D len w x with ⟨e, -⟩ | ⟨e, -⟩
  · rw [e]; exact ⟨hl, fun v hv => by cases hv; exact hw, fun _ => ⟨w, rfl⟩⟩
  · rw [e]; exact h
theorem gx_oS {D : Nat → Int32} {w i : Nat} {b ln : Nat → Nat} {p : Nat → Lx} (h : gx (p i)) (hw : w < 5) : ∀ n, (∀ x, x < n → ln x ≤ 50) → gx (oS D w b ln p n i)
  | 0, _ => h
  | n + 1, hl => by
    have ih := gx_oS (D := D) (b := b) h hw n (fun x hx => hl x (by omega))
    rw [oS_1]
    split
    · exact gx_bt ih (hl n (by omega)) hw
    · exact ih
theorem pM_g {V : Mm} (hv : wf V) {w ls : Nat} (hw : w < 5) (i : Nat) : ∀ v, v ≤ 5 → gx (pM V w ls v i)
  | 0, _ => ⟨Nat.zero_le _, (fun v h => by cases h), fun h => by have : 1 ≤ 0 := h; omega⟩
  | v + 1, h => by
    have ih := pM_g hv (ls := ls) hw i v (by omega)
    by_cases e : v = w
    · subst e; rw [pM_s]; exact ih
    · rw [pM_n V ls e]
      exact gx_oS ih (by omega) _ fun x hx => (ML_at hv hw (by omega) hx).2.2.2.2.2
theorem ML_nil {V : Mm} {w v ls : Nat} (h : vS V v = 0) : ML V w v ls = [] := by
  have l : lC V v = 0 := by unfold lC; rw [h]; rfl
  unfold ML
  generalize lC V w = n
  induction n with
  | zero => rfl
  | succ n ih => rw [mLa_1, ih, l]; rfl
