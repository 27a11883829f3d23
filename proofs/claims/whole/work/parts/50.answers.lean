/-! the calls on works: what they answer, what they change -/
def fdB (n a b c d e : Int32) : Prop := ¬ n < nI 1 ∧ ¬ n > nI 5 ∧ (0 ≤ a ∧ a ≤ 255) ∧ (0 ≤ b ∧ b ≤ 255) ∧ (0 ≤ c ∧ c ≤ 255) ∧ (0 ≤ d ∧ d ≤ 255) ∧ (0 ≤ e ∧ e ≤ 255)
noncomputable def aFeed (t : Nat) (n a b c d e : Int32) : Int32 := if pz (fdB n a b c d e) = true then (if n ≤ nI (50 - t) then nI (t + n.toNatClampNeg) else -(nI 4)) else -(nI 2)
def sel5 (a b c d e : Int32) (j : Nat) : Int32 := if j = 0 then a else if j = 1 then b else if j = 2 then c else if j = 3 then d else e
def tpF (f : Nat → Int32) (t n : Nat) (a b c d e : Int32) : Nat → Int32 := fun j => if t ≤ j ∧ j < t + n then sel5 a b c d e (j - t) else f j
noncomputable def sFeed (rt rc cc : Nat) (σ : Mm) (t : Nat) (n a b c d e : Int32) : Mm := if pz (fdB n a b c d e) = true then (if n ≤ nI (50 - t) then sw (sr σ rt (tpF (σ rt) t n.toNatClampNeg a b c d e)) rc cc (nI (t + n.toNatClampNeg)) else σ) else σ
noncomputable def aWork (f : Nat → Int32) (t : Nat) (x k d : Int32) : Int32 := if 0 ≤ x ∧ x ≤ 4 then (if 0 ≤ k ∧ k ≤ 5 then (if 0 ≤ d ∧ d ≤ 99 then (if pz (rawA f t) = true then nI t else -(nI 3)) else -(nI 2)) else -(nI 2)) else -(nI 2)
def wkS (σ : Mm) (w t : Nat) (k d : Int32) : Mm := sw (sw (sw (sr (sw σ 0 6 (nI 0)) 2 (va_cpy ((sw σ 0 6 (nI 0)) 65) ((sw σ 0 6 (nI 0)) 2) 0 (50 * w) t)) 3 w (nI t)) 4 w k) 5 w d
noncomputable def sWork (σ : Mm) (t : Nat) (x k d : Int32) : Mm := if 0 ≤ x ∧ x ≤ 4 then (if 0 ≤ k ∧ k ≤ 5 then (if 0 ≤ d ∧ d ≤ 99 then (if pz (rawA (σ 65) t) = true then wkS σ x.toNatClampNeg t k d else sw σ 0 6 (nI 0)) else σ) else σ) else σ
def spOK (at_ fr n : Int32) (s t : Nat) : Prop := ∃ a f k, at_ = nI a ∧ fr = nI f ∧ n = nI k ∧ a ≤ s ∧ 1 ≤ k ∧ f + k ≤ t
noncomputable def aSpl (V : Mm) (x at_ y fr n : Int32) : Int32 := if 0 ≤ x ∧ x ≤ 4 then (if 0 ≤ y ∧ y ≤ 4 then (if vS V x.toNatClampNeg = 0 then -(nI 11) else if vS V y.toNatClampNeg = 0 then -(nI 11) else if pz (spOK at_ fr n (vS V x.toNatClampNeg) (vS V y.toNatClampNeg)) = true then (if n ≤ nI (50 - vS V x.toNatClampNeg) then nI (vS V x.toNatClampNeg + n.toNatClampNeg) else -(nI 4)) else -(nI 12)) else -(nI 2)) else -(nI 2)
def splS (σ : Mm) (w a x f k s : Nat) : Mm := sw (sr (sr σ 7 (insH w x f k σ)) 2 (insB w a x f k s σ)) 3 w (nI (s + k))
noncomputable def sSpl (V σ : Mm) (x at_ y fr n : Int32) : Mm := if 0 ≤ x ∧ x ≤ 4 then (if 0 ≤ y ∧ y ≤ 4 then (if vS V x.toNatClampNeg = 0 then σ else if vS V y.toNatClampNeg = 0 then σ else if pz (spOK at_ fr n (vS V x.toNatClampNeg) (vS V y.toNatClampNeg)) = true then (if n ≤ nI (50 - vS V x.toNatClampNeg) then splS σ x.toNatClampNeg at_.toNatClampNeg y.toNatClampNeg fr.toNatClampNeg n.toNatClampNeg (vS V x.toNatClampNeg) else σ) else σ) else σ) else σ
theorem subr {n f : Int32} {t : Nat} (hf : ¬ f < 0) (hn : ¬ n < nI 1) (h : n ≤ nI t - f) (ht : t ≤ 50) : ∃ k j, n = nI k ∧ f = nI j ∧ 1 ≤ k ∧ j + k ≤ t := by
  obtain ⟨j, hj, rfl⟩ := nI_of hf
  have hn0 : ¬ n < 0 := fun z => hn (Int32.lt_of_lt_of_le z (nI_pos' (by omega)))
  obtain ⟨k, hk, rfl⟩ := nI_of hn0
  have hk1 : 1 ≤ k := Nat.not_lt.mp fun z => hn (nI_lt z (by omega))
  refine ⟨k, j, rfl, rfl, hk1, ?_⟩
  rcases Nat.lt_or_ge t j with q | q
  · exfalso
    have h1 := Int32.le_iff_toInt_le.mp h
    have h2 : (nI t - nI j).toInt = (t : Int) - j := by
      rw [Int32.toInt_sub, nI_toInt (by omega), nI_toInt hj, Int.bmod_eq_of_le (by omega) (by omega)]
    rw [h2, nI_toInt hk] at h1
    omega
  · rw [pk_sub q] at h
    have := (nI_leI hk (by omega)).mp h
    omega
theorem subr_no {f k t : Nat} (h : f + k ≤ t) (ht : t ≤ 50) : nI k ≤ nI t - nI f := by
  rw [pk_sub (by omega)]
  exact nI_le (by omega) (by omega)
def ctOK (at_ n : Int32) (s : Nat) : Prop := ∃ a k, at_ = nI a ∧ n = nI k ∧ 1 ≤ k ∧ a + k ≤ s
noncomputable def aCut (V : Mm) (x at_ n : Int32) : Int32 := if 0 ≤ x ∧ x ≤ 4 then (if vS V x.toNatClampNeg = 0 then -(nI 11) else if pz (ctOK at_ n (vS V x.toNatClampNeg)) = true then (if n = nI (vS V x.toNatClampNeg) then -(nI 3) else nI (vS V x.toNatClampNeg - n.toNatClampNeg)) else -(nI 12)) else -(nI 2)
def cutS (σ : Mm) (w a k s : Nat) : Mm := sw (sr σ 2 (va_cpy (σ 2) (σ 2) (50 * w + a + k) (50 * w + a) (s - a - k))) 3 w (nI (s - k))
noncomputable def sCut (V σ : Mm) (x at_ n : Int32) : Mm := if 0 ≤ x ∧ x ≤ 4 then (if vS V x.toNatClampNeg = 0 then σ else if pz (ctOK at_ n (vS V x.toNatClampNeg)) = true then (if n = nI (vS V x.toNatClampNeg) then σ else cutS σ x.toNatClampNeg at_.toNatClampNeg n.toNatClampNeg (vS V x.toNatClampNeg)) else σ) else σ
def aDrop (V : Mm) (x : Int32) : Int32 := if 0 ≤ x ∧ x ≤ 4 then (if vS V x.toNatClampNeg = 0 then -(nI 11) else nI (vS V x.toNatClampNeg)) else -(nI 2)
def sDrop (r : Nat) (V σ : Mm) (x : Int32) : Mm := if 0 ≤ x ∧ x ≤ 4 then (if vS V x.toNatClampNeg = 0 then σ else sw σ r x.toNatClampNeg (nI 0)) else σ
def aAlt (V : Mm) (x q v : Int32) : Int32 := if 0 ≤ x ∧ x ≤ 4 then (if 0 ≤ q ∧ q < nI 2 then (if q = 0 then (if 0 ≤ v ∧ v ≤ 5 then (if vS V x.toNatClampNeg = 0 then -(nI 11) else V 2 x.toNatClampNeg) else -(nI 2)) else (if 0 ≤ v ∧ v ≤ 99 then (if vS V x.toNatClampNeg = 0 then -(nI 11) else V 3 x.toNatClampNeg) else -(nI 2))) else -(nI 2)) else -(nI 2)
def sAlt (r : Nat) (V σ : Mm) (x q v : Int32) : Mm := if 0 ≤ x ∧ x ≤ 4 then (if 0 ≤ q ∧ q < nI 2 then (if q = 0 then (if 0 ≤ v ∧ v ≤ 5 then (if vS V x.toNatClampNeg = 0 then σ else sw σ r x.toNatClampNeg v) else σ) else (if 0 ≤ v ∧ v ≤ 99 then (if vS V x.toNatClampNeg = 0 then σ else sw σ (r + 1) x.toNatClampNeg v) else σ)) else σ) else σ
def aRaw (V : Mm) (x i : Int32) : Int32 := if 0 ≤ x ∧ x ≤ 4 then (if vS V x.toNatClampNeg = 0 then -(nI 11) else if i = -(nI 1) then nI (vS V x.toNatClampNeg) else if i < 0 then -(nI 12) else if i < nI (vS V x.toNatClampNeg) then V 0 (50 * x.toNatClampNeg + i.toNatClampNeg) else -(nI 12)) else -(nI 2)
def aLetter (V : Mm) (x i q : Int32) : Int32 := if 0 ≤ x ∧ x ≤ 4 then (if 0 ≤ q ∧ q < nI 2 then (if vS V x.toNatClampNeg = 0 then -(nI 11) else if i = -(nI 1) then nI (lC V x.toNatClampNeg) else if i < 0 then -(nI 12) else if i < nI (lC V x.toNatClampNeg) then (if q = 0 then LT V (50 * x.toNatClampNeg + i.toNatClampNeg) else nI (PL V x.toNatClampNeg i.toNatClampNeg)) else -(nI 12)) else -(nI 2)) else -(nI 2)
def tkC (V : Mm) (w : Nat) : Nat := cB (fun i => !isL (V 0 (50 * w + PL V w i)) || decide (V 0 (50 * w + PL V w i) ≠ LT V (50 * w + i))) (lC V w)
def aTaken (V : Mm) (x k : Int32) : Int32 := if 0 ≤ x ∧ x ≤ 4 then (if 0 ≤ k ∧ k ≤ 5 then (if vS V x.toNatClampNeg = 0 then -(nI 11) else if undK (vK V x.toNatClampNeg) k.toNatClampNeg = true then nI (tkC V x.toNatClampNeg) else -(nI 13)) else -(nI 2)) else -(nI 2)
def rlo (k : Nat) : Int32 := (stL 1).getD k 0
def rhi (k : Nat) : Int32 := (stL 2).getD k 0
def aRule (V : Mm) (q v : Int32) : Int32 := if 0 ≤ q ∧ q < nI 6 then (if v < rlo q.toNatClampNeg then -(nI 2) else if v ≤ rhi q.toNatClampNeg then V 4 q.toNatClampNeg else -(nI 2)) else -(nI 2)
def sRule (r : Nat) (σ : Mm) (q v : Int32) : Mm := if 0 ≤ q ∧ q < nI 6 then (if v < rlo q.toNatClampNeg then σ else if v ≤ rhi q.toNatClampNeg then sw σ r q.toNatClampNeg v else σ) else σ
def aMark (V : Mm) (x i : Int32) : Int64 := if 0 ≤ x ∧ x ≤ 4 then (if vS V x.toNatClampNeg = 0 then (-4611686018427387904) else if i < 0 then (-4611686018427387904) else if i < nI (gC V x.toNatClampNeg) then (MK V (50 * x.toNatClampNeg + i.toNatClampNeg)).toInt64 else (-4611686018427387904)) else (-4611686018427387904)
