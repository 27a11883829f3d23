def rw_lpick (lv : List (Nat × Value)) (ks : List Nat) : List (Nat × Value) := ks.filterMap fun k => lv[k]?
section RWX
variable {E : Cf} {G : Gl} {d o nL : Nat} {cc : ByteArray} {rt : Option FieldType} {Q : State → Prop} {pc : Nat} {lv lv' : List (Nat × Value)} {st : List Value} {σ : Mm}
theorem rw_lsub {ks : List Nat} (h : rw_lpick lv ks = lv') (k : RW E G d nL Q pc lv' st σ) : RW E G d nL Q pc lv st σ := by
  intro H locs ls hP hS hl
  refine k H locs ls hP hS ⟨hl.1, hl.2.1, fun q hq => ?_⟩
  obtain ⟨q0, hq0, rfl⟩ := List.mem_map.mp hq
  rw [← h] at hq0
  obtain ⟨i, -, hi⟩ := List.mem_filterMap.mp hq0
  exact hl.2.2 _ (List.mem_map.mpr ⟨q0, List.mem_of_getElem? hi, rfl⟩)
theorem rw_alenS (hX : Cx E G d o cc nL rt) {k z n : Nat} (hsh : shapes[k]? = some (.inl (z, n))) (hd : decode cc pc = .ok (.arraylength, 1)) (kk : RW E G d nL Q (pc + 1) lv (.int (nI n) :: st) σ) : RW E G d nL Q pc lv (.ref k :: st) σ :=
  rw_step (i := .arraylength) (Ps := []) hX hd (by simp only [rw_i, rw_sh, hsh]; rfl) (fun _ h => by cases h) kk
theorem rw_ialdS (hX : Cx E G d o cc nL rt) {k n : Nat} (hsh : shapes[k]? = some (.inl (0, n))) {x : Int32} (hd : decode cc pc = .ok (.iaload, 1)) (hin : vp_in x n) (kk : RW E G d nL Q (pc + 1) lv (.int (σ k x.toNatClampNeg) :: st) σ) : RW E G d nL Q pc lv (.int x :: .ref k :: st) σ :=
  rw_step (i := .iaload) (Ps := [vp_in x n]) hX hd (by simp only [rw_i, rw_sh, hsh]) (fun _ h => by rw [List.mem_singleton.mp h]; exact hin) kk
theorem rw_iastS (hX : Cx E G d o cc nL rt) {k n : Nat} (hsh : shapes[k]? = some (.inl (0, n))) {x v : Int32} (hd : decode cc pc = .ok (.iastore, 1)) (hin : vp_in x n) (kk : RW E G d nL Q (pc + 1) lv st (sw σ k x.toNatClampNeg v)) : RW E G d nL Q pc lv (.int v :: .int x :: .ref k :: st) σ :=
  rw_step (i := .iastore) (Ps := [vp_in x n]) hX hd (by simp only [rw_i, rw_sh, hsh]) (fun _ h => by rw [List.mem_singleton.mp h]; exact hin) kk
end RWX
/-! numbers -/
theorem sr_s (σ : Mm) (k : Nat) (f : Nat → Int32) : sr σ k f k = f := if_pos rfl
theorem sr_n (σ : Mm) {k j : Nat} (f : Nat → Int32) (h : j ≠ k) : sr σ k f j = σ j := if_neg h
theorem sr_sr (σ : Mm) (k : Nat) (f g : Nat → Int32) : sr (sr σ k f) k g = sr σ k g := by
  funext j
  by_cases h : j = k <;> simp [sr, h]
theorem sr_id (σ : Mm) (k : Nat) : sr σ k (σ k) = σ := by
  funext j
  by_cases h : j = k <;> simp [sr, h]
theorem sr_comm (σ : Mm) {k j : Nat} (f g : Nat → Int32) (h : j ≠ k) : sr (sr σ k f) j g = sr (sr σ j g) k f := by
  funext i
  by_cases h1 : i = j
  · subst h1
    simp [sr, h]
  · simp [sr, h1]
theorem ix_in {x : Int32} {n : Nat} (hn : n < 2 ^ 31) (h0 : 0 ≤ x) (h1 : x < nI n) : vp_in x n := by
  rw [vp_in_iff]
  have a := Int32.le_iff_toInt_le.mp h0
  have b := Int32.lt_iff_toInt_lt.mp h1
  rw [nI_toInt hn] at b
  exact ⟨by simpa using a, b⟩
/-- a row's item, NONE outside of it -/
def rpick (f : Nat → Int32) (n : Nat) (i : Int32) : Int32 := if 0 ≤ i ∧ i < nI n then f i.toNatClampNeg else -(nI 1)
theorem rpick_in {f : Nat → Int32} {n i : Nat} (h : i < n) (hn : n < 2 ^ 31) : rpick f n (nI i) = f i := by
  unfold rpick
  rw [if_pos ⟨nI_pos' (by omega), nI_lt h hn⟩, nI_clamp (by omega)]
def bz (b : Bool) : Int32 := if b = true then nI 1 else nI 0
theorem bz_01 (b : Bool) : bz b = 0 ∨ bz b = 1 := by cases b <;> simp [bz, nI] 
theorem cz_bz_eq {b : Bool} : cz .eq (bz b) ↔ b = false := by cases b <;> simp [cz, bz, nI]
theorem cz_bz_ne {b : Bool} : cz .ne (bz b) ↔ b = true := by cases b <;> simp [cz, bz, nI]
theorem zb_eqT {b : Bool} (h : cz .eq (bz b)) : b = false := cz_bz_eq.mp h
theorem zb_eqF {b : Bool} (h : ¬ cz .eq (bz b)) : b = true := by
  cases b with
  | true => rfl
  | false => exact absurd (cz_bz_eq.mpr rfl) h
theorem zb_neT {b : Bool} (h : cz .ne (bz b)) : b = true := cz_bz_ne.mp h
theorem zb_neF {b : Bool} (h : ¬ cz .ne (bz b)) : b = false := by
  cases b with
  | false => rfl
  | true => exact absurd (cz_bz_ne.mpr rfl) h
theorem zn_eqT {a : Nat} (h : cz .eq (nI a)) (ha : a < 2 ^ 31 := by omega) : a = 0 := by
  have h : nI a = 0 := h
  rw [← nI_0] at h
  exact (nI_eq ha (by omega)).mp h
theorem zn_eqF {a : Nat} (h : ¬ cz .eq (nI a)) : 0 < a := by
  rcases Nat.eq_zero_or_pos a with e | e
  · subst e; exact absurd rfl h
  · exact e
theorem zn_neT {a : Nat} (h : cz .ne (nI a)) : 0 < a := zn_eqF h
theorem zn_neF {a : Nat} (h : ¬ cz .ne (nI a)) (ha : a < 2 ^ 31 := by omega) : a = 0 := zn_eqT (Classical.not_not.mp h) ha
theorem zn_ltT {a : Nat} {P : Prop} (h : cz .lt (nI a)) (ha : a < 2 ^ 31 := by omega) : P := absurd h (nI_pos ha)
theorem zn_geF {a : Nat} {P : Prop} (h : ¬ cz .ge (nI a)) (ha : a < 2 ^ 31 := by omega) : P := absurd (nI_pos' ha) h
theorem zn_gtT {a : Nat} (h : cz .gt (nI a)) : 0 < a := by
  rcases Nat.eq_zero_or_pos a with e | e
  · subst e; exact absurd (show (0 : Int32) < nI 0 from h) (by decide +kernel)
  · exact e
theorem zn_gtF {a : Nat} (h : ¬ cz .gt (nI a)) (ha : a < 2 ^ 31 := by omega) : a = 0 := by
  rcases Nat.eq_zero_or_pos a with e | e
  · exact e
  · exact absurd (show nI 0 < nI a from nI_lt e ha) h
theorem zn_leT {a : Nat} (h : cz .le (nI a)) (ha : a < 2 ^ 31 := by omega) : a = 0 := zn_gtF (fun z => absurd h (Int32.not_le.mpr z)) ha
theorem zn_leF {a : Nat} (h : ¬ cz .le (nI a)) : 0 < a := zn_gtT (Int32.not_le.mp h)
theorem c2_eqT {a b : Nat} (h : cc2 .eq (nI a) (nI b)) (ha : a < 2 ^ 31 := by omega) (hb : b < 2 ^ 31 := by omega) : a = b := (nI_eq ha hb).mp h
theorem c2_eqF {a b : Nat} (h : ¬ cc2 .eq (nI a) (nI b)) : a ≠ b := fun e => h (by rw [e]; rfl)
theorem c2_neT {a b : Nat} (h : cc2 .ne (nI a) (nI b)) : a ≠ b := c2_eqF h
theorem c2_neF {a b : Nat} (h : ¬ cc2 .ne (nI a) (nI b)) (ha : a < 2 ^ 31 := by omega) (hb : b < 2 ^ 31 := by omega) : a = b := c2_eqT (Classical.not_not.mp h) ha hb
theorem c2_ltT {a b : Nat} (h : cc2 .lt (nI a) (nI b)) (ha : a < 2 ^ 31 := by omega) (hb : b < 2 ^ 31 := by omega) : a < b := (nI_ltI ha hb).mp h
theorem c2_ltF {a b : Nat} (h : ¬ cc2 .lt (nI a) (nI b)) (ha : a < 2 ^ 31 := by omega) (hb : b < 2 ^ 31 := by omega) : b ≤ a := Nat.not_lt.mp (mt (nI_ltI ha hb).mpr h)
theorem c2_geT {a b : Nat} (h : cc2 .ge (nI a) (nI b)) (ha : a < 2 ^ 31 := by omega) (hb : b < 2 ^ 31 := by omega) : b ≤ a := (nI_leI hb ha).mp h
theorem c2_geF {a b : Nat} (h : ¬ cc2 .ge (nI a) (nI b)) (ha : a < 2 ^ 31 := by omega) (hb : b < 2 ^ 31 := by omega) : a < b := Nat.not_le.mp (mt (nI_leI hb ha).mpr h)
theorem c2_gtT {a b : Nat} (h : cc2 .gt (nI a) (nI b)) (ha : a < 2 ^ 31 := by omega) (hb : b < 2 ^ 31 := by omega) : b < a := (nI_ltI hb ha).mp h
theorem c2_gtF {a b : Nat} (h : ¬ cc2 .gt (nI a) (nI b)) (ha : a < 2 ^ 31 := by omega) (hb : b < 2 ^ 31 := by omega) : a ≤ b := Nat.not_lt.mp (mt (nI_ltI hb ha).mpr h)
theorem c2_leT {a b : Nat} (h : cc2 .le (nI a) (nI b)) (ha : a < 2 ^ 31 := by omega) (hb : b < 2 ^ 31 := by omega) : a ≤ b := (nI_leI ha hb).mp h
theorem c2_leF {a b : Nat} (h : ¬ cc2 .le (nI a) (nI b)) (ha : a < 2 ^ 31 := by omega) (hb : b < 2 ^ 31 := by omega) : b < a := Nat.not_le.mp (mt (nI_leI ha hb).mpr h)
theorem b1 : (nI 1 : Int32) = bz true := rfl
theorem cz_1 : ¬ cz .eq (nI 1) := by simp [cz, nI]
theorem cz_1n : cz .ne (nI 1) := by simp [cz, nI]
theorem cz_0 : cz .eq (nI 0) := by simp [cz, nI]
theorem cz_0n : ¬ cz .ne (nI 0) := by simp [cz, nI]
theorem AMi.mono {l : Launch} {G : Gl} {d : Nat} {M : Mi} {as : List Value} {σ : Mm} {Q Q' : Int32 → Mm → Prop} (h : AMi l G d M as σ Q) (hq : ∀ r σ', Q r σ' → Q' r σ') : AMi l G d M as σ Q' :=
  by
  unfold AMi Met at *
  refine MetFree.mono h (fun _ _ z => z) (fun _ _ _ _ _ z => z) (fun a s o t _ z => ?_)
  obtain ⟨⟨⟨r, u, h1, h2, h3⟩, h4⟩, h5⟩ := z
  exact ⟨⟨⟨r, u, h1, hq r u h2, h3⟩, h4⟩, h5⟩
theorem AMv.mono {l : Launch} {G : Gl} {d : Nat} {M : Mi} {as : List Value} {σ : Mm} {Q Q' : Mm → Prop} (h : AMv l G d M as σ Q) (hq : ∀ σ', Q σ' → Q' σ') : AMv l G d M as σ Q' :=
  by
  unfold AMv Met at *
  refine MetFree.mono h (fun _ _ z => z) (fun _ _ _ _ _ z => z) (fun a s o t _ z => ?_)
  obtain ⟨⟨⟨u, h1, h2, h3⟩, h4⟩, h5⟩ := z
  exact ⟨⟨⟨u, h1, hq u h2, h3⟩, h4⟩, h5⟩
/-! what the machine holds of the memory: rows within their lengths -/
def Meq (σ σ' : Mm) : Prop := ∀ (k : Nat) (sh : Sh), shapes[k]? = some sh → match sh with
  | .inl (_, n) => ∀ j, j < n → σ k j = σ' k j
  | .inr (.inl _) => σ k = σ' k
  | .inr (.inr _) => True
theorem vp_cell_ext {cA : ClassId} {n : Nat} {f g : Nat → Int32} (h : ∀ j, j < n → f j = g j) : vp_cell cA (n, .inl f) = vp_cell cA (n, .inl g) := by
  rw [vp_cell_i, vp_cell_i]
  unfold arrV
  congr 1
  congr 1
  funext j
  exact congrArg Value.int (h j.val j.isLt)
theorem rw_extP {G : Gl} {σ σ' : Mm} {H : Heap} (h : Meq σ σ') (hP : va_P G.1 vwCl (rw_ws G σ) H) : va_P G.1 vwCl (rw_ws G σ') H := by
  intro k q hk
  obtain ⟨sh, h1, rfl⟩ := rw_at_inv hk
  have h2 := hP k _ (rw_at G σ h1)
  have h3 := h k sh h1
  match sh, h2, h3 with
  | .inl (z, n), h2, h3 => exact h2.trans (congrArg some (vp_cell_ext h3))
  | .inr (.inl (ci, fs)), h2, h3 => dsimp only at h3; rw [← h3]; exact h2
  | .inr (.inr ids), h2, h3 => exact h2
theorem rw_ext {E : Cf} {G : Gl} {d nL : Nat} {Q : State → Prop} {pc : Nat} {lv : List (Nat × Value)} {st : List Value} {σ σ' : Mm} (h : Meq σ σ') (k : RW E G d nL Q pc lv st σ') : RW E G d nL Q pc lv st σ :=
  fun H locs ls hP hS hl => k H locs ls (rw_extP h hP) hS hl
theorem Meq.refl (σ : Mm) : Meq σ σ := fun k sh _ => by
  match sh with
  | .inl (z, n) => exact fun _ _ => rfl
  | .inr (.inl _) => rfl
  | .inr (.inr _) => trivial
theorem Meq.row {σ : Mm} {k z n : Nat} {f g : Nat → Int32} (hk : shapes[k]? = some (.inl (z, n))) (h : ∀ j, j < n → f j = g j) : Meq (sr σ k f) (sr σ k g) := fun i sh hi => by
  by_cases e : i = k
  · subst e
    rw [hk] at hi
    cases hi
    exact fun j hj => by rw [sr_s, sr_s]; exact h j hj
  · have := Meq.refl σ i sh hi
    revert this
    match sh with
    | .inl (z, n) => exact fun _ j _ => by rw [sr_n _ _ e, sr_n _ _ e]
    | .inr (.inl _) => exact fun _ => by show sr σ k f i = sr σ k g i; rw [sr_n _ _ e, sr_n _ _ e]
    | .inr (.inr _) => exact fun _ => trivial
/-- a whole row copied -/
theorem rw_cpyA {E : Cf} {G : Gl} {d o nL : Nat} {cc : ByteArray} {rt : Option FieldType} {Q : State → Prop} {idx pc : Nat} {lv : List (Nat × Value)} {rest : List Value} {σ : Mm} (hX : Cx E G d o cc nL rt) {k0 k1 n0 : Nat} (hd : decode cc pc = .ok (.invokestatic idx, 3)) (hlk : Cond.methodLink (rw_cn o) idx arraycopyName ∈ gt) (h0 : shapes[k0]? = some (.inl (0, n0))) (h1 : shapes[k1]? = some (.inl (0, n0))) (hn : n0 < 2 ^ 31) (hst : (rest.map fun v => v.category).sum ≤ 8)
    (kk : RW E G d nL Q (pc + 3) lv rest (sr σ k1 (σ k0))) : RW E G d nL Q pc lv (.int (nI n0) :: .int (nI 0) :: .ref k1 :: .int (nI 0) :: .ref k0 :: rest) σ := by
  have c0 : (nI 0).toNatClampNeg = 0 := rfl
  have cn : (nI n0).toNatClampNeg = n0 := nI_clamp hn
  refine rw_cpy hX hd hlk h0 h1 hst (nI_pos (by omega)) (nI_pos (by omega)) (nI_pos hn) (by rw [c0, cn]; omega) (by rw [c0, cn]; omega) (rw_ext (Meq.row h1 fun j hj => ?_) kk)
  rw [c0, cn]
  unfold va_cpy
  rw [if_pos ⟨Nat.zero_le _, by omega⟩]
  simp
/-! rows written by a loop -/
def fl (f : Nat → Int32) (a b : Nat) (v : Int32) : Nat → Int32 := fun j => if a ≤ j ∧ j < b then v else f j
theorem fl_0 (f : Nat → Int32) (a : Nat) (v : Int32) : fl f a a v = f := by
  funext j
  simp only [fl]
  rw [if_neg (by omega)]
theorem fl_1 (f : Nat → Int32) {a b : Nat} (v : Int32) (h : a ≤ b) : upd (fl f a b v) b v = fl f a (b + 1) v := by
  funext j
  simp only [upd, fl]
  by_cases e : j = b
  · subst e
    rw [if_pos rfl, if_pos ⟨h, by omega⟩]
  · rw [if_neg e]
    by_cases g : a ≤ j ∧ j < b
    · rw [if_pos g, if_pos ⟨g.1, by omega⟩]
    · rw [if_neg g, if_neg (by omega)]
theorem sw_sr (σ : Mm) (k : Nat) (f : Nat → Int32) (j : Nat) (v : Int32) : sw (sr σ k f) k j v = sr σ k (upd f j v) := by
  unfold sw
  rw [sr_s, sr_sr]
theorem sw_def (σ : Mm) (k j : Nat) (v : Int32) : sw σ k j v = sr σ k (upd (σ k) j v) := rfl
theorem sw_ne (σ : Mm) {k k' : Nat} (j : Nat) (x : Int32) (h : k' ≠ k) : sw σ k j x k' = σ k' := sr_n _ _ h
theorem sw_eq {σ : Mm} {k j : Nat} {x : Int32} : sw σ k j x k j = x := by
  unfold sw
  rw [sr_s]
  exact if_pos rfl
