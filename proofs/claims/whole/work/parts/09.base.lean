def rw_lpick (lv : List (Nat × Value)) (ks : List Nat) : List (Nat × Value) := ks.filterMap fun k => lv[k]?
section RWX
variable {E : Cf} {G : Gl} {d o nL : Nat} {cc : ByteArray} {rt : Option FieldType} {Q : State → Prop} {pc : Nat} {lv lv' : List (Nat × Value)} {st : List Value} {σ : Mm}
theorem rw_lsub {ks : List Nat} (h : rw_lpick lv ks = lv') (k : RW E G d nL Q pc lv' st σ) : RW E G d nL Q pc lv st σ := by
  intro H locs ls hP hS hl
  refine k H locs ls hP hS ⟨hl.1, hl.2.1, fun q hq => ?_⟩
  obtain ⟨q0, hq0, rfl⟩ := List.mem_map.mp hq
  rw [← h] at hq0
  obtain ⟨i, -, hi⟩ := List.mem_filterMap.mp hq0
  exact hl.2.2 _ (List.mem_map.mpr ⟨q0, List.mem_of_getElem? hi, rfl⟩)
theorem rw_alenS (hX : Cx E G d o cc nL rt) {k z n : Nat} (hsh : shapes[k]? = some (.inl (z, n))) (hd : decode cc pc = .ok (.arraylength, 1)) (kk : RW E G d nL Q (pc + 1) lv (.int (nI n) :: st) σ) : RW E G d nL Q pc lv (.ref k :: st) σ :=
  rw_step (i := .arraylength) (Ps := []) hX hd (by simp only [rw_i, rw_sh, hsh]; rfl) (fun _ h => by cases h) kk
theorem rw_ialdS (hX : Cx E G d o cc nL rt) {k n : Nat} (hsh : shapes[k]? = some (.inl (0, n))) {x : Int32} (hd : decode cc pc = .ok (.iaload, 1)) (hin : vp_in x n) (kk : RW E G d nL Q (pc + 1) lv (.int (σ k x.toNatClampNeg) :: st) σ) : RW E G d nL Q pc lv (.int x :: .ref k :: st) σ :=
  rw_step (i := .iaload) (Ps := [vp_in x n]) hX hd (by simp only [rw_i, rw_sh, hsh]) (fun _ h => by rw [List.mem_singleton.mp h]; exact hin) kk
theorem rw_iastS (hX : Cx E G d o cc nL rt) {k n : Nat} (hsh : shapes[k]? = some (.inl (0, n))) {x v : Int32} (hd : decode cc pc = .ok (.iastore, 1)) (hin : vp_in x n) (kk : RW E G d nL Q (pc + 1) lv st (sw σ k x.toNatClampNeg v)) : RW E G d nL Q pc lv (.int v :: .int x :: .ref k :: st) σ :=
  rw_step (i := .iastore) (Ps := [vp_in x n]) hX hd (by simp only [rw_i, rw_sh, hsh]) (fun _ h => by rw [List.mem_singleton.mp h]; exact hin) kk
end RWX
/-! numbers -/
theorem sr_s (σ : Mm) (k : Nat) (f : Nat → Int32) : sr σ k f k = f := if_pos rfl
theorem sr_n (σ : Mm) {k j : Nat} (f : Nat → Int32) (h : j ≠ k) : sr σ k f j = σ j := if_neg h
theorem sr_sr (σ : Mm) (k : Nat) (f g : Nat → Int32) : sr (sr σ k f) k g = sr σ k g := by
  funext j
  by_cases h : j = k <;> simp [sr, h]
theorem sr_id (σ : Mm) (k : Nat) : sr σ k (σ k) = σ := by
  funext j
  by_cases h : j = k <;> simp [sr, h]
theorem sr_comm (σ : Mm) {k j : Nat} (f g : Nat → Int32) (h : j ≠ k) : sr (sr σ k f) j g = sr (sr σ j g) k f := by
  funext i
  by_cases h1 : i = j
  · subst h1
    simp [sr, h]
  · simp [sr, h1]
theorem ix_in {x : Int32} {n : Nat} (hn : n < 2 ^ 31) (h0 : 0 ≤ x) (h1 : x < nI n) : vp_in x n := by
  rw [vp_in_iff]
  have a := Int32.le_iff_toInt_le.mp h0
  have b := Int32.lt_iff_toInt_lt.mp h1
  rw [nI_toInt hn] at b
  exact ⟨by simpa using a, b⟩
/-- a row's item, NONE outside of it -/
def rpick (f : Nat → Int32) (n : Nat) (i : Int32) : Int32 := if 0 ≤ i ∧ i < nI n then f i.toNatClampNeg else -(nI 1)
theorem rpick_in {f : Nat → Int32} {n i : Nat} (h : i < n) (hn : n < 2 ^ 31) : rpick f n (nI i) = f i := by
  unfold rpick
  rw [if_pos ⟨nI_pos' (by omega), nI_lt h hn⟩, nI_clamp (by omega)]
def bz (b : Bool) : Int32 := if b = true then nI 1 else nI 0
theorem bz_01 (b : Bool) : bz b = 0 ∨ bz b = 1 := by cases b <;> simp [bz, nI] 
theorem cz_bz_eq {b : Bool} : cz .eq (bz b) ↔ b = false := by cases b <;> simp [cz, bz, nI]
theorem cz_bz_ne {b : Bool} : cz .ne (bz b) ↔ b = true := by cases b <;> simp [cz, bz, nI]
theorem cz_1 : ¬ cz .eq (nI 1) := by simp [cz, nI]
theorem cz_1n : cz .ne (nI 1) := by simp [cz, nI]
theorem cz_0 : cz .eq (nI 0) := by simp [cz, nI]
theorem cz_0n : ¬ cz .ne (nI 0) := by simp [cz, nI]
theorem AMi.mono {l : Launch} {G : Gl} {d : Nat} {M : Mi} {as : List Value} {σ : Mm} {Q Q' : Int32 → Mm → Prop} (h : AMi l G d M as σ Q) (hq : ∀ r σ', Q r σ' → Q' r σ') : AMi l G d M as σ Q' :=
  by
  unfold AMi Met at *
  refine MetFree.mono h (fun _ _ z => z) (fun _ _ _ _ _ z => z) (fun a s o t _ z => ?_)
  obtain ⟨⟨⟨r, u, h1, h2, h3⟩, h4⟩, h5⟩ := z
  exact ⟨⟨⟨r, u, h1, hq r u h2, h3⟩, h4⟩, h5⟩
theorem AMv.mono {l : Launch} {G : Gl} {d : Nat} {M : Mi} {as : List Value} {σ : Mm} {Q Q' : Mm → Prop} (h : AMv l G d M as σ Q) (hq : ∀ σ', Q σ' → Q' σ') : AMv l G d M as σ Q' :=
  by
  unfold AMv Met at *
  refine MetFree.mono h (fun _ _ z => z) (fun _ _ _ _ _ z => z) (fun a s o t _ z => ?_)
  obtain ⟨⟨⟨u, h1, h2, h3⟩, h4⟩, h5⟩ := z
  exact ⟨⟨⟨u, h1, hq u h2, h3⟩, h4⟩, h5⟩
