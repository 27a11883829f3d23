theorem tb_1 {w : Cond} (h : w ∈ tables_1_1) : w ∈ lw_tbl := List.mem_append_right _ (List.mem_append_left _ h)
theorem gt_c1 (i : Nat) {w : Cond} (h : tables_1_1[i]? = some w) (g : goodWord w = true) : w ∈ gt := List.mem_filter.mpr ⟨tb_1 (List.mem_of_getElem? h), g⟩
theorem nw_c1 (i : Nat) {w : Cond} (h : tables_1_1[i]? = some w) (g : rw_isN w = true) : w ∈ nw := List.mem_filter.mpr ⟨tb_1 (List.mem_of_getElem? h), g⟩
theorem tb_2 {w : Cond} (h : w ∈ tables_1_2) : w ∈ lw_tbl := List.mem_append_right _ (List.mem_append_right _ (List.mem_append_left _ h))
theorem gt_c2 (i : Nat) {w : Cond} (h : tables_1_2[i]? = some w) (g : goodWord w = true) : w ∈ gt := List.mem_filter.mpr ⟨tb_2 (List.mem_of_getElem? h), g⟩
theorem nw_c2 (i : Nat) {w : Cond} (h : tables_1_2[i]? = some w) (g : rw_isN w = true) : w ∈ nw := List.mem_filter.mpr ⟨tb_2 (List.mem_of_getElem? h), g⟩
theorem tb_3 {w : Cond} (h : w ∈ tables_1_3) : w ∈ lw_tbl := List.mem_append_right _ (List.mem_append_right _ (List.mem_append_right _ (List.mem_append_left _ h)))
theorem gt_c3 (i : Nat) {w : Cond} (h : tables_1_3[i]? = some w) (g : goodWord w = true) : w ∈ gt := List.mem_filter.mpr ⟨tb_3 (List.mem_of_getElem? h), g⟩
theorem nw_c3 (i : Nat) {w : Cond} (h : tables_1_3[i]? = some w) (g : rw_isN w = true) : w ∈ nw := List.mem_filter.mpr ⟨tb_3 (List.mem_of_getElem? h), g⟩
theorem tb_4 {w : Cond} (h : w ∈ tables_1_4) : w ∈ lw_tbl := List.mem_append_right _ (List.mem_append_right _ (List.mem_append_right _ (List.mem_append_right _ (List.mem_append_left _ h))))
theorem gt_c4 (i : Nat) {w : Cond} (h : tables_1_4[i]? = some w) (g : goodWord w = true) : w ∈ gt := List.mem_filter.mpr ⟨tb_4 (List.mem_of_getElem? h), g⟩
theorem nw_c4 (i : Nat) {w : Cond} (h : tables_1_4[i]? = some w) (g : rw_isN w = true) : w ∈ nw := List.mem_filter.mpr ⟨tb_4 (List.mem_of_getElem? h), g⟩
theorem tb_5 {w : Cond} (h : w ∈ tables_1_5) : w ∈ lw_tbl := List.mem_append_right _ (List.mem_append_right _ (List.mem_append_right _ (List.mem_append_right _ (List.mem_append_right _ (List.mem_append_left _ h)))))
theorem gt_c5 (i : Nat) {w : Cond} (h : tables_1_5[i]? = some w) (g : goodWord w = true) : w ∈ gt := List.mem_filter.mpr ⟨tb_5 (List.mem_of_getElem? h), g⟩
theorem nw_c5 (i : Nat) {w : Cond} (h : tables_1_5[i]? = some w) (g : rw_isN w = true) : w ∈ nw := List.mem_filter.mpr ⟨tb_5 (List.mem_of_getElem? h), g⟩
theorem tb_6 {w : Cond} (h : w ∈ tables_1_6) : w ∈ lw_tbl := List.mem_append_right _ (List.mem_append_right _ (List.mem_append_right _ (List.mem_append_right _ (List.mem_append_right _ (List.mem_append_right _ (h))))))
theorem gt_c6 (i : Nat) {w : Cond} (h : tables_1_6[i]? = some w) (g : goodWord w = true) : w ∈ gt := List.mem_filter.mpr ⟨tb_6 (List.mem_of_getElem? h), g⟩
theorem nw_c6 (i : Nat) {w : Cond} (h : tables_1_6[i]? = some w) (g : rw_isN w = true) : w ∈ nw := List.mem_filter.mpr ⟨tb_6 (List.mem_of_getElem? h), g⟩
theorem bi_math : Cond.initialized "java/lang/Math" ∈ gt := gt_c1 12 (by decide +kernel) rfl
theorem bi_sys : Cond.initialized "java/lang/System" ∈ gt := gt_c1 11 (by decide +kernel) rfl
theorem bi_max_s : Cond.static Lib.Math.max.name ∈ gt := gt_c2 219 (by decide +kernel) rfl
theorem bi_min_s : Cond.static Lib.Math.min.name ∈ gt := gt_c2 155 (by decide +kernel) rfl
theorem bi_max_c : Cond.code Lib.Math.max.name Lib.Math.max.code 2 (some .int) ∈ gt := gt_c2 220 (by decide +kernel) rfl
theorem bi_min_c : Cond.code Lib.Math.min.name Lib.Math.min.code 2 (some .int) ∈ gt := gt_c2 156 (by decide +kernel) rfl
theorem bi_cpy_s : Cond.static arraycopyName ∈ gt := gt_c2 85 (by decide +kernel) rfl
theorem bi_cpy_n : Cond.native arraycopyName ∈ gt := gt_c2 86 (by decide +kernel) rfl
section RWB
variable {E : Cf} {G : Gl} {d o nL : Nat} {cc : ByteArray} {rt : Option FieldType} {Q : State → Prop} {idx pc : Nat} {lv : List (Nat × Value)} {rest : List Value} {σ : Mm}
theorem bi_static (i : Nat) {y : MethodName} (h : lw_tbl[i]? = some (Cond.static y)) : Cond.static y ∈ gt := gt_at i h rfl
theorem rw_max (hX : Cx E G d o cc nL rt) {x y : Int32} (hd : decode cc pc = .ok (.invokestatic idx, 3)) (hlk : Cond.methodLink (rw_cn o) idx Lib.Math.max.name ∈ gt) (hst : (rest.map fun v => v.category).sum ≤ 8)
    (kk : RW E G d nL Q (pc + 3) lv (.int (if x < y then y else x) :: rest) σ) : RW E G d nL Q pc lv (.int y :: .int x :: rest) σ := by
  obtain ⟨p, l, e, ⟨R, cs, sl⟩, s, m, args, below, meth, c⟩ := E
  obtain ⟨hx, hb, hml, hown, hts, hK, hinj, hZ, hN, -, -, hR1, hR2, hR3, hR4⟩ := hX
  intro H locs ls hP hS hl
  exact va_mmax hx hb (by rw [hml]; exact hl.1.symm) hown (hts _ hlk) (hts _ bi_max_s) (hts _ bi_math) (hts _ bi_max_c) (by omega) (by rw [rw_sum]; omega) hR3 hR4 hd (kk H locs ls hP hS hl)
theorem rw_min (hX : Cx E G d o cc nL rt) {x y : Int32} (hd : decode cc pc = .ok (.invokestatic idx, 3)) (hlk : Cond.methodLink (rw_cn o) idx Lib.Math.min.name ∈ gt) (hst : (rest.map fun v => v.category).sum ≤ 8)
    (kk : RW E G d nL Q (pc + 3) lv (.int (if y < x then y else x) :: rest) σ) : RW E G d nL Q pc lv (.int y :: .int x :: rest) σ := by
  obtain ⟨p, l, e, ⟨R, cs, sl⟩, s, m, args, below, meth, c⟩ := E
  obtain ⟨hx, hb, hml, hown, hts, hK, hinj, hZ, hN, -, -, hR1, hR2, hR3, hR4⟩ := hX
  intro H locs ls hP hS hl
  exact va_mmin hx hb (by rw [hml]; exact hl.1.symm) hown (hts _ hlk) (hts _ bi_min_s) (hts _ bi_math) (hts _ bi_min_c) (by omega) (by rw [rw_sum]; omega) hR3 hR4 hd (kk H locs ls hP hS hl)
/-- System.arraycopy between int rows -/
theorem rw_cpy (hX : Cx E G d o cc nL rt) {k0 k1 n0 n1 : Nat} {sp dp n : Int32} (hd : decode cc pc = .ok (.invokestatic idx, 3)) (hlk : Cond.methodLink (rw_cn o) idx arraycopyName ∈ gt) (h0 : shapes[k0]? = some (.inl (0, n0))) (h1 : shapes[k1]? = some (.inl (0, n1))) (hst : (rest.map fun v => v.category).sum ≤ 8)
    (g1 : ¬ sp < 0) (g2 : ¬ dp < 0) (g3 : ¬ n < 0) (g4 : sp.toNatClampNeg + n.toNatClampNeg ≤ n0) (g5 : dp.toNatClampNeg + n.toNatClampNeg ≤ n1)
    (kk : RW E G d nL Q (pc + 3) lv rest (sr σ k1 (va_cpy (σ k0) (σ k1) sp.toNatClampNeg dp.toNatClampNeg n.toNatClampNeg))) : RW E G d nL Q pc lv (.int n :: .int dp :: .ref k1 :: .int sp :: .ref k0 :: rest) σ := by
  obtain ⟨p, l, e, ⟨R, cs, sl⟩, s, m, args, below, meth, c⟩ := E
  obtain ⟨hx, hb, hml, hown, hts, hK, hinj, hZ, hN, -, -, hR1, hR2, hR3, hR4⟩ := hX
  intro H locs ls hP hS hl
  refine va_copyi (D := G.1) (ty := .int) hx hb (by rw [hml]; exact hl.1.symm) hown (hts _ hlk) (hts _ bi_cpy_n) (hts _ bi_cpy_s) (hts _ bi_sys) hK hP (rw_D hinj σ) hS k0 k1 0 0 (rw_at G σ h0) (rw_at G σ h1) rfl rfl rfl g1 g2 g3 g4 g5 (fun i _ => rfl) (by omega) (by rw [rw_sum]; simp only [nativeFrameWords]; split <;> omega) hd ?_
  intro H1 locs1 hP1 hD1 hS1
  exact kk H1 locs1 ls (by rw [← rw_set G σ h1]; exact hP1) hS1 hl
end RWB
