/-! the law: its script, its cases -/
def SC (E : Cf) (G : Gl) (b L : Nat) (xs : Nat → Int32) : Prop := G.2.1 990 = b ∧ va_X b L xs (Ein E) (Ein E).heap ∧ b < (Ein E).heap.size ∧ ¬ Ad G b
theorem rw_sld {E : Cf} {G : Gl} {d o nL : Nat} {cc : ByteArray} {rt : Option FieldType} {Q : State → Prop} {pc : Nat} {lv : List (Nat × Value)} {st : List Value} {σ : Mm} {b L : Nat} {xs : Nat → Int32} (hX : Cx E G d o cc nL rt) (hS9 : SC E G b L xs) {x : Int32} (hin : vp_in x L) (hd : decode cc pc = .ok (.iaload, 1)) (kk : RW E G d nL Q (pc + 1) lv (.int (xs x.toNatClampNeg) :: st) σ) : RW E G d nL Q pc lv (.int x :: .ref 990 :: st) σ := by
  obtain ⟨p, l, e, ⟨R, cs, sl⟩, s, m, args, below, meth, c⟩ := E
  obtain ⟨hx, hb, -⟩ := hX
  obtain ⟨h1, h2, h3, h4⟩ := hS9
  intro H locs ls hP hS hl
  show W p l e R s m args below meth c H locs cs sl Q (F0 m pc ls (.int x :: .ref (G.2.1 990) :: st.map (cv G.2.1)))
  rw [h1]
  exact va_sld hx hb h2 h3 h4 hS hin hd (kk H locs ls hP hS hl)
theorem rw_slen {E : Cf} {G : Gl} {d o nL : Nat} {cc : ByteArray} {rt : Option FieldType} {Q : State → Prop} {pc : Nat} {lv : List (Nat × Value)} {st : List Value} {σ : Mm} {b L : Nat} {xs : Nat → Int32} (hX : Cx E G d o cc nL rt) (hS9 : SC E G b L xs) (hd : decode cc pc = .ok (.arraylength, 1)) (kk : RW E G d nL Q (pc + 1) lv (.int (nI L) :: st) σ) : RW E G d nL Q pc lv (.ref 990 :: st) σ := by
  obtain ⟨p, l, e, ⟨R, cs, sl⟩, s, m, args, below, meth, c⟩ := E
  obtain ⟨hx, hb, -⟩ := hX
  obtain ⟨h1, h2, h3, h4⟩ := hS9
  intro H locs ls hP hS hl
  show W p l e R s m args below meth c H locs cs sl Q (F0 m pc ls (.ref (G.2.1 990) :: st.map (cv G.2.1)))
  rw [h1]
  exact va_slen hx hb h2 h3 h4 hS hd (kk H locs ls hP hS hl)
set_option maxRecDepth 20000 in
set_option maxHeartbeats 4000000 in
theorem lc_feed {E : Cf} {G : Gl} {Q : State → Prop} {b L i : Nat} {xs : Nat → Int32} {σ : Mm} (hX : Cx E G 8 11 code 4 (some .boolean)) (hSC : SC E G b L xs) (hi : i + 7 ≤ L) (hL : L ≤ 3584) (hJ : J0 σ) (ev : vw σ 67 = vw σ 2) (rt : σ 72 = σ 65) (kk : ∀ υ, J0 υ → RW E G 8 4 Q 1408 [(0, .ref 990), (1, .ref 0), (2, .ref 66), (3, .int (nI i))] [] υ) : RW E G 8 4 Q 172 [(0, .ref 990), (1, .ref 0), (2, .ref 66), (3, .int (nI i))] [] σ := by
  obtain ⟨t, ht, ht2, ht5, htp⟩ := hJ.2.1
  refine rw_go hX [(172, .aload_n 1)] (by decide +kernel) (Ps := []) (pc' := 173) (lv' := [(0, .ref 990), (1, .ref 0), (2, .ref 66), (3, .int (nI i))]) (st' := [.ref 0]) (σ' := σ) rfl True.intro ?_
  refine rw_go hX [(173, .aload_n 0), (174, .iload_n 3), (175, .iconst 1), (176, .iadd)] (by decide +kernel) (Ps := []) (pc' := 177) (lv' := [(0, .ref 990), (1, .ref 0), (2, .ref 66), (3, .int (nI i))]) (st' := [.int (nI i + nI 1), .ref 990, .ref 0]) (σ' := σ) rfl True.intro ?_
  refine rw_sld hX hSC (by rw [nI_add]; exact vp_in_nI (by omega) (by omega)) (by decide +kernel) ?_
  refine rw_go hX [(178, .aload_n 0), (179, .iload_n 3), (180, .iconst 2), (181, .iadd)] (by decide +kernel) (Ps := []) (pc' := 182) (lv' := [(0, .ref 990), (1, .ref 0), (2, .ref 66), (3, .int (nI i))]) (st' := [.int (nI i + nI 2), .ref 990, .int (xs (nI i + nI 1).toNatClampNeg), .ref 0]) (σ' := σ) rfl True.intro ?_
  refine rw_sld hX hSC (by rw [nI_add]; exact vp_in_nI (by omega) (by omega)) (by decide +kernel) ?_
  refine rw_go hX [(183, .aload_n 0), (184, .iload_n 3), (185, .iconst 3), (186, .iadd)] (by decide +kernel) (Ps := []) (pc' := 187) (lv' := [(0, .ref 990), (1, .ref 0), (2, .ref 66), (3, .int (nI i))]) (st' := [.int (nI i + nI 3), .ref 990, .int (xs (nI i + nI 2).toNatClampNeg), .int (xs (nI i + nI 1).toNatClampNeg), .ref 0]) (σ' := σ) rfl True.intro ?_
  refine rw_sld hX hSC (by rw [nI_add]; exact vp_in_nI (by omega) (by omega)) (by decide +kernel) ?_
  refine rw_go hX [(188, .aload_n 0), (189, .iload_n 3), (190, .iconst 4), (191, .iadd)] (by decide +kernel) (Ps := []) (pc' := 192) (lv' := [(0, .ref 990), (1, .ref 0), (2, .ref 66), (3, .int (nI i))]) (st' := [.int (nI i + nI 4), .ref 990, .int (xs (nI i + nI 3).toNatClampNeg), .int (xs (nI i + nI 2).toNatClampNeg), .int (xs (nI i + nI 1).toNatClampNeg), .ref 0]) (σ' := σ) rfl True.intro ?_
  refine rw_sld hX hSC (by rw [nI_add]; exact vp_in_nI (by omega) (by omega)) (by decide +kernel) ?_
  refine rw_go hX [(193, .aload_n 0), (194, .iload_n 3), (195, .iconst 5), (196, .iadd)] (by decide +kernel) (Ps := []) (pc' := 197) (lv' := [(0, .ref 990), (1, .ref 0), (2, .ref 66), (3, .int (nI i))]) (st' := [.int (nI i + nI 5), .ref 990, .int (xs (nI i + nI 4).toNatClampNeg), .int (xs (nI i + nI 3).toNatClampNeg), .int (xs (nI i + nI 2).toNatClampNeg), .int (xs (nI i + nI 1).toNatClampNeg), .ref 0]) (σ' := σ) rfl True.intro ?_
  refine rw_sld hX hSC (by rw [nI_add]; exact vp_in_nI (by omega) (by omega)) (by decide +kernel) ?_
  refine rw_go hX [(198, .aload_n 0), (199, .iload_n 3), (200, .bipush 6), (202, .iadd)] (by decide +kernel) (Ps := []) (pc' := 203) (lv' := [(0, .ref 990), (1, .ref 0), (2, .ref 66), (3, .int (nI i))]) (st' := [.int (nI i + nI 6), .ref 990, .int (xs (nI i + nI 5).toNatClampNeg), .int (xs (nI i + nI 4).toNatClampNeg), .int (xs (nI i + nI 3).toNatClampNeg), .int (xs (nI i + nI 2).toNatClampNeg), .int (xs (nI i + nI 1).toNatClampNeg), .ref 0]) (σ' := σ) rfl True.intro ?_
  refine rw_sld hX hSC (by rw [nI_add]; exact vp_in_nI (by omega) (by omega)) (by decide +kernel) ?_
  refine rw_callVi hX (as := [.int (xs (nI i + nI 1).toNatClampNeg), .int (xs (nI i + nI 2).toNatClampNeg), .int (xs (nI i + nI 3).toNatClampNeg), .int (xs (nI i + nI 4).toNatClampNeg), .int (xs (nI i + nI 5).toNatClampNeg), .int (xs (nI i + nI 6).toNatClampNeg)]) (rest := []) (f_feed _ _ _ t (xs (nI i + nI 1).toNatClampNeg) (xs (nI i + nI 2).toNatClampNeg) (xs (nI i + nI 3).toNatClampNeg) (xs (nI i + nI 4).toNatClampNeg) (xs (nI i + nI 5).toNatClampNeg) (xs (nI i + nI 6).toNatClampNeg) ht ht5) (by decide +kernel) mvX9_feed lk11_13 (ci := 8) rfl rfl rfl (by decide) (Nat.le_of_ble_eq_true rfl) rfl ?_
  intro r1 τ h1
  obtain ⟨e1, eτ⟩ := h1
  have hτ : ∀ k, 66 ≤ k → τ k = σ k := fun k hk => by rw [eτ]; exact fr_feed σ t _ _ _ _ _ _ hk
  refine rw_go hX [(207, .aload_n 2)] (by decide +kernel) (Ps := []) (pc' := 208) (lv' := [(0, .ref 990), (1, .ref 0), (2, .ref 66), (3, .int (nI i))]) (st' := [.ref 66, .int r1]) (σ' := τ) rfl True.intro ?_
  refine rw_go hX [(208, .aload_n 0), (209, .iload_n 3), (210, .iconst 1), (211, .iadd)] (by decide +kernel) (Ps := []) (pc' := 212) (lv' := [(0, .ref 990), (1, .ref 0), (2, .ref 66), (3, .int (nI i))]) (st' := [.int (nI i + nI 1), .ref 990, .ref 66, .int r1]) (σ' := τ) rfl True.intro ?_
  refine rw_sld hX hSC (by rw [nI_add]; exact vp_in_nI (by omega) (by omega)) (by decide +kernel) ?_
  refine rw_go hX [(213, .aload_n 0), (214, .iload_n 3), (215, .iconst 2), (216, .iadd)] (by decide +kernel) (Ps := []) (pc' := 217) (lv' := [(0, .ref 990), (1, .ref 0), (2, .ref 66), (3, .int (nI i))]) (st' := [.int (nI i + nI 2), .ref 990, .int (xs (nI i + nI 1).toNatClampNeg), .ref 66, .int r1]) (σ' := τ) rfl True.intro ?_
  refine rw_sld hX hSC (by rw [nI_add]; exact vp_in_nI (by omega) (by omega)) (by decide +kernel) ?_
  refine rw_go hX [(218, .aload_n 0), (219, .iload_n 3), (220, .iconst 3), (221, .iadd)] (by decide +kernel) (Ps := []) (pc' := 222) (lv' := [(0, .ref 990), (1, .ref 0), (2, .ref 66), (3, .int (nI i))]) (st' := [.int (nI i + nI 3), .ref 990, .int (xs (nI i + nI 2).toNatClampNeg), .int (xs (nI i + nI 1).toNatClampNeg), .ref 66, .int r1]) (σ' := τ) rfl True.intro ?_
  refine rw_sld hX hSC (by rw [nI_add]; exact vp_in_nI (by omega) (by omega)) (by decide +kernel) ?_
  refine rw_go hX [(223, .aload_n 0), (224, .iload_n 3), (225, .iconst 4), (226, .iadd)] (by decide +kernel) (Ps := []) (pc' := 227) (lv' := [(0, .ref 990), (1, .ref 0), (2, .ref 66), (3, .int (nI i))]) (st' := [.int (nI i + nI 4), .ref 990, .int (xs (nI i + nI 3).toNatClampNeg), .int (xs (nI i + nI 2).toNatClampNeg), .int (xs (nI i + nI 1).toNatClampNeg), .ref 66, .int r1]) (σ' := τ) rfl True.intro ?_
  refine rw_sld hX hSC (by rw [nI_add]; exact vp_in_nI (by omega) (by omega)) (by decide +kernel) ?_
  refine rw_go hX [(228, .aload_n 0), (229, .iload_n 3), (230, .iconst 5), (231, .iadd)] (by decide +kernel) (Ps := []) (pc' := 232) (lv' := [(0, .ref 990), (1, .ref 0), (2, .ref 66), (3, .int (nI i))]) (st' := [.int (nI i + nI 5), .ref 990, .int (xs (nI i + nI 4).toNatClampNeg), .int (xs (nI i + nI 3).toNatClampNeg), .int (xs (nI i + nI 2).toNatClampNeg), .int (xs (nI i + nI 1).toNatClampNeg), .ref 66, .int r1]) (σ' := τ) rfl True.intro ?_
  refine rw_sld hX hSC (by rw [nI_add]; exact vp_in_nI (by omega) (by omega)) (by decide +kernel) ?_
  refine rw_go hX [(233, .aload_n 0), (234, .iload_n 3), (235, .bipush 6), (237, .iadd)] (by decide +kernel) (Ps := []) (pc' := 238) (lv' := [(0, .ref 990), (1, .ref 0), (2, .ref 66), (3, .int (nI i))]) (st' := [.int (nI i + nI 6), .ref 990, .int (xs (nI i + nI 5).toNatClampNeg), .int (xs (nI i + nI 4).toNatClampNeg), .int (xs (nI i + nI 3).toNatClampNeg), .int (xs (nI i + nI 2).toNatClampNeg), .int (xs (nI i + nI 1).toNatClampNeg), .ref 66, .int r1]) (σ' := τ) rfl True.intro ?_
  refine rw_sld hX hSC (by rw [nI_add]; exact vp_in_nI (by omega) (by omega)) (by decide +kernel) ?_
  refine rw_callVi hX (as := [.int (xs (nI i + nI 1).toNatClampNeg), .int (xs (nI i + nI 2).toNatClampNeg), .int (xs (nI i + nI 3).toNatClampNeg), .int (xs (nI i + nI 4).toNatClampNeg), .int (xs (nI i + nI 5).toNatClampNeg), .int (xs (nI i + nI 6).toNatClampNeg)]) (rest := [.int r1]) (g_feed _ _ _ t (xs (nI i + nI 1).toNatClampNeg) (xs (nI i + nI 2).toNatClampNeg) (xs (nI i + nI 3).toNatClampNeg) (xs (nI i + nI 4).toNatClampNeg) (xs (nI i + nI 5).toNatClampNeg) (xs (nI i + nI 6).toNatClampNeg) (by rw [hτ 66 (by omega)]; exact ht2) ht5) (by decide +kernel) mvX10_feed lk11_17 (ci := 9) rfl rfl rfl (by decide) (Nat.le_of_ble_eq_true rfl) rfl ?_
  intro r2 υ h2
  obtain ⟨e2, eυ⟩ := h2
  have e : r1 = r2 := e1.trans e2.symm
  have hJ2 : J0 υ := by rw [eυ, eτ]; exact st_feed hJ rt ht ht5 _ _ _ _ _ _
  exact rw_icmp hX (tgt := 1408) (cnd := .eq) (off := 1166) (by decide +kernel) (by decide) (fun _ => kk υ hJ2) (fun h => absurd e h)
set_option maxRecDepth 20000 in
set_option maxHeartbeats 4000000 in
theorem lc_work {E : Cf} {G : Gl} {Q : State → Prop} {b L i : Nat} {xs : Nat → Int32} {σ : Mm} (hX : Cx E G 8 11 code 4 (some .boolean)) (hSC : SC E G b L xs) (hi : i + 7 ≤ L) (hL : L ≤ 3584) (hJ : J0 σ) (ev : vw σ 67 = vw σ 2) (rt : σ 72 = σ 65) (kk : ∀ υ, J0 υ → RW E G 8 4 Q 1408 [(0, .ref 990), (1, .ref 0), (2, .ref 66), (3, .int (nI i))] [] υ) : RW E G 8 4 Q 247 [(0, .ref 990), (1, .ref 0), (2, .ref 66), (3, .int (nI i))] [] σ := by
  obtain ⟨t, ht, ht2, ht5, htp⟩ := hJ.2.1
  refine rw_go hX [(247, .aload_n 1)] (by decide +kernel) (Ps := []) (pc' := 248) (lv' := [(0, .ref 990), (1, .ref 0), (2, .ref 66), (3, .int (nI i))]) (st' := [.ref 0]) (σ' := σ) rfl True.intro ?_
  refine rw_go hX [(248, .aload_n 0), (249, .iload_n 3), (250, .iconst 1), (251, .iadd)] (by decide +kernel) (Ps := []) (pc' := 252) (lv' := [(0, .ref 990), (1, .ref 0), (2, .ref 66), (3, .int (nI i))]) (st' := [.int (nI i + nI 1), .ref 990, .ref 0]) (σ' := σ) rfl True.intro ?_
  refine rw_sld hX hSC (by rw [nI_add]; exact vp_in_nI (by omega) (by omega)) (by decide +kernel) ?_
  refine rw_go hX [(253, .aload_n 0), (254, .iload_n 3), (255, .iconst 2), (256, .iadd)] (by decide +kernel) (Ps := []) (pc' := 257) (lv' := [(0, .ref 990), (1, .ref 0), (2, .ref 66), (3, .int (nI i))]) (st' := [.int (nI i + nI 2), .ref 990, .int (xs (nI i + nI 1).toNatClampNeg), .ref 0]) (σ' := σ) rfl True.intro ?_
  refine rw_sld hX hSC (by rw [nI_add]; exact vp_in_nI (by omega) (by omega)) (by decide +kernel) ?_
  refine rw_go hX [(258, .aload_n 0), (259, .iload_n 3), (260, .iconst 3), (261, .iadd)] (by decide +kernel) (Ps := []) (pc' := 262) (lv' := [(0, .ref 990), (1, .ref 0), (2, .ref 66), (3, .int (nI i))]) (st' := [.int (nI i + nI 3), .ref 990, .int (xs (nI i + nI 2).toNatClampNeg), .int (xs (nI i + nI 1).toNatClampNeg), .ref 0]) (σ' := σ) rfl True.intro ?_
  refine rw_sld hX hSC (by rw [nI_add]; exact vp_in_nI (by omega) (by omega)) (by decide +kernel) ?_
  refine rw_callVi hX (as := [.int (xs (nI i + nI 1).toNatClampNeg), .int (xs (nI i + nI 2).toNatClampNeg), .int (xs (nI i + nI 3).toNatClampNeg)]) (rest := []) (f_work _ _ _ t (xs (nI i + nI 1).toNatClampNeg) (xs (nI i + nI 2).toNatClampNeg) (xs (nI i + nI 3).toNatClampNeg) ht ht5) (by decide +kernel) mvX9_work lk11_18 (ci := 8) rfl rfl rfl (by decide) (Nat.le_of_ble_eq_true rfl) rfl ?_
  intro r1 τ h1
  obtain ⟨e1, eτ⟩ := h1
  have hτ : ∀ k, 66 ≤ k → τ k = σ k := fun k hk => by rw [eτ]; exact fr_work σ t _ _ _ hk
  refine rw_go hX [(266, .aload_n 2)] (by decide +kernel) (Ps := []) (pc' := 267) (lv' := [(0, .ref 990), (1, .ref 0), (2, .ref 66), (3, .int (nI i))]) (st' := [.ref 66, .int r1]) (σ' := τ) rfl True.intro ?_
  refine rw_go hX [(267, .aload_n 0), (268, .iload_n 3), (269, .iconst 1), (270, .iadd)] (by decide +kernel) (Ps := []) (pc' := 271) (lv' := [(0, .ref 990), (1, .ref 0), (2, .ref 66), (3, .int (nI i))]) (st' := [.int (nI i + nI 1), .ref 990, .ref 66, .int r1]) (σ' := τ) rfl True.intro ?_
  refine rw_sld hX hSC (by rw [nI_add]; exact vp_in_nI (by omega) (by omega)) (by decide +kernel) ?_
  refine rw_go hX [(272, .aload_n 0), (273, .iload_n 3), (274, .iconst 2), (275, .iadd)] (by decide +kernel) (Ps := []) (pc' := 276) (lv' := [(0, .ref 990), (1, .ref 0), (2, .ref 66), (3, .int (nI i))]) (st' := [.int (nI i + nI 2), .ref 990, .int (xs (nI i + nI 1).toNatClampNeg), .ref 66, .int r1]) (σ' := τ) rfl True.intro ?_
  refine rw_sld hX hSC (by rw [nI_add]; exact vp_in_nI (by omega) (by omega)) (by decide +kernel) ?_
  refine rw_go hX [(277, .aload_n 0), (278, .iload_n 3), (279, .iconst 3), (280, .iadd)] (by decide +kernel) (Ps := []) (pc' := 281) (lv' := [(0, .ref 990), (1, .ref 0), (2, .ref 66), (3, .int (nI i))]) (st' := [.int (nI i + nI 3), .ref 990, .int (xs (nI i + nI 2).toNatClampNeg), .int (xs (nI i + nI 1).toNatClampNeg), .ref 66, .int r1]) (σ' := τ) rfl True.intro ?_
  refine rw_sld hX hSC (by rw [nI_add]; exact vp_in_nI (by omega) (by omega)) (by decide +kernel) ?_
  refine rw_callVi hX (as := [.int (xs (nI i + nI 1).toNatClampNeg), .int (xs (nI i + nI 2).toNatClampNeg), .int (xs (nI i + nI 3).toNatClampNeg)]) (rest := [.int r1]) (g_work _ _ _ t (xs (nI i + nI 1).toNatClampNeg) (xs (nI i + nI 2).toNatClampNeg) (xs (nI i + nI 3).toNatClampNeg) (by rw [hτ 66 (by omega)]; exact ht2) ht5) (by decide +kernel) mvX10_work lk11_22 (ci := 9) rfl rfl rfl (by decide) (Nat.le_of_ble_eq_true rfl) rfl ?_
  intro r2 υ h2
  obtain ⟨e2, eυ⟩ := h2
  rw [hτ 72 (by omega), rt] at e2
  have e : r1 = r2 := e1.trans e2.symm
  have hJ2 : J0 υ := by rw [eυ, eτ]; exact st_work hJ ev rt ht ht5 _ _ _
  exact rw_icmp hX (tgt := 1408) (cnd := .eq) (off := 1123) (by decide +kernel) (by decide) (fun _ => kk υ hJ2) (fun h => absurd e h)
set_option maxRecDepth 20000 in
set_option maxHeartbeats 4000000 in
theorem lc_splice {E : Cf} {G : Gl} {Q : State → Prop} {b L i : Nat} {xs : Nat → Int32} {σ : Mm} (hX : Cx E G 8 11 code 4 (some .boolean)) (hSC : SC E G b L xs) (hi : i + 7 ≤ L) (hL : L ≤ 3584) (hJ : J0 σ) (ev : vw σ 67 = vw σ 2) (rt : σ 72 = σ 65) (kk : ∀ υ, J0 υ → RW E G 8 4 Q 1408 [(0, .ref 990), (1, .ref 0), (2, .ref 66), (3, .int (nI i))] [] υ) : RW E G 8 4 Q 290 [(0, .ref 990), (1, .ref 0), (2, .ref 66), (3, .int (nI i))] [] σ := by
  refine rw_go hX [(290, .aload_n 1)] (by decide +kernel) (Ps := []) (pc' := 291) (lv' := [(0, .ref 990), (1, .ref 0), (2, .ref 66), (3, .int (nI i))]) (st' := [.ref 0]) (σ' := σ) rfl True.intro ?_
  refine rw_go hX [(291, .aload_n 0), (292, .iload_n 3), (293, .iconst 1), (294, .iadd)] (by decide +kernel) (Ps := []) (pc' := 295) (lv' := [(0, .ref 990), (1, .ref 0), (2, .ref 66), (3, .int (nI i))]) (st' := [.int (nI i + nI 1), .ref 990, .ref 0]) (σ' := σ) rfl True.intro ?_
  refine rw_sld hX hSC (by rw [nI_add]; exact vp_in_nI (by omega) (by omega)) (by decide +kernel) ?_
  refine rw_go hX [(296, .aload_n 0), (297, .iload_n 3), (298, .iconst 2), (299, .iadd)] (by decide +kernel) (Ps := []) (pc' := 300) (lv' := [(0, .ref 990), (1, .ref 0), (2, .ref 66), (3, .int (nI i))]) (st' := [.int (nI i + nI 2), .ref 990, .int (xs (nI i + nI 1).toNatClampNeg), .ref 0]) (σ' := σ) rfl True.intro ?_
  refine rw_sld hX hSC (by rw [nI_add]; exact vp_in_nI (by omega) (by omega)) (by decide +kernel) ?_
  refine rw_go hX [(301, .aload_n 0), (302, .iload_n 3), (303, .iconst 3), (304, .iadd)] (by decide +kernel) (Ps := []) (pc' := 305) (lv' := [(0, .ref 990), (1, .ref 0), (2, .ref 66), (3, .int (nI i))]) (st' := [.int (nI i + nI 3), .ref 990, .int (xs (nI i + nI 2).toNatClampNeg), .int (xs (nI i + nI 1).toNatClampNeg), .ref 0]) (σ' := σ) rfl True.intro ?_
  refine rw_sld hX hSC (by rw [nI_add]; exact vp_in_nI (by omega) (by omega)) (by decide +kernel) ?_
  refine rw_go hX [(306, .aload_n 0), (307, .iload_n 3), (308, .iconst 4), (309, .iadd)] (by decide +kernel) (Ps := []) (pc' := 310) (lv' := [(0, .ref 990), (1, .ref 0), (2, .ref 66), (3, .int (nI i))]) (st' := [.int (nI i + nI 4), .ref 990, .int (xs (nI i + nI 3).toNatClampNeg), .int (xs (nI i + nI 2).toNatClampNeg), .int (xs (nI i + nI 1).toNatClampNeg), .ref 0]) (σ' := σ) rfl True.intro ?_
  refine rw_sld hX hSC (by rw [nI_add]; exact vp_in_nI (by omega) (by omega)) (by decide +kernel) ?_
  refine rw_go hX [(311, .aload_n 0), (312, .iload_n 3), (313, .iconst 5), (314, .iadd)] (by decide +kernel) (Ps := []) (pc' := 315) (lv' := [(0, .ref 990), (1, .ref 0), (2, .ref 66), (3, .int (nI i))]) (st' := [.int (nI i + nI 5), .ref 990, .int (xs (nI i + nI 4).toNatClampNeg), .int (xs (nI i + nI 3).toNatClampNeg), .int (xs (nI i + nI 2).toNatClampNeg), .int (xs (nI i + nI 1).toNatClampNeg), .ref 0]) (σ' := σ) rfl True.intro ?_
  refine rw_sld hX hSC (by rw [nI_add]; exact vp_in_nI (by omega) (by omega)) (by decide +kernel) ?_
  refine rw_callVi hX (as := [.int (xs (nI i + nI 1).toNatClampNeg), .int (xs (nI i + nI 2).toNatClampNeg), .int (xs (nI i + nI 3).toNatClampNeg), .int (xs (nI i + nI 4).toNatClampNeg), .int (xs (nI i + nI 5).toNatClampNeg)]) (rest := []) (f_splice _ _ _ (vw σ 2) (xs (nI i + nI 1).toNatClampNeg) (xs (nI i + nI 2).toNatClampNeg) (xs (nI i + nI 3).toNatClampNeg) (xs (nI i + nI 4).toNatClampNeg) (xs (nI i + nI 5).toNatClampNeg) rfl hJ.1.2) (by decide +kernel) mvX9_splice lk11_23 (ci := 8) rfl rfl rfl (by decide) (Nat.le_of_ble_eq_true rfl) rfl ?_
  intro r1 τ h1
  obtain ⟨e1, eτ⟩ := h1
  have hτ : ∀ k, 66 ≤ k → τ k = σ k := fun k hk => by rw [eτ]; exact fr_spl _ σ _ _ _ _ _ hk
  have hV1 : vw τ 67 = vw σ 2 := (vw_of (fun j hj => hτ _ (by omega))).trans ev
  refine rw_go hX [(319, .aload_n 2)] (by decide +kernel) (Ps := []) (pc' := 320) (lv' := [(0, .ref 990), (1, .ref 0), (2, .ref 66), (3, .int (nI i))]) (st' := [.ref 66, .int r1]) (σ' := τ) rfl True.intro ?_
  refine rw_go hX [(320, .aload_n 0), (321, .iload_n 3), (322, .iconst 1), (323, .iadd)] (by decide +kernel) (Ps := []) (pc' := 324) (lv' := [(0, .ref 990), (1, .ref 0), (2, .ref 66), (3, .int (nI i))]) (st' := [.int (nI i + nI 1), .ref 990, .ref 66, .int r1]) (σ' := τ) rfl True.intro ?_
  refine rw_sld hX hSC (by rw [nI_add]; exact vp_in_nI (by omega) (by omega)) (by decide +kernel) ?_
  refine rw_go hX [(325, .aload_n 0), (326, .iload_n 3), (327, .iconst 2), (328, .iadd)] (by decide +kernel) (Ps := []) (pc' := 329) (lv' := [(0, .ref 990), (1, .ref 0), (2, .ref 66), (3, .int (nI i))]) (st' := [.int (nI i + nI 2), .ref 990, .int (xs (nI i + nI 1).toNatClampNeg), .ref 66, .int r1]) (σ' := τ) rfl True.intro ?_
  refine rw_sld hX hSC (by rw [nI_add]; exact vp_in_nI (by omega) (by omega)) (by decide +kernel) ?_
  refine rw_go hX [(330, .aload_n 0), (331, .iload_n 3), (332, .iconst 3), (333, .iadd)] (by decide +kernel) (Ps := []) (pc' := 334) (lv' := [(0, .ref 990), (1, .ref 0), (2, .ref 66), (3, .int (nI i))]) (st' := [.int (nI i + nI 3), .ref 990, .int (xs (nI i + nI 2).toNatClampNeg), .int (xs (nI i + nI 1).toNatClampNeg), .ref 66, .int r1]) (σ' := τ) rfl True.intro ?_
  refine rw_sld hX hSC (by rw [nI_add]; exact vp_in_nI (by omega) (by omega)) (by decide +kernel) ?_
  refine rw_go hX [(335, .aload_n 0), (336, .iload_n 3), (337, .iconst 4), (338, .iadd)] (by decide +kernel) (Ps := []) (pc' := 339) (lv' := [(0, .ref 990), (1, .ref 0), (2, .ref 66), (3, .int (nI i))]) (st' := [.int (nI i + nI 4), .ref 990, .int (xs (nI i + nI 3).toNatClampNeg), .int (xs (nI i + nI 2).toNatClampNeg), .int (xs (nI i + nI 1).toNatClampNeg), .ref 66, .int r1]) (σ' := τ) rfl True.intro ?_
  refine rw_sld hX hSC (by rw [nI_add]; exact vp_in_nI (by omega) (by omega)) (by decide +kernel) ?_
  refine rw_go hX [(340, .aload_n 0), (341, .iload_n 3), (342, .iconst 5), (343, .iadd)] (by decide +kernel) (Ps := []) (pc' := 344) (lv' := [(0, .ref 990), (1, .ref 0), (2, .ref 66), (3, .int (nI i))]) (st' := [.int (nI i + nI 5), .ref 990, .int (xs (nI i + nI 4).toNatClampNeg), .int (xs (nI i + nI 3).toNatClampNeg), .int (xs (nI i + nI 2).toNatClampNeg), .int (xs (nI i + nI 1).toNatClampNeg), .ref 66, .int r1]) (σ' := τ) rfl True.intro ?_
  refine rw_sld hX hSC (by rw [nI_add]; exact vp_in_nI (by omega) (by omega)) (by decide +kernel) ?_
  refine rw_callVi hX (as := [.int (xs (nI i + nI 1).toNatClampNeg), .int (xs (nI i + nI 2).toNatClampNeg), .int (xs (nI i + nI 3).toNatClampNeg), .int (xs (nI i + nI 4).toNatClampNeg), .int (xs (nI i + nI 5).toNatClampNeg)]) (rest := [.int r1]) (g_splice _ _ _ (vw σ 2) (xs (nI i + nI 1).toNatClampNeg) (xs (nI i + nI 2).toNatClampNeg) (xs (nI i + nI 3).toNatClampNeg) (xs (nI i + nI 4).toNatClampNeg) (xs (nI i + nI 5).toNatClampNeg) hV1 hJ.1.2) (by decide +kernel) mvX10_splice lk11_27 (ci := 9) rfl rfl rfl (by decide) (Nat.le_of_ble_eq_true rfl) rfl ?_
  intro r2 υ h2
  obtain ⟨e2, eυ⟩ := h2
  have e : r1 = r2 := e1.trans e2.symm
  have hJ2 : J0 υ := by rw [eυ, eτ]; exact st_spl hJ ev _ _ _ _ _
  exact rw_icmp hX (tgt := 1408) (cnd := .eq) (off := 1060) (by decide +kernel) (by decide) (fun _ => kk υ hJ2) (fun h => absurd e h)
set_option maxRecDepth 20000 in
set_option maxHeartbeats 4000000 in
theorem lc_cut {E : Cf} {G : Gl} {Q : State → Prop} {b L i : Nat} {xs : Nat → Int32} {σ : Mm} (hX : Cx E G 8 11 code 4 (some .boolean)) (hSC : SC E G b L xs) (hi : i + 7 ≤ L) (hL : L ≤ 3584) (hJ : J0 σ) (ev : vw σ 67 = vw σ 2) (rt : σ 72 = σ 65) (kk : ∀ υ, J0 υ → RW E G 8 4 Q 1408 [(0, .ref 990), (1, .ref 0), (2, .ref 66), (3, .int (nI i))] [] υ) : RW E G 8 4 Q 353 [(0, .ref 990), (1, .ref 0), (2, .ref 66), (3, .int (nI i))] [] σ := by
  refine rw_go hX [(353, .aload_n 1)] (by decide +kernel) (Ps := []) (pc' := 354) (lv' := [(0, .ref 990), (1, .ref 0), (2, .ref 66), (3, .int (nI i))]) (st' := [.ref 0]) (σ' := σ) rfl True.intro ?_
  refine rw_go hX [(354, .aload_n 0), (355, .iload_n 3), (356, .iconst 1), (357, .iadd)] (by decide +kernel) (Ps := []) (pc' := 358) (lv' := [(0, .ref 990), (1, .ref 0), (2, .ref 66), (3, .int (nI i))]) (st' := [.int (nI i + nI 1), .ref 990, .ref 0]) (σ' := σ) rfl True.intro ?_
  refine rw_sld hX hSC (by rw [nI_add]; exact vp_in_nI (by omega) (by omega)) (by decide +kernel) ?_
  refine rw_go hX [(359, .aload_n 0), (360, .iload_n 3), (361, .iconst 2), (362, .iadd)] (by decide +kernel) (Ps := []) (pc' := 363) (lv' := [(0, .ref 990), (1, .ref 0), (2, .ref 66), (3, .int (nI i))]) (st' := [.int (nI i + nI 2), .ref 990, .int (xs (nI i + nI 1).toNatClampNeg), .ref 0]) (σ' := σ) rfl True.intro ?_
  refine rw_sld hX hSC (by rw [nI_add]; exact vp_in_nI (by omega) (by omega)) (by decide +kernel) ?_
  refine rw_go hX [(364, .aload_n 0), (365, .iload_n 3), (366, .iconst 3), (367, .iadd)] (by decide +kernel) (Ps := []) (pc' := 368) (lv' := [(0, .ref 990), (1, .ref 0), (2, .ref 66), (3, .int (nI i))]) (st' := [.int (nI i + nI 3), .ref 990, .int (xs (nI i + nI 2).toNatClampNeg), .int (xs (nI i + nI 1).toNatClampNeg), .ref 0]) (σ' := σ) rfl True.intro ?_
  refine rw_sld hX hSC (by rw [nI_add]; exact vp_in_nI (by omega) (by omega)) (by decide +kernel) ?_
  refine rw_callVi hX (as := [.int (xs (nI i + nI 1).toNatClampNeg), .int (xs (nI i + nI 2).toNatClampNeg), .int (xs (nI i + nI 3).toNatClampNeg)]) (rest := []) (f_cut _ _ _ (vw σ 2) (xs (nI i + nI 1).toNatClampNeg) (xs (nI i + nI 2).toNatClampNeg) (xs (nI i + nI 3).toNatClampNeg) rfl hJ.1.2) (by decide +kernel) mvX9_cut lk11_28 (ci := 8) rfl rfl rfl (by decide) (Nat.le_of_ble_eq_true rfl) rfl ?_
  intro r1 τ h1
  obtain ⟨e1, eτ⟩ := h1
  have hτ : ∀ k, 66 ≤ k → τ k = σ k := fun k hk => by rw [eτ]; exact fr_cut _ σ _ _ _ hk
  have hV1 : vw τ 67 = vw σ 2 := (vw_of (fun j hj => hτ _ (by omega))).trans ev
  refine rw_go hX [(372, .aload_n 2)] (by decide +kernel) (Ps := []) (pc' := 373) (lv' := [(0, .ref 990), (1, .ref 0), (2, .ref 66), (3, .int (nI i))]) (st' := [.ref 66, .int r1]) (σ' := τ) rfl True.intro ?_
  refine rw_go hX [(373, .aload_n 0), (374, .iload_n 3), (375, .iconst 1), (376, .iadd)] (by decide +kernel) (Ps := []) (pc' := 377) (lv' := [(0, .ref 990), (1, .ref 0), (2, .ref 66), (3, .int (nI i))]) (st' := [.int (nI i + nI 1), .ref 990, .ref 66, .int r1]) (σ' := τ) rfl True.intro ?_
  refine rw_sld hX hSC (by rw [nI_add]; exact vp_in_nI (by omega) (by omega)) (by decide +kernel) ?_
  refine rw_go hX [(378, .aload_n 0), (379, .iload_n 3), (380, .iconst 2), (381, .iadd)] (by decide +kernel) (Ps := []) (pc' := 382) (lv' := [(0, .ref 990), (1, .ref 0), (2, .ref 66), (3, .int (nI i))]) (st' := [.int (nI i + nI 2), .ref 990, .int (xs (nI i + nI 1).toNatClampNeg), .ref 66, .int r1]) (σ' := τ) rfl True.intro ?_
  refine rw_sld hX hSC (by rw [nI_add]; exact vp_in_nI (by omega) (by omega)) (by decide +kernel) ?_
  refine rw_go hX [(383, .aload_n 0), (384, .iload_n 3), (385, .iconst 3), (386, .iadd)] (by decide +kernel) (Ps := []) (pc' := 387) (lv' := [(0, .ref 990), (1, .ref 0), (2, .ref 66), (3, .int (nI i))]) (st' := [.int (nI i + nI 3), .ref 990, .int (xs (nI i + nI 2).toNatClampNeg), .int (xs (nI i + nI 1).toNatClampNeg), .ref 66, .int r1]) (σ' := τ) rfl True.intro ?_
  refine rw_sld hX hSC (by rw [nI_add]; exact vp_in_nI (by omega) (by omega)) (by decide +kernel) ?_
  refine rw_callVi hX (as := [.int (xs (nI i + nI 1).toNatClampNeg), .int (xs (nI i + nI 2).toNatClampNeg), .int (xs (nI i + nI 3).toNatClampNeg)]) (rest := [.int r1]) (g_cut _ _ _ (vw σ 2) (xs (nI i + nI 1).toNatClampNeg) (xs (nI i + nI 2).toNatClampNeg) (xs (nI i + nI 3).toNatClampNeg) hV1 hJ.1.2) (by decide +kernel) mvX10_cut lk11_31 (ci := 9) rfl rfl rfl (by decide) (Nat.le_of_ble_eq_true rfl) rfl ?_
  intro r2 υ h2
  obtain ⟨e2, eυ⟩ := h2
  have e : r1 = r2 := e1.trans e2.symm
  have hJ2 : J0 υ := by rw [eυ, eτ]; exact st_cut hJ ev _ _ _
  exact rw_icmp hX (tgt := 1408) (cnd := .eq) (off := 1017) (by decide +kernel) (by decide) (fun _ => kk υ hJ2) (fun h => absurd e h)
set_option maxRecDepth 20000 in
set_option maxHeartbeats 4000000 in
theorem lc_drop {E : Cf} {G : Gl} {Q : State → Prop} {b L i : Nat} {xs : Nat → Int32} {σ : Mm} (hX : Cx E G 8 11 code 4 (some .boolean)) (hSC : SC E G b L xs) (hi : i + 7 ≤ L) (hL : L ≤ 3584) (hJ : J0 σ) (ev : vw σ 67 = vw σ 2) (rt : σ 72 = σ 65) (kk : ∀ υ, J0 υ → RW E G 8 4 Q 1408 [(0, .ref 990), (1, .ref 0), (2, .ref 66), (3, .int (nI i))] [] υ) : RW E G 8 4 Q 396 [(0, .ref 990), (1, .ref 0), (2, .ref 66), (3, .int (nI i))] [] σ := by
  refine rw_go hX [(396, .aload_n 1)] (by decide +kernel) (Ps := []) (pc' := 397) (lv' := [(0, .ref 990), (1, .ref 0), (2, .ref 66), (3, .int (nI i))]) (st' := [.ref 0]) (σ' := σ) rfl True.intro ?_
  refine rw_go hX [(397, .aload_n 0), (398, .iload_n 3), (399, .iconst 1), (400, .iadd)] (by decide +kernel) (Ps := []) (pc' := 401) (lv' := [(0, .ref 990), (1, .ref 0), (2, .ref 66), (3, .int (nI i))]) (st' := [.int (nI i + nI 1), .ref 990, .ref 0]) (σ' := σ) rfl True.intro ?_
  refine rw_sld hX hSC (by rw [nI_add]; exact vp_in_nI (by omega) (by omega)) (by decide +kernel) ?_
  refine rw_callVi hX (as := [.int (xs (nI i + nI 1).toNatClampNeg)]) (rest := []) (f_drop _ _ _ (vw σ 2) (xs (nI i + nI 1).toNatClampNeg) rfl hJ.1.2) (by decide +kernel) mvX9_drop lk11_32 (ci := 8) rfl rfl rfl (by decide) (Nat.le_of_ble_eq_true rfl) rfl ?_
  intro r1 τ h1
  obtain ⟨e1, eτ⟩ := h1
  have hτ : ∀ k, 66 ≤ k → τ k = σ k := fun k hk => by rw [eτ]; exact fr_drop _ σ _ hk
  have hV1 : vw τ 67 = vw σ 2 := (vw_of (fun j hj => hτ _ (by omega))).trans ev
  refine rw_go hX [(405, .aload_n 2)] (by decide +kernel) (Ps := []) (pc' := 406) (lv' := [(0, .ref 990), (1, .ref 0), (2, .ref 66), (3, .int (nI i))]) (st' := [.ref 66, .int r1]) (σ' := τ) rfl True.intro ?_
  refine rw_go hX [(406, .aload_n 0), (407, .iload_n 3), (408, .iconst 1), (409, .iadd)] (by decide +kernel) (Ps := []) (pc' := 410) (lv' := [(0, .ref 990), (1, .ref 0), (2, .ref 66), (3, .int (nI i))]) (st' := [.int (nI i + nI 1), .ref 990, .ref 66, .int r1]) (σ' := τ) rfl True.intro ?_
  refine rw_sld hX hSC (by rw [nI_add]; exact vp_in_nI (by omega) (by omega)) (by decide +kernel) ?_
  refine rw_callVi hX (as := [.int (xs (nI i + nI 1).toNatClampNeg)]) (rest := [.int r1]) (g_drop _ _ _ (vw σ 2) (xs (nI i + nI 1).toNatClampNeg) hV1 hJ.1.2) (by decide +kernel) mvX10_drop lk11_36 (ci := 9) rfl rfl rfl (by decide) (Nat.le_of_ble_eq_true rfl) rfl ?_
  intro r2 υ h2
  obtain ⟨e2, eυ⟩ := h2
  have e : r1 = r2 := e1.trans e2.symm
  have hJ2 : J0 υ := by rw [eυ, eτ]; exact st_drop hJ ev _
  exact rw_icmp hX (tgt := 1408) (cnd := .eq) (off := 994) (by decide +kernel) (by decide) (fun _ => kk υ hJ2) (fun h => absurd e h)
set_option maxRecDepth 20000 in
set_option maxHeartbeats 4000000 in
theorem lc_alter {E : Cf} {G : Gl} {Q : State → Prop} {b L i : Nat} {xs : Nat → Int32} {σ : Mm} (hX : Cx E G 8 11 code 4 (some .boolean)) (hSC : SC E G b L xs) (hi : i + 7 ≤ L) (hL : L ≤ 3584) (hJ : J0 σ) (ev : vw σ 67 = vw σ 2) (rt : σ 72 = σ 65) (kk : ∀ υ, J0 υ → RW E G 8 4 Q 1408 [(0, .ref 990), (1, .ref 0), (2, .ref 66), (3, .int (nI i))] [] υ) : RW E G 8 4 Q 419 [(0, .ref 990), (1, .ref 0), (2, .ref 66), (3, .int (nI i))] [] σ := by
  refine rw_go hX [(419, .aload_n 1)] (by decide +kernel) (Ps := []) (pc' := 420) (lv' := [(0, .ref 990), (1, .ref 0), (2, .ref 66), (3, .int (nI i))]) (st' := [.ref 0]) (σ' := σ) rfl True.intro ?_
  refine rw_go hX [(420, .aload_n 0), (421, .iload_n 3), (422, .iconst 1), (423, .iadd)] (by decide +kernel) (Ps := []) (pc' := 424) (lv' := [(0, .ref 990), (1, .ref 0), (2, .ref 66), (3, .int (nI i))]) (st' := [.int (nI i + nI 1), .ref 990, .ref 0]) (σ' := σ) rfl True.intro ?_
  refine rw_sld hX hSC (by rw [nI_add]; exact vp_in_nI (by omega) (by omega)) (by decide +kernel) ?_
  refine rw_go hX [(425, .aload_n 0), (426, .iload_n 3), (427, .iconst 2), (428, .iadd)] (by decide +kernel) (Ps := []) (pc' := 429) (lv' := [(0, .ref 990), (1, .ref 0), (2, .ref 66), (3, .int (nI i))]) (st' := [.int (nI i + nI 2), .ref 990, .int (xs (nI i + nI 1).toNatClampNeg), .ref 0]) (σ' := σ) rfl True.intro ?_
  refine rw_sld hX hSC (by rw [nI_add]; exact vp_in_nI (by omega) (by omega)) (by decide +kernel) ?_
  refine rw_go hX [(430, .aload_n 0), (431, .iload_n 3), (432, .iconst 3), (433, .iadd)] (by decide +kernel) (Ps := []) (pc' := 434) (lv' := [(0, .ref 990), (1, .ref 0), (2, .ref 66), (3, .int (nI i))]) (st' := [.int (nI i + nI 3), .ref 990, .int (xs (nI i + nI 2).toNatClampNeg), .int (xs (nI i + nI 1).toNatClampNeg), .ref 0]) (σ' := σ) rfl True.intro ?_
  refine rw_sld hX hSC (by rw [nI_add]; exact vp_in_nI (by omega) (by omega)) (by decide +kernel) ?_
  refine rw_callVi hX (as := [.int (xs (nI i + nI 1).toNatClampNeg), .int (xs (nI i + nI 2).toNatClampNeg), .int (xs (nI i + nI 3).toNatClampNeg)]) (rest := []) (f_alter _ _ _ (vw σ 2) (xs (nI i + nI 1).toNatClampNeg) (xs (nI i + nI 2).toNatClampNeg) (xs (nI i + nI 3).toNatClampNeg) rfl hJ.1.2) (by decide +kernel) mvX9_alter lk11_37 (ci := 8) rfl rfl rfl (by decide) (Nat.le_of_ble_eq_true rfl) rfl ?_
  intro r1 τ h1
  obtain ⟨e1, eτ⟩ := h1
  have hτ : ∀ k, 66 ≤ k → τ k = σ k := fun k hk => by rw [eτ]; exact fr_alt _ σ _ _ _ hk
  have hV1 : vw τ 67 = vw σ 2 := (vw_of (fun j hj => hτ _ (by omega))).trans ev
  refine rw_go hX [(438, .aload_n 2)] (by decide +kernel) (Ps := []) (pc' := 439) (lv' := [(0, .ref 990), (1, .ref 0), (2, .ref 66), (3, .int (nI i))]) (st' := [.ref 66, .int r1]) (σ' := τ) rfl True.intro ?_
  refine rw_go hX [(439, .aload_n 0), (440, .iload_n 3), (441, .iconst 1), (442, .iadd)] (by decide +kernel) (Ps := []) (pc' := 443) (lv' := [(0, .ref 990), (1, .ref 0), (2, .ref 66), (3, .int (nI i))]) (st' := [.int (nI i + nI 1), .ref 990, .ref 66, .int r1]) (σ' := τ) rfl True.intro ?_
  refine rw_sld hX hSC (by rw [nI_add]; exact vp_in_nI (by omega) (by omega)) (by decide +kernel) ?_
  refine rw_go hX [(444, .aload_n 0), (445, .iload_n 3), (446, .iconst 2), (447, .iadd)] (by decide +kernel) (Ps := []) (pc' := 448) (lv' := [(0, .ref 990), (1, .ref 0), (2, .ref 66), (3, .int (nI i))]) (st' := [.int (nI i + nI 2), .ref 990, .int (xs (nI i + nI 1).toNatClampNeg), .ref 66, .int r1]) (σ' := τ) rfl True.intro ?_
  refine rw_sld hX hSC (by rw [nI_add]; exact vp_in_nI (by omega) (by omega)) (by decide +kernel) ?_
  refine rw_go hX [(449, .aload_n 0), (450, .iload_n 3), (451, .iconst 3), (452, .iadd)] (by decide +kernel) (Ps := []) (pc' := 453) (lv' := [(0, .ref 990), (1, .ref 0), (2, .ref 66), (3, .int (nI i))]) (st' := [.int (nI i + nI 3), .ref 990, .int (xs (nI i + nI 2).toNatClampNeg), .int (xs (nI i + nI 1).toNatClampNeg), .ref 66, .int r1]) (σ' := τ) rfl True.intro ?_
  refine rw_sld hX hSC (by rw [nI_add]; exact vp_in_nI (by omega) (by omega)) (by decide +kernel) ?_
  refine rw_callVi hX (as := [.int (xs (nI i + nI 1).toNatClampNeg), .int (xs (nI i + nI 2).toNatClampNeg), .int (xs (nI i + nI 3).toNatClampNeg)]) (rest := [.int r1]) (g_alter _ _ _ (vw σ 2) (xs (nI i + nI 1).toNatClampNeg) (xs (nI i + nI 2).toNatClampNeg) (xs (nI i + nI 3).toNatClampNeg) hV1 hJ.1.2) (by decide +kernel) mvX10_alter lk11_40 (ci := 9) rfl rfl rfl (by decide) (Nat.le_of_ble_eq_true rfl) rfl ?_
  intro r2 υ h2
  obtain ⟨e2, eυ⟩ := h2
  have e : r1 = r2 := e1.trans e2.symm
  have hJ2 : J0 υ := by rw [eυ, eτ]; exact st_alt hJ ev _ _ _
  exact rw_icmp hX (tgt := 1408) (cnd := .eq) (off := 951) (by decide +kernel) (by decide) (fun _ => kk υ hJ2) (fun h => absurd e h)
set_option maxRecDepth 20000 in
set_option maxHeartbeats 4000000 in
theorem lc_raw {E : Cf} {G : Gl} {Q : State → Prop} {b L i : Nat} {xs : Nat → Int32} {σ : Mm} (hX : Cx E G 8 11 code 4 (some .boolean)) (hSC : SC E G b L xs) (hi : i + 7 ≤ L) (hL : L ≤ 3584) (hJ : J0 σ) (ev : vw σ 67 = vw σ 2) (rt : σ 72 = σ 65) (kk : ∀ υ, J0 υ → RW E G 8 4 Q 1408 [(0, .ref 990), (1, .ref 0), (2, .ref 66), (3, .int (nI i))] [] υ) : RW E G 8 4 Q 462 [(0, .ref 990), (1, .ref 0), (2, .ref 66), (3, .int (nI i))] [] σ := by
  refine rw_go hX [(462, .aload_n 1)] (by decide +kernel) (Ps := []) (pc' := 463) (lv' := [(0, .ref 990), (1, .ref 0), (2, .ref 66), (3, .int (nI i))]) (st' := [.ref 0]) (σ' := σ) rfl True.intro ?_
  refine rw_go hX [(463, .aload_n 0), (464, .iload_n 3), (465, .iconst 1), (466, .iadd)] (by decide +kernel) (Ps := []) (pc' := 467) (lv' := [(0, .ref 990), (1, .ref 0), (2, .ref 66), (3, .int (nI i))]) (st' := [.int (nI i + nI 1), .ref 990, .ref 0]) (σ' := σ) rfl True.intro ?_
  refine rw_sld hX hSC (by rw [nI_add]; exact vp_in_nI (by omega) (by omega)) (by decide +kernel) ?_
  refine rw_go hX [(468, .aload_n 0), (469, .iload_n 3), (470, .iconst 2), (471, .iadd)] (by decide +kernel) (Ps := []) (pc' := 472) (lv' := [(0, .ref 990), (1, .ref 0), (2, .ref 66), (3, .int (nI i))]) (st' := [.int (nI i + nI 2), .ref 990, .int (xs (nI i + nI 1).toNatClampNeg), .ref 0]) (σ' := σ) rfl True.intro ?_
  refine rw_sld hX hSC (by rw [nI_add]; exact vp_in_nI (by omega) (by omega)) (by decide +kernel) ?_
  refine rw_callVi hX (as := [.int (xs (nI i + nI 1).toNatClampNeg), .int (xs (nI i + nI 2).toNatClampNeg)]) (rest := []) (f_raw _ _ _ (vw σ 2) (xs (nI i + nI 1).toNatClampNeg) (xs (nI i + nI 2).toNatClampNeg) rfl hJ.1.2) (by decide +kernel) mvX9_raw lk11_41 (ci := 8) rfl rfl rfl (by decide) (Nat.le_of_ble_eq_true rfl) rfl ?_
  intro r1 τ h1
  obtain ⟨e1, eτ⟩ := h1
  have hτ : ∀ k, 66 ≤ k → τ k = σ k := fun k hk => by rw [eτ]
  have hV1 : vw τ 67 = vw σ 2 := (vw_of (fun j hj => hτ _ (by omega))).trans ev
  refine rw_go hX [(476, .aload_n 2)] (by decide +kernel) (Ps := []) (pc' := 477) (lv' := [(0, .ref 990), (1, .ref 0), (2, .ref 66), (3, .int (nI i))]) (st' := [.ref 66, .int r1]) (σ' := τ) rfl True.intro ?_
  refine rw_go hX [(477, .aload_n 0), (478, .iload_n 3), (479, .iconst 1), (480, .iadd)] (by decide +kernel) (Ps := []) (pc' := 481) (lv' := [(0, .ref 990), (1, .ref 0), (2, .ref 66), (3, .int (nI i))]) (st' := [.int (nI i + nI 1), .ref 990, .ref 66, .int r1]) (σ' := τ) rfl True.intro ?_
  refine rw_sld hX hSC (by rw [nI_add]; exact vp_in_nI (by omega) (by omega)) (by decide +kernel) ?_
  refine rw_go hX [(482, .aload_n 0), (483, .iload_n 3), (484, .iconst 2), (485, .iadd)] (by decide +kernel) (Ps := []) (pc' := 486) (lv' := [(0, .ref 990), (1, .ref 0), (2, .ref 66), (3, .int (nI i))]) (st' := [.int (nI i + nI 2), .ref 990, .int (xs (nI i + nI 1).toNatClampNeg), .ref 66, .int r1]) (σ' := τ) rfl True.intro ?_
  refine rw_sld hX hSC (by rw [nI_add]; exact vp_in_nI (by omega) (by omega)) (by decide +kernel) ?_
  refine rw_callVi hX (as := [.int (xs (nI i + nI 1).toNatClampNeg), .int (xs (nI i + nI 2).toNatClampNeg)]) (rest := [.int r1]) (g_raw _ _ _ (vw σ 2) (xs (nI i + nI 1).toNatClampNeg) (xs (nI i + nI 2).toNatClampNeg) hV1 hJ.1.2) (by decide +kernel) mvX10_raw lk11_45 (ci := 9) rfl rfl rfl (by decide) (Nat.le_of_ble_eq_true rfl) rfl ?_
  intro r2 υ h2
  obtain ⟨e2, eυ⟩ := h2
  have e : r1 = r2 := e1.trans e2.symm
  have hJ2 : J0 υ := by rw [eυ, eτ]; exact hJ
  exact rw_icmp hX (tgt := 1408) (cnd := .eq) (off := 918) (by decide +kernel) (by decide) (fun _ => kk υ hJ2) (fun h => absurd e h)
set_option maxRecDepth 20000 in
set_option maxHeartbeats 4000000 in
theorem lc_letter {E : Cf} {G : Gl} {Q : State → Prop} {b L i : Nat} {xs : Nat → Int32} {σ : Mm} (hX : Cx E G 8 11 code 4 (some .boolean)) (hSC : SC E G b L xs) (hi : i + 7 ≤ L) (hL : L ≤ 3584) (hJ : J0 σ) (ev : vw σ 67 = vw σ 2) (rt : σ 72 = σ 65) (kk : ∀ υ, J0 υ → RW E G 8 4 Q 1408 [(0, .ref 990), (1, .ref 0), (2, .ref 66), (3, .int (nI i))] [] υ) : RW E G 8 4 Q 495 [(0, .ref 990), (1, .ref 0), (2, .ref 66), (3, .int (nI i))] [] σ := by
  refine rw_go hX [(495, .aload_n 1)] (by decide +kernel) (Ps := []) (pc' := 496) (lv' := [(0, .ref 990), (1, .ref 0), (2, .ref 66), (3, .int (nI i))]) (st' := [.ref 0]) (σ' := σ) rfl True.intro ?_
  refine rw_go hX [(496, .aload_n 0), (497, .iload_n 3), (498, .iconst 1), (499, .iadd)] (by decide +kernel) (Ps := []) (pc' := 500) (lv' := [(0, .ref 990), (1, .ref 0), (2, .ref 66), (3, .int (nI i))]) (st' := [.int (nI i + nI 1), .ref 990, .ref 0]) (σ' := σ) rfl True.intro ?_
  refine rw_sld hX hSC (by rw [nI_add]; exact vp_in_nI (by omega) (by omega)) (by decide +kernel) ?_
  refine rw_go hX [(501, .aload_n 0), (502, .iload_n 3), (503, .iconst 2), (504, .iadd)] (by decide +kernel) (Ps := []) (pc' := 505) (lv' := [(0, .ref 990), (1, .ref 0), (2, .ref 66), (3, .int (nI i))]) (st' := [.int (nI i + nI 2), .ref 990, .int (xs (nI i + nI 1).toNatClampNeg), .ref 0]) (σ' := σ) rfl True.intro ?_
  refine rw_sld hX hSC (by rw [nI_add]; exact vp_in_nI (by omega) (by omega)) (by decide +kernel) ?_
  refine rw_go hX [(506, .aload_n 0), (507, .iload_n 3), (508, .iconst 3), (509, .iadd)] (by decide +kernel) (Ps := []) (pc' := 510) (lv' := [(0, .ref 990), (1, .ref 0), (2, .ref 66), (3, .int (nI i))]) (st' := [.int (nI i + nI 3), .ref 990, .int (xs (nI i + nI 2).toNatClampNeg), .int (xs (nI i + nI 1).toNatClampNeg), .ref 0]) (σ' := σ) rfl True.intro ?_
  refine rw_sld hX hSC (by rw [nI_add]; exact vp_in_nI (by omega) (by omega)) (by decide +kernel) ?_
  refine rw_callVi hX (as := [.int (xs (nI i + nI 1).toNatClampNeg), .int (xs (nI i + nI 2).toNatClampNeg), .int (xs (nI i + nI 3).toNatClampNeg)]) (rest := []) (f_letter _ _ _ (vw σ 2) (xs (nI i + nI 1).toNatClampNeg) (xs (nI i + nI 2).toNatClampNeg) (xs (nI i + nI 3).toNatClampNeg) rfl hJ.1.2) (by decide +kernel) mvX9_letter lk11_46 (ci := 8) rfl rfl rfl (by decide) (Nat.le_of_ble_eq_true rfl) rfl ?_
  intro r1 τ h1
  obtain ⟨e1, hq⟩ := h1
  have hτ : ∀ k, 66 ≤ k → τ k = σ k := fun k hk => hq k (by omega)
  have hV1 : vw τ 67 = vw σ 2 := (vw_of (fun j hj => hτ _ (by omega))).trans ev
  refine rw_go hX [(514, .aload_n 2)] (by decide +kernel) (Ps := []) (pc' := 515) (lv' := [(0, .ref 990), (1, .ref 0), (2, .ref 66), (3, .int (nI i))]) (st' := [.ref 66, .int r1]) (σ' := τ) rfl True.intro ?_
  refine rw_go hX [(515, .aload_n 0), (516, .iload_n 3), (517, .iconst 1), (518, .iadd)] (by decide +kernel) (Ps := []) (pc' := 519) (lv' := [(0, .ref 990), (1, .ref 0), (2, .ref 66), (3, .int (nI i))]) (st' := [.int (nI i + nI 1), .ref 990, .ref 66, .int r1]) (σ' := τ) rfl True.intro ?_
  refine rw_sld hX hSC (by rw [nI_add]; exact vp_in_nI (by omega) (by omega)) (by decide +kernel) ?_
  refine rw_go hX [(520, .aload_n 0), (521, .iload_n 3), (522, .iconst 2), (523, .iadd)] (by decide +kernel) (Ps := []) (pc' := 524) (lv' := [(0, .ref 990), (1, .ref 0), (2, .ref 66), (3, .int (nI i))]) (st' := [.int (nI i + nI 2), .ref 990, .int (xs (nI i + nI 1).toNatClampNeg), .ref 66, .int r1]) (σ' := τ) rfl True.intro ?_
  refine rw_sld hX hSC (by rw [nI_add]; exact vp_in_nI (by omega) (by omega)) (by decide +kernel) ?_
  refine rw_go hX [(525, .aload_n 0), (526, .iload_n 3), (527, .iconst 3), (528, .iadd)] (by decide +kernel) (Ps := []) (pc' := 529) (lv' := [(0, .ref 990), (1, .ref 0), (2, .ref 66), (3, .int (nI i))]) (st' := [.int (nI i + nI 3), .ref 990, .int (xs (nI i + nI 2).toNatClampNeg), .int (xs (nI i + nI 1).toNatClampNeg), .ref 66, .int r1]) (σ' := τ) rfl True.intro ?_
  refine rw_sld hX hSC (by rw [nI_add]; exact vp_in_nI (by omega) (by omega)) (by decide +kernel) ?_
  refine rw_callVi hX (as := [.int (xs (nI i + nI 1).toNatClampNeg), .int (xs (nI i + nI 2).toNatClampNeg), .int (xs (nI i + nI 3).toNatClampNeg)]) (rest := [.int r1]) (g_letter _ _ _ (vw σ 2) (xs (nI i + nI 1).toNatClampNeg) (xs (nI i + nI 2).toNatClampNeg) (xs (nI i + nI 3).toNatClampNeg) hV1 hJ.1.2) (by decide +kernel) mvX10_letter lk11_49 (ci := 9) rfl rfl rfl (by decide) (Nat.le_of_ble_eq_true rfl) rfl ?_
  intro r2 υ h2
  obtain ⟨e2, hm⟩ := h2
  have e : r1 = r2 := e1.trans e2.symm
  have hJ2 : J0 υ := J0_q hJ hq hm
  exact rw_icmp hX (tgt := 1408) (cnd := .eq) (off := 875) (by decide +kernel) (by decide) (fun _ => kk υ hJ2) (fun h => absurd e h)
set_option maxRecDepth 20000 in
set_option maxHeartbeats 4000000 in
theorem lc_taken {E : Cf} {G : Gl} {Q : State → Prop} {b L i : Nat} {xs : Nat → Int32} {σ : Mm} (hX : Cx E G 8 11 code 4 (some .boolean)) (hSC : SC E G b L xs) (hi : i + 7 ≤ L) (hL : L ≤ 3584) (hJ : J0 σ) (ev : vw σ 67 = vw σ 2) (rt : σ 72 = σ 65) (kk : ∀ υ, J0 υ → RW E G 8 4 Q 1408 [(0, .ref 990), (1, .ref 0), (2, .ref 66), (3, .int (nI i))] [] υ) : RW E G 8 4 Q 538 [(0, .ref 990), (1, .ref 0), (2, .ref 66), (3, .int (nI i))] [] σ := by
  refine rw_go hX [(538, .aload_n 1)] (by decide +kernel) (Ps := []) (pc' := 539) (lv' := [(0, .ref 990), (1, .ref 0), (2, .ref 66), (3, .int (nI i))]) (st' := [.ref 0]) (σ' := σ) rfl True.intro ?_
  refine rw_go hX [(539, .aload_n 0), (540, .iload_n 3), (541, .iconst 1), (542, .iadd)] (by decide +kernel) (Ps := []) (pc' := 543) (lv' := [(0, .ref 990), (1, .ref 0), (2, .ref 66), (3, .int (nI i))]) (st' := [.int (nI i + nI 1), .ref 990, .ref 0]) (σ' := σ) rfl True.intro ?_
  refine rw_sld hX hSC (by rw [nI_add]; exact vp_in_nI (by omega) (by omega)) (by decide +kernel) ?_
  refine rw_go hX [(544, .aload_n 0), (545, .iload_n 3), (546, .iconst 2), (547, .iadd)] (by decide +kernel) (Ps := []) (pc' := 548) (lv' := [(0, .ref 990), (1, .ref 0), (2, .ref 66), (3, .int (nI i))]) (st' := [.int (nI i + nI 2), .ref 990, .int (xs (nI i + nI 1).toNatClampNeg), .ref 0]) (σ' := σ) rfl True.intro ?_
  refine rw_sld hX hSC (by rw [nI_add]; exact vp_in_nI (by omega) (by omega)) (by decide +kernel) ?_
  refine rw_callVi hX (as := [.int (xs (nI i + nI 1).toNatClampNeg), .int (xs (nI i + nI 2).toNatClampNeg)]) (rest := []) (f_taken _ _ _ (vw σ 2) (xs (nI i + nI 1).toNatClampNeg) (xs (nI i + nI 2).toNatClampNeg) rfl hJ.1.2) (by decide +kernel) mvX9_taken lk11_50 (ci := 8) rfl rfl rfl (by decide) (Nat.le_of_ble_eq_true rfl) rfl ?_
  intro r1 τ h1
  obtain ⟨e1, hq⟩ := h1
  have hτ : ∀ k, 66 ≤ k → τ k = σ k := fun k hk => hq k (by omega)
  have hV1 : vw τ 67 = vw σ 2 := (vw_of (fun j hj => hτ _ (by omega))).trans ev
  refine rw_go hX [(552, .aload_n 2)] (by decide +kernel) (Ps := []) (pc' := 553) (lv' := [(0, .ref 990), (1, .ref 0), (2, .ref 66), (3, .int (nI i))]) (st' := [.ref 66, .int r1]) (σ' := τ) rfl True.intro ?_
  refine rw_go hX [(553, .aload_n 0), (554, .iload_n 3), (555, .iconst 1), (556, .iadd)] (by decide +kernel) (Ps := []) (pc' := 557) (lv' := [(0, .ref 990), (1, .ref 0), (2, .ref 66), (3, .int (nI i))]) (st' := [.int (nI i + nI 1), .ref 990, .ref 66, .int r1]) (σ' := τ) rfl True.intro ?_
  refine rw_sld hX hSC (by rw [nI_add]; exact vp_in_nI (by omega) (by omega)) (by decide +kernel) ?_
  refine rw_go hX [(558, .aload_n 0), (559, .iload_n 3), (560, .iconst 2), (561, .iadd)] (by decide +kernel) (Ps := []) (pc' := 562) (lv' := [(0, .ref 990), (1, .ref 0), (2, .ref 66), (3, .int (nI i))]) (st' := [.int (nI i + nI 2), .ref 990, .int (xs (nI i + nI 1).toNatClampNeg), .ref 66, .int r1]) (σ' := τ) rfl True.intro ?_
  refine rw_sld hX hSC (by rw [nI_add]; exact vp_in_nI (by omega) (by omega)) (by decide +kernel) ?_
  refine rw_callVi hX (as := [.int (xs (nI i + nI 1).toNatClampNeg), .int (xs (nI i + nI 2).toNatClampNeg)]) (rest := [.int r1]) (g_taken _ _ _ (vw σ 2) (xs (nI i + nI 1).toNatClampNeg) (xs (nI i + nI 2).toNatClampNeg) hV1 hJ.1.2) (by decide +kernel) mvX10_taken lk11_53 (ci := 9) rfl rfl rfl (by decide) (Nat.le_of_ble_eq_true rfl) rfl ?_
  intro r2 υ h2
  obtain ⟨e2, hm⟩ := h2
  have e : r1 = r2 := e1.trans e2.symm
  have hJ2 : J0 υ := J0_q hJ hq hm
  exact rw_icmp hX (tgt := 1408) (cnd := .eq) (off := 842) (by decide +kernel) (by decide) (fun _ => kk υ hJ2) (fun h => absurd e h)
set_option maxRecDepth 20000 in
set_option maxHeartbeats 4000000 in
theorem lc_rule {E : Cf} {G : Gl} {Q : State → Prop} {b L i : Nat} {xs : Nat → Int32} {σ : Mm} (hX : Cx E G 8 11 code 4 (some .boolean)) (hSC : SC E G b L xs) (hi : i + 7 ≤ L) (hL : L ≤ 3584) (hJ : J0 σ) (ev : vw σ 67 = vw σ 2) (rt : σ 72 = σ 65) (kk : ∀ υ, J0 υ → RW E G 8 4 Q 1408 [(0, .ref 990), (1, .ref 0), (2, .ref 66), (3, .int (nI i))] [] υ) : RW E G 8 4 Q 571 [(0, .ref 990), (1, .ref 0), (2, .ref 66), (3, .int (nI i))] [] σ := by
  refine rw_go hX [(571, .aload_n 1)] (by decide +kernel) (Ps := []) (pc' := 572) (lv' := [(0, .ref 990), (1, .ref 0), (2, .ref 66), (3, .int (nI i))]) (st' := [.ref 0]) (σ' := σ) rfl True.intro ?_
  refine rw_go hX [(572, .aload_n 0), (573, .iload_n 3), (574, .iconst 1), (575, .iadd)] (by decide +kernel) (Ps := []) (pc' := 576) (lv' := [(0, .ref 990), (1, .ref 0), (2, .ref 66), (3, .int (nI i))]) (st' := [.int (nI i + nI 1), .ref 990, .ref 0]) (σ' := σ) rfl True.intro ?_
  refine rw_sld hX hSC (by rw [nI_add]; exact vp_in_nI (by omega) (by omega)) (by decide +kernel) ?_
  refine rw_go hX [(577, .aload_n 0), (578, .iload_n 3), (579, .iconst 2), (580, .iadd)] (by decide +kernel) (Ps := []) (pc' := 581) (lv' := [(0, .ref 990), (1, .ref 0), (2, .ref 66), (3, .int (nI i))]) (st' := [.int (nI i + nI 2), .ref 990, .int (xs (nI i + nI 1).toNatClampNeg), .ref 0]) (σ' := σ) rfl True.intro ?_
  refine rw_sld hX hSC (by rw [nI_add]; exact vp_in_nI (by omega) (by omega)) (by decide +kernel) ?_
  refine rw_callVi hX (as := [.int (xs (nI i + nI 1).toNatClampNeg), .int (xs (nI i + nI 2).toNatClampNeg)]) (rest := []) (f_rule _ _ _ (vw σ 2) (xs (nI i + nI 1).toNatClampNeg) (xs (nI i + nI 2).toNatClampNeg) rfl hJ.1.2) (by decide +kernel) mvX9_rule lk11_54 (ci := 8) rfl rfl rfl (by decide) (Nat.le_of_ble_eq_true rfl) rfl ?_
  intro r1 τ h1
  obtain ⟨e1, eτ⟩ := h1
  have hτ : ∀ k, 66 ≤ k → τ k = σ k := fun k hk => by rw [eτ]; exact fr_rule σ _ _ hk
  have hV1 : vw τ 67 = vw σ 2 := (vw_of (fun j hj => hτ _ (by omega))).trans ev
  refine rw_go hX [(585, .aload_n 2)] (by decide +kernel) (Ps := []) (pc' := 586) (lv' := [(0, .ref 990), (1, .ref 0), (2, .ref 66), (3, .int (nI i))]) (st' := [.ref 66, .int r1]) (σ' := τ) rfl True.intro ?_
  refine rw_go hX [(586, .aload_n 0), (587, .iload_n 3), (588, .iconst 1), (589, .iadd)] (by decide +kernel) (Ps := []) (pc' := 590) (lv' := [(0, .ref 990), (1, .ref 0), (2, .ref 66), (3, .int (nI i))]) (st' := [.int (nI i + nI 1), .ref 990, .ref 66, .int r1]) (σ' := τ) rfl True.intro ?_
  refine rw_sld hX hSC (by rw [nI_add]; exact vp_in_nI (by omega) (by omega)) (by decide +kernel) ?_
  refine rw_go hX [(591, .aload_n 0), (592, .iload_n 3), (593, .iconst 2), (594, .iadd)] (by decide +kernel) (Ps := []) (pc' := 595) (lv' := [(0, .ref 990), (1, .ref 0), (2, .ref 66), (3, .int (nI i))]) (st' := [.int (nI i + nI 2), .ref 990, .int (xs (nI i + nI 1).toNatClampNeg), .ref 66, .int r1]) (σ' := τ) rfl True.intro ?_
  refine rw_sld hX hSC (by rw [nI_add]; exact vp_in_nI (by omega) (by omega)) (by decide +kernel) ?_
  refine rw_callVi hX (as := [.int (xs (nI i + nI 1).toNatClampNeg), .int (xs (nI i + nI 2).toNatClampNeg)]) (rest := [.int r1]) (g_rule _ _ _ (vw σ 2) (xs (nI i + nI 1).toNatClampNeg) (xs (nI i + nI 2).toNatClampNeg) hV1) (by decide +kernel) mvX10_rule lk11_57 (ci := 9) rfl rfl rfl (by decide) (Nat.le_of_ble_eq_true rfl) rfl ?_
  intro r2 υ h2
  obtain ⟨e2, eυ⟩ := h2
  have e : r1 = r2 := e1.trans e2.symm
  have hJ2 : J0 υ := by rw [eυ, eτ]; exact st_rule hJ ev _ _
  exact rw_icmp hX (tgt := 1408) (cnd := .eq) (off := 809) (by decide +kernel) (by decide) (fun _ => kk υ hJ2) (fun h => absurd e h)
set_option maxRecDepth 20000 in
set_option maxHeartbeats 4000000 in
theorem lc_mark {E : Cf} {G : Gl} {Q : State → Prop} {b L i : Nat} {xs : Nat → Int32} {σ : Mm} (hX : Cx E G 8 11 code 4 (some .boolean)) (hSC : SC E G b L xs) (hi : i + 7 ≤ L) (hL : L ≤ 3584) (hJ : J0 σ) (ev : vw σ 67 = vw σ 2) (rt : σ 72 = σ 65) (kk : ∀ υ, J0 υ → RW E G 8 4 Q 1408 [(0, .ref 990), (1, .ref 0), (2, .ref 66), (3, .int (nI i))] [] υ) : RW E G 8 4 Q 604 [(0, .ref 990), (1, .ref 0), (2, .ref 66), (3, .int (nI i))] [] σ := by
  refine rw_go hX [(604, .aload_n 1)] (by decide +kernel) (Ps := []) (pc' := 605) (lv' := [(0, .ref 990), (1, .ref 0), (2, .ref 66), (3, .int (nI i))]) (st' := [.ref 0]) (σ' := σ) rfl True.intro ?_
  refine rw_go hX [(605, .aload_n 0), (606, .iload_n 3), (607, .iconst 1), (608, .iadd)] (by decide +kernel) (Ps := []) (pc' := 609) (lv' := [(0, .ref 990), (1, .ref 0), (2, .ref 66), (3, .int (nI i))]) (st' := [.int (nI i + nI 1), .ref 990, .ref 0]) (σ' := σ) rfl True.intro ?_
  refine rw_sld hX hSC (by rw [nI_add]; exact vp_in_nI (by omega) (by omega)) (by decide +kernel) ?_
  refine rw_go hX [(610, .aload_n 0), (611, .iload_n 3), (612, .iconst 2), (613, .iadd)] (by decide +kernel) (Ps := []) (pc' := 614) (lv' := [(0, .ref 990), (1, .ref 0), (2, .ref 66), (3, .int (nI i))]) (st' := [.int (nI i + nI 2), .ref 990, .int (xs (nI i + nI 1).toNatClampNeg), .ref 0]) (σ' := σ) rfl True.intro ?_
  refine rw_sld hX hSC (by rw [nI_add]; exact vp_in_nI (by omega) (by omega)) (by decide +kernel) ?_
  refine rw_callVl hX (as := [.int (xs (nI i + nI 1).toNatClampNeg), .int (xs (nI i + nI 2).toNatClampNeg)]) (rest := []) (f_mark _ _ _ (vw σ 2) (xs (nI i + nI 1).toNatClampNeg) (xs (nI i + nI 2).toNatClampNeg) rfl hJ.1.2) (by decide +kernel) mvX9_mark lk11_58 (ci := 8) rfl rfl rfl (by decide) (Nat.le_of_ble_eq_true rfl) rfl ?_
  intro r1 τ h1
  obtain ⟨e1, hq⟩ := h1
  have hτ : ∀ k, 66 ≤ k → τ k = σ k := fun k hk => hq k (by omega)
  have hV1 : vw τ 67 = vw σ 2 := (vw_of (fun j hj => hτ _ (by omega))).trans ev
  refine rw_go hX [(618, .aload_n 2)] (by decide +kernel) (Ps := []) (pc' := 619) (lv' := [(0, .ref 990), (1, .ref 0), (2, .ref 66), (3, .int (nI i))]) (st' := [.ref 66, .long r1]) (σ' := τ) rfl True.intro ?_
  refine rw_go hX [(619, .aload_n 0), (620, .iload_n 3), (621, .iconst 1), (622, .iadd)] (by decide +kernel) (Ps := []) (pc' := 623) (lv' := [(0, .ref 990), (1, .ref 0), (2, .ref 66), (3, .int (nI i))]) (st' := [.int (nI i + nI 1), .ref 990, .ref 66, .long r1]) (σ' := τ) rfl True.intro ?_
  refine rw_sld hX hSC (by rw [nI_add]; exact vp_in_nI (by omega) (by omega)) (by decide +kernel) ?_
  refine rw_go hX [(624, .aload_n 0), (625, .iload_n 3), (626, .iconst 2), (627, .iadd)] (by decide +kernel) (Ps := []) (pc' := 628) (lv' := [(0, .ref 990), (1, .ref 0), (2, .ref 66), (3, .int (nI i))]) (st' := [.int (nI i + nI 2), .ref 990, .int (xs (nI i + nI 1).toNatClampNeg), .ref 66, .long r1]) (σ' := τ) rfl True.intro ?_
  refine rw_sld hX hSC (by rw [nI_add]; exact vp_in_nI (by omega) (by omega)) (by decide +kernel) ?_
  refine rw_callVl hX (as := [.int (xs (nI i + nI 1).toNatClampNeg), .int (xs (nI i + nI 2).toNatClampNeg)]) (rest := [.long r1]) (g_mark _ _ _ (vw σ 2) (xs (nI i + nI 1).toNatClampNeg) (xs (nI i + nI 2).toNatClampNeg) hV1 hJ.1.2) (by decide +kernel) mvX10_mark lk11_62 (ci := 9) rfl rfl rfl (by decide) (Nat.le_of_ble_eq_true rfl) rfl ?_
  intro r2 υ h2
  obtain ⟨e2, hm⟩ := h2
  have e : r1 = r2 := e1.trans e2.symm
  have hJ2 : J0 υ := J0_q hJ hq hm
  refine rw_go hX [(632, .lcmp)] (by decide +kernel) (Ps := []) (pc' := 633) (lv' := [(0, .ref 990), (1, .ref 0), (2, .ref 66), (3, .int (nI i))]) (st' := [.int (lg_cmp r1 r2)]) (σ' := υ) rfl True.intro ?_
  exact rw_if hX (tgt := 1408) (cnd := .eq) (off := 775) (by decide +kernel) (by decide) (fun _ => kk υ hJ2) (fun h => absurd ((lg_cmp_eq r1 r2).mpr e) h)
set_option maxRecDepth 20000 in
set_option maxHeartbeats 4000000 in
theorem lc_print {E : Cf} {G : Gl} {Q : State → Prop} {b L i : Nat} {xs : Nat → Int32} {σ : Mm} (hX : Cx E G 8 11 code 4 (some .boolean)) (hSC : SC E G b L xs) (hi : i + 7 ≤ L) (hL : L ≤ 3584) (hJ : J0 σ) (ev : vw σ 67 = vw σ 2) (rt : σ 72 = σ 65) (kk : ∀ υ, J0 υ → RW E G 8 4 Q 1408 [(0, .ref 990), (1, .ref 0), (2, .ref 66), (3, .int (nI i))] [] υ) : RW E G 8 4 Q 638 [(0, .ref 990), (1, .ref 0), (2, .ref 66), (3, .int (nI i))] [] σ := by
  refine rw_go hX [(638, .aload_n 1)] (by decide +kernel) (Ps := []) (pc' := 639) (lv' := [(0, .ref 990), (1, .ref 0), (2, .ref 66), (3, .int (nI i))]) (st' := [.ref 0]) (σ' := σ) rfl True.intro ?_
  refine rw_go hX [(639, .aload_n 0), (640, .iload_n 3), (641, .iconst 1), (642, .iadd)] (by decide +kernel) (Ps := []) (pc' := 643) (lv' := [(0, .ref 990), (1, .ref 0), (2, .ref 66), (3, .int (nI i))]) (st' := [.int (nI i + nI 1), .ref 990, .ref 0]) (σ' := σ) rfl True.intro ?_
  refine rw_sld hX hSC (by rw [nI_add]; exact vp_in_nI (by omega) (by omega)) (by decide +kernel) ?_
  refine rw_go hX [(644, .aload_n 0), (645, .iload_n 3), (646, .iconst 2), (647, .iadd)] (by decide +kernel) (Ps := []) (pc' := 648) (lv' := [(0, .ref 990), (1, .ref 0), (2, .ref 66), (3, .int (nI i))]) (st' := [.int (nI i + nI 2), .ref 990, .int (xs (nI i + nI 1).toNatClampNeg), .ref 0]) (σ' := σ) rfl True.intro ?_
  refine rw_sld hX hSC (by rw [nI_add]; exact vp_in_nI (by omega) (by omega)) (by decide +kernel) ?_
  refine rw_go hX [(649, .aload_n 0), (650, .iload_n 3), (651, .iconst 3), (652, .iadd)] (by decide +kernel) (Ps := []) (pc' := 653) (lv' := [(0, .ref 990), (1, .ref 0), (2, .ref 66), (3, .int (nI i))]) (st' := [.int (nI i + nI 3), .ref 990, .int (xs (nI i + nI 2).toNatClampNeg), .int (xs (nI i + nI 1).toNatClampNeg), .ref 0]) (σ' := σ) rfl True.intro ?_
  refine rw_sld hX hSC (by rw [nI_add]; exact vp_in_nI (by omega) (by omega)) (by decide +kernel) ?_
  refine rw_callVi hX (as := [.int (xs (nI i + nI 1).toNatClampNeg), .int (xs (nI i + nI 2).toNatClampNeg), .int (xs (nI i + nI 3).toNatClampNeg)]) (rest := []) (f_print _ _ _ (vw σ 2) (xs (nI i + nI 1).toNatClampNeg) (xs (nI i + nI 2).toNatClampNeg) (xs (nI i + nI 3).toNatClampNeg) rfl hJ.1.2) (by decide +kernel) mvX9_print lk11_63 (ci := 8) rfl rfl rfl (by decide) (Nat.le_of_ble_eq_true rfl) rfl ?_
  intro r1 τ h1
  obtain ⟨e1, hq⟩ := h1
  have hτ : ∀ k, 66 ≤ k → τ k = σ k := fun k hk => hq k (by omega)
  have hV1 : vw τ 67 = vw σ 2 := (vw_of (fun j hj => hτ _ (by omega))).trans ev
  refine rw_go hX [(657, .aload_n 2)] (by decide +kernel) (Ps := []) (pc' := 658) (lv' := [(0, .ref 990), (1, .ref 0), (2, .ref 66), (3, .int (nI i))]) (st' := [.ref 66, .int r1]) (σ' := τ) rfl True.intro ?_
  refine rw_go hX [(658, .aload_n 0), (659, .iload_n 3), (660, .iconst 1), (661, .iadd)] (by decide +kernel) (Ps := []) (pc' := 662) (lv' := [(0, .ref 990), (1, .ref 0), (2, .ref 66), (3, .int (nI i))]) (st' := [.int (nI i + nI 1), .ref 990, .ref 66, .int r1]) (σ' := τ) rfl True.intro ?_
  refine rw_sld hX hSC (by rw [nI_add]; exact vp_in_nI (by omega) (by omega)) (by decide +kernel) ?_
  refine rw_go hX [(663, .aload_n 0), (664, .iload_n 3), (665, .iconst 2), (666, .iadd)] (by decide +kernel) (Ps := []) (pc' := 667) (lv' := [(0, .ref 990), (1, .ref 0), (2, .ref 66), (3, .int (nI i))]) (st' := [.int (nI i + nI 2), .ref 990, .int (xs (nI i + nI 1).toNatClampNeg), .ref 66, .int r1]) (σ' := τ) rfl True.intro ?_
  refine rw_sld hX hSC (by rw [nI_add]; exact vp_in_nI (by omega) (by omega)) (by decide +kernel) ?_
  refine rw_go hX [(668, .aload_n 0), (669, .iload_n 3), (670, .iconst 3), (671, .iadd)] (by decide +kernel) (Ps := []) (pc' := 672) (lv' := [(0, .ref 990), (1, .ref 0), (2, .ref 66), (3, .int (nI i))]) (st' := [.int (nI i + nI 3), .ref 990, .int (xs (nI i + nI 2).toNatClampNeg), .int (xs (nI i + nI 1).toNatClampNeg), .ref 66, .int r1]) (σ' := τ) rfl True.intro ?_
  refine rw_sld hX hSC (by rw [nI_add]; exact vp_in_nI (by omega) (by omega)) (by decide +kernel) ?_
  refine rw_callVi hX (as := [.int (xs (nI i + nI 1).toNatClampNeg), .int (xs (nI i + nI 2).toNatClampNeg), .int (xs (nI i + nI 3).toNatClampNeg)]) (rest := [.int r1]) (g_print _ _ _ (vw σ 2) (xs (nI i + nI 1).toNatClampNeg) (xs (nI i + nI 2).toNatClampNeg) (xs (nI i + nI 3).toNatClampNeg) hV1 hJ.1.2) (by decide +kernel) mvX10_print lk11_66 (ci := 9) rfl rfl rfl (by decide) (Nat.le_of_ble_eq_true rfl) rfl ?_
  intro r2 υ h2
  obtain ⟨e2, hm⟩ := h2
  have e : r1 = r2 := e1.trans e2.symm
  have hJ2 : J0 υ := J0_q hJ hq hm
  exact rw_icmp hX (tgt := 1408) (cnd := .eq) (off := 732) (by decide +kernel) (by decide) (fun _ => kk υ hJ2) (fun h => absurd e h)
set_option maxRecDepth 20000 in
set_option maxHeartbeats 4000000 in
theorem lc_common {E : Cf} {G : Gl} {Q : State → Prop} {b L i : Nat} {xs : Nat → Int32} {σ : Mm} (hX : Cx E G 8 11 code 4 (some .boolean)) (hSC : SC E G b L xs) (hi : i + 7 ≤ L) (hL : L ≤ 3584) (hJ : J0 σ) (ev : vw σ 67 = vw σ 2) (rt : σ 72 = σ 65) (kk : ∀ υ, J0 υ → RW E G 8 4 Q 1408 [(0, .ref 990), (1, .ref 0), (2, .ref 66), (3, .int (nI i))] [] υ) : RW E G 8 4 Q 681 [(0, .ref 990), (1, .ref 0), (2, .ref 66), (3, .int (nI i))] [] σ := by
  refine rw_go hX [(681, .aload_n 1)] (by decide +kernel) (Ps := []) (pc' := 682) (lv' := [(0, .ref 990), (1, .ref 0), (2, .ref 66), (3, .int (nI i))]) (st' := [.ref 0]) (σ' := σ) rfl True.intro ?_
  refine rw_go hX [(682, .aload_n 0), (683, .iload_n 3), (684, .iconst 1), (685, .iadd)] (by decide +kernel) (Ps := []) (pc' := 686) (lv' := [(0, .ref 990), (1, .ref 0), (2, .ref 66), (3, .int (nI i))]) (st' := [.int (nI i + nI 1), .ref 990, .ref 0]) (σ' := σ) rfl True.intro ?_
  refine rw_sld hX hSC (by rw [nI_add]; exact vp_in_nI (by omega) (by omega)) (by decide +kernel) ?_
  refine rw_go hX [(687, .aload_n 0), (688, .iload_n 3), (689, .iconst 2), (690, .iadd)] (by decide +kernel) (Ps := []) (pc' := 691) (lv' := [(0, .ref 990), (1, .ref 0), (2, .ref 66), (3, .int (nI i))]) (st' := [.int (nI i + nI 2), .ref 990, .int (xs (nI i + nI 1).toNatClampNeg), .ref 0]) (σ' := σ) rfl True.intro ?_
  refine rw_sld hX hSC (by rw [nI_add]; exact vp_in_nI (by omega) (by omega)) (by decide +kernel) ?_
  refine rw_callVi hX (as := [.int (xs (nI i + nI 1).toNatClampNeg), .int (xs (nI i + nI 2).toNatClampNeg)]) (rest := []) (f_common _ _ _ (vw σ 2) (xs (nI i + nI 1).toNatClampNeg) (xs (nI i + nI 2).toNatClampNeg) rfl hJ.1.2) (by decide +kernel) mvX9_common lk11_67 (ci := 8) rfl rfl rfl (by decide) (Nat.le_of_ble_eq_true rfl) rfl ?_
  intro r1 τ h1
  obtain ⟨e1, hq⟩ := h1
  have hτ : ∀ k, 66 ≤ k → τ k = σ k := fun k hk => hq k (by omega)
  have hV1 : vw τ 67 = vw σ 2 := (vw_of (fun j hj => hτ _ (by omega))).trans ev
  refine rw_go hX [(695, .aload_n 2)] (by decide +kernel) (Ps := []) (pc' := 696) (lv' := [(0, .ref 990), (1, .ref 0), (2, .ref 66), (3, .int (nI i))]) (st' := [.ref 66, .int r1]) (σ' := τ) rfl True.intro ?_
  refine rw_go hX [(696, .aload_n 0), (697, .iload_n 3), (698, .iconst 1), (699, .iadd)] (by decide +kernel) (Ps := []) (pc' := 700) (lv' := [(0, .ref 990), (1, .ref 0), (2, .ref 66), (3, .int (nI i))]) (st' := [.int (nI i + nI 1), .ref 990, .ref 66, .int r1]) (σ' := τ) rfl True.intro ?_
  refine rw_sld hX hSC (by rw [nI_add]; exact vp_in_nI (by omega) (by omega)) (by decide +kernel) ?_
  refine rw_go hX [(701, .aload_n 0), (702, .iload_n 3), (703, .iconst 2), (704, .iadd)] (by decide +kernel) (Ps := []) (pc' := 705) (lv' := [(0, .ref 990), (1, .ref 0), (2, .ref 66), (3, .int (nI i))]) (st' := [.int (nI i + nI 2), .ref 990, .int (xs (nI i + nI 1).toNatClampNeg), .ref 66, .int r1]) (σ' := τ) rfl True.intro ?_
  refine rw_sld hX hSC (by rw [nI_add]; exact vp_in_nI (by omega) (by omega)) (by decide +kernel) ?_
  refine rw_callVi hX (as := [.int (xs (nI i + nI 1).toNatClampNeg), .int (xs (nI i + nI 2).toNatClampNeg)]) (rest := [.int r1]) (g_common _ _ _ (vw σ 2) (xs (nI i + nI 1).toNatClampNeg) (xs (nI i + nI 2).toNatClampNeg) hV1 hJ.1.2) (by decide +kernel) mvX10_common lk11_70 (ci := 9) rfl rfl rfl (by decide) (Nat.le_of_ble_eq_true rfl) rfl ?_
  intro r2 υ h2
  obtain ⟨e2, hm⟩ := h2
  have e : r1 = r2 := e1.trans e2.symm
  have hJ2 : J0 υ := J0_q hJ hq hm
  exact rw_icmp hX (tgt := 1408) (cnd := .eq) (off := 699) (by decide +kernel) (by decide) (fun _ => kk υ hJ2) (fun h => absurd e h)
set_option maxRecDepth 20000 in
set_option maxHeartbeats 4000000 in
theorem lc_match {E : Cf} {G : Gl} {Q : State → Prop} {b L i : Nat} {xs : Nat → Int32} {σ : Mm} (hX : Cx E G 8 11 code 4 (some .boolean)) (hSC : SC E G b L xs) (hi : i + 7 ≤ L) (hL : L ≤ 3584) (hJ : J0 σ) (ev : vw σ 67 = vw σ 2) (rt : σ 72 = σ 65) (kk : ∀ υ, J0 υ → RW E G 8 4 Q 1408 [(0, .ref 990), (1, .ref 0), (2, .ref 66), (3, .int (nI i))] [] υ) : RW E G 8 4 Q 714 [(0, .ref 990), (1, .ref 0), (2, .ref 66), (3, .int (nI i))] [] σ := by
  refine rw_go hX [(714, .aload_n 1)] (by decide +kernel) (Ps := []) (pc' := 715) (lv' := [(0, .ref 990), (1, .ref 0), (2, .ref 66), (3, .int (nI i))]) (st' := [.ref 0]) (σ' := σ) rfl True.intro ?_
  refine rw_go hX [(715, .aload_n 0), (716, .iload_n 3), (717, .iconst 1), (718, .iadd)] (by decide +kernel) (Ps := []) (pc' := 719) (lv' := [(0, .ref 990), (1, .ref 0), (2, .ref 66), (3, .int (nI i))]) (st' := [.int (nI i + nI 1), .ref 990, .ref 0]) (σ' := σ) rfl True.intro ?_
  refine rw_sld hX hSC (by rw [nI_add]; exact vp_in_nI (by omega) (by omega)) (by decide +kernel) ?_
  refine rw_go hX [(720, .aload_n 0), (721, .iload_n 3), (722, .iconst 2), (723, .iadd)] (by decide +kernel) (Ps := []) (pc' := 724) (lv' := [(0, .ref 990), (1, .ref 0), (2, .ref 66), (3, .int (nI i))]) (st' := [.int (nI i + nI 2), .ref 990, .int (xs (nI i + nI 1).toNatClampNeg), .ref 0]) (σ' := σ) rfl True.intro ?_
  refine rw_sld hX hSC (by rw [nI_add]; exact vp_in_nI (by omega) (by omega)) (by decide +kernel) ?_
  refine rw_go hX [(725, .aload_n 0), (726, .iload_n 3), (727, .iconst 3), (728, .iadd)] (by decide +kernel) (Ps := []) (pc' := 729) (lv' := [(0, .ref 990), (1, .ref 0), (2, .ref 66), (3, .int (nI i))]) (st' := [.int (nI i + nI 3), .ref 990, .int (xs (nI i + nI 2).toNatClampNeg), .int (xs (nI i + nI 1).toNatClampNeg), .ref 0]) (σ' := σ) rfl True.intro ?_
  refine rw_sld hX hSC (by rw [nI_add]; exact vp_in_nI (by omega) (by omega)) (by decide +kernel) ?_
  refine rw_go hX [(730, .aload_n 0), (731, .iload_n 3), (732, .iconst 4), (733, .iadd)] (by decide +kernel) (Ps := []) (pc' := 734) (lv' := [(0, .ref 990), (1, .ref 0), (2, .ref 66), (3, .int (nI i))]) (st' := [.int (nI i + nI 4), .ref 990, .int (xs (nI i + nI 3).toNatClampNeg), .int (xs (nI i + nI 2).toNatClampNeg), .int (xs (nI i + nI 1).toNatClampNeg), .ref 0]) (σ' := σ) rfl True.intro ?_
  refine rw_sld hX hSC (by rw [nI_add]; exact vp_in_nI (by omega) (by omega)) (by decide +kernel) ?_
  refine rw_callVi hX (as := [.int (xs (nI i + nI 1).toNatClampNeg), .int (xs (nI i + nI 2).toNatClampNeg), .int (xs (nI i + nI 3).toNatClampNeg), .int (xs (nI i + nI 4).toNatClampNeg)]) (rest := []) (f_match _ _ _ (vw σ 2) (xs (nI i + nI 1).toNatClampNeg) (xs (nI i + nI 2).toNatClampNeg) (xs (nI i + nI 3).toNatClampNeg) (xs (nI i + nI 4).toNatClampNeg) rfl hJ.1.2) (by decide +kernel) mvX9_match lk11_71 (ci := 8) rfl rfl rfl (by decide) (Nat.le_of_ble_eq_true rfl) rfl ?_
  intro r1 τ h1
  obtain ⟨e1, hq⟩ := h1
  have hτ : ∀ k, 66 ≤ k → τ k = σ k := fun k hk => hq k (by omega)
  have hV1 : vw τ 67 = vw σ 2 := (vw_of (fun j hj => hτ _ (by omega))).trans ev
  refine rw_go hX [(738, .aload_n 2)] (by decide +kernel) (Ps := []) (pc' := 739) (lv' := [(0, .ref 990), (1, .ref 0), (2, .ref 66), (3, .int (nI i))]) (st' := [.ref 66, .int r1]) (σ' := τ) rfl True.intro ?_
  refine rw_go hX [(739, .aload_n 0), (740, .iload_n 3), (741, .iconst 1), (742, .iadd)] (by decide +kernel) (Ps := []) (pc' := 743) (lv' := [(0, .ref 990), (1, .ref 0), (2, .ref 66), (3, .int (nI i))]) (st' := [.int (nI i + nI 1), .ref 990, .ref 66, .int r1]) (σ' := τ) rfl True.intro ?_
  refine rw_sld hX hSC (by rw [nI_add]; exact vp_in_nI (by omega) (by omega)) (by decide +kernel) ?_
  refine rw_go hX [(744, .aload_n 0), (745, .iload_n 3), (746, .iconst 2), (747, .iadd)] (by decide +kernel) (Ps := []) (pc' := 748) (lv' := [(0, .ref 990), (1, .ref 0), (2, .ref 66), (3, .int (nI i))]) (st' := [.int (nI i + nI 2), .ref 990, .int (xs (nI i + nI 1).toNatClampNeg), .ref 66, .int r1]) (σ' := τ) rfl True.intro ?_
  refine rw_sld hX hSC (by rw [nI_add]; exact vp_in_nI (by omega) (by omega)) (by decide +kernel) ?_
  refine rw_go hX [(749, .aload_n 0), (750, .iload_n 3), (751, .iconst 3), (752, .iadd)] (by decide +kernel) (Ps := []) (pc' := 753) (lv' := [(0, .ref 990), (1, .ref 0), (2, .ref 66), (3, .int (nI i))]) (st' := [.int (nI i + nI 3), .ref 990, .int (xs (nI i + nI 2).toNatClampNeg), .int (xs (nI i + nI 1).toNatClampNeg), .ref 66, .int r1]) (σ' := τ) rfl True.intro ?_
  refine rw_sld hX hSC (by rw [nI_add]; exact vp_in_nI (by omega) (by omega)) (by decide +kernel) ?_
  refine rw_go hX [(754, .aload_n 0), (755, .iload_n 3), (756, .iconst 4), (757, .iadd)] (by decide +kernel) (Ps := []) (pc' := 758) (lv' := [(0, .ref 990), (1, .ref 0), (2, .ref 66), (3, .int (nI i))]) (st' := [.int (nI i + nI 4), .ref 990, .int (xs (nI i + nI 3).toNatClampNeg), .int (xs (nI i + nI 2).toNatClampNeg), .int (xs (nI i + nI 1).toNatClampNeg), .ref 66, .int r1]) (σ' := τ) rfl True.intro ?_
  refine rw_sld hX hSC (by rw [nI_add]; exact vp_in_nI (by omega) (by omega)) (by decide +kernel) ?_
  refine rw_callVi hX (as := [.int (xs (nI i + nI 1).toNatClampNeg), .int (xs (nI i + nI 2).toNatClampNeg), .int (xs (nI i + nI 3).toNatClampNeg), .int (xs (nI i + nI 4).toNatClampNeg)]) (rest := [.int r1]) (g_match _ _ _ (vw σ 2) (xs (nI i + nI 1).toNatClampNeg) (xs (nI i + nI 2).toNatClampNeg) (xs (nI i + nI 3).toNatClampNeg) (xs (nI i + nI 4).toNatClampNeg) hV1 hJ.1.2) (by decide +kernel) mvX10_match lk11_75 (ci := 9) rfl rfl rfl (by decide) (Nat.le_of_ble_eq_true rfl) rfl ?_
  intro r2 υ h2
  obtain ⟨e2, hm⟩ := h2
  have e : r1 = r2 := e1.trans e2.symm
  have hJ2 : J0 υ := J0_q hJ hq hm
  exact rw_icmp hX (tgt := 1408) (cnd := .eq) (off := 646) (by decide +kernel) (by decide) (fun _ => kk υ hJ2) (fun h => absurd e h)
set_option maxRecDepth 20000 in
set_option maxHeartbeats 4000000 in
theorem lc_chain {E : Cf} {G : Gl} {Q : State → Prop} {b L i : Nat} {xs : Nat → Int32} {σ : Mm} (hX : Cx E G 8 11 code 4 (some .boolean)) (hSC : SC E G b L xs) (hi : i + 7 ≤ L) (hL : L ≤ 3584) (hJ : J0 σ) (ev : vw σ 67 = vw σ 2) (rt : σ 72 = σ 65) (kk : ∀ υ, J0 υ → RW E G 8 4 Q 1408 [(0, .ref 990), (1, .ref 0), (2, .ref 66), (3, .int (nI i))] [] υ) : RW E G 8 4 Q 767 [(0, .ref 990), (1, .ref 0), (2, .ref 66), (3, .int (nI i))] [] σ := by
  refine rw_go hX [(767, .aload_n 1)] (by decide +kernel) (Ps := []) (pc' := 768) (lv' := [(0, .ref 990), (1, .ref 0), (2, .ref 66), (3, .int (nI i))]) (st' := [.ref 0]) (σ' := σ) rfl True.intro ?_
  refine rw_go hX [(768, .aload_n 0), (769, .iload_n 3), (770, .iconst 1), (771, .iadd)] (by decide +kernel) (Ps := []) (pc' := 772) (lv' := [(0, .ref 990), (1, .ref 0), (2, .ref 66), (3, .int (nI i))]) (st' := [.int (nI i + nI 1), .ref 990, .ref 0]) (σ' := σ) rfl True.intro ?_
  refine rw_sld hX hSC (by rw [nI_add]; exact vp_in_nI (by omega) (by omega)) (by decide +kernel) ?_
  refine rw_go hX [(773, .aload_n 0), (774, .iload_n 3), (775, .iconst 2), (776, .iadd)] (by decide +kernel) (Ps := []) (pc' := 777) (lv' := [(0, .ref 990), (1, .ref 0), (2, .ref 66), (3, .int (nI i))]) (st' := [.int (nI i + nI 2), .ref 990, .int (xs (nI i + nI 1).toNatClampNeg), .ref 0]) (σ' := σ) rfl True.intro ?_
  refine rw_sld hX hSC (by rw [nI_add]; exact vp_in_nI (by omega) (by omega)) (by decide +kernel) ?_
  refine rw_go hX [(778, .aload_n 0), (779, .iload_n 3), (780, .iconst 3), (781, .iadd)] (by decide +kernel) (Ps := []) (pc' := 782) (lv' := [(0, .ref 990), (1, .ref 0), (2, .ref 66), (3, .int (nI i))]) (st' := [.int (nI i + nI 3), .ref 990, .int (xs (nI i + nI 2).toNatClampNeg), .int (xs (nI i + nI 1).toNatClampNeg), .ref 0]) (σ' := σ) rfl True.intro ?_
  refine rw_sld hX hSC (by rw [nI_add]; exact vp_in_nI (by omega) (by omega)) (by decide +kernel) ?_
  refine rw_callVi hX (as := [.int (xs (nI i + nI 1).toNatClampNeg), .int (xs (nI i + nI 2).toNatClampNeg), .int (xs (nI i + nI 3).toNatClampNeg)]) (rest := []) (f_chain _ _ _ (vw σ 2) (xs (nI i + nI 1).toNatClampNeg) (xs (nI i + nI 2).toNatClampNeg) (xs (nI i + nI 3).toNatClampNeg) rfl hJ.1.2) (by decide +kernel) mvX9_chain lk11_76 (ci := 8) rfl rfl rfl (by decide) (Nat.le_of_ble_eq_true rfl) rfl ?_
  intro r1 τ h1
  obtain ⟨e1, hq⟩ := h1
  have hτ : ∀ k, 66 ≤ k → τ k = σ k := fun k hk => hq k (by omega)
  have hV1 : vw τ 67 = vw σ 2 := (vw_of (fun j hj => hτ _ (by omega))).trans ev
  refine rw_go hX [(786, .aload_n 2)] (by decide +kernel) (Ps := []) (pc' := 787) (lv' := [(0, .ref 990), (1, .ref 0), (2, .ref 66), (3, .int (nI i))]) (st' := [.ref 66, .int r1]) (σ' := τ) rfl True.intro ?_
  refine rw_go hX [(787, .aload_n 0), (788, .iload_n 3), (789, .iconst 1), (790, .iadd)] (by decide +kernel) (Ps := []) (pc' := 791) (lv' := [(0, .ref 990), (1, .ref 0), (2, .ref 66), (3, .int (nI i))]) (st' := [.int (nI i + nI 1), .ref 990, .ref 66, .int r1]) (σ' := τ) rfl True.intro ?_
  refine rw_sld hX hSC (by rw [nI_add]; exact vp_in_nI (by omega) (by omega)) (by decide +kernel) ?_
  refine rw_go hX [(792, .aload_n 0), (793, .iload_n 3), (794, .iconst 2), (795, .iadd)] (by decide +kernel) (Ps := []) (pc' := 796) (lv' := [(0, .ref 990), (1, .ref 0), (2, .ref 66), (3, .int (nI i))]) (st' := [.int (nI i + nI 2), .ref 990, .int (xs (nI i + nI 1).toNatClampNeg), .ref 66, .int r1]) (σ' := τ) rfl True.intro ?_
  refine rw_sld hX hSC (by rw [nI_add]; exact vp_in_nI (by omega) (by omega)) (by decide +kernel) ?_
  refine rw_go hX [(797, .aload_n 0), (798, .iload_n 3), (799, .iconst 3), (800, .iadd)] (by decide +kernel) (Ps := []) (pc' := 801) (lv' := [(0, .ref 990), (1, .ref 0), (2, .ref 66), (3, .int (nI i))]) (st' := [.int (nI i + nI 3), .ref 990, .int (xs (nI i + nI 2).toNatClampNeg), .int (xs (nI i + nI 1).toNatClampNeg), .ref 66, .int r1]) (σ' := τ) rfl True.intro ?_
  refine rw_sld hX hSC (by rw [nI_add]; exact vp_in_nI (by omega) (by omega)) (by decide +kernel) ?_
  refine rw_callVi hX (as := [.int (xs (nI i + nI 1).toNatClampNeg), .int (xs (nI i + nI 2).toNatClampNeg), .int (xs (nI i + nI 3).toNatClampNeg)]) (rest := [.int r1]) (g_chain _ _ _ (vw σ 2) (xs (nI i + nI 1).toNatClampNeg) (xs (nI i + nI 2).toNatClampNeg) (xs (nI i + nI 3).toNatClampNeg) hV1 hJ.1.2) (by decide +kernel) mvX10_chain lk11_79 (ci := 9) rfl rfl rfl (by decide) (Nat.le_of_ble_eq_true rfl) rfl ?_
  intro r2 υ h2
  obtain ⟨e2, hm⟩ := h2
  have e : r1 = r2 := e1.trans e2.symm
  have hJ2 : J0 υ := J0_q hJ hq hm
  exact rw_icmp hX (tgt := 1408) (cnd := .eq) (off := 603) (by decide +kernel) (by decide) (fun _ => kk υ hJ2) (fun h => absurd e h)
set_option maxRecDepth 20000 in
set_option maxHeartbeats 4000000 in
theorem lc_like {E : Cf} {G : Gl} {Q : State → Prop} {b L i : Nat} {xs : Nat → Int32} {σ : Mm} (hX : Cx E G 8 11 code 4 (some .boolean)) (hSC : SC E G b L xs) (hi : i + 7 ≤ L) (hL : L ≤ 3584) (hJ : J0 σ) (ev : vw σ 67 = vw σ 2) (rt : σ 72 = σ 65) (kk : ∀ υ, J0 υ → RW E G 8 4 Q 1408 [(0, .ref 990), (1, .ref 0), (2, .ref 66), (3, .int (nI i))] [] υ) : RW E G 8 4 Q 810 [(0, .ref 990), (1, .ref 0), (2, .ref 66), (3, .int (nI i))] [] σ := by
  refine rw_go hX [(810, .aload_n 1)] (by decide +kernel) (Ps := []) (pc' := 811) (lv' := [(0, .ref 990), (1, .ref 0), (2, .ref 66), (3, .int (nI i))]) (st' := [.ref 0]) (σ' := σ) rfl True.intro ?_
  refine rw_go hX [(811, .aload_n 0), (812, .iload_n 3), (813, .iconst 1), (814, .iadd)] (by decide +kernel) (Ps := []) (pc' := 815) (lv' := [(0, .ref 990), (1, .ref 0), (2, .ref 66), (3, .int (nI i))]) (st' := [.int (nI i + nI 1), .ref 990, .ref 0]) (σ' := σ) rfl True.intro ?_
  refine rw_sld hX hSC (by rw [nI_add]; exact vp_in_nI (by omega) (by omega)) (by decide +kernel) ?_
  refine rw_go hX [(816, .aload_n 0), (817, .iload_n 3), (818, .iconst 2), (819, .iadd)] (by decide +kernel) (Ps := []) (pc' := 820) (lv' := [(0, .ref 990), (1, .ref 0), (2, .ref 66), (3, .int (nI i))]) (st' := [.int (nI i + nI 2), .ref 990, .int (xs (nI i + nI 1).toNatClampNeg), .ref 0]) (σ' := σ) rfl True.intro ?_
  refine rw_sld hX hSC (by rw [nI_add]; exact vp_in_nI (by omega) (by omega)) (by decide +kernel) ?_
  refine rw_go hX [(821, .aload_n 0), (822, .iload_n 3), (823, .iconst 3), (824, .iadd)] (by decide +kernel) (Ps := []) (pc' := 825) (lv' := [(0, .ref 990), (1, .ref 0), (2, .ref 66), (3, .int (nI i))]) (st' := [.int (nI i + nI 3), .ref 990, .int (xs (nI i + nI 2).toNatClampNeg), .int (xs (nI i + nI 1).toNatClampNeg), .ref 0]) (σ' := σ) rfl True.intro ?_
  refine rw_sld hX hSC (by rw [nI_add]; exact vp_in_nI (by omega) (by omega)) (by decide +kernel) ?_
  refine rw_callVi hX (as := [.int (xs (nI i + nI 1).toNatClampNeg), .int (xs (nI i + nI 2).toNatClampNeg), .int (xs (nI i + nI 3).toNatClampNeg)]) (rest := []) (f_like _ _ _ (vw σ 2) (xs (nI i + nI 1).toNatClampNeg) (xs (nI i + nI 2).toNatClampNeg) (xs (nI i + nI 3).toNatClampNeg) rfl hJ.1.2) (by decide +kernel) mvX9_like lk11_80 (ci := 8) rfl rfl rfl (by decide) (Nat.le_of_ble_eq_true rfl) rfl ?_
  intro r1 τ h1
  obtain ⟨e1, hq⟩ := h1
  have hτ : ∀ k, 66 ≤ k → τ k = σ k := fun k hk => hq k (by omega)
  have hV1 : vw τ 67 = vw σ 2 := (vw_of (fun j hj => hτ _ (by omega))).trans ev
  refine rw_go hX [(829, .aload_n 2)] (by decide +kernel) (Ps := []) (pc' := 830) (lv' := [(0, .ref 990), (1, .ref 0), (2, .ref 66), (3, .int (nI i))]) (st' := [.ref 66, .int r1]) (σ' := τ) rfl True.intro ?_
  refine rw_go hX [(830, .aload_n 0), (831, .iload_n 3), (832, .iconst 1), (833, .iadd)] (by decide +kernel) (Ps := []) (pc' := 834) (lv' := [(0, .ref 990), (1, .ref 0), (2, .ref 66), (3, .int (nI i))]) (st' := [.int (nI i + nI 1), .ref 990, .ref 66, .int r1]) (σ' := τ) rfl True.intro ?_
  refine rw_sld hX hSC (by rw [nI_add]; exact vp_in_nI (by omega) (by omega)) (by decide +kernel) ?_
  refine rw_go hX [(835, .aload_n 0), (836, .iload_n 3), (837, .iconst 2), (838, .iadd)] (by decide +kernel) (Ps := []) (pc' := 839) (lv' := [(0, .ref 990), (1, .ref 0), (2, .ref 66), (3, .int (nI i))]) (st' := [.int (nI i + nI 2), .ref 990, .int (xs (nI i + nI 1).toNatClampNeg), .ref 66, .int r1]) (σ' := τ) rfl True.intro ?_
  refine rw_sld hX hSC (by rw [nI_add]; exact vp_in_nI (by omega) (by omega)) (by decide +kernel) ?_
  refine rw_go hX [(840, .aload_n 0), (841, .iload_n 3), (842, .iconst 3), (843, .iadd)] (by decide +kernel) (Ps := []) (pc' := 844) (lv' := [(0, .ref 990), (1, .ref 0), (2, .ref 66), (3, .int (nI i))]) (st' := [.int (nI i + nI 3), .ref 990, .int (xs (nI i + nI 2).toNatClampNeg), .int (xs (nI i + nI 1).toNatClampNeg), .ref 66, .int r1]) (σ' := τ) rfl True.intro ?_
  refine rw_sld hX hSC (by rw [nI_add]; exact vp_in_nI (by omega) (by omega)) (by decide +kernel) ?_
  refine rw_callVi hX (as := [.int (xs (nI i + nI 1).toNatClampNeg), .int (xs (nI i + nI 2).toNatClampNeg), .int (xs (nI i + nI 3).toNatClampNeg)]) (rest := [.int r1]) (g_like _ _ _ (vw σ 2) (xs (nI i + nI 1).toNatClampNeg) (xs (nI i + nI 2).toNatClampNeg) (xs (nI i + nI 3).toNatClampNeg) hV1 hJ.1.2) (by decide +kernel) mvX10_like lk11_83 (ci := 9) rfl rfl rfl (by decide) (Nat.le_of_ble_eq_true rfl) rfl ?_
  intro r2 υ h2
  obtain ⟨e2, hm⟩ := h2
  have e : r1 = r2 := e1.trans e2.symm
  have hJ2 : J0 υ := J0_q hJ hq hm
  exact rw_icmp hX (tgt := 1408) (cnd := .eq) (off := 560) (by decide +kernel) (by decide) (fun _ => kk υ hJ2) (fun h => absurd e h)
