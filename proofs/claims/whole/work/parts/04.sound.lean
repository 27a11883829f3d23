theorem rw_fv_at {ad : Nat → Nat} {f : Nat → Int32} {j : Nat} {fs : List (Option Nat)} {v : Value} (h : rw_fv f j fs = some v) : (rw_flds ad f 0 fs)[j]? = some (cv ad v) := by
  rw [rw_flds_at]
  unfold rw_fv at h
  cases hf : fs[j]? with
  | none => rw [hf] at h; cases h
  | some z =>
    cases z with
    | none => rw [hf] at h; cases h; simp [cv]
    | some q => rw [hf] at h; cases h; simp [cv]
theorem rw_put (G : Gl) (σ : Mm) {k ci j : Nat} {fs : List (Option Nat)} {x : Int32} (h : shapes[k]? = some (.inr (.inl (ci, fs)))) (g : fs[j]? = some none) : (rw_ws G σ).set k (G.2.1 k, .inr (ci, (rw_flds G.2.1 (σ k) 0 fs).set j (cv G.2.1 (.int x)))) = rw_ws G (sw σ k j x) := by
  rw [show cv G.2.1 (.int x) = .int x from rfl, rw_flds_upd _ _ _ _ _ g]
  exact rw_set G σ h _
theorem rw_blt {a b : Nat} (h : Nat.blt a b = true) : a < b := Nat.le_of_ble_eq_true h
theorem vp_nar_z {x : Int32} (h : x = 0 ∨ x = 1) : vp_nar .boolean x = x := by rcases h with rfl | rfl <;> rfl
set_option maxHeartbeats 4000000 in
set_option maxRecDepth 20000 in
theorem rw_step {E : Cf} {G : Gl} {d o nL : Nat} {cc : ByteArray} {rt : Option FieldType} {Q : State → Prop} {pc : Nat} {lv lv' : List (Nat × Value)} {st st' : List Value} {σ σ' : Mm} {i : Instr} {Ps : List Prop}
    (hX : Cx E G d o cc nL rt) (hd : decode cc pc = .ok (i, ilen i)) (h : rw_i o nL i lv st σ = some (Ps, lv', st', σ')) (hPs : ∀ q ∈ Ps, q) (k : RW E G d nL Q (pc + ilen i) lv' st' σ') : RW E G d nL Q pc lv st σ := by
  obtain ⟨p, l, e, ⟨R, cs, sl⟩, s, m, args, below, meth, c⟩ := E
  obtain ⟨hx, hb, hml, hown, hts, hK, hinj, hZ, hN, hrt, hlk, -⟩ := hX
  intro H locs ls hP hS hl
  have hD : va_D (Ad G) (rw_ws G σ) := rw_D hinj σ
  have kk : ∀ (H : Heap) (locs : List Loc) (ls : Array Slot), va_P G.1 vwCl (rw_ws G σ') H → va_S (Ad G) s.heap H locs → lv_has ls nL (lv'.map fun q => (q.1, cv G.2.1 q.2)) → W p l e R s m args below meth c H locs cs sl Q (F0 m (pc + ilen i) ls (st'.map (cv G.2.1))) := k
  show W p l e R s m args below meth c H locs cs sl Q (F0 m pc ls (st.map (cv G.2.1)))
  unfold rw_i at h
  split at h
  · cases h; exact lv_iconst hx hb hd (ik_eq _) (kk H locs ls hP hS hl)
  · next _ n =>
    cases g : (decide (-128 ≤ n) && decide (n ≤ 127)) with
    | false => rw [g] at h; cases h
    | true =>
      rw [g] at h; cases h
      simp only [Bool.and_eq_true, decide_eq_true_eq] at g
      exact lv_bipush hx hb hd (ik_8 g.1 g.2) (kk H locs ls hP hS hl)
  · next _ n =>
    cases g : (decide (-32768 ≤ n) && decide (n ≤ 32767)) with
    | false => rw [g] at h; cases h
    | true =>
      rw [g] at h; cases h
      simp only [Bool.and_eq_true, decide_eq_true_eq] at g
      exact lv_sipush hx hb hd (ik_16 g.1 g.2) (kk H locs ls hP hS hl)
  · cases h; exact lv_lconst hx hb hd rfl (kk H locs ls hP hS hl)
  · split at h
    · next g => cases h; exact lv_ldc hx hb hown (hts _ (rw_k32_use g)) hd (kk H locs ls hP hS hl)
    · cases h
  · split at h
    · next g => cases h; exact lv_ldcw hx hb hown (hts _ (rw_k32_use g)) hd (kk H locs ls hP hS hl)
    · cases h
  · split at h
    · next g => cases h; exact lv_ldc2 hx hb hown (hts _ (rw_k64_use g)) hd (kk H locs ls hP hS hl)
    · cases h
  · split at h
    · next g => cases h; exact lv_iload_n hx hb hd rfl (rw_load hl g) (kk H locs ls hP hS hl)
    · cases h
  · split at h
    · next g => cases h; exact lv_iload hx hb hd (rw_load hl g) (kk H locs ls hP hS hl)
    · cases h
  · split at h
    · next g => cases h; exact lv_lload_n hx hb hd rfl (rw_load hl g) (kk H locs ls hP hS hl)
    · cases h
  · split at h
    · next g => cases h; exact lv_lload hx hb hd (rw_load hl g) (kk H locs ls hP hS hl)
    · cases h
  · split at h
    · next g => cases h; exact lv_aload_n hx hb hd rfl (rw_load hl g) (kk H locs ls hP hS hl)
    · cases h
  · split at h
    · next g => cases h; exact lv_aload hx hb hd (rw_load hl g) (kk H locs ls hP hS hl)
    · cases h
  · cases g : (rw_lok lv && Nat.blt _ nL) with
    | false => rw [g] at h; cases h
    | true => rw [g] at h; cases h; rw [Bool.and_eq_true] at g; exact lv_istore_n hx hb hd rfl hl (rw_blt g.2) rfl (fun ls hl => kk H locs ls hP hS (rw_store g.1 hl))
  · cases g : (rw_lok lv && Nat.blt _ nL) with
    | false => rw [g] at h; cases h
    | true => rw [g] at h; cases h; rw [Bool.and_eq_true] at g; exact lv_istore hx hb hd hl (rw_blt g.2) rfl (fun ls hl => kk H locs ls hP hS (rw_store g.1 hl))
  · cases g : (rw_lok lv && Nat.blt _ nL) with
    | false => rw [g] at h; cases h
    | true => rw [g] at h; cases h; rw [Bool.and_eq_true] at g; exact lv_astore_n hx hb hd rfl hl (rw_blt g.2) rfl (fun ls hl => kk H locs ls hP hS (rw_store g.1 hl))
  · cases g : (rw_lok lv && Nat.blt _ nL) with
    | false => rw [g] at h; cases h
    | true => rw [g] at h; cases h; rw [Bool.and_eq_true] at g; exact lv_astore hx hb hd hl (rw_blt g.2) rfl (fun ls hl => kk H locs ls hP hS (rw_store g.1 hl))
  · split at h
    · next g0 =>
      cases g : (rw_lok lv && Nat.blt _ nL) with
      | false => rw [g] at h; cases h
      | true =>
        rw [g] at h; cases h; rw [Bool.and_eq_true] at g
        obtain ⟨j, hj⟩ := List.getElem?_of_mem (List.mem_map.mpr ⟨_, rw_lget_in g0, rfl⟩ : (_, cv G.2.1 (.int _)) ∈ lv.map fun q => (q.1, cv G.2.1 q.2))
        exact lv_iinc hx hb hd hl hj (by rw [ik_eq]) (rw_blt g.2) rfl (fun ls hl => kk H locs ls hP hS (rw_store g.1 hl))
    · cases h
  · cases h; exact lv_iadd hx hb hd (kk H locs ls hP hS hl)
  · cases h; exact lv_isub hx hb hd (kk H locs ls hP hS hl)
  · cases h; exact lv_imul hx hb hd (kk H locs ls hP hS hl)
  · cases h; exact lv_iand hx hb hd (kk H locs ls hP hS hl)
  · cases h; exact lv_ior hx hb hd (kk H locs ls hP hS hl)
  · cases h; exact lv_ixor hx hb hd (kk H locs ls hP hS hl)
  · cases h; exact lv_idiv hx hb hd (hPs _ List.mem_cons_self) (kk H locs ls hP hS hl)
  · cases h; exact lv_irem hx hb hd (hPs _ List.mem_cons_self) (kk H locs ls hP hS hl)
  · cases h; exact lv_ishl hx hb hd (kk H locs ls hP hS hl)
  · cases h; exact lv_ishr hx hb hd (kk H locs ls hP hS hl)
  · cases h; exact lv_iushr hx hb hd rfl (kk H locs ls hP hS hl)
  · cases h; exact lv_i2l hx hb hd rfl (kk H locs ls hP hS hl)
  · cases h; exact lv_i2b hx hb hd rfl (kk H locs ls hP hS hl)
  · cases h; exact W.lcmp hx hb hd (kk H locs ls hP hS hl)
  · cases h; exact lv_dup hx hb hd rfl (kk H locs ls hP hS hl)
  · cases h; exact lv_dup hx hb hd rfl (kk H locs ls hP hS hl)
  · cases h; exact lv_pop hx hb hd rfl (kk H locs ls hP hS hl)
  · cases h; exact lv_dup2_11 hx hb hd rfl rfl (kk H locs ls hP hS hl)
  · split at h
    · next ci j cj fs g1 g2 =>
      cases g : Nat.beq ci cj with
      | false => rw [g] at h; cases h
      | true =>
        rw [g] at h
        have := Nat.eq_of_beq_eq_true g
        subst this
        dsimp only [cond_true] at h
        split at h
        · next v g3 =>
          cases h
          obtain ⟨C, T, N, hc, hj, hw⟩ := rw_fl_use g1
          exact va_get (D := G.1) hx hb hts (rw_lays hc) hown hK hP _ (rw_at G σ g2) hc j hj (hts _ hw) (fun _ z => z) (rw_fv_at g3) hd (kk H locs ls hP hS hl)
        · cases h
    · cases h
  · split at h
    · next ci j cj fs g1 g2 =>
      cases g : Nat.beq ci cj with
      | false => rw [g] at h; cases h
      | true =>
        rw [g] at h
        have := Nat.eq_of_beq_eq_true g
        subst this
        dsimp only [cond_true] at h
        split at h
        · next g3 =>
          obtain ⟨C, T, N, hc, hj, hw⟩ := rw_fl_use g1
          obtain ⟨hfin, hds⟩ := rw_sh_use g2 hc hj g3
          have hty := rw_tyok hc
          have hlen : j < fs.length := (List.getElem?_eq_some_iff.mp g3).1
          cases gz : rw_ty ci j with
          | true =>
            rw [gz] at h hds
            cases h
            have hz := hPs _ List.mem_cons_self
            refine va_put (D := G.1) (ty := .boolean) hx hb hts (rw_lays hc) (rw_cty ci) hty.1 hty.2 hown hK hP hD hS _ (rw_at G σ g2) hc j hj (hts _ hw) (fun _ z => z) hfin (by rw [hds]; decide +kernel) (by rcases hz with rfl | rfl <;> rfl) (by rcases hz with rfl | rfl <;> rfl) (by rw [rw_flds_len]; exact hlen) hd ?_
            intro H1 locs1 hP1 hD1 hS1
            exact kk H1 locs1 ls (by rw [← rw_put G σ g2 g3]; exact hP1) hS1 hl
          | false =>
            rw [gz] at h hds
            cases h
            refine va_put (D := G.1) (ty := .int) hx hb hts (rw_lays hc) (rw_cty ci) hty.1 hty.2 hown hK hP hD hS _ (rw_at G σ g2) hc j hj (hts _ hw) (fun _ z => z) hfin (by rw [hds]; decide +kernel) rfl rfl (by rw [rw_flds_len]; exact hlen) hd ?_
            intro H1 locs1 hP1 hD1 hS1
            exact kk H1 locs1 ls (by rw [← rw_put G σ g2 g3]; exact hP1) hS1 hl
        · cases h
    · cases h
  · split at h
    · next i g1 =>
      cases h
      obtain ⟨hi, hw⟩ := rw_gs_use g1
      rcases hw with hw | hw
      · exact va_gets hx hb (hZ i hi).1 hS hown (hts _ hw) (fun _ z => z) hd (kk H locs ls hP hS hl)
      · exact va_getsN hx hb (hZ i hi).1 hS hown (va_Nw.use rfl (hN _ hw)) (fun _ z => z) hd (kk H locs ls hP hS hl)
    · cases h
  · split at h
    · next n g1 =>
      cases h
      exact va_iald (D := G.1) hx hb hK hP _ 0 (rw_at G σ g1) rfl (hPs _ List.mem_cons_self) hd (kk H locs ls hP hS hl)
    · cases h
    · next g1 =>
      cases g : (Nat.ble 900 _ && Nat.blt _ 903) with
      | false => rw [g] at h; cases h
      | true =>
        rw [g] at h
        cases h
        rw [Bool.and_eq_true] at g
        obtain ⟨g2, g3⟩ := g
        have g2 := Nat.le_of_ble_eq_true g2
        have g3 := rw_blt g3
        obtain ⟨i, rfl⟩ := Nat.exists_eq_add_of_le g2
        have hi : i < 3 := by omega
        refine va_ti hx hb (hZ i hi).2 hS (hPs _ List.mem_cons_self) rfl hd ?_
        rw [Nat.add_sub_cancel_left] at kk
        exact kk H locs ls hP hS hl
  · split at h
    · next n g1 =>
      cases h
      exact va_zald (D := G.1) hx hb hK hP _ 1 (rw_at G σ g1) rfl (hPs _ List.mem_cons_self) hd (kk H locs ls hP hS hl)
    · cases h
  · split at h
    · next n g1 =>
      cases h
      refine va_iast (D := G.1) hx hb hK hP hD hS _ 0 (rw_at G σ g1) rfl (hPs _ List.mem_cons_self) hd ?_
      intro H1 locs1 hP1 hD1 hS1
      exact kk H1 locs1 ls (by rw [sw, ← rw_set G σ g1]; exact hP1) hS1 hl
    · cases h
  · split at h
    · next n g1 =>
      cases h
      have hz := hPs _ (List.mem_cons_of_mem _ List.mem_cons_self)
      refine va_zast (D := G.1) hx hb hK hP hD hS _ 1 (rw_at G σ g1) rfl (hPs _ List.mem_cons_self) hd ?_
      intro H1 locs1 hP1 hD1 hS1
      rw [vp_nar_z hz] at hP1
      exact kk H1 locs1 ls (by rw [sw, ← rw_set G σ g1]; exact hP1) hS1 hl
    · cases h
  · split at h
    · next ids g1 =>
      split at h
      · next q g2 =>
        cases h
        have hin := hPs _ List.mem_cons_self
        refine W.aald (ty := .array .int) (v := .ref (G.2.1 q)) hx hb (hP _ _ (rw_at G σ g1)) ((hK.2 2 _ rfl).1 ids.length (fun j => va_rf ((ids[j]?).map G.2.1))) rfl (fun z => by cases z) (by show ¬ (_ ∨ (arrV _ _ _).slots.size ≤ _); rw [arrV_size]; exact hin) (by show (arrV _ _ _).slots[_]? = _; rw [arrV_read _ _ (Nat.not_le.mp fun z => hin (Or.inr z))]; dsimp only; rw [g2]; rfl) rfl rfl hd (kk H locs ls hP hS hl)
      · cases h
    · cases h
  · split at h
    · next z n g1 =>
      cases h
      cases hz : Nat.beq z 0 with
      | true => exact va_alen (D := G.1) hx hb hK hP _ 0 (rw_at G σ g1) (by rw [hz]; rfl) rfl hd (kk H locs ls hP hS hl)
      | false => exact va_alen (D := G.1) hx hb hK hP _ 1 (rw_at G σ g1) (by rw [hz]; rfl) rfl hd (kk H locs ls hP hS hl)
    · cases h
  · cases h
