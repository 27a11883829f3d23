/-! THE CLAIM OUT OF ONE WALK OF THE LAW'S BODY. Your part is whole_start (and what it stands on); all else here is the same for every law, but numbers. -/
def R_law : String := "HandedWorksLaw"
def lw_P (b : Addr) (xs : List Int32) (args : Array Value) (s : State) : Prop := args = #[.ref b] ∧ s.IntsAt b xs ∧ xs.length ≤ 3584 ∧ (Jvm.Cond.and given_1 narrow_1).before args s = true
def lw_Q (_ : Array Value) (s : State) (o : Outcome) (t : State) : Prop := o = .returned (some (.int 1)) ∧ Framed s o t [] 600000 7302250
def lw_Z (below : List Frame) (a : Array Value) (s : State) : State → Prop := fun t => ∃ o, t.status = .running ∧ Ended t below o ∧ lw_Q a s o t
/-- the law's own end, with 1 on the stack, nothing written that was there before, its room as the claim has it -/
theorem lw_ret {p : Program} {l : Launch} {e : Env} {s : State} {m : MethodId} {below : List Frame} {meth : Method} {c : Code} {b : Nat} (hx : p.tables.exec = Jvm.exec) (hb : c.code = code) (hr : meth.sig.returnType = ret) (hlocks : meth.locks = false) {pc : Nat} {H : Heap} {ls : Array Slot} (hdg : decode code pc = .ok (.ireturn, 1)) : W p l e room_1 s m #[Value.ref b] below meth c H [] 600000 7302250 (lw_Z below #[Value.ref b] s) (F0 m pc ls [.int 1]) := by
  intro T hT X
  obtain ⟨fs, hret, hrun, hended, hW, hframe⟩ := X.leave (v := some (.int 1)) (hlocks := hlocks) (fun h => by rw [hr] at h; cases h)
  have hmeth' : T.vm.method? m = some meth := X.method'
  refine ⟨T.setFrames fs, ?_, .returned (some (.int 1)), hrun, hended, rfl, ⟨_, rfl⟩, hW, hframe⟩
  jvm_step X.here [X.here.top, hx, hb, hdg, hmeth', hr, ret, narrow_b1]
  (try refine ⟨rfl, ?_⟩); (try refine ⟨rfl, ?_⟩)
  first | (intro acts; rw [hret _ acts rfl rfl rfl]) | rw [hret _ _ rfl rfl rfl]
  exact Steps.refl _
/-- what holds at the law's entry: the machine, the code, the tables' words (any of lw_tbl by 'hts w (by decide +kernel)'), the script of L ints xs at the cell b, what the Statement gives of the start (any of its parts by flat_of_before) -/
def lw_At (p : Program) (s : State) (m : MethodId) (meth : Method) (c : Code) (b L : Nat) (xs : Nat → Int32) : Prop :=
  p.tables.exec = Jvm.exec ∧ c.code = code ∧ meth.sig.returnType = ret ∧ c.maxLocals = 4 ∧ s.vm.findClass R_law = some m.cls ∧ (∀ w ∈ lw_tbl, w.before #[Value.ref b] s = true) ∧ va_X b L xs s s.heap ∧ b < s.heap.size ∧ meth.locks = false ∧ (Jvm.Cond.and given_1 narrow_1).before #[Value.ref b] s = true
theorem gt_in {w : Cond} (h : w ∈ gt) : w ∈ lw_tbl := (List.mem_filter.mp h).1
theorem wl_known {args : Array Value} {s : State} (hts : ∀ w ∈ lw_tbl, w.before args s = true) : ∃ (dC : Nat → ClassId) (dI : Nat → Nat → Nat), ∀ (k : Nat) (q : vw_C), vwCl[k]? = some q → u_Kn s q.1 q.2.1 q.2.2 (dC k) (dI k) := by
  have key : ∀ (k : Nat) (q : vw_C) (n : Nat), vwCl[k]? = some q → Cond.instantiable q.1 n ∈ gt → ∃ (c : ClassId) (i : Nat → Nat), u_Kn s q.1 q.2.1 q.2.2 c i := fun k q n hk hi => u_known hts (fun w hw => gt_in (rw_lays (ci := k) (C := q.1) (T := q.2.1) (N := q.2.2) hk w hw)) (hts _ (gt_in hi))
  obtain ⟨c0, i0, h0⟩ := key 0 (RX0, TX0, 9) 9 rfl (gt_c1 93 (by decide +kernel) rfl)
  obtain ⟨c1, i1, h1⟩ := key 1 (RX2, TX2, 10) 10 rfl (gt_c1 128 (by decide +kernel) rfl)
  obtain ⟨c2, i2, h2⟩ := key 2 (RX3, TX3, 7) 7 rfl (gt_c1 63 (by decide +kernel) rfl)
  obtain ⟨c3, i3, h3⟩ := key 3 (RX4, TX4, 3) 3 rfl (gt_c2 2 (by decide +kernel) rfl)
  obtain ⟨c4, i4, h4⟩ := key 4 (RX5, TX5, 6) 6 rfl (gt_c1 24 (by decide +kernel) rfl)
  obtain ⟨c5, i5, h5⟩ := key 5 (RX6, TX6, 3) 3 rfl (gt_c1 134 (by decide +kernel) rfl)
  obtain ⟨c6, i6, h6⟩ := key 6 (RX7, TX7, 9) 9 rfl (gt_c1 186 (by decide +kernel) rfl)
  obtain ⟨c7, i7, h7⟩ := key 7 (RX8, TX8, 5) 5 rfl (gt_c1 57 (by decide +kernel) rfl)
  obtain ⟨c8, i8, h8⟩ := key 8 (RX9, TX9, 8) 8 rfl (gt_c1 16 (by decide +kernel) rfl)
  obtain ⟨c9, i9, h9⟩ := key 9 (RX10, TX10, 35) 35 rfl (gt_c4 194 (by decide +kernel) rfl)
  refine ⟨fun k => match k with | 0 => c0 | 1 => c1 | 2 => c2 | 3 => c3 | 4 => c4 | 5 => c5 | 6 => c6 | 7 => c7 | 8 => c8 | _ => c9, fun k => match k with | 0 => i0 | 1 => i1 | 2 => i2 | 3 => i3 | 4 => i4 | 5 => i5 | 6 => i6 | 7 => i7 | 8 => i8 | _ => i9, fun k q hk => ?_⟩
  have hk9 : k < 10 := (List.getElem?_eq_some_iff.mp hk).1
  rcases (show k = 0 ∨ k = 1 ∨ k = 2 ∨ k = 3 ∨ k = 4 ∨ k = 5 ∨ k = 6 ∨ k = 7 ∨ k = 8 ∨ k = 9 by omega) with rfl | rfl | rfl | rfl | rfl | rfl | rfl | rfl | rfl | rfl
  · cases hk; exact h0
  · cases hk; exact h1
  · cases hk; exact h2
  · cases hk; exact h3
  · cases hk; exact h4
  · cases hk; exact h5
  · cases hk; exact h6
  · cases hk; exact h7
  · cases hk; exact h8
  · cases hk; exact h9
theorem wl_stat {b : Nat} {s : State} (hgv : (Jvm.Cond.and given_1 narrow_1).before #[Value.ref b] s = true) (hts : ∀ w ∈ lw_tbl, w.before #[Value.ref b] s = true) (i : Nat) (hi : i < 3) : ∃ t : Nat, va_Z "HandedWorks" (stN i) "[I" (.ref t) (fun q => s.heap.size ≤ q) s s.heap ∧ va_T .int t 6 (fun j => .int ((stL i).getD j 0)) (fun q => s.heap.size ≤ q) s s.heap := by
  have hs := flat_of_before _ hgv
  have hA : ∀ a : Nat, a < s.heap.size → ¬ (fun q : Nat => s.heap.size ≤ q) a := fun a ha h => absurd h (Nat.not_le.mpr ha)
  have hini : (Cond.initialized "HandedWorks").before #[Value.ref b] s = true := hts _ (gt_in (gt_c1 1 (by decide +kernel) rfl))
  rcases (show i = 0 ∨ i = 1 ∨ i = 2 by omega) with rfl | rfl | rfl
  · obtain ⟨t, e, hT⟩ := va_Tof (tm := .static "HandedWorks" "OVER" "[I") (ty := .int) (N := 6) (f := fun j => .int ((stL 0).getD j 0)) (by decide) (hs _ (by decide +kernel)) (va_eqt (hs _ (by decide +kernel))) (fun j hj => by
      rcases (show j = 0 ∨ j = 1 ∨ j = 2 ∨ j = 3 ∨ j = 4 ∨ j = 5 by omega) with rfl | rfl | rfl | rfl | rfl | rfl <;> exact va_eqt (hs _ (by decide +kernel))) hA
    exact ⟨t, va_Zof (hts _ (tb_2 (List.mem_of_getElem? (i := 189) (by decide +kernel)))) hini e hA, hT⟩
  · obtain ⟨t, e, hT⟩ := va_Tof (tm := .static "HandedWorks" "RULE_LEAST" "[I") (ty := .int) (N := 6) (f := fun j => .int ((stL 1).getD j 0)) (by decide) (hs _ (by decide +kernel)) (va_eqt (hs _ (by decide +kernel))) (fun j hj => by
      rcases (show j = 0 ∨ j = 1 ∨ j = 2 ∨ j = 3 ∨ j = 4 ∨ j = 5 by omega) with rfl | rfl | rfl | rfl | rfl | rfl <;> exact va_eqt (hs _ (by decide +kernel))) hA
    exact ⟨t, va_Zof (hts _ (tb_2 (List.mem_of_getElem? (i := 206) (by decide +kernel)))) hini e hA, hT⟩
  · obtain ⟨t, e, hT⟩ := va_Tof (tm := .static "HandedWorks" "RULE_MOST" "[I") (ty := .int) (N := 6) (f := fun j => .int ((stL 2).getD j 0)) (by decide) (hs _ (by decide +kernel)) (va_eqt (hs _ (by decide +kernel))) (fun j hj => by
      rcases (show j = 0 ∨ j = 1 ∨ j = 2 ∨ j = 3 ∨ j = 4 ∨ j = 5 by omega) with rfl | rfl | rfl | rfl | rfl | rfl <;> exact va_eqt (hs _ (by decide +kernel))) hA
    exact ⟨t, va_Zof (hts _ (tb_2 (List.mem_of_getElem? (i := 208) (by decide +kernel)))) hini e hA, hT⟩
set_option maxRecDepth 100000 in
set_option maxHeartbeats 4000000 in
/-- THE LAW, from its entry -/
theorem whole_start {p : Program} {e : Env} {s : State} {m : MethodId} {below : List Frame} {meth : Method} {c : Code} (l : Launch) (hflags : l.flags = flags0) {b L : Nat} {xs : Nat → Int32} (hL : L ≤ 3584) (C0 : lw_At p s m meth c b L xs) : W p l e room_1 s m #[Value.ref b] below meth c s.heap [] 0 0 (lw_Z below #[Value.ref b] s) (entryFrame m ([Value.ref b] : List Value).toArray 4) := by
  obtain ⟨hx, hb, hr, hml, hown, hts, hX, hbl, hlocks, hgv⟩ := C0
  obtain ⟨dC, dI, hKc⟩ := wl_known hts
  obtain ⟨cI, kI, oI, i1, i2, i3⟩ := Cond.arrayClass_spec (type := .int) (hts _ (gt_in (gt_c1 55 (by decide +kernel) rfl)))
  obtain ⟨cB, kB, oB, b1, b2, b3⟩ := Cond.arrayClass_spec (type := .boolean) (hts _ (gt_in (gt_c1 91 (by decide +kernel) rfl)))
  obtain ⟨cI2, cO, kO, o1, o2, o3, o4⟩ := mz_over (hts _ (tb_4 (List.mem_of_getElem? (i := 200) (by decide +kernel))))
  have eI : cI2 = cI := Option.some.inj (o1.symm.trans i1)
  rw [eI] at o3
  have hK : va_K (dC, dI) vwCl (T3 cI cB cO) s := by
    refine ⟨hKc, fun k q hk => ?_⟩
    have hk3 : k < 3 := (List.getElem?_eq_some_iff.mp hk).1
    rcases (show k = 0 ∨ k = 1 ∨ k = 2 by omega) with rfl | rfl | rfl <;> cases hk
    · exact ⟨fun n z => ⟨fun k h => (by cases h), kI, i2, oI, i3⟩, i1⟩
    · exact ⟨fun n z => ⟨fun k h => (by cases h), kB, b2, oB, b3⟩, b1⟩
    · exact ⟨fun n z => ⟨fun k h => (by cases h), kO, o2, cI, o3⟩, o4⟩
  obtain ⟨t0, z0s, T0⟩ := wl_stat hgv hts 0 (by omega)
  obtain ⟨t1, z1s, T1⟩ := wl_stat hgv hts 1 (by omega)
  obtain ⟨t2, z2s, T2⟩ := wl_stat hgv hts 2 (by omega)
  have hN : rw_nest s := fun w hw => by
    have h1 := hts w (List.mem_filter.mp hw).1
    have h2 := (List.mem_filter.mp hw).2
    cases w <;> first | exact va_Nw.of rfl h1 | (simp [rw_isN] at h2; done)
  generalize hD9 : ((dC, dI) : va_G) = D at hK
  clear hKc
  have hXn : Cn (p, l, e, (room_1, 0, 0), s, m, #[Value.ref b], below, meth, c) D cI cB cO (fun q : Nat => s.heap.size ≤ q) 11 code 4 := ⟨hx, hb, hml, hown, fun w hw => hts w (gt_in hw), hK, ⟨hN, kO, o2, o3⟩, fun _ h => h⟩
  have hl := lv_entry ([.ref b]) (n := 4) (Nat.le_of_ble_eq_true rfl)
  rw [lg_entry_eq]
  generalize (lg_sl ([.ref b]) ++ List.replicate (4 - (lg_sl ([.ref b])).length) Slot.unset).toArray = ls at hl ⊢
  have hl : lv_has ls 4 [(0, .ref b)] := hl
  have hP0 : va_P D vwCl [] s.heap := fun k q h => by simp at h
  have hD0 : va_D (fun q : Nat => s.heap.size ≤ q) [] := ⟨fun i j p q h => by simp at h, fun k q h => by simp at h⟩
  have fin : ∀ (a m9 : Nat) (q q2 : Nat → Nat) (H : Heap) (locs : List Loc) (ls : Array Slot), va_P D vwCl (wX9 cI cB cO a q ++ wX10 cI cB cO m9 q2) H → va_D (fun q : Nat => s.heap.size ≤ q) (wX9 cI cB cO a q ++ wX10 cI cB cO m9 q2) → va_S (fun q : Nat => s.heap.size ≤ q) s.heap H locs → lv_has ls 4 [(3, .int (nI 0)), (2, .ref m9), (1, .ref a), (0, .ref b)] → W p l e room_1 s m #[Value.ref b] below meth c H locs 101 20074 (lw_Z below #[Value.ref b] s) (F0 m 18 ls []) := by
    intro a m9 q q2 H locs ls hP hD hS hl
    have ew := ws_0 D cI cB cO a m9 t0 t1 t2 b q q2
    generalize hG : ((D, ad0 a m9 t0 t1 t2 b q q2, cI, cB, cO) : Gl) = G at ew
    have hG1 : G.1 = D := by rw [← hG]
    have hGa : G.2.1 = ad0 a m9 t0 t1 t2 b q q2 := by rw [← hG]
    have hGt : rw_tys G = T3 cI cB cO := by rw [← hG]; rfl
    rw [← ew, ← hG1] at hP
    rw [← ew] at hD
    have hAd : ∀ q9 : Nat, Ad G q9 → s.heap.size ≤ q9 := by
      rintro q9 ⟨k, hk, rfl⟩
      exact hD.2 k _ (rw_at G s0 (List.getElem?_eq_getElem hk))
    have hinj : rw_inj G := fun i j hi hj hij => hD.1 i j _ _ (rw_at G s0 (List.getElem?_eq_getElem hi)) (rw_at G s0 (List.getElem?_eq_getElem hj)) hij
    have hZ : rw_st G s s.heap := by
      intro i hi
      rcases (show i = 0 ∨ i = 1 ∨ i = 2 by omega) with rfl | rfl | rfl
      · rw [show G.2.1 (900 + 0) = t0 from by rw [hGa]; rfl]; exact ⟨z0s.narrow hAd, T0.narrow hAd⟩
      · rw [show G.2.1 (900 + 1) = t1 from by rw [hGa]; rfl]; exact ⟨z1s.narrow hAd, T1.narrow hAd⟩
      · rw [show G.2.1 (900 + 2) = t2 from by rw [hGa]; rfl]; exact ⟨z2s.narrow hAd, T2.narrow hAd⟩
    refine va_forget (fun z hz => hS.2.2 z hz) ?_
    have hXc : Cx (p, l, e, (room_1, 101, 20074), s, m, #[Value.ref b], below, meth, c) G 8 11 code 4 (some .boolean) := ⟨hx, hb, hml, hown, fun w hw => hts w (gt_in hw), by rw [hG1, hGt]; exact hK, hinj, hZ, hN, hr, hlocks, Nat.le_of_ble_eq_true rfl, Nat.le_of_ble_eq_true rfl, Nat.le_of_ble_eq_true rfl, Nat.le_of_ble_eq_true rfl⟩
    have hSC : SC (p, l, e, (room_1, 101, 20074), s, m, #[Value.ref b], below, meth, c) G b L xs := ⟨by rw [hGa]; rfl, hX, hbl, fun h => absurd (hAd b h) (Nat.not_le.mpr hbl)⟩
    have hend : ∀ i σ, RW (p, l, e, (room_1, 101, 20074), s, m, #[Value.ref b], below, meth, c) G 8 4 (lw_Z below #[Value.ref b] s) 1414 [(0, .ref 990), (1, .ref 0), (2, .ref 66), (3, .int (nI i))] [] σ := by
      intro i σ H locs ls hP hS hl
      show W p l e room_1 s m #[Value.ref b] below meth c H locs 101 20074 (lw_Z below #[Value.ref b] s) (F0 m 1414 ls [])
      refine lv_iconst (v := 1) hx hb (show decode code 1414 = .ok (.iconst 1, 1) by decide +kernel) (by decide) ?_
      refine va_forget (fun z hz => hAd _ (hS.2.2 z hz)) ?_
      refine W.widen (k := 600000) (n := 7302250) (Nat.le_of_ble_eq_true rfl) (Nat.le_of_ble_eq_true rfl) ?_
      exact lw_ret hx hb hr hlocks (show decode code (1414 + 1) = .ok (.ireturn, 1) by decide +kernel)
    have hloop := law_loop hXc hSC hL hend L 0 s0 rfl (Nat.zero_le _) J0_s0
    refine hloop H [] ls hP ⟨hS.1, fun z hz _ => hS.2.1 z hz (Nat.not_le.mpr hz), fun z hz => by cases hz⟩ ?_
    show lv_has ls 4 [(0, .ref (G.2.1 990)), (1, .ref (G.2.1 0)), (2, .ref (G.2.1 66)), (3, .int (nI 0))]
    rw [show G.2.1 990 = b from by rw [hGa]; rfl, show G.2.1 0 = a from by rw [hGa]; rfl, show G.2.1 66 = m9 from by rw [hGa]; rfl]
    exact lv_sub hl [3, 2, 1, 0] rfl
  have st2 : ∀ (a : Nat) (q : Nat → Nat), NW (p, l, e, (room_1, 0, 0), s, m, #[Value.ref b], below, meth, c) D (fun q : Nat => s.heap.size ≤ q) 4 (lw_Z below #[Value.ref b] s) 8 [(1, .ref a), (0, .ref b)] [] (wX9 cI cB cO a q) 66 9630 := by
    intro a q
    refine nw_mk hXn (idx := 10) (idx2 := 12) (ci := 9) (d := 0) (mc := 34) (ms := 10409) (C := RX10) (T := TX10) (N := 35) rfl (fs0 := [.null, .null, .null, .null, .null, .null, .int 0, .null, .int 0, .int 0, .int 0, .null, .null, .null, .null, .null, .null, .null, .null, .null, .int 0, .null, .null, .null, .null, .null, .null, .null, .null, .null, .null, .null, .null, .null, .null]) (fun j hj => by rcases (show j = 0 ∨ j = 1 ∨ j = 2 ∨ j = 3 ∨ j = 4 ∨ j = 5 ∨ j = 6 ∨ j = 7 ∨ j = 8 ∨ j = 9 ∨ j = 10 ∨ j = 11 ∨ j = 12 ∨ j = 13 ∨ j = 14 ∨ j = 15 ∨ j = 16 ∨ j = 17 ∨ j = 18 ∨ j = 19 ∨ j = 20 ∨ j = 21 ∨ j = 22 ∨ j = 23 ∨ j = 24 ∨ j = 25 ∨ j = 26 ∨ j = 27 ∨ j = 28 ∨ j = 29 ∨ j = 30 ∨ j = 31 ∨ j = 32 ∨ j = 33 ∨ j = 34 by omega) with rfl | rfl | rfl | rfl | rfl | rfl | rfl | rfl | rfl | rfl | rfl | rfl | rfl | rfl | rfl | rfl | rfl | rfl | rfl | rfl | rfl | rfl | rfl | rfl | rfl | rfl | rfl | rfl | rfl | rfl | rfl | rfl | rfl | rfl | rfl <;> rfl) (gt_c4 193 (by decide +kernel) rfl) (gt_c4 194 (by decide +kernel) rfl) (gt_c1 10 (by decide +kernel) rfl) (y := yX10_init) (yc := cX10_init) (wY := fun h q => wX10 cI cB cO h q) (fun a sz => k_X10 _ D cI cB cO a sz) rfl rfl (Or.inl (gt_c4 195 (by decide +kernel) rfl)) (gt_c4 196 (by decide +kernel) rfl) (gt_c4 197 (by decide +kernel) rfl) (by decide +kernel) (by decide +kernel) (by decide +kernel) (by decide +kernel) (by decide +kernel) (by decide +kernel) (Nat.le_of_ble_eq_true rfl) (Nat.le_of_ble_eq_true rfl) (Nat.le_of_ble_eq_true rfl) (Nat.le_of_ble_eq_true rfl) (Nat.le_of_ble_eq_true rfl) (fun m9 q2 => ?_)
    intro H locs ls hP hD hS hl
    refine lv_astore_n (lv' := [(2, .ref m9), (1, .ref a), (0, .ref b)]) hx hb (show decode code 15 = .ok (.astore_n 2, 1) by decide +kernel) rfl hl (by decide) rfl (fun ls hl => ?_)
    refine lv_iconst (v := nI 0) hx hb (show decode code 16 = .ok (.iconst 0, 1) by decide +kernel) (by decide) ?_
    refine lv_istore_n (lv' := [(3, .int (nI 0)), (2, .ref m9), (1, .ref a), (0, .ref b)]) hx hb (show decode code 17 = .ok (.istore_n 3, 1) by decide +kernel) rfl hl (by decide) rfl (fun ls hl => ?_)
    exact fin a m9 q q2 H locs ls hP hD hS hl
  have st1 : NW (p, l, e, (room_1, 0, 0), s, m, #[Value.ref b], below, meth, c) D (fun q : Nat => s.heap.size ≤ q) 4 (lw_Z below #[Value.ref b] s) 0 [(0, .ref b)] [] [] 0 0 := by
    refine nw_mk hXn (idx := 7) (idx2 := 9) (ci := 8) (d := 3) (mc := 65) (ms := 9622) (C := RX9) (T := TX9) (N := 8) rfl (fs0 := [.null, .null, .null, .null, .null, .null, .int 0, .int 0]) (fun j hj => by rcases (show j = 0 ∨ j = 1 ∨ j = 2 ∨ j = 3 ∨ j = 4 ∨ j = 5 ∨ j = 6 ∨ j = 7 by omega) with rfl | rfl | rfl | rfl | rfl | rfl | rfl | rfl <;> rfl) (gt_c1 15 (by decide +kernel) rfl) (gt_c1 16 (by decide +kernel) rfl) (gt_c1 1 (by decide +kernel) rfl) (y := yX9_init) (yc := cX9_init) (wY := fun h q => wX9 cI cB cO h q) (fun a sz => k_X9 _ D cI cB cO a sz) rfl rfl (Or.inl (gt_c1 17 (by decide +kernel) rfl)) (gt_c1 18 (by decide +kernel) rfl) (gt_c1 19 (by decide +kernel) rfl) (by decide +kernel) (by decide +kernel) (by decide +kernel) (by decide +kernel) (by decide +kernel) (by decide +kernel) (Nat.le_of_ble_eq_true rfl) (Nat.le_of_ble_eq_true rfl) (Nat.le_of_ble_eq_true rfl) (Nat.le_of_ble_eq_true rfl) (Nat.le_of_ble_eq_true rfl) (fun a q => ?_)
    intro H locs ls hP hD hS hl
    refine lv_astore_n (lv' := [(1, .ref a), (0, .ref b)]) hx hb (show decode code 7 = .ok (.astore_n 1, 1) by decide +kernel) rfl hl (by decide) rfl (fun ls hl => ?_)
    exact st2 a q H locs ls hP hD hS hl
  exact st1 s.heap [] ls hP0 hD0 va_S.rf hl
