theorem rw_args (ad : Nat → Nat) : ∀ (vs : List Value) (i : Nat), lv_args i (vs.map (cv ad)) = (lv_args i vs).map fun q => (q.1, cv ad q.2)
  | [], _ => rfl
  | v :: vs, i => by
    show (i, cv ad v) :: lv_args (if (cv ad v).category = 2 then i + 2 else i + 1) (vs.map (cv ad)) = _
    rw [cv_cat, rw_args ad vs]
    rfl
theorem rw_sl (ad : Nat → Nat) (vs : List Value) : (lg_sl (vs.map (cv ad))).length = (lg_sl vs).length := by
  induction vs with
  | nil => rfl
  | cons v vs ih =>
    simp only [lg_sl, List.map_cons, List.flatMap_cons, List.length_append, cv_cat] at ih ⊢
    rw [ih]
    by_cases h : v.category = 2 <;> simp [h]
theorem rw_sum (ad : Nat → Nat) (vs : List Value) : ((vs.map (cv ad)).map fun v => v.category).sum = (vs.map fun v => v.category).sum := by
  induction vs with
  | nil => rfl
  | cons v vs ih => simp only [List.map_cons, List.sum_cons, cv_cat, ih]
theorem Wt_call {G : Gl} {σ : Mm} {as : List Value} : FrameBlind (va_Pc (as.map (cv G.2.1)) (Wt G σ)) := fun a U g mk q =>
  ⟨q.1, q.2.1, va_K.moved (u := U) (U := U.calling g mk a) (Vm.Alike.refl U.vm) q.2.2.1, q.2.2.2.1, rw_st.moved (u := U) (U := U.calling g mk a) (Vm.Alike.refl U.vm) q.2.2.2.2.1, rw_nest.same (s := U) (U := U.calling g mk a) rfl q.2.2.2.2.2⟩
theorem Wt_of {G : Gl} {σ : Mm} {s U : State} {H : Heap} {locs : List Loc} (hP : va_P G.1 vwCl (rw_ws G σ) H) (hS : va_S (Ad G) s.heap H locs) (hK : va_K G.1 vwCl (rw_tys G) s) (hinj : rw_inj G) (hZ : rw_st G s s.heap) (hN : rw_nest s) (hU : U.heap = H) (hW : s.WarmedH U.vm) : Wt G σ U :=
  ⟨by rw [hU]; exact hP, va_K.moved hW.alike hK, hinj, by rw [hU]; exact (hZ.kept hS.2.1).moved hW.alike, hN.warm hW⟩
/-- what the tables say of a method, for its calls -/
def rw_mv (M : Mi) : Prop := Cond.instanceMethod M.1 ∈ gt ∧ (Cond.selects M.1.cls M.1 M.1 ∈ gt ∧ (Cond.initialized M.1.cls ∈ gt ∧ (Cond.code M.1 M.2.1 M.2.2.1 M.2.2.2 ∈ gt ∧ (M.1.cls ≠ "java/lang/invoke/MethodHandle" ∧ (M.1.cls ≠ "java/lang/invoke/VarHandle" ∧ M.2.2.1 ≤ 40)))))
def rw_ms (M : Mi) : Prop := Cond.static M.1 ∈ gt ∧ (Cond.initialized M.1.cls ∈ gt ∧ (Cond.code M.1 M.2.1 M.2.2.1 M.2.2.2 ∈ gt ∧ (M.1.cls ≠ "java/lang/invoke/MethodHandle" ∧ (M.1.cls ≠ "java/lang/invoke/VarHandle" ∧ M.2.2.1 ≤ 40))))
theorem rw_goodw {pre : List Cond} {M : Mi} (h1 : ∀ w ∈ pre, w ∈ gt) (hc : Cond.code M.1 M.2.1 M.2.2.1 M.2.2.2 ∈ gt) : GoodIn gt (pre ++ rw_w M) := gt_good fun w hw => by
  rcases List.mem_append.mp hw with h | h
  · exact h1 w h
  · rcases List.mem_cons.mp h with rfl | h
    · exact hc
    · exact h
theorem rw_np {y : MethodName} {n : Nat} (h : (parseMethodDescriptor y.desc).map (fun d => d.parameters.length) = some n) : ∀ sig, parseMethodDescriptor y.desc = some sig → n = sig.parameters.length := fun sig hs => by
  rw [hs] at h
  exact (Option.some.inj h).symm
section RWC
variable {E : Cf} {G : Gl} {d o nL : Nat} {cc : ByteArray} {rt : Option FieldType} {Q : State → Prop} {d' idx k ci N pc : Nat} {lv : List (Nat × Value)} {st rest as : List Value} {σ : Mm} {M : Mi} {T : u_T} {fs : List (Option Nat)}
theorem rw_runV {Qm : Array Value → State → Outcome → State → Prop} {p : Program} {l : Launch} {e : Env} {R : Room} {cs sl : Nat} {s : State} {m : MethodId} {args : Array Value} {below : List Frame} {meth : Method} {c : Code} {H : Heap} {locs : List Loc} {ls : Array Slot}
    (hX : Cx (p, l, e, (R, cs, sl), s, m, args, below, meth, c) G d o cc nL rt) (hM : Met l M.1 (rw_w M) (rw_rm d') (va_Pc ((.ref k :: as).map (cv G.2.1)) (Wt G σ)) Qm 0 0 (Ad G)) (hd : decode cc pc = .ok (.invokevirtual idx, 3)) (hmv : rw_mv M) (hlk : Cond.methodLink (rw_cn o) idx M.1 ∈ gt)
    (hsh : shapes[k]? = some (.inr (.inl (ci, fs)))) (hcl : vwCl[ci]? = some (M.1.cls, T, N)) (hn : (parseMethodDescriptor M.1.desc).map (fun d => d.parameters.length) = some as.length) (hdd : d' < d) (hst : (rest.map fun v => v.category).sum ≤ 8)
    (hP : va_P G.1 vwCl (rw_ws G σ) H) (hS : va_S (Ad G) s.heap H locs) (hsz : ls.size = nL) :
    va_Run p l e R s m args below meth c H locs cs sl 0 0 (F0 m pc ls ((as.reverse ++ .ref k :: rest).map (cv G.2.1))) (rest.map (cv G.2.1)) (Qm (Value.ref (G.2.1 k) :: as.map (cv G.2.1)).toArray) (Ad G) := by
  obtain ⟨hx, hb, hml, hown, hts, hK, hinj, hZ, hN, -, -, hR1, hR2, hR3, hR4⟩ := hX
  obtain ⟨h1, h2, h3, h4, h5, h6, h7⟩ := hmv
  obtain ⟨y, bytes, maxL, ret⟩ := M
  dsimp only at *
  refine va_runV (bytes := bytes) (maxL := maxL) (ret := ret) (As := as.map (cv G.2.1)) (n := as.length) (C := y.cls) (b := G.2.1 k) ⟨hx, hb, hml, hown, hts⟩ hM ?_ ⟨Wt_call (as := .ref k :: as), va_recv hK hP hcl (rw_at G σ hsh), fun U hU hW => ⟨rfl, Wt_of hP hS hK hinj hZ hN hU hW⟩⟩ rfl (List.length_map _) hsz (by simp [cv]) (lv_room (by rw [rw_sum]; exact hst)) hd ⟨hR3, hR4⟩
  refine cwV as.length hts (rw_goodw (M := (y, bytes, maxL, ret)) (fun w hw => ?_) h4) rfl rfl rfl ⟨rfl, h5, h6, hn⟩ ⟨?_, ?_⟩
  · simp only [List.mem_cons, List.not_mem_nil, or_false] at hw
    rcases hw with rfl | rfl | rfl | rfl
    · exact hlk
    · exact h1
    · exact h2
    · exact h3
  · show d' + 1 + 1 ≤ R.frames
    omega
  · show 8 + (maxL + 11) + 60 * (d' + 1) ≤ R.locals
    omega
theorem rw_runS {Qm : Array Value → State → Outcome → State → Prop} {p : Program} {l : Launch} {e : Env} {R : Room} {cs sl : Nat} {s : State} {m : MethodId} {args : Array Value} {below : List Frame} {meth : Method} {c : Code} {H : Heap} {locs : List Loc} {ls : Array Slot}
    (hX : Cx (p, l, e, (R, cs, sl), s, m, args, below, meth, c) G d o cc nL rt) (hM : Met l M.1 (rw_w M) (rw_rm d') (va_Pc (as.map (cv G.2.1)) (Wt G σ)) Qm 0 0 (Ad G)) (hd : decode cc pc = .ok (.invokestatic idx, 3)) (hms : rw_ms M) (hlk : Cond.methodLink (rw_cn o) idx M.1 ∈ gt ∨ Cond.methodLinkNest (rw_cn o) idx M.1 "HandedWorks" ∈ nw)
    (hn : (parseMethodDescriptor M.1.desc).map (fun d => d.parameters.length) = some as.length) (hdd : d' < d) (hst : (rest.map fun v => v.category).sum ≤ 8)
    (hP : va_P G.1 vwCl (rw_ws G σ) H) (hS : va_S (Ad G) s.heap H locs) (hsz : ls.size = nL) :
    va_Run p l e R s m args below meth c H locs cs sl 0 0 (F0 m pc ls ((as.reverse ++ rest).map (cv G.2.1))) (rest.map (cv G.2.1)) (Qm (as.map (cv G.2.1)).toArray) (Ad G) := by
  obtain ⟨hx, hb, hml, hown, hts, hK, hinj, hZ, hN, -, -, hR1, hR2, hR3, hR4⟩ := hX
  obtain ⟨h1, h3, h4, h5, h6, h7⟩ := hms
  obtain ⟨y, bytes, maxL, ret⟩ := M
  dsimp only at *
  have e1 : d' + 1 + 1 ≤ R.frames := by omega
  have e2 : 8 + (maxL + 11) + 60 * (d' + 1) ≤ R.locals := by omega
  rcases hlk with hlk | hlk
  · refine va_runS (bytes := bytes) (maxL := maxL) (ret := ret) (As := as.map (cv G.2.1)) (n := as.length) ⟨hx, hb, hml, hown, hts⟩ hM ?_ ⟨Wt_call, fun U hU hW => ⟨rfl, Wt_of hP hS hK hinj hZ hN hU hW⟩⟩ rfl (List.length_map _) hsz (by simp) (lv_room (by rw [rw_sum]; exact hst)) hd ⟨hR3, hR4⟩
    refine va_cwS as.length hts (rw_goodw (M := (y, bytes, maxL, ret)) (fun w hw => ?_) h4) rfl rfl rfl ⟨h5, h6, hn⟩ ⟨e1, e2⟩
    simp only [List.mem_cons, List.not_mem_nil, or_false] at hw
    rcases hw with rfl | rfl | rfl
    · exact hlk
    · exact h1
    · exact h3
  · refine va_runSN (bytes := bytes) (maxL := maxL) (ret := ret) (As := as.map (cv G.2.1)) (n := as.length) (host := "HandedWorks") ⟨hx, hb, hml, hown, hts⟩ hM ⟨?_, hts _ h1, trivial⟩ ⟨Wt_call, fun U hU hW => ⟨rfl, Wt_of hP hS hK hinj hZ hN hU hW⟩⟩ rfl (List.length_map _) hsz (by simp) (lv_room (by rw [rw_sum]; exact hst)) hd ⟨hR3, hR4⟩
    exact va_cnB as.length hts (rw_goodw (pre := []) (M := (y, bytes, maxL, ret)) (fun w hw => by cases hw) h4) rfl rfl rfl (hN _ hlk) (hts _ h3) ⟨h5, h6, hn⟩ ⟨e1, e2⟩
theorem rw_callVi {Qc : Int32 → Mm → Prop} (hX : Cx E G d o cc nL rt) (hM : AMi E.2.1 G d' M (.ref k :: as) σ Qc) (hd : decode cc pc = .ok (.invokevirtual idx, 3)) (hmv : rw_mv M) (hlk : Cond.methodLink (rw_cn o) idx M.1 ∈ gt)
    (hsh : shapes[k]? = some (.inr (.inl (ci, fs)))) (hcl : vwCl[ci]? = some (M.1.cls, T, N)) (hn : (parseMethodDescriptor M.1.desc).map (fun d => d.parameters.length) = some as.length) (hdd : d' < d) (hst : (rest.map fun v => v.category).sum ≤ 8) (hs : st = as.reverse ++ .ref k :: rest)
    (kk : ∀ r σ', Qc r σ' → RW E G d nL Q (pc + 3) lv (.int r :: rest) σ') : RW E G d nL Q pc lv st σ := by
  subst hs
  obtain ⟨p, l, e, ⟨R, cs, sl⟩, s, m, args, below, meth, c⟩ := E
  intro H locs ls hP hS hl
  exact va_calli (rw_runV hX hM hd hmv hlk hsh hcl hn hdd hst hP hS hl.1) hS (fun q _ h => h) (fun q h => h) fun r u t H1 locs1 ht hvm hw hB hz hk1 hS1 => kk r u hw H1 locs1 ls (by rw [← ht]; exact hB) hS1 hl
theorem rw_callVl {Qc : Int64 → Mm → Prop} (hX : Cx E G d o cc nL rt) (hM : AMl E.2.1 G d' M (.ref k :: as) σ Qc) (hd : decode cc pc = .ok (.invokevirtual idx, 3)) (hmv : rw_mv M) (hlk : Cond.methodLink (rw_cn o) idx M.1 ∈ gt)
    (hsh : shapes[k]? = some (.inr (.inl (ci, fs)))) (hcl : vwCl[ci]? = some (M.1.cls, T, N)) (hn : (parseMethodDescriptor M.1.desc).map (fun d => d.parameters.length) = some as.length) (hdd : d' < d) (hst : (rest.map fun v => v.category).sum ≤ 8) (hs : st = as.reverse ++ .ref k :: rest)
    (kk : ∀ r σ', Qc r σ' → RW E G d nL Q (pc + 3) lv (.long r :: rest) σ') : RW E G d nL Q pc lv st σ := by
  subst hs
  obtain ⟨p, l, e, ⟨R, cs, sl⟩, s, m, args, below, meth, c⟩ := E
  intro H locs ls hP hS hl
  exact va_calll (rw_runV hX hM hd hmv hlk hsh hcl hn hdd hst hP hS hl.1) hS (fun q _ h => h) (fun q h => h) fun r u t H1 locs1 ht hvm hw hB hz hk1 hS1 => kk r u hw H1 locs1 ls (by rw [← ht]; exact hB) hS1 hl
theorem rw_callVv {Qc : Mm → Prop} (hX : Cx E G d o cc nL rt) (hM : AMv E.2.1 G d' M (.ref k :: as) σ Qc) (hd : decode cc pc = .ok (.invokevirtual idx, 3)) (hmv : rw_mv M) (hlk : Cond.methodLink (rw_cn o) idx M.1 ∈ gt)
    (hsh : shapes[k]? = some (.inr (.inl (ci, fs)))) (hcl : vwCl[ci]? = some (M.1.cls, T, N)) (hn : (parseMethodDescriptor M.1.desc).map (fun d => d.parameters.length) = some as.length) (hdd : d' < d) (hst : (rest.map fun v => v.category).sum ≤ 8) (hs : st = as.reverse ++ .ref k :: rest)
    (kk : ∀ σ', Qc σ' → RW E G d nL Q (pc + 3) lv rest σ') : RW E G d nL Q pc lv st σ := by
  subst hs
  obtain ⟨p, l, e, ⟨R, cs, sl⟩, s, m, args, below, meth, c⟩ := E
  intro H locs ls hP hS hl
  exact va_callv (rw_runV hX hM hd hmv hlk hsh hcl hn hdd hst hP hS hl.1) hS (fun q _ h => h) (fun q h => h) fun u t H1 locs1 ht hvm hw hB hz hk1 hS1 => kk u hw H1 locs1 ls (by rw [← ht]; exact hB) hS1 hl
theorem rw_callSi {Qc : Int32 → Mm → Prop} (hX : Cx E G d o cc nL rt) (hM : AMi E.2.1 G d' M as σ Qc) (hd : decode cc pc = .ok (.invokestatic idx, 3)) (hms : rw_ms M) (hlk : Cond.methodLink (rw_cn o) idx M.1 ∈ gt ∨ Cond.methodLinkNest (rw_cn o) idx M.1 "HandedWorks" ∈ nw)
    (hn : (parseMethodDescriptor M.1.desc).map (fun d => d.parameters.length) = some as.length) (hdd : d' < d) (hst : (rest.map fun v => v.category).sum ≤ 8) (hs : st = as.reverse ++ rest)
    (kk : ∀ r σ', Qc r σ' → RW E G d nL Q (pc + 3) lv (.int r :: rest) σ') : RW E G d nL Q pc lv st σ := by
  subst hs
  obtain ⟨p, l, e, ⟨R, cs, sl⟩, s, m, args, below, meth, c⟩ := E
  intro H locs ls hP hS hl
  exact va_calli (rw_runS hX hM hd hms hlk hn hdd hst hP hS hl.1) hS (fun q _ h => h) (fun q h => h) fun r u t H1 locs1 ht hvm hw hB hz hk1 hS1 => kk r u hw H1 locs1 ls (by rw [← ht]; exact hB) hS1 hl
theorem rw_callSv {Qc : Mm → Prop} (hX : Cx E G d o cc nL rt) (hM : AMv E.2.1 G d' M as σ Qc) (hd : decode cc pc = .ok (.invokestatic idx, 3)) (hms : rw_ms M) (hlk : Cond.methodLink (rw_cn o) idx M.1 ∈ gt ∨ Cond.methodLinkNest (rw_cn o) idx M.1 "HandedWorks" ∈ nw)
    (hn : (parseMethodDescriptor M.1.desc).map (fun d => d.parameters.length) = some as.length) (hdd : d' < d) (hst : (rest.map fun v => v.category).sum ≤ 8) (hs : st = as.reverse ++ rest)
    (kk : ∀ σ', Qc σ' → RW E G d nL Q (pc + 3) lv rest σ') : RW E G d nL Q pc lv st σ := by
  subst hs
  obtain ⟨p, l, e, ⟨R, cs, sl⟩, s, m, args, below, meth, c⟩ := E
  intro H locs ls hP hS hl
  exact va_callv (rw_runS hX hM hd hms hlk hn hdd hst hP hS hl.1) hS (fun q _ h => h) (fun q h => h) fun u t H1 locs1 ht hvm hw hB hz hk1 hS1 => kk u hw H1 locs1 ls (by rw [← ht]; exact hB) hS1 hl
end RWC
/-- a contract's proof, from its entry -/
theorem rw_inI {l : Launch} {G : Gl} {d nL : Nat} (o : Nat) {y : MethodName} {cc : ByteArray} {rt : Option FieldType} {as : List Value} {σ : Mm} {Q : Int32 → Mm → Prop} (hy : plainName y.cls = true) (hcn : rw_cn o = y.cls) (hlen : Nat.ble (lg_sl as).length nL = true)
    (body : ∀ E, E.2.1 = l → Cx E G d o cc nL rt → RW E G d nL (QI E G Q) 0 (lv_args 0 as) [] σ) : AMi l G d (y, cc, nL, rt) as σ Q := by
  refine Met.ofW (cc := cc) (maxL := nL) (ret := rt) hy rfl ?_
  intro p e s m args below meth c s₁ B hml hv
  obtain ⟨rfl, hP, hK, hinj, hZ, hN⟩ := hv
  have hts := atoms_spec (ws := rw_w (y, cc, nL, rt)) B.pre
  have hl := lv_entry (as.map (cv G.2.1)) (n := nL) (by rw [rw_sl]; exact Nat.le_of_ble_eq_true hlen)
  rw [rw_args] at hl
  rw [lg_entry_eq]
  exact body (p, l, e, (rw_rm d, 0, 0), s, m, (as.map (cv G.2.1)).toArray, below, meth, c) rfl ⟨B.exec, B.bytes, hml, by rw [hcn]; exact findClass_of_methodNamed B.named, fun w hw => hts w (List.mem_cons_of_mem _ hw), hK, hinj, hZ, hN, B.returns, B.notSynchronized, Nat.le_refl _, Nat.le_refl _, Nat.le_refl _, Nat.le_refl _⟩ s.heap [] _ hP va_S.rf hl
theorem rw_inL {l : Launch} {G : Gl} {d nL : Nat} (o : Nat) {y : MethodName} {cc : ByteArray} {rt : Option FieldType} {as : List Value} {σ : Mm} {Q : Int64 → Mm → Prop} (hy : plainName y.cls = true) (hcn : rw_cn o = y.cls) (hlen : Nat.ble (lg_sl as).length nL = true)
    (body : ∀ E, E.2.1 = l → Cx E G d o cc nL rt → RW E G d nL (QL E G Q) 0 (lv_args 0 as) [] σ) : AMl l G d (y, cc, nL, rt) as σ Q := by
  refine Met.ofW (cc := cc) (maxL := nL) (ret := rt) hy rfl ?_
  intro p e s m args below meth c s₁ B hml hv
  obtain ⟨rfl, hP, hK, hinj, hZ, hN⟩ := hv
  have hts := atoms_spec (ws := rw_w (y, cc, nL, rt)) B.pre
  have hl := lv_entry (as.map (cv G.2.1)) (n := nL) (by rw [rw_sl]; exact Nat.le_of_ble_eq_true hlen)
  rw [rw_args] at hl
  rw [lg_entry_eq]
  exact body (p, l, e, (rw_rm d, 0, 0), s, m, (as.map (cv G.2.1)).toArray, below, meth, c) rfl ⟨B.exec, B.bytes, hml, by rw [hcn]; exact findClass_of_methodNamed B.named, fun w hw => hts w (List.mem_cons_of_mem _ hw), hK, hinj, hZ, hN, B.returns, B.notSynchronized, Nat.le_refl _, Nat.le_refl _, Nat.le_refl _, Nat.le_refl _⟩ s.heap [] _ hP va_S.rf hl
theorem rw_inV {l : Launch} {G : Gl} {d nL : Nat} (o : Nat) {y : MethodName} {cc : ByteArray} {rt : Option FieldType} {as : List Value} {σ : Mm} {Q : Mm → Prop} (hy : plainName y.cls = true) (hcn : rw_cn o = y.cls) (hlen : Nat.ble (lg_sl as).length nL = true)
    (body : ∀ E, E.2.1 = l → Cx E G d o cc nL rt → RW E G d nL (QV E G Q) 0 (lv_args 0 as) [] σ) : AMv l G d (y, cc, nL, rt) as σ Q := by
  refine Met.ofW (cc := cc) (maxL := nL) (ret := rt) hy rfl ?_
  intro p e s m args below meth c s₁ B hml hv
  obtain ⟨rfl, hP, hK, hinj, hZ, hN⟩ := hv
  have hts := atoms_spec (ws := rw_w (y, cc, nL, rt)) B.pre
  have hl := lv_entry (as.map (cv G.2.1)) (n := nL) (by rw [rw_sl]; exact Nat.le_of_ble_eq_true hlen)
  rw [rw_args] at hl
  rw [lg_entry_eq]
  exact body (p, l, e, (rw_rm d, 0, 0), s, m, (as.map (cv G.2.1)).toArray, below, meth, c) rfl ⟨B.exec, B.bytes, hml, by rw [hcn]; exact findClass_of_methodNamed B.named, fun w hw => hts w (List.mem_cons_of_mem _ hw), hK, hinj, hZ, hN, B.returns, B.notSynchronized, Nat.le_refl _, Nat.le_refl _, Nat.le_refl _, Nat.le_refl _⟩ s.heap [] _ hP va_S.rf hl
