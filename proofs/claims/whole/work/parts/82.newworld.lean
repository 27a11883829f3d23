/-! new worlds: constructors -/
abbrev T3 (cI cB cO : ClassId) : List (ClassId × FieldType) := [(cI, .int), (cB, .boolean), (cO, .array .int)]
/-- the class of rows of int rows has the int rows' class for its rows -/
def OV (U : State) (cI cO : ClassId) : Prop := ∃ kA : Class, U.vm.classes[cO]? = some kA ∧ kA.kind = .array cI (.array .int)
theorem OV.moved {u U : State} {cI cO : ClassId} (hvm : u.vm.Alike U.vm) (h : OV u cI cO) : OV U cI cO := by
  obtain ⟨kA, h1, h2⟩ := h
  obtain ⟨k2, h3, h4⟩ := hvm.2.2 _ _ h1
  exact ⟨k2, h3, by rw [h4]; exact h2⟩
/-- what holds where objects are made: class o, code cc, nL locals -/
def Cn (E : Cf) (D : va_G) (cI cB cO : ClassId) (A : Nat → Prop) (o : Nat) (cc : ByteArray) (nL : Nat) : Prop := match E with
  | (p, _, _, _, s, m, args, _, _, c) => p.tables.exec = Jvm.exec ∧ (c.code = cc ∧ (c.maxLocals = nL ∧ (s.vm.findClass (rw_cn o) = some m.cls ∧ ((∀ w ∈ gt, w.before args s = true) ∧ (va_K D vwCl (T3 cI cB cO) s ∧ ((rw_nest s ∧ OV s cI cO) ∧ ∀ q : Nat, s.heap.size ≤ q → A q))))))
def NW (E : Cf) (D : va_G) (A : Nat → Prop) (nL : Nat) (Q : State → Prop) (pc : Nat) (lv : List (Nat × Value)) (st : List Value) (ws : va_W) (k n : Nat) : Prop := match E with
  | (p, l, e, (R, _, _), s, m, args, below, meth, c) => ∀ (H : Heap) (locs : List Loc) (ls : Array Slot), va_P D vwCl ws H → va_D A ws → va_S A s.heap H locs → lv_has ls nL lv → W p l e R s m args below meth c H locs k n Q (F0 m pc ls st)
def Ero (E : Cf) : Room := E.2.2.2.1.1
def Ein_ (E : Cf) : Prop := E.2.2.2.2.2.2.2.2.1.name = "<init>"
section NWC
variable {E : Cf} {D : va_G} {cI cB cO : ClassId} {A : Nat → Prop} {o nL : Nat} {cc : ByteArray} {Q : State → Prop} {pc : Nat} {lv : List (Nat × Value)} {st : List Value} {ws : va_W} {k n : Nat}
theorem nw_al (hX : Cn E D cI cB cO A o cc nL) {a : Nat} {r : List (Nat × Value)} (hd : decode cc pc = .ok (.aload_n 0, 1)) (kk : NW E D A nL Q (pc + 1) ((0, .ref a) :: r) (.ref a :: st) ws k n) : NW E D A nL Q pc ((0, .ref a) :: r) st ws k n := by
  obtain ⟨p, l, e, ⟨R, cs, sl⟩, s, m, args, below, meth, c⟩ := E
  obtain ⟨hx, hb, -⟩ := hX
  intro H locs ls hP hD hS hl
  exact lv_aload_n hx hb hd rfl (lv_at hl 0 rfl) (kk H locs ls hP hD hS hl)
theorem nw_dup (hX : Cn E D cI cB cO A o cc nL) {a : Nat} (hd : decode cc pc = .ok (.dup, 1)) (kk : NW E D A nL Q (pc + 1) lv (.ref a :: .ref a :: st) ws k n) : NW E D A nL Q pc lv (.ref a :: st) ws k n := by
  obtain ⟨p, l, e, ⟨R, cs, sl⟩, s, m, args, below, meth, c⟩ := E
  obtain ⟨hx, hb, -⟩ := hX
  intro H locs ls hP hD hS hl
  exact lv_dup hx hb hd rfl (kk H locs ls hP hD hS hl)
/-- a constant: its instruction, its length, its number -/
def CI (I : Instr) (L : Nat) (x : Int32) : Prop := (∃ v : Int, I = .iconst v ∧ L = 1 ∧ x = ik v) ∨ (∃ v : Int, I = .bipush v ∧ L = 2 ∧ x = ik v ∧ -128 ≤ v ∧ v ≤ 127) ∨ (∃ v : Int, I = .sipush v ∧ L = 3 ∧ x = ik v ∧ -32768 ≤ v ∧ v ≤ 32767)
theorem nw_ci (hX : Cn E D cI cB cO A o cc nL) {I : Instr} {L : Nat} {x : Int32} (hI : CI I L x) (hd : decode cc pc = .ok (I, L)) (kk : NW E D A nL Q (pc + L) lv (.int x :: st) ws k n) : NW E D A nL Q pc lv st ws k n := by
  obtain ⟨p, l, e, ⟨R, cs, sl⟩, s, m, args, below, meth, c⟩ := E
  obtain ⟨hx, hb, -⟩ := hX
  intro H locs ls hP hD hS hl
  rcases hI with ⟨v, rfl, rfl, rfl⟩ | ⟨v, rfl, rfl, rfl, h1, h2⟩ | ⟨v, rfl, rfl, rfl, h1, h2⟩
  · exact lv_iconst hx hb hd (ik_eq _) (kk H locs ls hP hD hS hl)
  · exact lv_bipush hx hb hd (ik_8 h1 h2) (kk H locs ls hP hD hS hl)
  · exact lv_sipush hx hb hd (ik_16 h1 h2) (kk H locs ls hP hD hS hl)
/-- a row of zeros; z: its numbers are truths -/
theorem nw_newa (hX : Cn E D cI cB cO A o cc nL) (z : Bool) {N : Nat} (hN : N < 2 ^ 20) (hd : decode cc pc = .ok (.newarray (bif z then .boolean else .int), 2)) (hai : Cond.arrayClass .int ∈ gt) (hab : Cond.arrayClass .boolean ∈ gt) (hc : k + 1 ≤ (Ero E).cells) (hs : n + N ≤ (Ero E).slots)
    (kk : ∀ q : Nat, NW E D A nL Q (pc + 2) lv (.ref q :: st) (ws ++ [(q, .inl (bif z then cB else cI, N, .inl fun _ => 0))]) (k + 1) (n + N)) : NW E D A nL Q pc lv (.int (nI N) :: st) ws k n := by
  obtain ⟨p, l, e, ⟨R, cs, sl⟩, s, m, args, below, meth, c⟩ := E
  obtain ⟨hx, hb, hml, hown, hts, hK, ⟨hN2, hOV⟩, hA⟩ := hX
  intro H locs ls hP hD hS hl
  have hcl : (nI N).toNatClampNeg = N := nI_clamp (by omega)
  have hn0 : ¬ (nI N : Int32) < 0 := nI_pos (by omega)
  cases z with
  | false =>
    refine va_newa (atype := .int) (ty := .int) (a0 := (N, .inl fun _ => 0)) hx hb (hts _ hai) rfl hK hP hD hS hA (fun cA => rfl) hn0 hcl (by show N * 4 ≤ 536870912; omega) hc hs hd (fun q cA H1 hK1 hP1 hD1 hS1 => ?_)
    have e : cA = cI := by
      have h1 : va_RA s cA .int := (hK1.2 3 (cA, .int) rfl).2
      have h2 : va_RA s cI .int := (hK.2 0 (cI, .int) rfl).2
      exact Option.some.inj (h1.symm.trans h2)
    rw [e] at hP1 hD1
    exact kk q H1 locs ls hP1 hD1 hS1 hl
  | true =>
    refine va_newa (atype := .boolean) (ty := .boolean) (a0 := (N, .inl fun _ => 0)) hx hb (hts _ hab) rfl hK hP hD hS hA (fun cA => rfl) hn0 hcl (by show N * 1 ≤ 536870912; omega) hc hs hd (fun q cA H1 hK1 hP1 hD1 hS1 => ?_)
    have e : cA = cB := by
      have h1 : va_RA s cA .boolean := (hK1.2 3 (cA, .boolean) rfl).2
      have h2 : va_RA s cB .boolean := (hK.2 1 (cB, .boolean) rfl).2
      exact Option.some.inj (h1.symm.trans h2)
    rw [e] at hP1 hD1
    exact kk q H1 locs ls hP1 hD1 hS1 hl
theorem nw_iast (hX : Cn E D cI cB cO A o cc nL) (q0 : Nat) {a N : Nat} {f : Nat → Int32} (ha : ws[q0]? = some (a, .inl (cI, N, .inl f))) {i x : Int32} (hin : vp_in i N) (hd : decode cc pc = .ok (.iastore, 1))
    (kk : NW E D A nL Q (pc + 1) lv st (ws.set q0 (a, .inl (cI, N, .inl (upd f i.toNatClampNeg x)))) k n) : NW E D A nL Q pc lv (.int x :: .int i :: .ref a :: st) ws k n := by
  obtain ⟨p, l, e, ⟨R, cs, sl⟩, s, m, args, below, meth, c⟩ := E
  obtain ⟨hx, hb, hml, hown, hts, hK, ⟨hN2, hOV⟩, hA⟩ := hX
  intro H locs ls hP hD hS hl
  exact va_iast hx hb hK hP hD hS q0 0 ha rfl hin hd (fun H1 locs1 hP1 hD1 hS1 => kk H1 locs1 ls hP1 hD1 hS1 hl)
theorem nw_put (hX : Cn E D cI cB cO A o cc nL) (hin : Ein_ E) {h0 ci idx : Nat} {fs : List Value} {wr : va_W} {C : String} {T : u_T} {N : Nat} (hc : vwCl[ci]? = some (C, T, N)) (j : Nat) (hj : j < N) (hlk : Cond.fieldLink (rw_cn o) idx C (T j).2.1 (T j).2.2.1 ∈ gt) (hrf : (T j).1 = C) (hdc : (T j).1 = rw_cn o) {ty : FieldType} {v : Value}
    (hpt : parseFieldDescriptor (T j).2.2.1 = some ty) (hn : narrow ty v = v) (hft : fits ty v = true) (hl9 : j < fs.length) (hd : decode cc pc = .ok (.putfield idx, 3))
    (kk : NW E D A nL Q (pc + 3) lv st ((h0, .inr (ci, fs.set j v)) :: wr) k n) : NW E D A nL Q pc lv (v :: .ref h0 :: st) ((h0, .inr (ci, fs)) :: wr) k n := by
  obtain ⟨p, l, e, ⟨R, cs, sl⟩, s, m, args, below, meth, c⟩ := E
  obtain ⟨hx, hb, hml, hown, hts, hK, ⟨hN2, hOV⟩, hA⟩ := hX
  intro H locs ls hP hD hS hl
  obtain ⟨hty, hnm⟩ := rw_tyok hc
  cases hf : (T j).2.2.2 with
  | true => exact va_putF hx hb hts (rw_lays hc) (rw_cty ci) hty hnm hown hK hP hD hS 0 rfl hc j hj (hts _ hlk) (fun x9 h9 => by rw [← hrf]; exact h9) hf hin hdc hpt hn hft hl9 hd (fun H1 locs1 hP1 hD1 hS1 => kk H1 locs1 ls hP1 hD1 hS1 hl)
  | false => exact va_put hx hb hts (rw_lays hc) (rw_cty ci) hty hnm hown hK hP hD hS 0 rfl hc j hj (hts _ hlk) (fun x9 h9 => by rw [← hrf]; exact h9) hf hpt hn hft hl9 hd (fun H1 locs1 hP1 hD1 hS1 => kk H1 locs1 ls hP1 hD1 hS1 hl)
theorem nw_obj (hX : Cn E D cI cB cO A o cc nL) {a idx : Nat} (hlk : Cond.methodLink (rw_cn o) idx Lib.objectInit ∈ gt) (hin : Cond.instanceMethod Lib.objectInit ∈ gt) (hco : Cond.code Lib.objectInit ⟨#[0xb1]⟩ 1 none ∈ gt) (hd : decode cc pc = .ok (.invokespecial idx, 3)) (hf : 1 ≤ (Ero E).frames) (hl9 : 20 ≤ (Ero E).locals)
    (kk : NW E D A nL Q (pc + 3) lv [] ws k n) : NW E D A nL Q pc lv [.ref a] ws k n := by
  obtain ⟨p, l, e, ⟨R, cs, sl⟩, s, m, args, below, meth, c⟩ := E
  obtain ⟨hx, hb, hml, hown, hts, hK, ⟨hN2, hOV⟩, hA⟩ := hX
  intro H locs ls hP hD hS hl
  refine W.objInit hx hb hown (hts _ hlk) (hts _ hin) (hts _ hco) rfl (by rw [hml]; exact hl.1) rfl hd hf (by show 2 * 0 + 0 + 12 ≤ R.locals; have : 20 ≤ R.locals := hl9; omega) ?_
  exact W.eq (g2 := F0 m (pc + 3) ls []) rfl (kk H locs ls hP hD hS hl)
end NWC
/-- a constructor's contract: from a blank object to a world wY -/
def KPre (D : va_G) (cI cB cO : ClassId) (ci : Nat) (fs0 : List Value) (a sz : Nat) : State → Prop := fun U => U.heap.size = sz ∧ (va_P D vwCl [(a, .inr (ci, fs0))] U.heap ∧ (va_K D vwCl (T3 cI cB cO) U ∧ (rw_nest U ∧ OV U cI cO)))
def krm (d mc ms : Nat) : Room := { frames := d + 1, cells := mc, slots := ms, locals := 60 * (d + 1) }
def KQ (D : va_G) (A : Nat → Prop) (wY : (Nat → Nat) → va_W) : Array Value → State → Outcome → State → Prop := va_Qv (fun _ : Nat → Nat => True) (fun q t => va_P D vwCl (wY q) t.heap ∧ va_D A (wY q)) A
def KM (l : Launch) (D : va_G) (cI cB cO : ClassId) (M : Mi) (ci : Nat) (fs0 : List Value) (d mc ms : Nat) (wY : Nat → (Nat → Nat) → va_W) (a sz : Nat) : Prop :=
  Met l M.1 (rw_w M) (krm d mc ms) (va_Pc [.ref a] (KPre D cI cB cO ci fs0 a sz)) (KQ D (va_A [(a, .inr (ci, fs0))] sz) (wY a)) mc ms (va_A [(a, .inr (ci, fs0))] sz)
def QN (E : Cf) (D : va_G) (A : Nat → Prop) (wY : (Nat → Nat) → va_W) (mc ms : Nat) : State → Prop := match E with
  | (_, _, _, _, s, _, args, below, _, _) => MQ below (KQ D A wY) args s mc ms A
theorem nw_in {l : Launch} {D : va_G} {cI cB cO : ClassId} (o : Nat) {y : MethodName} {cc : ByteArray} {ci : Nat} {fs0 : List Value} {d mc ms : Nat} {wY : Nat → (Nat → Nat) → va_W} {a sz : Nat} (hy : plainName y.cls = true) (hcn : rw_cn o = y.cls) (hyi : y.name = "<init>")
    (body : ∀ E A, E.2.1 = l → Cn E D cI cB cO A o cc 1 → Ein_ E → Ero E = krm d mc ms → E.2.2.2.2.2.2.2.2.1.sig.returnType = none → E.2.2.2.2.2.2.2.2.1.locks = false → NW E D A 1 (QN E D A (wY a) mc ms) 0 [(0, .ref a)] [] [(a, .inr (ci, fs0))] 0 0) : KM l D cI cB cO (y, cc, 1, none) ci fs0 d mc ms wY a sz := by
  refine Met.ofW (cc := cc) (maxL := 1) (ret := none) hy rfl ?_
  intro p e s m args below meth c s₁ B hml hv
  obtain ⟨rfl, hsz, hP, hK, hN⟩ := hv
  have hts := atoms_spec (ws := rw_w (y, cc, 1, none)) B.pre
  have hl := lv_entry ([.ref a]) (n := 1) (Nat.le_of_ble_eq_true rfl)
  rw [lg_entry_eq]
  subst hsz
  have hD0 : va_D (fun _ => True) [(a, (.inr (ci, fs0) : va_E))] := ⟨fun i j p q hi hj _ => by
    have h1 := (List.getElem?_eq_some_iff.mp hi).1
    have h2 := (List.getElem?_eq_some_iff.mp hj).1
    simp only [List.length_cons, List.length_nil] at h1 h2
    omega, fun _ _ _ => trivial⟩
  exact body (p, l, e, (krm d mc ms, 0, 0), s, m, #[.ref a], below, meth, c) (va_A [(a, .inr (ci, fs0))] s.heap.size) rfl ⟨B.exec, B.bytes, hml, by rw [hcn]; exact findClass_of_methodNamed B.named, fun w hw => hts w (List.mem_cons_of_mem _ hw), hK, hN, fun q h => Or.inr h⟩ ((name_of_methodNamed B.named B.method).1.trans hyi) rfl B.returns B.notSynchronized s.heap [] _ hP hD0.self va_S.rf hl
theorem nw_ret {E : Cf} {D : va_G} {cI cB cO : ClassId} {A : Nat → Prop} {o nL : Nat} {cc : ByteArray} {pc : Nat} {lv : List (Nat × Value)} {wY : (Nat → Nat) → va_W} {mc ms : Nat} (hX : Cn E D cI cB cO A o cc nL) (hr : E.2.2.2.2.2.2.2.2.1.sig.returnType = none) (hlk : E.2.2.2.2.2.2.2.2.1.locks = false) (q : Nat → Nat) (hd : decode cc pc = .ok (.return_, 1)) : NW E D A nL (QN E D A wY mc ms) pc lv [] (wY q) mc ms := by
  obtain ⟨p, l, e, ⟨R, cs, sl⟩, s, m, args, below, meth, c⟩ := E
  obtain ⟨hx, hb, hml, hown, hts, hK, ⟨hN2, hOV⟩, hA⟩ := hX
  intro H locs ls hP hD hS hl
  exact W.vret hx hb hr (fun t ht hW => ⟨⟨q, rfl, trivial, by rw [ht]; exact hP, hD⟩, hS.F ht⟩) hS.2.2 hd hlk
theorem KPre_call {D : va_G} {cI cB cO : ClassId} {ci : Nat} {fs0 : List Value} {a sz : Nat} {as : List Value} : FrameBlind (va_Pc as (KPre D cI cB cO ci fs0 a sz)) := fun a9 U g mk q =>
  ⟨q.1, q.2.1, q.2.2.1, va_K.moved (u := U) (U := U.calling g mk a9) (Vm.Alike.refl U.vm) q.2.2.2.1, rw_nest.same (s := U) (U := U.calling g mk a9) rfl q.2.2.2.2.1, OV.moved (u := U) (U := U.calling g mk a9) (Vm.Alike.refl U.vm) q.2.2.2.2.2⟩
theorem range_nd : ∀ (n : Nat), va_nd (List.range n) = true := fun n => by
  have key : ∀ (l : List Nat), l.Nodup → va_nd l = true := by
    intro l
    induction l with
    | nil => exact fun _ => rfl
    | cons x r ih =>
      intro h
      rw [List.nodup_cons] at h
      simp only [va_nd, Bool.and_eq_true, decide_eq_true_eq]
      exact ⟨h.1, ih h.2⟩
  exact key _ List.nodup_range
theorem range_at (ws : va_W) (x : Nat × va_E) : (List.range ws.length).map (fun i => (ws ++ [x])[i]?) = ws.map some := by
  apply List.ext_getElem (by simp)
  intro i h1 h2
  simp only [List.getElem_map, List.getElem_range]
  have h3 : i < ws.length := by simpa using h2
  rw [List.getElem?_append_left h3, List.getElem?_eq_getElem h3]
theorem last_at (ws : va_W) (x : Nat × va_E) : [ws.length].map (fun i => (ws ++ [x])[i]?) = [x].map some := by
  simp
section NWM
variable {E : Cf} {D : va_G} {cI cB cO : ClassId} {A : Nat → Prop} {o nL : Nat} {cc : ByteArray} {Q : State → Prop} {pc : Nat} {lv : List (Nat × Value)} {st : List Value} {ws : va_W} {k n : Nat}
/-- a new object, made by its constructor (private to the nest, or not) -/
theorem nw_mk (hX : Cn E D cI cB cO A o cc nL) {idx idx2 ci N d mc ms : Nat} {C : String} {T : u_T} (hc : vwCl[ci]? = some (C, T, N)) {fs0 : List Value} (hfs : ∀ j, j < N → defaultValue (rw_cty ci j) = vp_V fs0 j) (hcl : Cond.classLink (rw_cn o) idx C ∈ gt) (hinst : Cond.instantiable C N ∈ gt) (hini : Cond.initialized C ∈ gt)
    {y : MethodName} {yc : ByteArray} {wY : Nat → (Nat → Nat) → va_W} (hM : ∀ a sz, KM E.2.1 D cI cB cO (y, yc, 1, none) ci fs0 d mc ms wY a sz) (hyC : y.cls = C) (hyi : y.name = "<init>") (hlk : Cond.methodLink (rw_cn o) idx2 y ∈ gt ∨ Cond.methodLinkNest (rw_cn o) idx2 y "HandedWorks" ∈ nw) (him : Cond.instanceMethod y ∈ gt) (hco : Cond.code y yc 1 none ∈ gt)
    (hpar : (parseMethodDescriptor y.desc).map (fun d => d.parameters.length) = some 0) (hd1 : y.cls ≠ "java/lang/invoke/MethodHandle") (hd2 : y.cls ≠ "java/lang/invoke/VarHandle")
    (h0 : decode cc pc = .ok (.new idx, 3)) (h3 : decode cc (pc + 3) = .ok (.dup, 1)) (h4 : decode cc (pc + 3 + 1) = .ok (.invokespecial idx2, 3)) (hrc : k + 1 + mc ≤ (Ero E).cells) (hrs : n + N + ms ≤ (Ero E).slots) (hrf : d + 2 ≤ (Ero E).frames) (hrl : 60 * (d + 2) ≤ (Ero E).locals) (hst : (st.map fun v => v.category).sum ≤ 7)
    (kk : ∀ (a : Nat) (q : Nat → Nat), NW E D A nL Q (pc + 7) lv (.ref a :: st) (ws ++ wY a q) (k + 1 + mc) (n + N + ms)) : NW E D A nL Q pc lv st ws k n := by
  obtain ⟨p, l, e, ⟨R, cs, sl⟩, s, m, args, below, meth, c⟩ := E
  obtain ⟨hx, hb, hml, hown, hts, hK, ⟨hN2, hOV⟩, hA⟩ := hX
  intro H locs ls hP hD hS hl
  obtain ⟨hty, hnm⟩ := rw_tyok hc
  have hrc2 : k + 1 + mc ≤ R.cells := hrc
  have hrs2 : n + N + ms ≤ R.slots := hrs
  refine va_new (ci := ci) (fs := fs0) hx hb hts (rw_lays hc) (rw_cty ci) hty hown (hts _ hcl) (hts _ hinst) (hts _ hini) hK hP hD hS hA hc hfs (by omega) (by omega) h0 (fun a H hP hD hS => ?_)
  refine lv_dup hx hb h3 rfl ?_
  have hPc := hP.sub (ws' := [(a, .inr (ci, fs0))]) [ws.length] (by simp)
  have hKc := hK
  have hFc := va_free (wc := [(a, .inr (ci, fs0))]) hD hS hA [ws.length] (last_at ws _)
  have hp : PreS s H (va_Pc [.ref a] (KPre D cI cB cO ci fs0 a H.size)) (.ref a :: []) := ⟨KPre_call, fun U hU hW => ⟨rfl, by rw [hU], by rw [hU]; exact hPc, va_K.moved hW.alike hKc, rw_nest.warm hW hN2, hOV.moved hW.alike⟩⟩
  have hroom : d + 1 + 1 ≤ R.frames ∧ 8 + (1 + 11) + 60 * (d + 1) ≤ R.locals := ⟨hrf, by have : 60 * (d + 2) ≤ R.locals := hrl; omega⟩
  have hmono : 2 * (F0 m (pc + 3 + 1) ls (.ref a :: .ref a :: st)).monitorRoom + ((.ref a :: st).map fun v => v.category).sum ≤ 8 := lv_room (by
    show 1 + (st.map fun v => v.category).sum ≤ 8
    omega)
  have hG : GoodIn gt (rw_w (y, yc, 1, none)) := gt_good fun w hw => by
    rcases List.mem_cons.mp hw with rfl | h
    · exact hco
    · exact h
  have hrun : va_Run p l e R s m args below meth c H locs (k + 1) (n + N) mc ms (F0 m (pc + 3 + 1) ls (.ref a :: .ref a :: st)) (.ref a :: st) (KQ D (va_A [(a, .inr (ci, fs0))] H.size) (wY a) (Value.ref a :: []).toArray) (va_A [(a, .inr (ci, fs0))] H.size) := by
    rcases hlk with hlk | hlk
    · exact va_runI (As := []) (rest := .ref a :: st) ⟨hx, hb, hml, hown, hts⟩ (hM a H.size) (cwI 0 hts hG rfl rfl rfl (by rw [hyC]; exact hts _ hini) (hts _ hlk) (hts _ him) hyi ⟨hd1, hd2, hpar⟩ hroom) hp rfl rfl hl.1 rfl hmono h4 ⟨hrc2, hrs2⟩
    · exact va_runIN (As := []) (rest := .ref a :: st) ⟨hx, hb, hml, hown, hts⟩ (hM a H.size) ⟨va_cnB 0 hts hG rfl rfl rfl (hN2 _ hlk) (by rw [hyC]; exact hts _ hini) ⟨hd1, hd2, hpar⟩ hroom, hyi, hts _ him⟩ hp rfl rfl hl.1 rfl hmono h4 ⟨hrc2, hrs2⟩
  refine va_callv hrun hS (fun q _ h => hFc q h) hFc (fun u t H1 locs1 ht hvm hw hB hz1 hk1 hS1 => ?_)
  obtain ⟨hP1, hD1⟩ := hB
  rw [ht] at hP1
  obtain ⟨hP2, hD2⟩ := va_join (wr := ws) (w1 := wY a u) hP hD [ws.length] (List.range ws.length) (last_at ws _) (range_at ws _) (range_nd _) (by
    intro i hi hc9
    simp only [List.mem_singleton] at hc9
    simp only [List.mem_range] at hi
    omega) hk1 hFc hP1 hD1
  exact kk a u H1 locs1 ls hP2 hD2 hS1 hl
end NWM
