/-! a row of rows, made at once -/
def mzS (s : State) (c comp : ClassId) (N M : Nat) : Nat → State
  | 0 => s.pushCell (arrV c N fun _ => .null)
  | i + 1 => ((mzS s c comp N M i).pushCell (arrV comp M fun _ => .int 0)).setCell s.heap.size (arrV c N fun j => if j < i + 1 then .ref (s.heap.size + 1 + j) else .null)
theorem arrV_sz (c : ClassId) (N : Nat) (f : Nat → Value) : (arrV c N f).slots.size = N := by simp [arrV]
theorem arrV_0 (c : ClassId) (N h : Nat) : arrV c N (fun _ => .null) = arrV c N (fun j => if j < 0 then .ref (h + 1 + j) else .null) := by
  congr 1
theorem arrV_1 (c : ClassId) (N h i : Nat) (hi : i < N) : (arrV c N (fun j => if j < i then .ref (h + 1 + j) else .null)).setSlot i (.ref (h + 1 + i)) = arrV c N (fun j => if j < i + 1 then .ref (h + 1 + j) else .null) := by
  unfold arrV Cell.setSlot
  congr 1
  apply Array.ext_getElem?
  intro j
  rw [Array.getElem?_setIfInBounds, Array.getElem?_ofFn, Array.getElem?_ofFn]
  by_cases e : i = j
  · subst e
    rw [if_pos rfl, if_pos (by rw [Array.size_ofFn]; exact hi), dif_pos hi]
    dsimp only
    rw [if_pos (by omega)]
  · rw [if_neg e]
    by_cases h9 : j < N
    · rw [dif_pos h9, dif_pos h9]
      dsimp only
      by_cases g : j < i
      · rw [if_pos g, if_pos (by omega)]
      · rw [if_neg g, if_neg (by omega)]
    · rw [dif_neg h9, dif_neg h9]
theorem mz_sz (s : State) (c comp : ClassId) (N M : Nat) : ∀ i, (mzS s c comp N M i).heap.size = s.heap.size + 1 + i
  | 0 => by simp [mzS]
  | i + 1 => by
    have ih := mz_sz s c comp N M i
    simp [mzS, State.setCell, ih]
    omega
theorem mz_vm (s : State) (c comp : ClassId) (N M : Nat) : ∀ i, (mzS s c comp N M i).vm = s.vm
  | 0 => rfl
  | i + 1 => by simp [mzS, mz_vm s c comp N M i]
theorem mz_used (s : State) (c comp : ClassId) (N M : Nat) : ∀ i, (mzS s c comp N M i).slotsUsed = s.slotsUsed + N + i * M
  | 0 => by simp [mzS, arrV_sz]
  | i + 1 => by
    have ih := mz_used s c comp N M i
    simp [mzS, ih, arrV_sz, Nat.succ_mul]
    omega
theorem mz_out (s : State) (c comp : ClassId) (N M : Nat) : ∀ i, (mzS s c comp N M i).heap[s.heap.size]? = some (arrV c N fun j => if j < i then .ref (s.heap.size + 1 + j) else .null)
  | 0 => by rw [← arrV_0]; exact State.heap_pushCell_size _ _
  | i + 1 => by
    have h1 : s.heap.size < (mzS s c comp N M i).heap.size := by rw [mz_sz]; omega
    exact State.heap_setCell_self (by rw [State.heap_pushCell_of_lt (h := h1)]; exact mz_out s c comp N M i)
theorem mz_old (s : State) (c comp : ClassId) (N M : Nat) {a : Addr} (ha : a < s.heap.size) : ∀ i, (mzS s c comp N M i).heap[a]? = s.heap[a]?
  | 0 => State.heap_pushCell_of_lt _ _ ha
  | i + 1 => by
    have h1 : a < (mzS s c comp N M i).heap.size := Nat.lt_of_lt_of_le ha (by rw [mz_sz]; omega)
    show (((mzS s c comp N M i).pushCell _).setCell s.heap.size _).heap[a]? = _
    rw [State.heap_setCell_other (Nat.ne_of_gt ha), State.heap_pushCell_of_lt (h := h1), mz_old s c comp N M ha i]
theorem mz_row (s : State) (c comp : ClassId) (N M : Nat) : ∀ i j, j < i → (mzS s c comp N M i).heap[s.heap.size + 1 + j]? = some (arrV comp M fun _ => .int 0)
  | 0, j, h => by omega
  | i + 1, j, h => by
    show (((mzS s c comp N M i).pushCell _).setCell s.heap.size _).heap[s.heap.size + 1 + j]? = _
    rw [State.heap_setCell_other (show s.heap.size ≠ s.heap.size + 1 + j by omega)]
    by_cases e : j = i
    · rw [e, ← mz_sz s c comp N M i]
      exact State.heap_pushCell_size _ _
    · have h1 : s.heap.size + 1 + j < (mzS s c comp N M i).heap.size := by rw [mz_sz]; omega
      rw [State.heap_pushCell_of_lt (h := h1)]
      exact mz_row s c comp N M i j (by omega)
theorem mz_top (s : State) (f : JFrame) (c comp : ClassId) (N M : Nat) : ∀ i, mzS (s.setTop f) c comp N M i = (mzS s c comp N M i).setTop f
  | 0 => rfl
  | i + 1 => by simp only [mzS, mz_top s f c comp N M i, State.heap_setTop, State.pushCell_setTop, State.setCell_setTop]
theorem mz_stand {p : Program} {l : Launch} {e : Env} {R : Room} {s : State} {m : MethodId} {args : Array Value} {below : List Frame} {meth : Method} {c : Code} {T : State} {locs : List Loc} {cells slots : Nat} (X : Stand p l e R s m args below meth c T locs cells slots) (cA comp : ClassId) (N M : Nat) :
    ∀ i, i ≤ N → Stand p l e R s m args below meth c (mzS T cA comp N M i) (locs ++ (List.range i).map fun j => ⟨T.heap.size, j⟩) (cells + 1 + i) (slots + N + i * M)
  | 0, _ => by
    have h := X.pushed (arrV cA N fun _ => .null)
    rw [arrV_sz] at h
    simpa [mzS] using h
  | i + 1, hi => by
    have ih := mz_stand X cA comp N M i (by omega)
    have h1 : T.heap.size < (mzS T cA comp N M i).heap.size := by rw [mz_sz]; omega
    have h2 : ((mzS T cA comp N M i).pushCell (arrV comp M fun _ => .int 0)).heap[T.heap.size]? = some (arrV cA N fun j => if j < i then .ref (T.heap.size + 1 + j) else .null) := by rw [State.heap_pushCell_of_lt (h := h1)]; exact mz_out T cA comp N M i
    have h3 := (ih.pushed (arrV comp M fun _ => .int 0)).stored h2 i (.ref (T.heap.size + 1 + i))
    rw [arrV_sz, arrV_1 _ _ _ _ (by omega)] at h3
    rw [List.range_succ, List.map_append, ← List.append_assoc, show slots + N + (i + 1) * M = slots + N + i * M + M by rw [Nat.succ_mul]; omega]
    exact h3
section
variable {E : CtlPost} {e : Env} {d : Bool} {acts : List Action} {s : State}
theorem mz_new {c comp : ClassId} {k : Class} {type : FieldType} {len : Nat} {init : Value} (hk : s.vm.classes[c]? = some k) (hkind : k.kind = .array comp type) (h3 : len ≤ e.platform.arrayLengthLimit) (h4 : len * componentBytes type ≤ e.platform.maxHeapBytes)
    (hfit : fits type init = true) (hdef : init.isDefault = true) {Q : Addr → Pre} (h1 : s.heap.size < e.platform.maxCells) (h2 : s.slotsUsed + len ≤ e.platform.maxSlots) (hq : Q s.heap.size d acts (s.pushCell (arrV c len fun _ => init))) : wp (Jvm.newArray c len init) Q E e d acts s := by
  have e1 : ∀ i v, (Array.replicate len init)[i]? = some v → s.fitsSlot c .none i v = true := by
    intro i v hv
    rw [Array.getElem?_replicate] at hv
    split at hv
    · cases hv
      simp [State.fitsSlot, State.slotType?, hk, hkind, hfit]
    · cases hv
  have e2 : allocActs (Array.replicate len init) s.heap.size acts = acts := by
    unfold allocActs
    rw [if_pos (by rw [Array.all_replicate]; split <;> simp [hdef])]
  rw [← arrV_new] at hq
  simp only [Jvm.newArray, Jvm.arrayFits, wp_bind', W.ask, W.ite, wp_pure', W.theClass, hk, hkind, W.alloc, W.stop, Option.some.injEq, exists_eq_left', Array.size_replicate, e2]
  rw [if_neg (show ¬ len > e.platform.arrayLengthLimit by omega), if_neg (show ¬ len * componentBytes type > e.platform.maxHeapBytes by omega), if_neg (show ¬ len > e.platform.maxSlots by omega)]
  exact ⟨h1, h2, e1, hq⟩
theorem mz_make {c comp cc : ClassId} {k kc : Class} {n m : Int32} (hk : s.vm.classes[c]? = some k) (hkind : k.kind = .array comp (.array .int)) (hkc : s.vm.classes[comp]? = some kc) (hkindc : kc.kind = .array cc .int) (hn : ¬ n < 0) (hm : ¬ m < 0)
    (l1 : n.toNatClampNeg ≤ e.platform.arrayLengthLimit) (l2 : n.toNatClampNeg * 4 ≤ e.platform.maxHeapBytes) (l3 : m.toNatClampNeg ≤ e.platform.arrayLengthLimit) (l4 : m.toNatClampNeg * 4 ≤ e.platform.maxHeapBytes)
    (hc : s.heap.size + 1 + n.toNatClampNeg ≤ e.platform.maxCells) (hs : s.slotsUsed + n.toNatClampNeg + n.toNatClampNeg * m.toNatClampNeg ≤ e.platform.maxSlots)
    {Q : Addr → Pre} (hq : ∀ d' acts', Q s.heap.size d' acts' (mzS s c comp n.toNatClampNeg m.toNatClampNeg n.toNatClampNeg)) : wp (multianewarray.make c [n, m]) Q E e d acts s := by
  generalize hN : n.toNatClampNeg = N at *
  generalize hM : m.toNatClampNeg = M at *
  rw [multianewarray.make]
  simp only [wp_bind', W.ite, if_neg hn, wp_pure', W.theClass, hk, hkind, Option.some.injEq, exists_eq_left', hN]
  refine mz_new hk hkind l1 (by exact l2) rfl rfl (by omega) (by omega) ?_
  simp only [show ([m].find? (· < 0)) = none by simp [hm]]
  rw [ite_self, wp_bind', Std.Legacy.Range.forIn_eq_forIn_range', show ([:N] : Std.Legacy.Range).size = N by simp [Std.Legacy.Range.size]]
  show wp (forIn (List.range' 0 N 1) PUnit.unit _) _ E e d acts _
  refine wp_forIn_inv (fun rest s' => ∃ i, i ≤ N ∧ rest = List.range' i (N - i) ∧ s' = mzS s c comp N M i) _ _ ⟨0, by omega, rfl, rfl⟩ ?_ ?_
  · rintro x rest s' d' acts' Q' ⟨i, hi, hl, rfl⟩ hnext
    have hiN : i < N := by
      rcases Nat.lt_or_ge i N with h | h
      · exact h
      · rw [show N - i = 0 by omega] at hl; simp at hl
    rw [show N - i = N - (i + 1) + 1 by omega, List.range'_succ] at hl
    obtain ⟨rfl, hrest⟩ := List.cons.inj hl
    have hlt : s.heap.size < (mzS s c comp N M x).heap.size := by rw [mz_sz]; omega
    have hmul : x * M + M ≤ N * M := by rw [← Nat.succ_mul]; exact Nat.mul_le_mul_right M hiN
    simp only [wp_bind']
    rw [multianewarray.make]
    simp only [wp_bind', W.ite, if_neg hm, wp_pure', W.theClass, mz_vm, hkc, hkindc, Option.some.injEq, exists_eq_left', hM]
    refine mz_new (by rw [mz_vm]; exact hkc) hkindc l3 (by exact l4) rfl rfl (by rw [mz_sz]; omega) (by rw [mz_used]; omega) ?_
    simp only [wp_bind', W.writeLoc, wp_pure']
    refine ⟨_, by rw [State.heap_pushCell_of_lt (h := hlt)]; exact mz_out s c comp N M x, by simp [arrV], by rw [arrV_sz]; exact hiN, ?_, hnext _ _ _ ⟨x + 1, hiN, hrest, ?_⟩⟩
    · simp [arrV, State.fitsSlot, State.slotType?, mz_vm, hk, hkind, fits]
    · rw [mz_sz, arrV_1 _ _ _ _ hiN]
      rfl
  · rintro s' d' acts' ⟨i, hi, hl, rfl⟩
    have hiN : i = N := by
      rcases Nat.lt_or_ge i N with h | h
      · rw [show N - i = N - (i + 1) + 1 by omega, List.range'_succ] at hl; cases hl
      · omega
    rw [hiN]
    simp only [wp_pure']
    exact hq _ _
end
/-- the class of rows of int rows, and that of its rows -/
theorem mz_over {args : Array Value} {s : State} (h : (Cond.arrayOver (.array .int)).before args s = true) : ∃ comp cA kA, s.vm.findClass "[I" = some comp ∧ s.vm.classes[cA]? = some kA ∧ kA.kind = .array comp (.array .int) ∧ s.vm.findClass "[[I" = some cA := by
  have e1 : (FieldType.array .int).toString = "[I" := by decide +kernel
  have e2 : "[" ++ "[I" = "[[I" := by decide +kernel
  unfold Cond.before at h
  simp only [Cond.holds, Cond.value, beq_iff_eq, e1, e2] at h
  cases hc : s.vm.findClass "[I" with
  | none => simp [hc] at h
  | some comp =>
    simp only [hc, Option.bind_some, Option.bind_eq_some_iff, Option.map_eq_some_iff] at h
    obtain ⟨cA, hi, kA, hk, hb⟩ := h
    obtain ⟨hlt, hp, -⟩ := Array.findIdx?_eq_some_iff_getElem.mp hi
    rw [(Array.getElem?_eq_some_iff.mp hk).2] at hp
    refine ⟨comp, cA, kA, rfl, hk, ?_⟩
    cases hkind : kA.kind with
    | array c9 ty =>
      rw [hkind] at hb hp
      simp at hb hp
      exact ⟨by rw [hp, hb.1], hb.2⟩
    | _ => rw [hkind] at hb; simp at hb
theorem mz_W {p : Program} {l : Launch} {e : Env} {R : Room} {s : State} {m : MethodId} {args : Array Value} {below : List Frame} {meth : Method} {c : Code} {H : Heap} {locs : List Loc} {cells slots : Nat} {Q : State → Prop} {cc : ByteArray} (hexec : p.tables.exec = Jvm.exec) (hb : c.code = cc) {own : String} {idx : Nat} (hown : s.vm.findClass own = some m.cls) (hcl : (Cond.classLink own idx "[[I").before args s = true)
    {cA comp : ClassId} {kA : Class} (hkA : s.vm.classes[cA]? = some kA) (hkindA : kA.kind = .array comp (.array .int)) (hnameA : s.vm.findClass "[[I" = some cA) (hcomp : s.vm.findClass "[I" = some comp) (hac : (Cond.arrayClass .int).before args s = true) {pc : Nat} {ls : Array Slot} {rest : List Value} {n k : Int32} {N M : Nat} (hN : n.toNatClampNeg = N) (hM : k.toNatClampNeg = M) (hn : ¬ n < 0) (hk : ¬ k < 0) (hN9 : N < 2 ^ 20) (hM9 : M < 2 ^ 20) (hd : decode cc pc = .ok (.multianewarray idx 2, 4)) (hc : cells + (1 + N) ≤ R.cells) (hs : slots + (N + N * M) ≤ R.slots)
    (kk : ∀ (H1 : Heap) (locs1 : List Loc), H1.size = H.size + 1 + N → (∀ q, q < H.size → H1[q]? = H[q]?) → H1[H.size]? = some (arrV cA N fun j => if j < N then .ref (H.size + 1 + j) else .null) → (∀ j, j < N → H1[H.size + 1 + j]? = some (arrV comp M fun _ => .int 0)) → (∀ z ∈ locs1, z ∈ locs ∨ z.base = H.size) →
      W p l e R s m args below meth c H1 locs1 (cells + 1 + N) (slots + N + N * M) Q (F0 m (pc + 4) ls (.ref H.size :: rest))) : W p l e R s m args below meth c H locs cells slots Q (F0 m pc ls (.int k :: .int n :: rest)) := by
  intro T hT X
  subst hb
  subst hT
  have hpl : e.platform.magicAccessors = ({} : Platform).magicAccessors := by rw [X.admits.platform]
  obtain ⟨comp2, kC, c9, hcomp2, hkC, hkindC⟩ := Cond.arrayClass_spec hac
  have ec : comp2 = comp := Option.some.inj (hcomp2.symm.trans hcomp)
  subst ec
  obtain ⟨c0, hfc0, hlk⟩ := Cond.classLink_spec hown hcl e.platform hpl
  have e0 : cA = c0 := Option.some.inj (hnameA.symm.trans hfc0)
  subst e0
  obtain ⟨hg1, hw1, hr1⟩ := State.classEntry (e := e) X.warmed hlk
  generalize T.vm.noted m.cls idx (.cls cA) = vm1 at hg1 hw1 hr1
  obtain ⟨kA1, hkA1, heA⟩ := hw1.alike.2.2 _ _ hkA
  obtain ⟨kC1, hkC1, heC⟩ := hw1.alike.2.2 _ _ hkC
  have X1 := X.noted hw1
  obtain ⟨rm1, rm2⟩ := X.roomAbove hc hs
  have XF := mz_stand X1 cA comp2 N M N (Nat.le_refl N)
  obtain ⟨t, a1, b1⟩ := kk (mzS (T.setVm vm1) cA comp2 N M N).heap _ (mz_sz _ _ _ _ _ _) (fun q hq => mz_old (T.setVm vm1) _ _ _ _ hq _) (mz_out _ _ _ _ _ _) (fun j hj => mz_row _ _ _ _ _ _ _ hj) (by
    intro z hz
    rcases List.mem_append.mp hz with h | h
    · exact Or.inl h
    · obtain ⟨j, -, rfl⟩ := List.mem_map.mp h
      exact Or.inr rfl) _ rfl XF
  refine ⟨t, ?_, b1⟩
  jvm_step X.here [hexec, hd]
  simp only [multianewarray.sem, wp_bind', W.resolveClassAt_links (State.method?_setTop (F0 m pc ls (.int k :: .int n :: rest)) X.here.top) (show (Jvm.resolveClass (F0 m pc ls (.int k :: .int n :: rest)).method.cls idx).Gives e.toSetting (T.setTop (F0 m pc ls (.int k :: .int n :: rest))).vm (.ok cA) vm1 from hg1)]
  rw [W.popN, if_neg (by decide)]
  refine ⟨_, State.topJava?_setTop' (s := T.setVm vm1) (F0 m pc ls (.int k :: .int n :: rest)) X.here.top, [.int n, .int k], rest, rfl, rfl, ?_⟩
  simp only [List.mapM_cons, List.mapM_nil, wp_bind', wp_pure']
  refine mz_make (k := kA1) (kc := kC1) (comp := comp2) (cc := c9) hkA1 (by rw [heA]; exact hkindA) hkC1 (by rw [heC]; exact hkindC) hn hk (by rw [Launch.admits_arrayLengthLimit X.admits, hN]; omega) (by rw [Launch.admits_maxHeapBytes X.admits, hN]; omega) (by rw [Launch.admits_arrayLengthLimit X.admits, hM]; omega) (by rw [Launch.admits_maxHeapBytes X.admits, hM]; omega) (by rw [hN]; show T.heap.size + 1 + N ≤ _; omega) (by rw [hN, hM]; show T.slotsUsed + N + N * M ≤ _; omega) (fun d' acts' => ?_)
  rw [hN, hM]
  rw [show ∀ (f g : JFrame), ((T.setTop f).setVm vm1).setTop g = (T.setVm vm1).setTop g from fun f g => by show ((T.setVm vm1).setTop f).setTop g = _; rw [State.setTop_setTop], mz_top]
  simp only [wp_bind', W.mark, W.pushRef, State.topJava?_setTop' _ XF.here.top, Option.some.injEq, exists_eq_left', State.setTop_setTop, State.heap_setTop]
  intro acts
  simp [jvm, XF.here.top]
  exact a1
