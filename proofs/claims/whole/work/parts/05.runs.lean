/-! runs of steps, branches, calls, ends -/
def rw_and : List Prop → Prop
  | [] => True
  | [a] => a
  | a :: b :: r => a ∧ rw_and (b :: r)
theorem rw_and_all : ∀ {l : List Prop}, rw_and l → ∀ q ∈ l, q
  | [], _, q, h => by cases h
  | [a], h, q, hq => by rw [List.mem_singleton.mp hq]; exact h
  | a :: b :: r, h, q, hq => by
    rcases List.mem_cons.mp hq with rfl | hq
    · exact h.1
    · exact rw_and_all h.2 q hq
def rw_gt : Instr → Option Int
  | .goto off => some off
  | _ => none
theorem rw_gt_use {i : Instr} {off : Int} (h : rw_gt i = some off) : i = .goto off := by
  unfold rw_gt at h
  split at h
  · cases h; rfl
  · cases h
def rw_tg (pc : Nat) (off : Int) : Nat := ((pc : Int) + off).toNat
/-- a path: steps with their places; the jumps that don't ask stand in it -/
def rw_run (o nL : Nat) : List (Nat × Instr) → Nat → List (Nat × Value) → List Value → Mm → Option (List Prop × (Nat × Bs))
  | [], pc, lv, st, σ => some ([], pc, lv, st, σ)
  | (q, i) :: r, pc, lv, st, σ => bif Nat.beq q pc then (match rw_gt i with
    | some off => rw_run o nL r (rw_tg pc off) lv st σ
    | none => match rw_i o nL i lv st σ with
      | some (Ps, lv', st', σ') => match rw_run o nL r (pc + ilen i) lv' st' σ' with
        | some (Ps', z) => some (Ps ++ Ps', z)
        | none => none
      | none => none) else none
def rw_dec (cc : ByteArray) (t : List (Nat × Instr)) : Bool := t.all fun q => decide (decode cc q.1 = .ok (q.2, ilen q.2)) && (match rw_gt q.2 with
  | some off => decide ((q.1 : Int) + off = (rw_tg q.1 off : Int))
  | none => true)
theorem rw_go {E : Cf} {G : Gl} {d o nL : Nat} {cc : ByteArray} {rt : Option FieldType} {Q : State → Prop} (hX : Cx E G d o cc nL rt) : ∀ (t : List (Nat × Instr)) {pc pc' : Nat} {lv lv' : List (Nat × Value)} {st st' : List Value} {σ σ' : Mm} {Ps : List Prop},
    rw_dec cc t = true → rw_run o nL t pc lv st σ = some (Ps, pc', lv', st', σ') → rw_and Ps → RW E G d nL Q pc' lv' st' σ' → RW E G d nL Q pc lv st σ := by
  have key : ∀ (t : List (Nat × Instr)) {pc pc' : Nat} {lv lv' : List (Nat × Value)} {st st' : List Value} {σ σ' : Mm} {Ps : List Prop},
      rw_dec cc t = true → rw_run o nL t pc lv st σ = some (Ps, pc', lv', st', σ') → (∀ q ∈ Ps, q) → RW E G d nL Q pc' lv' st' σ' → RW E G d nL Q pc lv st σ := by
    intro t
    induction t with
    | nil =>
      intro pc pc' lv lv' st st' σ σ' Ps _ h _ k
      simp only [rw_run] at h
      cases h
      exact k
    | cons q r ih =>
      intro pc pc' lv lv' st st' σ σ' Ps hd h hP k
      obtain ⟨q, i⟩ := q
      simp only [rw_dec, List.all_cons, Bool.and_eq_true, decide_eq_true_eq] at hd
      obtain ⟨⟨hd1, hd2⟩, hdr⟩ := hd
      have hdr : rw_dec cc r = true := by simpa only [rw_dec, Bool.and_eq_true, decide_eq_true_eq] using hdr
      cases hq : Nat.beq q pc with
      | false => simp [rw_run, hq] at h
      | true =>
        have e := Nat.eq_of_beq_eq_true hq
        subst e
        cases hg : rw_gt i with
        | some off =>
          have e2 := rw_gt_use hg
          subst e2
          simp only [rw_run, hq, cond_true, hg] at h
          have k2 := ih hdr h hP k
          rw [hg] at hd2
          simp only [decide_eq_true_eq] at hd2
          obtain ⟨p, l, e, ⟨R, cs, sl⟩, s, m, args, below, meth, c⟩ := E
          obtain ⟨hx, hb, -⟩ := hX
          intro H locs ls hP hS hl
          exact lv_goto hx hb hd1 hd2 (k2 H locs ls hP hS hl)
        | none =>
          have h2 := h
          simp only [rw_run, hq, cond_true, hg] at h2
          cases hi : rw_i o nL i lv st σ with
          | none => rw [hi] at h2; cases h2
          | some z =>
            obtain ⟨P1, lv1, st1, σ1⟩ := z
            rw [hi] at h2
            dsimp only at h2
            cases hr : rw_run o nL r (q + ilen i) lv1 st1 σ1 with
            | none => rw [hr] at h2; cases h2
            | some z2 =>
              obtain ⟨P2, z2⟩ := z2
              rw [hr] at h2
              dsimp only at h2
              cases h2
              exact rw_step hX hd1 hi (fun z hz => hP z (List.mem_append_left _ hz)) (ih hdr hr (fun z hz => hP z (List.mem_append_right _ hz)) k)
  intro t pc pc' lv lv' st st' σ σ' Ps hd h hP k
  exact key t hd h (rw_and_all hP) k
def cz (c : ClassFile.Cond) (x : Int32) : Prop := match c with
  | .eq => x = 0
  | .ne => x ≠ 0
  | .lt => x < 0
  | .ge => x ≥ 0
  | .gt => x > 0
  | .le => x ≤ 0
def cc2 (c : ClassFile.Cond) (x y : Int32) : Prop := match c with
  | .eq => x = y
  | .ne => x ≠ y
  | .lt => x < y
  | .ge => x ≥ y
  | .gt => x > y
  | .le => x ≤ y
theorem rw_if {E : Cf} {G : Gl} {d o nL : Nat} {cc : ByteArray} {rt : Option FieldType} {Q : State → Prop} (hX : Cx E G d o cc nL rt) {pc tgt : Nat} {lv : List (Nat × Value)} {st : List Value} {σ : Mm} {cnd : ClassFile.Cond} {off : Int} {x : Int32}
    (hd : decode cc pc = .ok (.ifCond cnd off, 3)) (ht : (pc : Int) + off = (tgt : Int)) (kt : cz cnd x → RW E G d nL Q tgt lv st σ) (kf : ¬ cz cnd x → RW E G d nL Q (pc + 3) lv st σ) : RW E G d nL Q pc lv (.int x :: st) σ := by
  obtain ⟨p, l, e, ⟨R, cs, sl⟩, s, m, args, below, meth, c⟩ := E
  obtain ⟨hx, hb, -⟩ := hX
  intro H locs ls hP hS hl
  cases cnd
  · exact lv_if_eq hx hb hd ht (fun z => kt z H locs ls hP hS hl) (fun z => kf z H locs ls hP hS hl)
  · exact lv_if_ne hx hb hd ht (fun z => kt z H locs ls hP hS hl) (fun z => kf (fun g => g z) H locs ls hP hS hl)
  · exact lv_if_lt hx hb hd ht (fun z => kt z H locs ls hP hS hl) (fun z => kf z H locs ls hP hS hl)
  · exact lv_if_ge hx hb hd ht (fun z => kt z H locs ls hP hS hl) (fun z => kf z H locs ls hP hS hl)
  · exact lv_if_gt hx hb hd ht (fun z => kt z H locs ls hP hS hl) (fun z => kf z H locs ls hP hS hl)
  · exact lv_if_le hx hb hd ht (fun z => kt z H locs ls hP hS hl) (fun z => kf z H locs ls hP hS hl)
theorem rw_icmp {E : Cf} {G : Gl} {d o nL : Nat} {cc : ByteArray} {rt : Option FieldType} {Q : State → Prop} (hX : Cx E G d o cc nL rt) {pc tgt : Nat} {lv : List (Nat × Value)} {st : List Value} {σ : Mm} {cnd : ClassFile.Cond} {off : Int} {x y : Int32}
    (hd : decode cc pc = .ok (.if_icmp cnd off, 3)) (ht : (pc : Int) + off = (tgt : Int)) (kt : cc2 cnd x y → RW E G d nL Q tgt lv st σ) (kf : ¬ cc2 cnd x y → RW E G d nL Q (pc + 3) lv st σ) : RW E G d nL Q pc lv (.int y :: .int x :: st) σ := by
  obtain ⟨p, l, e, ⟨R, cs, sl⟩, s, m, args, below, meth, c⟩ := E
  obtain ⟨hx, hb, -⟩ := hX
  intro H locs ls hP hS hl
  cases cnd
  · exact lv_icmp_eq hx hb hd ht (fun z => kt z H locs ls hP hS hl) (fun z => kf z H locs ls hP hS hl)
  · exact lv_icmp_ne hx hb hd ht (fun z => kt z H locs ls hP hS hl) (fun z => kf (fun g => g z) H locs ls hP hS hl)
  · exact lv_icmp_lt hx hb hd ht (fun z => kt z H locs ls hP hS hl) (fun z => kf z H locs ls hP hS hl)
  · exact lv_icmp_ge hx hb hd ht (fun z => kt z H locs ls hP hS hl) (fun z => kf z H locs ls hP hS hl)
  · exact lv_icmp_gt hx hb hd ht (fun z => kt z H locs ls hP hS hl) (fun z => kf z H locs ls hP hS hl)
  · exact lv_icmp_le hx hb hd ht (fun z => kt z H locs ls hP hS hl) (fun z => kf z H locs ls hP hS hl)
/-- switches -/
theorem rw_tabIn {E : Cf} {G : Gl} {d o nL : Nat} {cc : ByteArray} {rt : Option FieldType} {Q : State → Prop} (hX : Cx E G d o cc nL rt) {pc tgt len : Nat} {lv : List (Nat × Value)} {st : List Value} {σ : Mm} {df lo hi off : Int} {offs : Array Int} {x : Int32}
    (hd : decode cc pc = .ok (.tableswitch df lo hi offs, len)) (h1 : ¬ x.toInt < lo) (h2 : ¬ hi < x.toInt) (ho : offs[(x.toInt - lo).toNat]? = some off) (ht : (pc : Int) + off = (tgt : Int)) (k : RW E G d nL Q tgt lv st σ) : RW E G d nL Q pc lv (.int x :: st) σ := by
  obtain ⟨p, l, e, ⟨R, cs, sl⟩, s, m, args, below, meth, c⟩ := E
  obtain ⟨hx, hb, -⟩ := hX
  intro H locs ls hP hS hl
  exact lv_tableIn hx hb hd h1 h2 ho ht (k H locs ls hP hS hl)
theorem rw_tabOut {E : Cf} {G : Gl} {d o nL : Nat} {cc : ByteArray} {rt : Option FieldType} {Q : State → Prop} (hX : Cx E G d o cc nL rt) {pc tgt len : Nat} {lv : List (Nat × Value)} {st : List Value} {σ : Mm} {df lo hi : Int} {offs : Array Int} {x : Int32}
    (hd : decode cc pc = .ok (.tableswitch df lo hi offs, len)) (h : x.toInt < lo ∨ hi < x.toInt) (ht : (pc : Int) + df = (tgt : Int)) (k : RW E G d nL Q tgt lv st σ) : RW E G d nL Q pc lv (.int x :: st) σ := by
  obtain ⟨p, l, e, ⟨R, cs, sl⟩, s, m, args, below, meth, c⟩ := E
  obtain ⟨hx, hb, -⟩ := hX
  intro H locs ls hP hS hl
  exact lv_tableOut hx hb hd h ht (k H locs ls hP hS hl)
/-- what a contract's end is, for a method that runs -/
def QI (E : Cf) (G : Gl) (Q : Int32 → Mm → Prop) : State → Prop := match E with
  | (_, _, _, (_, cs, sl), s, _, args, below, _, _) => MQ below (va_Qi Q (Wb G) (Ad G)) args s cs sl (Ad G)
def QL (E : Cf) (G : Gl) (Q : Int64 → Mm → Prop) : State → Prop := match E with
  | (_, _, _, (_, cs, sl), s, _, args, below, _, _) => MQ below (va_Ql Q (Wb G) (Ad G)) args s cs sl (Ad G)
def QV (E : Cf) (G : Gl) (Q : Mm → Prop) : State → Prop := match E with
  | (_, _, _, (_, cs, sl), s, _, args, below, _, _) => MQ below (va_Qv Q (Wb G) (Ad G)) args s cs sl (Ad G)
theorem rw_iret {E : Cf} {G : Gl} {d o nL : Nat} {cc : ByteArray} (hX : Cx E G d o cc nL (some .int)) {pc : Nat} {lv : List (Nat × Value)} {v : Int32} {σ : Mm} {Q : Int32 → Mm → Prop} (hd : decode cc pc = .ok (.ireturn, 1)) (hq : Q v σ) : RW E G d nL (QI E G Q) pc lv [.int v] σ := by
  obtain ⟨p, l, e, ⟨R, cs, sl⟩, s, m, args, below, meth, c⟩ := E
  obtain ⟨hx, hb, -, -, -, -, -, -, -, hr, hlocks, -⟩ := hX
  intro H locs ls hP hS hl
  exact W.iret (v := v) hx hb hr (fun t ht hW => ⟨⟨v, σ, rfl, hq, by show va_P _ _ _ _; rw [ht]; exact hP⟩, hS.F ht⟩) hS.2.2 hd
theorem rw_zret {E : Cf} {G : Gl} {d o nL : Nat} {cc : ByteArray} (hX : Cx E G d o cc nL (some .boolean)) {pc : Nat} {lv : List (Nat × Value)} {v : Int32} {σ : Mm} {Q : Int32 → Mm → Prop} (hd : decode cc pc = .ok (.ireturn, 1)) (hz : v = 0 ∨ v = 1) (hq : Q v σ) : RW E G d nL (QI E G Q) pc lv [.int v] σ := by
  obtain ⟨p, l, e, ⟨R, cs, sl⟩, s, m, args, below, meth, c⟩ := E
  obtain ⟨hx, hb, -, -, -, -, -, -, -, hr, hlocks, -⟩ := hX
  intro H locs ls hP hS hl
  exact W.zret (v := v) hx hb hr (by rcases hz with rfl | rfl <;> rfl) (fun t ht hW => ⟨⟨v, σ, rfl, hq, by show va_P _ _ _ _; rw [ht]; exact hP⟩, hS.F ht⟩) hS.2.2 hd
theorem rw_lret {E : Cf} {G : Gl} {d o nL : Nat} {cc : ByteArray} (hX : Cx E G d o cc nL (some .long)) {pc : Nat} {lv : List (Nat × Value)} {v : Int64} {σ : Mm} {Q : Int64 → Mm → Prop} (hd : decode cc pc = .ok (.lreturn, 1)) (hq : Q v σ) : RW E G d nL (QL E G Q) pc lv [.long v] σ := by
  obtain ⟨p, l, e, ⟨R, cs, sl⟩, s, m, args, below, meth, c⟩ := E
  obtain ⟨hx, hb, -, -, -, -, -, -, -, hr, hlocks, -⟩ := hX
  intro H locs ls hP hS hl
  exact W.lret (v := v) hx hb hr (fun t ht hW => ⟨⟨v, σ, rfl, hq, by show va_P _ _ _ _; rw [ht]; exact hP⟩, hS.F ht⟩) hS.2.2 hd
theorem rw_vret {E : Cf} {G : Gl} {d o nL : Nat} {cc : ByteArray} (hX : Cx E G d o cc nL none) {pc : Nat} {lv : List (Nat × Value)} {σ : Mm} {Q : Mm → Prop} (hd : decode cc pc = .ok (.return_, 1)) (hq : Q σ) : RW E G d nL (QV E G Q) pc lv [] σ := by
  obtain ⟨p, l, e, ⟨R, cs, sl⟩, s, m, args, below, meth, c⟩ := E
  obtain ⟨hx, hb, -, -, -, -, -, -, -, hr, hlocks, -⟩ := hX
  intro H locs ls hP hS hl
  exact W.vret hx hb hr (fun t ht hW => ⟨⟨σ, rfl, hq, by show va_P _ _ _ _; rw [ht]; exact hP⟩, hS.F ht⟩) hS.2.2 hd
