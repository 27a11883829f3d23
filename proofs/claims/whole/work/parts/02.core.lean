-- cells: 0 x; 1 x_shelf; 2 x_shelf_bytes; 3 x_shelf_sizes; 4 x_shelf_kinds; 5 x_shelf_days; 6 x_shelf_rules; 7 x_shelf_held; 8 x_kept; 9 x_kept_bytes; 10 x_kept_sizes; 11 x_kept_kinds; 12 x_kept_days; 13 x_kept_rules; 14 x_kept_held; 15 x_thought; 16 x_thought_bytes; 17 x_thought_sizes; 18 x_thought_kinds; 19 x_thought_days; 20 x_thought_rules; 21 x_thought_held; 22 x_study; 23 x_study_reading; 24 x_study_reading_letters; 25 x_study_reading_grams; 26 x_study_reading_told; 27 x_study_reading_places; 28 x_study_reading_marks; 29 x_study_reading_forms; 30 x_study_reading_prints; 31 x_study_forms; 32 x_study_forms_heads; 33 x_study_forms_nexts; 34 x_study_forms_firstCells; 35 x_study_forms_works; 36 x_study_forms_lastWorks; 37 x_study_forms_flags; 38 x_study_forms_based; 39 x_study_matches; 40 x_study_matches_one; 41 x_study_matches_one_letters; 42 x_study_matches_one_anchors; 43 x_study_matches_two; 44 x_study_matches_two_letters; 45 x_study_matches_two_anchors; 46 x_study_matches_begins; 47 x_study_matches_otherBegins; 48 x_study_matches_lengths; 49 x_study_matches_weights; 50 x_study_matches_nexts; 51 x_study_matches_chained; 52 x_study_matches_seen; 53 x_study_spans; 54 x_study_spans_longest; 55 x_study_spans_sources; 56 x_study_spans_firsts; 57 x_study_spans_lasts; 58 x_study_spans_origins; 59 x_study_spans_tally; 60 x_study_bonds; 61 x_sheets; 62 x_sheets_items; 63 x_sheets_sizes; 64 x_sheets_sorts; 65 x_tape; 66 m; 67 m_raw; 68 m_size; 69 m_kind; 70 m_day; 71 m_rules; 72 m_tape; 73 m_imaged; 74 m_moved; 75 m_letters; 76 m_places; 77 m_many; 78 m_marks; 79 m_isPrint; 80 m_within; 81 m_isCommon; 82 m_isBegin; 83 m_runA; 84 m_runB; 85 m_runLong; 86 m_isChained; 87 m_heaviest; 88 m_source; 89 m_reach; 90 m_isIn; 91 m_rawWas; 92 m_sheets; 93 m_sheets_row0; 94 m_sheets_row1; 95 m_sheets_row2; 96 m_sheets_row3; 97 m_sheetSort; 98 m_sheetSize; 99 m_shown; 100 m_copied
/-- what each cell is: an int row (0) or a boolean row (1) of a length; an object of a class with its fields (the cell that it names, or a number); a row of rows -/
abbrev Sh : Type := (Nat × Nat) ⊕ ((Nat × List (Option Nat)) ⊕ List Nat)
def shapes : List Sh := [.inr (.inl (8, [some 1, some 8, some 15, some 22, some 61, some 65, none, none])),
  .inr (.inl (4, [some 2, some 3, some 4, some 5, some 6, some 7])),
  .inl (0, 250),
  .inl (0, 5),
  .inl (0, 5),
  .inl (0, 5),
  .inl (0, 6),
  .inl (0, 50),
  .inr (.inl (4, [some 9, some 10, some 11, some 12, some 13, some 14])),
  .inl (0, 250),
  .inl (0, 5),
  .inl (0, 5),
  .inl (0, 5),
  .inl (0, 6),
  .inl (0, 50),
  .inr (.inl (4, [some 16, some 17, some 18, some 19, some 20, some 21])),
  .inl (0, 250),
  .inl (0, 5),
  .inl (0, 5),
  .inl (0, 5),
  .inl (0, 6),
  .inl (0, 50),
  .inr (.inl (7, [some 23, some 31, some 39, some 53, some 60])),
  .inr (.inl (2, [some 24, some 25, some 26, some 27, some 28, some 29, some 30])),
  .inl (0, 5),
  .inl (0, 5),
  .inl (0, 250),
  .inl (0, 250),
  .inl (0, 250),
  .inl (0, 250),
  .inl (1, 250),
  .inr (.inl (0, [none, some 32, some 33, some 34, some 35, some 36, some 37, some 38, none])),
  .inl (0, 64),
  .inl (0, 250),
  .inl (0, 250),
  .inl (0, 250),
  .inl (0, 250),
  .inl (0, 250),
  .inl (1, 250),
  .inr (.inl (1, [none, some 40, some 43, some 46, some 47, some 48, some 49, some 50, some 51, some 52])),
  .inr (.inl (5, [none, some 41, some 42])),
  .inl (0, 50),
  .inl (0, 50),
  .inr (.inl (5, [none, some 44, some 45])),
  .inl (0, 50),
  .inl (0, 50),
  .inl (0, 840),
  .inl (0, 840),
  .inl (0, 840),
  .inl (0, 840),
  .inl (0, 840),
  .inl (1, 840),
  .inl (0, 50),
  .inr (.inl (6, [none, none, none, some 54, some 55, some 56, some 57, some 58, some 59])),
  .inl (0, 50),
  .inl (0, 50),
  .inl (0, 50),
  .inl (0, 50),
  .inl (0, 50),
  .inl (0, 5),
  .inl (0, 5),
  .inr (.inl (3, [some 62, some 63, some 64])),
  .inl (0, 160),
  .inl (0, 4),
  .inl (0, 4),
  .inl (0, 50),
  .inr (.inl (9, [some 67, some 68, some 69, some 70, some 71, some 72, none, some 73, none, none, none, some 74, some 75, some 76, some 77, some 78, some 79, some 80, some 81, some 82, none, some 83, some 84, some 85, some 86, some 87, some 88, some 89, some 90, some 91, some 92, some 97, some 98, some 99, some 100])),
  .inl (0, 250),
  .inl (0, 5),
  .inl (0, 5),
  .inl (0, 5),
  .inl (0, 6),
  .inl (0, 50),
  .inl (0, 320),
  .inl (0, 50),
  .inl (0, 250),
  .inl (0, 250),
  .inl (0, 5),
  .inl (0, 250),
  .inl (1, 250),
  .inl (0, 250),
  .inl (1, 250),
  .inl (1, 2500),
  .inl (0, 1000),
  .inl (0, 1000),
  .inl (0, 1000),
  .inl (1, 1000),
  .inl (0, 1001),
  .inl (0, 50),
  .inl (0, 50),
  .inl (1, 50),
  .inl (0, 250),
  .inr (.inr [93, 94, 95, 96]),
  .inl (0, 40),
  .inl (0, 40),
  .inl (0, 40),
  .inl (0, 40),
  .inl (0, 4),
  .inl (0, 4),
  .inl (0, 100),
  .inl (0, 40)]
/-- the classes by number -/
def rw_cn (o : Nat) : String := match o with
  | 0 => RX0
  | 1 => RX1
  | 2 => RX2
  | 3 => RX3
  | 4 => RX4
  | 5 => RX5
  | 6 => RX6
  | 7 => RX7
  | 8 => RX8
  | 9 => RX9
  | 10 => RX10
  | 11 => RL
  | 12 => RJ7
  | _ => ""
/-- field links: class, entry: the class of objects, the slot -/
def rw_fl (o : Nat) : List (Nat × Nat × Nat) := match o with
  | 0 => [(9, 0, 0), (15, 0, 1), (19, 0, 2), (22, 0, 3), (25, 0, 4), (28, 0, 5), (31, 0, 6), (34, 0, 7), (38, 0, 8)]
  | 2 => [(9, 1, 0), (18, 1, 1), (22, 1, 2), (25, 1, 3), (29, 1, 4), (32, 1, 5), (35, 1, 6), (38, 1, 7), (41, 1, 8), (45, 1, 9), (52, 5, 0), (53, 5, 1), (74, 5, 2)]
  | 3 => [(9, 2, 0), (15, 2, 1), (18, 2, 2), (21, 2, 3), (24, 2, 4), (27, 2, 5), (30, 2, 6), (38, 4, 2)]
  | 4 => [(9, 3, 0), (15, 3, 1), (18, 3, 2)]
  | 5 => [(9, 4, 0), (15, 4, 1), (18, 4, 2), (21, 4, 3), (24, 4, 4), (27, 4, 5)]
  | 6 => [(9, 5, 0), (15, 5, 1), (19, 5, 2)]
  | 7 => [(9, 6, 0), (15, 6, 1), (18, 6, 2), (21, 6, 3), (25, 6, 4), (28, 6, 5), (31, 6, 6), (34, 6, 7), (37, 6, 8), (52, 1, 0)]
  | 8 => [(12, 7, 0), (21, 7, 1), (28, 7, 2), (35, 7, 3), (39, 7, 4), (47, 4, 4), (86, 4, 3)]
  | 9 => [(12, 8, 0), (16, 8, 1), (19, 8, 2), (25, 8, 3), (32, 8, 4), (36, 8, 5), (40, 8, 6), (44, 8, 7), (72, 4, 2), (75, 4, 3), (105, 7, 0), (137, 4, 4), (165, 7, 1), (188, 7, 2), (196, 1, 0), (227, 7, 3), (234, 6, 0), (291, 4, 1), (298, 2, 0), (304, 0, 0), (323, 6, 1)]
  | 10 => [(9, 9, 0), (13, 9, 1), (16, 9, 2), (19, 9, 3), (22, 9, 4), (25, 9, 5), (28, 9, 7), (31, 9, 11), (34, 9, 12), (37, 9, 13), (40, 9, 14), (43, 9, 15), (46, 9, 16), (50, 9, 17), (53, 9, 18), (56, 9, 19), (59, 9, 21), (62, 9, 22), (65, 9, 23), (68, 9, 24), (71, 9, 25), (74, 9, 26), (77, 9, 27), (80, 9, 28), (83, 9, 29), (88, 9, 30), (91, 9, 31), (94, 9, 32), (97, 9, 33), (100, 9, 34), (109, 9, 10), (113, 9, 9), (125, 9, 8), (140, 9, 6), (232, 9, 20)]
  | _ => []
def rw_gs (o : Nat) : List (Nat × Nat) := match o with
  | 8 => [(83, 1)]
  | 9 => [(131, 1), (134, 2), (317, 0)]
  | _ => []
def rw_k32 (o : Nat) : List (Nat × Int32) := match o with
  | 5 => [(63, 1103515245)]
  | 10 => [(288, 1103515245)]
  | _ => []
def rw_k64 (o : Nat) : List (Nat × Int64) := match o with
  | 9 => [(140, -4611686018427387904)]
  | 10 => [(103, 4), (136, 5), (138, 255), (143, 97), (145, 122), (147, 48), (149, 57), (160, 99), (205, 2), (207, 6), (209, -1), (211, 50), (213, 100), (218, -4611686018427387904), (238, 3), (289, 20)]
  | _ => []
/-- calls that are taken as one step: 0 max, 1 min, 2 arraycopy -/
def rw_bi (o : Nat) : List (Nat × Nat) := match o with
  | 2 => [(68, 1), (81, 0)]
  | 3 => [(47, 1), (73, 0)]
  | 4 => [(50, 2)]
  | 5 => [(30, 2)]
  | 6 => [(28, 1)]
  | 7 => [(40, 1), (62, 0)]
  | 9 => [(278, 1)]
  | 10 => [(182, 0), (195, 1)]
  | _ => []
/-! what the memory holds: by cell and place, a number; what names what never changes -/
abbrev Mm : Type := Nat → Nat → Int32
/-- the classes and their slots, where the cells lie, the classes of int rows, boolean rows, rows of rows -/
abbrev Gl : Type := va_G × ((Nat → Nat) × (ClassId × (ClassId × ClassId)))
def cv (ad : Nat → Nat) : Value → Value
  | .ref k => .ref (ad k)
  | v => v
theorem cv_cat (ad : Nat → Nat) (v : Value) : (cv ad v).category = v.category := by cases v <;> rfl
def rw_flds (ad : Nat → Nat) (f : Nat → Int32) : Nat → List (Option Nat) → List Value
  | _, [] => []
  | j, some q :: r => .ref (ad q) :: rw_flds ad f (j + 1) r
  | j, none :: r => .int (f j) :: rw_flds ad f (j + 1) r
def rw_ent (G : Gl) (f : Nat → Int32) : Sh → va_E
  | .inl (z, n) => .inl (bif Nat.beq z 0 then G.2.2.1 else G.2.2.2.1, n, .inl f)
  | .inr (.inl (ci, fs)) => .inr (ci, rw_flds G.2.1 f 0 fs)
  | .inr (.inr ids) => .inl (G.2.2.2.2, ids.length, .inr (.inr (.inr (.inr fun j => (ids[j]?).map G.2.1))))
def rw_ws (G : Gl) (σ : Mm) : va_W := shapes.mapIdx fun k sh => (G.2.1 k, rw_ent G (σ k) sh)
def rw_tys (G : Gl) : List (ClassId × FieldType) := [(G.2.2.1, .int), (G.2.2.2.1, .boolean), (G.2.2.2.2, .array .int)]
def Ad (G : Gl) : Nat → Prop := fun q => ∃ k, k < shapes.length ∧ q = G.2.1 k
def rw_inj (G : Gl) : Prop := ∀ i j, i < shapes.length → j < shapes.length → G.2.1 i = G.2.1 j → i = j
theorem rw_at (G : Gl) (σ : Mm) {k : Nat} {sh : Sh} (h : shapes[k]? = some sh) : (rw_ws G σ)[k]? = some (G.2.1 k, rw_ent G (σ k) sh) := by
  unfold rw_ws
  rw [List.getElem?_mapIdx, h]
  rfl
theorem rw_at_inv {G : Gl} {σ : Mm} {k : Nat} {q : Nat × va_E} (h : (rw_ws G σ)[k]? = some q) : ∃ sh, shapes[k]? = some sh ∧ q = (G.2.1 k, rw_ent G (σ k) sh) := by
  unfold rw_ws at h
  rw [List.getElem?_mapIdx] at h
  cases hs : shapes[k]? with
  | none => rw [hs] at h; cases h
  | some sh => rw [hs] at h; exact ⟨sh, rfl, (Option.some.inj h).symm⟩
theorem rw_D {G : Gl} (h : rw_inj G) (σ : Mm) : va_D (Ad G) (rw_ws G σ) := by
  refine ⟨fun i j p q hi hj hpq => ?_, fun k q hk => ?_⟩
  · obtain ⟨a, h1, rfl⟩ := rw_at_inv hi
    obtain ⟨b, h2, rfl⟩ := rw_at_inv hj
    exact h i j (List.getElem?_eq_some_iff.mp h1).1 (List.getElem?_eq_some_iff.mp h2).1 hpq
  · obtain ⟨a, h1, rfl⟩ := rw_at_inv hk
    exact ⟨k, (List.getElem?_eq_some_iff.mp h1).1, rfl⟩
/-- one row of the memory is another -/
def sr (σ : Mm) (k : Nat) (f : Nat → Int32) : Mm := fun k' => if k' = k then f else σ k'
theorem rw_set (G : Gl) (σ : Mm) {k : Nat} {sh : Sh} (h : shapes[k]? = some sh) (f : Nat → Int32) : (rw_ws G σ).set k (G.2.1 k, rw_ent G f sh) = rw_ws G (sr σ k f) := by
  apply List.ext_getElem?
  intro j
  by_cases hj : j = k
  · subst hj
    rw [rw_at G (sr σ j f) h, List.getElem?_set_self (List.getElem?_eq_some_iff.mp (rw_at G σ h)).1]
    simp [sr]
  · rw [List.getElem?_set_ne (Ne.symm hj)]
    unfold rw_ws
    rw [List.getElem?_mapIdx, List.getElem?_mapIdx]
    simp [sr, hj]
/-- the rows that nobody writes -/
def stN (i : Nat) : String := match i with
  | 0 => "OVER"
  | 1 => "RULE_LEAST"
  | _ => "RULE_MOST"
def stL (i : Nat) : List Int32 := match i with
  | 0 => [-1, 0, 0, 2, 1, 1]
  | 1 => [2, 1, 2, -1, 1, 0]
  | _ => [6, 6, 6, 4, 50, 100]
def rw_st (G : Gl) (U : State) (H : Heap) : Prop := ∀ i, i < 3 → va_Z "HandedWorks" (stN i) "[I" (.ref (G.2.1 (900 + i))) (Ad G) U H ∧ va_T .int (G.2.1 (900 + i)) 6 (fun j => .int ((stL i).getD j 0)) (Ad G) U H
/-- the words that every method takes: those of the tables that stay; links between nest mates aside -/
def gt : List Cond := lw_tbl.filter goodWord
def rw_isN : Cond → Bool
  | .methodLinkNest .. => true
  | .fieldLinkNest .. => true
  | _ => false
def nw : List Cond := lw_tbl.filter rw_isN
theorem gt_at (i : Nat) {w : Cond} (h : lw_tbl[i]? = some w) (g : goodWord w = true) : w ∈ gt := List.mem_filter.mpr ⟨List.mem_of_getElem? h, g⟩
theorem nw_at (i : Nat) {w : Cond} (h : lw_tbl[i]? = some w) (g : rw_isN w = true) : w ∈ nw := List.mem_filter.mpr ⟨List.mem_of_getElem? h, g⟩
theorem gt_good {ws : List Cond} (h : ∀ w ∈ ws, w ∈ gt) : GoodIn gt ws := fun w hw => ⟨h w hw, good_of_word (List.mem_filter.mp (h w hw)).2⟩
def rw_nest (U : State) : Prop := ∀ w ∈ nw, va_Nw w U
theorem rw_nest.warm {s U : State} (hW : s.WarmedH U.vm) (h : rw_nest s) : rw_nest U := by
  intro w hw
  have h1 := h w hw
  have h2 := (List.mem_filter.mp hw).2
  cases w <;> first | exact va_Nw.warmM hW h1 | exact va_Nw.warmF hW h1 | (simp [rw_isN] at h2; done)
theorem rw_nest.same {s U : State} (h : s.vm = U.vm) (hn : rw_nest s) : rw_nest U := by
  intro w hw
  have h1 := hn w hw
  have h2 := (List.mem_filter.mp hw).2
  cases w <;> first | exact va_Nw.same rfl h h1 | (simp [rw_isN] at h2; done)
theorem rw_st.kept {G : Gl} {U : State} {H H1 : Heap} (h : rw_st G U H) (hq : ∀ a : Nat, a < H.size → ¬ Ad G a → H1[a]? = H[a]?) : rw_st G U H1 := fun i hi => ⟨(h i hi).1.kept hq, (h i hi).2.kept hq⟩
theorem rw_st.moved {G : Gl} {u U : State} {H : Heap} (hvm : u.vm.Alike U.vm) (h : rw_st G u H) : rw_st G U H := fun i hi => ⟨(h i hi).1.moved hvm, (h i hi).2.moved hvm⟩
/-- a method: its name, its code, its locals, what it returns -/
abbrev Mi : Type := MethodName × (ByteArray × (Nat × Option FieldType))
def rw_w (M : Mi) : List Cond := Cond.code M.1 M.2.1 M.2.2.1 M.2.2.2 :: gt
/-- the room of a method of depth d -/
def rw_rm (d : Nat) : Room := { frames := d + 1, cells := 0, slots := 0, locals := 60 * (d + 1) }
/-- the world at a method's start -/
def Wt (G : Gl) (σ : Mm) (U : State) : Prop := va_P G.1 vwCl (rw_ws G σ) U.heap ∧ (va_K G.1 vwCl (rw_tys G) U ∧ (rw_inj G ∧ (rw_st G U U.heap ∧ rw_nest U)))
def Wb (G : Gl) (σ : Mm) (U : State) : Prop := va_P G.1 vwCl (rw_ws G σ) U.heap
/-- contracts: a method of depth d from the memory σ: what it answers, and the memory behind it -/
def AMi (l : Launch) (G : Gl) (d : Nat) (M : Mi) (as : List Value) (σ : Mm) (Q : Int32 → Mm → Prop) : Prop := Met l M.1 (rw_w M) (rw_rm d) (va_Pc (as.map (cv G.2.1)) (Wt G σ)) (va_Qi Q (Wb G) (Ad G)) 0 0 (Ad G)
def AMl (l : Launch) (G : Gl) (d : Nat) (M : Mi) (as : List Value) (σ : Mm) (Q : Int64 → Mm → Prop) : Prop := Met l M.1 (rw_w M) (rw_rm d) (va_Pc (as.map (cv G.2.1)) (Wt G σ)) (va_Ql Q (Wb G) (Ad G)) 0 0 (Ad G)
def AMv (l : Launch) (G : Gl) (d : Nat) (M : Mi) (as : List Value) (σ : Mm) (Q : Mm → Prop) : Prop := Met l M.1 (rw_w M) (rw_rm d) (va_Pc (as.map (cv G.2.1)) (Wt G σ)) (va_Qv Q (Wb G) (Ad G)) 0 0 (Ad G)
/-- where a method runs -/
abbrev Cf : Type := Program × (Launch × (Env × ((Room × (Nat × Nat)) × (State × (MethodId × (Array Value × (List Frame × (Method × Code))))))))
def WE (E : Cf) (H : Heap) (locs : List Loc) (Q : State → Prop) (g : JFrame) : Prop := match E with
  | (p, l, e, (R, cs, sl), s, m, args, below, meth, c) => W p l e R s m args below meth c H locs cs sl Q g
def Ein (E : Cf) : State := E.2.2.2.2.1
def Emt (E : Cf) : MethodId := E.2.2.2.2.2.1
/-- what holds as long as a method runs: class o, code cc, nL locals, depth d -/
def Cx (E : Cf) (G : Gl) (d o : Nat) (cc : ByteArray) (nL : Nat) (rt : Option FieldType) : Prop := match E with
  | (p, _, _, (R, cs, sl), s, m, args, _, meth, c) => p.tables.exec = Jvm.exec ∧ (c.code = cc ∧ (c.maxLocals = nL ∧ (s.vm.findClass (rw_cn o) = some m.cls ∧ ((∀ w ∈ gt, w.before args s = true) ∧ (va_K G.1 vwCl (rw_tys G) s ∧ (rw_inj G ∧ (rw_st G s s.heap ∧ (rw_nest s ∧ (meth.sig.returnType = rt ∧ (meth.locks = false ∧ (d + 1 ≤ R.frames ∧ (60 * (d + 1) ≤ R.locals ∧ (cs ≤ R.cells ∧ sl ≤ R.slots)))))))))))))
/-- the machine goes on at pc, with these locals, this stack, this memory, to Q -/
def RW (E : Cf) (G : Gl) (d nL : Nat) (Q : State → Prop) (pc : Nat) (lv : List (Nat × Value)) (st : List Value) (σ : Mm) : Prop :=
  ∀ (H : Heap) (locs : List Loc) (ls : Array Slot), va_P G.1 vwCl (rw_ws G σ) H → va_S (Ad G) (Ein E).heap H locs → lv_has ls nL (lv.map fun q => (q.1, cv G.2.1 q.2)) → WE E H locs Q (F0 (Emt E) pc ls (st.map (cv G.2.1)))
