/-! what is told of matches -/
theorem bz_inj {a b : Bool} (h : bz a = bz b) : a = b := by
  cases a <;> cases b <;> first | rfl | exact absurd h (by decide +kernel)
def sB (b : Nat → Bool) (f : Nat → Nat) : Nat → Nat
  | 0 => 0
  | k + 1 => sB b f k + (if b k = true then f k else 0)
theorem sB_le {b : Nat → Bool} {f : Nat → Nat} {C : Nat} : ∀ k, (∀ x, x < k → f x ≤ C) → sB b f k ≤ C * k
  | 0, _ => Nat.le_refl 0
  | k + 1, h => by
    have := sB_le (b := b) k (fun x hx => h x (by omega))
    have := h k (by omega)
    simp only [sB]
    rw [Nat.mul_succ]
    split <;> omega
theorem sB_1 (b : Nat → Bool) (f : Nat → Nat) (k : Nat) : sB b f (k + 1) = sB b f k + (if b k = true then f k else 0) := rfl
theorem cB_1 (b : Nat → Bool) (k : Nat) : cB b (k + 1) = cB b k + (if b k = true then 1 else 0) := rfl
theorem cB_le (b : Nat → Bool) : ∀ k, cB b k ≤ k
  | 0 => Nat.le_refl 0
  | k + 1 => by
    have := cB_le b k
    rw [cB_1]
    split <;> omega
theorem bz_add (n : Nat) (b : Bool) : nI n + bz b = nI (n + (if b = true then 1 else 0)) := by cases b <;> exact nI_add _ _
/-- what is covered by the first x matches -/
def cv2 (f ln : Nat → Nat) : Nat → Nat → Bool
  | 0, _ => false
  | x + 1, i => cv2 f ln x i || (decide (f x ≤ i) && decide (i < f x + ln x))
def r52 (f : Nat → Int32) (S : Nat → Bool) : Nat → Int32 := fun j => if j < 50 then bz (S j) else f j
def iS (S : Nat → Bool) (a t : Nat) : Nat → Bool := fun j => S j || (decide (a ≤ j) && decide (j < t))
theorem iS_0 (S : Nat → Bool) (a : Nat) : iS S a a = S := by
  funext j
  unfold iS
  by_cases h : a ≤ j
  · rw [decide_eq_false (show ¬ j < a by omega), Bool.and_false, Bool.or_false]
  · rw [decide_eq_false h, Bool.false_and, Bool.or_false]
theorem iS_1 (S : Nat → Bool) {a t : Nat} (h : a ≤ t) : iS S a (t + 1) = uN (iS S a t) t true := by
  funext j
  unfold iS uN
  by_cases e : j = t
  · subst e
    rw [if_pos rfl, decide_eq_true h, decide_eq_true (show j < j + 1 by omega), Bool.and_true, Bool.or_true]
  · rw [if_neg e]
    have e2 : decide (j < t + 1) = decide (j < t) := by
      by_cases g : j < t
      · rw [decide_eq_true g, decide_eq_true (show j < t + 1 by omega)]
      · rw [decide_eq_false g, decide_eq_false (show ¬ j < t + 1 by omega)]
    rw [e2]
theorem r52_1 (f : Nat → Int32) (S : Nat → Bool) {i : Nat} (h : i < 50) : upd (r52 f S) i (nI 1) = r52 f (uN S i true) := by
  funext j
  unfold upd r52 uN
  by_cases e : j = i
  · subst e; rw [if_pos rfl, if_pos h, if_pos rfl]; rfl
  · rw [if_neg e, if_neg e]
theorem cB_uN {S : Nat → Bool} {i k : Nat} (h : i < k) : cB (uN S i true) k = cB S k + (if S i = true then 0 else 1) := by
  cases hS : S i with
  | true =>
    rw [if_pos rfl, Nat.add_zero]
    refine cB_congr fun v _ => ?_
    by_cases e : v = i
    · subst e; rw [uN_s, hS]
    · rw [uN_n _ _ e]
  | false =>
    rw [if_neg (by decide)]
    exact cB_one hS (uN_s _ _ _) (fun v hv => (uN_n _ _ hv).symm) h
theorem r52_0 (f : Nat → Int32) : fl f 0 50 (nI 0) = r52 f (fun _ => false) := by
  funext j
  unfold fl r52
  by_cases h : j < 50
  · rw [if_pos ⟨Nat.zero_le _, h⟩, if_pos h]; rfl
  · rw [if_neg (fun z => h z.2), if_neg h]
theorem one_sub (b : Bool) (n : Nat) : nI n + (nI 1 - bz b) = nI (n + (if b = true then 0 else 1)) := by
  cases b
  · rw [show (nI 1 - bz false : Int32) = nI 1 by decide +kernel, nI_add]; rfl
  · rw [show (nI 1 - bz true : Int32) = nI 0 by decide +kernel, nI_add]; rfl
theorem cv2_end {f ln : Nat → Nat} {x j : Nat} (hj : j < 50) : iS (cv2 f ln x) (f x) (min 50 (f x + ln x)) j = cv2 f ln (x + 1) j := by
  show (cv2 f ln x j || _) = (cv2 f ln x j || _)
  congr 2
  by_cases g : j < f x + ln x
  · rw [decide_eq_true g, decide_eq_true (by omega)]
  · rw [decide_eq_false g, decide_eq_false (by omega)]
set_option maxRecDepth 20000 in
set_option maxHeartbeats 4000000 in
theorem c_beginOf (l : Launch) (G : Gl) (σ : Mm) (x : Nat) (hx : x < 840) : AMi l G 1 mX2_beginOf [.ref 39, .int (nI x)] σ (fun r σ' => σ' = σ ∧ r = σ 46 x) := by
  refine rw_inI 2 (by decide +kernel) rfl rfl ?_
  intro E hE hX
  subst hE
  refine rw_go hX [(0, .aload_n 0), (1, .getfield 25), (4, .iload_n 1)] (by decide +kernel) (Ps := []) (pc' := 5) (lv' := [(0, .ref 39), (1, .int (nI x))]) (st' := [.int (nI x), .ref 46]) (σ' := σ) rfl True.intro ?_
  refine rw_callSi hX (as := [.ref 46, .int (nI x)]) (rest := []) (c_pick _ _ _ 46 840 x (by decide +kernel) (by omega) hx) (by decide +kernel) msX9_pick (Or.inr lk2_64) rfl (by decide) (Nat.le_of_ble_eq_true rfl) rfl ?_
  intro r1 σ1 hr
  rw [hr.1, hr.2]
  clear hr σ1 r1
  exact rw_iret hX (by decide +kernel) (⟨rfl, rfl⟩)
set_option maxRecDepth 20000 in
set_option maxHeartbeats 4000000 in
theorem c_lengthOf (l : Launch) (G : Gl) (σ : Mm) (x : Nat) (hx : x < 840) : AMi l G 1 mX2_lengthOf [.ref 39, .int (nI x)] σ (fun r σ' => σ' = σ ∧ r = σ 48 x) := by
  refine rw_inI 2 (by decide +kernel) rfl rfl ?_
  intro E hE hX
  subst hE
  refine rw_go hX [(0, .aload_n 0), (1, .getfield 32), (4, .iload_n 1)] (by decide +kernel) (Ps := []) (pc' := 5) (lv' := [(0, .ref 39), (1, .int (nI x))]) (st' := [.int (nI x), .ref 48]) (σ' := σ) rfl True.intro ?_
  refine rw_callSi hX (as := [.ref 48, .int (nI x)]) (rest := []) (c_pick _ _ _ 48 840 x (by decide +kernel) (by omega) hx) (by decide +kernel) msX9_pick (Or.inr lk2_64) rfl (by decide) (Nat.le_of_ble_eq_true rfl) rfl ?_
  intro r1 σ1 hr
  rw [hr.1, hr.2]
  clear hr σ1 r1
  exact rw_iret hX (by decide +kernel) (⟨rfl, rfl⟩)
set_option maxRecDepth 20000 in
set_option maxHeartbeats 4000000 in
theorem c_isChained (l : Launch) (G : Gl) (σ : Mm) (x : Nat) (hx : x < 840) : AMi l G 0 mX2_isChained [.ref 39, .int (nI x)] σ (fun r σ' => σ' = σ ∧ r = bz (decide (σ 51 x ≠ 0))) := by
  refine rw_inI 2 (by decide +kernel) rfl rfl ?_
  intro E hE hX
  subst hE
  refine rw_go hX [(0, .iload_n 1)] (by decide +kernel) (Ps := []) (pc' := 1) (lv' := [(0, .ref 39), (1, .int (nI x))]) (st' := [.int (nI x)]) (σ' := σ) rfl True.intro ?_
  refine rw_if hX (tgt := 24) (cnd := .lt) (off := 23) (by decide +kernel) (by decide) (fun h1 => ?_) (fun h1 => ?_)
  · exact zn_ltT h1
  · clear h1
    refine rw_go hX [(4, .iload_n 1), (5, .sipush 840)] (by decide +kernel) (Ps := []) (pc' := 8) (lv' := [(0, .ref 39), (1, .int (nI x))]) (st' := [.int (nI 840), .int (nI x)]) (σ' := σ) rfl True.intro ?_
    refine rw_icmp hX (tgt := 24) (cnd := .ge) (off := 16) (by decide +kernel) (by decide) (fun h8 => ?_) (fun h8 => ?_)
    · replace h8 := c2_geT h8
      omega
    · replace h8 := c2_geF h8
      refine rw_go hX [(11, .aload_n 0), (12, .getfield 41), (15, .iload_n 1), (16, .baload)] (by decide +kernel) (Ps := [vp_in (nI x) 840]) (pc' := 17) (lv' := [(0, .ref 39), (1, .int (nI x))]) (st' := [.int (σ 51 (nI x).toNatClampNeg)]) (σ' := σ) rfl (vp_in_nI (by omega) (by omega)) ?_
      rw [show (σ 51 (nI x).toNatClampNeg) = σ 51 x from (by rw [nI_clamp (by omega)])]
      refine rw_if hX (tgt := 24) (cnd := .eq) (off := 7) (by decide +kernel) (by decide) (fun h17 => ?_) (fun h17 => ?_)
      · replace h17 : (σ 51 x = 0) := h17
        refine rw_go hX [(24, .iconst 0)] (by decide +kernel) (Ps := []) (pc' := 25) (lv' := [(0, .ref 39), (1, .int (nI x))]) (st' := [.int (nI 0)]) (σ' := σ) rfl True.intro ?_
        exact rw_zret hX (by decide +kernel) (Or.inl rfl) (⟨rfl, by first | (rw [decide_eq_true (show σ 51 x ≠ 0 from h17)]; rfl) | (rw [decide_eq_false (fun z => z h17)]; rfl)⟩)
      · replace h17 : ¬ (σ 51 x = 0) := h17
        refine rw_go hX [(20, .iconst 1), (21, .goto 4)] (by decide +kernel) (Ps := []) (pc' := 25) (lv' := [(0, .ref 39), (1, .int (nI x))]) (st' := [.int (nI 1)]) (σ' := σ) rfl True.intro ?_
        exact rw_zret hX (by decide +kernel) (Or.inr rfl) (⟨rfl, by first | (rw [decide_eq_true (show σ 51 x ≠ 0 from h17)]; rfl) | (rw [decide_eq_false (fun z => z h17)]; rfl)⟩)
set_option maxRecDepth 20000 in
set_option maxHeartbeats 4000000 in
theorem c_tellMatch0 (l : Launch) (G : Gl) (σ : Mm) (x : Nat) (hx : x < 840) : AMi l G 2 mX2_tellMatch [.ref 39, .int (nI x), .int (nI 0)] σ (fun r σ' => σ' = σ ∧ r = σ 46 x) := by
  refine rw_inI 2 (by decide +kernel) rfl rfl ?_
  intro E hE hX
  subst hE
  refine rw_go hX [(0, .iload_n 2)] (by decide +kernel) (Ps := []) (pc' := 1) (lv' := [(0, .ref 39), (1, .int (nI x)), (2, .int (nI 0))]) (st' := [.int (nI 0)]) (σ' := σ) rfl True.intro ?_
  · skip
    refine rw_tabIn hX (tgt := 28) (df := 51) (lo := 0) (hi := 2) (offs := #[27, 36, 45]) (len := 27) (off := 27) (by decide +kernel) (by decide +kernel) (by decide +kernel) (by decide +kernel) (by decide) ?_
    refine rw_go hX [(28, .aload_n 0), (29, .getfield 25), (32, .iload_n 1)] (by decide +kernel) (Ps := []) (pc' := 33) (lv' := [(0, .ref 39), (1, .int (nI x)), (2, .int (nI 0))]) (st' := [.int (nI x), .ref 46]) (σ' := σ) rfl True.intro ?_
    refine rw_callSi hX (as := [.ref 46, .int (nI x)]) (rest := []) (c_pick _ _ _ 46 840 x (by decide +kernel) (by omega) hx) (by decide +kernel) msX9_pick (Or.inr lk2_64) rfl (by decide) (Nat.le_of_ble_eq_true rfl) rfl ?_
    intro r1 σ1 hr
    rw [hr.1, hr.2]
    clear hr σ1 r1
    exact rw_iret hX (by decide +kernel) (⟨rfl, rfl⟩)
set_option maxRecDepth 20000 in
set_option maxHeartbeats 4000000 in
theorem c_tellMatch1 (l : Launch) (G : Gl) (σ : Mm) (x : Nat) (hx : x < 840) : AMi l G 2 mX2_tellMatch [.ref 39, .int (nI x), .int (nI 1)] σ (fun r σ' => σ' = σ ∧ r = σ 47 x) := by
  refine rw_inI 2 (by decide +kernel) rfl rfl ?_
  intro E hE hX
  subst hE
  refine rw_go hX [(0, .iload_n 2)] (by decide +kernel) (Ps := []) (pc' := 1) (lv' := [(0, .ref 39), (1, .int (nI x)), (2, .int (nI 1))]) (st' := [.int (nI 1)]) (σ' := σ) rfl True.intro ?_
  · skip
    refine rw_tabIn hX (tgt := 37) (df := 51) (lo := 0) (hi := 2) (offs := #[27, 36, 45]) (len := 27) (off := 36) (by decide +kernel) (by decide +kernel) (by decide +kernel) (by decide +kernel) (by decide) ?_
    refine rw_go hX [(37, .aload_n 0), (38, .getfield 29), (41, .iload_n 1)] (by decide +kernel) (Ps := []) (pc' := 42) (lv' := [(0, .ref 39), (1, .int (nI x)), (2, .int (nI 1))]) (st' := [.int (nI x), .ref 47]) (σ' := σ) rfl True.intro ?_
    refine rw_callSi hX (as := [.ref 47, .int (nI x)]) (rest := []) (c_pick _ _ _ 47 840 x (by decide +kernel) (by omega) hx) (by decide +kernel) msX9_pick (Or.inr lk2_64) rfl (by decide) (Nat.le_of_ble_eq_true rfl) rfl ?_
    intro r1 σ1 hr
    rw [hr.1, hr.2]
    clear hr σ1 r1
    exact rw_iret hX (by decide +kernel) (⟨rfl, rfl⟩)
set_option maxRecDepth 20000 in
set_option maxHeartbeats 4000000 in
theorem c_tellMatch2 (l : Launch) (G : Gl) (σ : Mm) (x : Nat) (hx : x < 840) : AMi l G 2 mX2_tellMatch [.ref 39, .int (nI x), .int (nI 2)] σ (fun r σ' => σ' = σ ∧ r = σ 48 x) := by
  refine rw_inI 2 (by decide +kernel) rfl rfl ?_
  intro E hE hX
  subst hE
  refine rw_go hX [(0, .iload_n 2)] (by decide +kernel) (Ps := []) (pc' := 1) (lv' := [(0, .ref 39), (1, .int (nI x)), (2, .int (nI 2))]) (st' := [.int (nI 2)]) (σ' := σ) rfl True.intro ?_
  · skip
    refine rw_tabIn hX (tgt := 46) (df := 51) (lo := 0) (hi := 2) (offs := #[27, 36, 45]) (len := 27) (off := 45) (by decide +kernel) (by decide +kernel) (by decide +kernel) (by decide +kernel) (by decide) ?_
    refine rw_go hX [(46, .aload_n 0), (47, .iload_n 1)] (by decide +kernel) (Ps := []) (pc' := 48) (lv' := [(0, .ref 39), (1, .int (nI x)), (2, .int (nI 2))]) (st' := [.int (nI x), .ref 39]) (σ' := σ) rfl True.intro ?_
    refine rw_callVi hX (as := [.int (nI x)]) (rest := []) (c_lengthOf _ _ _ x hx) (by decide +kernel) mvX2_lengthOf lk2_84 (ci := 1) rfl rfl rfl (by decide) (Nat.le_of_ble_eq_true rfl) rfl ?_
    intro r1 σ1 hr
    rw [hr.1, hr.2]
    clear hr σ1 r1
    exact rw_iret hX (by decide +kernel) (⟨rfl, rfl⟩)
set_option maxRecDepth 20000 in
set_option maxHeartbeats 4000000 in
theorem c_tellMatch3 (l : Launch) (G : Gl) (σ : Mm) (x : Nat) (hx : x < 840) : AMi l G 2 mX2_tellMatch [.ref 39, .int (nI x), .int (nI 3)] σ (fun r σ' => σ' = σ ∧ r = bz (decide (σ 51 x ≠ 0))) := by
  refine rw_inI 2 (by decide +kernel) rfl rfl ?_
  intro E hE hX
  subst hE
  refine rw_go hX [(0, .iload_n 2)] (by decide +kernel) (Ps := []) (pc' := 1) (lv' := [(0, .ref 39), (1, .int (nI x)), (2, .int (nI 3))]) (st' := [.int (nI 3)]) (σ' := σ) rfl True.intro ?_
  · skip
    refine rw_tabOut hX (tgt := 52) (df := 51) (lo := 0) (hi := 2) (offs := #[27, 36, 45]) (len := 27) (by decide +kernel) (Or.inr (by decide +kernel)) (by decide) ?_
    refine rw_go hX [(52, .aload_n 0), (53, .iload_n 1)] (by decide +kernel) (Ps := []) (pc' := 54) (lv' := [(0, .ref 39), (1, .int (nI x)), (2, .int (nI 3))]) (st' := [.int (nI x), .ref 39]) (σ' := σ) rfl True.intro ?_
    refine rw_callVi hX (as := [.int (nI x)]) (rest := []) (c_isChained _ _ _ x hx) (by decide +kernel) mvX2_isChained lk2_87 (ci := 1) rfl rfl rfl (by decide) (Nat.le_of_ble_eq_true rfl) rfl ?_
    intro r1 σ1 hr
    rw [hr.1, hr.2]
    clear hr σ1 r1
    refine rw_callSi hX (as := [.int (bz (decide (σ 51 x ≠ 0)))]) (rest := []) (c_X9_asNumber _ _ _ (decide (σ 51 x ≠ 0))) (by decide +kernel) msX9_asNumber (Or.inr lk2_91) rfl (by decide) (Nat.le_of_ble_eq_true rfl) rfl ?_
    intro r1 σ1 hr
    rw [hr.1, hr.2]
    clear hr σ1 r1
    exact rw_iret hX (by decide +kernel) (⟨rfl, rfl⟩)
set_option maxRecDepth 20000 in
set_option maxHeartbeats 4000000 in
theorem c_chainedMatches (l : Launch) (G : Gl) (σ : Mm) (m : Nat) (hm : σ 39 0 = nI m) (hm8 : m ≤ 840) : AMi l G 1 mX2_chainedMatches [.ref 39] σ (fun r σ' => σ' = σ ∧ r = nI (cB (fun x => decide (σ 51 x ≠ 0)) m)) := by
  refine rw_inI 2 (by decide +kernel) rfl rfl ?_
  intro E hE hX
  subst hE
  refine rw_go hX [(0, .iconst 0), (1, .istore_n 1), (2, .iconst 0), (3, .istore_n 2)] (by decide +kernel) (Ps := []) (pc' := 4) (lv' := [(0, .ref 39), (1, .int (nI 0)), (2, .int (nI 0))]) (st' := []) (σ' := σ) rfl True.intro ?_
  have L4 : ∀ (μ4 : Nat) (x : Nat), μ4 = m - x → (x ≤ m) → RW E G 1 3 (QI E G (fun r σ' => σ' = σ ∧ r = nI (cB (fun x => decide (σ 51 x ≠ 0)) m))) 4 [(0, .ref 39), (1, .int (nI (cB (fun x => decide (σ 51 x ≠ 0)) x))), (2, .int (nI x))] [] σ := by
    intro μ4
    induction μ4 using Nat.strongRecOn with
    | ind μ4 ih4 =>
      intro x hμ4 hx
      refine rw_go hX [(4, .iload_n 2), (5, .aload_n 0), (6, .getfield 9)] (by decide +kernel) (Ps := []) (pc' := 9) (lv' := [(0, .ref 39), (1, .int (nI (cB (fun x => decide (σ 51 x ≠ 0)) x))), (2, .int (nI x))]) (st' := [.int (σ 39 0), .int (nI x)]) (σ' := σ) rfl True.intro ?_
      rw [show (σ 39 0) = nI m from (by rw [hm])]
      refine rw_icmp hX (tgt := 29) (cnd := .ge) (off := 20) (by decide +kernel) (by decide) (fun h9 => ?_) (fun h9 => ?_)
      · replace h9 := c2_geT h9
        have e : x = m := by omega
        refine rw_go hX [(29, .iload_n 1)] (by decide +kernel) (Ps := []) (pc' := 30) (lv' := [(0, .ref 39), (1, .int (nI (cB (fun x => decide (σ 51 x ≠ 0)) x))), (2, .int (nI x))]) (st' := [.int (nI (cB (fun x => decide (σ 51 x ≠ 0)) x))]) (σ' := σ) rfl True.intro ?_
        exact rw_iret hX (by decide +kernel) (⟨rfl, by rw [e]⟩)
      · replace h9 := c2_geF h9
        refine rw_go hX [(12, .iload_n 1), (13, .aload_n 0), (14, .iload_n 2)] (by decide +kernel) (Ps := []) (pc' := 15) (lv' := [(0, .ref 39), (1, .int (nI (cB (fun x => decide (σ 51 x ≠ 0)) x))), (2, .int (nI x))]) (st' := [.int (nI x), .ref 39, .int (nI (cB (fun x => decide (σ 51 x ≠ 0)) x))]) (σ' := σ) rfl True.intro ?_
        refine rw_callVi hX (as := [.int (nI x)]) (rest := [.int (nI (cB (fun x => decide (σ 51 x ≠ 0)) x))]) (c_isChained _ _ _ x (by omega)) (by decide +kernel) mvX2_isChained lk2_87 (ci := 1) rfl rfl rfl (by decide) (Nat.le_of_ble_eq_true rfl) rfl ?_
        intro r1 σ1 hr
        rw [hr.1, hr.2]
        clear hr σ1 r1
        refine rw_callSi hX (as := [.int (bz (decide (σ 51 x ≠ 0)))]) (rest := [.int (nI (cB (fun x => decide (σ 51 x ≠ 0)) x))]) (c_X9_asNumber _ _ _ (decide (σ 51 x ≠ 0))) (by decide +kernel) msX9_asNumber (Or.inr lk2_91) rfl (by decide) (Nat.le_of_ble_eq_true rfl) rfl ?_
        intro r1 σ1 hr
        rw [hr.1, hr.2]
        clear hr σ1 r1
        refine rw_go hX [(21, .iadd), (22, .istore_n 1), (23, .iinc 2 1), (26, .goto (-22))] (by decide +kernel) (Ps := []) (pc' := 4) (lv' := [(0, .ref 39), (1, .int (nI (cB (fun x => decide (σ 51 x ≠ 0)) x) + bz (decide (σ 51 x ≠ 0)))), (2, .int (nI x + nI 1))]) (st' := []) (σ' := σ) rfl True.intro ?_
        refine rw_lsub (ks := [0, 1, 2]) (lv' := [(0, .ref 39), (1, .int (nI (cB (fun x => decide (σ 51 x ≠ 0)) x) + bz (decide (σ 51 x ≠ 0)))), (2, .int (nI x + nI 1))]) rfl ?_
        have q := ih4 (m - (x + 1)) (by omega) (x + 1) rfl (by omega)
        rw [cB_1] at q
        rw [bz_add, nI_add]
        exact q
  refine rw_lsub (ks := [0, 1, 2]) (lv' := [(0, .ref 39), (1, .int (nI 0)), (2, .int (nI 0))]) rfl ?_
  exact L4 m 0 rfl (by omega)
set_option maxRecDepth 20000 in
set_option maxHeartbeats 4000000 in
theorem c_lettersOf (l : Launch) (G : Gl) (σ : Mm) (m : Nat) (ln : Nat → Nat) (yes : Bool) (hm : σ 39 0 = nI m) (hm8 : m ≤ 840) (hln : ∀ x, x < m → σ 48 x = nI (ln x) ∧ ln x ≤ 50) : AMi l G 2 mX2_lettersOf [.ref 39, .int (bz yes)] σ (fun r σ' => σ' = σ ∧ r = nI (sB (fun x => decide (decide (σ 51 x ≠ 0) = yes)) ln m)) := by
  refine rw_inI 2 (by decide +kernel) rfl rfl ?_
  intro E hE hX
  subst hE
  refine rw_go hX [(0, .iconst 0), (1, .istore_n 2), (2, .iconst 0), (3, .istore_n 3)] (by decide +kernel) (Ps := []) (pc' := 4) (lv' := [(0, .ref 39), (1, .int (bz yes)), (2, .int (nI 0)), (3, .int (nI 0))]) (st' := []) (σ' := σ) rfl True.intro ?_
  have L4 : ∀ (μ4 : Nat) (x : Nat), μ4 = m - x → (x ≤ m) → RW E G 2 4 (QI E G (fun r σ' => σ' = σ ∧ r = nI (sB (fun x => decide (decide (σ 51 x ≠ 0) = yes)) ln m))) 4 [(0, .ref 39), (1, .int (bz yes)), (2, .int (nI (sB (fun x => decide (decide (σ 51 x ≠ 0) = yes)) ln x))), (3, .int (nI x))] [] σ := by
    intro μ4
    induction μ4 using Nat.strongRecOn with
    | ind μ4 ih4 =>
      intro x hμ4 hx
      refine rw_go hX [(4, .iload_n 3), (5, .aload_n 0), (6, .getfield 9)] (by decide +kernel) (Ps := []) (pc' := 9) (lv' := [(0, .ref 39), (1, .int (bz yes)), (2, .int (nI (sB (fun x => decide (decide (σ 51 x ≠ 0) = yes)) ln x))), (3, .int (nI x))]) (st' := [.int (σ 39 0), .int (nI x)]) (σ' := σ) rfl True.intro ?_
      rw [show (σ 39 0) = nI m from (by rw [hm])]
      refine rw_icmp hX (tgt := 35) (cnd := .ge) (off := 26) (by decide +kernel) (by decide) (fun h9 => ?_) (fun h9 => ?_)
      · replace h9 := c2_geT h9
        have e : x = m := by omega
        refine rw_go hX [(35, .iload_n 2)] (by decide +kernel) (Ps := []) (pc' := 36) (lv' := [(0, .ref 39), (1, .int (bz yes)), (2, .int (nI (sB (fun x => decide (decide (σ 51 x ≠ 0) = yes)) ln x))), (3, .int (nI x))]) (st' := [.int (nI (sB (fun x => decide (decide (σ 51 x ≠ 0) = yes)) ln x))]) (σ' := σ) rfl True.intro ?_
        exact rw_iret hX (by decide +kernel) (⟨rfl, by rw [e]⟩)
      · replace h9 := c2_geF h9
        refine rw_go hX [(12, .aload_n 0), (13, .iload_n 3)] (by decide +kernel) (Ps := []) (pc' := 14) (lv' := [(0, .ref 39), (1, .int (bz yes)), (2, .int (nI (sB (fun x => decide (decide (σ 51 x ≠ 0) = yes)) ln x))), (3, .int (nI x))]) (st' := [.int (nI x), .ref 39]) (σ' := σ) rfl True.intro ?_
        refine rw_callVi hX (as := [.int (nI x)]) (rest := []) (c_isChained _ _ _ x (by omega)) (by decide +kernel) mvX2_isChained lk2_87 (ci := 1) rfl rfl rfl (by decide) (Nat.le_of_ble_eq_true rfl) rfl ?_
        intro r1 σ1 hr
        rw [hr.1, hr.2]
        clear hr σ1 r1
        refine rw_go hX [(17, .iload_n 1)] (by decide +kernel) (Ps := []) (pc' := 18) (lv' := [(0, .ref 39), (1, .int (bz yes)), (2, .int (nI (sB (fun x => decide (decide (σ 51 x ≠ 0) = yes)) ln x))), (3, .int (nI x))]) (st' := [.int (bz yes), .int (bz (decide (σ 51 x ≠ 0)))]) (σ' := σ) rfl True.intro ?_
        refine rw_icmp hX (tgt := 29) (cnd := .ne) (off := 11) (by decide +kernel) (by decide) (fun h18 => ?_) (fun h18 => ?_)
        · replace h18 : (bz (decide (σ 51 x ≠ 0)) ≠ bz yes) := h18
          refine rw_go hX [(29, .iinc 3 1), (32, .goto (-28))] (by decide +kernel) (Ps := []) (pc' := 4) (lv' := [(0, .ref 39), (1, .int (bz yes)), (2, .int (nI (sB (fun x => decide (decide (σ 51 x ≠ 0) = yes)) ln x))), (3, .int (nI x + nI 1))]) (st' := []) (σ' := σ) rfl True.intro ?_
          refine rw_lsub (ks := [0, 1, 2, 3]) (lv' := [(0, .ref 39), (1, .int (bz yes)), (2, .int (nI (sB (fun x => decide (decide (σ 51 x ≠ 0) = yes)) ln x))), (3, .int (nI x + nI 1))]) rfl ?_
          have q := ih4 (m - (x + 1)) (by omega) (x + 1) rfl (by omega)
          rw [sB_1, if_neg (fun z => h18 (by rw [of_decide_eq_true z])), Nat.add_zero] at q
          rw [nI_add]
          exact q
        · replace h18 : ¬ (bz (decide (σ 51 x ≠ 0)) ≠ bz yes) := h18
          refine rw_go hX [(21, .iload_n 2), (22, .aload_n 0), (23, .iload_n 3)] (by decide +kernel) (Ps := []) (pc' := 24) (lv' := [(0, .ref 39), (1, .int (bz yes)), (2, .int (nI (sB (fun x => decide (decide (σ 51 x ≠ 0) = yes)) ln x))), (3, .int (nI x))]) (st' := [.int (nI x), .ref 39, .int (nI (sB (fun x => decide (decide (σ 51 x ≠ 0) = yes)) ln x))]) (σ' := σ) rfl True.intro ?_
          refine rw_callVi hX (as := [.int (nI x)]) (rest := [.int (nI (sB (fun x => decide (decide (σ 51 x ≠ 0) = yes)) ln x))]) (c_lengthOf _ _ _ x (by omega)) (by decide +kernel) mvX2_lengthOf lk2_84 (ci := 1) rfl rfl rfl (by decide) (Nat.le_of_ble_eq_true rfl) rfl ?_
          intro r1 σ1 hr
          rw [hr.1, show r1 = nI (ln x) from hr.2.trans (hln x h9).1]
          clear hr σ1 r1
          refine rw_go hX [(27, .iadd), (28, .istore_n 2), (29, .iinc 3 1), (32, .goto (-28))] (by decide +kernel) (Ps := []) (pc' := 4) (lv' := [(0, .ref 39), (1, .int (bz yes)), (2, .int (nI (sB (fun x => decide (decide (σ 51 x ≠ 0) = yes)) ln x) + nI (ln x))), (3, .int (nI x + nI 1))]) (st' := []) (σ' := σ) rfl True.intro ?_
          refine rw_lsub (ks := [0, 1, 2, 3]) (lv' := [(0, .ref 39), (1, .int (bz yes)), (2, .int (nI (sB (fun x => decide (decide (σ 51 x ≠ 0) = yes)) ln x) + nI (ln x))), (3, .int (nI x + nI 1))]) rfl ?_
          have q := ih4 (m - (x + 1)) (by omega) (x + 1) rfl (by omega)
          rw [sB_1, if_pos (decide_eq_true (bz_inj (Classical.not_not.mp h18)))] at q
          rw [nI_add, nI_add]
          exact q
  refine rw_lsub (ks := [0, 1, 2, 3]) (lv' := [(0, .ref 39), (1, .int (bz yes)), (2, .int (nI 0)), (3, .int (nI 0))]) rfl ?_
  exact L4 m 0 rfl (by omega)
set_option maxRecDepth 20000 in
set_option maxHeartbeats 4000000 in
theorem c_lettersIn (l : Launch) (G : Gl) (σ : Mm) (m k : Nat) (f ln : Nat → Nat) (hk : shapes[k]? = some (.inl (0, 840))) (hk5 : k ≠ 52) (hm : σ 39 0 = nI m) (hm8 : m ≤ 840) (hf : ∀ x, x < m → σ k x = nI (f x) ∧ f x ≤ 50) (hln : ∀ x, x < m → σ 48 x = nI (ln x) ∧ ln x ≤ 50) : AMi l G 2 mX2_lettersIn [.ref 39, .ref k] σ (fun r σ' => σ' = sr σ 52 (r52 (σ 52) (cv2 f ln m)) ∧ r = nI (cB (cv2 f ln m) 50)) := by
  refine rw_inI 2 (by decide +kernel) rfl rfl ?_
  intro E hE hX
  subst hE
  refine rw_go hX [(0, .aload_n 0), (1, .getfield 45), (4, .iconst 0)] (by decide +kernel) (Ps := []) (pc' := 5) (lv' := [(0, .ref 39), (1, .ref k)]) (st' := [.int (nI 0), .ref 52]) (σ' := σ) rfl True.intro ?_
  refine rw_callSv hX (as := [.ref 52, .int (nI 0)]) (rest := []) (c_J7_fill_53178 _ _ _ 52 50 (nI 0) (by decide +kernel) (by omega)) (by decide +kernel) msJ7_fill_53178 (Or.inl lk2_99) rfl (by decide) (Nat.le_of_ble_eq_true rfl) rfl ?_
  intro σ1 hr
  rw [hr]
  clear hr σ1
  refine rw_go hX [(8, .iconst 0), (9, .istore_n 2), (10, .iconst 0), (11, .istore_n 3)] (by decide +kernel) (Ps := []) (pc' := 12) (lv' := [(0, .ref 39), (1, .ref k), (2, .int (nI 0)), (3, .int (nI 0))]) (st' := []) (σ' := sr σ 52 (fl (σ 52) 0 50 (nI 0))) rfl True.intro ?_
  have L12 : ∀ (μ12 : Nat) (x : Nat), μ12 = m - x → (x ≤ m) → RW E G 2 7 (QI E G (fun r σ' => σ' = sr σ 52 (r52 (σ 52) (cv2 f ln m)) ∧ r = nI (cB (cv2 f ln m) 50))) 12 [(0, .ref 39), (1, .ref k), (2, .int (nI (cB (cv2 f ln x) 50))), (3, .int (nI x))] [] (sr σ 52 (r52 (σ 52) (cv2 f ln x))) := by
    intro μ12
    induction μ12 using Nat.strongRecOn with
    | ind μ12 ih12 =>
      intro x hμ12 hx
      refine rw_go hX [(12, .iload_n 3), (13, .aload_n 0), (14, .getfield 9)] (by decide +kernel) (Ps := []) (pc' := 17) (lv' := [(0, .ref 39), (1, .ref k), (2, .int (nI (cB (cv2 f ln x) 50))), (3, .int (nI x))]) (st' := [.int ((sr σ 52 (r52 (σ 52) (cv2 f ln x))) 39 0), .int (nI x)]) (σ' := sr σ 52 (r52 (σ 52) (cv2 f ln x))) rfl True.intro ?_
      rw [show ((sr σ 52 (r52 (σ 52) (cv2 f ln x))) 39 0) = nI m from (by rw [sr_n _ _ (by decide), hm])]
      refine rw_icmp hX (tgt := 89) (cnd := .ge) (off := 72) (by decide +kernel) (by decide) (fun h17 => ?_) (fun h17 => ?_)
      · replace h17 := c2_geT h17
        have e : x = m := by omega
        refine rw_go hX [(89, .iload_n 2)] (by decide +kernel) (Ps := []) (pc' := 90) (lv' := [(0, .ref 39), (1, .ref k), (2, .int (nI (cB (cv2 f ln x) 50))), (3, .int (nI x))]) (st' := [.int (nI (cB (cv2 f ln x) 50))]) (σ' := sr σ 52 (r52 (σ 52) (cv2 f ln x))) rfl True.intro ?_
        exact rw_iret hX (by decide +kernel) (⟨by rw [e], by rw [e]⟩)
      · replace h17 := c2_geF h17
        have hfx := hf x h17
        have hlx := hln x h17
        have e3 : max (f x) (min 50 (f x + ln x)) = min 50 (f x + ln x) := by omega
        refine rw_go hX [(20, .iconst 0), (21, .aload_n 1), (22, .iload_n 3)] (by decide +kernel) (Ps := []) (pc' := 23) (lv' := [(0, .ref 39), (1, .ref k), (2, .int (nI (cB (cv2 f ln x) 50))), (3, .int (nI x))]) (st' := [.int (nI x), .ref k, .int (nI 0)]) (σ' := sr σ 52 (r52 (σ 52) (cv2 f ln x))) rfl True.intro ?_
        refine rw_callSi hX (as := [.ref k, .int (nI x)]) (rest := [.int (nI 0)]) (c_pick _ _ _ k 840 x hk (by omega) (by omega)) (by decide +kernel) msX9_pick (Or.inr lk2_64) rfl (by decide) (Nat.le_of_ble_eq_true rfl) rfl ?_
        intro r1 σ1 hr
        rw [hr.1, show r1 = nI (f x) from hr.2.trans (by rw [sr_n _ _ hk5]; exact hfx.1)]
        clear hr σ1 r1
        refine rw_max hX (by decide +kernel) lk2_81 (Nat.le_of_ble_eq_true rfl) ?_
        rw [show (if nI 0 < nI (f x) then nI (f x) else nI 0) = nI (f x) from mx_r (Nat.zero_le _) (by omega)]
        refine rw_go hX [(29, .istore 4), (31, .bipush 50), (33, .iload 4), (35, .aload_n 0), (36, .iload_n 3)] (by decide +kernel) (Ps := []) (pc' := 37) (lv' := [(0, .ref 39), (1, .ref k), (2, .int (nI (cB (cv2 f ln x) 50))), (3, .int (nI x)), (4, .int (nI (f x)))]) (st' := [.int (nI x), .ref 39, .int (nI (f x)), .int (nI 50)]) (σ' := sr σ 52 (r52 (σ 52) (cv2 f ln x))) rfl True.intro ?_
        refine rw_callVi hX (as := [.int (nI x)]) (rest := [.int (nI (f x)), .int (nI 50)]) (c_lengthOf _ _ _ x (by omega)) (by decide +kernel) mvX2_lengthOf lk2_84 (ci := 1) rfl rfl rfl (by decide) (Nat.le_of_ble_eq_true rfl) rfl ?_
        intro r1 σ1 hr
        rw [hr.1, show r1 = nI (ln x) from hr.2.trans (by rw [sr_n _ _ (by decide)]; exact hlx.1)]
        clear hr σ1 r1
        refine rw_go hX [(40, .iadd)] (by decide +kernel) (Ps := []) (pc' := 41) (lv' := [(0, .ref 39), (1, .ref k), (2, .int (nI (cB (cv2 f ln x) 50))), (3, .int (nI x)), (4, .int (nI (f x)))]) (st' := [.int (nI (f x) + nI (ln x)), .int (nI 50)]) (σ' := sr σ 52 (r52 (σ 52) (cv2 f ln x))) rfl True.intro ?_
        rw [show (nI (f x) + nI (ln x)) = nI (f x + ln x) from nI_add _ _]
        refine rw_min hX (by decide +kernel) lk2_68 (Nat.le_of_ble_eq_true rfl) ?_
        rw [show (if nI (f x + ln x) < nI 50 then nI (f x + ln x) else nI 50) = nI (min 50 (f x + ln x)) from mn_min (by omega) (by omega)]
        refine rw_go hX [(44, .istore 5), (46, .iload 4), (48, .istore 6)] (by decide +kernel) (Ps := []) (pc' := 50) (lv' := [(0, .ref 39), (1, .ref k), (2, .int (nI (cB (cv2 f ln x) 50))), (3, .int (nI x)), (4, .int (nI (f x))), (5, .int (nI (min 50 (f x + ln x)))), (6, .int (nI (f x)))]) (st' := []) (σ' := sr σ 52 (r52 (σ 52) (cv2 f ln x))) rfl True.intro ?_
        have L50 : ∀ (μ50 : Nat) (i : Nat), μ50 = 50 - i → (f x ≤ i) → (i ≤ max (f x) (min 50 (f x + ln x))) → RW E G 2 7 (QI E G (fun r σ' => σ' = sr σ 52 (r52 (σ 52) (cv2 f ln m)) ∧ r = nI (cB (cv2 f ln m) 50))) 50 [(0, .ref 39), (1, .ref k), (2, .int (nI (cB (iS (cv2 f ln x) (f x) i) 50))), (3, .int (nI x)), (5, .int (nI (min 50 (f x + ln x)))), (6, .int (nI i))] [] (sr σ 52 (r52 (σ 52) (iS (cv2 f ln x) (f x) i))) := by
          intro μ50
          induction μ50 using Nat.strongRecOn with
          | ind μ50 ih50 =>
            intro i hμ50 hi1 hi2
            refine rw_go hX [(50, .iload 6), (52, .iload 5)] (by decide +kernel) (Ps := []) (pc' := 54) (lv' := [(0, .ref 39), (1, .ref k), (2, .int (nI (cB (iS (cv2 f ln x) (f x) i) 50))), (3, .int (nI x)), (5, .int (nI (min 50 (f x + ln x)))), (6, .int (nI i))]) (st' := [.int (nI (min 50 (f x + ln x))), .int (nI i)]) (σ' := sr σ 52 (r52 (σ 52) (iS (cv2 f ln x) (f x) i))) rfl True.intro ?_
            refine rw_icmp hX (tgt := 83) (cnd := .ge) (off := 29) (by decide +kernel) (by decide) (fun h54 => ?_) (fun h54 => ?_)
            · replace h54 := c2_geT h54
              have e2 : i = max (f x) (min 50 (f x + ln x)) := by omega
              refine rw_go hX [(83, .iinc 3 1), (86, .goto (-74))] (by decide +kernel) (Ps := []) (pc' := 12) (lv' := [(0, .ref 39), (1, .ref k), (2, .int (nI (cB (iS (cv2 f ln x) (f x) i) 50))), (3, .int (nI x + nI 1)), (5, .int (nI (min 50 (f x + ln x)))), (6, .int (nI i))]) (st' := []) (σ' := sr σ 52 (r52 (σ 52) (iS (cv2 f ln x) (f x) i))) rfl True.intro ?_
              refine rw_lsub (ks := [0, 1, 2, 3]) (lv' := [(0, .ref 39), (1, .ref k), (2, .int (nI (cB (iS (cv2 f ln x) (f x) i) 50))), (3, .int (nI x + nI 1))]) rfl ?_
              have q := ih12 (m - (x + 1)) (by omega) (x + 1) rfl (by omega)
              rw [nI_add]
              rw [e2, show r52 (σ 52) (iS (cv2 f ln x) (f x) (max (f x) (min 50 (f x + ln x)))) = r52 (σ 52) (cv2 f ln (x + 1)) from by
                funext j
                unfold r52
                by_cases g : j < 50
                · rw [if_pos g, if_pos g, e3, cv2_end g]
                · rw [if_neg g, if_neg g], e3, cB_congr (b := iS (cv2 f ln x) (f x) (min 50 (f x + ln x))) (b' := cv2 f ln (x + 1)) (fun v hv => cv2_end hv)]
              exact q
            · replace h54 := c2_geF h54
              refine rw_go hX [(57, .iload_n 2), (58, .iconst 1), (59, .aload_n 0), (60, .getfield 45), (63, .iload 6), (65, .iaload)] (by decide +kernel) (Ps := [vp_in (nI i) 50]) (pc' := 66) (lv' := [(0, .ref 39), (1, .ref k), (2, .int (nI (cB (iS (cv2 f ln x) (f x) i) 50))), (3, .int (nI x)), (5, .int (nI (min 50 (f x + ln x)))), (6, .int (nI i))]) (st' := [.int ((sr σ 52 (r52 (σ 52) (iS (cv2 f ln x) (f x) i))) 52 (nI i).toNatClampNeg), .int (nI 1), .int (nI (cB (iS (cv2 f ln x) (f x) i) 50))]) (σ' := sr σ 52 (r52 (σ 52) (iS (cv2 f ln x) (f x) i))) rfl (vp_in_nI (by omega) (by omega)) ?_
              rw [show ((sr σ 52 (r52 (σ 52) (iS (cv2 f ln x) (f x) i))) 52 (nI i).toNatClampNeg) = bz (iS (cv2 f ln x) (f x) i i) from (by rw [nI_clamp (by omega), sr_s, show r52 (σ 52) (iS (cv2 f ln x) (f x) i) i = bz (iS (cv2 f ln x) (f x) i i) from if_pos (by omega)])]
              refine rw_go hX [(66, .isub), (67, .iadd), (68, .istore_n 2), (69, .aload_n 0), (70, .getfield 45), (73, .iload 6), (75, .iconst 1), (76, .iastore)] (by decide +kernel) (Ps := [vp_in (nI i) 50]) (pc' := 77) (lv' := [(0, .ref 39), (1, .ref k), (2, .int (nI (cB (iS (cv2 f ln x) (f x) i) 50) + (nI 1 - bz (iS (cv2 f ln x) (f x) i i)))), (3, .int (nI x)), (5, .int (nI (min 50 (f x + ln x)))), (6, .int (nI i))]) (st' := []) (σ' := sw (sr σ 52 (r52 (σ 52) (iS (cv2 f ln x) (f x) i))) 52 (nI i).toNatClampNeg (nI 1)) rfl (vp_in_nI (by omega) (by omega)) ?_
              rw [show (sw (sr σ 52 (r52 (σ 52) (iS (cv2 f ln x) (f x) i))) 52 (nI i).toNatClampNeg (nI 1)) = sw (sr σ 52 (r52 (σ 52) (iS (cv2 f ln x) (f x) i))) 52 i (nI 1) from (by rw [nI_clamp (by omega)])]
              refine rw_go hX [(77, .iinc 6 1), (80, .goto (-30))] (by decide +kernel) (Ps := []) (pc' := 50) (lv' := [(0, .ref 39), (1, .ref k), (2, .int (nI (cB (iS (cv2 f ln x) (f x) i) 50) + (nI 1 - bz (iS (cv2 f ln x) (f x) i i)))), (3, .int (nI x)), (5, .int (nI (min 50 (f x + ln x)))), (6, .int (nI i + nI 1))]) (st' := []) (σ' := sw (sr σ 52 (r52 (σ 52) (iS (cv2 f ln x) (f x) i))) 52 i (nI 1)) rfl True.intro ?_
              refine rw_lsub (ks := [0, 1, 2, 3, 4, 5]) (lv' := [(0, .ref 39), (1, .ref k), (2, .int (nI (cB (iS (cv2 f ln x) (f x) i) 50) + (nI 1 - bz (iS (cv2 f ln x) (f x) i i)))), (3, .int (nI x)), (5, .int (nI (min 50 (f x + ln x)))), (6, .int (nI i + nI 1))]) rfl ?_
              have q := ih50 (50 - (i + 1)) (by omega) (i + 1) rfl (by omega) (by omega)
              rw [iS_1 _ hi1, cB_uN (by omega), ← r52_1 _ _ (by omega)] at q
              rw [one_sub, nI_add, sw_sr]
              exact q
        refine rw_lsub (ks := [0, 1, 2, 3, 5, 6]) (lv' := [(0, .ref 39), (1, .ref k), (2, .int (nI (cB (cv2 f ln x) 50))), (3, .int (nI x)), (5, .int (nI (min 50 (f x + ln x)))), (6, .int (nI (f x)))]) rfl ?_
        have q := L50 (50 - f x) (f x) rfl (Nat.le_refl _) (by omega)
        rw [iS_0] at q
        exact q
  refine rw_lsub (ks := [0, 1, 2, 3]) (lv' := [(0, .ref 39), (1, .ref k), (2, .int (nI 0)), (3, .int (nI 0))]) rfl ?_
  have q := L12 m 0 rfl (by omega)
  rw [r52_0]
  exact q
set_option maxRecDepth 20000 in
set_option maxHeartbeats 4000000 in
theorem c_lettersSeen (l : Launch) (G : Gl) (σ : Mm) (m : Nat) (f ln : Nat → Nat) (hm : σ 39 0 = nI m) (hm8 : m ≤ 840) (hf : ∀ x, x < m → σ 46 x = nI (f x) ∧ f x ≤ 50) (hln : ∀ x, x < m → σ 48 x = nI (ln x) ∧ ln x ≤ 50) : AMi l G 3 mX2_lettersSeen [.ref 39] σ (fun r σ' => σ' = sr σ 52 (r52 (σ 52) (cv2 f ln m)) ∧ r = nI (cB (cv2 f ln m) 50)) := by
  refine rw_inI 2 (by decide +kernel) rfl rfl ?_
  intro E hE hX
  subst hE
  refine rw_go hX [(0, .aload_n 0), (1, .aload_n 0), (2, .getfield 25)] (by decide +kernel) (Ps := []) (pc' := 5) (lv' := [(0, .ref 39)]) (st' := [.ref 46, .ref 39]) (σ' := σ) rfl True.intro ?_
  refine rw_callVi hX (as := [.ref 46]) (rest := []) (c_lettersIn _ _ _ m 46 f ln (by decide +kernel) (by decide) hm hm8 hf hln) (by decide +kernel) mvX2_lettersIn lk2_95 (ci := 1) rfl rfl rfl (by decide) (Nat.le_of_ble_eq_true rfl) rfl ?_
  intro r1 σ1 hr
  rw [hr.1, hr.2]
  clear hr σ1 r1
  exact rw_iret hX (by decide +kernel) (⟨rfl, rfl⟩)
set_option maxRecDepth 20000 in
set_option maxHeartbeats 4000000 in
theorem c_otherLettersSeen (l : Launch) (G : Gl) (σ : Mm) (m : Nat) (f ln : Nat → Nat) (hm : σ 39 0 = nI m) (hm8 : m ≤ 840) (hf : ∀ x, x < m → σ 47 x = nI (f x) ∧ f x ≤ 50) (hln : ∀ x, x < m → σ 48 x = nI (ln x) ∧ ln x ≤ 50) : AMi l G 3 mX2_otherLettersSeen [.ref 39] σ (fun r σ' => σ' = sr σ 52 (r52 (σ 52) (cv2 f ln m)) ∧ r = nI (cB (cv2 f ln m) 50)) := by
  refine rw_inI 2 (by decide +kernel) rfl rfl ?_
  intro E hE hX
  subst hE
  refine rw_go hX [(0, .aload_n 0), (1, .aload_n 0), (2, .getfield 29)] (by decide +kernel) (Ps := []) (pc' := 5) (lv' := [(0, .ref 39)]) (st' := [.ref 47, .ref 39]) (σ' := σ) rfl True.intro ?_
  refine rw_callVi hX (as := [.ref 47]) (rest := []) (c_lettersIn _ _ _ m 47 f ln (by decide +kernel) (by decide) hm hm8 hf hln) (by decide +kernel) mvX2_lettersIn lk2_95 (ci := 1) rfl rfl rfl (by decide) (Nat.le_of_ble_eq_true rfl) rfl ?_
  intro r1 σ1 hr
  rw [hr.1, hr.2]
  clear hr σ1 r1
  exact rw_iret hX (by decide +kernel) (⟨rfl, rfl⟩)
