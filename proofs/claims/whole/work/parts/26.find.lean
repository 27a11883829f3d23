/-! the matches of two works, as a list of (begin, other begin, letters) -/
def wl (f : Nat → Int32) (l : List Nat) : Nat → Int32 := fun k => if k < l.length then nI (l.getD k 0) else f k
theorem wl_nil (f : Nat → Int32) : wl f [] = f := by
  funext k
  simp [wl]
theorem wl_1 (f : Nat → Int32) (l : List Nat) (x : Nat) : upd (wl f l) l.length (nI x) = wl f (l ++ [x]) := by
  funext k
  simp only [upd, wl, List.length_append, List.length_cons, List.length_nil]
  by_cases e : k = l.length
  · subst e
    rw [if_pos rfl, if_pos (by omega)]
    simp
  · rw [if_neg e]
    by_cases h : k < l.length
    · rw [if_pos h, if_pos (by omega), List.getD_eq_getElem?_getD, List.getD_eq_getElem?_getD, List.getElem?_append_left h]
    · rw [if_neg h, if_neg (by omega)]
abbrev Ml : Type := List (Nat × (Nat × Nat))
def MS (τ : Mm) (L : Ml) : Mm := sr (sr (sr (sr (sw τ 39 0 (nI L.length)) 46 (wl (τ 46) (L.map (fun q => q.1)))) 47 (wl (τ 47) (L.map (fun q => q.2.1)))) 48 (wl (τ 48) (L.map (fun q => q.2.2)))) 51 (wl (τ 51) (L.map (fun _ => 0)))
theorem MS_n (τ : Mm) (L : Ml) {k : Nat} (h : k ∉ [39, 46, 47, 48, 51]) : MS τ L k = τ k := by
  simp only [List.mem_cons, List.not_mem_nil, or_false, not_or] at h
  unfold MS
  rw [sr_n _ _ h.2.2.2.2, sr_n _ _ h.2.2.2.1, sr_n _ _ h.2.2.1, sr_n _ _ h.2.1, sw_ne _ _ _ h.1]
theorem MS_l (τ : Mm) (L : Ml) : MS τ L 39 0 = nI L.length := by
  unfold MS
  rw [sr_n _ _ (by decide), sr_n _ _ (by decide), sr_n _ _ (by decide), sr_n _ _ (by decide), sw_eq]
theorem MS_nil {τ : Mm} (h : τ 39 0 = nI 0) : MS τ [] = τ := by
  unfold MS
  simp only [List.map_nil, wl_nil, List.length_nil]
  rw [← h]
  funext k
  by_cases h1 : k = 51
  · subst h1; rw [sr_s]
  · by_cases h2 : k = 48
    · subst h2; rw [sr_n _ _ h1, sr_s]
    · by_cases h3 : k = 47
      · subst h3; rw [sr_n _ _ h1, sr_n _ _ h2, sr_s]
      · by_cases h4 : k = 46
        · subst h4; rw [sr_n _ _ h1, sr_n _ _ h2, sr_n _ _ h3, sr_s]
        · rw [sr_n _ _ h1, sr_n _ _ h2, sr_n _ _ h3, sr_n _ _ h4]
          by_cases h5 : k = 39
          · subst h5
            unfold sw
            rw [sr_s]
            funext j
            by_cases h6 : j = 0
            · subst h6; rw [upd_s]
            · rw [upd_n _ _ h6]
          · rw [sw_ne _ _ _ h5]
theorem pushM_MS (τ : Mm) (L : Ml) (i j t : Nat) : pushM L.length i j t (MS τ L) = MS τ (L ++ [(i, j, t)]) := by
  unfold pushM MS
  have e1 := wl_1 (τ 46) (L.map (fun q => q.1)) i
  have e2 := wl_1 (τ 47) (L.map (fun q => q.2.1)) j
  have e3 := wl_1 (τ 48) (L.map (fun q => q.2.2)) t
  have e4 := wl_1 (τ 51) (L.map (fun _ => 0)) 0
  rw [List.length_map] at e1 e2 e3 e4
  simp only [List.map_append, List.map_cons, List.map_nil, List.length_append, List.length_cons, List.length_nil]
  rw [← e1, ← e2, ← e3, ← e4]
  funext k
  by_cases h1 : k = 51
  · subst h1; simp [sw, sr]
  · by_cases h2 : k = 48
    · subst h2; simp [sw, sr]
    · by_cases h3 : k = 47
      · subst h3; simp [sw, sr]
      · by_cases h4 : k = 46
        · subst h4; simp [sw, sr]
        · by_cases h5 : k = 39
          · subst h5
            simp only [sw, sr, h1, h2, h3, h4, if_false, if_true]
            funext j
            by_cases h6 : j = 0
            · subst h6; simp [upd]
            · simp [upd, h6]
          · simp [sw, sr, h1, h2, h3, h4, h5]
def mC (A B an bn : Nat → Int32) (na nb ls i j : Nat) : Bool := decide (A i = B j) && (bgn A B i j && (anB an bn i j (rl A B (min (na - i) (nb - j)) i j) && decide (ls ≤ rl A B (min (na - i) (nb - j)) i j)))
def mst (A B an bn : Nat → Int32) (na nb ls : Nat) (acc : Ml) (i j : Nat) : Ml := if mC A B an bn na nb ls i j = true ∧ acc.length < 840 then acc ++ [(i, j, rl A B (min (na - i) (nb - j)) i j)] else acc
def mRow (A B an bn : Nat → Int32) (na nb ls : Nat) (acc : Ml) (i : Nat) : Nat → Ml
  | 0 => acc
  | j + 1 => mst A B an bn na nb ls (mRow A B an bn na nb ls acc i j) i j
def mAll (A B an bn : Nat → Int32) (na nb ls : Nat) : Nat → Ml
  | 0 => []
  | i + 1 => mRow A B an bn na nb ls (mAll A B an bn na nb ls i) i nb
theorem mRow_1 (A B an bn : Nat → Int32) (na nb ls : Nat) (acc : Ml) (i j : Nat) : mRow A B an bn na nb ls acc i (j + 1) = mst A B an bn na nb ls (mRow A B an bn na nb ls acc i j) i j := rfl
theorem mAll_1 (A B an bn : Nat → Int32) (na nb ls i : Nat) : mAll A B an bn na nb ls (i + 1) = mRow A B an bn na nb ls (mAll A B an bn na nb ls i) i nb := rfl
theorem mst_840 {A B an bn : Nat → Int32} {na nb ls : Nat} {acc : Ml} {i j : Nat} (h : acc.length ≤ 840) : (mst A B an bn na nb ls acc i j).length ≤ 840 := by
  unfold mst
  split
  · rename_i g
    simp only [List.length_append, List.length_cons, List.length_nil]
    omega
  · exact h
theorem mRow_840 {A B an bn : Nat → Int32} {na nb ls : Nat} {acc : Ml} {i : Nat} (h : acc.length ≤ 840) : ∀ j, (mRow A B an bn na nb ls acc i j).length ≤ 840
  | 0 => h
  | j + 1 => mst_840 (mRow_840 h j)
theorem mAll_840 {A B an bn : Nat → Int32} {na nb ls : Nat} : ∀ i, (mAll A B an bn na nb ls i).length ≤ 840
  | 0 => Nat.zero_le _
  | i + 1 => mRow_840 (mAll_840 i) nb
theorem mst_no {A B an bn : Nat → Int32} {na nb ls : Nat} {acc : Ml} {i j : Nat} (h : mC A B an bn na nb ls i j = false) : mst A B an bn na nb ls acc i j = acc := if_neg (fun z => by rw [h] at z; exact absurd z.1 (by decide))
theorem mst_add {τ : Mm} {na nb ls : Nat} {acc : Ml} {i j : Nat} (h1 : τ 41 i = τ 44 j) (h2 : bgn (τ 41) (τ 44) i j = true) :
    (if anB (τ 42) (τ 45) i j (rl (τ 41) (τ 44) (min (na - i) (nb - j)) i j) = true ∧ ls ≤ rl (τ 41) (τ 44) (min (na - i) (nb - j)) i j ∧ acc.length < 840 then pushM acc.length i j (rl (τ 41) (τ 44) (min (na - i) (nb - j)) i j) (MS τ acc) else MS τ acc) = MS τ (mst (τ 41) (τ 44) (τ 42) (τ 45) na nb ls acc i j) := by
  have e : mC (τ 41) (τ 44) (τ 42) (τ 45) na nb ls i j = (anB (τ 42) (τ 45) i j (rl (τ 41) (τ 44) (min (na - i) (nb - j)) i j) && decide (ls ≤ rl (τ 41) (τ 44) (min (na - i) (nb - j)) i j)) := by
    unfold mC
    rw [decide_eq_true h1, h2, Bool.true_and, Bool.true_and]
  unfold mst
  have e2 : mC (τ 41) (τ 44) (τ 42) (τ 45) na nb ls i j = true ↔ anB (τ 42) (τ 45) i j (rl (τ 41) (τ 44) (min (na - i) (nb - j)) i j) = true ∧ ls ≤ rl (τ 41) (τ 44) (min (na - i) (nb - j)) i j := by rw [e, Bool.and_eq_true, decide_eq_true_eq]
  by_cases g : anB (τ 42) (τ 45) i j (rl (τ 41) (τ 44) (min (na - i) (nb - j)) i j) = true ∧ ls ≤ rl (τ 41) (τ 44) (min (na - i) (nb - j)) i j ∧ acc.length < 840
  · rw [if_pos g, if_pos ⟨e2.mpr ⟨g.1, g.2.1⟩, g.2.2⟩, pushM_MS]
  · rw [if_neg g, if_neg (fun z => g ⟨(e2.mp z.1).1, (e2.mp z.1).2, z.2⟩)]
set_option maxRecDepth 20000 in
set_option maxHeartbeats 4000000 in
theorem c_find (l : Launch) (G : Gl) (σ : Mm) (w v a b ga gb F ls : Nat) (τ : Mm) (hw : w < 5) (hv : v < 5) (hLa : σ 24 w = nI a) (hLb : σ 24 v = nI b) (ha5 : a ≤ 50) (hb5 : b ≤ 50) (hga : σ 25 w = nI ga) (hgb : σ 25 v = nI gb) (hga5 : ga ≤ 50) (hgb5 : gb ≤ 50) (hF : σ 31 0 = nI F) (hF2 : F ≤ 250) (hfa : ∀ i, i < ga → ∃ f, f < F ∧ σ 29 (50 * w + i) = nI f) (hfb : ∀ i, i < gb → ∃ f, f < F ∧ σ 29 (50 * v + i) = nI f) (hls : ls ≤ 50) (hτ : τ = ldS 43 v b gb (ldS 40 w a ga (sw σ 39 0 (nI 0)))) : AMv l G 4 mX2_find [.ref 39, .ref 23, .ref 31, .int (nI w), .int (nI v), .int (nI ls)] σ (fun σ' => σ' = MS τ (mAll (τ 41) (τ 44) (τ 42) (τ 45) a b ls a)) := by
  refine rw_inV 2 (by decide +kernel) rfl rfl ?_
  intro E hE hX
  subst hE
  have l0 : ∀ k, k ≠ 39 → sw σ 39 0 (nI 0) k = σ k := fun k hk => sw_ne _ _ _ hk
  have l1 : ∀ k, k ≠ 39 → k ≠ 40 → k ≠ 41 → k ≠ 42 → ldS 40 w a ga (sw σ 39 0 (nI 0)) k = σ k := fun k h1 h2 h3 h4 => by unfold ldS; rw [sr_n _ _ h4, sr_n _ _ h3, sw_ne _ _ _ h2, l0 k h1]
  have h40 : τ 40 0 = nI a := by rw [hτ]; simp [ldS, sr, sw, upd]
  have h43 : τ 43 0 = nI b := by rw [hτ]; simp [ldS, sr, sw, upd]
  have h39 : τ 39 0 = nI 0 := by rw [hτ]; simp [ldS, sr, sw, upd]
  refine rw_go hX [(0, .aload_n 0), (1, .iconst 0), (2, .putfield 9), (5, .aload_n 0), (6, .getfield 18), (9, .aload_n 1), (10, .aload_n 2), (11, .iload_n 3)] (by decide +kernel) (Ps := []) (pc' := 12) (lv' := [(0, .ref 39), (1, .ref 23), (2, .ref 31), (3, .int (nI w)), (4, .int (nI v)), (5, .int (nI ls))]) (st' := [.int (nI w), .ref 31, .ref 23, .ref 40]) (σ' := sw σ 39 0 (nI 0)) rfl True.intro ?_
  refine rw_callVv hX (as := [.ref 23, .ref 31, .int (nI w)]) (rest := []) (c_load_40 _ _ _ w a ga F hw (by rw [l0 _ (by decide)]; exact hLa) ha5 (by rw [l0 _ (by decide)]; exact hga) hga5 (by rw [l0 _ (by decide)]; exact hF) hF2 (fun i hi => by rw [l0 _ (by decide)]; exact hfa i hi)) (by decide +kernel) mvX6_load lk2_48 (ci := 5) rfl rfl rfl (by decide) (Nat.le_of_ble_eq_true rfl) rfl ?_
  intro σ1 hr
  rw [hr]
  clear hr σ1
  refine rw_go hX [(15, .aload_n 0), (16, .getfield 22), (19, .aload_n 1), (20, .aload_n 2), (21, .iload 4)] (by decide +kernel) (Ps := []) (pc' := 23) (lv' := [(0, .ref 39), (1, .ref 23), (2, .ref 31), (3, .int (nI w)), (4, .int (nI v)), (5, .int (nI ls))]) (st' := [.int (nI v), .ref 31, .ref 23, .ref 43]) (σ' := ldS 40 w a ga (sw σ 39 0 (nI 0))) rfl True.intro ?_
  refine rw_callVv hX (as := [.ref 23, .ref 31, .int (nI v)]) (rest := []) (c_load_43 _ _ _ v b gb F hv (by rw [l1 _ (by decide) (by decide) (by decide) (by decide)]; exact hLb) hb5 (by rw [l1 _ (by decide) (by decide) (by decide) (by decide)]; exact hgb) hgb5 (by rw [l1 _ (by decide) (by decide) (by decide) (by decide)]; exact hF) hF2 (fun i hi => by rw [l1 _ (by decide) (by decide) (by decide) (by decide)]; exact hfb i hi)) (by decide +kernel) mvX6_load lk2_48 (ci := 5) rfl rfl rfl (by decide) (Nat.le_of_ble_eq_true rfl) rfl ?_
  intro σ1 hr
  rw [show σ1 = τ from hr.trans hτ.symm]
  clear hr σ1
  refine rw_go hX [(26, .iconst 0), (27, .istore 6)] (by decide +kernel) (Ps := []) (pc' := 29) (lv' := [(0, .ref 39), (1, .ref 23), (2, .ref 31), (3, .int (nI w)), (4, .int (nI v)), (5, .int (nI ls)), (6, .int (nI 0))]) (st' := []) (σ' := τ) rfl True.intro ?_
  have L29 : ∀ (μ29 : Nat) (i : Nat), μ29 = a - i → (i ≤ a) → RW E G 4 8 (QV E G (fun σ' => σ' = MS τ (mAll (τ 41) (τ 44) (τ 42) (τ 45) a b ls a))) 29 [(0, .ref 39), (1, .ref 23), (2, .ref 31), (3, .int (nI w)), (4, .int (nI v)), (5, .int (nI ls)), (6, .int (nI i))] [] (MS τ (mAll (τ 41) (τ 44) (τ 42) (τ 45) a b ls i)) := by
    intro μ29
    induction μ29 using Nat.strongRecOn with
    | ind μ29 ih29 =>
      intro i hμ29 hi
      refine rw_go hX [(29, .iload 6), (31, .aload_n 0), (32, .getfield 18), (35, .getfield 52)] (by decide +kernel) (Ps := []) (pc' := 38) (lv' := [(0, .ref 39), (1, .ref 23), (2, .ref 31), (3, .int (nI w)), (4, .int (nI v)), (5, .int (nI ls)), (6, .int (nI i))]) (st' := [.int ((MS τ (mAll (τ 41) (τ 44) (τ 42) (τ 45) a b ls i)) 40 0), .int (nI i)]) (σ' := MS τ (mAll (τ 41) (τ 44) (τ 42) (τ 45) a b ls i)) rfl True.intro ?_
      rw [show ((MS τ (mAll (τ 41) (τ 44) (τ 42) (τ 45) a b ls i)) 40 0) = nI a from (by rw [MS_n _ _ (by decide), h40])]
      refine rw_icmp hX (tgt := 126) (cnd := .ge) (off := 88) (by decide +kernel) (by decide) (fun h38 => ?_) (fun h38 => ?_)
      · replace h38 := c2_geT h38
        have e : i = a := by omega
        exact rw_vret hX (by decide +kernel) (by rw [e])
      · replace h38 := c2_geF h38
        refine rw_go hX [(41, .iload 6), (43, .bipush 50)] (by decide +kernel) (Ps := []) (pc' := 45) (lv' := [(0, .ref 39), (1, .ref 23), (2, .ref 31), (3, .int (nI w)), (4, .int (nI v)), (5, .int (nI ls)), (6, .int (nI i))]) (st' := [.int (nI 50), .int (nI i)]) (σ' := MS τ (mAll (τ 41) (τ 44) (τ 42) (τ 45) a b ls i)) rfl True.intro ?_
        refine rw_icmp hX (tgt := 126) (cnd := .ge) (off := 81) (by decide +kernel) (by decide) (fun h45 => ?_) (fun h45 => ?_)
        · replace h45 := c2_geT h45
          omega
        · replace h45 := c2_geF h45
          refine rw_go hX [(48, .iconst 0), (49, .istore 7)] (by decide +kernel) (Ps := []) (pc' := 51) (lv' := [(0, .ref 39), (1, .ref 23), (2, .ref 31), (3, .int (nI w)), (4, .int (nI v)), (5, .int (nI ls)), (6, .int (nI i)), (7, .int (nI 0))]) (st' := []) (σ' := MS τ (mAll (τ 41) (τ 44) (τ 42) (τ 45) a b ls i)) rfl True.intro ?_
          have L51 : ∀ (μ51 : Nat) (j : Nat), μ51 = b - j → (j ≤ b) → RW E G 4 8 (QV E G (fun σ' => σ' = MS τ (mAll (τ 41) (τ 44) (τ 42) (τ 45) a b ls a))) 51 [(0, .ref 39), (1, .ref 23), (2, .ref 31), (3, .int (nI w)), (4, .int (nI v)), (5, .int (nI ls)), (6, .int (nI i)), (7, .int (nI j))] [] (MS τ (mRow (τ 41) (τ 44) (τ 42) (τ 45) a b ls (mAll (τ 41) (τ 44) (τ 42) (τ 45) a b ls i) i j)) := by
            intro μ51
            induction μ51 using Nat.strongRecOn with
            | ind μ51 ih51 =>
              intro j hμ51 hj
              refine rw_go hX [(51, .iload 7), (53, .aload_n 0), (54, .getfield 22), (57, .getfield 52)] (by decide +kernel) (Ps := []) (pc' := 60) (lv' := [(0, .ref 39), (1, .ref 23), (2, .ref 31), (3, .int (nI w)), (4, .int (nI v)), (5, .int (nI ls)), (6, .int (nI i)), (7, .int (nI j))]) (st' := [.int ((MS τ (mRow (τ 41) (τ 44) (τ 42) (τ 45) a b ls (mAll (τ 41) (τ 44) (τ 42) (τ 45) a b ls i) i j)) 43 0), .int (nI j)]) (σ' := MS τ (mRow (τ 41) (τ 44) (τ 42) (τ 45) a b ls (mAll (τ 41) (τ 44) (τ 42) (τ 45) a b ls i) i j)) rfl True.intro ?_
              rw [show ((MS τ (mRow (τ 41) (τ 44) (τ 42) (τ 45) a b ls (mAll (τ 41) (τ 44) (τ 42) (τ 45) a b ls i) i j)) 43 0) = nI b from (by rw [MS_n _ _ (by decide), h43])]
              refine rw_icmp hX (tgt := 120) (cnd := .ge) (off := 60) (by decide +kernel) (by decide) (fun h60 => ?_) (fun h60 => ?_)
              · replace h60 := c2_geT h60
                have e2 : j = b := by omega
                refine rw_go hX [(120, .iinc 6 1), (123, .goto (-94))] (by decide +kernel) (Ps := []) (pc' := 29) (lv' := [(0, .ref 39), (1, .ref 23), (2, .ref 31), (3, .int (nI w)), (4, .int (nI v)), (5, .int (nI ls)), (6, .int (nI i + nI 1)), (7, .int (nI j))]) (st' := []) (σ' := MS τ (mRow (τ 41) (τ 44) (τ 42) (τ 45) a b ls (mAll (τ 41) (τ 44) (τ 42) (τ 45) a b ls i) i j)) rfl True.intro ?_
                refine rw_lsub (ks := [0, 1, 2, 3, 4, 5, 6]) (lv' := [(0, .ref 39), (1, .ref 23), (2, .ref 31), (3, .int (nI w)), (4, .int (nI v)), (5, .int (nI ls)), (6, .int (nI i + nI 1))]) rfl ?_
                rw [nI_add]
                rw [e2, ← mAll_1]
                exact ih29 (a - (i + 1)) (by omega) (i + 1) rfl (by omega)
              · replace h60 := c2_geF h60
                refine rw_go hX [(63, .iload 7), (65, .bipush 50)] (by decide +kernel) (Ps := []) (pc' := 67) (lv' := [(0, .ref 39), (1, .ref 23), (2, .ref 31), (3, .int (nI w)), (4, .int (nI v)), (5, .int (nI ls)), (6, .int (nI i)), (7, .int (nI j))]) (st' := [.int (nI 50), .int (nI j)]) (σ' := MS τ (mRow (τ 41) (τ 44) (τ 42) (τ 45) a b ls (mAll (τ 41) (τ 44) (τ 42) (τ 45) a b ls i) i j)) rfl True.intro ?_
                refine rw_icmp hX (tgt := 120) (cnd := .ge) (off := 53) (by decide +kernel) (by decide) (fun h67 => ?_) (fun h67 => ?_)
                · replace h67 := c2_geT h67
                  omega
                · replace h67 := c2_geF h67
                  refine rw_go hX [(70, .aload_n 0), (71, .getfield 18), (74, .getfield 53), (77, .iload 6), (79, .iaload)] (by decide +kernel) (Ps := [vp_in (nI i) 50]) (pc' := 80) (lv' := [(0, .ref 39), (1, .ref 23), (2, .ref 31), (3, .int (nI w)), (4, .int (nI v)), (5, .int (nI ls)), (6, .int (nI i)), (7, .int (nI j))]) (st' := [.int ((MS τ (mRow (τ 41) (τ 44) (τ 42) (τ 45) a b ls (mAll (τ 41) (τ 44) (τ 42) (τ 45) a b ls i) i j)) 41 (nI i).toNatClampNeg)]) (σ' := MS τ (mRow (τ 41) (τ 44) (τ 42) (τ 45) a b ls (mAll (τ 41) (τ 44) (τ 42) (τ 45) a b ls i) i j)) rfl (vp_in_nI (by omega) (by omega)) ?_
                  rw [show ((MS τ (mRow (τ 41) (τ 44) (τ 42) (τ 45) a b ls (mAll (τ 41) (τ 44) (τ 42) (τ 45) a b ls i) i j)) 41 (nI i).toNatClampNeg) = (MS τ (mRow (τ 41) (τ 44) (τ 42) (τ 45) a b ls (mAll (τ 41) (τ 44) (τ 42) (τ 45) a b ls i) i j)) 41 i from (by rw [nI_clamp (by omega)])]
                  rw [show ((MS τ (mRow (τ 41) (τ 44) (τ 42) (τ 45) a b ls (mAll (τ 41) (τ 44) (τ 42) (τ 45) a b ls i) i j)) 41 i) = τ 41 i from (by rw [MS_n _ _ (by decide)])]
                  refine rw_go hX [(80, .aload_n 0), (81, .getfield 22), (84, .getfield 53), (87, .iload 7), (89, .iaload)] (by decide +kernel) (Ps := [vp_in (nI j) 50]) (pc' := 90) (lv' := [(0, .ref 39), (1, .ref 23), (2, .ref 31), (3, .int (nI w)), (4, .int (nI v)), (5, .int (nI ls)), (6, .int (nI i)), (7, .int (nI j))]) (st' := [.int ((MS τ (mRow (τ 41) (τ 44) (τ 42) (τ 45) a b ls (mAll (τ 41) (τ 44) (τ 42) (τ 45) a b ls i) i j)) 44 (nI j).toNatClampNeg), .int (τ 41 i)]) (σ' := MS τ (mRow (τ 41) (τ 44) (τ 42) (τ 45) a b ls (mAll (τ 41) (τ 44) (τ 42) (τ 45) a b ls i) i j)) rfl (vp_in_nI (by omega) (by omega)) ?_
                  rw [show ((MS τ (mRow (τ 41) (τ 44) (τ 42) (τ 45) a b ls (mAll (τ 41) (τ 44) (τ 42) (τ 45) a b ls i) i j)) 44 (nI j).toNatClampNeg) = (MS τ (mRow (τ 41) (τ 44) (τ 42) (τ 45) a b ls (mAll (τ 41) (τ 44) (τ 42) (τ 45) a b ls i) i j)) 44 j from (by rw [nI_clamp (by omega)])]
                  rw [show ((MS τ (mRow (τ 41) (τ 44) (τ 42) (τ 45) a b ls (mAll (τ 41) (τ 44) (τ 42) (τ 45) a b ls i) i j)) 44 j) = τ 44 j from (by rw [MS_n _ _ (by decide)])]
                  refine rw_icmp hX (tgt := 114) (cnd := .ne) (off := 24) (by decide +kernel) (by decide) (fun h90 => ?_) (fun h90 => ?_)
                  · replace h90 : (τ 41 i ≠ τ 44 j) := h90
                    have hno : mC (τ 41) (τ 44) (τ 42) (τ 45) a b ls i j = false := by unfold mC; rw [decide_eq_false h90]; rfl
                    refine rw_go hX [(114, .iinc 7 1), (117, .goto (-66))] (by decide +kernel) (Ps := []) (pc' := 51) (lv' := [(0, .ref 39), (1, .ref 23), (2, .ref 31), (3, .int (nI w)), (4, .int (nI v)), (5, .int (nI ls)), (6, .int (nI i)), (7, .int (nI j + nI 1))]) (st' := []) (σ' := MS τ (mRow (τ 41) (τ 44) (τ 42) (τ 45) a b ls (mAll (τ 41) (τ 44) (τ 42) (τ 45) a b ls i) i j)) rfl True.intro ?_
                    refine rw_lsub (ks := [0, 1, 2, 3, 4, 5, 6, 7]) (lv' := [(0, .ref 39), (1, .ref 23), (2, .ref 31), (3, .int (nI w)), (4, .int (nI v)), (5, .int (nI ls)), (6, .int (nI i)), (7, .int (nI j + nI 1))]) rfl ?_
                    have q := ih51 (b - (j + 1)) (by omega) (j + 1) rfl (by omega)
                    rw [nI_add]
                    rw [mRow_1, mst_no hno] at q
                    exact q
                  · replace h90 : ¬ (τ 41 i ≠ τ 44 j) := h90
                    have heq : τ 41 i = τ 44 j := Classical.not_not.mp h90
                    refine rw_go hX [(93, .aload_n 0), (94, .iload 6), (96, .iload 7)] (by decide +kernel) (Ps := []) (pc' := 98) (lv' := [(0, .ref 39), (1, .ref 23), (2, .ref 31), (3, .int (nI w)), (4, .int (nI v)), (5, .int (nI ls)), (6, .int (nI i)), (7, .int (nI j))]) (st' := [.int (nI j), .int (nI i), .ref 39]) (σ' := MS τ (mRow (τ 41) (τ 44) (τ 42) (τ 45) a b ls (mAll (τ 41) (τ 44) (τ 42) (τ 45) a b ls i) i j)) rfl True.intro ?_
                    refine rw_callVi hX (as := [.int (nI i), .int (nI j)]) (rest := []) (c_isBegin _ _ _ i j (by omega) (by omega)) (by decide +kernel) mvX2_isBegin lk2_56 (ci := 1) rfl rfl rfl (by decide) (Nat.le_of_ble_eq_true rfl) rfl ?_
                    intro r1 σ1 hr
                    rw [hr.1, show r1 = bz (bgn (τ 41) (τ 44) i j) from hr.2.trans (by rw [MS_n _ _ (by decide), MS_n _ _ (by decide)])]
                    clear hr σ1 r1
                    refine rw_if hX (tgt := 114) (cnd := .eq) (off := 13) (by decide +kernel) (by decide) (fun h101 => ?_) (fun h101 => ?_)
                    · replace h101 := zb_eqT h101
                      have hno : mC (τ 41) (τ 44) (τ 42) (τ 45) a b ls i j = false := by unfold mC; rw [h101, Bool.false_and, Bool.and_false]
                      refine rw_go hX [(114, .iinc 7 1), (117, .goto (-66))] (by decide +kernel) (Ps := []) (pc' := 51) (lv' := [(0, .ref 39), (1, .ref 23), (2, .ref 31), (3, .int (nI w)), (4, .int (nI v)), (5, .int (nI ls)), (6, .int (nI i)), (7, .int (nI j + nI 1))]) (st' := []) (σ' := MS τ (mRow (τ 41) (τ 44) (τ 42) (τ 45) a b ls (mAll (τ 41) (τ 44) (τ 42) (τ 45) a b ls i) i j)) rfl True.intro ?_
                      refine rw_lsub (ks := [0, 1, 2, 3, 4, 5, 6, 7]) (lv' := [(0, .ref 39), (1, .ref 23), (2, .ref 31), (3, .int (nI w)), (4, .int (nI v)), (5, .int (nI ls)), (6, .int (nI i)), (7, .int (nI j + nI 1))]) rfl ?_
                      have q := ih51 (b - (j + 1)) (by omega) (j + 1) rfl (by omega)
                      rw [nI_add]
                      rw [mRow_1, mst_no hno] at q
                      exact q
                    · replace h101 := zb_eqF h101
                      refine rw_go hX [(104, .aload_n 0), (105, .iload 6), (107, .iload 7), (109, .iload 5)] (by decide +kernel) (Ps := []) (pc' := 111) (lv' := [(0, .ref 39), (1, .ref 23), (2, .ref 31), (3, .int (nI w)), (4, .int (nI v)), (5, .int (nI ls)), (6, .int (nI i)), (7, .int (nI j))]) (st' := [.int (nI ls), .int (nI j), .int (nI i), .ref 39]) (σ' := MS τ (mRow (τ 41) (τ 44) (τ 42) (τ 45) a b ls (mAll (τ 41) (τ 44) (τ 42) (τ 45) a b ls i) i j)) rfl True.intro ?_
                      refine rw_callVv hX (as := [.int (nI i), .int (nI j), .int (nI ls)]) (rest := []) (c_addRun _ _ _ i j a b ls (mRow (τ 41) (τ 44) (τ 42) (τ 45) a b ls (mAll (τ 41) (τ 44) (τ 42) (τ 45) a b ls i) i j).length (by rw [MS_n _ _ (by decide)]; exact h40) (by rw [MS_n _ _ (by decide)]; exact h43) ha5 hb5 (by omega) (by omega) hls (MS_l _ _) (mRow_840 (mAll_840 _) _)) (by decide +kernel) mvX2_addRun lk2_60 (ci := 1) rfl rfl rfl (by decide) (Nat.le_of_ble_eq_true rfl) rfl ?_
                      intro σ1 hr
                      rw [MS_n _ _ (show 41 ∉ [39, 46, 47, 48, 51] by decide), MS_n _ _ (show 42 ∉ [39, 46, 47, 48, 51] by decide), MS_n _ _ (show 44 ∉ [39, 46, 47, 48, 51] by decide), MS_n _ _ (show 45 ∉ [39, 46, 47, 48, 51] by decide), mst_add heq h101] at hr
                      rw [show σ1 = MS τ (mRow (τ 41) (τ 44) (τ 42) (τ 45) a b ls (mAll (τ 41) (τ 44) (τ 42) (τ 45) a b ls i) i (j + 1)) from hr]
                      clear hr σ1
                      refine rw_go hX [(114, .iinc 7 1), (117, .goto (-66))] (by decide +kernel) (Ps := []) (pc' := 51) (lv' := [(0, .ref 39), (1, .ref 23), (2, .ref 31), (3, .int (nI w)), (4, .int (nI v)), (5, .int (nI ls)), (6, .int (nI i)), (7, .int (nI j + nI 1))]) (st' := []) (σ' := MS τ (mRow (τ 41) (τ 44) (τ 42) (τ 45) a b ls (mAll (τ 41) (τ 44) (τ 42) (τ 45) a b ls i) i (j + 1))) rfl True.intro ?_
                      refine rw_lsub (ks := [0, 1, 2, 3, 4, 5, 6, 7]) (lv' := [(0, .ref 39), (1, .ref 23), (2, .ref 31), (3, .int (nI w)), (4, .int (nI v)), (5, .int (nI ls)), (6, .int (nI i)), (7, .int (nI j + nI 1))]) rfl ?_
                      have q := ih51 (b - (j + 1)) (by omega) (j + 1) rfl (by omega)
                      rw [nI_add]
                      exact q
          refine rw_lsub (ks := [0, 1, 2, 3, 4, 5, 6, 7]) (lv' := [(0, .ref 39), (1, .ref 23), (2, .ref 31), (3, .int (nI w)), (4, .int (nI v)), (5, .int (nI ls)), (6, .int (nI i)), (7, .int (nI 0))]) rfl ?_
          exact L51 b 0 rfl (by omega)
  refine rw_lsub (ks := [0, 1, 2, 3, 4, 5, 6]) (lv' := [(0, .ref 39), (1, .ref 23), (2, .ref 31), (3, .int (nI w)), (4, .int (nI v)), (5, .int (nI ls)), (6, .int (nI 0))]) rfl ?_
  have q := L29 a 0 (by omega) (by omega)
  rw [show mAll (τ 41) (τ 44) (τ 42) (τ 45) a b ls 0 = [] from rfl, MS_nil h39] at q
  exact q
