/-! the small static methods -/
def isL (c : Int32) : Bool := decide (97 ≤ c ∧ c ≤ 122)
def isD (c : Int32) : Bool := decide (48 ≤ c ∧ c ≤ 57)
set_option maxRecDepth 20000 in
set_option maxHeartbeats 4000000 in
theorem c_X9_isWork (l : Launch) (G : Gl) (σ : Mm) (x : Int32) : AMi l G 0 mX9_isWork [.int x] σ (fun r σ' => σ' = σ ∧ r = bz (decide (0 ≤ x ∧ x ≤ 4))) := by
  refine rw_inI 9 (by decide +kernel) rfl rfl ?_
  intro E hE hX
  subst hE
  refine rw_go hX [(0, .iload_n 0)] (by decide +kernel) (Ps := []) (pc' := 1) (lv' := [(0, .int x)]) (st' := [.int x]) (σ' := σ) rfl True.intro ?_
  refine rw_if hX (tgt := 13) (cnd := .lt) (off := 12) (by decide +kernel) (by decide) (fun h1 => ?_) (fun h1 => ?_)
  · skip
    refine rw_go hX [(13, .iconst 0)] (by decide +kernel) (Ps := []) (pc' := 14) (lv' := [(0, .int x)]) (st' := [.int (nI 0)]) (σ' := σ) rfl True.intro ?_
    exact rw_zret hX (by decide +kernel) (Or.inl rfl) (⟨rfl, by clear hX; grind [bz, cz, cc2, nI, isL, isD]⟩)
  · skip
    refine rw_go hX [(4, .iload_n 0), (5, .iconst 5)] (by decide +kernel) (Ps := []) (pc' := 6) (lv' := [(0, .int x)]) (st' := [.int (nI 5), .int x]) (σ' := σ) rfl True.intro ?_
    refine rw_icmp hX (tgt := 13) (cnd := .ge) (off := 7) (by decide +kernel) (by decide) (fun h6 => ?_) (fun h6 => ?_)
    · skip
      refine rw_go hX [(13, .iconst 0)] (by decide +kernel) (Ps := []) (pc' := 14) (lv' := [(0, .int x)]) (st' := [.int (nI 0)]) (σ' := σ) rfl True.intro ?_
      exact rw_zret hX (by decide +kernel) (Or.inl rfl) (⟨rfl, by clear hX; grind [bz, cz, cc2, nI, isL, isD]⟩)
    · skip
      refine rw_go hX [(9, .iconst 1), (10, .goto 4)] (by decide +kernel) (Ps := []) (pc' := 14) (lv' := [(0, .int x)]) (st' := [.int (nI 1)]) (σ' := σ) rfl True.intro ?_
      exact rw_zret hX (by decide +kernel) (Or.inr rfl) (⟨rfl, by clear hX; grind [bz, cz, cc2, nI, isL, isD]⟩)
set_option maxRecDepth 20000 in
set_option maxHeartbeats 4000000 in
theorem c_X9_isKind (l : Launch) (G : Gl) (σ : Mm) (x : Int32) : AMi l G 0 mX9_isKind [.int x] σ (fun r σ' => σ' = σ ∧ r = bz (decide (0 ≤ x ∧ x ≤ 5))) := by
  refine rw_inI 9 (by decide +kernel) rfl rfl ?_
  intro E hE hX
  subst hE
  refine rw_go hX [(0, .iload_n 0)] (by decide +kernel) (Ps := []) (pc' := 1) (lv' := [(0, .int x)]) (st' := [.int x]) (σ' := σ) rfl True.intro ?_
  refine rw_if hX (tgt := 14) (cnd := .lt) (off := 13) (by decide +kernel) (by decide) (fun h1 => ?_) (fun h1 => ?_)
  · skip
    refine rw_go hX [(14, .iconst 0)] (by decide +kernel) (Ps := []) (pc' := 15) (lv' := [(0, .int x)]) (st' := [.int (nI 0)]) (σ' := σ) rfl True.intro ?_
    exact rw_zret hX (by decide +kernel) (Or.inl rfl) (⟨rfl, by clear hX; grind [bz, cz, cc2, nI, isL, isD]⟩)
  · skip
    refine rw_go hX [(4, .iload_n 0), (5, .bipush 6)] (by decide +kernel) (Ps := []) (pc' := 7) (lv' := [(0, .int x)]) (st' := [.int (nI 6), .int x]) (σ' := σ) rfl True.intro ?_
    refine rw_icmp hX (tgt := 14) (cnd := .ge) (off := 7) (by decide +kernel) (by decide) (fun h7 => ?_) (fun h7 => ?_)
    · skip
      refine rw_go hX [(14, .iconst 0)] (by decide +kernel) (Ps := []) (pc' := 15) (lv' := [(0, .int x)]) (st' := [.int (nI 0)]) (σ' := σ) rfl True.intro ?_
      exact rw_zret hX (by decide +kernel) (Or.inl rfl) (⟨rfl, by clear hX; grind [bz, cz, cc2, nI, isL, isD]⟩)
    · skip
      refine rw_go hX [(10, .iconst 1), (11, .goto 4)] (by decide +kernel) (Ps := []) (pc' := 15) (lv' := [(0, .int x)]) (st' := [.int (nI 1)]) (σ' := σ) rfl True.intro ?_
      exact rw_zret hX (by decide +kernel) (Or.inr rfl) (⟨rfl, by clear hX; grind [bz, cz, cc2, nI, isL, isD]⟩)
set_option maxRecDepth 20000 in
set_option maxHeartbeats 4000000 in
theorem c_X9_isDay (l : Launch) (G : Gl) (σ : Mm) (x : Int32) : AMi l G 0 mX9_isDay [.int x] σ (fun r σ' => σ' = σ ∧ r = bz (decide (0 ≤ x ∧ x ≤ 99))) := by
  refine rw_inI 9 (by decide +kernel) rfl rfl ?_
  intro E hE hX
  subst hE
  refine rw_go hX [(0, .iload_n 0)] (by decide +kernel) (Ps := []) (pc' := 1) (lv' := [(0, .int x)]) (st' := [.int x]) (σ' := σ) rfl True.intro ?_
  refine rw_if hX (tgt := 14) (cnd := .lt) (off := 13) (by decide +kernel) (by decide) (fun h1 => ?_) (fun h1 => ?_)
  · skip
    refine rw_go hX [(14, .iconst 0)] (by decide +kernel) (Ps := []) (pc' := 15) (lv' := [(0, .int x)]) (st' := [.int (nI 0)]) (σ' := σ) rfl True.intro ?_
    exact rw_zret hX (by decide +kernel) (Or.inl rfl) (⟨rfl, by clear hX; grind [bz, cz, cc2, nI, isL, isD]⟩)
  · skip
    refine rw_go hX [(4, .iload_n 0), (5, .bipush 99)] (by decide +kernel) (Ps := []) (pc' := 7) (lv' := [(0, .int x)]) (st' := [.int (nI 99), .int x]) (σ' := σ) rfl True.intro ?_
    refine rw_icmp hX (tgt := 14) (cnd := .gt) (off := 7) (by decide +kernel) (by decide) (fun h7 => ?_) (fun h7 => ?_)
    · skip
      refine rw_go hX [(14, .iconst 0)] (by decide +kernel) (Ps := []) (pc' := 15) (lv' := [(0, .int x)]) (st' := [.int (nI 0)]) (σ' := σ) rfl True.intro ?_
      exact rw_zret hX (by decide +kernel) (Or.inl rfl) (⟨rfl, by clear hX; grind [bz, cz, cc2, nI, isL, isD]⟩)
    · skip
      refine rw_go hX [(10, .iconst 1), (11, .goto 4)] (by decide +kernel) (Ps := []) (pc' := 15) (lv' := [(0, .int x)]) (st' := [.int (nI 1)]) (σ' := σ) rfl True.intro ?_
      exact rw_zret hX (by decide +kernel) (Or.inr rfl) (⟨rfl, by clear hX; grind [bz, cz, cc2, nI, isL, isD]⟩)
set_option maxRecDepth 20000 in
set_option maxHeartbeats 4000000 in
theorem c_X9_isByte (l : Launch) (G : Gl) (σ : Mm) (x : Int32) : AMi l G 0 mX9_isByte [.int x] σ (fun r σ' => σ' = σ ∧ r = bz (decide (0 ≤ x ∧ x ≤ 255))) := by
  refine rw_inI 9 (by decide +kernel) rfl rfl ?_
  intro E hE hX
  subst hE
  refine rw_go hX [(0, .iload_n 0)] (by decide +kernel) (Ps := []) (pc' := 1) (lv' := [(0, .int x)]) (st' := [.int x]) (σ' := σ) rfl True.intro ?_
  refine rw_if hX (tgt := 15) (cnd := .lt) (off := 14) (by decide +kernel) (by decide) (fun h1 => ?_) (fun h1 => ?_)
  · skip
    refine rw_go hX [(15, .iconst 0)] (by decide +kernel) (Ps := []) (pc' := 16) (lv' := [(0, .int x)]) (st' := [.int (nI 0)]) (σ' := σ) rfl True.intro ?_
    exact rw_zret hX (by decide +kernel) (Or.inl rfl) (⟨rfl, by clear hX; grind [bz, cz, cc2, nI, isL, isD]⟩)
  · skip
    refine rw_go hX [(4, .iload_n 0), (5, .sipush 255)] (by decide +kernel) (Ps := []) (pc' := 8) (lv' := [(0, .int x)]) (st' := [.int (nI 255), .int x]) (σ' := σ) rfl True.intro ?_
    refine rw_icmp hX (tgt := 15) (cnd := .gt) (off := 7) (by decide +kernel) (by decide) (fun h8 => ?_) (fun h8 => ?_)
    · skip
      refine rw_go hX [(15, .iconst 0)] (by decide +kernel) (Ps := []) (pc' := 16) (lv' := [(0, .int x)]) (st' := [.int (nI 0)]) (σ' := σ) rfl True.intro ?_
      exact rw_zret hX (by decide +kernel) (Or.inl rfl) (⟨rfl, by clear hX; grind [bz, cz, cc2, nI, isL, isD]⟩)
    · skip
      refine rw_go hX [(11, .iconst 1), (12, .goto 4)] (by decide +kernel) (Ps := []) (pc' := 16) (lv' := [(0, .int x)]) (st' := [.int (nI 1)]) (σ' := σ) rfl True.intro ?_
      exact rw_zret hX (by decide +kernel) (Or.inr rfl) (⟨rfl, by clear hX; grind [bz, cz, cc2, nI, isL, isD]⟩)
set_option maxRecDepth 20000 in
set_option maxHeartbeats 4000000 in
theorem c_X9_isSheet (l : Launch) (G : Gl) (σ : Mm) (x : Int32) : AMi l G 0 mX9_isSheet [.int x] σ (fun r σ' => σ' = σ ∧ r = bz (decide (0 ≤ x ∧ x ≤ 3))) := by
  refine rw_inI 9 (by decide +kernel) rfl rfl ?_
  intro E hE hX
  subst hE
  refine rw_go hX [(0, .iload_n 0)] (by decide +kernel) (Ps := []) (pc' := 1) (lv' := [(0, .int x)]) (st' := [.int x]) (σ' := σ) rfl True.intro ?_
  refine rw_if hX (tgt := 13) (cnd := .lt) (off := 12) (by decide +kernel) (by decide) (fun h1 => ?_) (fun h1 => ?_)
  · skip
    refine rw_go hX [(13, .iconst 0)] (by decide +kernel) (Ps := []) (pc' := 14) (lv' := [(0, .int x)]) (st' := [.int (nI 0)]) (σ' := σ) rfl True.intro ?_
    exact rw_zret hX (by decide +kernel) (Or.inl rfl) (⟨rfl, by clear hX; grind [bz, cz, cc2, nI, isL, isD]⟩)
  · skip
    refine rw_go hX [(4, .iload_n 0), (5, .iconst 4)] (by decide +kernel) (Ps := []) (pc' := 6) (lv' := [(0, .int x)]) (st' := [.int (nI 4), .int x]) (σ' := σ) rfl True.intro ?_
    refine rw_icmp hX (tgt := 13) (cnd := .ge) (off := 7) (by decide +kernel) (by decide) (fun h6 => ?_) (fun h6 => ?_)
    · skip
      refine rw_go hX [(13, .iconst 0)] (by decide +kernel) (Ps := []) (pc' := 14) (lv' := [(0, .int x)]) (st' := [.int (nI 0)]) (σ' := σ) rfl True.intro ?_
      exact rw_zret hX (by decide +kernel) (Or.inl rfl) (⟨rfl, by clear hX; grind [bz, cz, cc2, nI, isL, isD]⟩)
    · skip
      refine rw_go hX [(9, .iconst 1), (10, .goto 4)] (by decide +kernel) (Ps := []) (pc' := 14) (lv' := [(0, .int x)]) (st' := [.int (nI 1)]) (σ' := σ) rfl True.intro ?_
      exact rw_zret hX (by decide +kernel) (Or.inr rfl) (⟨rfl, by clear hX; grind [bz, cz, cc2, nI, isL, isD]⟩)
set_option maxRecDepth 20000 in
set_option maxHeartbeats 4000000 in
theorem c_X9_isAtoZ (l : Launch) (G : Gl) (σ : Mm) (x : Int32) : AMi l G 0 mX9_isAtoZ [.int x] σ (fun r σ' => σ' = σ ∧ r = bz (isL x)) := by
  refine rw_inI 9 (by decide +kernel) rfl rfl ?_
  intro E hE hX
  subst hE
  refine rw_go hX [(0, .iload_n 0), (1, .bipush 97)] (by decide +kernel) (Ps := []) (pc' := 3) (lv' := [(0, .int x)]) (st' := [.int (nI 97), .int x]) (σ' := σ) rfl True.intro ?_
  refine rw_icmp hX (tgt := 16) (cnd := .lt) (off := 13) (by decide +kernel) (by decide) (fun h3 => ?_) (fun h3 => ?_)
  · skip
    refine rw_go hX [(16, .iconst 0)] (by decide +kernel) (Ps := []) (pc' := 17) (lv' := [(0, .int x)]) (st' := [.int (nI 0)]) (σ' := σ) rfl True.intro ?_
    exact rw_zret hX (by decide +kernel) (Or.inl rfl) (⟨rfl, by clear hX; grind [bz, cz, cc2, nI, isL, isD]⟩)
  · skip
    refine rw_go hX [(6, .iload_n 0), (7, .bipush 122)] (by decide +kernel) (Ps := []) (pc' := 9) (lv' := [(0, .int x)]) (st' := [.int (nI 122), .int x]) (σ' := σ) rfl True.intro ?_
    refine rw_icmp hX (tgt := 16) (cnd := .gt) (off := 7) (by decide +kernel) (by decide) (fun h9 => ?_) (fun h9 => ?_)
    · skip
      refine rw_go hX [(16, .iconst 0)] (by decide +kernel) (Ps := []) (pc' := 17) (lv' := [(0, .int x)]) (st' := [.int (nI 0)]) (σ' := σ) rfl True.intro ?_
      exact rw_zret hX (by decide +kernel) (Or.inl rfl) (⟨rfl, by clear hX; grind [bz, cz, cc2, nI, isL, isD]⟩)
    · skip
      refine rw_go hX [(12, .iconst 1), (13, .goto 4)] (by decide +kernel) (Ps := []) (pc' := 17) (lv' := [(0, .int x)]) (st' := [.int (nI 1)]) (σ' := σ) rfl True.intro ?_
      exact rw_zret hX (by decide +kernel) (Or.inr rfl) (⟨rfl, by clear hX; grind [bz, cz, cc2, nI, isL, isD]⟩)
set_option maxRecDepth 20000 in
set_option maxHeartbeats 4000000 in
theorem c_X9_isDigit (l : Launch) (G : Gl) (σ : Mm) (x : Int32) : AMi l G 0 mX9_isDigit [.int x] σ (fun r σ' => σ' = σ ∧ r = bz (isD x)) := by
  refine rw_inI 9 (by decide +kernel) rfl rfl ?_
  intro E hE hX
  subst hE
  refine rw_go hX [(0, .iload_n 0), (1, .bipush 48)] (by decide +kernel) (Ps := []) (pc' := 3) (lv' := [(0, .int x)]) (st' := [.int (nI 48), .int x]) (σ' := σ) rfl True.intro ?_
  refine rw_icmp hX (tgt := 16) (cnd := .lt) (off := 13) (by decide +kernel) (by decide) (fun h3 => ?_) (fun h3 => ?_)
  · skip
    refine rw_go hX [(16, .iconst 0)] (by decide +kernel) (Ps := []) (pc' := 17) (lv' := [(0, .int x)]) (st' := [.int (nI 0)]) (σ' := σ) rfl True.intro ?_
    exact rw_zret hX (by decide +kernel) (Or.inl rfl) (⟨rfl, by clear hX; grind [bz, cz, cc2, nI, isL, isD]⟩)
  · skip
    refine rw_go hX [(6, .iload_n 0), (7, .bipush 57)] (by decide +kernel) (Ps := []) (pc' := 9) (lv' := [(0, .int x)]) (st' := [.int (nI 57), .int x]) (σ' := σ) rfl True.intro ?_
    refine rw_icmp hX (tgt := 16) (cnd := .gt) (off := 7) (by decide +kernel) (by decide) (fun h9 => ?_) (fun h9 => ?_)
    · skip
      refine rw_go hX [(16, .iconst 0)] (by decide +kernel) (Ps := []) (pc' := 17) (lv' := [(0, .int x)]) (st' := [.int (nI 0)]) (σ' := σ) rfl True.intro ?_
      exact rw_zret hX (by decide +kernel) (Or.inl rfl) (⟨rfl, by clear hX; grind [bz, cz, cc2, nI, isL, isD]⟩)
    · skip
      refine rw_go hX [(12, .iconst 1), (13, .goto 4)] (by decide +kernel) (Ps := []) (pc' := 17) (lv' := [(0, .int x)]) (st' := [.int (nI 1)]) (σ' := σ) rfl True.intro ?_
      exact rw_zret hX (by decide +kernel) (Or.inr rfl) (⟨rfl, by clear hX; grind [bz, cz, cc2, nI, isL, isD]⟩)
set_option maxRecDepth 20000 in
set_option maxHeartbeats 4000000 in
theorem c_X9_isOneOf (l : Launch) (G : Gl) (σ : Mm) (x n : Int32) : AMi l G 0 mX9_isOneOf [.int x, .int n] σ (fun r σ' => σ' = σ ∧ r = bz (decide (0 ≤ x ∧ x < n))) := by
  refine rw_inI 9 (by decide +kernel) rfl rfl ?_
  intro E hE hX
  subst hE
  refine rw_go hX [(0, .iload_n 0)] (by decide +kernel) (Ps := []) (pc' := 1) (lv' := [(0, .int x), (1, .int n)]) (st' := [.int x]) (σ' := σ) rfl True.intro ?_
  refine rw_if hX (tgt := 13) (cnd := .lt) (off := 12) (by decide +kernel) (by decide) (fun h1 => ?_) (fun h1 => ?_)
  · skip
    refine rw_go hX [(13, .iconst 0)] (by decide +kernel) (Ps := []) (pc' := 14) (lv' := [(0, .int x), (1, .int n)]) (st' := [.int (nI 0)]) (σ' := σ) rfl True.intro ?_
    exact rw_zret hX (by decide +kernel) (Or.inl rfl) (⟨rfl, by grind [bz, cz, cc2, nI]⟩)
  · skip
    refine rw_go hX [(4, .iload_n 0), (5, .iload_n 1)] (by decide +kernel) (Ps := []) (pc' := 6) (lv' := [(0, .int x), (1, .int n)]) (st' := [.int n, .int x]) (σ' := σ) rfl True.intro ?_
    refine rw_icmp hX (tgt := 13) (cnd := .ge) (off := 7) (by decide +kernel) (by decide) (fun h6 => ?_) (fun h6 => ?_)
    · skip
      refine rw_go hX [(13, .iconst 0)] (by decide +kernel) (Ps := []) (pc' := 14) (lv' := [(0, .int x), (1, .int n)]) (st' := [.int (nI 0)]) (σ' := σ) rfl True.intro ?_
      exact rw_zret hX (by decide +kernel) (Or.inl rfl) (⟨rfl, by grind [bz, cz, cc2, nI]⟩)
    · skip
      refine rw_go hX [(9, .iconst 1), (10, .goto 4)] (by decide +kernel) (Ps := []) (pc' := 14) (lv' := [(0, .int x), (1, .int n)]) (st' := [.int (nI 1)]) (σ' := σ) rfl True.intro ?_
      exact rw_zret hX (by decide +kernel) (Or.inr rfl) (⟨rfl, by grind [bz, cz, cc2, nI]⟩)
set_option maxRecDepth 20000 in
set_option maxHeartbeats 4000000 in
theorem c_X9_asNumber (l : Launch) (G : Gl) (σ : Mm) (b : Bool) : AMi l G 0 mX9_asNumber [.int (bz b)] σ (fun r σ' => σ' = σ ∧ r = bz b) := by
  refine rw_inI 9 (by decide +kernel) rfl rfl ?_
  intro E hE hX
  subst hE
  refine rw_go hX [(0, .iload_n 0)] (by decide +kernel) (Ps := []) (pc' := 1) (lv' := [(0, .int (bz b))]) (st' := [.int (bz b)]) (σ' := σ) rfl True.intro ?_
  refine rw_if hX (tgt := 8) (cnd := .eq) (off := 7) (by decide +kernel) (by decide) (fun h1 => ?_) (fun h1 => ?_)
  · replace h1 := zb_eqT h1
    refine rw_go hX [(8, .iconst 0)] (by decide +kernel) (Ps := []) (pc' := 9) (lv' := [(0, .int (bz b))]) (st' := [.int (nI 0)]) (σ' := σ) rfl True.intro ?_
    exact rw_iret hX (by decide +kernel) (⟨rfl, by rw [h1]; rfl⟩)
  · replace h1 := zb_eqF h1
    refine rw_go hX [(4, .iconst 1), (5, .goto 4)] (by decide +kernel) (Ps := []) (pc' := 9) (lv' := [(0, .int (bz b))]) (st' := [.int (nI 1)]) (σ' := σ) rfl True.intro ?_
    exact rw_iret hX (by decide +kernel) (⟨rfl, by rw [h1]; rfl⟩)
set_option maxRecDepth 20000 in
set_option maxHeartbeats 4000000 in
theorem c_X9_cellOf (l : Launch) (G : Gl) (σ : Mm) (w i : Int32) : AMi l G 0 mX9_cellOf [.int w, .int i] σ (fun r σ' => σ' = σ ∧ r = if 0 ≤ w ∧ w ≤ 4 ∧ 0 ≤ i ∧ i < 50 then w * 50 + i else -1) := by
  refine rw_inI 9 (by decide +kernel) rfl rfl ?_
  intro E hE hX
  subst hE
  refine rw_go hX [(0, .iload_n 0)] (by decide +kernel) (Ps := []) (pc' := 1) (lv' := [(0, .int w), (1, .int i)]) (st' := [.int w]) (σ' := σ) rfl True.intro ?_
  refine rw_if hX (tgt := 28) (cnd := .lt) (off := 27) (by decide +kernel) (by decide) (fun h1 => ?_) (fun h1 => ?_)
  · skip
    refine rw_go hX [(28, .iconst (-1))] (by decide +kernel) (Ps := []) (pc' := 29) (lv' := [(0, .int w), (1, .int i)]) (st' := [.int (-(nI 1))]) (σ' := σ) rfl True.intro ?_
    exact rw_iret hX (by decide +kernel) (⟨rfl, by grind [cz, cc2, nI]⟩)
  · skip
    refine rw_go hX [(4, .iload_n 0), (5, .iconst 5)] (by decide +kernel) (Ps := []) (pc' := 6) (lv' := [(0, .int w), (1, .int i)]) (st' := [.int (nI 5), .int w]) (σ' := σ) rfl True.intro ?_
    refine rw_icmp hX (tgt := 28) (cnd := .ge) (off := 22) (by decide +kernel) (by decide) (fun h6 => ?_) (fun h6 => ?_)
    · skip
      refine rw_go hX [(28, .iconst (-1))] (by decide +kernel) (Ps := []) (pc' := 29) (lv' := [(0, .int w), (1, .int i)]) (st' := [.int (-(nI 1))]) (σ' := σ) rfl True.intro ?_
      exact rw_iret hX (by decide +kernel) (⟨rfl, by grind [cz, cc2, nI]⟩)
    · skip
      refine rw_go hX [(9, .iload_n 1)] (by decide +kernel) (Ps := []) (pc' := 10) (lv' := [(0, .int w), (1, .int i)]) (st' := [.int i]) (σ' := σ) rfl True.intro ?_
      refine rw_if hX (tgt := 28) (cnd := .lt) (off := 18) (by decide +kernel) (by decide) (fun h10 => ?_) (fun h10 => ?_)
      · skip
        refine rw_go hX [(28, .iconst (-1))] (by decide +kernel) (Ps := []) (pc' := 29) (lv' := [(0, .int w), (1, .int i)]) (st' := [.int (-(nI 1))]) (σ' := σ) rfl True.intro ?_
        exact rw_iret hX (by decide +kernel) (⟨rfl, by grind [cz, cc2, nI]⟩)
      · skip
        refine rw_go hX [(13, .iload_n 1), (14, .bipush 50)] (by decide +kernel) (Ps := []) (pc' := 16) (lv' := [(0, .int w), (1, .int i)]) (st' := [.int (nI 50), .int i]) (σ' := σ) rfl True.intro ?_
        refine rw_icmp hX (tgt := 28) (cnd := .ge) (off := 12) (by decide +kernel) (by decide) (fun h16 => ?_) (fun h16 => ?_)
        · skip
          refine rw_go hX [(28, .iconst (-1))] (by decide +kernel) (Ps := []) (pc' := 29) (lv' := [(0, .int w), (1, .int i)]) (st' := [.int (-(nI 1))]) (σ' := σ) rfl True.intro ?_
          exact rw_iret hX (by decide +kernel) (⟨rfl, by grind [cz, cc2, nI]⟩)
        · skip
          refine rw_go hX [(19, .iload_n 0), (20, .bipush 50), (22, .imul), (23, .iload_n 1), (24, .iadd), (25, .goto 4)] (by decide +kernel) (Ps := []) (pc' := 29) (lv' := [(0, .int w), (1, .int i)]) (st' := [.int ((w * nI 50) + i)]) (σ' := σ) rfl True.intro ?_
          exact rw_iret hX (by decide +kernel) (⟨rfl, by grind [cz, cc2, nI]⟩)
set_option maxRecDepth 20000 in
set_option maxHeartbeats 4000000 in
theorem c_X9_pick (l : Launch) (G : Gl) (σ : Mm) (k n : Nat) (i : Int32) (hk : shapes[k]? = some (.inl (0, n))) (hn : n < 2 ^ 31) : AMi l G 0 mX9_pick [.ref k, .int i] σ (fun r σ' => σ' = σ ∧ r = rpick (σ k) n i) := by
  refine rw_inI 9 (by decide +kernel) rfl rfl ?_
  intro E hE hX
  subst hE
  refine rw_go hX [(0, .iload_n 1)] (by decide +kernel) (Ps := []) (pc' := 1) (lv' := [(0, .ref k), (1, .int i)]) (st' := [.int i]) (σ' := σ) rfl True.intro ?_
  refine rw_if hX (tgt := 16) (cnd := .lt) (off := 15) (by decide +kernel) (by decide) (fun h1 => ?_) (fun h1 => ?_)
  · skip
    refine rw_go hX [(16, .iconst (-1))] (by decide +kernel) (Ps := []) (pc' := 17) (lv' := [(0, .ref k), (1, .int i)]) (st' := [.int (-(nI 1))]) (σ' := σ) rfl True.intro ?_
    exact rw_iret hX (by decide +kernel) (⟨rfl, by simp only [cz, cc2] at *; grind [rpick]⟩)
  · skip
    refine rw_go hX [(4, .iload_n 1), (5, .aload_n 0)] (by decide +kernel) (Ps := []) (pc' := 6) (lv' := [(0, .ref k), (1, .int i)]) (st' := [.ref k, .int i]) (σ' := σ) rfl True.intro ?_
    refine rw_alenS hX hk (by decide +kernel) ?_
    refine rw_icmp hX (tgt := 16) (cnd := .ge) (off := 9) (by decide +kernel) (by decide) (fun h7 => ?_) (fun h7 => ?_)
    · skip
      refine rw_go hX [(16, .iconst (-1))] (by decide +kernel) (Ps := []) (pc' := 17) (lv' := [(0, .ref k), (1, .int i)]) (st' := [.int (-(nI 1))]) (σ' := σ) rfl True.intro ?_
      exact rw_iret hX (by decide +kernel) (⟨rfl, by simp only [cz, cc2] at *; grind [rpick]⟩)
    · skip
      refine rw_go hX [(10, .aload_n 0), (11, .iload_n 1)] (by decide +kernel) (Ps := []) (pc' := 12) (lv' := [(0, .ref k), (1, .int i)]) (st' := [.int i, .ref k]) (σ' := σ) rfl True.intro ?_
      refine rw_ialdS hX hk (by decide +kernel) (ix_in hn (Int32.not_lt.mp h1) (Int32.not_le.mp h7)) ?_
      refine rw_go hX [(13, .goto 4)] (by decide +kernel) (Ps := []) (pc' := 17) (lv' := [(0, .ref k), (1, .int i)]) (st' := [.int (σ k i.toNatClampNeg)]) (σ' := σ) rfl True.intro ?_
      exact rw_iret hX (by decide +kernel) (⟨rfl, by simp only [cz, cc2] at *; grind [rpick]⟩)
set_option maxRecDepth 20000 in
set_option maxHeartbeats 4000000 in
theorem c_X9_place (l : Launch) (G : Gl) (σ : Mm) (k n : Nat) (i v : Int32) (hk : shapes[k]? = some (.inl (0, n))) (hn : n < 2 ^ 31) : AMv l G 0 mX9_place [.ref k, .int i, .int v] σ (fun σ' => σ' = if 0 ≤ i ∧ i < nI n then sw σ k i.toNatClampNeg v else σ) := by
  refine rw_inV 9 (by decide +kernel) rfl rfl ?_
  intro E hE hX
  subst hE
  refine rw_go hX [(0, .iload_n 1)] (by decide +kernel) (Ps := []) (pc' := 1) (lv' := [(0, .ref k), (1, .int i), (2, .int v)]) (st' := [.int i]) (σ' := σ) rfl True.intro ?_
  refine rw_if hX (tgt := 14) (cnd := .lt) (off := 13) (by decide +kernel) (by decide) (fun h1 => ?_) (fun h1 => ?_)
  · skip
    exact rw_vret hX (by decide +kernel) (by simp only [cz, cc2] at *; grind)
  · skip
    refine rw_go hX [(4, .iload_n 1), (5, .aload_n 0)] (by decide +kernel) (Ps := []) (pc' := 6) (lv' := [(0, .ref k), (1, .int i), (2, .int v)]) (st' := [.ref k, .int i]) (σ' := σ) rfl True.intro ?_
    refine rw_alenS hX hk (by decide +kernel) ?_
    refine rw_icmp hX (tgt := 14) (cnd := .ge) (off := 7) (by decide +kernel) (by decide) (fun h7 => ?_) (fun h7 => ?_)
    · skip
      exact rw_vret hX (by decide +kernel) (by simp only [cz, cc2] at *; grind)
    · skip
      refine rw_go hX [(10, .aload_n 0), (11, .iload_n 1), (12, .iload_n 2)] (by decide +kernel) (Ps := []) (pc' := 13) (lv' := [(0, .ref k), (1, .int i), (2, .int v)]) (st' := [.int v, .int i, .ref k]) (σ' := σ) rfl True.intro ?_
      refine rw_iastS hX hk (by decide +kernel) (ix_in hn (Int32.not_lt.mp h1) (Int32.not_le.mp h7)) ?_
      exact rw_vret hX (by decide +kernel) (by simp only [cz, cc2] at *; grind)
