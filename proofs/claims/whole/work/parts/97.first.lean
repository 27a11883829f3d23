/-! the first memory -/
def n0 : Nat → Int32 := fun _ => nI 0
def s0 : Mm := fun k => bif (Nat.beq k 6 || Nat.beq k 13 || Nat.beq k 20 || Nat.beq k 71) then rl0 else bif (Nat.beq k 64 || Nat.beq k 97) then so0 else bif (Nat.beq k 0 || Nat.beq k 1 || Nat.beq k 8 || Nat.beq k 15 || Nat.beq k 22 || Nat.beq k 23 || Nat.beq k 31 || Nat.beq k 39 || Nat.beq k 40 || Nat.beq k 43 || Nat.beq k 53 || Nat.beq k 61) then n0 else z0
def wX10f (cI cB cO : ClassId) (h : Nat) (q : Nat → Nat) (f92 : Nat → Option Nat) : va_W := [(h, .inr (9, [.ref (q 0), .ref (q 1), .ref (q 2), .ref (q 3), .ref (q 4), .ref (q 5), .int 0, .ref (q 6), .int 0, .int 0, .int 0, .ref (q 7), .ref (q 8), .ref (q 9), .ref (q 10), .ref (q 11), .ref (q 12), .ref (q 13), .ref (q 14), .ref (q 15), .int 0, .ref (q 16), .ref (q 17), .ref (q 18), .ref (q 19), .ref (q 20), .ref (q 21), .ref (q 22), .ref (q 23), .ref (q 24), .ref (q 25), .ref (q 30), .ref (q 31), .ref (q 32), .ref (q 33)])), (q 0, .inl (cI, 250, .inl z0)), (q 1, .inl (cI, 5, .inl z0)), (q 2, .inl (cI, 5, .inl z0)), (q 3, .inl (cI, 5, .inl z0)), (q 4, .inl (cI, 6, .inl rl0)), (q 5, .inl (cI, 50, .inl z0)), (q 6, .inl (cI, 320, .inl z0)), (q 7, .inl (cI, 50, .inl z0)), (q 8, .inl (cI, 250, .inl z0)), (q 9, .inl (cI, 250, .inl z0)), (q 10, .inl (cI, 5, .inl z0)), (q 11, .inl (cI, 250, .inl z0)), (q 12, .inl (cB, 250, .inl z0)), (q 13, .inl (cI, 250, .inl z0)), (q 14, .inl (cB, 250, .inl z0)), (q 15, .inl (cB, 2500, .inl z0)), (q 16, .inl (cI, 1000, .inl z0)), (q 17, .inl (cI, 1000, .inl z0)), (q 18, .inl (cI, 1000, .inl z0)), (q 19, .inl (cB, 1000, .inl z0)), (q 20, .inl (cI, 1001, .inl z0)), (q 21, .inl (cI, 50, .inl z0)), (q 22, .inl (cI, 50, .inl z0)), (q 23, .inl (cB, 50, .inl z0)), (q 24, .inl (cI, 250, .inl z0)), (q 25, .inl (cO, 4, .inr (.inr (.inr (.inr f92))))), (q 25 + 1, .inl (cI, 40, .inl z0)), (q 25 + 2, .inl (cI, 40, .inl z0)), (q 25 + 3, .inl (cI, 40, .inl z0)), (q 25 + 4, .inl (cI, 40, .inl z0)), (q 30, .inl (cI, 4, .inl so0)), (q 31, .inl (cI, 4, .inl z0)), (q 32, .inl (cI, 100, .inl z0)), (q 33, .inl (cI, 40, .inl z0))]
theorem wX10_f (cI cB cO : ClassId) (h : Nat) (q : Nat → Nat) : wX10 cI cB cO h q = wX10f cI cB cO h q (fun j => if j < 4 then some (q 25 + 1 + j) else none) := rfl
def ad0 (a m9 t0 t1 t2 b : Nat) (q q2 : Nat → Nat) : Nat → Nat := fun k => bif Nat.beq k 0 then a else bif Nat.blt k 66 then q (k - 1) else bif Nat.beq k 66 then m9 else bif Nat.blt k 93 then q2 (k - 67) else bif Nat.blt k 97 then q2 25 + (k - 92) else bif Nat.blt k 101 then q2 (k - 67) else bif Nat.beq k 900 then t0 else bif Nat.beq k 901 then t1 else bif Nat.beq k 902 then t2 else b
theorem ad_92 (a m9 t0 t1 t2 b : Nat) (q q2 : Nat → Nat) : (fun j => (([93, 94, 95, 96] : List Nat)[j]?).map (ad0 a m9 t0 t1 t2 b q q2)) = fun j => if j < 4 then some (q2 25 + 1 + j) else none := by
  funext j
  by_cases h : j < 4
  · rw [if_pos h]
    rcases (show j = 0 ∨ j = 1 ∨ j = 2 ∨ j = 3 by omega) with rfl | rfl | rfl | rfl <;> rfl
  · rw [if_neg h, List.getElem?_eq_none (by simp; omega)]
    rfl
def wsR (G : Gl) (σ : Mm) : List Sh → Nat → va_W
  | [], _ => []
  | sh :: r, k => (G.2.1 k, rw_ent G (σ k) sh) :: wsR G σ r (k + 1)
theorem wsR_at (G : Gl) (σ : Mm) : ∀ (l : List Sh) (k j : Nat), (wsR G σ l k)[j]? = (l[j]?).map fun sh => (G.2.1 (k + j), rw_ent G (σ (k + j)) sh)
  | [], _, _ => by simp [wsR]
  | sh :: r, k, 0 => by simp [wsR]
  | sh :: r, k, j + 1 => by
    simp only [wsR, List.getElem?_cons_succ]
    rw [wsR_at G σ r (k + 1) j, show k + 1 + j = k + (j + 1) by omega]
theorem wsR_e (G : Gl) (σ : Mm) : rw_ws G σ = wsR G σ shapes 0 := by
  apply List.ext_getElem?
  intro j
  rw [wsR_at]
  unfold rw_ws
  rw [List.getElem?_mapIdx, Nat.zero_add]
set_option maxRecDepth 20000 in
set_option maxHeartbeats 400000 in
theorem ws_0 (D : va_G) (cI cB cO : ClassId) (a m9 t0 t1 t2 b : Nat) (q q2 : Nat → Nat) : rw_ws (D, ad0 a m9 t0 t1 t2 b q q2, cI, cB, cO) s0 = wX9 cI cB cO a q ++ wX10 cI cB cO m9 q2 := by
  rw [wX10_f, ← ad_92 a m9 t0 t1 t2 b q q2, wsR_e]
  rfl
theorem J0_s0 : J0 s0 := by
  refine ⟨⟨⟨fun _ _ => rfl, fun _ _ => rfl, fun _ _ => rfl, fun _ _ => rfl, fun _ _ => rfl⟩, ?_⟩, ⟨0, rfl, nI_0.symm, by omega, fun _ _ => rfl⟩, ⟨false, rfl, nI_0.symm, fun z => by cases z⟩, fun s hs => ⟨0, by omega, nI_0.symm, nI_0.symm, rfl, Or.inl ?_, fun j hj => by omega⟩⟩
  · refine wf_mk (fun w _ => ⟨0, by omega, nI_0.symm⟩) (fun w _ => ⟨0, by omega, nI_0.symm⟩) (fun w _ => ⟨0, by omega, nI_0.symm⟩) ⟨3, by omega, by omega, ?_⟩ ⟨2, by omega, by omega, ?_⟩ ⟨6, by omega, by omega, ?_⟩ (Or.inl ?_) ⟨4, by omega, by omega, ?_⟩ ⟨50, by omega, ?_⟩
    · show rl0 0 = nI 3; decide +kernel
    · show rl0 1 = nI 2; decide +kernel
    · show rl0 2 = nI 6; decide +kernel
    · show rl0 3 = -(nI 1); decide +kernel
    · show rl0 4 = nI 4; decide +kernel
    · show rl0 5 = nI 50; decide +kernel
  · show so0 s = -(nI 1)
    rcases (show s = 0 ∨ s = 1 ∨ s = 2 ∨ s = 3 by omega) with rfl | rfl | rfl | rfl <;> decide +kernel
