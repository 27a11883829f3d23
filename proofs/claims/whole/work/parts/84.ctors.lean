/-! new worlds: a row of rows; the contracts of the constructors -/
theorem va_D_app {A : Nat → Prop} {ws w2 : va_W} (h1 : va_D A ws) (h2 : va_D A w2) (hd : ∀ (i j : Nat) (p q : Nat × va_E), ws[i]? = some p → w2[j]? = some q → p.1 ≠ q.1) : va_D A (ws ++ w2) := by
  refine ⟨fun i j p q hi hj hpq => ?_, fun k q hk => ?_⟩
  · rcases Nat.lt_or_ge i ws.length with a | a <;> rcases Nat.lt_or_ge j ws.length with b | b
    · rw [List.getElem?_append_left a] at hi; rw [List.getElem?_append_left b] at hj; exact h1.1 i j p q hi hj hpq
    · rw [List.getElem?_append_left a] at hi; rw [List.getElem?_append_right b] at hj; exact absurd hpq (hd _ _ _ _ hi hj)
    · rw [List.getElem?_append_right a] at hi; rw [List.getElem?_append_left b] at hj; exact absurd hpq.symm (hd _ _ _ _ hj hi)
    · rw [List.getElem?_append_right a] at hi; rw [List.getElem?_append_right b] at hj
      have := h2.1 _ _ p q hi hj hpq
      omega
  · rcases Nat.lt_or_ge k ws.length with a | a
    · rw [List.getElem?_append_left a] at hk; exact h1.2 _ _ hk
    · rw [List.getElem?_append_right a] at hk; exact h2.2 _ _ hk
def z0 : Nat → Int32 := fun _ => 0
def gridW (cI cO : ClassId) (q : Nat) : va_W := [(q, .inl (cO, 4, .inr (.inr (.inr (.inr fun j => if j < 4 then some (q + 1 + j) else none))))), (q + 1, .inl (cI, 40, .inl z0)), (q + 2, .inl (cI, 40, .inl z0)), (q + 3, .inl (cI, 40, .inl z0)), (q + 4, .inl (cI, 40, .inl z0))]
theorem gridW_at {cI cO : ClassId} {q i : Nat} {x : Nat × va_E} (h : (gridW cI cO q)[i]? = some x) : i < 5 ∧ x.1 = q + i := by
  have hi : i < 5 := (List.getElem?_eq_some_iff.mp h).1
  refine ⟨hi, ?_⟩
  rcases (show i = 0 ∨ i = 1 ∨ i = 2 ∨ i = 3 ∨ i = 4 by omega) with rfl | rfl | rfl | rfl | rfl <;> cases h <;> rfl
theorem nw_mna {E : Cf} {D : va_G} {cI cB cO : ClassId} {A : Nat → Prop} {o nL : Nat} {cc : ByteArray} {Q : State → Prop} {pc : Nat} {lv : List (Nat × Value)} {st : List Value} {ws : va_W} {k n idx : Nat} (hX : Cn E D cI cB cO A o cc nL) (hcl : Cond.classLink (rw_cn o) idx "[[I" ∈ gt) (hac : Cond.arrayClass .int ∈ gt) (hd : decode cc pc = .ok (.multianewarray idx 2, 4)) (hc : k + 5 ≤ (Ero E).cells) (hs : n + 164 ≤ (Ero E).slots)
    (kk : ∀ q : Nat, NW E D A nL Q (pc + 4) lv (.ref q :: st) (ws ++ gridW cI cO q) (k + 5) (n + 164)) : NW E D A nL Q pc lv (.int (nI 40) :: .int (nI 4) :: st) ws k n := by
  obtain ⟨p, l, e, ⟨R, cs, sl⟩, s, m, args, below, meth, c⟩ := E
  obtain ⟨hx, hb, hml, hown, hts, hK, ⟨hN2, kA, hkA, hkA2⟩, hA⟩ := hX
  intro H locs ls hP hD hS hl
  refine mz_W (N := 4) (M := 40) hx hb hown (hts _ hcl) hkA hkA2 (show va_RA s cO (.array .int) from (hK.2 2 (cO, .array .int) rfl).2) (show va_RA s cI .int from (hK.2 0 (cI, .int) rfl).2) (hts _ hac) (nI_clamp (by omega)) (nI_clamp (by omega)) (nI_pos (by omega)) (nI_pos (by omega)) (by omega) (by omega) hd hc hs (fun H1 locs1 h3 h4 h5 h6 h7 => ?_)
  have hk : ∀ (k : Nat) (x : Nat × va_E), ws[k]? = some x → H1[x.1]? = H[x.1]? := fun k x hx => h4 x.1 ((hP k x hx).lt)
  refine kk H.size H1 locs1 ls ((hP.kept hk).app fun k x hx => ?_) (va_D_app hD ⟨fun i j p9 q9 hi hj hpq => ?_, fun i q9 hi => ?_⟩ fun i j p9 q9 hi hj hpq => ?_) ⟨Nat.le_trans hS.1 (by omega), fun q g1 g2 => (h4 q (Nat.lt_of_lt_of_le g1 hS.1)).trans (hS.2.1 q g1 g2), fun z hz => ?_⟩ hl
  · obtain ⟨h9, e9⟩ := gridW_at hx
    show va_at D vwCl x H1
    have key : ∀ j, j < 4 → H1[H.size + 1 + j]? = some (arrV cI 40 fun _ => .int 0) := h6
    rcases (show k = 0 ∨ k = 1 ∨ k = 2 ∨ k = 3 ∨ k = 4 by omega) with rfl | rfl | rfl | rfl | rfl <;> cases hx
    · show H1[H.size]? = some (vp_cell cO (4, _))
      rw [h5, vp_cell_q]
      congr 2
      funext j
      by_cases g : j < 4
      · rw [if_pos g, if_pos g]; rfl
      · rw [if_neg g, if_neg g]; rfl
    · exact key 0 (by omega)
    · exact key 1 (by omega)
    · exact key 2 (by omega)
    · exact key 3 (by omega)
  · have a := (gridW_at hi).2
    have b := (gridW_at hj).2
    omega
  · rw [(gridW_at hi).2]
    exact hA _ (Nat.le_trans hS.1 (by omega))
  · have a : p9.1 < H.size := (hP i p9 hi).lt
    have b := (gridW_at hj).2
    omega
  · rcases h7 z hz with g | g
    · exact hS.2.2 z g
    · rw [g]; exact hA _ hS.1
