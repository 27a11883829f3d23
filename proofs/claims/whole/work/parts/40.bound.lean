/-! how many matches two works have at most -/
def b1N (b : Bool) : Nat := if b = true then 1 else 0
def Dg (S : Nat → Nat → Bool) : Nat → Nat → Nat
  | 0, j => b1N (S 0 j)
  | i + 1, 0 => b1N (S (i + 1) 0)
  | i + 1, j + 1 => Dg S i j + b1N (S (i + 1) (j + 1))
theorem Dg_0 (S : Nat → Nat → Bool) (j : Nat) : Dg S 0 j = b1N (S 0 j) := by unfold Dg; rfl
theorem Dg_c (S : Nat → Nat → Bool) (i : Nat) : Dg S (i + 1) 0 = b1N (S (i + 1) 0) := by unfold Dg; rfl
theorem Dg_1 (S : Nat → Nat → Bool) (i j : Nat) : Dg S (i + 1) (j + 1) = Dg S i j + b1N (S (i + 1) (j + 1)) := by rw [Dg]
theorem b1N_le (b : Bool) : b1N b ≤ 1 := by cases b <;> decide
theorem Dg_le {S : Nat → Nat → Bool} (h : ∀ i j, S i j = true → S (i + 1) (j + 1) = false ∧ S (i + 2) (j + 2) = false) : ∀ i j, Dg S i j ≤ min i j / 3 + 1 := by
  intro i
  induction i using Nat.strongRecOn with
  | ind i ih =>
    intro j
    match i, j with
    | 0, j => rw [Dg_0]; have := b1N_le (S 0 j); omega
    | i + 1, 0 => rw [Dg_c]; have := b1N_le (S (i + 1) 0); omega
    | i + 1, j + 1 =>
      rw [Dg_1]
      cases hS : S (i + 1) (j + 1) with
      | false =>
        have := ih i (by omega) j
        simp only [b1N]
        have e : min (i + 1) (j + 1) = min i j + 1 := by omega
        rw [e]
        simp
        omega
      | true =>
        simp only [b1N, if_true]
        match i, j with
        | 0, j =>
          rw [Dg_0]
          cases q : S 0 j with
          | true => rw [(h 0 j q).1] at hS; cases hS
          | false => simp only [b1N]; simp
        | i + 1, 0 =>
          rw [Dg_c]
          cases q : S (i + 1) 0 with
          | true => rw [(h _ _ q).1] at hS; cases hS
          | false => simp only [b1N]; simp
        | i + 1, j + 1 =>
          rw [Dg_1]
          have q1 : S (i + 1) (j + 1) = false := by
            cases q : S (i + 1) (j + 1) with
            | true => rw [(h _ _ q).1] at hS; cases hS
            | false => rfl
          rw [q1]
          match i, j with
          | 0, j =>
            rw [Dg_0]
            cases q : S 0 j with
            | true => rw [(h 0 j q).2] at hS; cases hS
            | false => simp only [b1N]; simp
          | i + 1, 0 =>
            rw [Dg_c]
            cases q : S (i + 1) 0 with
            | true => rw [(h _ _ q).2] at hS; cases hS
            | false => simp only [b1N]; simp
          | i + 1, j + 1 =>
            rw [Dg_1]
            have q2 : S (i + 1) (j + 1) = false := by
              cases q : S (i + 1) (j + 1) with
              | true => rw [(h _ _ q).2] at hS; cases hS
              | false => rfl
            rw [q2]
            have := ih i (by omega) j
            simp only [b1N]
            have e : min (i + 1 + 1 + 1) (j + 1 + 1 + 1) = min i j + 3 := by omega
            rw [e]
            simp
            omega
theorem sN_add (f g : Nat → Nat) : ∀ n, sN (fun k => f k + g k) n = sN f n + sN g n
  | 0 => rfl
  | n + 1 => by rw [sN_1, sN_1, sN_1, sN_add f g n]; omega
theorem sN_m {f g : Nat → Nat} : ∀ {n : Nat}, (∀ k, k < n → f k ≤ g k) → sN f n ≤ sN g n
  | 0, _ => Nat.le_refl 0
  | n + 1, h => by
    have := sN_m (f := f) (g := g) (n := n) (fun k hk => h k (by omega))
    have := h n (by omega)
    rw [sN_1, sN_1]
    omega
theorem sN_e {f g : Nat → Nat} : ∀ {n : Nat}, (∀ k, k < n → f k = g k) → sN f n = sN g n
  | 0, _ => rfl
  | n + 1, h => by rw [sN_1, sN_1, sN_e (fun k hk => h k (by omega)), h n (by omega)]
theorem sN_up (f : Nat → Nat) {m : Nat} : ∀ {n : Nat}, m ≤ n → sN f m ≤ sN f n
  | 0, h => by rw [show m = 0 by omega]; exact Nat.le_refl _
  | n + 1, h => by
    rcases Nat.lt_or_ge n m with g | g
    · rw [show m = n + 1 by omega]; exact Nat.le_refl _
    · rw [sN_1]; have := sN_up f (m := m) g; omega
/-- a row's sum, its first item apart -/
theorem sN_0 (f : Nat → Nat) : ∀ n, sN f (n + 1) = f 0 + sN (fun k => f (k + 1)) n
  | 0 => by rw [sN_1]; show 0 + f 0 = f 0 + 0; omega
  | n + 1 => by rw [sN_1, sN_0 f n, sN_1]; omega
theorem Dg_sum (S : Nat → Nat → Bool) (N : Nat) : ∀ n, sN (fun i => sN (fun j => b1N (S i j)) (N + 1)) (n + 1) = sN (fun j => Dg S n j) (N + 1) + sN (fun i => Dg S i N) n
  | 0 => by
    rw [sN_1, sN_e (f := fun j => Dg S 0 j) (g := fun j => b1N (S 0 j)) (fun k _ => Dg_0 S k)]
    show 0 + _ = _ + 0
    omega
  | n + 1 => by
    have e1 : sN (fun j => Dg S (n + 1) j) (N + 1) = sN (fun j => b1N (S (n + 1) j)) (N + 1) + sN (fun j => Dg S n j) N := by
      rw [sN_0 (fun j => Dg S (n + 1) j) N, sN_0 (fun j => b1N (S (n + 1) j)) N, sN_e (f := fun k => Dg S (n + 1) (k + 1)) (g := fun k => Dg S n k + b1N (S (n + 1) (k + 1))) (fun k _ => Dg_1 S n k), sN_add]
      show Dg S (n + 1) 0 + _ = _
      rw [Dg_c]
      have q9 : sN (fun j => Dg S n j) N = sN (Dg S n) N := rfl
      omega
    rw [sN_1, Dg_sum S N n, e1, sN_1 (fun j => Dg S n j) N, sN_1 (fun i => Dg S i N) n]
    omega
theorem S_833 {S : Nat → Nat → Bool} (h : ∀ i j, S i j = true → (S (i + 1) (j + 1) = false ∧ S (i + 2) (j + 2) = false) ∧ i < 49 ∧ j < 49) {a b : Nat} (ha : a ≤ 50) (hb : b ≤ 50) : sN (fun i => sN (fun j => b1N (S i j)) b) a ≤ 833 := by
  have h49 : ∀ i j, 49 ≤ i ∨ 49 ≤ j → b1N (S i j) = 0 := fun i j g => by
    cases q : S i j with
    | true => have := (h i j q).2; omega
    | false => rfl
  have r1 : ∀ i, sN (fun j => b1N (S i j)) b ≤ sN (fun j => b1N (S i j)) 49 := fun i => by
    have := sN_up (fun j => b1N (S i j)) hb
    rw [sN_1 _ 49, h49 i 49 (Or.inr (Nat.le_refl _))] at this
    exact this
  have r2 : sN (fun i => sN (fun j => b1N (S i j)) b) a ≤ sN (fun i => sN (fun j => b1N (S i j)) 49) 49 := by
    have t1 : sN (fun i => sN (fun j => b1N (S i j)) b) a ≤ sN (fun i => sN (fun j => b1N (S i j)) 49) a := sN_m fun i _ => r1 i
    have t2 := sN_up (fun i => sN (fun j => b1N (S i j)) 49) ha
    rw [sN_1 _ 49] at t2
    have t3 : sN (fun j => b1N (S 49 j)) 49 = 0 := by
      have := sN_le (f := fun j => b1N (S 49 j)) (C := 0) 49 (fun j _ => by rw [h49 49 j (Or.inl (Nat.le_refl _))]; exact Nat.le_refl _)
      omega
    rw [t3] at t2
    omega
  have r3 : sN (fun i => sN (fun j => b1N (S i j)) 49) 49 = sN (fun j => Dg S 48 j) 49 + sN (fun i => Dg S i 48) 48 := Dg_sum S 48 48
  have d := Dg_le (fun i j g => (h i j g).1)
  have m1 : sN (fun j => Dg S 48 j) 49 ≤ sN (fun j => j / 3 + 1) 49 := sN_m fun j hj => by have := d 48 j; rw [show min 48 j = j by omega] at this; exact this
  have m2 : sN (fun i => Dg S i 48) 48 ≤ sN (fun j => j / 3 + 1) 48 := sN_m fun j hj => by have := d j 48; rw [show min j 48 = j by omega] at this; exact this
  have n1 : sN (fun j => j / 3 + 1) 49 = 425 := by decide
  have n2 : sN (fun j => j / 3 + 1) 48 = 408 := by decide
  omega
