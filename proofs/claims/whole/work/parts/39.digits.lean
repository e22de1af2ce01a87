theorem it_N : ∀ (k m : Nat), m < 2 ^ 63 → it_10 k (lN m) = lN (m / 10 ^ k)
  | 0, m, _ => by
    show lN m = lN (m / 10 ^ 0)
    rw [Nat.pow_zero, Nat.div_one]
  | k + 1, m, h => by
    show it_10 k (lN m / 10) = _
    rw [show lN m / (10 : Int64) = lN (m / 10) from pk_lDiv (b := 10) h (by decide) (by decide), it_N k (m / 10) (by omega), Nat.div_div_eq_div_mul, Nat.pow_succ, Nat.mul_comm]
/-- how many times more than one digit -/
def nd_N : Nat → Nat → Nat
  | 0, _ => 0
  | f + 1, m => if m ≤ 9 then 0 else nd_N f (m / 10) + 1
theorem nd_LN : ∀ (f m : Nat) (n : Int32), m < 2 ^ 63 → nd_L f (lN m) n = n + nI (nd_N f m)
  | 0, m, n, _ => by
    show n = n + nI 0
    rw [nI_0, Int32.add_zero]
  | f + 1, m, n, h => by
    have c : lN m ≤ 9 ↔ m ≤ 9 := pk_lLE (b := 9) h (by decide)
    unfold nd_L nd_N
    by_cases h9 : m ≤ 9
    · rw [if_pos (c.mpr h9), if_pos h9, nI_0, Int32.add_zero]
    · rw [if_neg (fun q => h9 (c.mp q)), if_neg h9, show lN m / (10 : Int64) = lN (m / 10) from pk_lDiv (b := 10) h (by decide) (by decide), nd_LN f (m / 10) (n + 1) (by omega), nI_succ, Int32.add_assoc, Int32.add_comm 1]
theorem nd_sp : ∀ (f m k : Nat), m < 10 ^ (f + 1) → 1 ≤ k → (m / 10 ^ k = 0 ↔ nd_N f m + 1 ≤ k)
  | 0, m, k, h, hk => by
    have h1 : 10 ^ 1 ≤ 10 ^ k := Nat.pow_le_pow_right (by decide) hk
    have h2 : m / 10 ^ k = 0 := Nat.div_eq_of_lt (by omega)
    exact ⟨fun _ => hk, fun _ => h2⟩
  | f + 1, m, k, h, hk => by
    unfold nd_N
    by_cases h9 : m ≤ 9
    · rw [if_pos h9]
      have h1 : 10 ^ 1 ≤ 10 ^ k := Nat.pow_le_pow_right (by decide) hk
      have h2 : m / 10 ^ k = 0 := Nat.div_eq_of_lt (by omega)
      exact ⟨fun _ => hk, fun _ => h2⟩
    · rw [if_neg h9]
      obtain ⟨k, rfl⟩ : ∃ j, k = j + 1 := ⟨k - 1, by omega⟩
      by_cases k0 : k = 0
      · subst k0
        have h3 : m / 10 ^ (0 + 1) ≠ 0 := by
          show m / 10 ≠ 0
          omega
        exact ⟨fun q => absurd q h3, fun q => by omega⟩
      · have ih := nd_sp f (m / 10) k (by rw [Nat.pow_succ] at h; omega) (by omega)
        rw [show m / 10 ^ (k + 1) = m / 10 / 10 ^ k from by rw [Nat.div_div_eq_div_mul, Nat.pow_succ, Nat.mul_comm], ih]
        omega
