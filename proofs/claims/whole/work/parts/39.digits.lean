theorem it_N : ∀ (k m : Nat), m < 2 ^ 63 → it_10 k (lN m) = lN (m / 10 ^ k)
  | 0, m, _ => by
    show lN m = lN (m / 10 ^ 0)
    rw [Nat.pow_zero, Nat.div_one]
  | k + 1, m, h => by
    show it_10 k (lN m / 10) = _
    rw [show lN m / (10 : Int64) = lN (m / 10) from pk_lDiv (b := 10) h (by decide) (by decide), it_N k (m / 10) (by omega), Nat.div_div_eq_div_mul, Nat.pow_succ, Nat.mul_comm]
/-- how many times more than one digit -/
def nd_N : Nat → Nat → Nat
  | 0, _ => 0
  | f + 1, m => if m ≤ 9 then 0 else nd_N f (m / 10) + 1
theorem nd_LN : ∀ (f m : Nat) (n : Int32), m < 2 ^ 63 → nd_L f (lN m) n = n + nI (nd_N f m)
  | 0, m, n, _ => by
    show n = n + nI 0
    rw [nI_0, Int32.add_zero]
  | f + 1, m, n, h => by
    have c : lN m ≤ 9 ↔ m ≤ 9 := pk_lLE (b := 9) h (by decide)
    unfold nd_L nd_N
    by_cases h9 : m ≤ 9
    · rw [if_pos (c.mpr h9), if_pos h9, nI_0, Int32.add_zero]
    · rw [if_neg (fun q => h9 (c.mp q)), if_neg h9, show lN m / (10 : Int64) = lN (m / 10) from pk_lDiv (b := 10) h (by decide) (by decide), nd_LN f (m / 10) (n + 1) (by omega), nI_succ, Int32.add_assoc, Int32.add_comm 1]
theorem nd_sp : ∀ (f m k : Nat), m < 10 ^ (f + 1) → 1 ≤ k → (m / 10 ^ k = 0 ↔ nd_N f m + 1 ≤ k)
  | 0, m, k, h, hk => by
    have h1 : 10 ^ 1 ≤ 10 ^ k := Nat.pow_le_pow_right (by decide) hk
    have h2 : m / 10 ^ k = 0 := Nat.div_eq_of_lt (by omega)
    exact ⟨fun _ => hk, fun _ => h2⟩
  | f + 1, m, k, h, hk => by
    unfold nd_N
    by_cases h9 : m ≤ 9
    · rw [if_pos h9]
      have h1 : 10 ^ 1 ≤ 10 ^ k := Nat.pow_le_pow_right (by decide) hk
      have h2 : m / 10 ^ k = 0 := Nat.div_eq_of_lt (by omega)
      exact ⟨fun _ => hk, fun _ => h2⟩
    · rw [if_neg h9]
      obtain ⟨k, rfl⟩ : ∃ j, k = j + 1 := ⟨k - 1, by omega⟩
      by_cases k0 : k = 0
      · subst k0
        have h3 : m / 10 ^ (0 + 1) ≠ 0 := by
          show m / 10 ≠ 0
          omega
        exact ⟨fun q => absurd q h3, fun q => by omega⟩
      · have ih := nd_sp f (m / 10) k (by rw [Nat.pow_succ] at h; omega) (by omega)
        rw [show m / 10 ^ (k + 1) = m / 10 / 10 ^ k from by rw [Nat.div_div_eq_div_mul, Nat.pow_succ, Nat.mul_comm], ih]
        omega
theorem dg_i (x : Nat) (h : x < 2 ^ 63) : (lN x - lN x / 10 * 10).toInt32 = nI (x % 10) := by
  rw [show lN x - lN x / (10 : Int64) * 10 = lN (x % 10) from pk_lRem (b := 10) h (by decide) (by decide), lN_i]
theorem nI_nm1 {x : Nat} (h : x < 2 ^ 31) : ¬ nI x = -1 := fun e => by
  have h1 := nI_toInt h
  rw [e] at h1
  have h2 : (-1 : Int32).toInt = -1 := rfl
  omega
/-- the digits before the point: where there is none the program has its sign, else both have the same digit -/
theorem dig_b {m : Nat} {i : Int32} (hm : m < 2 ^ 31) : (i < 0 ∨ ¬ i < nd_L 20 (lN m) 1 → f_X_digitBefore (lN m) i = -1) ∧ (¬ i < 0 → i < nd_L 20 (lN m) 1 → f_X_digitBefore (lN m) i = (it_10 i.toNatClampNeg (lN m) - it_10 i.toNatClampNeg (lN m) / 10 * 10).toInt32 ∧ ¬ f_X_digitBefore (lN m) i = -1) := by
  have hN := nd_LN 20 m 1 (by omega)
  have h10 := (nd_sp 20 m 10 (Nat.lt_of_lt_of_le hm (by decide)) (by decide)).mp (Nat.div_eq_of_lt (Nat.lt_of_lt_of_le hm (by decide)))
  have hN2 : nd_L 20 (lN m) 1 = nI (nd_N 20 m + 1) := by rw [hN, nI_succ, Int32.add_comm]
  rw [hN2]
  unfold f_X_digitBefore
  by_cases c0 : i < 0
  · rw [if_pos c0]
    exact ⟨fun _ => rfl, fun h => absurd c0 h⟩
  · rw [if_neg c0]
    obtain ⟨q, hq, e⟩ := nI_of c0
    have eq2 : i.toNatClampNeg = q := by rw [e]; exact nI_clamp hq
    have cl : i < nI (nd_N 20 m + 1) ↔ q < nd_N 20 m + 1 := by rw [e]; exact nI_ltI hq (by omega)
    have c10 : i < 10 ↔ q < 10 := by rw [e]; exact nI_ltI (b := 10) hq (by decide)
    have cle : i ≤ 0 ↔ q ≤ 0 := by rw [e]; exact nI_leI (b := 0) hq (by decide)
    rw [eq2, it_N q m (by omega)]
    have hx : m / 10 ^ q < 2 ^ 63 := Nat.lt_of_le_of_lt (Nat.div_le_self _ _) (by omega)
    have hd := dg_i (m / 10 ^ q) hx
    have hz : lN (m / 10 ^ q) = 0 ↔ m / 10 ^ q = 0 := pk_lEQ (b := 0) hx (by decide)
    have hne : ¬ (lN (m / 10 ^ q) - lN (m / 10 ^ q) / 10 * 10).toInt32 = -1 := by rw [hd]; exact nI_nm1 (by omega)
    by_cases c1 : q < 10
    · rw [if_pos (c10.mpr c1)]
      by_cases c2 : q ≤ 0
      · rw [if_pos (cle.mpr c2)]
        refine ⟨fun h => ?_, fun _ _ => ⟨rfl, hne⟩⟩
        rcases h with h | h
        · exact absurd h c0
        · exact absurd (cl.mpr (by omega)) h
      · rw [if_neg (fun h => c2 (cle.mp h))]
        have sp := nd_sp 20 m q (Nat.lt_of_lt_of_le hm (by decide)) (by omega)
        by_cases c3 : m / 10 ^ q = 0
        · rw [if_pos (hz.mpr c3)]
          exact ⟨fun _ => rfl, fun _ h => absurd (cl.mp h) (by have := sp.mp c3; omega)⟩
        · rw [if_neg (fun h => c3 (hz.mp h))]
          refine ⟨fun h => ?_, fun _ _ => ⟨rfl, hne⟩⟩
          rcases h with h | h
          · exact absurd h c0
          · exact absurd (cl.mpr (by have := fun w => c3 (sp.mpr w); omega)) h
    · rw [if_neg (fun h => c1 (c10.mp h))]
      exact ⟨fun _ => rfl, fun _ h => absurd (cl.mp h) (by omega)⟩
