/-- Euclid's steps, counted -/
def eu_N : Nat → Nat → Nat → Nat
  | 0, a, _ => a
  | n + 1, a, b => if b = 0 then a else eu_N n b (a % b)
def eu_L : Nat → Int64 → Int64 → Int64
  | 0, a, _ => a
  | n + 1, a, b => if b = 0 then a else eu_L n b (a - a / b * b)
theorem eu_gcd : ∀ (n a b : Nat), b ≤ a → a * b < 2 ^ n → eu_N (n + 1) a b = Nat.gcd a b
  | 0, a, b, h, hb => by
    have h0 : b = 0 := by
      rcases Nat.eq_zero_or_pos b with h0 | h0
      · exact h0
      · exact absurd (Nat.mul_pos (Nat.lt_of_lt_of_le h0 h) h0) (by omega)
    subst h0
    simp [eu_N]
  | n + 1, a, b, h, hb => by
    unfold eu_N
    by_cases h0 : b = 0
    · subst h0; simp
    · rw [if_neg h0]
      have hpos : 0 < b := Nat.pos_of_ne_zero h0
      have hlt := Nat.mod_lt a hpos
      have hdm := Nat.div_add_mod a b
      have hd : 1 ≤ a / b := (Nat.one_le_div_iff hpos).mpr h
      have h1 := Nat.mul_le_mul_left b hd
      have h3 : 2 * (b * (a % b)) < 2 ^ (n + 1) := by
        have h4 : b * (a % b) + b * (a % b) ≤ b * a := by
          rw [← Nat.mul_add]
          exact Nat.mul_le_mul_left b (by omega)
        rw [Nat.mul_comm] at hb
        omega
      rw [eu_gcd n b (a % b) (Nat.le_of_lt hlt) (by rw [Nat.pow_succ] at h3; omega), Nat.gcd_comm a b, Nat.gcd_rec b a, Nat.gcd_comm]
theorem eu_all (a b : Nat) (ha : a < 2 ^ 64) (hb : b < 2 ^ 64) : eu_N 1000 a b = Nat.gcd a b := by
  have hab : a * b < 2 ^ 128 := Nat.lt_of_lt_of_le (Nat.mul_lt_mul'' ha hb) (by decide)
  have hp : (2 : Nat) ^ 128 ≤ 2 ^ 998 := Nat.pow_le_pow_right (by decide) (by decide)
  by_cases h : b ≤ a
  · exact eu_gcd 999 a b h (Nat.lt_of_lt_of_le hab (Nat.le_trans hp (Nat.pow_le_pow_right (by decide) (by decide))))
  · have hlt : a < b := Nat.lt_of_not_le h
    show (if b = 0 then a else eu_N 999 b (a % b)) = _
    rw [if_neg (by omega), Nat.mod_eq_of_lt hlt, eu_gcd 998 b a (Nat.le_of_lt hlt) (by rw [Nat.mul_comm]; exact Nat.lt_of_lt_of_le hab hp), Nat.gcd_comm]
theorem eu_LN : ∀ (n : Nat) (a b : Int64), 0 ≤ a.toInt → 0 ≤ b.toInt → (eu_L n a b).toInt = (eu_N n a.toInt.toNat b.toInt.toNat : Nat)
  | 0, a, b, ha, _ => by
    show a.toInt = ((a.toInt.toNat : Nat) : Int)
    omega
  | n + 1, a, b, ha, hb => by
    unfold eu_L eu_N
    by_cases h0 : b = 0
    · subst h0
      rw [if_pos rfl, if_pos (show (0 : Int64).toInt.toNat = 0 from rfl)]
      exact (Int.toNat_of_nonneg ha).symm
    · have h1 : b.toInt ≠ 0 := fun h => h0 (Int64.toInt_inj.mp h)
      have hr := Jvm.Kit.i64_rem_nonneg (x := a) (y := b) ha
      rw [if_neg h0, if_neg (by omega), eu_LN n b _ hb (by rw [hr]; exact Int.emod_nonneg _ h1), hr]
      rw [Int.toNat_emod ha hb]
