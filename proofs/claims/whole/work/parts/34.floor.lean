theorem xor_nn {x y : Int64} (hy : 0 ≤ y.toInt) : 0 ≤ (x ^^^ y) ↔ 0 ≤ x := by
  have h1 : (x ^^^ y).toBitVec.msb = (x.toBitVec.msb ^^ y.toBitVec.msb) := by rw [Int64.toBitVec_xor, BitVec.msb_xor]
  have h2 : y.toBitVec.msb = false := by
    rw [BitVec.msb_eq_toInt]
    exact decide_eq_false (Int.not_lt.mpr hy)
  rw [h2, Bool.xor_false, BitVec.msb_eq_toInt, BitVec.msb_eq_toInt] at h1
  have h3 : (x ^^^ y).toInt < 0 ↔ x.toInt < 0 := decide_eq_decide.mp h1
  rw [Int64.le_iff_toInt_le, Int64.le_iff_toInt_le]
  have z0 : (0 : Int64).toInt = 0 := rfl
  omega
theorem qmul_T {x y : Int64} (hy : 1 ≤ y.toInt) : (x / y * y).toInt = x.toInt.tdiv y.toInt * y.toInt := by
  have hq : (x / y).toInt = x.toInt.tdiv y.toInt := Jvm.Kit.i64_div (fun h => by omega)
  have hb : (x.toInt.tdiv y.toInt * y.toInt).natAbs ≤ x.toInt.natAbs := by
    rw [Int.natAbs_mul, Int.natAbs_tdiv]
    exact Nat.div_mul_le_self _ _
  have l1 := Int64.toInt_lt x
  have l2 := Int64.le_toInt x
  by_cases hm : x.toInt.tdiv y.toInt * y.toInt < 2 ^ 63
  · rw [Jvm.Kit.i64_mul (by rw [hq]; omega) (by rw [hq]; omega), hq]
  · exfalso
    have h1 : x.toInt < 0 := by omega
    have h2 : x.toInt.tdiv y.toInt ≤ 0 := by
      have h3 : (-x.toInt).tdiv y.toInt = -(x.toInt.tdiv y.toInt) := Int.neg_tdiv ..
      have h4 : 0 ≤ (-x.toInt).tdiv y.toInt := Int.tdiv_nonneg (by omega) (by omega)
      omega
    have h5 : x.toInt.tdiv y.toInt * y.toInt ≤ 0 := Int.mul_nonpos_of_nonpos_of_nonneg h2 (by omega)
    omega
/-- floorDiv by a divisor above 0 -/
theorem qd_T {x y : Int64} (hy : 1 ≤ y.toInt) : (f_X_quotientDown x y).toInt = x.toInt / y.toInt := by
  have z1 : (1 : Int64).toInt = 1 := rfl
  have z0 : (0 : Int64).toInt = 0 := rfl
  have hq : (x / y).toInt = x.toInt.tdiv y.toInt := Jvm.Kit.i64_div (fun h => by omega)
  have ht := Int.tdiv_eq_ediv (a := x.toInt) (b := y.toInt)
  have hsg : y.toInt.sign = 1 := Int.sign_eq_one_of_pos (by omega)
  unfold f_X_quotientDown
  rw [if_pos (by rw [Int64.le_iff_toInt_le]; omega)]
  unfold f_JM_floorDiv
  by_cases c1 : 0 ≤ (x ^^^ y)
  · rw [if_pos c1]
    have h0 := (xor_nn (x := x) (y := y) (by omega)).mp c1
    rw [Int64.le_iff_toInt_le] at h0
    rw [hq, ht, if_pos (Or.inl (by omega))]
    omega
  · rw [if_neg c1]
    have h0 : ¬ 0 ≤ x := fun q => c1 ((xor_nn (by omega)).mpr q)
    rw [Int64.le_iff_toInt_le] at h0
    by_cases c2 : x / y * y = x
    · rw [if_pos c2]
      have h1 : x.toInt.tdiv y.toInt * y.toInt = x.toInt := by rw [← qmul_T hy, c2]
      have h2 : y.toInt ∣ x.toInt := ⟨x.toInt.tdiv y.toInt, by rw [Int.mul_comm]; exact h1.symm⟩
      rw [hq, ht, if_pos (Or.inr h2)]
      omega
    · rw [if_neg c2]
      have h2 : ¬ y.toInt ∣ x.toInt := fun hd => c2 (Int64.toInt_inj.mp (by rw [qmul_T hy, Int.tdiv_mul_cancel hd]))
      rw [if_neg (by intro h; rcases h with h | h; omega; exact h2 h), hsg] at ht
      have l2 := Int64.le_toInt x
      have h3 : -2 ^ 63 ≤ x.toInt / y.toInt := by
        have := Int.ediv_mul_le x.toInt (show y.toInt ≠ 0 by omega)
        have h5 : x.toInt ≤ x.toInt / y.toInt := by
          have h6 := Int.lt_ediv_add_one_mul_self x.toInt (show 0 < y.toInt by omega)
          rcases Int.lt_or_le (x.toInt / y.toInt) x.toInt with h7 | h7
          · exfalso
            have h8 : (x.toInt / y.toInt + 1) * y.toInt ≤ (x.toInt / y.toInt + 1) * 1 := Int.mul_le_mul_of_nonpos_left (by omega) (by omega)
            omega
          · exact h7
        omega
      rw [Jvm.Kit.i64_sub (by rw [hq, z1, ht]; omega) (by rw [hq, z1, ht]; have := Int.ediv_neg_of_neg_of_pos (show x.toInt < 0 by omega) (show 0 < y.toInt by omega); omega), hq, z1, ht]
      omega
/-- floorMod by a divisor above 0 -/
theorem rd_T {x y : Int64} (hy : 1 ≤ y.toInt) : (f_X_restOf x y).toInt = x.toInt % y.toInt := by
  have z0 : (0 : Int64).toInt = 0 := rfl
  have hm : (x - x / y * y).toInt = x.toInt.tmod y.toInt := Jvm.Kit.i64_rem x y
  have ht := Int.tmod_eq_emod (a := x.toInt) (b := y.toInt)
  have hna : (y.toInt.natAbs : Int) = y.toInt := by omega
  unfold f_X_restOf
  rw [if_pos (by rw [Int64.le_iff_toInt_le]; have : (1 : Int64).toInt = 1 := rfl; omega)]
  unfold f_JM_floorMod
  have hb1 := Int.emod_nonneg x.toInt (show y.toInt ≠ 0 by omega)
  have hb2 := Int.emod_lt_of_pos x.toInt (show 0 < y.toInt by omega)
  by_cases c1 : 0 ≤ (x ^^^ y)
  · rw [if_pos c1]
    have h0 := (xor_nn (x := x) (y := y) (by omega)).mp c1
    rw [Int64.le_iff_toInt_le] at h0
    rw [hm, ht, if_pos (Or.inl (by omega))]
    omega
  · rw [if_neg c1]
    have h0 : ¬ 0 ≤ x := fun q => c1 ((xor_nn (by omega)).mpr q)
    rw [Int64.le_iff_toInt_le] at h0
    by_cases c2 : x - x / y * y = 0
    · rw [if_pos c2]
      have h1 : x.toInt.tmod y.toInt = 0 := by rw [← hm, c2]; rfl
      have h2 : y.toInt ∣ x.toInt := Int.dvd_of_tmod_eq_zero h1
      rw [hm, ht, if_pos (Or.inr h2)]
      omega
    · rw [if_neg c2]
      have h2 : ¬ y.toInt ∣ x.toInt := fun hd => c2 (Int64.toInt_inj.mp (by rw [hm, Int.tmod_eq_zero_of_dvd hd]; rfl))
      rw [if_neg (by intro h; rcases h with h | h; omega; exact h2 h), hna] at ht
      have l := Int64.toInt_lt y
      rw [Jvm.Kit.i64_add (by rw [hm, ht]; omega) (by rw [hm, ht]; omega), hm, ht]
      omega
/-- the weights of both sides -/
def IW (we mw : Nat → Int64) (k : Int32) : Prop := 0 ≤ k.toInt ∧ k.toInt ≤ (16 : Nat) ∧ ∀ j : Nat, (j : Int) < k.toInt → we j = mw j ∧ 0 ≤ (we j).toInt ∧ (we j).toInt ≤ 1000000
theorem weight_ag {we mw : Nat → Int64} {k : Int32} {w : Int64} (h : IW we mw k) : ∃ (r : Int32) (we2 mw2 : Nat → Int64) (k2 : Int32), f_X_weight we k w = (r, we2, k2) ∧ f_M_weight mw k w = (r, 0, mw2, k2) ∧ IW we2 mw2 k2 := by
  obtain ⟨h0, h1, hj⟩ := h
  have e16 : (16 : Int32).toInt = 16 := rfl
  have e1 : (1 : Int32).toInt = 1 := rfl
  have z0 : (0 : Int64).toInt = 0 := rfl
  have zm : (1000000 : Int64).toInt = 1000000 := rfl
  unfold f_X_weight f_M_weight
  by_cases c1 : k = 16
  · have c2 : ¬ k < 16 := by rw [c1]; decide
    simp only [if_pos c1, if_neg c2]
    refine ⟨0, we, mw, k, ?_, rfl, h0, h1, hj⟩
    repeat' split
    all_goals rfl
  · have c3 : k.toInt ≠ 16 := fun e => c1 (Int32.toInt_inj.mp e)
    have c2 : k < 16 := by rw [Int32.lt_iff_toInt_lt]; omega
    simp only [if_neg c1, if_pos c2]
    by_cases c4 : w < 0
    · simp only [if_pos c4]
      exact ⟨0, we, mw, k, rfl, rfl, h0, h1, hj⟩
    · simp only [if_neg c4]
      by_cases c5 : 1000000 < w
      · have c6 : ¬ w ≤ 1000000 := by rw [Int64.lt_iff_toInt_lt] at c5; rw [Int64.le_iff_toInt_le]; omega
        simp only [if_pos c5, if_neg c6]
        exact ⟨0, we, mw, k, rfl, rfl, h0, h1, hj⟩
      · have c6 : w ≤ 1000000 := by rw [Int64.lt_iff_toInt_lt] at c5; rw [Int64.le_iff_toInt_le]; omega
        simp only [if_neg c5, if_pos c6]
        have en : (k + 1).toInt = k.toInt + 1 := Jvm.Kit.i32_add (by omega) (by omega)
        have ec := cl_le h0
        refine ⟨1, _, _, _, rfl, rfl, by omega, by omega, fun j hj2 => ?_⟩
        simp only [updL_at]
        rw [Int64.lt_iff_toInt_lt] at c4 c5
        by_cases hjn : j = k.toNatClampNeg
        · simp only [if_pos hjn]; exact ⟨trivial, by omega, by omega⟩
        · simp only [if_neg hjn]; exact hj j (by omega)
