theorem abs_eq (x : Int64) : f_abs x = f_abm x := by
  unfold f_abs f_abm
  by_cases h : 0 < x
  · rw [if_pos h, if_pos (by rw [Int64.lt_iff_toInt_lt] at h; rw [Int64.le_iff_toInt_le]; omega)]
  · rw [if_neg h]
    by_cases h0 : 0 ≤ x
    · rw [if_pos h0]
      have e : x = 0 := by
        apply Int64.toInt_inj.mp
        rw [Int64.lt_iff_toInt_lt] at h
        rw [Int64.le_iff_toInt_le] at h0
        omega
      subst e
      rfl
    · rw [if_neg h0]
theorem cd_eq (x y : Int64) : f_X_commonDivisor x y = f_M_common x y := by
  unfold f_X_commonDivisor f_M_common
  rw [abs_eq, abs_eq]
theorem abm_T {x : Int64} (hx : x.toInt ≠ -2 ^ 63) : (f_abm x).toInt = (x.toInt.natAbs : Int) := by
  unfold f_abm
  by_cases h : 0 ≤ x
  · rw [if_pos h]
    rw [Int64.le_iff_toInt_le] at h
    have e0 : (0 : Int64).toInt = 0 := rfl
    omega
  · rw [if_neg h, Jvm.Kit.i64_neg hx]
    rw [Int64.le_iff_toInt_le] at h
    have e0 : (0 : Int64).toInt = 0 := rfl
    omega
/-- what both call the common divisor is the greatest one -/
theorem cm_T {x y : Int64} (hx : x.toInt ≠ -2 ^ 63) (hy : y.toInt ≠ -2 ^ 63) : (f_M_common x y).toInt = (Nat.gcd x.toInt.natAbs y.toInt.natAbs : Nat) := by
  have h1 := abm_T hx
  have h2 := abm_T hy
  have h3 := eu_LN 1000 (f_abm x) (f_abm y) (by rw [h1]; omega) (by rw [h2]; omega)
  have h4 := eu_size 1000 (f_abm x) (f_abm y) (eu_Dall _ _)
  unfold f_M_common
  rw [h1, h2] at h4
  simp only [Int.natAbs_natCast] at h4
  omega
theorem div_neg {x g : Int64} (hx : x.toInt ≠ -2 ^ 63) (hg : 0 < g.toInt) : x / (-g) = (-x) / g := by
  apply Int64.toInt_inj.mp
  have hl := Int64.toInt_lt g
  have hgn : (-g).toInt = -g.toInt := Jvm.Kit.i64_neg (by omega)
  rw [Jvm.Kit.i64_div (fun h => hx h.1), Jvm.Kit.i64_div (fun h => by omega), hgn, Jvm.Kit.i64_neg hx, Int.tdiv_neg, Int.neg_tdiv]
/-- the above and the below in lowest terms -/
def lo_U (x y : Int64) : Int64 := (if 0 ≤ y then x else -x) / f_M_common x y
def lo_D (x y : Int64) : Int64 := (if 0 ≤ y then y else -y) / f_M_common x y
theorem lo_D1 {x y : Int64} (hx : x.toInt ≠ -2 ^ 63) (hy : y.toInt ≠ -2 ^ 63) (h0 : ¬ y = 0) : 1 ≤ (lo_D x y).toInt ∧ 1 ≤ (f_M_common x y).toInt := by
  have hg := cm_T hx hy
  have hyn : y.toInt.natAbs ≠ 0 := fun e => h0 (Int64.toInt_inj.mp (by rw [Int.natAbs_eq_zero.mp e]; rfl))
  have hgp : 0 < Nat.gcd x.toInt.natAbs y.toInt.natAbs := Nat.gcd_pos_of_pos_right _ (Nat.pos_of_ne_zero hyn)
  have hle : Nat.gcd x.toInt.natAbs y.toInt.natAbs ≤ y.toInt.natAbs := Nat.gcd_le_right _ (Nat.pos_of_ne_zero hyn)
  refine ⟨?_, by omega⟩
  have e : (if 0 ≤ y then y else -y).toInt = (y.toInt.natAbs : Int) := abm_T hy
  unfold lo_D
  rw [lg_ldiv_nonneg (by rw [e]; omega) (by omega), e, hg]
  have h1 : 1 ≤ y.toInt.natAbs / Nat.gcd x.toInt.natAbs y.toInt.natAbs := (Nat.one_le_div_iff hgp).mpr hle
  have h2 : ((y.toInt.natAbs : Int) / (Nat.gcd x.toInt.natAbs y.toInt.natAbs : Nat)) = ((y.toInt.natAbs / Nat.gcd x.toInt.natAbs y.toInt.natAbs : Nat) : Int) := rfl
  omega
/-- whether an amount is too large -/
def lo_big (x y : Int64) : Prop := 2147483647 < lo_U x y ∨ lo_U x y < -2147483647 ∨ 2147483647 < lo_D x y
theorem make_no {up dn : Nat → Int64} {mu : Nat → Int32} {n : Int32} {x y : Int64} {z : Int32} (h : lo_big x y ∨ n = 500) : f_M_make up dn mu n x y z = (-2, up, dn, mu, n) := by
  unfold lo_big lo_U lo_D at h
  unfold f_M_make
  by_cases c1 : 0 ≤ y
  · simp only [if_pos c1] at h ⊢
    repeat' split
    all_goals first | rfl | (exfalso; simp_all)
  · simp only [if_neg c1] at h ⊢
    repeat' split
    all_goals first | rfl | (exfalso; simp_all)
theorem make_yes {up dn : Nat → Int64} {mu : Nat → Int32} {n : Int32} {x y : Int64} {z : Int32} (h : ¬ lo_big x y) (hn : ¬ n = 500) : f_M_make up dn mu n x y z = (n + 1 - 1, vp_updL up n.toNatClampNeg (lo_U x y), vp_updL dn n.toNatClampNeg (lo_D x y), upd mu n.toNatClampNeg z, n + 1) := by
  unfold lo_big at h
  unfold f_M_make lo_U lo_D at *
  by_cases c1 : 0 ≤ y
  · simp only [if_pos c1] at h ⊢
    repeat' split
    all_goals first | rfl | (exfalso; simp_all)
  · simp only [if_neg c1] at h ⊢
    repeat' split
    all_goals first | rfl | (exfalso; simp_all)
theorem keep_no {ab be : Nat → Int64} {un : Nat → Int32} {n : Int32} {x y : Int64} {z : Int32} (hx : x.toInt ≠ -2 ^ 63) (hy : y.toInt ≠ -2 ^ 63) (h0 : ¬ y = 0) (h : lo_big x y ∨ ¬ n < 500) : f_X_keep ab be un n x y z = (-2, ab, be, un, n) := by
  have hd := lo_D1 hx hy h0
  have e1 : x / (-(f_M_common x y)) = (-x) / f_M_common x y := div_neg hx (by omega)
  have e2 : y / (-(f_M_common x y)) = (-y) / f_M_common x y := div_neg hy (by omega)
  unfold lo_big lo_U lo_D at h
  unfold f_X_keep
  rw [cd_eq, e1, e2]
  by_cases c1 : 0 ≤ y
  · simp only [if_pos c1] at h ⊢
    repeat' split
    all_goals first | rfl | (exfalso; rename_i q1 q2 q3 q4 q5 q6; rcases h with (h | h | h) | h <;> first | exact absurd h q4 | exact absurd h q3 | exact absurd h q5 | exact h q2 | (rw [Int64.lt_iff_toInt_lt] at h; rw [Int64.le_iff_toInt_le] at q6; omega))
  · simp only [if_neg c1] at h ⊢
    repeat' split
    all_goals first | rfl | (exfalso; rename_i q1 q2 q3 q4 q5 q6; rcases h with (h | h | h) | h <;> first | exact absurd h q4 | exact absurd h q3 | exact absurd h q5 | exact h q2 | (rw [Int64.lt_iff_toInt_lt] at h; rw [Int64.le_iff_toInt_le] at q6; omega))
theorem keep_yes {ab be : Nat → Int64} {un : Nat → Int32} {n : Int32} {x y : Int64} {z : Int32} (hx : x.toInt ≠ -2 ^ 63) (hy : y.toInt ≠ -2 ^ 63) (h0 : ¬ y = 0) (h : ¬ lo_big x y) (hn : n < 500) : f_X_keep ab be un n x y z = (n + 1 - 1, vp_updL ab n.toNatClampNeg (lo_U x y), vp_updL be n.toNatClampNeg (lo_D x y), upd un n.toNatClampNeg z, n + 1) := by
  have hd := lo_D1 hx hy h0
  have e1 : x / (-(f_M_common x y)) = (-x) / f_M_common x y := div_neg hx (by omega)
  have e2 : y / (-(f_M_common x y)) = (-y) / f_M_common x y := div_neg hy (by omega)
  have g1 : ¬ f_M_common x y < 1 := by
    rw [Int64.lt_iff_toInt_lt]
    have : (1 : Int64).toInt = 1 := rfl
    omega
  have g2 : ¬ lo_D x y < 1 := by
    rw [Int64.lt_iff_toInt_lt]
    have : (1 : Int64).toInt = 1 := rfl
    omega
  have g3 : lo_D x y ≤ 2147483647 := by
    have h3 : ¬ 2147483647 < lo_D x y := fun q => h (Or.inr (Or.inr q))
    rw [Int64.lt_iff_toInt_lt] at h3
    rw [Int64.le_iff_toInt_le]
    omega
  have g4 : ¬ lo_U x y < -2147483647 := fun q => h (Or.inr (Or.inl q))
  have g5 : ¬ 2147483647 < lo_U x y := fun q => h (Or.inl q)
  unfold f_X_keep
  rw [cd_eq, e1, e2]
  unfold lo_U lo_D at *
  by_cases c1 : 0 ≤ y
  · simp only [if_pos c1] at g2 g3 g4 g5 ⊢
    rw [if_neg g1, if_pos hn, if_neg g4, if_neg g5, if_neg g2, if_pos g3]
  · simp only [if_neg c1] at g2 g3 g4 g5 ⊢
    rw [if_neg g1, if_pos hn, if_neg g4, if_neg g5, if_neg g2, if_pos g3]
