theorem ix_t {t : Nat} {r : Int32} (ht : t < 4) (h0 : 0 ≤ r.toInt) (h1 : r.toInt ≤ 16) : (16 * nI t + r).toNatClampNeg = 16 * t + r.toNatClampNeg := by
  have e := i16 (t := nI t) ht rfl h0 h1
  have a := cl_le (tc := 16 * nI t + r) (by omega)
  have b := cl_le h0
  omega
theorem ix_t1 {t : Nat} {r : Int32} (ht : t < 4) (h0 : 1 ≤ r.toInt) (h1 : r.toInt ≤ 16) : (16 * nI t + r - 1).toNatClampNeg = 16 * t + (r - 1).toNatClampNeg := by
  have e := i16 (t := nI t) ht rfl (show 0 ≤ r.toInt by omega) h1
  have z1 : (1 : Int32).toInt = 1 := rfl
  have e2 : (16 * nI t + r - 1).toInt = (16 * nI t + r).toInt - 1 := Jvm.Kit.i32_sub (by omega) (by omega)
  have e3 : (r - 1).toInt = r.toInt - 1 := Jvm.Kit.i32_sub (by omega) (by omega)
  have a := cl_le (tc := 16 * nI t + r - 1) (by omega)
  have b := cl_le (tc := r - 1) (by omega)
  omega
theorem near_eq (x : Int64) : f_T_isInside x = f_M_isNear x := rfl
theorem near_b {x : Int64} (h : ¬ f_T_isInside x = 0) : -10000 ≤ x.toInt ∧ x.toInt ≤ 10000 := by
  unfold f_T_isInside at h
  by_cases c1 : x < -10000
  · rw [if_pos c1] at h; exact absurd rfl h
  · rw [if_neg c1] at h
    by_cases c2 : 10000 < x
    · rw [if_pos c2] at h; exact absurd rfl h
    · rw [Int64.lt_iff_toInt_lt] at c1 c2
      have z1 : (-10000 : Int64).toInt = -10000 := rfl
      have z2 : (10000 : Int64).toInt = 10000 := rfl
      omega
/-- what a table says of another stays -/
def IK (rw_ rw2 : Nat → Int32) (mx my bl mx2 my2 bl2 : Nat → Int64) (t : Nat) : Prop := ∀ v : Nat, v < 4 → v ≠ t → rw2 v = rw_ v ∧ bl2 v = bl v ∧ ∀ j : Nat, j < 16 → mx2 (16 * v + j) = mx (16 * v + j) ∧ my2 (16 * v + j) = my (16 * v + j)
theorem row_put {xs ys : Nat → Int64} {tb : Int64} {tc : Int32} {rw_ : Nat → Int32} {mx my bl : Nat → Int64} {t : Nat} {x y b : Int64} (ht : t < 4) (h : IT xs ys tb tc rw_ mx my bl t) (c16 : tc.toInt < 16) (hb1 : 1 ≤ b.toInt) (hb2 : b.toInt ≤ 100) (hx : -10000 ≤ x.toInt ∧ x.toInt ≤ 10000) (hy : -10000 ≤ y.toInt ∧ y.toInt ≤ 10000) (hbe : 0 < tc.toInt → b = tb) (hgt : 0 < tc.toInt → (xs (tc - 1).toNatClampNeg).toInt < x.toInt) :
    IT (vp_updL xs tc.toNatClampNeg x) (vp_updL ys tc.toNatClampNeg y) b (tc + 1) (upd rw_ t (tc + 1)) (vp_updL mx (16 * t + tc.toNatClampNeg) x) (vp_updL my (16 * t + tc.toNatClampNeg) y) (vp_updL bl t b) t ∧ IK rw_ (upd rw_ t (tc + 1)) mx my bl (vp_updL mx (16 * t + tc.toNatClampNeg) x) (vp_updL my (16 * t + tc.toNatClampNeg) y) (vp_updL bl t b) t := by
  obtain ⟨h0, h1, h2, h3, h4, h5⟩ := h
  have z1 : (1 : Int32).toInt = 1 := rfl
  have en : (tc + 1).toInt = tc.toInt + 1 := Jvm.Kit.i32_add (by omega) (by omega)
  have ec := cl_le h0
  refine ⟨⟨by omega, by omega, by simp [updI_at], fun _ => ⟨by simp [updL_at], hb1, hb2⟩, fun j hj => ?_, fun j hj => ?_⟩, fun v hv hvt => ⟨by simp [updI_at, hvt], by simp [updL_at, hvt], fun j hj => ?_⟩⟩
  · simp only [updL_at]
    by_cases e : j = tc.toNatClampNeg
    · subst e
      simp only [if_true]
      exact ⟨trivial, trivial, hx.1, hx.2, hy.1, hy.2⟩
    · rw [if_neg e, if_neg e, if_neg (by omega), if_neg (by omega)]
      exact h4 j (by omega)
  · simp only [updL_at]
    by_cases e : j + 1 = tc.toNatClampNeg
    · rw [if_pos e, if_neg (by omega)]
      have e3 : (tc - 1).toInt = tc.toInt - 1 := Jvm.Kit.i32_sub (by omega) (by omega)
      have b9 := cl_le (tc := tc - 1) (by omega)
      have e4 : (tc - 1).toNatClampNeg = j := by omega
      rw [← e4]
      exact hgt (by omega)
    · rw [if_neg (by omega), if_neg e]
      exact h5 j (by omega)
  · simp only [updL_at]
    rw [if_neg (by omega), if_neg (by omega)]
    exact ⟨rfl, rfl⟩
