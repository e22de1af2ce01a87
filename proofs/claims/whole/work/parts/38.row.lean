theorem ix_t {t : Nat} {r : Int32} (ht : t < 4) (h0 : 0 ≤ r.toInt) (h1 : r.toInt ≤ 16) : (16 * nI t + r).toNatClampNeg = 16 * t + r.toNatClampNeg := by
  have e := i16 (t := nI t) ht rfl h0 h1
  have a := cl_le (tc := 16 * nI t + r) (by omega)
  have b := cl_le h0
  omega
theorem ix_t1 {t : Nat} {r : Int32} (ht : t < 4) (h0 : 1 ≤ r.toInt) (h1 : r.toInt ≤ 16) : (16 * nI t + r - 1).toNatClampNeg = 16 * t + (r - 1).toNatClampNeg := by
  have e := i16 (t := nI t) ht rfl (show 0 ≤ r.toInt by omega) h1
  have z1 : (1 : Int32).toInt = 1 := rfl
  have e2 : (16 * nI t + r - 1).toInt = (16 * nI t + r).toInt - 1 := Jvm.Kit.i32_sub (by omega) (by omega)
  have e3 : (r - 1).toInt = r.toInt - 1 := Jvm.Kit.i32_sub (by omega) (by omega)
  have a := cl_le (tc := 16 * nI t + r - 1) (by omega)
  have b := cl_le (tc := r - 1) (by omega)
  omega
theorem near_eq (x : Int64) : f_T_isInside x = f_M_isNear x := rfl
theorem near_b {x : Int64} (h : ¬ f_T_isInside x = 0) : -10000 ≤ x.toInt ∧ x.toInt ≤ 10000 := by
  unfold f_T_isInside at h
  by_cases c1 : x < -10000
  · rw [if_pos c1] at h; exact absurd rfl h
  · rw [if_neg c1] at h
    by_cases c2 : 10000 < x
    · rw [if_pos c2] at h; exact absurd rfl h
    · rw [Int64.lt_iff_toInt_lt] at c1 c2
      have z1 : (-10000 : Int64).toInt = -10000 := rfl
      have z2 : (10000 : Int64).toInt = 10000 := rfl
      omega
/-- what a table says of another stays -/
def IK (rw_ rw2 : Nat → Int32) (mx my bl mx2 my2 bl2 : Nat → Int64) (t : Nat) : Prop := ∀ v : Nat, v < 4 → v ≠ t → rw2 v = rw_ v ∧ bl2 v = bl v ∧ ∀ j : Nat, j < 16 → mx2 (16 * v + j) = mx (16 * v + j) ∧ my2 (16 * v + j) = my (16 * v + j)
theorem row_put {xs ys : Nat → Int64} {tb : Int64} {tc : Int32} {rw_ : Nat → Int32} {mx my bl : Nat → Int64} {t : Nat} {x y b : Int64} (ht : t < 4) (h : IT xs ys tb tc rw_ mx my bl t) (c16 : tc.toInt < 16) (hb1 : 1 ≤ b.toInt) (hb2 : b.toInt ≤ 100) (hx : -10000 ≤ x.toInt ∧ x.toInt ≤ 10000) (hy : -10000 ≤ y.toInt ∧ y.toInt ≤ 10000) (hbe : 0 < tc.toInt → b = tb) (hgt : 0 < tc.toInt → (xs (tc - 1).toNatClampNeg).toInt < x.toInt) :
    IT (vp_updL xs tc.toNatClampNeg x) (vp_updL ys tc.toNatClampNeg y) b (tc + 1) (upd rw_ t (tc + 1)) (vp_updL mx (16 * t + tc.toNatClampNeg) x) (vp_updL my (16 * t + tc.toNatClampNeg) y) (vp_updL bl t b) t ∧ IK rw_ (upd rw_ t (tc + 1)) mx my bl (vp_updL mx (16 * t + tc.toNatClampNeg) x) (vp_updL my (16 * t + tc.toNatClampNeg) y) (vp_updL bl t b) t := by
  obtain ⟨h0, h1, h2, h3, h4, h5⟩ := h
  have z1 : (1 : Int32).toInt = 1 := rfl
  have en : (tc + 1).toInt = tc.toInt + 1 := Jvm.Kit.i32_add (by omega) (by omega)
  have ec := cl_le h0
  refine ⟨⟨by omega, by omega, by simp [updI_at], fun _ => ⟨by simp [updL_at], hb1, hb2⟩, fun j hj => ?_, fun j hj => ?_⟩, fun v hv hvt => ⟨by simp [updI_at, hvt], by simp [updL_at, hvt], fun j hj => ?_⟩⟩
  · simp only [updL_at]
    by_cases e : j = tc.toNatClampNeg
    · subst e
      simp only [if_true]
      exact ⟨trivial, trivial, hx.1, hx.2, hy.1, hy.2⟩
    · rw [if_neg e, if_neg e, if_neg (by omega), if_neg (by omega)]
      exact h4 j (by omega)
  · simp only [updL_at]
    by_cases e : j + 1 = tc.toNatClampNeg
    · rw [if_pos e, if_neg (by omega)]
      have e3 : (tc - 1).toInt = tc.toInt - 1 := Jvm.Kit.i32_sub (by omega) (by omega)
      have b9 := cl_le (tc := tc - 1) (by omega)
      have e4 : (tc - 1).toNatClampNeg = j := by omega
      rw [← e4]
      exact hgt (by omega)
    · rw [if_neg (by omega), if_neg e]
      exact h5 j (by omega)
  · simp only [updL_at]
    rw [if_neg (by omega), if_neg (by omega)]
    exact ⟨rfl, rfl⟩
theorem IK_rf (rw_ : Nat → Int32) (mx my bl : Nat → Int64) (t : Nat) : IK rw_ rw_ mx my bl mx my bl t := fun _ _ _ => ⟨rfl, rfl, fun _ _ => ⟨rfl, rfl⟩⟩
theorem row_ag {xs ys : Nat → Int64} {tb : Int64} {tc : Int32} {rw_ : Nat → Int32} {mx my bl : Nat → Int64} {t : Nat} {x y b : Int64} (ht : t < 4) (h : IT xs ys tb tc rw_ mx my bl t) :
    ∃ (r : Int32) (xs2 ys2 : Nat → Int64) (tb2 : Int64) (tc2 : Int32) (rw2 : Nat → Int32) (mx2 my2 bl2 : Nat → Int64), f_X_row xs ys tb tc x y b = (r, xs2, ys2, tb2, tc2) ∧ f_M_row rw_ mx my bl (nI t) x y b = (r, 0, rw2, mx2, my2, bl2) ∧ IT xs2 ys2 tb2 tc2 rw2 mx2 my2 bl2 t ∧ IK rw_ rw2 mx my bl mx2 my2 bl2 t := by
  obtain ⟨h0, h1, h2, h3, h4, h5⟩ := id h
  have z1 : (1 : Int32).toInt = 1 := rfl
  have z0 : (0 : Int32).toInt = 0 := rfl
  have z16 : (16 : Int32).toInt = 16 := rfl
  have l1 : (1 : Int64).toInt = 1 := rfl
  have l100 : (100 : Int64).toInt = 100 := rfl
  have n0 : ¬ nI t < 0 := nI_pos (by omega)
  have n4 : ¬ (4 : Int32) ≤ nI t := nI_ge (b := 4) ht (by decide)
  have no : ∃ (r : Int32) (xs2 ys2 : Nat → Int64) (tb2 : Int64) (tc2 : Int32) (rw2 : Nat → Int32) (mx2 my2 bl2 : Nat → Int64), ((0 : Int32), xs, ys, tb, tc) = (r, xs2, ys2, tb2, tc2) ∧ ((0 : Int32), (0 : Int32), rw_, mx, my, bl) = (r, 0, rw2, mx2, my2, bl2) ∧ IT xs2 ys2 tb2 tc2 rw2 mx2 my2 bl2 t ∧ IK rw_ rw2 mx my bl mx2 my2 bl2 t := ⟨0, xs, ys, tb, tc, rw_, mx, my, bl, rfl, rfl, h, IK_rf _ _ _ _ _⟩
  unfold f_X_row f_M_row f_T_takes f_T_append
  rw [if_neg n0, if_neg n4, nI_clamp (by omega), h2, ← near_eq, ← near_eq]
  by_cases c1 : tc = 16
  · rw [if_pos (by rw [if_pos (by rw [c1]; decide)]), if_pos c1]; exact no
  · have c1' : tc.toInt ≠ 16 := fun e => c1 (Int32.toInt_inj.mp e)
    have c16 : ¬ (16 : Int32) ≤ tc := by rw [Int32.le_iff_toInt_le]; omega
    have c16' : tc < 16 := by rw [Int32.lt_iff_toInt_lt]; omega
    rw [if_neg c1, if_neg c16, if_pos c16']
    by_cases c2 : b < 1
    · rw [if_pos c2, if_pos c2, if_pos rfl]; exact no
    · rw [if_neg c2, if_neg c2]
      by_cases c3 : b ≤ 100
      · have c3' : ¬ 100 < b := by rw [Int64.le_iff_toInt_le] at c3; rw [Int64.lt_iff_toInt_lt]; omega
        rw [if_pos c3, if_neg c3']
        by_cases c4 : f_T_isInside x = 0
        · rw [if_pos c4, if_pos c4, if_pos rfl]; exact no
        · rw [if_neg c4, if_neg c4]
          by_cases c5 : f_T_isInside y = 0
          · rw [if_pos c5, if_pos c5, if_pos rfl]; exact no
          · rw [if_neg c5, if_neg c5]
            rw [Int64.lt_iff_toInt_lt] at c2
            rw [Int64.le_iff_toInt_le] at c3
            have ei := ix_t ht h0 (show tc.toInt ≤ 16 by omega)
            have put := fun hbe hgt => row_put (b := b) ht h (show tc.toInt < 16 by omega) (by omega) (by omega) (near_b c4) (near_b c5) hbe hgt
            by_cases c6 : tc = 0
            · have c6' : tc ≤ 0 := by rw [c6]; decide
              rw [if_pos c6, if_pos c6', if_neg (by decide), ei]
              have p := put (fun q => by rw [c6, z0] at q; omega) (fun q => by rw [c6, z0] at q; omega)
              exact ⟨1, _, _, _, _, _, _, _, _, rfl, rfl, p.1, p.2⟩
            · have c7 : tc.toInt ≠ 0 := fun e => c6 (Int32.toInt_inj.mp e)
              have c6' : ¬ tc ≤ 0 := by rw [Int32.le_iff_toInt_le]; omega
              obtain ⟨g1, -, -⟩ := h3 (by omega)
              have e3 : (tc - 1).toInt = tc.toInt - 1 := Jvm.Kit.i32_sub (by omega) (by omega)
              have b9 := cl_le (tc := tc - 1) (by omega)
              have e8 := (h4 (tc - 1).toNatClampNeg (by omega)).1
              rw [if_neg c6, if_neg c6', g1, ix_t1 ht (by omega) (by omega), ← e8, ei]
              by_cases c8 : b = tb
              · rw [if_pos c8, if_pos c8]
                by_cases c9 : x ≤ xs (tc - 1).toNatClampNeg
                · have c9' : ¬ xs (tc - 1).toNatClampNeg < x := by rw [Int64.le_iff_toInt_le] at c9; rw [Int64.lt_iff_toInt_lt]; omega
                  rw [if_pos c9, if_neg c9', if_pos rfl]; exact no
                · have c9' : xs (tc - 1).toNatClampNeg < x := by rw [Int64.le_iff_toInt_le] at c9; rw [Int64.lt_iff_toInt_lt]; omega
                  rw [if_neg c9, if_pos c9', if_neg (by decide)]
                  rw [Int64.lt_iff_toInt_lt] at c9'
                  have p := put (fun _ => c8) (fun _ => c9')
                  exact ⟨1, _, _, _, _, _, _, _, _, rfl, rfl, p.1, p.2⟩
              · rw [if_neg c8, if_neg c8, if_pos rfl]; exact no
      · have c3' : 100 < b := by rw [Int64.le_iff_toInt_le] at c3; rw [Int64.lt_iff_toInt_lt]; omega
        rw [if_neg c3, if_pos c3', if_pos rfl]; exact no
