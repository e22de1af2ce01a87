theorem fn_ge (xs : Nat → Int64) (d so : Int64) : ∀ (n j : Nat), j ≤ fn_L xs d so n j ∧ fn_L xs d so n j ≤ j + n
  | 0, j => ⟨Nat.le_refl _, Nat.le_refl _⟩
  | n + 1, j => by
    have h := fn_ge xs d so n (j + 1)
    unfold fn_L
    split
    · omega
    · omega
theorem jn_fn {xs mx : Nat → Int64} {d pl : Int64} {t k : Nat} (hj : ∀ j : Nat, j < k → xs j = mx (16 * t + j)) : ∀ (n j : Nat), j + 1 + n ≤ k → jn_L mx d pl n (16 * t + j) + 1 = 16 * t + fn_L xs d pl n (j + 1)
  | 0, j, _ => rfl
  | n + 1, j, h => by
    unfold jn_L fn_L
    rw [show mx (16 * t + j + 1) = xs (j + 1) from (hj (j + 1) (by omega)).symm]
    by_cases c : xs (j + 1) * d < pl
    · rw [if_pos c, if_neg (fun q => by rw [nlt_le] at q; exact q c)]
      exact jn_fn hj n (j + 1) (by omega)
    · rw [if_neg c, if_pos (nlt_le.mpr c)]
      omega
section AGR6
variable {ab be up dn : Nat → Int64} {un mu : Nat → Int32} {n : Int32}
variable {xs ys : Nat → Int64} {tb : Int64} {tc : Int32} {rw_ : Nat → Int32} {mx my bl : Nat → Int64} {t : Nat}
theorem t_n {a : Int32} (h0 : ¬ a < 0) (h4 : a < 4) : ∃ t : Nat, t < 4 ∧ a = nI t := by
  obtain ⟨q, hq, e⟩ := nI_of h0
  rw [e] at h4
  exact ⟨q, (nI_ltI (b := 4) hq (by decide)).mp h4, e⟩
theorem run_b {r : Nat} (hT : IT xs ys tb tc rw_ mx my bl t) (h : (r : Int) + 1 < tc.toInt) : (xs (r + 1) - xs r).toInt = (xs (r + 1)).toInt - (xs r).toInt ∧ 1 ≤ (xs (r + 1)).toInt - (xs r).toInt ∧ (xs (r + 1)).toInt - (xs r).toInt ≤ 20000 := by
  obtain ⟨h0, h1, h2, h3, h4, h5⟩ := hT
  have g1 := h4 r (by omega)
  have g2 := h4 (r + 1) (by omega)
  have g3 := h5 r h
  refine ⟨Jvm.Kit.i64_sub (by omega) (by omega), by omega, by omega⟩
theorem den_b {r : Nat} {d : Int64} (hT : IT xs ys tb tc rw_ mx my bl t) (h : (r : Int) + 1 < tc.toInt) (hd1 : 1 ≤ d.toInt) (hd2 : d.toInt ≤ 2147483647) : ((xs (r + 1) - xs r) * d * tb).toInt ≠ -2 ^ 63 ∧ ¬ (xs (r + 1) - xs r) * d * tb = 0 := by
  obtain ⟨e1, e2, e3⟩ := run_b hT h
  obtain ⟨h0, h1, h2, h3, h4, h5⟩ := hT
  obtain ⟨-, g1, g2⟩ := h3 (by omega)
  have m1 := mul_b (show -20000 ≤ (xs (r + 1) - xs r).toInt by omega) (show (xs (r + 1) - xs r).toInt ≤ 20000 by omega) (show -2147483647 ≤ d.toInt by omega) hd2
  have k1 : ((xs (r + 1) - xs r) * d).toInt = (xs (r + 1) - xs r).toInt * d.toInt := Jvm.Kit.i64_mul (by omega) (by omega)
  have m2 := mul_b (show -42949672940000 ≤ ((xs (r + 1) - xs r) * d).toInt by omega) (show ((xs (r + 1) - xs r) * d).toInt ≤ 42949672940000 by omega) (show -100 ≤ tb.toInt by omega) g2
  have k2 : ((xs (r + 1) - xs r) * d * tb).toInt = ((xs (r + 1) - xs r) * d).toInt * tb.toInt := Jvm.Kit.i64_mul (by omega) (by omega)
  refine ⟨by omega, fun e => ?_⟩
  rw [e, k1] at k2
  have z : (0 : Int64).toInt = 0 := rfl
  have q1 : (xs (r + 1) - xs r).toInt * d.toInt ≠ 0 := Int.mul_ne_zero (by omega) (by omega)
  exact Int.mul_ne_zero q1 (show tb.toInt ≠ 0 by omega) k2.symm
theorem num_b {r : Nat} {u d : Int64} (hT : IT xs ys tb tc rw_ mx my bl t) (h : (r : Int) + 1 < tc.toInt) (hd1 : 1 ≤ d.toInt) (hd2 : d.toInt ≤ 2147483647) (hu1 : -2147483647 ≤ u.toInt) (hu2 : u.toInt ≤ 2147483647) : (ys r * (xs (r + 1) - xs r) * d + (ys (r + 1) - ys r) * (u * tb - xs r * d)).toInt ≠ -2 ^ 63 := by
  obtain ⟨e1, e2, e3⟩ := run_b hT h
  obtain ⟨h0, h1, h2, h3, h4, h5⟩ := hT
  obtain ⟨-, g1, g2⟩ := h3 (by omega)
  obtain ⟨-, -, b1, b2, b3, b4⟩ := h4 r (by omega)
  obtain ⟨-, -, b5, b6, b7, b8⟩ := h4 (r + 1) (by omega)
  have m1 := mul_b b3 b4 (show -20000 ≤ (xs (r + 1) - xs r).toInt by omega) (show (xs (r + 1) - xs r).toInt ≤ 20000 by omega)
  have k1 : (ys r * (xs (r + 1) - xs r)).toInt = (ys r).toInt * (xs (r + 1) - xs r).toInt := Jvm.Kit.i64_mul (by omega) (by omega)
  have m2 := mul_b (show -200000000 ≤ (ys r * (xs (r + 1) - xs r)).toInt by omega) (show (ys r * (xs (r + 1) - xs r)).toInt ≤ 200000000 by omega) (show -2147483647 ≤ d.toInt by omega) hd2
  have k2 : (ys r * (xs (r + 1) - xs r) * d).toInt = (ys r * (xs (r + 1) - xs r)).toInt * d.toInt := Jvm.Kit.i64_mul (by omega) (by omega)
  have m3 := mul_b hu1 hu2 (show -100 ≤ tb.toInt by omega) g2
  have k3 : (u * tb).toInt = u.toInt * tb.toInt := Jvm.Kit.i64_mul (by omega) (by omega)
  have m4 := mul_b b1 b2 (show -2147483647 ≤ d.toInt by omega) hd2
  have k4 : (xs r * d).toInt = (xs r).toInt * d.toInt := Jvm.Kit.i64_mul (by omega) (by omega)
  have k5 : (u * tb - xs r * d).toInt = (u * tb).toInt - (xs r * d).toInt := Jvm.Kit.i64_sub (by omega) (by omega)
  have k6 : (ys (r + 1) - ys r).toInt = (ys (r + 1)).toInt - (ys r).toInt := Jvm.Kit.i64_sub (by omega) (by omega)
  have m5 := mul_b (show -20000 ≤ (ys (r + 1) - ys r).toInt by omega) (show (ys (r + 1) - ys r).toInt ≤ 20000 by omega) (show -30000000000000 ≤ (u * tb - xs r * d).toInt by omega) (show (u * tb - xs r * d).toInt ≤ 30000000000000 by omega)
  have k7 : ((ys (r + 1) - ys r) * (u * tb - xs r * d)).toInt = (ys (r + 1) - ys r).toInt * (u * tb - xs r * d).toInt := Jvm.Kit.i64_mul (by omega) (by omega)
  have k8 : (ys r * (xs (r + 1) - xs r) * d + (ys (r + 1) - ys r) * (u * tb - xs r * d)).toInt = (ys r * (xs (r + 1) - xs r) * d).toInt + ((ys (r + 1) - ys r) * (u * tb - xs r * d)).toInt := Jvm.Kit.i64_add (by omega) (by omega)
  omega
theorem nI_t {t : Nat} (ht : t < 4) : (nI t).toNatClampNeg = t ∧ (16 * nI t).toNatClampNeg = 16 * t := by
  have h1 : (16 : Int32) * nI t = nI (16 * t) := (Int32.ofNat_mul 16 t).symm
  refine ⟨nI_clamp (by omega), ?_⟩
  rw [h1]
  exact nI_clamp (by omega)
theorem join_out {a t_ : Int32} (ht : t_ < 0 ∨ 4 ≤ t_) : f_M_join up dn mu n rw_ mx my bl t_ a = (-3, 0, up, dn, mu, n) := by
  unfold f_M_join
  by_cases ca : f_M_isAmount a n = 0
  · rw [if_pos ca]
  · rw [if_neg ca]
    by_cases c0 : t_ < 0
    · rw [if_pos c0]
    · rw [if_neg c0]
      rcases ht with h | h
      · exact absurd h c0
      · rw [if_neg]
        intro q
        rw [Int32.lt_iff_toInt_lt] at q
        rw [Int32.le_iff_toInt_le] at h
        omega
theorem join_nz1 (ht : t < 4) (hT : IT xs ys tb tc rw_ mx my bl t) : ¬ rw_ (nI t).toNatClampNeg = 0 → ¬ bl (nI t).toNatClampNeg = 0 := by
  obtain ⟨h0, h1, h2, h3, h4, h5⟩ := hT
  rw [(nI_t ht).1, h2]
  intro c e
  have z : (0 : Int32).toInt = 0 := rfl
  have c2 : tc.toInt ≠ 0 := fun q => c (Int32.toInt_inj.mp (by omega))
  obtain ⟨g0, g1, -⟩ := h3 (by omega)
  rw [e] at g0
  rw [← g0] at g1
  exact absurd g1 (by decide)
theorem join_nz2 {a : Int32} (ht : t < 4) (h : IA ab be up dn un mu n) (hT : IT xs ys tb tc rw_ mx my bl t) : ¬ f_M_isAmount a n = 0 → ¬ rw_ (nI t).toNatClampNeg = 0 → jn_L mx (dn a.toNatClampNeg) ((up a.toNatClampNeg) * (bl (nI t).toNatClampNeg)) ((rw_ (nI t).toNatClampNeg).toNatClampNeg - 1) (16 * (nI t).toNatClampNeg) < 16 * (nI t).toNatClampNeg + ((rw_ (nI t).toNatClampNeg).toNatClampNeg - 1) → ¬ (((mx (nI (jn_L mx (dn a.toNatClampNeg) ((up a.toNatClampNeg) * (bl (nI t).toNatClampNeg)) ((rw_ (nI t).toNatClampNeg).toNatClampNeg - 1) (16 * (nI t).toNatClampNeg)) + 1).toNatClampNeg) - (mx (nI (jn_L mx (dn a.toNatClampNeg) ((up a.toNatClampNeg) * (bl (nI t).toNatClampNeg)) ((rw_ (nI t).toNatClampNeg).toNatClampNeg - 1) (16 * (nI t).toNatClampNeg))).toNatClampNeg)) * (dn a.toNatClampNeg)) * (bl (nI t).toNatClampNeg) = 0 := by
  intro ca cr
  obtain ⟨-, e2, -, -, -, h6, h7, -, -⟩ := am_at h ca
  obtain ⟨h0, h1, h2, h3, h4, h5⟩ := id hT
  rw [(nI_t ht).1, h2] at cr
  rw [(nI_t ht).1, h2]
  have z : (0 : Int32).toInt = 0 := rfl
  have c2 : tc.toInt ≠ 0 := fun q => cr (Int32.toInt_inj.mp (by omega))
  have ec := cl_le h0
  obtain ⟨g0, g1, g2⟩ := h3 (by omega)
  rw [g0]
  have hf := jn_fn (xs := xs) (mx := mx) (d := dn a.toNatClampNeg) (pl := up a.toNatClampNeg * tb) (t := t) (k := tc.toNatClampNeg) (fun j hj => (h4 j (by omega)).1) (tc.toNatClampNeg - 1) 0 (by omega)
  have hg := fn_ge xs (dn a.toNatClampNeg) (up a.toNatClampNeg * tb) (tc.toNatClampNeg - 1) (0 + 1)
  rw [show 16 * t + 0 = 16 * t from rfl] at hf
  generalize fn_L xs (dn a.toNatClampNeg) (up a.toNatClampNeg * tb) (tc.toNatClampNeg - 1) (0 + 1) = f at hf hg
  obtain ⟨r, hr⟩ : ∃ r, f = r + 1 := ⟨f - 1, by omega⟩
  rw [show jn_L mx (dn a.toNatClampNeg) (up a.toNatClampNeg * tb) (tc.toNatClampNeg - 1) (16 * t) = 16 * t + r from by omega]
  intro hlt
  rw [nI_1, nI_clamp (by omega), nI_clamp (by omega), Nat.add_assoc, ← (h4 r (by omega)).1, ← (h4 (r + 1) (by omega)).1]
  rw [e2] at h6 h7
  exact (den_b hT (by omega) h6 h7).2
theorem join_ag {a : Int32} (ht : t < 4) (h : IA ab be up dn un mu n) (hT : IT xs ys tb tc rw_ mx my bl t) : AG (f_X_join ab be un n tb tc xs ys a) (f_M_join up dn mu n rw_ mx my bl (nI t) a) := by
  obtain ⟨h0, h1, h2, h3, h4, h5⟩ := id hT
  have z : (0 : Int32).toInt = 0 := rfl
  unfold f_X_join f_M_join f_X_keepBetween f_T_firstNotBefore
  rw [← am_eq, (nI_t ht).1, (nI_t ht).2, h2]
  by_cases ca : f_X_isAmount a n = 0
  · rw [if_pos ca, if_pos ca]; exact AG_s h _
  · rw [if_neg ca, if_neg ca, if_neg (show ¬ nI t < 0 from nI_pos (by omega)), if_pos (show nI t < 4 from (nI_ltI (b := 4) (by omega) (by decide)).mpr ht)]
    obtain ⟨e1, e2, e3, q4, q5, q6, q7, q8, q9⟩ := am_at h ca
    by_cases c0 : tc = 0
    · rw [if_pos c0, if_pos c0]; exact AG_s h _
    · rw [if_neg c0, if_neg c0]
      have c2 : tc.toInt ≠ 0 := fun q => c0 (Int32.toInt_inj.mp (by omega))
      have ec := cl_le h0
      obtain ⟨g0, g1, g2⟩ := h3 (by omega)
      rw [g0, ← e1, ← e2]
      obtain ⟨k, hk⟩ : ∃ k, tc.toNatClampNeg = k + 1 := ⟨tc.toNatClampNeg - 1, by omega⟩
      have etc : tc = nI (k + 1) := Int32.toInt_inj.mp (by rw [nI_toInt (by omega)]; omega)
      have hf := jn_fn (xs := xs) (mx := mx) (d := be a.toNatClampNeg) (pl := ab a.toNatClampNeg * tb) (t := t) (k := tc.toNatClampNeg) (fun j hj => (h4 j (by omega)).1) k 0 (by omega)
      have hg := fn_ge xs (be a.toNatClampNeg) (ab a.toNatClampNeg * tb) k (0 + 1)
      rw [show 16 * t + 0 = 16 * t from rfl] at hf
      rw [hk, Nat.add_sub_cancel]
      have en : fn_L xs (be a.toNatClampNeg) (ab a.toNatClampNeg * tb) (k + 1) 0 = if ab a.toNatClampNeg * tb ≤ xs 0 * be a.toNatClampNeg then 0 else fn_L xs (be a.toNatClampNeg) (ab a.toNatClampNeg * tb) k (0 + 1) := rfl
      rw [en]
      have hx0 : mx (16 * t) = xs 0 := (h4 0 (by omega)).1.symm
      have hy0 : my (16 * t) = ys 0 := (h4 0 (by omega)).2.1.symm
      rw [hx0, hy0]
      have k1 : ∀ y : Int64, -10000 ≤ y.toInt → y.toInt ≤ 10000 → AG (f_X_keep ab be un n y tb 0) (mk5 0 (f_M_make up dn mu n y tb 0)) := fun y l1 l2 => AG_k h (by omega) (by omega) (fun e => by rw [e] at g1; exact absurd g1 (by decide)) (by decide) (by decide)
      by_cases c3 : xs 0 * be a.toNatClampNeg < ab a.toNatClampNeg * tb
      · have c3n : ¬ ab a.toNatClampNeg * tb ≤ xs 0 * be a.toNatClampNeg := fun q => nlt_le.mp q c3
        rw [if_pos c3, if_neg c3n]
        generalize fn_L xs (be a.toNatClampNeg) (ab a.toNatClampNeg * tb) k (0 + 1) = f at hf hg ⊢
        obtain ⟨r, hr⟩ : ∃ r, f = r + 1 := ⟨f - 1, by omega⟩
        rw [show jn_L mx (be a.toNatClampNeg) (ab a.toNatClampNeg * tb) k (16 * t) = 16 * t + r from by omega, hr]
        rw [if_neg (nI_ne0 (by omega) (by omega))]
        have hlt : nI (r + 1) < tc ↔ r + 1 < k + 1 := by rw [etc]; exact nI_ltI (by omega) (by omega)
        by_cases c4 : r + 1 < k + 1
        · rw [if_pos (hlt.mpr c4), if_pos (by omega), nI_pred, nI_1, nI_clamp (by omega), nI_clamp (by omega), nI_clamp (by omega), nI_clamp (by omega), Nat.add_assoc, ← (h4 r (by omega)).1, ← (h4 (r + 1) (by omega)).1, ← (h4 r (by omega)).2.1, ← (h4 (r + 1) (by omega)).2.1]
          rw [Int64.mul_comm (ab a.toNatClampNeg * tb - xs r * be a.toNatClampNeg)]
          obtain ⟨d1, d2⟩ := den_b hT (r := r) (by omega) q6 q7
          exact AG_k h (num_b hT (by omega) q6 q7 q4 q5) d1 d2 (by decide) (by decide)
        · rw [if_neg (fun q => c4 (hlt.mp q)), if_neg (by omega), etc, nI_pred, nI_clamp (by omega), nI_clamp (by omega), ← (h4 k (by omega)).2.1]
          exact k1 _ (h4 k (by omega)).2.2.2.2.1 (h4 k (by omega)).2.2.2.2.2
      · rw [if_neg c3, if_pos (nlt_le.mpr c3)]
        rw [if_pos nI_0]
        exact k1 _ (h4 0 (by omega)).2.2.2.2.1 (h4 0 (by omega)).2.2.2.2.2
/-- after clear -/
theorem IT_0 (h : rw_ t = 0) : IT xs ys tb 0 rw_ mx my bl t := ⟨by decide, by decide, h, fun q => absurd q (by decide), fun j q => absurd q (by have z : (0 : Int32).toInt = 0 := rfl; omega), fun j q => absurd q (by have z : (0 : Int32).toInt = 0 := rfl; omega)⟩
theorem IW_0 (we mw : Nat → Int64) : IW we mw 0 := ⟨by decide, by decide, fun j q => absurd q (by have z : (0 : Int32).toInt = 0 := rfl; omega)⟩
/-- a table that another row leaves alone -/
theorem IT_k {rw2 : Nat → Int32} {mx2 my2 bl2 : Nat → Int64} {v : Nat} (hv : t < 4) (hn : t ≠ v) (hk : IK rw_ rw2 mx my bl mx2 my2 bl2 v) (hT : IT xs ys tb tc rw_ mx my bl t) : IT xs ys tb tc rw2 mx2 my2 bl2 t := by
  obtain ⟨h0, h1, h2, h3, h4, h5⟩ := hT
  obtain ⟨k1, k2, k3⟩ := hk t hv hn
  refine ⟨h0, h1, by rw [k1]; exact h2, fun q => by rw [k2]; exact h3 q, fun j hj => ?_, h5⟩
  obtain ⟨k4, k5⟩ := k3 j (by omega)
  rw [k4, k5]
  exact h4 j hj
end AGR6
theorem row_out {rw_ : Nat → Int32} {mx my bl : Nat → Int64} {t_ : Int32} {x y b : Int64} (ht : t_ < 0 ∨ 4 ≤ t_) : f_M_row rw_ mx my bl t_ x y b = (0, 0, rw_, mx, my, bl) := by
  unfold f_M_row
  by_cases c0 : t_ < 0
  · rw [if_pos c0]
  · rw [if_neg c0]
    rcases ht with h | h
    · exact absurd h c0
    · rw [if_pos h]
