/-- the amounts of both sides: n of them, alike, in their bounds -/
def IA (ab be up dn : Nat → Int64) (un mu : Nat → Int32) (n : Int32) : Prop := 0 ≤ n.toInt ∧ n.toInt ≤ (500 : Nat) ∧ ∀ j : Nat, (j : Int) < n.toInt → ab j = up j ∧ be j = dn j ∧ un j = mu j ∧ -2147483647 ≤ (ab j).toInt ∧ (ab j).toInt ≤ 2147483647 ∧ 1 ≤ (be j).toInt ∧ (be j).toInt ≤ 2147483647 ∧ 0 ≤ (un j).toInt ∧ (un j).toInt ≤ 4
theorem IA_0 (ab be up dn : Nat → Int64) (un mu : Nat → Int32) : IA ab be up dn un mu 0 := ⟨by decide, by decide, fun j h => by have e0 : (0 : Int32).toInt = 0 := rfl; omega⟩
theorem updL_at (f : Nat → Int64) (k j : Nat) (v : Int64) : vp_updL f k v j = if j = k then v else f j := rfl
theorem updI_at (f : Nat → Int32) (k j : Nat) (v : Int32) : upd f k v j = if j = k then v else f j := rfl
/-- the one place where amounts are made -/
theorem km {ab be up dn : Nat → Int64} {un mu : Nat → Int32} {n : Int32} {x y : Int64} {z : Int32} (h : IA ab be up dn un mu n) (hx : x.toInt ≠ -2 ^ 63) (hy : y.toInt ≠ -2 ^ 63) (h0 : ¬ y = 0) (hz0 : 0 ≤ z.toInt) (hz : z.toInt ≤ 4) :
    ∃ (r : Int32) (ab2 be2 up2 dn2 : Nat → Int64) (un2 mu2 : Nat → Int32) (n2 : Int32), f_X_keep ab be un n x y z = (r, ab2, be2, un2, n2) ∧ f_M_make up dn mu n x y z = (r, up2, dn2, mu2, n2) ∧ IA ab2 be2 up2 dn2 un2 mu2 n2 := by
  obtain ⟨hn0, hn, hj⟩ := h
  have e5 : (500 : Int32).toInt = 500 := rfl
  by_cases hb : lo_big x y ∨ n = 500
  · refine ⟨-2, ab, be, up, dn, un, mu, n, keep_no hx hy h0 ?_, make_no hb, hn0, hn, hj⟩
    rcases hb with hb | hb
    · exact Or.inl hb
    · right
      rw [hb]
      decide
  · have hb1 : ¬ lo_big x y := fun q => hb (Or.inl q)
    have hb2 : ¬ n = 500 := fun q => hb (Or.inr q)
    have hb3 : n.toInt ≠ 500 := fun e => hb2 (Int32.toInt_inj.mp e)
    have hlt : n < 500 := by
      rw [Int32.lt_iff_toInt_lt]
      omega
    have e1 : (1 : Int32).toInt = 1 := rfl
    have en : (n + 1).toInt = n.toInt + 1 := Jvm.Kit.i32_add (by omega) (by omega)
    have ec := cl_le hn0
    have hd := (lo_D1 hx hy h0).1
    have g3 : (lo_D x y).toInt ≤ 2147483647 := by
      have h3 : ¬ 2147483647 < lo_D x y := fun q => hb1 (Or.inr (Or.inr q))
      rw [Int64.lt_iff_toInt_lt] at h3
      have e9 : (2147483647 : Int64).toInt = 2147483647 := rfl
      omega
    have g4 : -2147483647 ≤ (lo_U x y).toInt := by
      have h3 : ¬ lo_U x y < -2147483647 := fun q => hb1 (Or.inr (Or.inl q))
      rw [Int64.lt_iff_toInt_lt] at h3
      have e9 : (-2147483647 : Int64).toInt = -2147483647 := rfl
      omega
    have g5 : (lo_U x y).toInt ≤ 2147483647 := by
      have h3 : ¬ 2147483647 < lo_U x y := fun q => hb1 (Or.inl q)
      rw [Int64.lt_iff_toInt_lt] at h3
      have e9 : (2147483647 : Int64).toInt = 2147483647 := rfl
      omega
    refine ⟨_, _, _, _, _, _, _, _, keep_yes hx hy h0 hb1 hlt, make_yes hb1 hb2, by omega, by omega, fun j hj2 => ?_⟩
    simp only [updL_at, updI_at]
    by_cases hjn : j = n.toNatClampNeg
    · simp only [if_pos hjn]
      exact ⟨trivial, trivial, trivial, g4, g5, hd, g3, hz0, hz⟩
    · simp only [if_neg hjn]
      exact hj j (by omega)
/-- an amount that both have -/
theorem am_eq (a n : Int32) : f_X_isAmount a n = f_M_isAmount a n := rfl
theorem am_at {ab be up dn : Nat → Int64} {un mu : Nat → Int32} {n a : Int32} (h : IA ab be up dn un mu n) (c : ¬ f_X_isAmount a n = 0) : ab a.toNatClampNeg = up a.toNatClampNeg ∧ be a.toNatClampNeg = dn a.toNatClampNeg ∧ un a.toNatClampNeg = mu a.toNatClampNeg ∧ -2147483647 ≤ (ab a.toNatClampNeg).toInt ∧ (ab a.toNatClampNeg).toInt ≤ 2147483647 ∧ 1 ≤ (be a.toNatClampNeg).toInt ∧ (be a.toNatClampNeg).toInt ≤ 2147483647 ∧ 0 ≤ (un a.toNatClampNeg).toInt ∧ (un a.toNatClampNeg).toInt ≤ 4 := by
  obtain ⟨hn0, hn, hj⟩ := h
  unfold f_X_isAmount at c
  by_cases h0 : a < 0
  · rw [if_pos h0] at c; exact absurd rfl c
  · rw [if_neg h0] at c
    by_cases h1 : n ≤ a
    · rw [if_pos h1] at c; exact absurd rfl c
    · refine hj _ ?_
      rw [Int32.lt_iff_toInt_lt] at h0
      rw [Int32.le_iff_toInt_le] at h1
      have e0 : (0 : Int32).toInt = 0 := rfl
      rw [cl_le (by omega)]
      omega
theorem mul_b {a b M N : Int} (ha1 : -M ≤ a) (ha2 : a ≤ M) (hb1 : -N ≤ b) (hb2 : b ≤ N) : -(M * N) ≤ a * b ∧ a * b ≤ M * N := by
  have h : (a * b).natAbs ≤ (M * N).natAbs := by
    rw [Int.natAbs_mul, Int.natAbs_mul]
    exact Nat.mul_le_mul (by omega) (by omega)
  have h2 : 0 ≤ M * N := Int.mul_nonneg (by omega) (by omega)
  omega
/-- a product of parts of amounts -/
theorem mul_T {x y : Int64} (hx1 : -2147483647 ≤ x.toInt) (hx2 : x.toInt ≤ 2147483647) (hy1 : -2147483647 ≤ y.toInt) (hy2 : y.toInt ≤ 2147483647) : (x * y).toInt = x.toInt * y.toInt ∧ -4611686014132420609 ≤ x.toInt * y.toInt ∧ x.toInt * y.toInt ≤ 4611686014132420609 := by
  have h := mul_b hx1 hx2 hy1 hy2
  have e : (2147483647 : Int) * 2147483647 = 4611686014132420609 := by decide
  rw [e] at h
  exact ⟨Jvm.Kit.i64_mul (by omega) (by omega), h⟩
theorem mul_nz {x y : Int64} (h : (x * y).toInt = x.toInt * y.toInt) (hx : x.toInt ≠ 0) (hy : y.toInt ≠ 0) : ¬ x * y = 0 := fun e => by
  rw [e] at h
  have h2 : x.toInt * y.toInt ≠ 0 := Int.mul_ne_zero hx hy
  exact h2 h.symm
