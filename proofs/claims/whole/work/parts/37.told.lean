section AGR4
variable {ab be up dn : Nat → Int64} {un mu rw_ : Nat → Int32} {n k : Int32}
theorem told_in {a wh tc : Int32} (h : IA ab be up dn un mu n) (h0 : ¬ a < 0) (h4 : ¬ 4 ≤ a) (ht : rw_ a.toNatClampNeg = tc) : f_M_told up dn mu n rw_ k a wh = (f_X_told ab be un n k tc a wh, 0, up, dn, mu, n) := by
  unfold f_M_told f_X_told
  rw [← am_eq, if_neg h0, if_neg h4, ht]
  by_cases ca : f_X_isAmount a n = 0
  · simp only [if_pos ca]
    repeat' split
    all_goals rfl
  · obtain ⟨e1, e2, e3, -, -, -, -, -, -⟩ := am_at h ca
    simp only [if_neg ca, e1, e2, e3]
    repeat' split
    all_goals rfl
theorem told_out {a wh : Int32} (h : IA ab be up dn un mu n) (h0 : a < 0 ∨ 4 ≤ a) : f_M_told up dn mu n rw_ k a wh = (f_X_told_out ab be un n k a wh, 0, up, dn, mu, n) := by
  unfold f_M_told f_X_told_out
  have e9 : ∀ (p q : Int64 × Int32 × (Nat → Int64) × (Nat → Int64) × (Nat → Int32) × Int32), (if a < 0 then p else if 4 ≤ a then p else q) = p := by
    intro p q
    by_cases c : a < 0
    · rw [if_pos c]
    · rw [if_neg c, if_pos (h0.resolve_left c)]
  rw [← am_eq, e9]
  by_cases ca : f_X_isAmount a n = 0
  · simp only [if_pos ca]
    repeat' split
    all_goals rfl
  · obtain ⟨e1, e2, e3, -, -, -, -, -, -⟩ := am_at h ca
    simp only [if_neg ca, e1, e2, e3]
    repeat' split
    all_goals rfl
end AGR4
/-- one table of both sides: the program's own cells, the reference's rows from 16 t on -/
def IT (xs ys : Nat → Int64) (tb : Int64) (tc : Int32) (rw_ : Nat → Int32) (mx my bl : Nat → Int64) (t : Nat) : Prop :=
  0 ≤ tc.toInt ∧ tc.toInt ≤ (16 : Nat) ∧ rw_ t = tc ∧ (0 < tc.toInt → bl t = tb ∧ 1 ≤ tb.toInt ∧ tb.toInt ≤ 100) ∧ (∀ j : Nat, (j : Int) < tc.toInt → xs j = mx (16 * t + j) ∧ ys j = my (16 * t + j) ∧ -10000 ≤ (xs j).toInt ∧ (xs j).toInt ≤ 10000 ∧ -10000 ≤ (ys j).toInt ∧ (ys j).toInt ≤ 10000) ∧ ∀ j : Nat, (j : Int) + 1 < tc.toInt → (xs j).toInt < (xs (j + 1)).toInt
