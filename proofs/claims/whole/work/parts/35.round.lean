theorem jl_lt (x y : Int64) : f_JL_compare x y < 0 ↔ x < y := by
  unfold f_JL_compare
  by_cases c1 : y ≤ x
  · rw [if_pos c1]
    have c2 : ¬ x < y := by rw [Int64.le_iff_toInt_le] at c1; rw [Int64.lt_iff_toInt_lt]; omega
    by_cases c3 : x = y
    · rw [if_pos c3]; exact ⟨fun h => absurd h (by decide), fun h => absurd h c2⟩
    · rw [if_neg c3]; exact ⟨fun h => absurd h (by decide), fun h => absurd h c2⟩
  · rw [if_neg c1]
    exact ⟨fun _ => by rw [Int64.le_iff_toInt_le] at c1; rw [Int64.lt_iff_toInt_lt]; omega, fun _ => by decide⟩
theorem jl_gt (x y : Int64) : 0 < f_JL_compare x y ↔ y < x := by
  unfold f_JL_compare
  by_cases c1 : y ≤ x
  · rw [if_pos c1]
    by_cases c3 : x = y
    · rw [if_pos c3]; exact ⟨fun h => absurd h (by decide), fun h => by subst c3; rw [Int64.lt_iff_toInt_lt] at h; omega⟩
    · rw [if_neg c3]
      exact ⟨fun _ => by rw [Int64.le_iff_toInt_le] at c1; rw [Int64.lt_iff_toInt_lt]; have : x.toInt ≠ y.toInt := fun e => c3 (Int64.toInt_inj.mp e); omega, fun _ => by decide⟩
  · rw [if_neg c1]
    exact ⟨fun h => absurd h (by decide), fun h => by rw [Int64.le_iff_toInt_le] at c1; rw [Int64.lt_iff_toInt_lt] at h; omega⟩
theorem jl_eq (x y : Int64) : f_JL_compare x y = 0 ↔ x = y := by
  unfold f_JL_compare
  by_cases c3 : x = y
  · subst c3
    rw [if_pos (by rw [Int64.le_iff_toInt_le]; omega), if_pos rfl]
    exact ⟨fun _ => rfl, fun _ => rfl⟩
  · by_cases c1 : y ≤ x
    · rw [if_pos c1, if_neg c3]; exact ⟨fun h => absurd h (by decide), fun h => absurd h c3⟩
    · rw [if_neg c1]; exact ⟨fun h => absurd h (by decide), fun h => absurd h c3⟩
theorem odd_eq (x : Int64) : (x &&& 1) = 1 ↔ ¬ (x - x / 2 * 2) = 0 := by
  have h1 : (x &&& 1).toInt = x.toInt % 2 ^ 1 := Jvm.Kit.i64_mask x 1 (k := 1) (by decide) (by decide)
  have h2 : (x - x / 2 * 2).toInt = x.toInt.tmod 2 := Jvm.Kit.i64_rem x 2
  have h3 : x.toInt.tmod 2 = 0 ↔ x.toInt % 2 = 0 := by
    rw [← Int.dvd_iff_emod_eq_zero]
    exact ⟨Int.dvd_of_tmod_eq_zero, Int.tmod_eq_zero_of_dvd⟩
  have z1 : (1 : Int64).toInt = 1 := rfl
  have z0 : (0 : Int64).toInt = 0 := rfl
  constructor
  · intro h e
    have a1 : (x &&& 1).toInt = 1 := by rw [h]; rfl
    have a2 : (x - x / 2 * 2).toInt = 0 := by rw [e]; rfl
    rw [h2, h3] at a2
    omega
  · intro h
    apply Int64.toInt_inj.mp
    have a2 : ¬ x.toInt.tmod 2 = 0 := fun e => h (Int64.toInt_inj.mp (by rw [h2, e]; rfl))
    rw [h3] at a2
    omega
theorem r_7 {u : Int32} (h0 : ¬ u < 0) (h6 : ¬ 6 < u) : u = 0 ∨ u = 1 ∨ u = 2 ∨ u = 3 ∨ u = 4 ∨ u = 5 ∨ u = 6 := by
  rw [Int32.lt_iff_toInt_lt] at h0 h6
  have z0 : (0 : Int32).toInt = 0 := rfl
  have z6 : (6 : Int32).toInt = 6 := rfl
  rcases (show u.toInt = 0 ∨ u.toInt = 1 ∨ u.toInt = 2 ∨ u.toInt = 3 ∨ u.toInt = 4 ∨ u.toInt = 5 ∨ u.toInt = 6 by omega) with h | h | h | h | h | h | h
  · exact Or.inl (Int32.toInt_inj.mp h)
  · exact Or.inr (Or.inl (Int32.toInt_inj.mp h))
  · exact Or.inr (Or.inr (Or.inl (Int32.toInt_inj.mp h)))
  · exact Or.inr (Or.inr (Or.inr (Or.inl (Int32.toInt_inj.mp h))))
  · exact Or.inr (Or.inr (Or.inr (Or.inr (Or.inl (Int32.toInt_inj.mp h)))))
  · exact Or.inr (Or.inr (Or.inr (Or.inr (Or.inr (Or.inl (Int32.toInt_inj.mp h))))))
  · exact Or.inr (Or.inr (Or.inr (Or.inr (Or.inr (Or.inr (Int32.toInt_inj.mp h))))))
theorem lt_nle {x : Int64} : x < 0 ↔ ¬ 0 ≤ x := by
  rw [Int64.le_iff_toInt_le, Int64.lt_iff_toInt_lt]; omega
/-- both round up at the same rests -/
theorem up_eq {ru : Int32} {lo re d : Int64} (h0 : ¬ ru < 0) (h6 : ¬ 6 < ru) (hr : ¬ re = 0) : f_X_goesUp ru lo re d = f_M_isUpper ru lo re d := by
  unfold f_X_goesUp f_M_isUpper
  rw [if_neg hr]
  simp only [jl_lt, jl_gt, jl_eq, lt_nle, odd_eq]
  by_cases c : 0 ≤ lo
  · rcases r_7 h0 h6 with e | e | e | e | e | e | e <;> subst e <;> simp [c]
  · rcases r_7 h0 h6 with e | e | e | e | e | e | e <;> subst e <;> simp [c]
