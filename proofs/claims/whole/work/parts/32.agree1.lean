/-- one answer of both, the amounts behind it alike -/
def AG (p : Int32 × (Nat → Int64) × (Nat → Int64) × (Nat → Int32) × Int32) (q : Int32 × Int32 × (Nat → Int64) × (Nat → Int64) × (Nat → Int32) × Int32) : Prop := ∃ (r : Int32) (ab be up dn : Nat → Int64) (un mu : Nat → Int32) (n : Int32), p = (r, ab, be, un, n) ∧ q = (r, 0, up, dn, mu, n) ∧ IA ab be up dn un mu n
theorem AG_s {ab be up dn : Nat → Int64} {un mu : Nat → Int32} {n : Int32} (h : IA ab be up dn un mu n) (r : Int32) : AG (r, ab, be, un, n) (r, 0, up, dn, mu, n) := ⟨r, ab, be, up, dn, un, mu, n, rfl, rfl, h⟩
theorem AG_k {ab be up dn : Nat → Int64} {un mu : Nat → Int32} {n : Int32} {x y : Int64} {z : Int32} (h : IA ab be up dn un mu n) (hx : x.toInt ≠ -2 ^ 63) (hy : y.toInt ≠ -2 ^ 63) (h0 : ¬ y = 0) (hz0 : 0 ≤ z.toInt) (hz : z.toInt ≤ 4) : AG (f_X_keep ab be un n x y z) (mk5 0 (f_M_make up dn mu n x y z)) := by
  obtain ⟨r, ab2, be2, up2, dn2, un2, mu2, n2, e1, e2, h2⟩ := km h hx hy h0 hz0 hz
  exact ⟨r, ab2, be2, up2, dn2, un2, mu2, n2, e1, by rw [e2], h2⟩
section AGR
variable {ab be up dn : Nat → Int64} {un mu : Nat → Int32} {n : Int32}
theorem add_nz {a b : Int32} (h : IA ab be up dn un mu n) : ¬ f_M_isAmount a n = 0 → ¬ f_M_isAmount b n = 0 → ¬ dn a.toNatClampNeg * dn b.toNatClampNeg = 0 := by
  intro ca cb
  obtain ⟨-, e2, -, -, -, h6, h7, -, -⟩ := am_at h ca
  obtain ⟨-, f2, -, -, -, g6, g7, -, -⟩ := am_at h cb
  rw [← e2, ← f2]
  exact mul_nz (mul_T (by omega) (by omega) (by omega) (by omega)).1 (by omega) (by omega)
theorem add_ag {a b : Int32} (h : IA ab be up dn un mu n) : AG (f_X_add ab be un n a b) (f_M_add up dn mu n a b) := by
  unfold f_X_add f_M_add
  rw [← am_eq, ← am_eq]
  by_cases ca : f_X_isAmount a n = 0
  · rw [if_pos ca, if_pos ca]; exact AG_s h _
  · rw [if_neg ca, if_neg ca]
    by_cases cb : f_X_isAmount b n = 0
    · rw [if_pos cb, if_pos cb]; exact AG_s h _
    · rw [if_neg cb, if_neg cb]
      have hnz := add_nz (a := a) (b := b) h ca cb
      obtain ⟨e1, e2, e3, h4, h5, h6, h7, h8, h9⟩ := am_at h ca
      obtain ⟨f1, f2, f3, g4, g5, g6, g7, g8, g9⟩ := am_at h cb
      rw [← e2, ← f2] at hnz
      rw [← e1, ← e2, ← e3, ← f1, ← f2, ← f3]
      by_cases cu : un a.toNatClampNeg = un b.toNatClampNeg
      · rw [if_pos cu, if_pos cu]
        have m1 := mul_T (x := ab a.toNatClampNeg) (y := be b.toNatClampNeg) h4 h5 (by omega) g7
        have m2 := mul_T (x := ab b.toNatClampNeg) (y := be a.toNatClampNeg) g4 g5 (by omega) h7
        have m3 := mul_T (x := be a.toNatClampNeg) (y := be b.toNatClampNeg) (by omega) h7 (by omega) g7
        refine AG_k h ?_ ?_ hnz h8 h9
        · rw [Jvm.Kit.i64_add (by rw [m1.1, m2.1]; omega) (by rw [m1.1, m2.1]; omega), m1.1, m2.1]; omega
        · rw [m3.1]; omega
      · rw [if_neg cu, if_neg cu]; exact AG_s h _
theorem far_0 (x : Int64) : f_X_isTooFar x = 0 ↔ ¬ x ≤ -1000000000000000000 ∧ x < 1000000000000000000 := by
  unfold f_X_isTooFar
  by_cases c1 : x ≤ -1000000000000000000
  · rw [if_pos c1]; exact ⟨fun h => absurd h (by decide), fun h => absurd c1 h.1⟩
  · rw [if_neg c1]
    by_cases c2 : x < 1000000000000000000
    · rw [if_pos c2]; exact ⟨fun _ => ⟨c1, c2⟩, fun _ => rfl⟩
    · rw [if_neg c2]; exact ⟨fun h => absurd h (by decide), fun h => absurd h.2 c2⟩
theorem far_b {x : Int64} (h1 : ¬ x ≤ -1000000000000000000) : x.toInt ≠ -2 ^ 63 := fun e => by
  rw [Int64.le_iff_toInt_le] at h1
  have e9 : (-1000000000000000000 : Int64).toInt = -1000000000000000000 := rfl
  omega
theorem nlt_le {x c : Int64} : c ≤ x ↔ ¬ x < c := by
  rw [Int64.le_iff_toInt_le, Int64.lt_iff_toInt_lt]; omega
theorem value_ag {x y : Int64} {z : Int32} (h : IA ab be up dn un mu n) : (y = 0 → f_M_value up dn mu n x y z = (0, 1, up, dn, mu, n)) ∧ (¬ y = 0 → AG (f_X_value ab be un n x y z) (f_M_value up dn mu n x y z)) := by
  refine ⟨fun c => by unfold f_M_value; rw [if_pos c], fun c0 => ?_⟩
  unfold f_X_value f_M_value
  rw [if_neg c0, if_neg c0]
  by_cases c1 : z < 0
  · rw [if_pos c1, if_pos c1]; exact AG_s h _
  · rw [if_neg c1, if_neg c1]
    by_cases c2 : 4 < z
    · rw [if_pos c2, if_pos c2]; exact AG_s h _
    · rw [if_neg c2, if_neg c2]
      rw [Int32.lt_iff_toInt_lt] at c1 c2
      have z0 : (0 : Int32).toInt = 0 := rfl
      have z4 : (4 : Int32).toInt = 4 := rfl
      by_cases c3 : x ≤ -1000000000000000000
      · rw [if_pos c3, if_neg (fun q => ((far_0 x).mp q).1 c3)]; exact AG_s h _
      · rw [if_neg c3]
        by_cases c4 : 1000000000000000000 ≤ x
        · rw [if_pos c4, if_neg (fun q => nlt_le.mp c4 ((far_0 x).mp q).2)]; exact AG_s h _
        · rw [if_neg c4, if_pos ((far_0 x).mpr ⟨c3, by rw [nlt_le] at c4; exact Classical.not_not.mp c4⟩)]
          by_cases c5 : y ≤ -1000000000000000000
          · rw [if_pos c5, if_neg (fun q => ((far_0 y).mp q).1 c5)]; exact AG_s h _
          · rw [if_neg c5]
            by_cases c6 : y < 1000000000000000000
            · rw [if_pos c6, if_pos ((far_0 y).mpr ⟨c5, c6⟩)]
              exact AG_k h (far_b c3) (far_b c5) c0 (by omega) (by omega)
            · rw [if_neg c6, if_neg (fun q => c6 ((far_0 y).mp q).2)]; exact AG_s h _
theorem e_value {x y : Int64} {z : Int32} : e_X_value ab be un n x y z = if y = 0 then 1 else 0 := by
  unfold e_X_value
  by_cases c : y = 0
  · rw [if_pos c, if_pos c]
  · rw [if_neg c, if_neg c]
    repeat' split
    all_goals rfl
theorem order_ag {a b : Int32} (h : IA ab be up dn un mu n) : f_M_order up dn mu n a b = (f_X_order ab be un n a b, 0, up, dn, mu, n) := by
  unfold f_X_order f_M_order
  rw [← am_eq, ← am_eq]
  by_cases ca : f_X_isAmount a n = 0
  · rw [if_pos ca, if_pos ca]
  · rw [if_neg ca, if_neg ca]
    by_cases cb : f_X_isAmount b n = 0
    · rw [if_pos cb, if_pos cb]
    · rw [if_neg cb, if_neg cb]
      obtain ⟨e1, e2, e3, h4, h5, h6, h7, h8, h9⟩ := am_at h ca
      obtain ⟨f1, f2, f3, g4, g5, g6, g7, g8, g9⟩ := am_at h cb
      rw [← e1, ← e2, ← e3, ← f1, ← f2, ← f3]
      by_cases cu : un a.toNatClampNeg = un b.toNatClampNeg
      · rw [if_pos cu, if_pos cu]
        have m1 := mul_T (x := ab a.toNatClampNeg) (y := be b.toNatClampNeg) h4 h5 (by omega) g7
        have m2 := mul_T (x := ab b.toNatClampNeg) (y := be a.toNatClampNeg) g4 g5 (by omega) h7
        have ms : (ab a.toNatClampNeg * be b.toNatClampNeg - ab b.toNatClampNeg * be a.toNatClampNeg).toInt = (ab a.toNatClampNeg).toInt * (be b.toNatClampNeg).toInt - (ab b.toNatClampNeg).toInt * (be a.toNatClampNeg).toInt := by
          rw [Jvm.Kit.i64_sub (by rw [m1.1, m2.1]; omega) (by rw [m1.1, m2.1]; omega), m1.1, m2.1]
        have z0 : (0 : Int64).toInt = 0 := rfl
        have q1 : (0 ≤ ab a.toNatClampNeg * be b.toNatClampNeg - ab b.toNatClampNeg * be a.toNatClampNeg) ↔ ab b.toNatClampNeg * be a.toNatClampNeg ≤ ab a.toNatClampNeg * be b.toNatClampNeg := by
          rw [Int64.le_iff_toInt_le, Int64.le_iff_toInt_le, ms, m1.1, m2.1]; omega
        have q2 : (ab a.toNatClampNeg * be b.toNatClampNeg - ab b.toNatClampNeg * be a.toNatClampNeg ≤ 0) ↔ ab a.toNatClampNeg * be b.toNatClampNeg ≤ ab b.toNatClampNeg * be a.toNatClampNeg := by
          rw [Int64.le_iff_toInt_le, Int64.le_iff_toInt_le, ms, m1.1, m2.1]; omega
        simp only [q1, q2]
        repeat' split
        all_goals rfl
      · rw [if_neg cu, if_neg cu]
end AGR
