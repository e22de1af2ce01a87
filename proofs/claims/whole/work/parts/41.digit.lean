theorem qd_N {x d : Nat} (hx : x < 2 ^ 63) (h0 : 0 < d) (hd : d < 2 ^ 63) : f_X_quotientDown (lN x) (lN d) = lN (x / d) := by
  apply Int64.toInt_inj.mp
  have e := Nat.div_le_self x d
  rw [qd_T (by rw [pk_lT hd]; omega), pk_lT hx, pk_lT hd, pk_lT (by omega)]
  rfl
theorem db_out {d : Int64} {i : Int32} (hi : ∀ j : Nat, j < 30 → ¬ nI j = i) : ∀ (n j : Nat) (u : Int64), j + n ≤ 30 → db_L d i n j u = (0, 1)
  | 0, _, _, _ => rfl
  | n + 1, j, u, h => by
    unfold db_L
    by_cases c : u ≤ 0
    · rw [if_pos c]
    · rw [if_neg c, if_neg (hi j (by omega)), db_out hi n (j + 1) _ (by omega)]
/-- the reference's digit of a number that is not negative -/
def dg_M (v d : Int64) (pa i : Int32) : Int32 × Int32 := if pa = 0 then if i < 0 then (0, 1) else if i < nd_L 20 (v / d) 1 then ((it_10 i.toNatClampNeg (v / d) - it_10 i.toNatClampNeg (v / d) / 10 * 10).toInt32, 0) else (0, 1) else db_L d i 30 0 (v - v / d * d)
/-- the program's -/
def dg_X (v d : Int64) (pa i : Int32) : Int32 := if pa = 0 then f_X_digitBefore (f_X_quotientDown v d) i else f_X_digitBehind (f_X_restOf v d) d i
theorem dg_ag {m d : Nat} {pa i : Int32} (hm : m < 2 ^ 31) (h0 : 0 < d) (hd : d < 2 ^ 31) : dg_M (lN m) (lN d) pa i = if dg_X (lN m) (lN d) pa i = -1 then (0, 1) else (dg_X (lN m) (lN d) pa i, 0) := by
  unfold dg_M dg_X
  have hq : m / d < 2 ^ 31 := Nat.lt_of_le_of_lt (Nat.div_le_self _ _) hm
  have hr := Nat.mod_lt m h0
  rw [qd_N (by omega) h0 (by omega), rd_N (by omega) h0 (by omega), pk_lRem (by omega) h0 (by omega), pk_lDiv (by omega) h0 (by omega)]
  by_cases cp : pa = 0
  · simp only [if_pos cp]
    obtain ⟨g1, g2⟩ := dig_b (i := i) hq
    by_cases c0 : i < 0
    · rw [if_pos c0, if_pos (g1 (Or.inl c0))]
    · rw [if_neg c0]
      by_cases c1 : i < nd_L 20 (lN (m / d)) 1
      · obtain ⟨g3, g4⟩ := g2 c0 c1
        rw [if_pos c1, if_neg g4, g3]
      · rw [if_neg c1, if_pos (g1 (Or.inr c1))]
  · simp only [if_neg cp]
    unfold f_X_digitBehind
    by_cases c0 : i < 0
    · rw [if_pos c0, if_pos rfl, db_out (fun j hj e => ?_) 30 0 _ (by omega)]
      rw [← e] at c0
      exact nI_pos (by omega) c0
    · rw [if_neg c0]
      obtain ⟨q, hq2, e⟩ := nI_of c0
      have c30 : i < 30 ↔ q < 30 := by rw [e]; exact nI_ltI (b := 30) hq2 (by decide)
      by_cases c1 : q < 30
      · rw [if_pos (c30.mpr c1)]
        have eq2 : i.toNatClampNeg = q := by rw [e]; exact nI_clamp hq2
        rw [db_N h0 hd c1 e 30 0 _ hr (by omega) (by omega), eq2, itR_N h0 hd q _ hr, Nat.sub_zero]
        have hrs : rs_N d q (m % d) < d := by
          have hh : ∀ (k a : Nat), a < d → rs_N d k a < d := by
            intro k
            induction k with
            | zero => intro a ha; exact ha
            | succ k ih => intro a ha; exact ih _ (Nat.mod_lt _ h0)
          exact hh _ _ hr
        have hz : lN (rs_N d q (m % d)) = 0 ↔ rs_N d q (m % d) = 0 := pk_lEQ (b := 0) (by omega) (by decide)
        by_cases c2 : rs_N d q (m % d) = 0
        · rw [if_pos c2, if_pos (hz.mpr c2), if_pos rfl]
        · rw [if_neg c2, if_neg (fun w => c2 (hz.mp w)), show lN (rs_N d q (m % d)) * (10 : Int64) = lN (rs_N d q (m % d) * 10) from lN_mul _ 10, qd_N (by omega) h0 (by omega), lN_i]
          have h10 : rs_N d q (m % d) * 10 / d < 10 := (Nat.div_lt_iff_lt_mul h0).mpr (by omega)
          rw [if_neg (nI_nm1 (by omega))]
      · rw [if_neg (fun w => c1 (c30.mp w)), if_pos rfl, db_out (fun j hj e2 => ?_) 30 0 _ (by omega)]
        rw [e] at e2
        have := (nI_eq (by omega) hq2).mp e2
        omega
section AGR4
variable {ab be up dn : Nat → Int64} {un mu : Nat → Int32} {n : Int32}
theorem abs_N {x : Int64} (h1 : -2147483647 ≤ x.toInt) (h2 : x.toInt ≤ 2147483647) : ∃ m : Nat, m < 2 ^ 31 ∧ f_abm x = lN m := by
  refine ⟨x.toInt.natAbs, by omega, Int64.toInt_inj.mp ?_⟩
  rw [abm_T (by omega), pk_lT (by omega)]
theorem pos_N {x : Int64} (h1 : 1 ≤ x.toInt) (h2 : x.toInt ≤ 2147483647) : ∃ m : Nat, 0 < m ∧ m < 2 ^ 31 ∧ x = lN m := by
  refine ⟨x.toInt.natAbs, by omega, by omega, Int64.toInt_inj.mp ?_⟩
  rw [pk_lT (by omega)]
  omega
theorem digit_M {a pa i : Int32} (ca : ¬ f_M_isAmount a n = 0) : f_M_digit up dn mu n a pa i = ((dg_M (f_abm (up a.toNatClampNeg)) (dn a.toNatClampNeg) pa i).1, (dg_M (f_abm (up a.toNatClampNeg)) (dn a.toNatClampNeg) pa i).2, up, dn, mu, n) := by
  unfold f_M_digit dg_M
  rw [if_neg ca]
  by_cases c : 0 ≤ up a.toNatClampNeg
  · simp only [if_pos c]
    by_cases cp : pa = 0
    · simp only [if_pos cp]
      by_cases c0 : i < 0
      · simp only [if_pos c0]
        split <;> rfl
      · simp only [if_neg c0]
        by_cases c1 : i < nd_L 20 (up a.toNatClampNeg / dn a.toNatClampNeg) 1
        · simp only [if_pos c1]
        · simp only [if_neg c1]
          split <;> rfl
    · simp only [if_neg cp]
  · simp only [if_neg c]
    by_cases cp : pa = 0
    · simp only [if_pos cp]
      by_cases c0 : i < 0
      · simp only [if_pos c0]
        split <;> rfl
      · simp only [if_neg c0]
        by_cases c1 : i < nd_L 20 (-up a.toNatClampNeg / dn a.toNatClampNeg) 1
        · simp only [if_pos c1]
        · simp only [if_neg c1]
          split <;> rfl
    · simp only [if_neg cp]
theorem digit_X {a pa i : Int32} (ca : ¬ f_X_isAmount a n = 0) : e_X_digit ab be n a pa i = (if dg_X (f_abs (ab a.toNatClampNeg)) (be a.toNatClampNeg) pa i = -1 then 1 else 0) ∧ f_X_digit ab be n a pa i = (if dg_X (f_abs (ab a.toNatClampNeg)) (be a.toNatClampNeg) pa i = -1 then 0 else dg_X (f_abs (ab a.toNatClampNeg)) (be a.toNatClampNeg) pa i) := by
  unfold e_X_digit f_X_digit dg_X
  rw [if_neg ca, if_neg ca]
  by_cases cp : pa = 0
  · simp only [if_pos cp]
    exact ⟨trivial, trivial⟩
  · simp only [if_neg cp]
    exact ⟨trivial, trivial⟩
theorem digit_ag {a pa i : Int32} (h : IA ab be up dn un mu n) : (e_X_digit ab be n a pa i = 1 → f_M_digit up dn mu n a pa i = (0, 1, up, dn, mu, n)) ∧ (e_X_digit ab be n a pa i = 0 → f_M_digit up dn mu n a pa i = (f_X_digit ab be n a pa i, 0, up, dn, mu, n)) := by
  by_cases ca : f_X_isAmount a n = 0
  · unfold e_X_digit f_X_digit f_M_digit
    rw [← am_eq, if_pos ca, if_pos ca, if_pos ca]
    exact ⟨fun q => absurd q (by decide), fun _ => rfl⟩
  · obtain ⟨e1, e2, e3, h4, h5, h6, h7, h8, h9⟩ := am_at h ca
    obtain ⟨g1, g2⟩ := digit_X (ab := ab) (be := be) (pa := pa) (i := i) ca
    have cm : ¬ f_M_isAmount a n = 0 := by rw [← am_eq]; exact ca
    rw [digit_M cm, g1, g2, abs_eq, ← e1, ← e2]
    obtain ⟨m, hm, em⟩ := abs_N h4 h5
    obtain ⟨d, hd0, hd, ed⟩ := pos_N h6 h7
    rw [em, ed, dg_ag hm hd0 hd]
    by_cases c : dg_X (lN m) (lN d) pa i = -1
    · simp only [if_pos c]
      exact ⟨fun _ => trivial, fun q => absurd q (by decide)⟩
    · simp only [if_neg c]
      exact ⟨fun q => absurd q (by decide), fun _ => trivial⟩
end AGR4
