theorem m_low {v d : Int64} (hd : 1 ≤ d.toInt) : (v / d * d ≤ v → v / d = f_X_quotientDown v d) ∧ (¬ v / d * d ≤ v → v / d - 1 = f_X_quotientDown v d) := by
  have hq : (v / d).toInt = v.toInt.tdiv d.toInt := Jvm.Kit.i64_div (fun h => by omega)
  have ht := Int.tdiv_eq_ediv (a := v.toInt) (b := d.toInt)
  have hsg : d.toInt.sign = 1 := Int.sign_eq_one_of_pos (by omega)
  have hm := qmul_T (x := v) (y := d) hd
  have b1 := Int.ediv_mul_le v.toInt (show d.toInt ≠ 0 by omega)
  have b2 := Int.lt_ediv_add_one_mul_self v.toInt (show 0 < d.toInt by omega)
  have z1 : (1 : Int64).toInt = 1 := rfl
  rw [Int64.le_iff_toInt_le, hm]
  by_cases c : 0 ≤ v.toInt ∨ d.toInt ∣ v.toInt
  · rw [if_pos c, Int.add_zero] at ht
    rw [ht]
    exact ⟨fun _ => Int64.toInt_inj.mp (by rw [hq, qd_T hd, ht]), fun h => absurd b1 h⟩
  · rw [if_neg c, hsg] at ht
    rw [ht]
    refine ⟨fun h => absurd b2 (by omega), fun _ => Int64.toInt_inj.mp ?_⟩
    have l2 := Int64.le_toInt (v / d)
    have l1 := Int64.toInt_lt (v / d)
    have hv : v.toInt / d.toInt < 0 := Int.ediv_neg_of_neg_of_pos (by omega) (by omega)
    have hlo : -2 ^ 63 ≤ v.toInt / d.toInt := by rw [← qd_T hd]; exact Int64.le_toInt _
    rw [qd_T hd, Jvm.Kit.i64_sub (by rw [hq, z1, ht]; omega) (by rw [hq, z1, ht]; omega), hq, z1, ht]
    omega
theorem m_rest {v d : Int64} (hd : 1 ≤ d.toInt) (hd2 : d.toInt ≤ 2147483647) (h1 : -4611686018427387904 ≤ v.toInt) (h2 : v.toInt ≤ 4611686018427387904) : v - f_X_quotientDown v d * d = f_X_restOf v d := by
  have b1 := Int.ediv_mul_le v.toInt (show d.toInt ≠ 0 by omega)
  have b2 := Int.lt_ediv_add_one_mul_self v.toInt (show 0 < d.toInt by omega)
  rw [Int.add_mul, Int.one_mul] at b2
  have e1 : (f_X_quotientDown v d * d).toInt = v.toInt / d.toInt * d.toInt := by
    rw [Jvm.Kit.i64_mul (by rw [qd_T hd]; omega) (by rw [qd_T hd]; omega), qd_T hd]
  apply Int64.toInt_inj.mp
  rw [rd_T hd, Jvm.Kit.i64_sub (by rw [e1]; omega) (by rw [e1]; omega), e1]
  have := Int.emod_add_mul_ediv v.toInt d.toInt
  rw [Int.mul_comm] at this
  omega
section AGR3
variable {ab be up dn : Nat → Int64} {un mu : Nat → Int32} {n : Int32}
theorem dn_nz {a : Int32} (h : IA ab be up dn un mu n) : ¬ f_M_isAmount a n = 0 → ¬ dn a.toNatClampNeg = 0 := by
  intro ca e
  obtain ⟨-, e2, -, -, -, h6, -, -, -⟩ := am_at h ca
  rw [e2, e] at h6
  exact absurd h6 (by decide)
theorem mul_T9 {x y : Int64} (hx1 : -2147483647 ≤ x.toInt) (hx2 : x.toInt ≤ 2147483647) (hy1 : 1 ≤ y.toInt) (hy2 : y.toInt ≤ 1000000000) : (x * y).toInt = x.toInt * y.toInt ∧ -2147483647000000000 ≤ x.toInt * y.toInt ∧ x.toInt * y.toInt ≤ 2147483647000000000 := by
  have h := mul_b hx1 hx2 (show -1000000000 ≤ y.toInt by omega) hy2
  have e : (2147483647 : Int) * 1000000000 = 2147483647000000000 := by decide
  rw [e] at h
  exact ⟨Jvm.Kit.i64_mul (by omega) (by omega), h⟩
theorem round_ag {a ru : Int32} {q : Int64} (h : IA ab be up dn un mu n) : AG (f_X_round ab be un n a ru q) (f_M_round up dn mu n a ru q) := by
  unfold f_X_round f_M_round
  rw [← am_eq]
  by_cases ca : f_X_isAmount a n = 0
  · rw [if_pos ca, if_pos ca]; exact AG_s h _
  · rw [if_neg ca, if_neg ca]
    obtain ⟨e1, e2, e3, h4, h5, h6, h7, h8, h9⟩ := am_at h ca
    rw [← e1, ← e2, ← e3]
    by_cases c1 : ru < 0
    · rw [if_pos c1, if_pos c1]; exact AG_s h _
    · rw [if_neg c1, if_neg c1]
      by_cases c2 : 6 < ru
      · rw [if_pos c2, if_pos c2]; exact AG_s h _
      · rw [if_neg c2, if_neg c2]
        by_cases c3 : q < 1
        · rw [if_pos c3, if_pos c3]; exact AG_s h _
        · rw [if_neg c3, if_neg c3]
          by_cases c4 : q ≤ 1000000000
          · rw [if_pos c4, if_pos c4]
            have hq0 : ¬ q = 0 := nz_pos c3
            have z1 : (1 : Int64).toInt = 1 := rfl
            have z9 : (1000000000 : Int64).toInt = 1000000000 := rfl
            have z0 : (0 : Int64).toInt = 0 := rfl
            rw [Int64.lt_iff_toInt_lt] at c3
            rw [Int64.le_iff_toInt_le] at c4
            have m1 := mul_T9 (x := ab a.toNatClampNeg) (y := q) h4 h5 (by omega) (by omega)
            have hl := m_low (v := ab a.toNatClampNeg * q) (d := be a.toNatClampNeg) h6
            have hre := m_rest (v := ab a.toNatClampNeg * q) (d := be a.toNatClampNeg) h6 h7 (by rw [m1.1]; omega) (by rw [m1.1]; omega)
            have hqd := qd_T (x := ab a.toNatClampNeg * q) (y := be a.toNatClampNeg) h6
            have hrd := rd_T (x := ab a.toNatClampNeg * q) (y := be a.toNatClampNeg) h6
            have hr0 := Int.emod_nonneg (ab a.toNatClampNeg * q).toInt (show (be a.toNatClampNeg).toInt ≠ 0 by omega)
            have hk : (f_X_quotientDown (ab a.toNatClampNeg * q) (be a.toNatClampNeg)).toInt ≠ -2 ^ 63 ∧ (f_X_quotientDown (ab a.toNatClampNeg * q) (be a.toNatClampNeg) + 1).toInt ≠ -2 ^ 63 := by
              have b1 : -4611686018427387904 ≤ (ab a.toNatClampNeg * q).toInt / (be a.toNatClampNeg).toInt := Int.le_ediv_of_mul_le (by omega) (by rw [m1.1]; omega)
              have b2 : (ab a.toNatClampNeg * q).toInt / (be a.toNatClampNeg).toInt ≤ 4611686018427387904 := Int.ediv_le_of_le_mul (by omega) (by rw [m1.1]; omega)
              refine ⟨by rw [hqd]; omega, ?_⟩
              rw [Jvm.Kit.i64_add (by rw [hqd, z1]; omega) (by rw [hqd, z1]; omega), hqd, z1]
              omega
            have key : AG (if f_X_goesUp ru (f_X_quotientDown (ab a.toNatClampNeg * q) (be a.toNatClampNeg)) (f_X_restOf (ab a.toNatClampNeg * q) (be a.toNatClampNeg)) (be a.toNatClampNeg) = 0 then f_X_keep ab be un n (f_X_quotientDown (ab a.toNatClampNeg * q) (be a.toNatClampNeg)) q (un a.toNatClampNeg) else f_X_keep ab be un n (f_X_quotientDown (ab a.toNatClampNeg * q) (be a.toNatClampNeg) + 1) q (un a.toNatClampNeg)) (if f_X_restOf (ab a.toNatClampNeg * q) (be a.toNatClampNeg) ≤ 0 then mk5 0 (f_M_make up dn mu n (f_X_quotientDown (ab a.toNatClampNeg * q) (be a.toNatClampNeg)) q (un a.toNatClampNeg)) else if f_M_isUpper ru (f_X_quotientDown (ab a.toNatClampNeg * q) (be a.toNatClampNeg)) (f_X_restOf (ab a.toNatClampNeg * q) (be a.toNatClampNeg)) (be a.toNatClampNeg) = 0 then mk5 0 (f_M_make up dn mu n (f_X_quotientDown (ab a.toNatClampNeg * q) (be a.toNatClampNeg)) q (un a.toNatClampNeg)) else mk5 0 (f_M_make up dn mu n (f_X_quotientDown (ab a.toNatClampNeg * q) (be a.toNatClampNeg) + 1) q (un a.toNatClampNeg))) := by
              have kq : q.toInt ≠ -2 ^ 63 := by omega
              by_cases cr : f_X_restOf (ab a.toNatClampNeg * q) (be a.toNatClampNeg) = 0
              · rw [if_pos (show f_X_goesUp _ _ _ _ = 0 from if_pos cr), if_pos (by rw [cr]; decide)]
                exact AG_k h hk.1 kq hq0 h8 h9
              · rw [if_neg (show ¬ f_X_restOf (ab a.toNatClampNeg * q) (be a.toNatClampNeg) ≤ 0 from fun hh => cr (Int64.toInt_inj.mp (by rw [Int64.le_iff_toInt_le] at hh; omega))), up_eq c1 c2 cr]
                by_cases cu : f_M_isUpper ru (f_X_quotientDown (ab a.toNatClampNeg * q) (be a.toNatClampNeg)) (f_X_restOf (ab a.toNatClampNeg * q) (be a.toNatClampNeg)) (be a.toNatClampNeg) = 0
                · rw [if_pos cu, if_pos cu]; exact AG_k h hk.1 kq hq0 h8 h9
                · rw [if_neg cu, if_neg cu]; exact AG_k h hk.2 kq hq0 h8 h9
            by_cases c5 : ab a.toNatClampNeg * q / be a.toNatClampNeg * be a.toNatClampNeg ≤ ab a.toNatClampNeg * q
            · rw [if_pos c5, hl.1 c5, hre]; exact key
            · rw [if_neg c5, hl.2 c5, hre]; exact key
          · rw [if_neg c4, if_neg c4]; exact AG_s h _
end AGR3
