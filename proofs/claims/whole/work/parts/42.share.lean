/-- the sums over the weights w j, w (j + 1), .. -/
def sw_N (w : Nat → Nat) : Nat → Nat → Nat
  | 0, _ => 0
  | n + 1, j => w j + sw_N w n (j + 1)
def sd_N (w : Nat → Nat) (T A : Nat) : Nat → Nat → Nat
  | 0, _ => 0
  | n + 1, j => T * w j / A + sd_N w T A n (j + 1)
def sr_N (w : Nat → Nat) (T A : Nat) : Nat → Nat → Nat
  | 0, _ => 0
  | n + 1, j => T * w j % A + sr_N w T A n (j + 1)
/-- how many come before -/
def rk_L (w : Nat → Nat) (T A : Nat) (ow : Int64) (kx : Int32) : Nat → Nat → Int64 → Int64
  | 0, _, y => y
  | n + 1, j, y => rk_L w T A ow kx n (j + 1) (y + ts_s ow (lN (T * w j % A)) kx (nI j))
theorem sd_sr (w : Nat → Nat) (T A : Nat) : ∀ n j : Nat, A * sd_N w T A n j + sr_N w T A n j = T * sw_N w n j
  | 0, _ => rfl
  | n + 1, j => by
    show A * (T * w j / A + sd_N w T A n (j + 1)) + (T * w j % A + sr_N w T A n (j + 1)) = T * (w j + sw_N w n (j + 1))
    have h := sd_sr w T A n (j + 1)
    have h2 := Nat.div_add_mod (T * w j) A
    rw [Nat.mul_add, Nat.mul_add]
    omega
theorem sw_b {w : Nat → Nat} {k : Nat} (hw : ∀ j, j < k → w j ≤ 1000000) : ∀ n j : Nat, j + n ≤ k → sw_N w n j ≤ 1000000 * n ∧ ∀ i, j ≤ i → i < j + n → w i ≤ sw_N w n j
  | 0, j, _ => ⟨Nat.le_refl _, fun i h1 h2 => by omega⟩
  | n + 1, j, h => by
    obtain ⟨h1, h2⟩ := sw_b hw n (j + 1) (by omega)
    have h3 := hw j (by omega)
    show w j + sw_N w n (j + 1) ≤ _ ∧ ∀ i, j ≤ i → i < j + (n + 1) → w i ≤ w j + sw_N w n (j + 1)
    refine ⟨by omega, fun i g1 g2 => ?_⟩
    by_cases e : i = j
    · rw [e]; omega
    · have := h2 i (by omega) (by omega)
      omega
theorem sum_N {we : Nat → Int64} {w : Nat → Nat} {k : Nat} (hw : ∀ j, j < k → we j = lN (w j)) : ∀ (n j x : Nat), j + n ≤ k → sum_L we n j (lN x) = lN (x + sw_N w n j)
  | 0, _, _, _ => rfl
  | n + 1, j, x, h => by
    show sum_L we n (j + 1) (lN x + we j) = lN (x + (w j + sw_N w n (j + 1)))
    rw [hw j (by omega), lN_add, sum_N hw n (j + 1) _ (by omega), Nat.add_assoc]
theorem th_ss (r o y : Int64) (kx i : Int32) : th_s r o y kx i = y + ts_s r o kx i := by
  unfold th_s ts_s
  split
  · rfl
  · split
    · split
      · rw [Int64.add_zero]
      · rfl
    · rw [Int64.add_zero]
theorem th_N {we : Nat → Int64} {w : Nat → Nat} {k T A : Nat} {r : Int64} {kx : Int32} (hw : ∀ j, j < k → we j = lN (w j)) (hb : ∀ j, j < k → T * w j < 2 ^ 63) (hA : 0 < A) (hA2 : A < 2 ^ 63) : ∀ (n j x : Nat) (y : Int64), j + n ≤ k → th_L we (lN T) (lN A) r kx n j (lN x) y = (lN (x + sr_N w T A n j), rk_L w T A r kx n j y)
  | 0, _, _, _, _ => rfl
  | n + 1, j, x, y, h => by
    show th_L we (lN T) (lN A) r kx n (j + 1) (lN x + f_X_restOf (lN T * we j) (lN A)) (th_s r (f_X_restOf (lN T * we j) (lN A)) y kx (nI j)) = _
    rw [hw j (by omega), lN_mul, rd_N (hb j (by omega)) hA hA2, th_ss, lN_add, th_N hw hb hA hA2 n (j + 1) _ _ (by omega), Nat.add_assoc]
    rfl
theorem ts_N {mw : Nat → Int64} {w : Nat → Nat} {k T A Z : Nat} {r : Int64} {kx : Int32} (hw : ∀ j, j < k → mw j = lN (w j)) (hb : ∀ j, j < k → T * w j < 2 ^ 63) (hA : 0 < A) (hA2 : A < 2 ^ 63) : ∀ (n j : Nat) (y : Int64), j + n ≤ k → ts_L mw (lN T) (lN A) r kx n j (lN (sd_N w T A n j + Z)) y = (lN Z, rk_L w T A r kx n j y)
  | 0, _, _, _ => by
    show (lN (0 + Z), _) = _
    rw [Nat.zero_add]
    rfl
  | n + 1, j, y, h => by
    show ts_L mw (lN T) (lN A) r kx n (j + 1) (lN (T * w j / A + sd_N w T A n (j + 1) + Z) - lN T * mw j / lN A) (y + ts_s r (lN T * mw j - lN T * mw j / lN A * lN A) kx (nI j)) = _
    rw [hw j (by omega), lN_mul, pk_lRem (hb j (by omega)) hA hA2, pk_lDiv (hb j (by omega)) hA hA2, lN_sub (by omega), show T * w j / A + sd_N w T A n (j + 1) + Z - T * w j / A = sd_N w T A n (j + 1) + Z from by omega, ts_N hw hb hA hA2 n (j + 1) _ (by omega)]
    rfl
theorem cm_N {a b : Nat} (ha : a < 2 ^ 63) (hb : b < 2 ^ 63) (h0 : 0 < b) : f_M_common (lN a) (lN b) = lN (Nat.gcd a b) := by
  have ta := pk_lT ha
  have tb := pk_lT hb
  have hg : Nat.gcd a b ≤ b := Nat.gcd_le_right a h0
  apply Int64.toInt_inj.mp
  rw [cm_T (by omega) (by omega), ta, tb, pk_lT (by omega)]
  rfl
theorem lN_nn {a : Nat} (ha : a < 2 ^ 63) : (0 : Int64) ≤ lN a := (pk_lLE (a := 0) (by decide) ha).mpr (Nat.zero_le _)
theorem lo_N {a b : Nat} (ha : a < 2 ^ 63) (hb : b < 2 ^ 63) (h0 : 0 < b) : lo_U (lN a) (lN b) = lN (a / Nat.gcd a b) ∧ lo_D (lN a) (lN b) = lN (b / Nat.gcd a b) := by
  have hg : Nat.gcd a b ≤ b := Nat.gcd_le_right a h0
  have hg0 : 0 < Nat.gcd a b := Nat.gcd_pos_of_pos_right a h0
  unfold lo_U lo_D
  rw [if_pos (lN_nn hb), if_pos (lN_nn hb), cm_N ha hb h0, pk_lDiv ha hg0 (by omega), pk_lDiv hb hg0 (by omega)]
  exact ⟨rfl, rfl⟩
theorem lo_sc {a b d : Nat} (h0 : 0 < b) (hd : 0 < d) (ha : a * d < 2 ^ 63) (hb : b * d < 2 ^ 63) : lo_U (lN (a * d)) (lN (b * d)) = lo_U (lN a) (lN b) ∧ lo_D (lN (a * d)) (lN (b * d)) = lo_D (lN a) (lN b) := by
  have h1 : a ≤ a * d := Nat.le_mul_of_pos_right a hd
  have h2 : b ≤ b * d := Nat.le_mul_of_pos_right b hd
  obtain ⟨e1, e2⟩ := lo_N ha hb (Nat.mul_pos h0 hd)
  obtain ⟨e3, e4⟩ := lo_N (a := a) (b := b) (by omega) (by omega) h0
  rw [e1, e2, e3, e4, Nat.gcd_mul_right, Nat.mul_div_mul_right _ _ hd, Nat.mul_div_mul_right _ _ hd]
  exact ⟨rfl, rfl⟩
theorem make_lo {up dn : Nat → Int64} {mu : Nat → Int32} {n : Int32} {x y x2 y2 : Int64} {z : Int32} (h : lo_U x y = lo_U x2 y2 ∧ lo_D x y = lo_D x2 y2) : f_M_make up dn mu n x y z = f_M_make up dn mu n x2 y2 z := by
  have hb : lo_big x y ↔ lo_big x2 y2 := by
    unfold lo_big
    rw [h.1, h.2]
  by_cases c : lo_big x y ∨ n = 500
  · rw [make_no c, make_no (c.elim (fun q => Or.inl (hb.mp q)) Or.inr)]
  · have c1 : ¬ lo_big x y := fun q => c (Or.inl q)
    have c2 : ¬ n = 500 := fun q => c (Or.inr q)
    rw [make_yes c1 c2, make_yes (fun q => c1 (hb.mpr q)) c2, h.1, h.2]
section AGR5
variable {ab be up dn we mw : Nat → Int64} {un mu : Nat → Int32} {n k : Int32}
theorem share_nz {a : Int32} (h : IA ab be up dn un mu n) : ¬ f_M_isAmount a n = 0 → ¬ 1000 * dn a.toNatClampNeg = 0 := by
  intro ca e
  obtain ⟨-, e2, -, -, -, h6, h7, -, -⟩ := am_at h ca
  rw [e2] at h6 h7
  have z : (1000 : Int64).toInt = 1000 := rfl
  have hm := (mul_T (x := 1000) (y := dn a.toNatClampNeg) (by omega) (by omega) (by omega) h7).1
  exact mul_nz hm (by omega) (by omega) e
theorem nn_N {x : Int64} (h1 : 0 ≤ x.toInt) : x = lN x.toInt.toNat := by
  have h := Int64.toInt_lt x
  apply Int64.toInt_inj.mp
  rw [pk_lT (by omega)]
  omega
theorem share_ag {a kx : Int32} (h : IA ab be up dn un mu n) (hw : IW we mw k) : AG (f_X_share ab be un n we k a kx) (f_M_share up dn mu n mw k a kx) := by
  unfold f_X_share f_M_share f_X_thousandthsOf f_X_sumOfWeights
  rw [← am_eq]
  by_cases ca : f_X_isAmount a n = 0
  · rw [if_pos ca, if_pos ca]; exact AG_s h _
  · rw [if_neg ca, if_neg ca]
    obtain ⟨e1, e2, e3, h4, h5, h6, h7, h8, h9⟩ := am_at h ca
    rw [← e1, ← e2, ← e3]
    by_cases c1 : kx < 0
    · rw [if_pos c1, if_pos c1]; exact AG_s h _
    · rw [if_neg c1, if_neg c1]
      by_cases c2 : kx < k
      · rw [if_pos c2, if_pos c2]
        by_cases c3 : ab a.toNatClampNeg < 0
        · rw [if_pos c3, if_pos c3]; exact AG_s h _
        · rw [if_neg c3, if_neg c3]
          obtain ⟨hk0, hk16, hj⟩ := hw
          have ek := cl_le hk0
          have hkx := c1
          have hkx2 := c2
          rw [Int32.lt_iff_toInt_lt] at hkx hkx2
          have z0 : (0 : Int32).toInt = 0 := rfl
          have ekx := cl_le (tc := kx) (by omega)
          have w1 : ∀ j, j < k.toNatClampNeg → we j = lN (we j).toInt.toNat := fun j g => nn_N (hj j (by omega)).2.1
          have w2 : ∀ j, j < k.toNatClampNeg → mw j = lN (we j).toInt.toNat := fun j g => by rw [← (hj j (by omega)).1]; exact w1 j g
          have w3 : ∀ j, j < k.toNatClampNeg → (we j).toInt.toNat ≤ 1000000 := fun j g => by have := (hj j (by omega)).2.2; omega
          generalize hwd : (fun j => (we j).toInt.toNat) = w at *
          replace w1 : ∀ j, j < k.toNatClampNeg → we j = lN (w j) := fun j g => by rw [← hwd]; exact w1 j g
          replace w2 : ∀ j, j < k.toNatClampNeg → mw j = lN (w j) := fun j g => by rw [← hwd]; exact w2 j g
          replace w3 : ∀ j, j < k.toNatClampNeg → w j ≤ 1000000 := fun j g => by rw [← hwd]; exact w3 j g
          clear hwd
          generalize hK : k.toNatClampNeg = K at *
          have hs1 := sum_N w1 K 0 0 (by omega)
          have hs2 := sum_N w2 K 0 0 (by omega)
          rw [Nat.zero_add] at hs1 hs2
          change sum_L we K 0 0 = _ at hs1
          change sum_L mw K 0 0 = _ at hs2
          rw [hs1, hs2]
          obtain ⟨hA1, hA2⟩ := sw_b w3 K 0 (by omega)
          have hA3 := hA2 kx.toNatClampNeg (by omega) (by omega)
          have hsd := fun T A => sd_sr w T A K 0
          generalize hA : sw_N w K 0 = A at *
          have hz : lN A = 0 ↔ A = 0 := pk_lEQ (b := 0) (by omega) (by decide)
          by_cases c4 : A = 0
          · rw [if_pos (hz.mpr c4), if_pos (hz.mpr c4)]; exact AG_s h _
          · rw [if_neg (fun q => c4 (hz.mp q)), if_neg (fun q => c4 (hz.mp q))]
            have c3' := c3
            rw [Int64.lt_iff_toInt_lt] at c3'
            have z64 : (0 : Int64).toInt = 0 := rfl
            have eu : ab a.toNatClampNeg = lN (ab a.toNatClampNeg).toInt.toNat := nn_N (by omega)
            have hu : (ab a.toNatClampNeg).toInt.toNat ≤ 2147483647 := by omega
            generalize (ab a.toNatClampNeg).toInt.toNat = u at *
            obtain ⟨d, hd0, hd, ed⟩ := pos_N h6 h7
            rw [eu, ed, w1 kx.toNatClampNeg (by omega), w2 kx.toNatClampNeg (by omega)]
            rw [show lN u * (1000 : Int64) = lN (u * 1000) from lN_mul u 1000, show (1000 : Int64) * lN d = lN (1000 * d) from lN_mul 1000 d, qd_N (by omega) hd0 (by omega), rd_N (by omega) hd0 (by omega), pk_lRem (by omega) hd0 (by omega), pk_lDiv (by omega) hd0 (by omega)]
            have hT : u * 1000 / d ≤ u * 1000 := Nat.div_le_self _ _
            have hTd : u * 1000 / d * d ≤ u * 1000 := Nat.div_mul_le_self _ _
            have hr := Nat.mod_lt (u * 1000) hd0
            generalize hTe : u * 1000 / d = T at *
            have hb : ∀ j, j < K → T * w j < 2 ^ 63 := fun j g => by
              have := Nat.mul_le_mul (show T ≤ 2147483647000 by omega) (w3 j g)
              omega
            have hbx := hb kx.toNatClampNeg (by omega)
            have hA0 : 0 < A := Nat.pos_of_ne_zero c4
            have hA9 : A < 2 ^ 63 := by omega
            have hsd := hsd T A
            have hsdT : sd_N w T A K 0 ≤ T := by
              have h1 : A * sd_N w T A K 0 ≤ A * T := by rw [Nat.mul_comm A T]; omega
              exact Nat.le_of_mul_le_mul_left h1 hA0
            obtain ⟨Z, hZ⟩ : ∃ Z, T = sd_N w T A K 0 + Z := ⟨T - sd_N w T A K 0, by omega⟩
            have hZr : sr_N w T A K 0 = A * Z := by
              have h1 : T * A = A * sd_N w T A K 0 + A * Z := by
                rw [← Nat.mul_add, ← hZ, Nat.mul_comm]
              omega
            have hZT : Z ≤ T := by omega
            have hAZ : A * Z < 2 ^ 63 := by
              have := Nat.mul_le_mul (show A ≤ 16000000 by omega) (show Z ≤ 2147483647000 by omega)
              have hA9' : sr_N w T A K 0 ≤ 16 * A := by
                have hh : ∀ nn jj, sr_N w T A nn jj ≤ nn * A := by
                  intro nn
                  induction nn with
                  | zero => intro jj; exact Nat.zero_le _
                  | succ nn ih =>
                    intro jj
                    have h1 := Nat.mod_lt (T * w jj) hA0
                    have h2 := ih (jj + 1)
                    show T * w jj % A + sr_N w T A nn (jj + 1) ≤ (nn + 1) * A
                    rw [Nat.add_mul]
                    omega
                have h1 := hh K 0
                have h2 : K * A ≤ 16 * A := Nat.mul_le_mul (by omega) (Nat.le_refl _)
                omega
              omega
            rw [lN_mul, rd_N hbx hA0 hA9, pk_lRem hbx hA0 hA9, pk_lDiv hbx hA0 hA9, qd_N hbx hA0 hA9]
            have t1 := th_N (r := lN (T * w kx.toNatClampNeg % A)) (kx := kx) w1 hb hA0 hA9 K 0 0 0 (by omega)
            have t2 := ts_N (Z := Z) (r := lN (T * w kx.toNatClampNeg % A)) (kx := kx) w2 hb hA0 hA9 K 0 0 (by omega)
            rw [← hZ] at t2
            rw [Nat.zero_add, hZr] at t1
            change th_L we (lN T) (lN A) _ kx K 0 0 0 = _ at t1
            rw [t1, t2]
            show AG (if _ then _ else _) _
            rw [qd_N hAZ hA0 hA9, Nat.mul_div_cancel_left _ hA0]
            have hown : T * w kx.toNatClampNeg / A ≤ T := by
              have h1 : T * w kx.toNatClampNeg ≤ T * A := Nat.mul_le_mul (Nat.le_refl _) hA3
              exact Nat.le_trans (Nat.div_le_div_right h1) (by rw [Nat.mul_div_cancel _ hA0]; exact Nat.le_refl _)
            generalize T * w kx.toNatClampNeg / A = O at *
            have hkz : kx ≤ 0 ↔ kx = 0 := by
              rw [Int32.le_iff_toInt_le]
              exact ⟨fun q => Int32.toInt_inj.mp (by omega), fun q => by rw [q]; decide⟩
            have ez : (lN O : Int64) + 0 = lN O := Int64.add_zero _
            have fin : ∀ P : Nat, P ≤ T + 1 → AG (if kx = 0 then f_X_keep ab be un n (lN P * lN d + lN (u * 1000 % d)) (lN (1000 * d)) (un a.toNatClampNeg) else f_X_keep ab be un n (lN P) 1000 (un a.toNatClampNeg)) (if kx = 0 then mk5 0 (f_M_make up dn mu n (lN P * lN d + lN (u * 1000 % d)) (lN (1000 * d)) (un a.toNatClampNeg)) else mk5 0 (f_M_make up dn mu n (lN P * lN d + 0) (lN (1000 * d)) (un a.toNatClampNeg))) := by
              intro P hP
              have hPd : P * d ≤ (T + 1) * d := Nat.mul_le_mul hP (Nat.le_refl _)
              rw [Nat.add_mul] at hPd
              by_cases c5 : kx = 0
              · rw [if_pos c5, if_pos c5, lN_mul, lN_add]
                refine AG_k h ?_ ?_ ?_ h8 h9
                · rw [pk_lT (by omega)]; omega
                · rw [pk_lT (by omega)]; omega
                · intro q
                  have := (pk_lEQ (b := 0) (show 1000 * d < 2 ^ 63 by omega) (by decide)).mp q
                  omega
              · rw [if_neg c5, if_neg c5, lN_mul, Int64.add_zero, make_lo (lo_sc (a := P) (b := 1000) (by decide) hd0 (by omega) (by omega))]
                refine AG_k h ?_ (by decide) (by decide) h8 h9
                rw [pk_lT (by omega)]; omega
            by_cases c6 : lN Z ≤ rk_L w T A (lN (T * w kx.toNatClampNeg % A)) kx K 0 0
            · simp only [if_pos c6, hkz, ez]
              exact fin O (by omega)
            · simp only [if_neg c6, hkz]
              rw [lN_1]
              exact fin (O + 1) (by omega)
      · rw [if_neg c2, if_neg c2]; exact AG_s h _
end AGR5
