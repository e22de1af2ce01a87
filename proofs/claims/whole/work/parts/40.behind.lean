/-- the rest after k places -/
def rs_N (d : Nat) : Nat → Nat → Nat
  | 0, a => a
  | k + 1, a => rs_N d k (a * 10 % d)
theorem rs_0 (d : Nat) : ∀ k : Nat, rs_N d k 0 = 0
  | 0 => rfl
  | k + 1 => by
    show rs_N d k (0 * 10 % d) = 0
    rw [Nat.zero_mul, Nat.zero_mod]
    exact rs_0 d k
theorem rd_N {x d : Nat} (hx : x < 2 ^ 63) (h0 : 0 < d) (hd : d < 2 ^ 63) : f_X_restOf (lN x) (lN d) = lN (x % d) := by
  apply Int64.toInt_inj.mp
  have e := Nat.mod_lt x h0
  rw [rd_T (by rw [pk_lT hd]; omega), pk_lT hx, pk_lT hd, pk_lT (by omega)]
  rfl
theorem itR_N {d : Nat} (h0 : 0 < d) (hd : d < 2 ^ 31) : ∀ (k a : Nat), a < d → it_R (lN d) k (lN a) = lN (rs_N d k a)
  | 0, _, _ => rfl
  | k + 1, a, ha => by
    show it_R (lN d) k (f_X_restOf (lN a * 10) (lN d)) = _
    rw [show lN a * (10 : Int64) = lN (a * 10) from lN_mul a 10, rd_N (by omega) h0 (by omega), itR_N h0 hd k _ (Nat.mod_lt _ h0)]
    rfl
theorem db_N {d : Nat} (h0 : 0 < d) (hd : d < 2 ^ 31) {i : Int32} {q : Nat} (hq : q < 30) (hi : i = nI q) : ∀ (n j a : Nat), a < d → j ≤ q → j + n = 30 → db_L (lN d) i n j (lN a) = if rs_N d (q - j) a = 0 then (0, 1) else (nI (rs_N d (q - j) a * 10 / d), 0)
  | 0, j, a, _, h1, h2 => by omega
  | n + 1, j, a, ha, h1, h2 => by
    unfold db_L
    have c : lN a ≤ 0 ↔ a ≤ 0 := pk_lLE (b := 0) (by omega) (by decide)
    by_cases a0 : a ≤ 0
    · have e : a = 0 := by omega
      rw [if_pos (c.mpr a0), e, rs_0, if_pos rfl]
    · rw [if_neg (fun w => a0 (c.mp w)), hi]
      have cj : nI j = nI q ↔ j = q := nI_eq (by omega) (by omega)
      have em : lN a * (10 : Int64) = lN (a * 10) := lN_mul a 10
      by_cases e : j = q
      · rw [if_pos (cj.mpr e), e, Nat.sub_self]
        show _ = if a = 0 then _ else _
        rw [if_neg (by omega), em, pk_lDiv (by omega) h0 (by omega), lN_i]
        rfl
      · rw [if_neg (fun w => e (cj.mp w)), em, pk_lRem (by omega) h0 (by omega), ← hi, db_N h0 hd hq hi n (j + 1) _ (Nat.mod_lt _ h0) (by omega) (by omega)]
        rw [show q - j = (q - (j + 1)) + 1 from by omega]
        rfl
