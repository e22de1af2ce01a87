theorem u_5 {u : Int32} (h0 : 0 ≤ u.toInt) (h4 : u.toInt ≤ 4) : u = 0 ∨ u = 1 ∨ u = 2 ∨ u = 3 ∨ u = 4 := by
  rcases (show u.toInt = 0 ∨ u.toInt = 1 ∨ u.toInt = 2 ∨ u.toInt = 3 ∨ u.toInt = 4 by omega) with h | h | h | h | h
  · exact Or.inl (Int32.toInt_inj.mp h)
  · exact Or.inr (Or.inl (Int32.toInt_inj.mp h))
  · exact Or.inr (Or.inr (Or.inl (Int32.toInt_inj.mp h)))
  · exact Or.inr (Or.inr (Or.inr (Or.inl (Int32.toInt_inj.mp h))))
  · exact Or.inr (Or.inr (Or.inr (Or.inr (Int32.toInt_inj.mp h))))
def m_T (u v : Int32) : Int32 := if u = 0 then v else if v = 0 then u else if f_M_areTwo u v 2 3 = 0 then if f_M_areTwo u v 1 4 = 0 then -1 else 1 else 2
def m_O (u v : Int32) : Int32 := if u = v then 0 else if v = 0 then u else if u = 2 then if v = 3 then 2 else if u = 1 then if v = 4 then 1 else -1 else -1 else if u = 1 then if v = 4 then 1 else -1 else -1
theorem m_T_eq {u v : Int32} (hu0 : 0 ≤ u.toInt) (hu : u.toInt ≤ 4) (hv0 : 0 ≤ v.toInt) (hv : v.toInt ≤ 4) : f_X_unitOfProduct u v = m_T u v ∧ (m_T u v = -1 ∨ (0 ≤ (m_T u v).toInt ∧ (m_T u v).toInt ≤ 4)) := by
  rcases u_5 hu0 hu with q | q | q | q | q <;> rcases u_5 hv0 hv with w | w | w | w | w <;> subst q <;> subst w <;> decide
theorem m_O_eq {u v : Int32} (hu0 : 0 ≤ u.toInt) (hu : u.toInt ≤ 4) (hv0 : 0 ≤ v.toInt) (hv : v.toInt ≤ 4) : f_X_unitOfQuotient u v = m_O u v ∧ (m_O u v = -1 ∨ (0 ≤ (m_O u v).toInt ∧ (m_O u v).toInt ≤ 4)) := by
  rcases u_5 hu0 hu with q | q | q | q | q <;> rcases u_5 hv0 hv with w | w | w | w | w <;> subst q <;> subst w <;> decide
theorem nm1 {u : Int32} (h : 0 ≤ u.toInt) : ¬ u = -1 := fun e => by subst e; exact absurd h (by decide)
section AGR2
variable {ab be up dn : Nat → Int64} {un mu : Nat → Int32} {n : Int32}
theorem times_ag {a b : Int32} (h : IA ab be up dn un mu n) : AG (f_X_times ab be un n a b) (f_M_times up dn mu n a b) := by
  unfold f_X_times f_M_times
  rw [← am_eq, ← am_eq]
  by_cases ca : f_X_isAmount a n = 0
  · rw [if_pos ca, if_pos ca]; exact AG_s h _
  · rw [if_neg ca, if_neg ca]
    by_cases cb : f_X_isAmount b n = 0
    · rw [if_pos cb, if_pos cb]; exact AG_s h _
    · rw [if_neg cb, if_neg cb]
      have hnz := add_nz (a := a) (b := b) h ca cb
      obtain ⟨e1, e2, e3, h4, h5, h6, h7, h8, h9⟩ := am_at h ca
      obtain ⟨f1, f2, f3, g4, g5, g6, g7, g8, g9⟩ := am_at h cb
      rw [← e2, ← f2] at hnz
      rw [← e1, ← e2, ← e3, ← f1, ← f2, ← f3]
      have m1 := mul_T (x := ab a.toNatClampNeg) (y := ab b.toNatClampNeg) h4 h5 g4 g5
      have m3 := mul_T (x := be a.toNatClampNeg) (y := be b.toNatClampNeg) (by omega) h7 (by omega) g7
      have k1 : (ab a.toNatClampNeg * ab b.toNatClampNeg).toInt ≠ -2 ^ 63 := by rw [m1.1]; omega
      have k2 : (be a.toNatClampNeg * be b.toNatClampNeg).toInt ≠ -2 ^ 63 := by rw [m3.1]; omega
      obtain ⟨q1, q2⟩ := m_T_eq h8 h9 g8 g9
      rw [q1]
      have hu := nm1 h8
      have hv := nm1 g8
      unfold m_T at q2 ⊢
      by_cases c1 : un a.toNatClampNeg = 0
      · simp only [if_pos c1] at q2 ⊢
        rw [if_neg hv, if_neg hv]
        exact AG_k h k1 k2 hnz g8 g9
      · simp only [if_neg c1] at q2 ⊢
        by_cases c2 : un b.toNatClampNeg = 0
        · simp only [if_pos c2] at q2 ⊢
          rw [if_neg hu, if_neg hu]
          exact AG_k h k1 k2 hnz h8 h9
        · simp only [if_neg c2] at q2 ⊢
          by_cases c3 : f_M_areTwo (un a.toNatClampNeg) (un b.toNatClampNeg) 2 3 = 0
          · simp only [if_pos c3] at q2 ⊢
            by_cases c4 : f_M_areTwo (un a.toNatClampNeg) (un b.toNatClampNeg) 1 4 = 0
            · simp only [if_pos c4]
              rw [if_pos trivial]; exact AG_s h _
            · simp only [if_neg c4]
              rw [if_neg (by decide)]
              exact AG_k h k1 k2 hnz (by decide) (by decide)
          · simp only [if_neg c3]
            rw [if_neg (by decide)]
            exact AG_k h k1 k2 hnz (by decide) (by decide)
theorem over_nz {a b : Int32} (h : IA ab be up dn un mu n) : ¬ f_M_isAmount a n = 0 → ¬ f_M_isAmount b n = 0 → ¬ up b.toNatClampNeg = 0 → ¬ dn a.toNatClampNeg * up b.toNatClampNeg = 0 := by
  intro ca cb c0
  obtain ⟨-, e2, -, -, -, h6, h7, -, -⟩ := am_at h ca
  obtain ⟨f1, -, -, g4, g5, -, -, -, -⟩ := am_at h cb
  rw [← f1] at c0
  rw [← e2, ← f1]
  exact mul_nz (mul_T (by omega) (by omega) (by omega) (by omega)).1 (by omega) (fun e => c0 (Int64.toInt_inj.mp e))
/-- over: where b is 0 both throw; else one answer -/
theorem over_ag {a b : Int32} (h : IA ab be up dn un mu n) : (e_X_over ab be un n a b = 1 → f_M_over up dn mu n a b = (0, 1, up, dn, mu, n)) ∧ (e_X_over ab be un n a b = 0 → AG (f_X_over ab be un n a b) (f_M_over up dn mu n a b)) := by
  unfold e_X_over f_X_over f_M_over
  rw [← am_eq, ← am_eq]
  by_cases ca : f_X_isAmount a n = 0
  · simp only [if_pos ca]; exact ⟨fun q => absurd q (by decide), fun _ => AG_s h _⟩
  · simp only [if_neg ca]
    by_cases cb : f_X_isAmount b n = 0
    · simp only [if_pos cb]; exact ⟨fun q => absurd q (by decide), fun _ => AG_s h _⟩
    · simp only [if_neg cb]
      have hnz := over_nz (a := a) (b := b) h ca cb
      obtain ⟨e1, e2, e3, h4, h5, h6, h7, h8, h9⟩ := am_at h ca
      obtain ⟨f1, f2, f3, g4, g5, g6, g7, g8, g9⟩ := am_at h cb
      rw [← e2, ← f1] at hnz
      rw [← e1, ← e2, ← e3, ← f1, ← f2, ← f3]
      have m1 := mul_T (x := ab a.toNatClampNeg) (y := be b.toNatClampNeg) h4 h5 (by omega) g7
      have m3 := mul_T (x := be a.toNatClampNeg) (y := ab b.toNatClampNeg) (by omega) h7 g4 g5
      have k1 : (ab a.toNatClampNeg * be b.toNatClampNeg).toInt ≠ -2 ^ 63 := by rw [m1.1]; omega
      have k2 : (be a.toNatClampNeg * ab b.toNatClampNeg).toInt ≠ -2 ^ 63 := by rw [m3.1]; omega
      obtain ⟨q1, q2⟩ := m_O_eq h8 h9 g8 g9
      rw [q1]
      have hu := nm1 h8
      have fin : ∀ c : Int32, ¬ c = -1 → 0 ≤ c.toInt → c.toInt ≤ 4 → ((if c = -1 then 0 else if ab b.toNatClampNeg = 0 then (1 : Int32) else 0) = 1 → (if ab b.toNatClampNeg = 0 then ((0 : Int32), (1 : Int32), up, dn, mu, n) else mk5 0 (f_M_make up dn mu n (ab a.toNatClampNeg * be b.toNatClampNeg) (be a.toNatClampNeg * ab b.toNatClampNeg) c)) = (0, 1, up, dn, mu, n)) ∧ ((if c = -1 then 0 else if ab b.toNatClampNeg = 0 then (1 : Int32) else 0) = 0 → AG (if c = -1 then (-1, ab, be, un, n) else if ab b.toNatClampNeg = 0 then (0, ab, be, un, n) else f_X_keep ab be un n (ab a.toNatClampNeg * be b.toNatClampNeg) (be a.toNatClampNeg * ab b.toNatClampNeg) c) (if ab b.toNatClampNeg = 0 then ((0 : Int32), (1 : Int32), up, dn, mu, n) else mk5 0 (f_M_make up dn mu n (ab a.toNatClampNeg * be b.toNatClampNeg) (be a.toNatClampNeg * ab b.toNatClampNeg) c))) := by
        intro c hc hc0 hc4
        rw [if_neg hc, if_neg hc]
        by_cases cz : ab b.toNatClampNeg = 0
        · simp only [if_pos cz]; exact ⟨fun _ => trivial, fun q => absurd q (by decide)⟩
        · simp only [if_neg cz]; exact ⟨fun q => absurd q (by decide), fun _ => AG_k h k1 k2 (hnz cz) hc0 hc4⟩
      have non : ((if (-1 : Int32) = -1 then 0 else if ab b.toNatClampNeg = 0 then (1 : Int32) else 0) = 1 → ((-1 : Int32), (0 : Int32), up, dn, mu, n) = (0, 1, up, dn, mu, n)) ∧ ((if (-1 : Int32) = -1 then 0 else if ab b.toNatClampNeg = 0 then (1 : Int32) else 0) = 0 → AG (if (-1 : Int32) = -1 then (-1, ab, be, un, n) else if ab b.toNatClampNeg = 0 then (0, ab, be, un, n) else f_X_keep ab be un n (ab a.toNatClampNeg * be b.toNatClampNeg) (be a.toNatClampNeg * ab b.toNatClampNeg) (-1)) (-1, 0, up, dn, mu, n)) := by
        rw [if_pos rfl, if_pos rfl]
        exact ⟨fun q => absurd q (by decide), fun _ => AG_s h _⟩
      unfold m_O
      by_cases c1 : un a.toNatClampNeg = un b.toNatClampNeg
      · simp only [if_pos c1]; exact fin 0 (by decide) (by decide) (by decide)
      · simp only [if_neg c1]
        by_cases c2 : un b.toNatClampNeg = 0
        · simp only [if_pos c2, if_neg hu]; exact (by simpa only [if_neg hu] using fin _ hu h8 h9)
        · simp only [if_neg c2]
          by_cases c3 : un a.toNatClampNeg = 2
          · simp only [if_pos c3]
            by_cases c4 : un b.toNatClampNeg = 3
            · simp only [if_pos c4]; exact fin 2 (by decide) (by decide) (by decide)
            · simp only [if_neg c4]
              have c5 : ¬ un a.toNatClampNeg = 1 := by rw [c3]; decide
              simp only [if_neg c5]; exact non
          · simp only [if_neg c3]
            by_cases c5 : un a.toNatClampNeg = 1
            · simp only [if_pos c5]
              by_cases c6 : un b.toNatClampNeg = 4
              · simp only [if_pos c6]; exact fin 1 (by decide) (by decide) (by decide)
              · simp only [if_neg c6]; exact non
            · simp only [if_neg c5]; exact non
end AGR2
