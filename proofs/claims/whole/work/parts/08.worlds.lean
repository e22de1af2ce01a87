/-- a state of known size holds these cells, apart from each other, and the tables are known -/
def wx (dC : Nat → ClassId) (dI : Nat → Nat → Nat) (cJ cI cT : ClassId) (sz : Nat) (ws : va_W) (U : State) : Prop := U.heap.size = sz ∧ va_P (dC, dI) classes ws U.heap ∧ va_K (dC, dI) classes (TY cJ cI cT) U ∧ va_D (fun _ => True) ws
theorem wx_blind {dC : Nat → ClassId} {dI : Nat → Nat → Nat} {cJ cI cT : ClassId} {sz : Nat} {ws : va_W} {as : List Value} : FrameBlind (va_Pc as (wx dC dI cJ cI cT sz ws)) := fun a U g mk q => ⟨q.1, q.2.1, q.2.2.1, va_K.moved (u := U) (U := U.calling g mk a) (Vm.Alike.refl U.vm) q.2.2.2.1, q.2.2.2.2⟩
theorem wx_pre {dC : Nat → ClassId} {dI : Nat → Nat → Nat} {cJ cI cT : ClassId} {A : Nat → Prop} {ws : va_W} {as : List Value} {s : State} {H : Heap} (hP : va_P (dC, dI) classes ws H) (hK : va_K (dC, dI) classes (TY cJ cI cT) s) (hD : va_D A ws) : ∀ U : State, U.heap = H → s.WarmedH U.vm → va_Pc as (wx dC dI cJ cI cT H.size ws) as.toArray U := fun U hU hW => ⟨rfl, by rw [hU], by rw [hU]; exact hP, va_K.moved hW.alike hK, hD.weaken (fun _ _ _ _ => trivial)⟩
/-- the cells behind a method -/
def wb (dC : Nat → ClassId) (dI : Nat → Nat → Nat) (cJ cI cT : ClassId) (A : Nat → Prop) (ws : va_W) (t : State) : Prop := va_P (dC, dI) classes ws t.heap ∧ va_K (dC, dI) classes (TY cJ cI cT) t ∧ va_D A ws
theorem wb_of {dC : Nat → ClassId} {dI : Nat → Nat → Nat} {cJ cI cT : ClassId} {A : Nat → Prop} {ws : va_W} {s t : State} {H : Heap} (ht : t.heap = H) (hW : s.WarmedH t.vm) (hP : va_P (dC, dI) classes ws H) (hK : va_K (dC, dI) classes (TY cJ cI cT) s) (hD : va_D A ws) : wb dC dI cJ cI cT A ws t := ⟨by rw [ht]; exact hP, va_K.moved hW.alike hK, hD⟩
/-- the places of small numbers -/
theorem in_lt {a n : Int32} {N : Nat} (h0 : ¬ a < 0) (h1 : a < n) (hn : n.toInt ≤ N) : vp_in a N := by
  rw [vp_in_iff]
  rw [Int32.lt_iff_toInt_lt] at h0 h1
  have e0 : (0 : Int32).toInt = 0 := rfl
  omega
theorem in_nle {a n : Int32} {N : Nat} (h0 : ¬ a < 0) (h1 : ¬ n ≤ a) (hn : n.toInt ≤ N) : vp_in a N := by
  rw [vp_in_iff]
  rw [Int32.lt_iff_toInt_lt] at h0
  rw [Int32.le_iff_toInt_le] at h1
  have e0 : (0 : Int32).toInt = 0 := rfl
  omega
theorem in_cnt {n N' : Int32} {N : Nat} (h0 : 0 ≤ n.toInt) (h1 : n < N') (hn : N'.toInt ≤ N) : vp_in n N := by
  rw [vp_in_iff]
  rw [Int32.lt_iff_toInt_lt] at h1
  omega
theorem nz_pos {y : Int64} (h : ¬ y < 1) : ¬ y = 0 := fun e => by subst e; exact absurd (by decide) h
theorem nz_neg {y : Int64} (h : ¬ y < 1) : ¬ -y = 0 := fun e => by
  have h1 : y = 0 := by
    have := congrArg (fun z : Int64 => -z) e
    simpa using this
  exact nz_pos h h1
