set_option maxHeartbeats 4000000 in
set_option maxRecDepth 100000 in
theorem lp_X_commonDivisor {p : Program} {l : Launch} {e : Env} {R : Room} {s : State} {m : MethodId} {args : Array Value} {below : List Frame} {meth : Method} {c : Code} {H : Heap} {locs : List Loc} {cells slots : Nat} {Q : State → Prop} (hx : p.tables.exec = Jvm.exec) (hb : c.code = c_X_commonDivisor) : ∀ (n j : Nat) (a b : Int64) (ls : Array Slot), j + n = 1000 → lv_has ls 11 [(4, .long a), (6, .long b), (8, .int (nI j))] → (∀ ls' : Array Slot, lv_has ls' 11 [(4, .long (eu_L n a b))] → W p l e R s m args below meth c H locs cells slots Q (F0 m 51 ls' [])) → W p l e R s m args below meth c H locs cells slots Q (F0 m 15 ls []) := by
  intro n
  induction n with
  | zero =>
    intro j a b ls hj hl kk
    obtain rfl : j = 1000 := by omega
    refine lv_iload hx hb d_X_commonDivisor_15 (lv_at hl 2 rfl) ?_
    refine lv_sipush (v := 1000) hx hb d_X_commonDivisor_17 (by decide) ?_
    refine lv_icmp_ge (tgt := 51) hx hb d_X_commonDivisor_20 (by decide) (fun c_1 => ?_) (fun c_1 => ?_)
    · skip
      exact kk ls (lv_sub hl [0] rfl)
    · skip
      exact absurd (by decide) c_1
  | succ n ih =>
    intro j a b ls hj hl kk
    refine lv_iload hx hb d_X_commonDivisor_15 (lv_at hl 2 rfl) ?_
    refine lv_sipush (v := 1000) hx hb d_X_commonDivisor_17 (by decide) ?_
    refine lv_icmp_ge (tgt := 51) hx hb d_X_commonDivisor_20 (by decide) (fun c_1 => ?_) (fun c_1 => ?_)
    · skip
      exact absurd c_1 (nI_ge (b := 1000) (by omega) (by decide))
    · skip
      refine lv_lload hx hb d_X_commonDivisor_23 (lv_at hl 1 rfl) ?_
      refine lv_lconst (v := 0) hx hb d_X_commonDivisor_25 (by decide) ?_
      refine W.lcmp hx hb d_X_commonDivisor_26 ?_
      refine lv_if_eq (tgt := 51) hx hb d_X_commonDivisor_27 (by decide) (fun c_2 => ?_) (fun c_2 => ?_)
      · skip
        rw [lg_cmp_eq] at c_2
        have hz : eu_L (n + 1) a b = a := if_pos c_2
        exact kk ls (by rw [hz]; exact lv_sub hl [0] rfl)
      · skip
        rw [lg_cmp_eq] at c_2
        refine lv_lload hx hb d_X_commonDivisor_30 (lv_at hl 0 rfl) ?_
        refine lv_lload hx hb d_X_commonDivisor_32 (lv_at hl 1 rfl) ?_
        refine lv_lrem hx hb d_X_commonDivisor_34 c_2 ?_
        refine lv_topl (fun v_3 ev_3 => ?_)
        refine lv_lstore (lv' := [(9, .long v_3), (4, .long a), (6, .long b), (8, .int (nI j))]) hx hb d_X_commonDivisor_35 hl (by decide) rfl (fun ls hl => ?_)
        refine lv_lload hx hb d_X_commonDivisor_37 (lv_at hl 2 rfl) ?_
        refine lv_lstore (lv' := [(4, .long b), (9, .long v_3), (6, .long b), (8, .int (nI j))]) hx hb d_X_commonDivisor_39 hl (by decide) rfl (fun ls hl => ?_)
        refine lv_lload hx hb d_X_commonDivisor_41 (lv_at hl 1 rfl) ?_
        refine lv_lstore (lv' := [(6, .long v_3), (4, .long b), (9, .long v_3), (8, .int (nI j))]) hx hb d_X_commonDivisor_43 hl (by decide) rfl (fun ls hl => ?_)
        obtain ⟨v_4, ev_4⟩ : ∃ y : Int32, y = nI j + 1 := ⟨_, rfl⟩
        refine lv_iinc (v := v_4) (lv' := [(8, .int v_4), (6, .long v_3), (4, .long b), (9, .long v_3)]) hx hb d_X_commonDivisor_45 hl (k := 3) rfl (by rw [ev_4]; rfl) (by decide) rfl (fun ls hl => ?_)
        refine lv_goto (tgt := 15) hx hb d_X_commonDivisor_48 (by decide) ?_
        subst ev_4
        subst ev_3
        rw [nI_1] at hl
        exact ih (j + 1) b _ ls (by omega) (lv_sub hl [2, 1, 0] rfl) (fun ls' hl' => kk ls' (by rw [show eu_L (n + 1) a b = eu_L n b (a - a / b * b) from if_neg c_2]; exact hl'))
abbrev f_abs (x : Int64) : Int64 := if 0 < x then x else -x
def f_X_commonDivisor (x y : Int64) : Int64 := eu_L 1000 (f_abs x) (f_abs y)
set_option maxHeartbeats 4000000 in
set_option maxRecDepth 100000 in
theorem k_X_commonDivisor (l : Launch) (x y : Int64) : Met l y_X_commonDivisor w_X_commonDivisor ({ frames := 1, cells := 0, slots := 0, locals := 21 }) (va_Pc [.long x, .long y] (fun _ => True)) (k2_QcV (.long (f_X_commonDivisor x y))) 0 0 (fun _ => False) := by
  refine Met.ofW (cc := c_X_commonDivisor) (maxL := 11) (ret := (Option.some Jvm.ClassFile.FieldType.long)) (by decide) rfl ?_
  intro p e s m args below meth c s₁ B hml hv
  obtain ⟨rfl, -⟩ := hv
  have hx := B.exec
  have hb := B.bytes
  have hr := B.returns
  have hts := atoms_spec (ws := w_X_commonDivisor) B.pre
  have hg : ∀ w ∈ WG, w.before _ s = true := fun w h => hts w (List.mem_cons_of_mem _ h)
  have hown : s.vm.findClass R_X = some m.cls := findClass_of_methodNamed B.named
  have hlocks := B.notSynchronized
  have hl := lv_entry ([.long x, .long y]) (n := 11) (Nat.le_of_ble_eq_true rfl)
  rw [lg_entry_eq]
  generalize (lg_sl ([.long x, .long y]) ++ List.replicate (11 - (lg_sl ([.long x, .long y])).length) Slot.unset).toArray = ls at hl ⊢
  have hl : lv_has ls 11 [(0, .long x), (2, .long y)] := hl
  refine lv_lload_n hx hb d_X_commonDivisor_0 rfl (lv_at hl 0 rfl) ?_
  refine va_mabs_long hx hb (hml.trans hl.1.symm) hown (hg _ wg_73) (hg _ wg_74) (hg _ wg_20) (hg _ wg_75) (Nat.le_of_ble_eq_true rfl) (Nat.le_of_ble_eq_true rfl) (Nat.zero_le _) (Nat.zero_le _) d_X_commonDivisor_1 ?_
  refine lv_topl (fun v_1 ev_1 => ?_)
  refine lv_lstore (lv' := [(4, .long v_1), (0, .long x), (2, .long y)]) hx hb d_X_commonDivisor_4 hl (by decide) rfl (fun ls hl => ?_)
  refine lv_lload_n hx hb d_X_commonDivisor_6 rfl (lv_at hl 2 rfl) ?_
  refine va_mabs_long hx hb (hml.trans hl.1.symm) hown (hg _ wg_73) (hg _ wg_74) (hg _ wg_20) (hg _ wg_75) (Nat.le_of_ble_eq_true rfl) (Nat.le_of_ble_eq_true rfl) (Nat.zero_le _) (Nat.zero_le _) d_X_commonDivisor_7 ?_
  refine lv_topl (fun v_2 ev_2 => ?_)
  refine lv_lstore (lv' := [(6, .long v_2), (4, .long v_1), (0, .long x), (2, .long y)]) hx hb d_X_commonDivisor_10 hl (by decide) rfl (fun ls hl => ?_)
  refine lv_iconst (v := 0) hx hb d_X_commonDivisor_12 (by decide) ?_
  refine lv_istore (lv' := [(8, .int 0), (6, .long v_2), (4, .long v_1), (0, .long x), (2, .long y)]) hx hb d_X_commonDivisor_13 hl (by decide) rfl (fun ls hl => ?_)
  subst ev_2
  subst ev_1
  refine lp_X_commonDivisor hx hb 1000 0 _ _ ls (by decide) (lv_sub hl [2, 1, 0] rfl) (fun ls hl => ?_)
  refine lv_lload hx hb d_X_commonDivisor_51 (lv_at hl 0 rfl) ?_
  exact W.lret hx hb hr (fun t ht _ => ⟨rfl, ht⟩) (fun _ h => by cases h) d_X_commonDivisor_53
/-- n times divided by 10 -/
def it_10 : Nat → Int64 → Int64
  | 0, u => u
  | n + 1, u => it_10 n (u / 10)
set_option maxHeartbeats 4000000 in
set_option maxRecDepth 100000 in
theorem lp_X_digitBefore {p : Program} {l : Launch} {e : Env} {R : Room} {s : State} {m : MethodId} {args : Array Value} {below : List Frame} {meth : Method} {c : Code} {H : Heap} {locs : List Loc} {cells slots : Nat} {Q : State → Prop} (hx : p.tables.exec = Jvm.exec) (hb : c.code = c_X_digitBefore) (hg : ∀ w ∈ WG, w.before args s = true) (hown : s.vm.findClass R_X = some m.cls) : ∀ (n j : Nat) (u : Int64) (ls : Array Slot), j + n < 2 ^ 31 → lv_has ls 6 [(2, .int (nI (j + n))), (3, .long u), (5, .int (nI j))] → (∀ ls' : Array Slot, lv_has ls' 6 [(2, .int (nI (j + n))), (3, .long (it_10 n u))] → W p l e R s m args below meth c H locs cells slots Q (F0 m 35 ls' [])) → W p l e R s m args below meth c H locs cells slots Q (F0 m 17 ls []) := by
  intro n
  induction n with
  | zero =>
    intro j u ls hj hl kk
    refine lv_iload hx hb d_X_digitBefore_17 (lv_at hl 2 rfl) ?_
    refine lv_iload_n hx hb d_X_digitBefore_19 rfl (lv_at hl 0 rfl) ?_
    refine lv_icmp_ge (tgt := 35) hx hb d_X_digitBefore_20 (by decide) (fun c_1 => ?_) (fun c_1 => ?_)
    · skip
      exact kk ls (lv_sub hl [0, 1] rfl)
    · skip
      exact absurd (nI_le (Nat.le_refl j) (by omega)) c_1
  | succ n ih =>
    intro j u ls hj hl kk
    refine lv_iload hx hb d_X_digitBefore_17 (lv_at hl 2 rfl) ?_
    refine lv_iload_n hx hb d_X_digitBefore_19 rfl (lv_at hl 0 rfl) ?_
    refine lv_icmp_ge (tgt := 35) hx hb d_X_digitBefore_20 (by decide) (fun c_1 => ?_) (fun c_1 => ?_)
    · skip
      exact absurd c_1 (nI_ge (by omega) (by omega))
    · skip
      refine lv_lload_n hx hb d_X_digitBefore_23 rfl (lv_at hl 1 rfl) ?_
      refine lv_ldc2 (v := 10) hx hb hown (hg _ wg_243) d_X_digitBefore_24 ?_
      refine lv_ldiv hx hb d_X_digitBefore_27 (by decide) ?_
      refine lv_topl (fun v_2 ev_2 => ?_)
      refine lv_lstore_n (lv' := [(3, .long v_2), (2, .int (nI (j + (n + 1)))), (5, .int (nI j))]) hx hb d_X_digitBefore_28 rfl hl (by decide) rfl (fun ls hl => ?_)
      obtain ⟨v_3, ev_3⟩ : ∃ y : Int32, y = nI j + 1 := ⟨_, rfl⟩
      refine lv_iinc (v := v_3) (lv' := [(5, .int v_3), (3, .long v_2), (2, .int (nI (j + (n + 1))))]) hx hb d_X_digitBefore_29 hl (k := 2) rfl (by rw [ev_3]; rfl) (by decide) rfl (fun ls hl => ?_)
      refine lv_goto (tgt := 17) hx hb d_X_digitBefore_32 (by decide) ?_
      subst ev_3
      subst ev_2
      rw [nI_1] at hl
      have e1 : j + (n + 1) = (j + 1) + n := by omega
      rw [e1] at hl kk hj
      exact ih (j + 1) _ ls (by omega) (lv_sub hl [2, 1, 0] rfl) kk
def f_X_digitBefore (u : Int64) (i : Int32) : Int32 := if i < 0 then (-1) else if i < 10 then (if i ≤ 0 then (it_10 i.toNatClampNeg u - it_10 i.toNatClampNeg u / 10 * 10).toInt32 else if it_10 i.toNatClampNeg u = 0 then (-1) else (it_10 i.toNatClampNeg u - it_10 i.toNatClampNeg u / 10 * 10).toInt32) else (-1)
set_option maxHeartbeats 4000000 in
set_option maxRecDepth 100000 in
theorem k_X_digitBefore (l : Launch) (u : Int64) (i : Int32) : Met l y_X_digitBefore w_X_digitBefore ({ frames := 0, cells := 0, slots := 0, locals := 0 }) (va_Pc [.long u, .int i] (fun _ => True)) (k2_QcV (.int (f_X_digitBefore u i))) 0 0 (fun _ => False) := by
  refine Met.ofW (cc := c_X_digitBefore) (maxL := 6) (ret := (Option.some Jvm.ClassFile.FieldType.int)) (by decide) rfl ?_
  intro p e s m args below meth c s₁ B hml hv
  obtain ⟨rfl, -⟩ := hv
  have hx := B.exec
  have hb := B.bytes
  have hr := B.returns
  have hts := atoms_spec (ws := w_X_digitBefore) B.pre
  have hg : ∀ w ∈ WG, w.before _ s = true := fun w h => hts w (List.mem_cons_of_mem _ h)
  have hown : s.vm.findClass R_X = some m.cls := findClass_of_methodNamed B.named
  have hlocks := B.notSynchronized
  have hl := lv_entry ([.long u, .int i]) (n := 6) (Nat.le_of_ble_eq_true rfl)
  rw [lg_entry_eq]
  generalize (lg_sl ([.long u, .int i]) ++ List.replicate (6 - (lg_sl ([.long u, .int i])).length) Slot.unset).toArray = ls at hl ⊢
  have hl : lv_has ls 6 [(0, .long u), (2, .int i)] := hl
  refine lv_iload_n hx hb d_X_digitBefore_0 rfl (lv_at hl 1 rfl) ?_
  refine lv_if_lt (tgt := 10) hx hb d_X_digitBefore_1 (by decide) (fun c_1 => ?_) (fun c_1 => ?_)
  · skip
    refine lv_iconst (v := (-1)) hx hb d_X_digitBefore_10 (by decide) ?_
    have hz : f_X_digitBefore u i = (-1) := by unfold f_X_digitBefore; rw [if_pos c_1]
    exact W.iret hx hb hr (fun t ht _ => ⟨by rw [hz], ht⟩) (fun _ h => by cases h) d_X_digitBefore_11
  · skip
    refine lv_iload_n hx hb d_X_digitBefore_4 rfl (lv_at hl 1 rfl) ?_
    refine lv_bipush (v := 10) hx hb d_X_digitBefore_5 (by decide) ?_
    refine lv_icmp_lt (tgt := 12) hx hb d_X_digitBefore_7 (by decide) (fun c_2 => ?_) (fun c_2 => ?_)
    · skip
      refine lv_lload_n hx hb d_X_digitBefore_12 rfl (lv_at hl 0 rfl) ?_
      refine lv_lstore_n (lv' := [(3, .long u), (0, .long u), (2, .int i)]) hx hb d_X_digitBefore_13 rfl hl (by decide) rfl (fun ls hl => ?_)
      refine lv_iconst (v := 0) hx hb d_X_digitBefore_14 (by decide) ?_
      refine lv_istore (lv' := [(5, .int 0), (3, .long u), (0, .long u), (2, .int i)]) hx hb d_X_digitBefore_15 hl (by decide) rfl (fun ls hl => ?_)
      obtain ⟨k, hk9, ek⟩ := nI_of c_1
      have ek2 : i.toNatClampNeg = k := by rw [ek]; exact nI_clamp hk9
      have ek3 : i = nI (0 + k) := by rw [Nat.zero_add]; exact ek
      refine lp_X_digitBefore hx hb hg hown k 0 _ ls (by omega) (by rw [← ek3]; exact lv_sub hl [3, 1, 0] rfl) (fun ls hl => ?_)
      rw [← ek3, ← ek2] at hl
      refine lv_iload_n hx hb d_X_digitBefore_35 rfl (lv_at hl 0 rfl) ?_
      refine lv_if_le (tgt := 49) hx hb d_X_digitBefore_36 (by decide) (fun c_3 => ?_) (fun c_3 => ?_)
      · skip
        refine lv_lload_n hx hb d_X_digitBefore_49 rfl (lv_at hl 1 rfl) ?_
        refine lv_ldc2 (v := 10) hx hb hown (hg _ wg_243) d_X_digitBefore_50 ?_
        refine lv_lrem hx hb d_X_digitBefore_53 (by decide) ?_
        refine lv_l2i hx hb d_X_digitBefore_54 rfl ?_
        have hz : f_X_digitBefore u i = ((it_10 i.toNatClampNeg u) - (it_10 i.toNatClampNeg u) / 10 * 10).toInt32 := by unfold f_X_digitBefore; rw [if_neg c_1, if_pos c_2, if_pos c_3]
        exact W.iret hx hb hr (fun t ht _ => ⟨by rw [hz], ht⟩) (fun _ h => by cases h) d_X_digitBefore_55
      · skip
        refine lv_lload_n hx hb d_X_digitBefore_39 rfl (lv_at hl 1 rfl) ?_
        refine lv_lconst (v := 0) hx hb d_X_digitBefore_40 (by decide) ?_
        refine W.lcmp hx hb d_X_digitBefore_41 ?_
        refine lv_if_ne (tgt := 49) hx hb d_X_digitBefore_42 (by decide) (fun c_4 => ?_) (fun c_4 => ?_)
        · skip
          rw [lg_cmp_eq] at c_4
          refine lv_lload_n hx hb d_X_digitBefore_49 rfl (lv_at hl 1 rfl) ?_
          refine lv_ldc2 (v := 10) hx hb hown (hg _ wg_243) d_X_digitBefore_50 ?_
          refine lv_lrem hx hb d_X_digitBefore_53 (by decide) ?_
          refine lv_l2i hx hb d_X_digitBefore_54 rfl ?_
          have hz : f_X_digitBefore u i = ((it_10 i.toNatClampNeg u) - (it_10 i.toNatClampNeg u) / 10 * 10).toInt32 := by unfold f_X_digitBefore; rw [if_neg c_1, if_pos c_2, if_neg c_3, if_neg c_4]
          exact W.iret hx hb hr (fun t ht _ => ⟨by rw [hz], ht⟩) (fun _ h => by cases h) d_X_digitBefore_55
        · skip
          rw [lg_cmp_eq] at c_4
          refine lv_iconst (v := (-1)) hx hb d_X_digitBefore_45 (by decide) ?_
          refine lv_goto (tgt := 55) hx hb d_X_digitBefore_46 (by decide) ?_
          have hz : f_X_digitBefore u i = (-1) := by unfold f_X_digitBefore; rw [if_neg c_1, if_pos c_2, if_neg c_3, if_pos c_4]
          exact W.iret hx hb hr (fun t ht _ => ⟨by rw [hz], ht⟩) (fun _ h => by cases h) d_X_digitBefore_55
    · skip
      refine lv_iconst (v := (-1)) hx hb d_X_digitBefore_10 (by decide) ?_
      have hz : f_X_digitBefore u i = (-1) := by unfold f_X_digitBefore; rw [if_neg c_1, if_neg c_2]
      exact W.iret hx hb hr (fun t ht _ => ⟨by rw [hz], ht⟩) (fun _ h => by cases h) d_X_digitBefore_11
/-- n times ten times, without the whole -/
def it_R (d : Int64) : Nat → Int64 → Int64
  | 0, u => u
  | n + 1, u => it_R d n (f_X_restOf (u * 10) d)
set_option maxHeartbeats 4000000 in
set_option maxRecDepth 100000 in
theorem lp_X_digitBehind {p : Program} {l : Launch} {e : Env} {R : Room} {s : State} {m : MethodId} {args : Array Value} {below : List Frame} {meth : Method} {c : Code} {H : Heap} {locs : List Loc} {cells slots : Nat} {Q : State → Prop} (hx : p.tables.exec = Jvm.exec) (hb : c.code = c_X_digitBehind) (hg : ∀ w ∈ WG, w.before args s = true) (hown : s.vm.findClass R_X = some m.cls) (hml : c.maxLocals = 8) (hR : 1 + 1 ≤ R.frames ∧ 8 + (4 + 11) + 25 ≤ R.locals) (hc : cells ≤ R.cells) (hs : slots ≤ R.slots) : ∀ (n j : Nat) (u d : Int64) (ls : Array Slot), j + n < 2 ^ 31 → lv_has ls 8 [(2, .long d), (4, .int (nI (j + n))), (5, .long u), (7, .int (nI j))] → (∀ ls' : Array Slot, lv_has ls' 8 [(2, .long d), (4, .int (nI (j + n))), (5, .long (it_R d n u))] → W p l e R s m args below meth c H locs cells slots Q (F0 m 45 ls' [])) → W p l e R s m args below meth c H locs cells slots Q (F0 m 20 ls []) := by
  intro n
  induction n with
  | zero =>
    intro j u d ls hj hl kk
    refine lv_iload hx hb d_X_digitBehind_20 (lv_at hl 3 rfl) ?_
    refine lv_iload hx hb d_X_digitBehind_22 (lv_at hl 1 rfl) ?_
    refine lv_icmp_ge (tgt := 45) hx hb d_X_digitBehind_24 (by decide) (fun c_1 => ?_) (fun c_1 => ?_)
    · skip
      exact kk ls (lv_sub hl [0, 1, 2] rfl)
    · skip
      exact absurd (nI_le (Nat.le_refl j) (by omega)) c_1
  | succ n ih =>
    intro j u d ls hj hl kk
    refine lv_iload hx hb d_X_digitBehind_20 (lv_at hl 3 rfl) ?_
    refine lv_iload hx hb d_X_digitBehind_22 (lv_at hl 1 rfl) ?_
    refine lv_icmp_ge (tgt := 45) hx hb d_X_digitBehind_24 (by decide) (fun c_1 => ?_) (fun c_1 => ?_)
    · skip
      exact absurd c_1 (nI_ge (by omega) (by omega))
    · skip
      refine lv_lload hx hb d_X_digitBehind_27 (lv_at hl 2 rfl) ?_
      refine lv_ldc2 (v := 10) hx hb hown (hg _ wg_243) d_X_digitBehind_29 ?_
      refine lv_lmul hx hb d_X_digitBehind_32 ?_
      refine lv_lload_n hx hb d_X_digitBehind_33 rfl (lv_at hl 0 rfl) ?_
      refine W.callV (W.runS (As := [.long (u * 10), .long d]) (rest := []) ⟨hx, hb, hml, hown, hg⟩ (k_X_restOf l (u * 10) d) (q_S 2 hg wg_101 wg_99 wg_100 wg_13 rfl rfl (by decide +kernel) hR) ⟨nw_blind, fun _ _ _ => ⟨rfl, trivial⟩⟩ rfl rfl hl.1 rfl (lv_room (Nat.le_of_ble_eq_true rfl)) d_X_digitBehind_34 ⟨hc, hs⟩) ?_
      refine W.eq (g2 := F0 m 37 ls (.long (f_X_restOf (u * 10) d) :: [])) rfl ?_
      refine lv_topl (fun v_2 ev_2 => ?_)
      refine lv_lstore (lv' := [(5, .long v_2), (2, .long d), (4, .int (nI (j + (n + 1)))), (7, .int (nI j))]) hx hb d_X_digitBehind_37 hl (by decide) rfl (fun ls hl => ?_)
      obtain ⟨v_3, ev_3⟩ : ∃ y : Int32, y = nI j + 1 := ⟨_, rfl⟩
      refine lv_iinc (v := v_3) (lv' := [(7, .int v_3), (5, .long v_2), (2, .long d), (4, .int (nI (j + (n + 1))))]) hx hb d_X_digitBehind_39 hl (k := 3) rfl (by rw [ev_3]; rfl) (by decide) rfl (fun ls hl => ?_)
      refine lv_goto (tgt := 20) hx hb d_X_digitBehind_42 (by decide) ?_
      subst ev_3
      subst ev_2
      rw [nI_1] at hl
      have e1 : j + (n + 1) = (j + 1) + n := by omega
      rw [e1] at hl kk hj
      exact ih (j + 1) _ d ls (by omega) (lv_sub hl [2, 3, 1, 0] rfl) kk
def f_X_digitBehind (u d : Int64) (i : Int32) : Int32 := if i < 0 then (-1) else if i < 30 then (if it_R d i.toNatClampNeg u = 0 then (-1) else (f_X_quotientDown (it_R d i.toNatClampNeg u * 10) d).toInt32) else (-1)
set_option maxHeartbeats 4000000 in
set_option maxRecDepth 100000 in
theorem k_X_digitBehind (l : Launch) (u d : Int64) (i : Int32) : Met l y_X_digitBehind w_X_digitBehind ({ frames := 2, cells := 0, slots := 0, locals := 48 }) (va_Pc [.long u, .long d, .int i] (fun _ => True)) (k2_QcV (.int (f_X_digitBehind u d i))) 0 0 (fun _ => False) := by
  refine Met.ofW (cc := c_X_digitBehind) (maxL := 8) (ret := (Option.some Jvm.ClassFile.FieldType.int)) (by decide) rfl ?_
  intro p e s m args below meth c s₁ B hml hv
  obtain ⟨rfl, -⟩ := hv
  have hx := B.exec
  have hb := B.bytes
  have hr := B.returns
  have hts := atoms_spec (ws := w_X_digitBehind) B.pre
  have hg : ∀ w ∈ WG, w.before _ s = true := fun w h => hts w (List.mem_cons_of_mem _ h)
  have hown : s.vm.findClass R_X = some m.cls := findClass_of_methodNamed B.named
  have hlocks := B.notSynchronized
  have hl := lv_entry ([.long u, .long d, .int i]) (n := 8) (Nat.le_of_ble_eq_true rfl)
  rw [lg_entry_eq]
  generalize (lg_sl ([.long u, .long d, .int i]) ++ List.replicate (8 - (lg_sl ([.long u, .long d, .int i])).length) Slot.unset).toArray = ls at hl ⊢
  have hl : lv_has ls 8 [(0, .long u), (2, .long d), (4, .int i)] := hl
  refine lv_iload hx hb d_X_digitBehind_0 (lv_at hl 2 rfl) ?_
  refine lv_if_lt (tgt := 12) hx hb d_X_digitBehind_2 (by decide) (fun c_1 => ?_) (fun c_1 => ?_)
  · skip
    refine lv_iconst (v := (-1)) hx hb d_X_digitBehind_12 (by decide) ?_
    have hz : f_X_digitBehind u d i = (-1) := by unfold f_X_digitBehind; rw [if_pos c_1]
    exact W.iret hx hb hr (fun t ht _ => ⟨by rw [hz], ht⟩) (fun _ h => by cases h) d_X_digitBehind_13
  · skip
    refine lv_iload hx hb d_X_digitBehind_5 (lv_at hl 2 rfl) ?_
    refine lv_bipush (v := 30) hx hb d_X_digitBehind_7 (by decide) ?_
    refine lv_icmp_lt (tgt := 14) hx hb d_X_digitBehind_9 (by decide) (fun c_2 => ?_) (fun c_2 => ?_)
    · skip
      refine lv_lload_n hx hb d_X_digitBehind_14 rfl (lv_at hl 0 rfl) ?_
      refine lv_lstore (lv' := [(5, .long u), (0, .long u), (2, .long d), (4, .int i)]) hx hb d_X_digitBehind_15 hl (by decide) rfl (fun ls hl => ?_)
      refine lv_iconst (v := 0) hx hb d_X_digitBehind_17 (by decide) ?_
      refine lv_istore (lv' := [(7, .int 0), (5, .long u), (0, .long u), (2, .long d), (4, .int i)]) hx hb d_X_digitBehind_18 hl (by decide) rfl (fun ls hl => ?_)
      obtain ⟨k, hk9, ek⟩ := nI_of c_1
      have ek2 : i.toNatClampNeg = k := by rw [ek]; exact nI_clamp hk9
      have ek3 : i = nI (0 + k) := by rw [Nat.zero_add]; exact ek
      refine lp_X_digitBehind hx hb hg hown hml ⟨Nat.le_of_ble_eq_true rfl, Nat.le_of_ble_eq_true rfl⟩ (Nat.zero_le _) (Nat.zero_le _) k 0 _ d ls (by omega) (by rw [← ek3]; exact lv_sub hl [3, 4, 1, 0] rfl) (fun ls hl => ?_)
      rw [← ek3, ← ek2] at hl
      refine lv_lload hx hb d_X_digitBehind_45 (lv_at hl 2 rfl) ?_
      refine lv_lconst (v := 0) hx hb d_X_digitBehind_47 (by decide) ?_
      refine W.lcmp hx hb d_X_digitBehind_48 ?_
      refine lv_if_ne (tgt := 56) hx hb d_X_digitBehind_49 (by decide) (fun c_3 => ?_) (fun c_3 => ?_)
      · skip
        rw [lg_cmp_eq] at c_3
        refine lv_lload hx hb d_X_digitBehind_56 (lv_at hl 2 rfl) ?_
        refine lv_ldc2 (v := 10) hx hb hown (hg _ wg_243) d_X_digitBehind_58 ?_
        refine lv_lmul hx hb d_X_digitBehind_61 ?_
        refine lv_lload_n hx hb d_X_digitBehind_62 rfl (lv_at hl 0 rfl) ?_
        refine W.callV (W.runS (As := [.long ((it_R d i.toNatClampNeg u) * 10), .long d]) (rest := []) ⟨hx, hb, hml, hown, hg⟩ (k_X_quotientDown l ((it_R d i.toNatClampNeg u) * 10) d) (q_S 2 hg wg_95 wg_93 wg_94 wg_13 rfl rfl (by decide +kernel) ⟨Nat.le_of_ble_eq_true rfl, Nat.le_of_ble_eq_true rfl⟩) ⟨nw_blind, fun _ _ _ => ⟨rfl, trivial⟩⟩ rfl rfl hl.1 rfl (lv_room (Nat.le_of_ble_eq_true rfl)) d_X_digitBehind_63 ⟨Nat.le_of_ble_eq_true rfl, Nat.le_of_ble_eq_true rfl⟩) ?_
        refine W.eq (g2 := F0 m 66 ls (.long (f_X_quotientDown ((it_R d i.toNatClampNeg u) * 10) d) :: [])) rfl ?_
        refine lv_l2i hx hb d_X_digitBehind_66 rfl ?_
        have hz : f_X_digitBehind u d i = (f_X_quotientDown ((it_R d i.toNatClampNeg u) * 10) d).toInt32 := by unfold f_X_digitBehind; rw [if_neg c_1, if_pos c_2, if_neg c_3]
        exact W.iret hx hb hr (fun t ht _ => ⟨by rw [hz], ht⟩) (fun _ h => by cases h) d_X_digitBehind_67
      · skip
        rw [lg_cmp_eq] at c_3
        refine lv_iconst (v := (-1)) hx hb d_X_digitBehind_52 (by decide) ?_
        refine lv_goto (tgt := 67) hx hb d_X_digitBehind_53 (by decide) ?_
        have hz : f_X_digitBehind u d i = (-1) := by unfold f_X_digitBehind; rw [if_neg c_1, if_pos c_2, if_pos c_3]
        exact W.iret hx hb hr (fun t ht _ => ⟨by rw [hz], ht⟩) (fun _ h => by cases h) d_X_digitBehind_67
    · skip
      refine lv_iconst (v := (-1)) hx hb d_X_digitBehind_12 (by decide) ?_
      have hz : f_X_digitBehind u d i = (-1) := by unfold f_X_digitBehind; rw [if_neg c_1, if_neg c_2]
      exact W.iret hx hb hr (fun t ht _ => ⟨by rw [hz], ht⟩) (fun _ h => by cases h) d_X_digitBehind_13
