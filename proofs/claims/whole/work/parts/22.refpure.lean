/-- Euclid's steps end within n -/
def eu_D : Nat → Int64 → Int64 → Prop
  | 0, _, b => b = 0
  | n + 1, a, b => b = 0 ∨ eu_D n b (a - a / b * b)
theorem eu_D0 : ∀ (n : Nat) (a : Int64), eu_D n a 0
  | 0, _ => rfl
  | _ + 1, _ => Or.inl rfl
theorem eu_abs (a b : Int64) : (a - a / b * b).toInt.natAbs = a.toInt.natAbs % b.toInt.natAbs := by
  rw [Jvm.Kit.i64_rem]
  exact Int.natAbs_tmod _ _
theorem eu_D1 : ∀ (n : Nat) (a b : Int64), b.toInt.natAbs ≤ a.toInt.natAbs → a.toInt.natAbs * b.toInt.natAbs < 2 ^ n → eu_D (n + 1) a b
  | 0, a, b, h, hb => by
    have h0 : b.toInt.natAbs = 0 := by
      rcases Nat.eq_zero_or_pos b.toInt.natAbs with h0 | h0
      · exact h0
      · exact absurd (Nat.mul_pos (Nat.lt_of_lt_of_le h0 h) h0) (by omega)
    exact Or.inl (Int64.toInt_inj.mp (by rw [Int.natAbs_eq_zero.mp h0]; rfl))
  | n + 1, a, b, h, hb => by
    by_cases h0 : b = 0
    · exact Or.inl h0
    · right
      have h1 : b.toInt.natAbs ≠ 0 := fun e => h0 (Int64.toInt_inj.mp (by rw [Int.natAbs_eq_zero.mp e]; rfl))
      have hpos : 0 < b.toInt.natAbs := Nat.pos_of_ne_zero h1
      have hlt := Nat.mod_lt a.toInt.natAbs hpos
      have hdm := Nat.div_add_mod a.toInt.natAbs b.toInt.natAbs
      have hd : 1 ≤ a.toInt.natAbs / b.toInt.natAbs := (Nat.one_le_div_iff hpos).mpr h
      have h2 := Nat.mul_le_mul_left b.toInt.natAbs hd
      have h4 : b.toInt.natAbs * (a.toInt.natAbs % b.toInt.natAbs) + b.toInt.natAbs * (a.toInt.natAbs % b.toInt.natAbs) ≤ b.toInt.natAbs * a.toInt.natAbs := by
        rw [← Nat.mul_add]
        exact Nat.mul_le_mul_left _ (by omega)
      rw [Nat.mul_comm] at hb
      refine eu_D1 n b _ ?_ ?_
      · rw [eu_abs]; exact Nat.le_of_lt hlt
      · rw [eu_abs]; rw [Nat.pow_succ] at hb; omega
theorem eu_Dall (a b : Int64) : eu_D 1000 a b := by
  have ha : a.toInt.natAbs < 2 ^ 64 := by
    have h1 := Int64.toInt_lt a
    have h2 := Int64.le_toInt a
    omega
  have hb : b.toInt.natAbs < 2 ^ 64 := by
    have h1 := Int64.toInt_lt b
    have h2 := Int64.le_toInt b
    omega
  have hab : a.toInt.natAbs * b.toInt.natAbs < 2 ^ 128 := Nat.lt_of_lt_of_le (Nat.mul_lt_mul'' ha hb) (by decide)
  have hp : (2 : Nat) ^ 128 ≤ 2 ^ 998 := Nat.pow_le_pow_right (by decide) (by decide)
  by_cases h : b.toInt.natAbs ≤ a.toInt.natAbs
  · exact eu_D1 999 a b h (Nat.lt_of_lt_of_le hab (Nat.le_trans hp (Nat.pow_le_pow_right (by decide) (by decide))))
  · have hlt : a.toInt.natAbs < b.toInt.natAbs := Nat.lt_of_not_le h
    right
    refine eu_D1 998 b _ ?_ ?_
    · rw [eu_abs, Nat.mod_eq_of_lt hlt]; exact Nat.le_of_lt hlt
    · rw [eu_abs, Nat.mod_eq_of_lt hlt, Nat.mul_comm]; exact Nat.lt_of_lt_of_le hab hp
/-- the size of what Euclid gives -/
theorem eu_size : ∀ (n : Nat) (a b : Int64), eu_D n a b → (eu_L n a b).toInt.natAbs = Nat.gcd a.toInt.natAbs b.toInt.natAbs
  | 0, a, b, h => by
    have h : b = 0 := h
    subst h
    show a.toInt.natAbs = Nat.gcd a.toInt.natAbs 0
    rw [Nat.gcd_zero_right]
  | n + 1, a, b, h => by
    unfold eu_L
    by_cases h0 : b = 0
    · subst h0
      rw [if_pos rfl]
      show a.toInt.natAbs = Nat.gcd a.toInt.natAbs 0
      rw [Nat.gcd_zero_right]
    · rw [if_neg h0, eu_size n b _ (h.resolve_left h0), eu_abs]
      exact ((Nat.gcd_comm _ _).trans (Nat.gcd_rec _ _).symm).trans (Nat.gcd_comm _ _)
set_option maxHeartbeats 4000000 in
set_option maxRecDepth 100000 in
theorem lp_M_common {p : Program} {l : Launch} {e : Env} {R : Room} {s : State} {m : MethodId} {args : Array Value} {below : List Frame} {meth : Method} {c : Code} {H : Heap} {locs : List Loc} {cells slots : Nat} {Q : State → Prop} (hx : p.tables.exec = Jvm.exec) (hb : c.code = c_M_common) : ∀ (n : Nat) (a b : Int64) (ls : Array Slot), eu_D n a b → lv_has ls 10 [(4, .long a), (6, .long b)] → (∀ ls' : Array Slot, lv_has ls' 10 [(4, .long (eu_L n a b))] → W p l e R s m args below meth c H locs cells slots Q (F0 m 53 ls' [])) → W p l e R s m args below meth c H locs cells slots Q (F0 m 28 ls []) := by
  intro n
  induction n with
  | zero =>
    intro a b ls hd hl kk
    refine lv_lload hx hb d_M_common_28 (lv_at hl 1 rfl) ?_
    refine lv_lconst (v := 0) hx hb d_M_common_30 (by decide) ?_
    refine W.lcmp hx hb d_M_common_31 ?_
    refine lv_if_eq (tgt := 53) hx hb d_M_common_32 (by decide) (fun c_1 => ?_) (fun c_1 => ?_)
    · skip
      rw [lg_cmp_eq] at c_1
      exact kk ls (lv_sub hl [0] rfl)
    · skip
      rw [lg_cmp_eq] at c_1
      exact absurd hd c_1
  | succ n ih =>
    intro a b ls hd hl kk
    refine lv_lload hx hb d_M_common_28 (lv_at hl 1 rfl) ?_
    refine lv_lconst (v := 0) hx hb d_M_common_30 (by decide) ?_
    refine W.lcmp hx hb d_M_common_31 ?_
    refine lv_if_eq (tgt := 53) hx hb d_M_common_32 (by decide) (fun c_1 => ?_) (fun c_1 => ?_)
    · skip
      rw [lg_cmp_eq] at c_1
      have hz : eu_L (n + 1) a b = a := if_pos c_1
      exact kk ls (by rw [hz]; exact lv_sub hl [0] rfl)
    · skip
      rw [lg_cmp_eq] at c_1
      refine lv_lload hx hb d_M_common_35 (lv_at hl 0 rfl) ?_
      refine lv_lload hx hb d_M_common_37 (lv_at hl 1 rfl) ?_
      refine lv_lrem hx hb d_M_common_39 c_1 ?_
      refine lv_topl (fun v_2 ev_2 => ?_)
      refine lv_lstore (lv' := [(8, .long v_2), (4, .long a), (6, .long b)]) hx hb d_M_common_40 hl (by decide) rfl (fun ls hl => ?_)
      refine lv_lload hx hb d_M_common_42 (lv_at hl 2 rfl) ?_
      refine lv_lstore (lv' := [(4, .long b), (8, .long v_2), (6, .long b)]) hx hb d_M_common_44 hl (by decide) rfl (fun ls hl => ?_)
      refine lv_lload hx hb d_M_common_46 (lv_at hl 1 rfl) ?_
      refine lv_lstore (lv' := [(6, .long v_2), (4, .long b), (8, .long v_2)]) hx hb d_M_common_48 hl (by decide) rfl (fun ls hl => ?_)
      refine lv_goto (tgt := 28) hx hb d_M_common_50 (by decide) ?_
      subst ev_2
      exact ih b _ ls (hd.resolve_left c_1) (lv_sub hl [1, 0] rfl) (fun ls' hl' => kk ls' (by rw [show eu_L (n + 1) a b = eu_L n b (a - a / b * b) from if_neg c_1]; exact hl'))
abbrev f_abm (x : Int64) : Int64 := if 0 ≤ x then x else -x
def f_M_common (x y : Int64) : Int64 := eu_L 1000 (f_abm x) (f_abm y)
set_option maxHeartbeats 4000000 in
set_option maxRecDepth 100000 in
theorem k_M_common (l : Launch) (x y : Int64) : Met l y_M_common w_M_common ({ frames := 0, cells := 0, slots := 0, locals := 0 }) (va_Pc [.long x, .long y] (fun _ => True)) (k2_QcV (.long (f_M_common x y))) 0 0 (fun _ => False) := by
  refine Met.ofW (cc := c_M_common) (maxL := 10) (ret := (Option.some Jvm.ClassFile.FieldType.long)) (by decide) rfl ?_
  intro p e s m args below meth c s₁ B hml hv
  obtain ⟨rfl, -⟩ := hv
  have hx := B.exec
  have hb := B.bytes
  have hr := B.returns
  have hts := atoms_spec (ws := w_M_common) B.pre
  have hg : ∀ w ∈ WG, w.before _ s = true := fun w h => hts w (List.mem_cons_of_mem _ h)
  have hown : s.vm.findClass R_M = some m.cls := findClass_of_methodNamed B.named
  have hlocks := B.notSynchronized
  have hl := lv_entry ([.long x, .long y]) (n := 10) (Nat.le_of_ble_eq_true rfl)
  rw [lg_entry_eq]
  generalize (lg_sl ([.long x, .long y]) ++ List.replicate (10 - (lg_sl ([.long x, .long y])).length) Slot.unset).toArray = ls at hl ⊢
  have hl : lv_has ls 10 [(0, .long x), (2, .long y)] := hl
  refine lv_lload_n hx hb d_M_common_0 rfl (lv_at hl 0 rfl) ?_
  refine lv_lconst (v := 0) hx hb d_M_common_1 (by decide) ?_
  refine W.lcmp hx hb d_M_common_2 ?_
  refine lv_if_ge (tgt := 11) hx hb d_M_common_3 (by decide) (fun c_1 => ?_) (fun c_1 => ?_)
  · skip
    rw [lg_cmp_ge] at c_1
    refine lv_lload_n hx hb d_M_common_11 rfl (lv_at hl 0 rfl) ?_
    refine lv_lstore (lv' := [(4, .long x), (0, .long x), (2, .long y)]) hx hb d_M_common_12 hl (by decide) rfl (fun ls hl => ?_)
    refine lv_lload_n hx hb d_M_common_14 rfl (lv_at hl 2 rfl) ?_
    refine lv_lconst (v := 0) hx hb d_M_common_15 (by decide) ?_
    refine W.lcmp hx hb d_M_common_16 ?_
    refine lv_if_ge (tgt := 25) hx hb d_M_common_17 (by decide) (fun c_2 => ?_) (fun c_2 => ?_)
    · skip
      rw [lg_cmp_ge] at c_2
      refine lv_lload_n hx hb d_M_common_25 rfl (lv_at hl 2 rfl) ?_
      refine lv_lstore (lv' := [(6, .long y), (4, .long x), (0, .long x), (2, .long y)]) hx hb d_M_common_26 hl (by decide) rfl (fun ls hl => ?_)
      have ex9 : f_abm x = x := if_pos c_1
      have ey9 : f_abm y = y := if_pos c_2
      refine lp_M_common hx hb 1000 (f_abm x) (f_abm y) ls (eu_Dall _ _) (by rw [ex9, ey9]; exact lv_sub hl [1, 0] rfl) (fun ls hl => ?_)
      refine lv_lload hx hb d_M_common_53 (lv_at hl 0 rfl) ?_
      exact W.lret hx hb hr (fun t ht _ => ⟨rfl, ht⟩) (fun _ h => by cases h) d_M_common_55
    · skip
      rw [lg_cmp_ge] at c_2
      refine lv_lload_n hx hb d_M_common_20 rfl (lv_at hl 2 rfl) ?_
      refine lv_lneg hx hb d_M_common_21 ?_
      refine lv_goto (tgt := 26) hx hb d_M_common_22 (by decide) ?_
      refine lv_topl (fun v_3 ev_3 => ?_)
      refine lv_lstore (lv' := [(6, .long v_3), (4, .long x), (0, .long x), (2, .long y)]) hx hb d_M_common_26 hl (by decide) rfl (fun ls hl => ?_)
      subst ev_3
      have ex9 : f_abm x = x := if_pos c_1
      have ey9 : f_abm y = (-y) := if_neg c_2
      refine lp_M_common hx hb 1000 (f_abm x) (f_abm y) ls (eu_Dall _ _) (by rw [ex9, ey9]; exact lv_sub hl [1, 0] rfl) (fun ls hl => ?_)
      refine lv_lload hx hb d_M_common_53 (lv_at hl 0 rfl) ?_
      exact W.lret hx hb hr (fun t ht _ => ⟨rfl, ht⟩) (fun _ h => by cases h) d_M_common_55
  · skip
    rw [lg_cmp_ge] at c_1
    refine lv_lload_n hx hb d_M_common_6 rfl (lv_at hl 0 rfl) ?_
    refine lv_lneg hx hb d_M_common_7 ?_
    refine lv_goto (tgt := 12) hx hb d_M_common_8 (by decide) ?_
    refine lv_topl (fun v_4 ev_4 => ?_)
    refine lv_lstore (lv' := [(4, .long v_4), (0, .long x), (2, .long y)]) hx hb d_M_common_12 hl (by decide) rfl (fun ls hl => ?_)
    refine lv_lload_n hx hb d_M_common_14 rfl (lv_at hl 2 rfl) ?_
    refine lv_lconst (v := 0) hx hb d_M_common_15 (by decide) ?_
    refine W.lcmp hx hb d_M_common_16 ?_
    refine lv_if_ge (tgt := 25) hx hb d_M_common_17 (by decide) (fun c_5 => ?_) (fun c_5 => ?_)
    · skip
      rw [lg_cmp_ge] at c_5
      refine lv_lload_n hx hb d_M_common_25 rfl (lv_at hl 2 rfl) ?_
      refine lv_lstore (lv' := [(6, .long y), (4, .long v_4), (0, .long x), (2, .long y)]) hx hb d_M_common_26 hl (by decide) rfl (fun ls hl => ?_)
      subst ev_4
      have ex9 : f_abm x = (-x) := if_neg c_1
      have ey9 : f_abm y = y := if_pos c_5
      refine lp_M_common hx hb 1000 (f_abm x) (f_abm y) ls (eu_Dall _ _) (by rw [ex9, ey9]; exact lv_sub hl [1, 0] rfl) (fun ls hl => ?_)
      refine lv_lload hx hb d_M_common_53 (lv_at hl 0 rfl) ?_
      exact W.lret hx hb hr (fun t ht _ => ⟨rfl, ht⟩) (fun _ h => by cases h) d_M_common_55
    · skip
      rw [lg_cmp_ge] at c_5
      refine lv_lload_n hx hb d_M_common_20 rfl (lv_at hl 2 rfl) ?_
      refine lv_lneg hx hb d_M_common_21 ?_
      refine lv_goto (tgt := 26) hx hb d_M_common_22 (by decide) ?_
      refine lv_topl (fun v_6 ev_6 => ?_)
      refine lv_lstore (lv' := [(6, .long v_6), (4, .long v_4), (0, .long x), (2, .long y)]) hx hb d_M_common_26 hl (by decide) rfl (fun ls hl => ?_)
      subst ev_6
      subst ev_4
      have ex9 : f_abm x = (-x) := if_neg c_1
      have ey9 : f_abm y = (-y) := if_neg c_5
      refine lp_M_common hx hb 1000 (f_abm x) (f_abm y) ls (eu_Dall _ _) (by rw [ex9, ey9]; exact lv_sub hl [1, 0] rfl) (fun ls hl => ?_)
      refine lv_lload hx hb d_M_common_53 (lv_at hl 0 rfl) ?_
      exact W.lret hx hb hr (fun t ht _ => ⟨rfl, ht⟩) (fun _ h => by cases h) d_M_common_55
theorem nz_g {x y : Int64} (h : ¬ y = 0) : ¬ f_M_common x y = 0 := fun e => by
  have h1 := eu_size 1000 (f_abm x) (f_abm y) (eu_Dall _ _)
  have h2 : (eu_L 1000 (f_abm x) (f_abm y)).toInt.natAbs = 0 := by
    rw [show eu_L 1000 (f_abm x) (f_abm y) = 0 from e]; rfl
  rw [h2] at h1
  have h3 := (Nat.gcd_eq_zero_iff.mp h1.symm).2
  have h4 : f_abm y = 0 := Int64.toInt_inj.mp (by rw [Int.natAbs_eq_zero.mp h3]; rfl)
  unfold f_abm at h4
  by_cases h5 : 0 ≤ y
  · rw [if_pos h5] at h4; exact h h4
  · rw [if_neg h5] at h4
    exact h (by have := congrArg (fun z : Int64 => -z) h4; simpa using this)
def f_M_areTwo (a : Int32) (b : Int32) (x : Int32) (y : Int32) : Int32 := if a = x then if b = y then 1 else if a = y then if b = x then 1 else 0 else 0 else if a = y then if b = x then 1 else 0 else 0
set_option maxHeartbeats 4000000 in
set_option maxRecDepth 100000 in
theorem k_M_areTwo (l : Launch) (a : Int32) (b : Int32) (x : Int32) (y : Int32) : Met l y_M_areTwo w_M_areTwo ({ frames := 0, cells := 0, slots := 0, locals := 0 }) (va_Pc [.int a, .int b, .int x, .int y] (fun _ => True)) (k2_QcV (.int (f_M_areTwo a b x y))) 0 0 (fun _ => False) := by
  refine Met.ofW (cc := c_M_areTwo) (maxL := 4) (ret := (Option.some Jvm.ClassFile.FieldType.boolean)) (by decide) rfl ?_
  intro p e s m args below meth c s₁ B hml hv
  obtain ⟨rfl, -⟩ := hv
  have hx := B.exec
  have hb := B.bytes
  have hr := B.returns
  have hts := atoms_spec (ws := w_M_areTwo) B.pre
  have hg : ∀ w ∈ WG, w.before _ s = true := fun w h => hts w (List.mem_cons_of_mem _ h)
  have hown : s.vm.findClass R_M = some m.cls := findClass_of_methodNamed B.named
  have hlocks := B.notSynchronized
  have hl := lv_entry ([.int a, .int b, .int x, .int y]) (n := 4) (Nat.le_of_ble_eq_true rfl)
  rw [lg_entry_eq]
  generalize (lg_sl ([.int a, .int b, .int x, .int y]) ++ List.replicate (4 - (lg_sl ([.int a, .int b, .int x, .int y])).length) Slot.unset).toArray = ls at hl ⊢
  have hl : lv_has ls 4 [(0, .int a), (1, .int b), (2, .int x), (3, .int y)] := hl
  refine lv_iload_n hx hb d_M_areTwo_0 rfl (lv_at hl 0 rfl) ?_
  refine lv_iload_n hx hb d_M_areTwo_1 rfl (lv_at hl 2 rfl) ?_
  refine lv_icmp_ne (tgt := 10) hx hb d_M_areTwo_2 (by decide) (fun c_1 => ?_) (fun c_1 => ?_)
  · skip
    refine lv_iload_n hx hb d_M_areTwo_10 rfl (lv_at hl 0 rfl) ?_
    refine lv_iload_n hx hb d_M_areTwo_11 rfl (lv_at hl 3 rfl) ?_
    refine lv_icmp_ne (tgt := 24) hx hb d_M_areTwo_12 (by decide) (fun c_2 => ?_) (fun c_2 => ?_)
    · skip
      refine lv_iconst (v := 0) hx hb d_M_areTwo_24 (by decide) ?_
      have hz : f_M_areTwo a b x y = 0 := by unfold f_M_areTwo; rw [if_neg c_1, if_neg c_2]
      exact W.zret hx hb hr rfl (fun t ht _ => ⟨by rw [hz], ht⟩) (fun _ h => by cases h) d_M_areTwo_25
    · skip
      refine lv_iload_n hx hb d_M_areTwo_15 rfl (lv_at hl 1 rfl) ?_
      refine lv_iload_n hx hb d_M_areTwo_16 rfl (lv_at hl 2 rfl) ?_
      refine lv_icmp_ne (tgt := 24) hx hb d_M_areTwo_17 (by decide) (fun c_3 => ?_) (fun c_3 => ?_)
      · skip
        refine lv_iconst (v := 0) hx hb d_M_areTwo_24 (by decide) ?_
        have hz : f_M_areTwo a b x y = 0 := by unfold f_M_areTwo; rw [if_neg c_1, if_pos c_2, if_neg c_3]
        exact W.zret hx hb hr rfl (fun t ht _ => ⟨by rw [hz], ht⟩) (fun _ h => by cases h) d_M_areTwo_25
      · skip
        refine lv_iconst (v := 1) hx hb d_M_areTwo_20 (by decide) ?_
        refine lv_goto (tgt := 25) hx hb d_M_areTwo_21 (by decide) ?_
        have hz : f_M_areTwo a b x y = 1 := by unfold f_M_areTwo; rw [if_neg c_1, if_pos c_2, if_pos c_3]
        exact W.zret hx hb hr rfl (fun t ht _ => ⟨by rw [hz], ht⟩) (fun _ h => by cases h) d_M_areTwo_25
  · skip
    refine lv_iload_n hx hb d_M_areTwo_5 rfl (lv_at hl 1 rfl) ?_
    refine lv_iload_n hx hb d_M_areTwo_6 rfl (lv_at hl 3 rfl) ?_
    refine lv_icmp_eq (tgt := 20) hx hb d_M_areTwo_7 (by decide) (fun c_4 => ?_) (fun c_4 => ?_)
    · skip
      refine lv_iconst (v := 1) hx hb d_M_areTwo_20 (by decide) ?_
      refine lv_goto (tgt := 25) hx hb d_M_areTwo_21 (by decide) ?_
      have hz : f_M_areTwo a b x y = 1 := by unfold f_M_areTwo; rw [if_pos c_1, if_pos c_4]
      exact W.zret hx hb hr rfl (fun t ht _ => ⟨by rw [hz], ht⟩) (fun _ h => by cases h) d_M_areTwo_25
    · skip
      refine lv_iload_n hx hb d_M_areTwo_10 rfl (lv_at hl 0 rfl) ?_
      refine lv_iload_n hx hb d_M_areTwo_11 rfl (lv_at hl 3 rfl) ?_
      refine lv_icmp_ne (tgt := 24) hx hb d_M_areTwo_12 (by decide) (fun c_5 => ?_) (fun c_5 => ?_)
      · skip
        refine lv_iconst (v := 0) hx hb d_M_areTwo_24 (by decide) ?_
        have hz : f_M_areTwo a b x y = 0 := by unfold f_M_areTwo; rw [if_pos c_1, if_neg c_4, if_neg c_5]
        exact W.zret hx hb hr rfl (fun t ht _ => ⟨by rw [hz], ht⟩) (fun _ h => by cases h) d_M_areTwo_25
      · skip
        refine lv_iload_n hx hb d_M_areTwo_15 rfl (lv_at hl 1 rfl) ?_
        refine lv_iload_n hx hb d_M_areTwo_16 rfl (lv_at hl 2 rfl) ?_
        refine lv_icmp_ne (tgt := 24) hx hb d_M_areTwo_17 (by decide) (fun c_6 => ?_) (fun c_6 => ?_)
        · skip
          refine lv_iconst (v := 0) hx hb d_M_areTwo_24 (by decide) ?_
          have hz : f_M_areTwo a b x y = 0 := by unfold f_M_areTwo; rw [if_pos c_1, if_neg c_4, if_pos c_5, if_neg c_6]
          exact W.zret hx hb hr rfl (fun t ht _ => ⟨by rw [hz], ht⟩) (fun _ h => by cases h) d_M_areTwo_25
        · skip
          refine lv_iconst (v := 1) hx hb d_M_areTwo_20 (by decide) ?_
          refine lv_goto (tgt := 25) hx hb d_M_areTwo_21 (by decide) ?_
          have hz : f_M_areTwo a b x y = 1 := by unfold f_M_areTwo; rw [if_pos c_1, if_neg c_4, if_pos c_5, if_pos c_6]
          exact W.zret hx hb hr rfl (fun t ht _ => ⟨by rw [hz], ht⟩) (fun _ h => by cases h) d_M_areTwo_25
def f_M_isUpper (ru : Int32) (lo : Int64) (le : Int64) (q : Int64) : Int32 := if 0 ≤ lo then if ru = 0 then 0 else if ru = 1 then 1 else if ru = 2 then 0 else if ru = 3 then 1 else if ru = 4 then if (2 * le) < q then 0 else 1 else if ru = 5 then if q < (2 * le) then 1 else if (2 * le) = q then 1 else 0 else if q < (2 * le) then 1 else if (2 * le) = q then if (lo - lo / 2 * 2) = 0 then 0 else 1 else 0 else if ru = 0 then 0 else if ru = 1 then 1 else if ru = 2 then 1 else if ru = 3 then 0 else if ru = 4 then if (2 * le) < q then 0 else 1 else if ru = 5 then if q < (2 * le) then 1 else if (2 * le) = q then 0 else 0 else if q < (2 * le) then 1 else if (2 * le) = q then if (lo - lo / 2 * 2) = 0 then 0 else 1 else 0
set_option maxHeartbeats 4000000 in
set_option maxRecDepth 100000 in
theorem k_M_isUpper (l : Launch) (ru : Int32) (lo : Int64) (le : Int64) (q : Int64) : Met l y_M_isUpper w_M_isUpper ({ frames := 0, cells := 0, slots := 0, locals := 0 }) (va_Pc [.int ru, .long lo, .long le, .long q] (fun _ => True)) (k2_QcV (.int (f_M_isUpper ru lo le q))) 0 0 (fun _ => False) := by
  refine Met.ofW (cc := c_M_isUpper) (maxL := 8) (ret := (Option.some Jvm.ClassFile.FieldType.boolean)) (by decide) rfl ?_
  intro p e s m args below meth c s₁ B hml hv
  obtain ⟨rfl, -⟩ := hv
  have hx := B.exec
  have hb := B.bytes
  have hr := B.returns
  have hts := atoms_spec (ws := w_M_isUpper) B.pre
  have hg : ∀ w ∈ WG, w.before _ s = true := fun w h => hts w (List.mem_cons_of_mem _ h)
  have hown : s.vm.findClass R_M = some m.cls := findClass_of_methodNamed B.named
  have hlocks := B.notSynchronized
  have hl := lv_entry ([.int ru, .long lo, .long le, .long q]) (n := 8) (Nat.le_of_ble_eq_true rfl)
  rw [lg_entry_eq]
  generalize (lg_sl ([.int ru, .long lo, .long le, .long q]) ++ List.replicate (8 - (lg_sl ([.int ru, .long lo, .long le, .long q])).length) Slot.unset).toArray = ls at hl ⊢
  have hl : lv_has ls 8 [(0, .int ru), (1, .long lo), (3, .long le), (5, .long q)] := hl
  refine lv_lload_n hx hb d_M_isUpper_0 rfl (lv_at hl 1 rfl) ?_
  refine lv_lconst (v := 0) hx hb d_M_isUpper_1 (by decide) ?_
  refine W.lcmp hx hb d_M_isUpper_2 ?_
  refine lv_if_ge (tgt := 10) hx hb d_M_isUpper_3 (by decide) (fun c_1 => ?_) (fun c_1 => ?_)
  · skip
    rw [lg_cmp_ge] at c_1
    refine lv_iconst (v := 0) hx hb d_M_isUpper_10 (by decide) ?_
    refine lv_istore (lv' := [(7, .int 0), (0, .int ru), (1, .long lo), (3, .long le), (5, .long q)]) hx hb d_M_isUpper_11 hl (by decide) rfl (fun ls hl => ?_)
    refine lv_iload_n hx hb d_M_isUpper_13 rfl (lv_at hl 1 rfl) ?_
    by_cases c_2 : ru = 0
    · skip
      refine lv_tableIn (off := 38) (tgt := 52) hx hb d_M_isUpper_14 (by rw [c_2]; decide) (by rw [c_2]; decide) (by rw [c_2]; rfl) (by decide) ?_
      refine lv_iconst (v := 0) hx hb d_M_isUpper_52 (by decide) ?_
      have hz : f_M_isUpper ru lo le q = 0 := by unfold f_M_isUpper; rw [if_pos c_1, if_pos c_2]
      exact W.zret hx hb hr rfl (fun t ht _ => ⟨by rw [hz], ht⟩) (fun _ h => by cases h) d_M_isUpper_53
    · skip
      by_cases c_3 : ru = 1
      · skip
        refine lv_tableIn (off := 40) (tgt := 54) hx hb d_M_isUpper_14 (by rw [c_3]; decide) (by rw [c_3]; decide) (by rw [c_3]; rfl) (by decide) ?_
        refine lv_iconst (v := 1) hx hb d_M_isUpper_54 (by decide) ?_
        have hz : f_M_isUpper ru lo le q = 1 := by unfold f_M_isUpper; rw [if_pos c_1, if_neg c_2, if_pos c_3]
        exact W.zret hx hb hr rfl (fun t ht _ => ⟨by rw [hz], ht⟩) (fun _ h => by cases h) d_M_isUpper_55
      · skip
        by_cases c_4 : ru = 2
        · skip
          refine lv_tableIn (off := 42) (tgt := 56) hx hb d_M_isUpper_14 (by rw [c_4]; decide) (by rw [c_4]; decide) (by rw [c_4]; rfl) (by decide) ?_
          refine lv_iload hx hb d_M_isUpper_56 (lv_at hl 0 rfl) ?_
          have hz : f_M_isUpper ru lo le q = 0 := by unfold f_M_isUpper; rw [if_pos c_1, if_neg c_2, if_neg c_3, if_pos c_4]
          exact W.zret hx hb hr rfl (fun t ht _ => ⟨by rw [hz], ht⟩) (fun _ h => by cases h) d_M_isUpper_58
        · skip
          by_cases c_5 : ru = 3
          · skip
            refine lv_tableIn (off := 45) (tgt := 59) hx hb d_M_isUpper_14 (by rw [c_5]; decide) (by rw [c_5]; decide) (by rw [c_5]; rfl) (by decide) ?_
            refine lv_iload hx hb d_M_isUpper_59 (lv_at hl 0 rfl) ?_
            refine lv_if_ne (tgt := 68) hx hb d_M_isUpper_61 (by decide) (fun c_6 => ?_) (fun c_6 => ?_)
            · skip
              exact absurd c_6 (by decide)
            · skip
              refine lv_iconst (v := 1) hx hb d_M_isUpper_64 (by decide) ?_
              refine lv_goto (tgt := 69) hx hb d_M_isUpper_65 (by decide) ?_
              have hz : f_M_isUpper ru lo le q = 1 := by unfold f_M_isUpper; rw [if_pos c_1, if_neg c_2, if_neg c_3, if_neg c_4, if_pos c_5]
              exact W.zret hx hb hr rfl (fun t ht _ => ⟨by rw [hz], ht⟩) (fun _ h => by cases h) d_M_isUpper_69
          · skip
            by_cases c_7 : ru = 4
            · skip
              refine lv_tableIn (off := 56) (tgt := 70) hx hb d_M_isUpper_14 (by rw [c_7]; decide) (by rw [c_7]; decide) (by rw [c_7]; rfl) (by decide) ?_
              refine lv_ldc2 (v := 2) hx hb hown (hg _ wg_332) d_M_isUpper_70 ?_
              refine lv_lload_n hx hb d_M_isUpper_73 rfl (lv_at hl 3 rfl) ?_
              refine lv_lmul hx hb d_M_isUpper_74 ?_
              refine lv_lload hx hb d_M_isUpper_75 (lv_at hl 4 rfl) ?_
              refine W.lcmp hx hb d_M_isUpper_77 ?_
              refine lv_if_lt (tgt := 85) hx hb d_M_isUpper_78 (by decide) (fun c_8 => ?_) (fun c_8 => ?_)
              · skip
                rw [lg_cmp_lt] at c_8
                refine lv_iconst (v := 0) hx hb d_M_isUpper_85 (by decide) ?_
                have hz : f_M_isUpper ru lo le q = 0 := by unfold f_M_isUpper; rw [if_pos c_1, if_neg c_2, if_neg c_3, if_neg c_4, if_neg c_5, if_pos c_7, if_pos c_8]
                exact W.zret hx hb hr rfl (fun t ht _ => ⟨by rw [hz], ht⟩) (fun _ h => by cases h) d_M_isUpper_86
              · skip
                rw [lg_cmp_lt] at c_8
                refine lv_iconst (v := 1) hx hb d_M_isUpper_81 (by decide) ?_
                refine lv_goto (tgt := 86) hx hb d_M_isUpper_82 (by decide) ?_
                have hz : f_M_isUpper ru lo le q = 1 := by unfold f_M_isUpper; rw [if_pos c_1, if_neg c_2, if_neg c_3, if_neg c_4, if_neg c_5, if_pos c_7, if_neg c_8]
                exact W.zret hx hb hr rfl (fun t ht _ => ⟨by rw [hz], ht⟩) (fun _ h => by cases h) d_M_isUpper_86
            · skip
              by_cases c_9 : ru = 5
              · skip
                refine lv_tableIn (off := 73) (tgt := 87) hx hb d_M_isUpper_14 (by rw [c_9]; decide) (by rw [c_9]; decide) (by rw [c_9]; rfl) (by decide) ?_
                refine lv_ldc2 (v := 2) hx hb hown (hg _ wg_332) d_M_isUpper_87 ?_
                refine lv_lload_n hx hb d_M_isUpper_90 rfl (lv_at hl 3 rfl) ?_
                refine lv_lmul hx hb d_M_isUpper_91 ?_
                refine lv_lload hx hb d_M_isUpper_92 (lv_at hl 4 rfl) ?_
                refine W.lcmp hx hb d_M_isUpper_94 ?_
                refine lv_if_gt (tgt := 114) hx hb d_M_isUpper_95 (by decide) (fun c_10 => ?_) (fun c_10 => ?_)
                · skip
                  rw [lg_cmp_gt] at c_10
                  refine lv_iconst (v := 1) hx hb d_M_isUpper_114 (by decide) ?_
                  refine lv_goto (tgt := 119) hx hb d_M_isUpper_115 (by decide) ?_
                  have hz : f_M_isUpper ru lo le q = 1 := by unfold f_M_isUpper; rw [if_pos c_1, if_neg c_2, if_neg c_3, if_neg c_4, if_neg c_5, if_neg c_7, if_pos c_9, if_pos c_10]
                  exact W.zret hx hb hr rfl (fun t ht _ => ⟨by rw [hz], ht⟩) (fun _ h => by cases h) d_M_isUpper_119
                · skip
                  rw [lg_cmp_gt] at c_10
                  refine lv_ldc2 (v := 2) hx hb hown (hg _ wg_332) d_M_isUpper_98 ?_
                  refine lv_lload_n hx hb d_M_isUpper_101 rfl (lv_at hl 3 rfl) ?_
                  refine lv_lmul hx hb d_M_isUpper_102 ?_
                  refine lv_lload hx hb d_M_isUpper_103 (lv_at hl 4 rfl) ?_
                  refine W.lcmp hx hb d_M_isUpper_105 ?_
                  refine lv_if_ne (tgt := 118) hx hb d_M_isUpper_106 (by decide) (fun c_11 => ?_) (fun c_11 => ?_)
                  · skip
                    rw [lg_cmp_eq] at c_11
                    refine lv_iconst (v := 0) hx hb d_M_isUpper_118 (by decide) ?_
                    have hz : f_M_isUpper ru lo le q = 0 := by unfold f_M_isUpper; rw [if_pos c_1, if_neg c_2, if_neg c_3, if_neg c_4, if_neg c_5, if_neg c_7, if_pos c_9, if_neg c_10, if_neg c_11]
                    exact W.zret hx hb hr rfl (fun t ht _ => ⟨by rw [hz], ht⟩) (fun _ h => by cases h) d_M_isUpper_119
                  · skip
                    rw [lg_cmp_eq] at c_11
                    refine lv_iload hx hb d_M_isUpper_109 (lv_at hl 0 rfl) ?_
                    refine lv_if_ne (tgt := 118) hx hb d_M_isUpper_111 (by decide) (fun c_12 => ?_) (fun c_12 => ?_)
                    · skip
                      exact absurd c_12 (by decide)
                    · skip
                      refine lv_iconst (v := 1) hx hb d_M_isUpper_114 (by decide) ?_
                      refine lv_goto (tgt := 119) hx hb d_M_isUpper_115 (by decide) ?_
                      have hz : f_M_isUpper ru lo le q = 1 := by unfold f_M_isUpper; rw [if_pos c_1, if_neg c_2, if_neg c_3, if_neg c_4, if_neg c_5, if_neg c_7, if_pos c_9, if_neg c_10, if_pos c_11]
                      exact W.zret hx hb hr rfl (fun t ht _ => ⟨by rw [hz], ht⟩) (fun _ h => by cases h) d_M_isUpper_119
              · skip
                refine lv_tableOut (tgt := 120) hx hb d_M_isUpper_14 (by have n0 := lv_neT (a := 0) c_2 rfl; have n1 := lv_neT (a := 1) c_3 rfl; have n2 := lv_neT (a := 2) c_4 rfl; have n3 := lv_neT (a := 3) c_5 rfl; have n4 := lv_neT (a := 4) c_7 rfl; have n5 := lv_neT (a := 5) c_9 rfl; omega) (by decide) ?_
                refine lv_ldc2 (v := 2) hx hb hown (hg _ wg_332) d_M_isUpper_120 ?_
                refine lv_lload_n hx hb d_M_isUpper_123 rfl (lv_at hl 3 rfl) ?_
                refine lv_lmul hx hb d_M_isUpper_124 ?_
                refine lv_lload hx hb d_M_isUpper_125 (lv_at hl 4 rfl) ?_
                refine W.lcmp hx hb d_M_isUpper_127 ?_
                refine lv_if_gt (tgt := 152) hx hb d_M_isUpper_128 (by decide) (fun c_13 => ?_) (fun c_13 => ?_)
                · skip
                  rw [lg_cmp_gt] at c_13
                  refine lv_iconst (v := 1) hx hb d_M_isUpper_152 (by decide) ?_
                  refine lv_goto (tgt := 157) hx hb d_M_isUpper_153 (by decide) ?_
                  have hz : f_M_isUpper ru lo le q = 1 := by unfold f_M_isUpper; rw [if_pos c_1, if_neg c_2, if_neg c_3, if_neg c_4, if_neg c_5, if_neg c_7, if_neg c_9, if_pos c_13]
                  exact W.zret hx hb hr rfl (fun t ht _ => ⟨by rw [hz], ht⟩) (fun _ h => by cases h) d_M_isUpper_157
                · skip
                  rw [lg_cmp_gt] at c_13
                  refine lv_ldc2 (v := 2) hx hb hown (hg _ wg_332) d_M_isUpper_131 ?_
                  refine lv_lload_n hx hb d_M_isUpper_134 rfl (lv_at hl 3 rfl) ?_
                  refine lv_lmul hx hb d_M_isUpper_135 ?_
                  refine lv_lload hx hb d_M_isUpper_136 (lv_at hl 4 rfl) ?_
                  refine W.lcmp hx hb d_M_isUpper_138 ?_
                  refine lv_if_ne (tgt := 156) hx hb d_M_isUpper_139 (by decide) (fun c_14 => ?_) (fun c_14 => ?_)
                  · skip
                    rw [lg_cmp_eq] at c_14
                    refine lv_iconst (v := 0) hx hb d_M_isUpper_156 (by decide) ?_
                    have hz : f_M_isUpper ru lo le q = 0 := by unfold f_M_isUpper; rw [if_pos c_1, if_neg c_2, if_neg c_3, if_neg c_4, if_neg c_5, if_neg c_7, if_neg c_9, if_neg c_13, if_neg c_14]
                    exact W.zret hx hb hr rfl (fun t ht _ => ⟨by rw [hz], ht⟩) (fun _ h => by cases h) d_M_isUpper_157
                  · skip
                    rw [lg_cmp_eq] at c_14
                    refine lv_lload_n hx hb d_M_isUpper_142 rfl (lv_at hl 2 rfl) ?_
                    refine lv_ldc2 (v := 2) hx hb hown (hg _ wg_332) d_M_isUpper_143 ?_
                    refine lv_lrem hx hb d_M_isUpper_146 (by decide) ?_
                    refine lv_lconst (v := 0) hx hb d_M_isUpper_147 (by decide) ?_
                    refine W.lcmp hx hb d_M_isUpper_148 ?_
                    refine lv_if_eq (tgt := 156) hx hb d_M_isUpper_149 (by decide) (fun c_15 => ?_) (fun c_15 => ?_)
                    · skip
                      rw [lg_cmp_eq] at c_15
                      refine lv_iconst (v := 0) hx hb d_M_isUpper_156 (by decide) ?_
                      have hz : f_M_isUpper ru lo le q = 0 := by unfold f_M_isUpper; rw [if_pos c_1, if_neg c_2, if_neg c_3, if_neg c_4, if_neg c_5, if_neg c_7, if_neg c_9, if_neg c_13, if_pos c_14, if_pos c_15]
                      exact W.zret hx hb hr rfl (fun t ht _ => ⟨by rw [hz], ht⟩) (fun _ h => by cases h) d_M_isUpper_157
                    · skip
                      rw [lg_cmp_eq] at c_15
                      refine lv_iconst (v := 1) hx hb d_M_isUpper_152 (by decide) ?_
                      refine lv_goto (tgt := 157) hx hb d_M_isUpper_153 (by decide) ?_
                      have hz : f_M_isUpper ru lo le q = 1 := by unfold f_M_isUpper; rw [if_pos c_1, if_neg c_2, if_neg c_3, if_neg c_4, if_neg c_5, if_neg c_7, if_neg c_9, if_neg c_13, if_pos c_14, if_neg c_15]
                      exact W.zret hx hb hr rfl (fun t ht _ => ⟨by rw [hz], ht⟩) (fun _ h => by cases h) d_M_isUpper_157
  · skip
    rw [lg_cmp_ge] at c_1
    refine lv_iconst (v := 1) hx hb d_M_isUpper_6 (by decide) ?_
    refine lv_goto (tgt := 11) hx hb d_M_isUpper_7 (by decide) ?_
    refine lv_istore (lv' := [(7, .int 1), (0, .int ru), (1, .long lo), (3, .long le), (5, .long q)]) hx hb d_M_isUpper_11 hl (by decide) rfl (fun ls hl => ?_)
    refine lv_iload_n hx hb d_M_isUpper_13 rfl (lv_at hl 1 rfl) ?_
    by_cases c_16 : ru = 0
    · skip
      refine lv_tableIn (off := 38) (tgt := 52) hx hb d_M_isUpper_14 (by rw [c_16]; decide) (by rw [c_16]; decide) (by rw [c_16]; rfl) (by decide) ?_
      refine lv_iconst (v := 0) hx hb d_M_isUpper_52 (by decide) ?_
      have hz : f_M_isUpper ru lo le q = 0 := by unfold f_M_isUpper; rw [if_neg c_1, if_pos c_16]
      exact W.zret hx hb hr rfl (fun t ht _ => ⟨by rw [hz], ht⟩) (fun _ h => by cases h) d_M_isUpper_53
    · skip
      by_cases c_17 : ru = 1
      · skip
        refine lv_tableIn (off := 40) (tgt := 54) hx hb d_M_isUpper_14 (by rw [c_17]; decide) (by rw [c_17]; decide) (by rw [c_17]; rfl) (by decide) ?_
        refine lv_iconst (v := 1) hx hb d_M_isUpper_54 (by decide) ?_
        have hz : f_M_isUpper ru lo le q = 1 := by unfold f_M_isUpper; rw [if_neg c_1, if_neg c_16, if_pos c_17]
        exact W.zret hx hb hr rfl (fun t ht _ => ⟨by rw [hz], ht⟩) (fun _ h => by cases h) d_M_isUpper_55
      · skip
        by_cases c_18 : ru = 2
        · skip
          refine lv_tableIn (off := 42) (tgt := 56) hx hb d_M_isUpper_14 (by rw [c_18]; decide) (by rw [c_18]; decide) (by rw [c_18]; rfl) (by decide) ?_
          refine lv_iload hx hb d_M_isUpper_56 (lv_at hl 0 rfl) ?_
          have hz : f_M_isUpper ru lo le q = 1 := by unfold f_M_isUpper; rw [if_neg c_1, if_neg c_16, if_neg c_17, if_pos c_18]
          exact W.zret hx hb hr rfl (fun t ht _ => ⟨by rw [hz], ht⟩) (fun _ h => by cases h) d_M_isUpper_58
        · skip
          by_cases c_19 : ru = 3
          · skip
            refine lv_tableIn (off := 45) (tgt := 59) hx hb d_M_isUpper_14 (by rw [c_19]; decide) (by rw [c_19]; decide) (by rw [c_19]; rfl) (by decide) ?_
            refine lv_iload hx hb d_M_isUpper_59 (lv_at hl 0 rfl) ?_
            refine lv_if_ne (tgt := 68) hx hb d_M_isUpper_61 (by decide) (fun c_20 => ?_) (fun c_20 => ?_)
            · skip
              refine lv_iconst (v := 0) hx hb d_M_isUpper_68 (by decide) ?_
              have hz : f_M_isUpper ru lo le q = 0 := by unfold f_M_isUpper; rw [if_neg c_1, if_neg c_16, if_neg c_17, if_neg c_18, if_pos c_19]
              exact W.zret hx hb hr rfl (fun t ht _ => ⟨by rw [hz], ht⟩) (fun _ h => by cases h) d_M_isUpper_69
            · skip
              exact absurd c_20 (by decide)
          · skip
            by_cases c_21 : ru = 4
            · skip
              refine lv_tableIn (off := 56) (tgt := 70) hx hb d_M_isUpper_14 (by rw [c_21]; decide) (by rw [c_21]; decide) (by rw [c_21]; rfl) (by decide) ?_
              refine lv_ldc2 (v := 2) hx hb hown (hg _ wg_332) d_M_isUpper_70 ?_
              refine lv_lload_n hx hb d_M_isUpper_73 rfl (lv_at hl 3 rfl) ?_
              refine lv_lmul hx hb d_M_isUpper_74 ?_
              refine lv_lload hx hb d_M_isUpper_75 (lv_at hl 4 rfl) ?_
              refine W.lcmp hx hb d_M_isUpper_77 ?_
              refine lv_if_lt (tgt := 85) hx hb d_M_isUpper_78 (by decide) (fun c_22 => ?_) (fun c_22 => ?_)
              · skip
                rw [lg_cmp_lt] at c_22
                refine lv_iconst (v := 0) hx hb d_M_isUpper_85 (by decide) ?_
                have hz : f_M_isUpper ru lo le q = 0 := by unfold f_M_isUpper; rw [if_neg c_1, if_neg c_16, if_neg c_17, if_neg c_18, if_neg c_19, if_pos c_21, if_pos c_22]
                exact W.zret hx hb hr rfl (fun t ht _ => ⟨by rw [hz], ht⟩) (fun _ h => by cases h) d_M_isUpper_86
              · skip
                rw [lg_cmp_lt] at c_22
                refine lv_iconst (v := 1) hx hb d_M_isUpper_81 (by decide) ?_
                refine lv_goto (tgt := 86) hx hb d_M_isUpper_82 (by decide) ?_
                have hz : f_M_isUpper ru lo le q = 1 := by unfold f_M_isUpper; rw [if_neg c_1, if_neg c_16, if_neg c_17, if_neg c_18, if_neg c_19, if_pos c_21, if_neg c_22]
                exact W.zret hx hb hr rfl (fun t ht _ => ⟨by rw [hz], ht⟩) (fun _ h => by cases h) d_M_isUpper_86
            · skip
              by_cases c_23 : ru = 5
              · skip
                refine lv_tableIn (off := 73) (tgt := 87) hx hb d_M_isUpper_14 (by rw [c_23]; decide) (by rw [c_23]; decide) (by rw [c_23]; rfl) (by decide) ?_
                refine lv_ldc2 (v := 2) hx hb hown (hg _ wg_332) d_M_isUpper_87 ?_
                refine lv_lload_n hx hb d_M_isUpper_90 rfl (lv_at hl 3 rfl) ?_
                refine lv_lmul hx hb d_M_isUpper_91 ?_
                refine lv_lload hx hb d_M_isUpper_92 (lv_at hl 4 rfl) ?_
                refine W.lcmp hx hb d_M_isUpper_94 ?_
                refine lv_if_gt (tgt := 114) hx hb d_M_isUpper_95 (by decide) (fun c_24 => ?_) (fun c_24 => ?_)
                · skip
                  rw [lg_cmp_gt] at c_24
                  refine lv_iconst (v := 1) hx hb d_M_isUpper_114 (by decide) ?_
                  refine lv_goto (tgt := 119) hx hb d_M_isUpper_115 (by decide) ?_
                  have hz : f_M_isUpper ru lo le q = 1 := by unfold f_M_isUpper; rw [if_neg c_1, if_neg c_16, if_neg c_17, if_neg c_18, if_neg c_19, if_neg c_21, if_pos c_23, if_pos c_24]
                  exact W.zret hx hb hr rfl (fun t ht _ => ⟨by rw [hz], ht⟩) (fun _ h => by cases h) d_M_isUpper_119
                · skip
                  rw [lg_cmp_gt] at c_24
                  refine lv_ldc2 (v := 2) hx hb hown (hg _ wg_332) d_M_isUpper_98 ?_
                  refine lv_lload_n hx hb d_M_isUpper_101 rfl (lv_at hl 3 rfl) ?_
                  refine lv_lmul hx hb d_M_isUpper_102 ?_
                  refine lv_lload hx hb d_M_isUpper_103 (lv_at hl 4 rfl) ?_
                  refine W.lcmp hx hb d_M_isUpper_105 ?_
                  refine lv_if_ne (tgt := 118) hx hb d_M_isUpper_106 (by decide) (fun c_25 => ?_) (fun c_25 => ?_)
                  · skip
                    rw [lg_cmp_eq] at c_25
                    refine lv_iconst (v := 0) hx hb d_M_isUpper_118 (by decide) ?_
                    have hz : f_M_isUpper ru lo le q = 0 := by unfold f_M_isUpper; rw [if_neg c_1, if_neg c_16, if_neg c_17, if_neg c_18, if_neg c_19, if_neg c_21, if_pos c_23, if_neg c_24, if_neg c_25]
                    exact W.zret hx hb hr rfl (fun t ht _ => ⟨by rw [hz], ht⟩) (fun _ h => by cases h) d_M_isUpper_119
                  · skip
                    rw [lg_cmp_eq] at c_25
                    refine lv_iload hx hb d_M_isUpper_109 (lv_at hl 0 rfl) ?_
                    refine lv_if_ne (tgt := 118) hx hb d_M_isUpper_111 (by decide) (fun c_26 => ?_) (fun c_26 => ?_)
                    · skip
                      refine lv_iconst (v := 0) hx hb d_M_isUpper_118 (by decide) ?_
                      have hz : f_M_isUpper ru lo le q = 0 := by unfold f_M_isUpper; rw [if_neg c_1, if_neg c_16, if_neg c_17, if_neg c_18, if_neg c_19, if_neg c_21, if_pos c_23, if_neg c_24, if_pos c_25]
                      exact W.zret hx hb hr rfl (fun t ht _ => ⟨by rw [hz], ht⟩) (fun _ h => by cases h) d_M_isUpper_119
                    · skip
                      exact absurd c_26 (by decide)
              · skip
                refine lv_tableOut (tgt := 120) hx hb d_M_isUpper_14 (by have n0 := lv_neT (a := 0) c_16 rfl; have n1 := lv_neT (a := 1) c_17 rfl; have n2 := lv_neT (a := 2) c_18 rfl; have n3 := lv_neT (a := 3) c_19 rfl; have n4 := lv_neT (a := 4) c_21 rfl; have n5 := lv_neT (a := 5) c_23 rfl; omega) (by decide) ?_
                refine lv_ldc2 (v := 2) hx hb hown (hg _ wg_332) d_M_isUpper_120 ?_
                refine lv_lload_n hx hb d_M_isUpper_123 rfl (lv_at hl 3 rfl) ?_
                refine lv_lmul hx hb d_M_isUpper_124 ?_
                refine lv_lload hx hb d_M_isUpper_125 (lv_at hl 4 rfl) ?_
                refine W.lcmp hx hb d_M_isUpper_127 ?_
                refine lv_if_gt (tgt := 152) hx hb d_M_isUpper_128 (by decide) (fun c_27 => ?_) (fun c_27 => ?_)
                · skip
                  rw [lg_cmp_gt] at c_27
                  refine lv_iconst (v := 1) hx hb d_M_isUpper_152 (by decide) ?_
                  refine lv_goto (tgt := 157) hx hb d_M_isUpper_153 (by decide) ?_
                  have hz : f_M_isUpper ru lo le q = 1 := by unfold f_M_isUpper; rw [if_neg c_1, if_neg c_16, if_neg c_17, if_neg c_18, if_neg c_19, if_neg c_21, if_neg c_23, if_pos c_27]
                  exact W.zret hx hb hr rfl (fun t ht _ => ⟨by rw [hz], ht⟩) (fun _ h => by cases h) d_M_isUpper_157
                · skip
                  rw [lg_cmp_gt] at c_27
                  refine lv_ldc2 (v := 2) hx hb hown (hg _ wg_332) d_M_isUpper_131 ?_
                  refine lv_lload_n hx hb d_M_isUpper_134 rfl (lv_at hl 3 rfl) ?_
                  refine lv_lmul hx hb d_M_isUpper_135 ?_
                  refine lv_lload hx hb d_M_isUpper_136 (lv_at hl 4 rfl) ?_
                  refine W.lcmp hx hb d_M_isUpper_138 ?_
                  refine lv_if_ne (tgt := 156) hx hb d_M_isUpper_139 (by decide) (fun c_28 => ?_) (fun c_28 => ?_)
                  · skip
                    rw [lg_cmp_eq] at c_28
                    refine lv_iconst (v := 0) hx hb d_M_isUpper_156 (by decide) ?_
                    have hz : f_M_isUpper ru lo le q = 0 := by unfold f_M_isUpper; rw [if_neg c_1, if_neg c_16, if_neg c_17, if_neg c_18, if_neg c_19, if_neg c_21, if_neg c_23, if_neg c_27, if_neg c_28]
                    exact W.zret hx hb hr rfl (fun t ht _ => ⟨by rw [hz], ht⟩) (fun _ h => by cases h) d_M_isUpper_157
                  · skip
                    rw [lg_cmp_eq] at c_28
                    refine lv_lload_n hx hb d_M_isUpper_142 rfl (lv_at hl 2 rfl) ?_
                    refine lv_ldc2 (v := 2) hx hb hown (hg _ wg_332) d_M_isUpper_143 ?_
                    refine lv_lrem hx hb d_M_isUpper_146 (by decide) ?_
                    refine lv_lconst (v := 0) hx hb d_M_isUpper_147 (by decide) ?_
                    refine W.lcmp hx hb d_M_isUpper_148 ?_
                    refine lv_if_eq (tgt := 156) hx hb d_M_isUpper_149 (by decide) (fun c_29 => ?_) (fun c_29 => ?_)
                    · skip
                      rw [lg_cmp_eq] at c_29
                      refine lv_iconst (v := 0) hx hb d_M_isUpper_156 (by decide) ?_
                      have hz : f_M_isUpper ru lo le q = 0 := by unfold f_M_isUpper; rw [if_neg c_1, if_neg c_16, if_neg c_17, if_neg c_18, if_neg c_19, if_neg c_21, if_neg c_23, if_neg c_27, if_pos c_28, if_pos c_29]
                      exact W.zret hx hb hr rfl (fun t ht _ => ⟨by rw [hz], ht⟩) (fun _ h => by cases h) d_M_isUpper_157
                    · skip
                      rw [lg_cmp_eq] at c_29
                      refine lv_iconst (v := 1) hx hb d_M_isUpper_152 (by decide) ?_
                      refine lv_goto (tgt := 157) hx hb d_M_isUpper_153 (by decide) ?_
                      have hz : f_M_isUpper ru lo le q = 1 := by unfold f_M_isUpper; rw [if_neg c_1, if_neg c_16, if_neg c_17, if_neg c_18, if_neg c_19, if_neg c_21, if_neg c_23, if_neg c_27, if_pos c_28, if_neg c_29]
                      exact W.zret hx hb hr rfl (fun t ht _ => ⟨by rw [hz], ht⟩) (fun _ h => by cases h) d_M_isUpper_157
def f_M_isNear (x : Int64) : Int32 := if x < (-10000) then 0 else if 10000 < x then 0 else 1
set_option maxHeartbeats 4000000 in
set_option maxRecDepth 100000 in
theorem k_M_isNear (l : Launch) (x : Int64) : Met l y_M_isNear w_M_isNear ({ frames := 0, cells := 0, slots := 0, locals := 0 }) (va_Pc [.long x] (fun _ => True)) (k2_QcV (.int (f_M_isNear x))) 0 0 (fun _ => False) := by
  refine Met.ofW (cc := c_M_isNear) (maxL := 2) (ret := (Option.some Jvm.ClassFile.FieldType.boolean)) (by decide) rfl ?_
  intro p e s m args below meth c s₁ B hml hv
  obtain ⟨rfl, -⟩ := hv
  have hx := B.exec
  have hb := B.bytes
  have hr := B.returns
  have hts := atoms_spec (ws := w_M_isNear) B.pre
  have hg : ∀ w ∈ WG, w.before _ s = true := fun w h => hts w (List.mem_cons_of_mem _ h)
  have hown : s.vm.findClass R_M = some m.cls := findClass_of_methodNamed B.named
  have hlocks := B.notSynchronized
  have hl := lv_entry ([.long x]) (n := 2) (Nat.le_of_ble_eq_true rfl)
  rw [lg_entry_eq]
  generalize (lg_sl ([.long x]) ++ List.replicate (2 - (lg_sl ([.long x])).length) Slot.unset).toArray = ls at hl ⊢
  have hl : lv_has ls 2 [(0, .long x)] := hl
  refine lv_lload_n hx hb d_M_isNear_0 rfl (lv_at hl 0 rfl) ?_
  refine lv_ldc2 (v := (-10000)) hx hb hown (hg _ wg_345) d_M_isNear_1 ?_
  refine W.lcmp hx hb d_M_isNear_4 ?_
  refine lv_if_lt (tgt := 20) hx hb d_M_isNear_5 (by decide) (fun c_1 => ?_) (fun c_1 => ?_)
  · skip
    rw [lg_cmp_lt] at c_1
    refine lv_iconst (v := 0) hx hb d_M_isNear_20 (by decide) ?_
    have hz : f_M_isNear x = 0 := by unfold f_M_isNear; rw [if_pos c_1]
    exact W.zret hx hb hr rfl (fun t ht _ => ⟨by rw [hz], ht⟩) (fun _ h => by cases h) d_M_isNear_21
  · skip
    rw [lg_cmp_lt] at c_1
    refine lv_lload_n hx hb d_M_isNear_8 rfl (lv_at hl 0 rfl) ?_
    refine lv_ldc2 (v := 10000) hx hb hown (hg _ wg_346) d_M_isNear_9 ?_
    refine W.lcmp hx hb d_M_isNear_12 ?_
    refine lv_if_gt (tgt := 20) hx hb d_M_isNear_13 (by decide) (fun c_2 => ?_) (fun c_2 => ?_)
    · skip
      rw [lg_cmp_gt] at c_2
      refine lv_iconst (v := 0) hx hb d_M_isNear_20 (by decide) ?_
      have hz : f_M_isNear x = 0 := by unfold f_M_isNear; rw [if_neg c_1, if_pos c_2]
      exact W.zret hx hb hr rfl (fun t ht _ => ⟨by rw [hz], ht⟩) (fun _ h => by cases h) d_M_isNear_21
    · skip
      rw [lg_cmp_gt] at c_2
      refine lv_iconst (v := 1) hx hb d_M_isNear_16 (by decide) ?_
      refine lv_goto (tgt := 21) hx hb d_M_isNear_17 (by decide) ?_
      have hz : f_M_isNear x = 1 := by unfold f_M_isNear; rw [if_neg c_1, if_neg c_2]
      exact W.zret hx hb hr rfl (fun t ht _ => ⟨by rw [hz], ht⟩) (fun _ h => by cases h) d_M_isNear_21
