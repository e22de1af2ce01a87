def f_T_takes (xs : Nat → Int64) (tb : Int64) (tc : Int32) (x y b : Int64) : Int32 := if 16 ≤ tc then 0 else if b < 1 then 0 else if b ≤ 100 then if (f_T_isInside x) = 0 then 0 else if (f_T_isInside y) = 0 then 0 else if tc = 0 then 1 else if b = tb then if x ≤ (xs (tc - 1).toNatClampNeg) then 0 else 1 else 0 else 0
set_option maxHeartbeats 4000000 in
set_option maxRecDepth 100000 in
theorem k_T_takes (l : Launch) (dC : Nat → ClassId) (dI : Nat → Nat → Nat) (cJ cI cT : ClassId) (th tx ty : Nat) (tb : Int64) (tc : Int32) (xs : Nat → Int64) (x y b : Int64) (hc0 : 0 ≤ tc.toInt) : Met l y_T_takes w_T_takes ({ frames := 1, cells := 0, slots := 0, locals := 21 }) (va_Pc [.ref th, .long x, .long y, .long b] (wd dC dI cJ cI cT [(th, .inr (0, [.ref tx, .ref ty, .long tb, .int tc])), (tx, .inl (cJ, 16, .inr (.inl xs)))])) (k2_QcV (.int (f_T_takes xs tb tc x y b))) 0 0 (fun _ => False) := by
  refine Met.ofW (cc := c_T_takes) (maxL := 7) (ret := (Option.some Jvm.ClassFile.FieldType.boolean)) (by decide) rfl ?_
  intro p e s m args below meth c s₁ B hml hv
  obtain ⟨rfl, hP, hK⟩ := hv
  have hx := B.exec
  have hb := B.bytes
  have hr := B.returns
  have hts := atoms_spec (ws := w_T_takes) B.pre
  have hg : ∀ w ∈ WG, w.before _ s = true := fun w h => hts w (List.mem_cons_of_mem _ h)
  have hown : s.vm.findClass R_T = some m.cls := findClass_of_methodNamed B.named
  have hlocks := B.notSynchronized
  have hl := lv_entry ([.ref th, .long x, .long y, .long b]) (n := 7) (Nat.le_of_ble_eq_true rfl)
  rw [lg_entry_eq]
  generalize (lg_sl ([.ref th, .long x, .long y, .long b]) ++ List.replicate (7 - (lg_sl ([.ref th, .long x, .long y, .long b])).length) Slot.unset).toArray = ls at hl ⊢
  have hl : lv_has ls 7 [(0, .ref th), (1, .long x), (3, .long y), (5, .long b)] := hl
  have hP : va_P (dC, dI) classes [(th, .inr (0, [.ref tx, .ref ty, .long tb, .int tc])), (tx, .inl (cJ, 16, .inr (.inl xs)))] s.heap := hP
  refine lv_aload_n hx hb d_T_takes_0 rfl (lv_at hl 0 rfl) ?_
  refine va_get (D := (dC, dI)) (ci := 0) (v := .int tc) (C := R_T) (T := F_T) (N := 4) hx hb hg in_T hown hK hP 0 rfl rfl 3 (by decide) (hg _ wg_39) (fun _ h9 => h9) rfl d_T_takes_1 ?_
  refine lv_bipush (v := 16) hx hb d_T_takes_4 (by decide) ?_
  refine lv_icmp_ge (tgt := 25) hx hb d_T_takes_6 (by decide) (fun c_1 => ?_) (fun c_1 => ?_)
  · skip
    refine lv_iconst (v := 0) hx hb d_T_takes_25 (by decide) ?_
    have hz : f_T_takes xs tb tc x y b = 0 := by unfold f_T_takes; rw [if_pos c_1]
    exact W.zret hx hb hr rfl (fun t ht _ => ⟨by rw [hz], ht⟩) (fun _ h => by cases h) d_T_takes_26
  · skip
    refine lv_lload hx hb d_T_takes_9 (lv_at hl 3 rfl) ?_
    refine lv_lconst (v := 1) hx hb d_T_takes_11 (by decide) ?_
    refine W.lcmp hx hb d_T_takes_12 ?_
    refine lv_if_lt (tgt := 25) hx hb d_T_takes_13 (by decide) (fun c_2 => ?_) (fun c_2 => ?_)
    · skip
      rw [lg_cmp_lt] at c_2
      refine lv_iconst (v := 0) hx hb d_T_takes_25 (by decide) ?_
      have hz : f_T_takes xs tb tc x y b = 0 := by unfold f_T_takes; rw [if_neg c_1, if_pos c_2]
      exact W.zret hx hb hr rfl (fun t ht _ => ⟨by rw [hz], ht⟩) (fun _ h => by cases h) d_T_takes_26
    · skip
      rw [lg_cmp_lt] at c_2
      refine lv_lload hx hb d_T_takes_16 (lv_at hl 3 rfl) ?_
      refine lv_ldc2 (v := 100) hx hb hown (hg _ wg_125) d_T_takes_18 ?_
      refine W.lcmp hx hb d_T_takes_21 ?_
      refine lv_if_le (tgt := 27) hx hb d_T_takes_22 (by decide) (fun c_3 => ?_) (fun c_3 => ?_)
      · skip
        rw [lg_cmp_le] at c_3
        refine lv_lload_n hx hb d_T_takes_27 rfl (lv_at hl 1 rfl) ?_
        refine W.callV (W.runS (As := [.long x]) (rest := []) ⟨hx, hb, hml, hown, hg⟩ (k_T_isInside l x) (q_S 1 hg wg_128 wg_126 wg_127 wg_14 rfl rfl (by decide +kernel) ⟨Nat.le_of_ble_eq_true rfl, Nat.le_of_ble_eq_true rfl⟩) ⟨nw_blind, fun _ _ _ => ⟨rfl, trivial⟩⟩ rfl rfl hl.1 rfl (lv_room (Nat.le_of_ble_eq_true rfl)) d_T_takes_28 ⟨Nat.le_of_ble_eq_true rfl, Nat.le_of_ble_eq_true rfl⟩) ?_
        refine W.eq (g2 := F0 m 31 ls (.int (f_T_isInside x) :: [])) rfl ?_
        refine lv_if_eq (tgt := 41) hx hb d_T_takes_31 (by decide) (fun c_4 => ?_) (fun c_4 => ?_)
        · skip
          refine lv_iconst (v := 0) hx hb d_T_takes_41 (by decide) ?_
          have hz : f_T_takes xs tb tc x y b = 0 := by unfold f_T_takes; rw [if_neg c_1, if_neg c_2, if_pos c_3, if_pos c_4]
          exact W.zret hx hb hr rfl (fun t ht _ => ⟨by rw [hz], ht⟩) (fun _ h => by cases h) d_T_takes_42
        · skip
          refine lv_lload_n hx hb d_T_takes_34 rfl (lv_at hl 2 rfl) ?_
          refine W.callV (W.runS (As := [.long y]) (rest := []) ⟨hx, hb, hml, hown, hg⟩ (k_T_isInside l y) (q_S 1 hg wg_128 wg_126 wg_127 wg_14 rfl rfl (by decide +kernel) ⟨Nat.le_of_ble_eq_true rfl, Nat.le_of_ble_eq_true rfl⟩) ⟨nw_blind, fun _ _ _ => ⟨rfl, trivial⟩⟩ rfl rfl hl.1 rfl (lv_room (Nat.le_of_ble_eq_true rfl)) d_T_takes_35 ⟨Nat.le_of_ble_eq_true rfl, Nat.le_of_ble_eq_true rfl⟩) ?_
          refine W.eq (g2 := F0 m 38 ls (.int (f_T_isInside y) :: [])) rfl ?_
          refine lv_if_ne (tgt := 43) hx hb d_T_takes_38 (by decide) (fun c_5 => ?_) (fun c_5 => ?_)
          · skip
            refine lv_aload_n hx hb d_T_takes_43 rfl (lv_at hl 0 rfl) ?_
            refine va_get (D := (dC, dI)) (ci := 0) (v := .int tc) (C := R_T) (T := F_T) (N := 4) hx hb hg in_T hown hK hP 0 rfl rfl 3 (by decide) (hg _ wg_39) (fun _ h9 => h9) rfl d_T_takes_44 ?_
            refine lv_if_eq (tgt := 76) hx hb d_T_takes_47 (by decide) (fun c_6 => ?_) (fun c_6 => ?_)
            · skip
              refine lv_iconst (v := 1) hx hb d_T_takes_76 (by decide) ?_
              refine lv_goto (tgt := 81) hx hb d_T_takes_77 (by decide) ?_
              have hz : f_T_takes xs tb tc x y b = 1 := by unfold f_T_takes; rw [if_neg c_1, if_neg c_2, if_pos c_3, if_neg c_4, if_neg c_5, if_pos c_6]
              exact W.zret hx hb hr rfl (fun t ht _ => ⟨by rw [hz], ht⟩) (fun _ h => by cases h) d_T_takes_81
            · skip
              refine lv_lload hx hb d_T_takes_50 (lv_at hl 3 rfl) ?_
              refine lv_aload_n hx hb d_T_takes_52 rfl (lv_at hl 0 rfl) ?_
              refine va_get (D := (dC, dI)) (ci := 0) (v := .long tb) (C := R_T) (T := F_T) (N := 4) hx hb hg in_T hown hK hP 0 rfl rfl 2 (by decide) (hg _ wg_38) (fun _ h9 => h9) rfl d_T_takes_53 ?_
              refine W.lcmp hx hb d_T_takes_56 ?_
              refine lv_if_ne (tgt := 80) hx hb d_T_takes_57 (by decide) (fun c_7 => ?_) (fun c_7 => ?_)
              · skip
                rw [lg_cmp_eq] at c_7
                refine lv_iconst (v := 0) hx hb d_T_takes_80 (by decide) ?_
                have hz : f_T_takes xs tb tc x y b = 0 := by unfold f_T_takes; rw [if_neg c_1, if_neg c_2, if_pos c_3, if_neg c_4, if_neg c_5, if_neg c_6, if_neg c_7]
                exact W.zret hx hb hr rfl (fun t ht _ => ⟨by rw [hz], ht⟩) (fun _ h => by cases h) d_T_takes_81
              · skip
                rw [lg_cmp_eq] at c_7
                refine lv_lload_n hx hb d_T_takes_60 rfl (lv_at hl 1 rfl) ?_
                refine lv_aload_n hx hb d_T_takes_61 rfl (lv_at hl 0 rfl) ?_
                refine va_get (D := (dC, dI)) (ci := 0) (v := .ref tx) (C := R_T) (T := F_T) (N := 4) hx hb hg in_T hown hK hP 0 rfl rfl 0 (by decide) (hg _ wg_36) (fun _ h9 => h9) rfl d_T_takes_62 ?_
                refine lv_aload_n hx hb d_T_takes_65 rfl (lv_at hl 0 rfl) ?_
                refine va_get (D := (dC, dI)) (ci := 0) (v := .int tc) (C := R_T) (T := F_T) (N := 4) hx hb hg in_T hown hK hP 0 rfl rfl 3 (by decide) (hg _ wg_39) (fun _ h9 => h9) rfl d_T_takes_66 ?_
                refine lv_iconst (v := 1) hx hb d_T_takes_69 (by decide) ?_
                refine lv_isub hx hb d_T_takes_70 ?_
                refine lv_topi (fun i_8 ei_8 => ?_)
                refine va_lald hx hb hK hP 1 0 rfl rfl (by rw [ei_8]; exact in_pred hc0 c_1 c_6 rfl) d_T_takes_71 ?_
                refine W.lcmp hx hb d_T_takes_72 ?_
                refine lv_if_le (tgt := 80) hx hb d_T_takes_73 (by decide) (fun c_9 => ?_) (fun c_9 => ?_)
                · skip
                  rw [lg_cmp_le] at c_9
                  refine lv_iconst (v := 0) hx hb d_T_takes_80 (by decide) ?_
                  subst ei_8
                  have hz : f_T_takes xs tb tc x y b = 0 := by unfold f_T_takes; rw [if_neg c_1, if_neg c_2, if_pos c_3, if_neg c_4, if_neg c_5, if_neg c_6, if_pos c_7, if_pos c_9]
                  exact W.zret hx hb hr rfl (fun t ht _ => ⟨by rw [hz], ht⟩) (fun _ h => by cases h) d_T_takes_81
                · skip
                  rw [lg_cmp_le] at c_9
                  refine lv_iconst (v := 1) hx hb d_T_takes_76 (by decide) ?_
                  refine lv_goto (tgt := 81) hx hb d_T_takes_77 (by decide) ?_
                  subst ei_8
                  have hz : f_T_takes xs tb tc x y b = 1 := by unfold f_T_takes; rw [if_neg c_1, if_neg c_2, if_pos c_3, if_neg c_4, if_neg c_5, if_neg c_6, if_pos c_7, if_neg c_9]
                  exact W.zret hx hb hr rfl (fun t ht _ => ⟨by rw [hz], ht⟩) (fun _ h => by cases h) d_T_takes_81
          · skip
            refine lv_iconst (v := 0) hx hb d_T_takes_41 (by decide) ?_
            have hz : f_T_takes xs tb tc x y b = 0 := by unfold f_T_takes; rw [if_neg c_1, if_neg c_2, if_pos c_3, if_neg c_4, if_pos c_5]
            exact W.zret hx hb hr rfl (fun t ht _ => ⟨by rw [hz], ht⟩) (fun _ h => by cases h) d_T_takes_42
      · skip
        rw [lg_cmp_le] at c_3
        refine lv_iconst (v := 0) hx hb d_T_takes_25 (by decide) ?_
        have hz : f_T_takes xs tb tc x y b = 0 := by unfold f_T_takes; rw [if_neg c_1, if_neg c_2, if_neg c_3]
        exact W.zret hx hb hr rfl (fun t ht _ => ⟨by rw [hz], ht⟩) (fun _ h => by cases h) d_T_takes_26
def f_T_append (xs ys : Nat → Int64) (tb : Int64) (tc : Int32) (x y b : Int64) : (Nat → Int64) × (Nat → Int64) × Int64 × Int32 := if tc < 16 then (vp_updL xs tc.toNatClampNeg x, vp_updL ys tc.toNatClampNeg y, b, (tc + 1)) else (xs, ys, tb, tc)
set_option maxHeartbeats 4000000 in
set_option maxRecDepth 100000 in
theorem k_T_append (l : Launch) (dC : Nat → ClassId) (dI : Nat → Nat → Nat) (cJ cI cT : ClassId) (th tx ty : Nat) (tb : Int64) (tc : Int32) (xs ys : Nat → Int64) (x y b : Int64) (sz : Nat) (hc0 : 0 ≤ tc.toInt) : Met l y_T_append w_T_append ({ frames := 0, cells := 0, slots := 0, locals := 0 }) (va_Pc [.ref th, .long x, .long y, .long b] (wx dC dI cJ cI cT sz [(th, .inr (0, [.ref tx, .ref ty, .long tb, .int tc])), (tx, .inl (cJ, 16, .inr (.inl xs))), (ty, .inl (cJ, 16, .inr (.inl ys)))])) (va_Qv (fun (u : (Nat → Int64) × (Nat → Int64) × Int64 × Int32) => u = f_T_append xs ys tb tc x y b) (fun u => wb dC dI cJ cI cT (va_A [(th, .inr (0, [.ref tx, .ref ty, .long tb, .int tc])), (tx, .inl (cJ, 16, .inr (.inl xs))), (ty, .inl (cJ, 16, .inr (.inl ys)))] sz) [(th, .inr (0, [.ref tx, .ref ty, .long u.2.2.1, .int u.2.2.2])), (tx, .inl (cJ, 16, .inr (.inl u.1))), (ty, .inl (cJ, 16, .inr (.inl u.2.1)))]) (va_A [(th, .inr (0, [.ref tx, .ref ty, .long tb, .int tc])), (tx, .inl (cJ, 16, .inr (.inl xs))), (ty, .inl (cJ, 16, .inr (.inl ys)))] sz)) 0 0 (va_A [(th, .inr (0, [.ref tx, .ref ty, .long tb, .int tc])), (tx, .inl (cJ, 16, .inr (.inl xs))), (ty, .inl (cJ, 16, .inr (.inl ys)))] sz) := by
  refine Met.ofW (cc := c_T_append) (maxL := 7) (ret := (Option.none : Option Jvm.ClassFile.FieldType)) (by decide) rfl ?_
  intro p e s m args below meth c s₁ B hml hv
  obtain ⟨rfl, hsz, hP, hK, hD0⟩ := hv
  have hx := B.exec
  have hb := B.bytes
  have hr := B.returns
  have hts := atoms_spec (ws := w_T_append) B.pre
  have hg : ∀ w ∈ WG, w.before _ s = true := fun w h => hts w (List.mem_cons_of_mem _ h)
  have hown : s.vm.findClass R_T = some m.cls := findClass_of_methodNamed B.named
  have hlocks := B.notSynchronized
  have hl := lv_entry ([.ref th, .long x, .long y, .long b]) (n := 7) (Nat.le_of_ble_eq_true rfl)
  rw [lg_entry_eq]
  generalize (lg_sl ([.ref th, .long x, .long y, .long b]) ++ List.replicate (7 - (lg_sl ([.ref th, .long x, .long y, .long b])).length) Slot.unset).toArray = ls at hl ⊢
  have hl : lv_has ls 7 [(0, .ref th), (1, .long x), (3, .long y), (5, .long b)] := hl
  subst hsz
  have hD := hD0.self (sz := s.heap.size)
  generalize hAe : va_A [(th, .inr (0, [.ref tx, .ref ty, .long tb, .int tc])), (tx, .inl (cJ, 16, .inr (.inl xs))), (ty, .inl (cJ, 16, .inr (.inl ys)))] s.heap.size = A at hD ⊢
  have hA : ∀ q : Nat, s.heap.size ≤ q → A q := fun q h => by rw [← hAe]; exact Or.inr h
  have hS : va_S A s.heap s.heap [] := va_S.rf
  have hP : va_P (dC, dI) classes [(th, .inr (0, [.ref tx, .ref ty, .long tb, .int tc])), (tx, .inl (cJ, 16, .inr (.inl xs))), (ty, .inl (cJ, 16, .inr (.inl ys)))] s.heap := hP
  have hD : va_D A [(th, .inr (0, [.ref tx, .ref ty, .long tb, .int tc])), (tx, .inl (cJ, 16, .inr (.inl xs))), (ty, .inl (cJ, 16, .inr (.inl ys)))] := hD
  skip
  refine lv_aload_n hx hb d_T_append_0 rfl (lv_at hl 0 rfl) ?_
  refine va_get (D := (dC, dI)) (ci := 0) (v := .int tc) (C := R_T) (T := F_T) (N := 4) hx hb hg in_T hown hK hP 0 rfl rfl 3 (by decide) (hg _ wg_39) (fun _ h9 => h9) rfl d_T_append_1 ?_
  refine lv_bipush (v := 16) hx hb d_T_append_4 (by decide) ?_
  refine lv_icmp_lt (tgt := 10) hx hb d_T_append_6 (by decide) (fun c_1 => ?_) (fun c_1 => ?_)
  · skip
    refine lv_aload_n hx hb d_T_append_10 rfl (lv_at hl 0 rfl) ?_
    refine va_get (D := (dC, dI)) (ci := 0) (v := .ref tx) (C := R_T) (T := F_T) (N := 4) hx hb hg in_T hown hK hP 0 rfl rfl 0 (by decide) (hg _ wg_36) (fun _ h9 => h9) rfl d_T_append_11 ?_
    refine lv_aload_n hx hb d_T_append_14 rfl (lv_at hl 0 rfl) ?_
    refine va_get (D := (dC, dI)) (ci := 0) (v := .int tc) (C := R_T) (T := F_T) (N := 4) hx hb hg in_T hown hK hP 0 rfl rfl 3 (by decide) (hg _ wg_39) (fun _ h9 => h9) rfl d_T_append_15 ?_
    refine lv_lload_n hx hb d_T_append_18 rfl (lv_at hl 1 rfl) ?_
    refine va_last hx hb hK hP hD hS 1 0 rfl rfl (in_cnt hc0 c_1 (by decide)) d_T_append_19 (fun H locs hP hD hS => ?_)
    have hP : va_P (dC, dI) classes [(th, .inr (0, [.ref tx, .ref ty, .long tb, .int tc])), (tx, .inl (cJ, 16, .inr (.inl (vp_updL xs tc.toNatClampNeg x)))), (ty, .inl (cJ, 16, .inr (.inl ys)))] H := hP
    have hD : va_D A [(th, .inr (0, [.ref tx, .ref ty, .long tb, .int tc])), (tx, .inl (cJ, 16, .inr (.inl (vp_updL xs tc.toNatClampNeg x)))), (ty, .inl (cJ, 16, .inr (.inl ys)))] := hD
    refine lv_aload_n hx hb d_T_append_20 rfl (lv_at hl 0 rfl) ?_
    refine va_get (D := (dC, dI)) (ci := 0) (v := .ref ty) (C := R_T) (T := F_T) (N := 4) hx hb hg in_T hown hK hP 0 rfl rfl 1 (by decide) (hg _ wg_37) (fun _ h9 => h9) rfl d_T_append_21 ?_
    refine lv_aload_n hx hb d_T_append_24 rfl (lv_at hl 0 rfl) ?_
    refine va_get (D := (dC, dI)) (ci := 0) (v := .int tc) (C := R_T) (T := F_T) (N := 4) hx hb hg in_T hown hK hP 0 rfl rfl 3 (by decide) (hg _ wg_39) (fun _ h9 => h9) rfl d_T_append_25 ?_
    refine lv_lload_n hx hb d_T_append_28 rfl (lv_at hl 2 rfl) ?_
    refine va_last hx hb hK hP hD hS 2 0 rfl rfl (in_cnt hc0 c_1 (by decide)) d_T_append_29 (fun H locs hP hD hS => ?_)
    have hP : va_P (dC, dI) classes [(th, .inr (0, [.ref tx, .ref ty, .long tb, .int tc])), (tx, .inl (cJ, 16, .inr (.inl (vp_updL xs tc.toNatClampNeg x)))), (ty, .inl (cJ, 16, .inr (.inl (vp_updL ys tc.toNatClampNeg y))))] H := hP
    have hD : va_D A [(th, .inr (0, [.ref tx, .ref ty, .long tb, .int tc])), (tx, .inl (cJ, 16, .inr (.inl (vp_updL xs tc.toNatClampNeg x)))), (ty, .inl (cJ, 16, .inr (.inl (vp_updL ys tc.toNatClampNeg y))))] := hD
    refine lv_aload_n hx hb d_T_append_30 rfl (lv_at hl 0 rfl) ?_
    refine lv_lload hx hb d_T_append_31 (lv_at hl 3 rfl) ?_
    refine va_put (D := (dC, dI)) (ci := 0) (v := .long b) (ty := .long) (C := R_T) (T := F_T) (N := 4) hx hb hg in_T tt_T tt_T_ok nn_T hown hK hP hD hS 0 rfl rfl 2 (by decide) (hg _ wg_38) (fun _ h9 => h9) rfl (by decide +kernel) rfl rfl (Nat.le_of_ble_eq_true rfl) d_T_append_33 (fun H locs hP hD hS => ?_)
    have hP : va_P (dC, dI) classes [(th, .inr (0, [.ref tx, .ref ty, .long b, .int tc])), (tx, .inl (cJ, 16, .inr (.inl (vp_updL xs tc.toNatClampNeg x)))), (ty, .inl (cJ, 16, .inr (.inl (vp_updL ys tc.toNatClampNeg y))))] H := hP
    have hD : va_D A [(th, .inr (0, [.ref tx, .ref ty, .long b, .int tc])), (tx, .inl (cJ, 16, .inr (.inl (vp_updL xs tc.toNatClampNeg x)))), (ty, .inl (cJ, 16, .inr (.inl (vp_updL ys tc.toNatClampNeg y))))] := hD
    refine lv_aload_n hx hb d_T_append_36 rfl (lv_at hl 0 rfl) ?_
    refine lv_dup hx hb d_T_append_37 rfl ?_
    refine va_get (D := (dC, dI)) (ci := 0) (v := .int tc) (C := R_T) (T := F_T) (N := 4) hx hb hg in_T hown hK hP 0 rfl rfl 3 (by decide) (hg _ wg_39) (fun _ h9 => h9) rfl d_T_append_38 ?_
    refine lv_iconst (v := 1) hx hb d_T_append_41 (by decide) ?_
    refine lv_iadd hx hb d_T_append_42 ?_
    refine lv_topi (fun v_2 ev_2 => ?_)
    refine va_put (D := (dC, dI)) (ci := 0) (v := .int v_2) (ty := .int) (C := R_T) (T := F_T) (N := 4) hx hb hg in_T tt_T tt_T_ok nn_T hown hK hP hD hS 0 rfl rfl 3 (by decide) (hg _ wg_39) (fun _ h9 => h9) rfl (by decide +kernel) rfl rfl (Nat.le_of_ble_eq_true rfl) d_T_append_43 (fun H locs hP hD hS => ?_)
    have hP : va_P (dC, dI) classes [(th, .inr (0, [.ref tx, .ref ty, .long b, .int v_2])), (tx, .inl (cJ, 16, .inr (.inl (vp_updL xs tc.toNatClampNeg x)))), (ty, .inl (cJ, 16, .inr (.inl (vp_updL ys tc.toNatClampNeg y))))] H := hP
    have hD : va_D A [(th, .inr (0, [.ref tx, .ref ty, .long b, .int v_2])), (tx, .inl (cJ, 16, .inr (.inl (vp_updL xs tc.toNatClampNeg x)))), (ty, .inl (cJ, 16, .inr (.inl (vp_updL ys tc.toNatClampNeg y))))] := hD
    subst ev_2
    have hP9 := hP.sub (ws' := [(th, .inr (0, [.ref tx, .ref ty, .long b, .int (tc + 1)])), (tx, .inl (cJ, 16, .inr (.inl (vp_updL xs tc.toNatClampNeg x)))), (ty, .inl (cJ, 16, .inr (.inl (vp_updL ys tc.toNatClampNeg y))))]) [0, 1, 2] rfl
    have hD9 := hD.sub (ws' := [(th, .inr (0, [.ref tx, .ref ty, .long b, .int (tc + 1)])), (tx, .inl (cJ, 16, .inr (.inl (vp_updL xs tc.toNatClampNeg x)))), (ty, .inl (cJ, 16, .inr (.inl (vp_updL ys tc.toNatClampNeg y))))]) [0, 1, 2] (by decide) rfl
    have hz : (vp_updL xs tc.toNatClampNeg x, vp_updL ys tc.toNatClampNeg y, b, (tc + 1)) = f_T_append xs ys tb tc x y b := by unfold f_T_append; rw [if_pos c_1]
    exact W.vret hx hb hr (fun t ht hW => ⟨⟨(vp_updL xs tc.toNatClampNeg x, vp_updL ys tc.toNatClampNeg y, b, (tc + 1)), rfl, hz, wb_of ht hW hP9 hK hD9⟩, hS.F ht⟩) hS.2.2 d_T_append_46
  · skip
    have hP9 := hP.sub (ws' := [(th, .inr (0, [.ref tx, .ref ty, .long tb, .int tc])), (tx, .inl (cJ, 16, .inr (.inl xs))), (ty, .inl (cJ, 16, .inr (.inl ys)))]) [0, 1, 2] rfl
    have hD9 := hD.sub (ws' := [(th, .inr (0, [.ref tx, .ref ty, .long tb, .int tc])), (tx, .inl (cJ, 16, .inr (.inl xs))), (ty, .inl (cJ, 16, .inr (.inl ys)))]) [0, 1, 2] (by decide) rfl
    have hz : (xs, ys, tb, tc) = f_T_append xs ys tb tc x y b := by unfold f_T_append; rw [if_neg c_1]
    exact W.vret hx hb hr (fun t ht hW => ⟨⟨(xs, ys, tb, tc), rfl, hz, wb_of ht hW hP9 hK hD9⟩, hS.F ht⟩) hS.2.2 d_T_append_9
/-- the first place from j on, among n, that is not before -/
def fn_L (xs : Nat → Int64) (d so : Int64) : Nat → Nat → Nat
  | 0, j => j
  | n + 1, j => if so ≤ xs j * d then j else fn_L xs d so n (j + 1)
set_option maxHeartbeats 4000000 in
set_option maxRecDepth 100000 in
theorem lp_T_firstNotBefore {p : Program} {l : Launch} {e : Env} {R : Room} {s : State} {m : MethodId} {args : Array Value} {below : List Frame} {meth : Method} {c : Code} {H : Heap} {locs : List Loc} {cells slots : Nat} {Q : State → Prop} {dC : Nat → ClassId} {dI : Nat → Nat → Nat} {cJ cI cT : ClassId} {th tx ty : Nat} {tb : Int64} {xs : Nat → Int64} {d so : Int64} (hx : p.tables.exec = Jvm.exec) (hb : c.code = c_T_firstNotBefore) (hg : ∀ w ∈ WG, w.before args s = true) (hown : s.vm.findClass R_T = some m.cls) (hK : va_K (dC, dI) classes (TY cJ cI cT) s) : ∀ (q j : Nat) (ls : Array Slot), va_P (dC, dI) classes [(th, .inr (0, [.ref tx, .ref ty, .long tb, .int (nI (j + q))])), (tx, .inl (cJ, 16, .inr (.inl xs)))] H → j + q ≤ 16 → lv_has ls 8 [(0, .ref th), (3, .long d), (5, .long so), (7, .int (nI j))] → (∀ ls' : Array Slot, lv_has ls' 8 [(7, .int (nI (fn_L xs d so q j)))] → W p l e R s m args below meth c H locs cells slots Q (F0 m 41 ls' [])) → W p l e R s m args below meth c H locs cells slots Q (F0 m 11 ls []) := by
  intro q
  induction q with
  | zero =>
    intro j ls hP hj hl kk
    refine lv_iload hx hb d_T_firstNotBefore_11 (lv_at hl 3 rfl) ?_
    refine lv_aload_n hx hb d_T_firstNotBefore_13 rfl (lv_at hl 0 rfl) ?_
    refine va_get (D := (dC, dI)) (ci := 0) (v := .int (nI (j + 0))) (C := R_T) (T := F_T) (N := 4) hx hb hg in_T hown hK hP 0 rfl rfl 3 (by decide) (hg _ wg_39) (fun _ h9 => h9) rfl d_T_firstNotBefore_14 ?_
    refine lv_icmp_ge (tgt := 41) hx hb d_T_firstNotBefore_17 (by decide) (fun c_1 => ?_) (fun c_1 => ?_)
    · skip
      exact kk ls (lv_sub hl [3] rfl)
    · skip
      exact absurd (nI_le (Nat.le_refl j) (by omega)) c_1
  | succ q ih =>
    intro j ls hP hj hl kk
    refine lv_iload hx hb d_T_firstNotBefore_11 (lv_at hl 3 rfl) ?_
    refine lv_aload_n hx hb d_T_firstNotBefore_13 rfl (lv_at hl 0 rfl) ?_
    refine va_get (D := (dC, dI)) (ci := 0) (v := .int (nI (j + (q + 1)))) (C := R_T) (T := F_T) (N := 4) hx hb hg in_T hown hK hP 0 rfl rfl 3 (by decide) (hg _ wg_39) (fun _ h9 => h9) rfl d_T_firstNotBefore_14 ?_
    refine lv_icmp_ge (tgt := 41) hx hb d_T_firstNotBefore_17 (by decide) (fun c_1 => ?_) (fun c_1 => ?_)
    · skip
      exact absurd c_1 (nI_ge (by omega) (by omega))
    · skip
      refine lv_aload_n hx hb d_T_firstNotBefore_20 rfl (lv_at hl 0 rfl) ?_
      refine va_get (D := (dC, dI)) (ci := 0) (v := .ref tx) (C := R_T) (T := F_T) (N := 4) hx hb hg in_T hown hK hP 0 rfl rfl 0 (by decide) (hg _ wg_36) (fun _ h9 => h9) rfl d_T_firstNotBefore_21 ?_
      refine lv_iload hx hb d_T_firstNotBefore_24 (lv_at hl 3 rfl) ?_
      refine va_lald hx hb hK hP 1 0 rfl rfl (vp_in_nI (by omega) (by decide)) d_T_firstNotBefore_26 ?_
      refine lv_lload_n hx hb d_T_firstNotBefore_27 rfl (lv_at hl 1 rfl) ?_
      refine lv_lmul hx hb d_T_firstNotBefore_28 ?_
      refine lv_lload hx hb d_T_firstNotBefore_29 (lv_at hl 2 rfl) ?_
      refine W.lcmp hx hb d_T_firstNotBefore_31 ?_
      refine lv_if_ge (tgt := 41) hx hb d_T_firstNotBefore_32 (by decide) (fun c_2 => ?_) (fun c_2 => ?_)
      · skip
        rw [lg_cmp_ge] at c_2
        have e2 : (nI j).toNatClampNeg = j := nI_clamp (by omega)
        rw [e2] at c_2
        have hz : fn_L xs d so (q + 1) j = j := if_pos c_2
        exact kk ls (by rw [hz]; exact lv_sub hl [3] rfl)
      · skip
        rw [lg_cmp_ge] at c_2
        obtain ⟨v_3, ev_3⟩ : ∃ y : Int32, y = nI j + 1 := ⟨_, rfl⟩
        refine lv_iinc (v := v_3) (lv' := [(7, .int v_3), (0, .ref th), (3, .long d), (5, .long so)]) hx hb d_T_firstNotBefore_35 hl (k := 3) rfl (by rw [ev_3]; rfl) (by decide) rfl (fun ls hl => ?_)
        refine lv_goto (tgt := 11) hx hb d_T_firstNotBefore_38 (by decide) ?_
        subst ev_3
        rw [nI_1] at hl
        have e2 : (nI j).toNatClampNeg = j := nI_clamp (by omega)
        rw [e2] at c_2
        have e1 : j + (q + 1) = (j + 1) + q := by omega
        rw [e1] at hP
        exact ih (j + 1) ls hP (by omega) (lv_sub hl [1, 2, 3, 0] rfl) (fun ls' hl' => kk ls' (by rw [show fn_L xs d so (q + 1) j = fn_L xs d so q (j + 1) from if_neg c_2]; exact hl'))
def f_T_firstNotBefore (xs : Nat → Int64) (tb : Int64) (tc : Int32) (x d : Int64) : Int32 := nI (fn_L xs d (x * tb) tc.toNatClampNeg 0)
set_option maxHeartbeats 4000000 in
set_option maxRecDepth 100000 in
theorem k_T_firstNotBefore (l : Launch) (dC : Nat → ClassId) (dI : Nat → Nat → Nat) (cJ cI cT : ClassId) (th tx ty : Nat) (tb : Int64) (tc : Int32) (xs : Nat → Int64) (x d : Int64) (hc0 : 0 ≤ tc.toInt) (hc : tc.toInt ≤ (16 : Nat)) : Met l y_T_firstNotBefore w_T_firstNotBefore ({ frames := 0, cells := 0, slots := 0, locals := 0 }) (va_Pc [.ref th, .long x, .long d] (wd dC dI cJ cI cT [(th, .inr (0, [.ref tx, .ref ty, .long tb, .int tc])), (tx, .inl (cJ, 16, .inr (.inl xs)))])) (k2_QcV (.int (f_T_firstNotBefore xs tb tc x d))) 0 0 (fun _ => False) := by
  refine Met.ofW (cc := c_T_firstNotBefore) (maxL := 8) (ret := (Option.some Jvm.ClassFile.FieldType.int)) (by decide) rfl ?_
  intro p e s m args below meth c s₁ B hml hv
  obtain ⟨rfl, hP, hK⟩ := hv
  have hx := B.exec
  have hb := B.bytes
  have hr := B.returns
  have hts := atoms_spec (ws := w_T_firstNotBefore) B.pre
  have hg : ∀ w ∈ WG, w.before _ s = true := fun w h => hts w (List.mem_cons_of_mem _ h)
  have hown : s.vm.findClass R_T = some m.cls := findClass_of_methodNamed B.named
  have hlocks := B.notSynchronized
  have hl := lv_entry ([.ref th, .long x, .long d]) (n := 8) (Nat.le_of_ble_eq_true rfl)
  rw [lg_entry_eq]
  generalize (lg_sl ([.ref th, .long x, .long d]) ++ List.replicate (8 - (lg_sl ([.ref th, .long x, .long d])).length) Slot.unset).toArray = ls at hl ⊢
  have hl : lv_has ls 8 [(0, .ref th), (1, .long x), (3, .long d)] := hl
  have hP : va_P (dC, dI) classes [(th, .inr (0, [.ref tx, .ref ty, .long tb, .int tc])), (tx, .inl (cJ, 16, .inr (.inl xs)))] s.heap := hP
  refine lv_lload_n hx hb d_T_firstNotBefore_0 rfl (lv_at hl 1 rfl) ?_
  refine lv_aload_n hx hb d_T_firstNotBefore_1 rfl (lv_at hl 0 rfl) ?_
  refine va_get (D := (dC, dI)) (ci := 0) (v := .long tb) (C := R_T) (T := F_T) (N := 4) hx hb hg in_T hown hK hP 0 rfl rfl 2 (by decide) (hg _ wg_38) (fun _ h9 => h9) rfl d_T_firstNotBefore_2 ?_
  refine lv_lmul hx hb d_T_firstNotBefore_5 ?_
  refine lv_topl (fun v_1 ev_1 => ?_)
  refine lv_lstore (lv' := [(5, .long v_1), (0, .ref th), (1, .long x), (3, .long d)]) hx hb d_T_firstNotBefore_6 hl (by decide) rfl (fun ls hl => ?_)
  refine lv_iconst (v := 0) hx hb d_T_firstNotBefore_8 (by decide) ?_
  refine lv_istore (lv' := [(7, .int 0), (5, .long v_1), (0, .ref th), (1, .long x), (3, .long d)]) hx hb d_T_firstNotBefore_9 hl (by decide) rfl (fun ls hl => ?_)
  subst ev_1
  obtain ⟨q, hq9, eq9⟩ := nI_of (x := tc) (fun hh => by rw [Int32.lt_iff_toInt_lt] at hh; have e0 : (0 : Int32).toInt = 0 := rfl; omega)
  have eq2 : tc.toNatClampNeg = q := by rw [eq9]; exact nI_clamp hq9
  have eq3 : tc.toInt = q := by rw [eq9]; exact nI_toInt hq9
  have eq4 : tc = nI (0 + q) := by rw [Nat.zero_add]; exact eq9
  refine lp_T_firstNotBefore (tb := tb) (xs := xs) hx hb hg hown hK q 0 ls (by rw [← eq4]; exact hP) (by omega) (lv_sub hl [2, 4, 1, 0] rfl) (fun ls hl => ?_)
  rw [← eq2] at hl
  refine lv_iload hx hb d_T_firstNotBefore_41 (lv_at hl 0 rfl) ?_
  have hz : f_T_firstNotBefore xs tb tc x d = nI (fn_L xs d (x * tb) tc.toNatClampNeg 0) := by unfold f_T_firstNotBefore; rfl
  exact W.iret hx hb hr (fun t ht _ => ⟨by rw [hz], ht⟩) (fun _ h => by cases h) d_T_firstNotBefore_43
def f_X_tableAt (tf : Nat → Option Nat) (a : Int32) : Option Nat := if a < 0 then none else if 4 ≤ a then none else (tf a.toNatClampNeg)
set_option maxHeartbeats 4000000 in
set_option maxRecDepth 100000 in
theorem k_X_tableAt (l : Launch) (dC : Nat → ClassId) (dI : Nat → Nat → Nat) (cJ cI cT : ClassId) (h a1 a2 a3 a4 a5 : Nat) (n k : Int32) (tf : Nat → Option Nat) (a : Int32) : Met l y_X_tableAt w_X_tableAt ({ frames := 0, cells := 0, slots := 0, locals := 0 }) (va_Pc [.ref h, .int a] (wd dC dI cJ cI cT [(h, .inr (1, [.ref a1, .ref a2, .ref a3, .int n, .ref a4, .int k, .ref a5])), (a5, .inl (cT, 4, .inr (.inr (.inr (.inr tf)))))])) (k2_QcV (va_rf (f_X_tableAt tf a))) 0 0 (fun _ => False) := by
  refine Met.ofW (cc := c_X_tableAt) (maxL := 2) (ret := (Option.some (Jvm.ClassFile.FieldType.object "LitreFractions$Table"))) (by decide) rfl ?_
  intro p e s m args below meth c s₁ B hml hv
  obtain ⟨rfl, hP, hK⟩ := hv
  have hx := B.exec
  have hb := B.bytes
  have hr := B.returns
  have hts := atoms_spec (ws := w_X_tableAt) B.pre
  have hg : ∀ w ∈ WG, w.before _ s = true := fun w h => hts w (List.mem_cons_of_mem _ h)
  have hown : s.vm.findClass R_X = some m.cls := findClass_of_methodNamed B.named
  have hlocks := B.notSynchronized
  have hl := lv_entry ([.ref h, .int a]) (n := 2) (Nat.le_of_ble_eq_true rfl)
  rw [lg_entry_eq]
  generalize (lg_sl ([.ref h, .int a]) ++ List.replicate (2 - (lg_sl ([.ref h, .int a])).length) Slot.unset).toArray = ls at hl ⊢
  have hl : lv_has ls 2 [(0, .ref h), (1, .int a)] := hl
  have hP : va_P (dC, dI) classes [(h, .inr (1, [.ref a1, .ref a2, .ref a3, .int n, .ref a4, .int k, .ref a5])), (a5, .inl (cT, 4, .inr (.inr (.inr (.inr tf)))))] s.heap := hP
  refine lv_iload_n hx hb d_X_tableAt_0 rfl (lv_at hl 1 rfl) ?_
  refine lv_if_lt (tgt := 18) hx hb d_X_tableAt_1 (by decide) (fun c_1 => ?_) (fun c_1 => ?_)
  · skip
    refine lv_null hx hb d_X_tableAt_18 ?_
    have hz : f_X_tableAt tf a = none := by unfold f_X_tableAt; rw [if_pos c_1]
    exact W.aret (v := .null) hx hb hr (Or.inl ⟨_, rfl⟩) (Or.inl rfl) (fun t ht _ => ⟨by rw [hz] <;> rfl, ht⟩) (fun _ h => by cases h) d_X_tableAt_19
  · skip
    refine lv_iload_n hx hb d_X_tableAt_4 rfl (lv_at hl 1 rfl) ?_
    refine lv_iconst (v := 4) hx hb d_X_tableAt_5 (by decide) ?_
    refine lv_icmp_ge (tgt := 18) hx hb d_X_tableAt_6 (by decide) (fun c_2 => ?_) (fun c_2 => ?_)
    · skip
      refine lv_null hx hb d_X_tableAt_18 ?_
      have hz : f_X_tableAt tf a = none := by unfold f_X_tableAt; rw [if_neg c_1, if_pos c_2]
      exact W.aret (v := .null) hx hb hr (Or.inl ⟨_, rfl⟩) (Or.inl rfl) (fun t ht _ => ⟨by rw [hz] <;> rfl, ht⟩) (fun _ h => by cases h) d_X_tableAt_19
    · skip
      refine lv_aload_n hx hb d_X_tableAt_9 rfl (lv_at hl 0 rfl) ?_
      refine va_get (D := (dC, dI)) (ci := 1) (v := .ref a5) (C := R_X) (T := F_X) (N := 7) hx hb hg in_X hown hK hP 0 rfl rfl 6 (by decide) (hg _ wg_52) (fun _ h9 => h9) rfl d_X_tableAt_10 ?_
      refine lv_iload_n hx hb d_X_tableAt_13 rfl (lv_at hl 1 rfl) ?_
      refine va_aldq hx hb hK hP 1 2 rfl rfl (in_nle c_1 c_2 (by decide)) d_X_tableAt_14 ?_
      refine lv_goto (tgt := 19) hx hb d_X_tableAt_15 (by decide) ?_
      have hz : f_X_tableAt tf a = tf a.toNatClampNeg := by unfold f_X_tableAt; rw [if_neg c_1, if_neg c_2]
      exact W.aret (v := va_rf (tf a.toNatClampNeg)) hx hb hr (Or.inl ⟨_, rfl⟩) (va_rf_or _) (fun t ht _ => ⟨by rw [hz] <;> rfl, ht⟩) (fun _ h => by cases h) d_X_tableAt_19
