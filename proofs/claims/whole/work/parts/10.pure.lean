def f_JM_floorDiv (x : Int64) (y : Int64) : Int64 := if 0 ≤ (x ^^^ y) then (x / y) else if ((x / y) * y) = x then (x / y) else ((x / y) - 1)
set_option maxHeartbeats 4000000 in
set_option maxRecDepth 100000 in
theorem k_JM_floorDiv (l : Launch) (x : Int64) (y : Int64) (h0 : ¬ y = 0) : Met l y_JM_floorDiv w_JM_floorDiv ({ frames := 0, cells := 0, slots := 0, locals := 0 }) (va_Pc [.long x, .long y] (fun _ => True)) (k2_QcV (.long (f_JM_floorDiv x y))) 0 0 (fun _ => False) := by
  refine met_F (cc := c_JM_floorDiv) (maxL := 6) (ret := (Option.some Jvm.ClassFile.FieldType.long)) (by decide +kernel) rfl ?_
  intro p e s m args below meth c s₁ B hml hv
  obtain ⟨rfl, -⟩ := hv
  have hx := B.exec
  have hb := B.bytes
  have hr := B.returns
  have hts := atoms_spec (ws := w_JM_floorDiv) B.pre
  have hg : ∀ w ∈ WG, w.before _ s = true := fun w h => hts w (List.mem_cons_of_mem _ h)
  have hown : s.vm.findClass R_JM = some m.cls := findClass_of_methodNamed B.named
  have hlocks := B.notSynchronized
  have hl := lv_entry ([.long x, .long y]) (n := 6) (Nat.le_of_ble_eq_true rfl)
  rw [lg_entry_eq]
  generalize (lg_sl ([.long x, .long y]) ++ List.replicate (6 - (lg_sl ([.long x, .long y])).length) Slot.unset).toArray = ls at hl ⊢
  have hl : lv_has ls 6 [(0, .long x), (2, .long y)] := hl
  refine lv_lload_n hx hb d_JM_floorDiv_0 rfl (lv_at hl 0 rfl) ?_
  refine lv_lload_n hx hb d_JM_floorDiv_1 rfl (lv_at hl 1 rfl) ?_
  refine lv_ldiv hx hb d_JM_floorDiv_2 h0 ?_
  refine lv_topl (fun v_1 ev_1 => ?_)
  refine lv_lstore (lv' := [(4, .long v_1), (0, .long x), (2, .long y)]) hx hb d_JM_floorDiv_3 hl (by decide) rfl (fun ls hl => ?_)
  refine lv_lload_n hx hb d_JM_floorDiv_5 rfl (lv_at hl 1 rfl) ?_
  refine lv_lload_n hx hb d_JM_floorDiv_6 rfl (lv_at hl 2 rfl) ?_
  refine lv_lxor hx hb d_JM_floorDiv_7 ?_
  refine lv_lconst (v := 0) hx hb d_JM_floorDiv_8 (by decide) ?_
  refine W.lcmp hx hb d_JM_floorDiv_9 ?_
  refine lv_if_ge (tgt := 27) hx hb d_JM_floorDiv_10 (by decide) (fun c_2 => ?_) (fun c_2 => ?_)
  · skip
    rw [lg_cmp_ge] at c_2
    refine lv_lload hx hb d_JM_floorDiv_27 (lv_at hl 0 rfl) ?_
    subst ev_1
    have hz : f_JM_floorDiv x y = (x / y) := by unfold f_JM_floorDiv; rw [if_pos c_2]
    exact W.lret hx hb hr (fun t ht _ => ⟨by rw [hz], ht⟩) (fun _ h => by cases h) d_JM_floorDiv_29
  · skip
    rw [lg_cmp_ge] at c_2
    refine lv_lload hx hb d_JM_floorDiv_13 (lv_at hl 0 rfl) ?_
    refine lv_lload_n hx hb d_JM_floorDiv_15 rfl (lv_at hl 2 rfl) ?_
    refine lv_lmul hx hb d_JM_floorDiv_16 ?_
    refine lv_lload_n hx hb d_JM_floorDiv_17 rfl (lv_at hl 1 rfl) ?_
    refine W.lcmp hx hb d_JM_floorDiv_18 ?_
    refine lv_if_eq (tgt := 27) hx hb d_JM_floorDiv_19 (by decide) (fun c_3 => ?_) (fun c_3 => ?_)
    · skip
      rw [lg_cmp_eq] at c_3
      refine lv_lload hx hb d_JM_floorDiv_27 (lv_at hl 0 rfl) ?_
      subst ev_1
      have hz : f_JM_floorDiv x y = (x / y) := by unfold f_JM_floorDiv; rw [if_neg c_2, if_pos c_3]
      exact W.lret hx hb hr (fun t ht _ => ⟨by rw [hz], ht⟩) (fun _ h => by cases h) d_JM_floorDiv_29
    · skip
      rw [lg_cmp_eq] at c_3
      refine lv_lload hx hb d_JM_floorDiv_22 (lv_at hl 0 rfl) ?_
      refine lv_lconst (v := 1) hx hb d_JM_floorDiv_24 (by decide) ?_
      refine lv_lsub hx hb d_JM_floorDiv_25 ?_
      subst ev_1
      have hz : f_JM_floorDiv x y = (x / y) - 1 := by unfold f_JM_floorDiv; rw [if_neg c_2, if_neg c_3]
      exact W.lret hx hb hr (fun t ht _ => ⟨by rw [hz], ht⟩) (fun _ h => by cases h) d_JM_floorDiv_26
def f_JM_floorMod (x : Int64) (y : Int64) : Int64 := if 0 ≤ (x ^^^ y) then (x - x / y * y) else if (x - x / y * y) = 0 then (x - x / y * y) else ((x - x / y * y) + y)
set_option maxHeartbeats 4000000 in
set_option maxRecDepth 100000 in
theorem k_JM_floorMod (l : Launch) (x : Int64) (y : Int64) (h0 : ¬ y = 0) : Met l y_JM_floorMod w_JM_floorMod ({ frames := 0, cells := 0, slots := 0, locals := 0 }) (va_Pc [.long x, .long y] (fun _ => True)) (k2_QcV (.long (f_JM_floorMod x y))) 0 0 (fun _ => False) := by
  refine met_F (cc := c_JM_floorMod) (maxL := 6) (ret := (Option.some Jvm.ClassFile.FieldType.long)) (by decide +kernel) rfl ?_
  intro p e s m args below meth c s₁ B hml hv
  obtain ⟨rfl, -⟩ := hv
  have hx := B.exec
  have hb := B.bytes
  have hr := B.returns
  have hts := atoms_spec (ws := w_JM_floorMod) B.pre
  have hg : ∀ w ∈ WG, w.before _ s = true := fun w h => hts w (List.mem_cons_of_mem _ h)
  have hown : s.vm.findClass R_JM = some m.cls := findClass_of_methodNamed B.named
  have hlocks := B.notSynchronized
  have hl := lv_entry ([.long x, .long y]) (n := 6) (Nat.le_of_ble_eq_true rfl)
  rw [lg_entry_eq]
  generalize (lg_sl ([.long x, .long y]) ++ List.replicate (6 - (lg_sl ([.long x, .long y])).length) Slot.unset).toArray = ls at hl ⊢
  have hl : lv_has ls 6 [(0, .long x), (2, .long y)] := hl
  refine lv_lload_n hx hb d_JM_floorMod_0 rfl (lv_at hl 0 rfl) ?_
  refine lv_lload_n hx hb d_JM_floorMod_1 rfl (lv_at hl 1 rfl) ?_
  refine lv_lrem hx hb d_JM_floorMod_2 h0 ?_
  refine lv_topl (fun v_1 ev_1 => ?_)
  refine lv_lstore (lv' := [(4, .long v_1), (0, .long x), (2, .long y)]) hx hb d_JM_floorMod_3 hl (by decide) rfl (fun ls hl => ?_)
  refine lv_lload_n hx hb d_JM_floorMod_5 rfl (lv_at hl 1 rfl) ?_
  refine lv_lload_n hx hb d_JM_floorMod_6 rfl (lv_at hl 2 rfl) ?_
  refine lv_lxor hx hb d_JM_floorMod_7 ?_
  refine lv_lconst (v := 0) hx hb d_JM_floorMod_8 (by decide) ?_
  refine W.lcmp hx hb d_JM_floorMod_9 ?_
  refine lv_if_ge (tgt := 25) hx hb d_JM_floorMod_10 (by decide) (fun c_2 => ?_) (fun c_2 => ?_)
  · skip
    rw [lg_cmp_ge] at c_2
    refine lv_lload hx hb d_JM_floorMod_25 (lv_at hl 0 rfl) ?_
    subst ev_1
    have hz : f_JM_floorMod x y = (x - x / y * y) := by unfold f_JM_floorMod; rw [if_pos c_2]
    exact W.lret hx hb hr (fun t ht _ => ⟨by rw [hz], ht⟩) (fun _ h => by cases h) d_JM_floorMod_27
  · skip
    rw [lg_cmp_ge] at c_2
    refine lv_lload hx hb d_JM_floorMod_13 (lv_at hl 0 rfl) ?_
    refine lv_lconst (v := 0) hx hb d_JM_floorMod_15 (by decide) ?_
    refine W.lcmp hx hb d_JM_floorMod_16 ?_
    refine lv_if_eq (tgt := 25) hx hb d_JM_floorMod_17 (by decide) (fun c_3 => ?_) (fun c_3 => ?_)
    · skip
      rw [lg_cmp_eq] at c_3
      refine lv_lload hx hb d_JM_floorMod_25 (lv_at hl 0 rfl) ?_
      subst ev_1
      have hz : f_JM_floorMod x y = (x - x / y * y) := by unfold f_JM_floorMod; rw [if_neg c_2, if_pos c_3]
      exact W.lret hx hb hr (fun t ht _ => ⟨by rw [hz], ht⟩) (fun _ h => by cases h) d_JM_floorMod_27
    · skip
      rw [lg_cmp_eq] at c_3
      refine lv_lload hx hb d_JM_floorMod_20 (lv_at hl 0 rfl) ?_
      refine lv_lload_n hx hb d_JM_floorMod_22 rfl (lv_at hl 2 rfl) ?_
      refine lv_ladd hx hb d_JM_floorMod_23 ?_
      subst ev_1
      have hz : f_JM_floorMod x y = (x - x / y * y) + y := by unfold f_JM_floorMod; rw [if_neg c_2, if_neg c_3]
      exact W.lret hx hb hr (fun t ht _ => ⟨by rw [hz], ht⟩) (fun _ h => by cases h) d_JM_floorMod_24
def f_JL_compare (x : Int64) (y : Int64) : Int32 := if y ≤ x then if x = y then 0 else 1 else (-1)
set_option maxHeartbeats 4000000 in
set_option maxRecDepth 100000 in
theorem k_JL_compare (l : Launch) (x : Int64) (y : Int64) : Met l y_JL_compare w_JL_compare ({ frames := 0, cells := 0, slots := 0, locals := 0 }) (va_Pc [.long x, .long y] (fun _ => True)) (k2_QcV (.int (f_JL_compare x y))) 0 0 (fun _ => False) := by
  refine Met.ofW (cc := c_JL_compare) (maxL := 4) (ret := (Option.some Jvm.ClassFile.FieldType.int)) (by decide) rfl ?_
  intro p e s m args below meth c s₁ B hml hv
  obtain ⟨rfl, -⟩ := hv
  have hx := B.exec
  have hb := B.bytes
  have hr := B.returns
  have hts := atoms_spec (ws := w_JL_compare) B.pre
  have hg : ∀ w ∈ WG, w.before _ s = true := fun w h => hts w (List.mem_cons_of_mem _ h)
  have hown : s.vm.findClass R_JL = some m.cls := findClass_of_methodNamed B.named
  have hlocks := B.notSynchronized
  have hl := lv_entry ([.long x, .long y]) (n := 4) (Nat.le_of_ble_eq_true rfl)
  rw [lg_entry_eq]
  generalize (lg_sl ([.long x, .long y]) ++ List.replicate (4 - (lg_sl ([.long x, .long y])).length) Slot.unset).toArray = ls at hl ⊢
  have hl : lv_has ls 4 [(0, .long x), (2, .long y)] := hl
  refine lv_lload_n hx hb d_JL_compare_0 rfl (lv_at hl 0 rfl) ?_
  refine lv_lload_n hx hb d_JL_compare_1 rfl (lv_at hl 1 rfl) ?_
  refine W.lcmp hx hb d_JL_compare_2 ?_
  refine lv_if_ge (tgt := 10) hx hb d_JL_compare_3 (by decide) (fun c_1 => ?_) (fun c_1 => ?_)
  · skip
    rw [lg_cmp_ge] at c_1
    refine lv_lload_n hx hb d_JL_compare_10 rfl (lv_at hl 0 rfl) ?_
    refine lv_lload_n hx hb d_JL_compare_11 rfl (lv_at hl 1 rfl) ?_
    refine W.lcmp hx hb d_JL_compare_12 ?_
    refine lv_if_ne (tgt := 20) hx hb d_JL_compare_13 (by decide) (fun c_2 => ?_) (fun c_2 => ?_)
    · skip
      rw [lg_cmp_eq] at c_2
      refine lv_iconst (v := 1) hx hb d_JL_compare_20 (by decide) ?_
      have hz : f_JL_compare x y = 1 := by unfold f_JL_compare; rw [if_pos c_1, if_neg c_2]
      exact W.iret hx hb hr (fun t ht _ => ⟨by rw [hz], ht⟩) (fun _ h => by cases h) d_JL_compare_21
    · skip
      rw [lg_cmp_eq] at c_2
      refine lv_iconst (v := 0) hx hb d_JL_compare_16 (by decide) ?_
      refine lv_goto (tgt := 21) hx hb d_JL_compare_17 (by decide) ?_
      have hz : f_JL_compare x y = 0 := by unfold f_JL_compare; rw [if_pos c_1, if_pos c_2]
      exact W.iret hx hb hr (fun t ht _ => ⟨by rw [hz], ht⟩) (fun _ h => by cases h) d_JL_compare_21
  · skip
    rw [lg_cmp_ge] at c_1
    refine lv_iconst (v := (-1)) hx hb d_JL_compare_6 (by decide) ?_
    refine lv_goto (tgt := 21) hx hb d_JL_compare_7 (by decide) ?_
    have hz : f_JL_compare x y = (-1) := by unfold f_JL_compare; rw [if_neg c_1]
    exact W.iret hx hb hr (fun t ht _ => ⟨by rw [hz], ht⟩) (fun _ h => by cases h) d_JL_compare_21
def f_X_isTooFar (x : Int64) : Int32 := if x ≤ (-1000000000000000000) then 1 else if x < 1000000000000000000 then 0 else 1
set_option maxHeartbeats 4000000 in
set_option maxRecDepth 100000 in
theorem k_X_isTooFar (l : Launch) (x : Int64) : Met l y_X_isTooFar w_X_isTooFar ({ frames := 0, cells := 0, slots := 0, locals := 0 }) (va_Pc [.long x] (fun _ => True)) (k2_QcV (.int (f_X_isTooFar x))) 0 0 (fun _ => False) := by
  refine Met.ofW (cc := c_X_isTooFar) (maxL := 2) (ret := (Option.some Jvm.ClassFile.FieldType.boolean)) (by decide) rfl ?_
  intro p e s m args below meth c s₁ B hml hv
  obtain ⟨rfl, -⟩ := hv
  have hx := B.exec
  have hb := B.bytes
  have hr := B.returns
  have hts := atoms_spec (ws := w_X_isTooFar) B.pre
  have hg : ∀ w ∈ WG, w.before _ s = true := fun w h => hts w (List.mem_cons_of_mem _ h)
  have hown : s.vm.findClass R_X = some m.cls := findClass_of_methodNamed B.named
  have hlocks := B.notSynchronized
  have hl := lv_entry ([.long x]) (n := 2) (Nat.le_of_ble_eq_true rfl)
  rw [lg_entry_eq]
  generalize (lg_sl ([.long x]) ++ List.replicate (2 - (lg_sl ([.long x])).length) Slot.unset).toArray = ls at hl ⊢
  have hl : lv_has ls 2 [(0, .long x)] := hl
  refine lv_lload_n hx hb d_X_isTooFar_0 rfl (lv_at hl 0 rfl) ?_
  refine lv_ldc2 (v := (-1000000000000000000)) hx hb hown (hg _ wg_222) d_X_isTooFar_1 ?_
  refine W.lcmp hx hb d_X_isTooFar_4 ?_
  refine lv_if_le (tgt := 16) hx hb d_X_isTooFar_5 (by decide) (fun c_1 => ?_) (fun c_1 => ?_)
  · skip
    rw [lg_cmp_le] at c_1
    refine lv_iconst (v := 1) hx hb d_X_isTooFar_16 (by decide) ?_
    refine lv_goto (tgt := 21) hx hb d_X_isTooFar_17 (by decide) ?_
    have hz : f_X_isTooFar x = 1 := by unfold f_X_isTooFar; rw [if_pos c_1]
    exact W.zret hx hb hr rfl (fun t ht _ => ⟨by rw [hz], ht⟩) (fun _ h => by cases h) d_X_isTooFar_21
  · skip
    rw [lg_cmp_le] at c_1
    refine lv_lload_n hx hb d_X_isTooFar_8 rfl (lv_at hl 0 rfl) ?_
    refine lv_ldc2 (v := 1000000000000000000) hx hb hown (hg _ wg_223) d_X_isTooFar_9 ?_
    refine W.lcmp hx hb d_X_isTooFar_12 ?_
    refine lv_if_lt (tgt := 20) hx hb d_X_isTooFar_13 (by decide) (fun c_2 => ?_) (fun c_2 => ?_)
    · skip
      rw [lg_cmp_lt] at c_2
      refine lv_iconst (v := 0) hx hb d_X_isTooFar_20 (by decide) ?_
      have hz : f_X_isTooFar x = 0 := by unfold f_X_isTooFar; rw [if_neg c_1, if_pos c_2]
      exact W.zret hx hb hr rfl (fun t ht _ => ⟨by rw [hz], ht⟩) (fun _ h => by cases h) d_X_isTooFar_21
    · skip
      rw [lg_cmp_lt] at c_2
      refine lv_iconst (v := 1) hx hb d_X_isTooFar_16 (by decide) ?_
      refine lv_goto (tgt := 21) hx hb d_X_isTooFar_17 (by decide) ?_
      have hz : f_X_isTooFar x = 1 := by unfold f_X_isTooFar; rw [if_neg c_1, if_neg c_2]
      exact W.zret hx hb hr rfl (fun t ht _ => ⟨by rw [hz], ht⟩) (fun _ h => by cases h) d_X_isTooFar_21
def f_T_isInside (x : Int64) : Int32 := if x < (-10000) then 0 else if 10000 < x then 0 else 1
set_option maxHeartbeats 4000000 in
set_option maxRecDepth 100000 in
theorem k_T_isInside (l : Launch) (x : Int64) : Met l y_T_isInside w_T_isInside ({ frames := 0, cells := 0, slots := 0, locals := 0 }) (va_Pc [.long x] (fun _ => True)) (k2_QcV (.int (f_T_isInside x))) 0 0 (fun _ => False) := by
  refine Met.ofW (cc := c_T_isInside) (maxL := 2) (ret := (Option.some Jvm.ClassFile.FieldType.boolean)) (by decide) rfl ?_
  intro p e s m args below meth c s₁ B hml hv
  obtain ⟨rfl, -⟩ := hv
  have hx := B.exec
  have hb := B.bytes
  have hr := B.returns
  have hts := atoms_spec (ws := w_T_isInside) B.pre
  have hg : ∀ w ∈ WG, w.before _ s = true := fun w h => hts w (List.mem_cons_of_mem _ h)
  have hown : s.vm.findClass R_T = some m.cls := findClass_of_methodNamed B.named
  have hlocks := B.notSynchronized
  have hl := lv_entry ([.long x]) (n := 2) (Nat.le_of_ble_eq_true rfl)
  rw [lg_entry_eq]
  generalize (lg_sl ([.long x]) ++ List.replicate (2 - (lg_sl ([.long x])).length) Slot.unset).toArray = ls at hl ⊢
  have hl : lv_has ls 2 [(0, .long x)] := hl
  refine lv_lload_n hx hb d_T_isInside_0 rfl (lv_at hl 0 rfl) ?_
  refine lv_ldc2 (v := (-10000)) hx hb hown (hg _ wg_129) d_T_isInside_1 ?_
  refine W.lcmp hx hb d_T_isInside_4 ?_
  refine lv_if_lt (tgt := 20) hx hb d_T_isInside_5 (by decide) (fun c_1 => ?_) (fun c_1 => ?_)
  · skip
    rw [lg_cmp_lt] at c_1
    refine lv_iconst (v := 0) hx hb d_T_isInside_20 (by decide) ?_
    have hz : f_T_isInside x = 0 := by unfold f_T_isInside; rw [if_pos c_1]
    exact W.zret hx hb hr rfl (fun t ht _ => ⟨by rw [hz], ht⟩) (fun _ h => by cases h) d_T_isInside_21
  · skip
    rw [lg_cmp_lt] at c_1
    refine lv_lload_n hx hb d_T_isInside_8 rfl (lv_at hl 0 rfl) ?_
    refine lv_ldc2 (v := 10000) hx hb hown (hg _ wg_130) d_T_isInside_9 ?_
    refine W.lcmp hx hb d_T_isInside_12 ?_
    refine lv_if_gt (tgt := 20) hx hb d_T_isInside_13 (by decide) (fun c_2 => ?_) (fun c_2 => ?_)
    · skip
      rw [lg_cmp_gt] at c_2
      refine lv_iconst (v := 0) hx hb d_T_isInside_20 (by decide) ?_
      have hz : f_T_isInside x = 0 := by unfold f_T_isInside; rw [if_neg c_1, if_pos c_2]
      exact W.zret hx hb hr rfl (fun t ht _ => ⟨by rw [hz], ht⟩) (fun _ h => by cases h) d_T_isInside_21
    · skip
      rw [lg_cmp_gt] at c_2
      refine lv_iconst (v := 1) hx hb d_T_isInside_16 (by decide) ?_
      refine lv_goto (tgt := 21) hx hb d_T_isInside_17 (by decide) ?_
      have hz : f_T_isInside x = 1 := by unfold f_T_isInside; rw [if_neg c_1, if_neg c_2]
      exact W.zret hx hb hr rfl (fun t ht _ => ⟨by rw [hz], ht⟩) (fun _ h => by cases h) d_T_isInside_21
def f_X_isShareOf (u : Int32) (v : Int32) : Int32 := if u = 3 then if v = 2 then 1 else if u = 4 then if v = 1 then 1 else 0 else 0 else if u = 4 then if v = 1 then 1 else 0 else 0
set_option maxHeartbeats 4000000 in
set_option maxRecDepth 100000 in
theorem k_X_isShareOf (l : Launch) (u : Int32) (v : Int32) : Met l y_X_isShareOf w_X_isShareOf ({ frames := 0, cells := 0, slots := 0, locals := 0 }) (va_Pc [.int u, .int v] (fun _ => True)) (k2_QcV (.int (f_X_isShareOf u v))) 0 0 (fun _ => False) := by
  refine Met.ofW (cc := c_X_isShareOf) (maxL := 2) (ret := (Option.some Jvm.ClassFile.FieldType.boolean)) (by decide) rfl ?_
  intro p e s m args below meth c s₁ B hml hv
  obtain ⟨rfl, -⟩ := hv
  have hx := B.exec
  have hb := B.bytes
  have hr := B.returns
  have hts := atoms_spec (ws := w_X_isShareOf) B.pre
  have hg : ∀ w ∈ WG, w.before _ s = true := fun w h => hts w (List.mem_cons_of_mem _ h)
  have hown : s.vm.findClass R_X = some m.cls := findClass_of_methodNamed B.named
  have hlocks := B.notSynchronized
  have hl := lv_entry ([.int u, .int v]) (n := 2) (Nat.le_of_ble_eq_true rfl)
  rw [lg_entry_eq]
  generalize (lg_sl ([.int u, .int v]) ++ List.replicate (2 - (lg_sl ([.int u, .int v])).length) Slot.unset).toArray = ls at hl ⊢
  have hl : lv_has ls 2 [(0, .int u), (1, .int v)] := hl
  refine lv_iload_n hx hb d_X_isShareOf_0 rfl (lv_at hl 0 rfl) ?_
  refine lv_iconst (v := 3) hx hb d_X_isShareOf_1 (by decide) ?_
  refine lv_icmp_ne (tgt := 10) hx hb d_X_isShareOf_2 (by decide) (fun c_1 => ?_) (fun c_1 => ?_)
  · skip
    refine lv_iload_n hx hb d_X_isShareOf_10 rfl (lv_at hl 0 rfl) ?_
    refine lv_iconst (v := 4) hx hb d_X_isShareOf_11 (by decide) ?_
    refine lv_icmp_ne (tgt := 24) hx hb d_X_isShareOf_12 (by decide) (fun c_2 => ?_) (fun c_2 => ?_)
    · skip
      refine lv_iconst (v := 0) hx hb d_X_isShareOf_24 (by decide) ?_
      have hz : f_X_isShareOf u v = 0 := by unfold f_X_isShareOf; rw [if_neg c_1, if_neg c_2]
      exact W.zret hx hb hr rfl (fun t ht _ => ⟨by rw [hz], ht⟩) (fun _ h => by cases h) d_X_isShareOf_25
    · skip
      refine lv_iload_n hx hb d_X_isShareOf_15 rfl (lv_at hl 1 rfl) ?_
      refine lv_iconst (v := 1) hx hb d_X_isShareOf_16 (by decide) ?_
      refine lv_icmp_ne (tgt := 24) hx hb d_X_isShareOf_17 (by decide) (fun c_3 => ?_) (fun c_3 => ?_)
      · skip
        refine lv_iconst (v := 0) hx hb d_X_isShareOf_24 (by decide) ?_
        have hz : f_X_isShareOf u v = 0 := by unfold f_X_isShareOf; rw [if_neg c_1, if_pos c_2, if_neg c_3]
        exact W.zret hx hb hr rfl (fun t ht _ => ⟨by rw [hz], ht⟩) (fun _ h => by cases h) d_X_isShareOf_25
      · skip
        refine lv_iconst (v := 1) hx hb d_X_isShareOf_20 (by decide) ?_
        refine lv_goto (tgt := 25) hx hb d_X_isShareOf_21 (by decide) ?_
        have hz : f_X_isShareOf u v = 1 := by unfold f_X_isShareOf; rw [if_neg c_1, if_pos c_2, if_pos c_3]
        exact W.zret hx hb hr rfl (fun t ht _ => ⟨by rw [hz], ht⟩) (fun _ h => by cases h) d_X_isShareOf_25
  · skip
    refine lv_iload_n hx hb d_X_isShareOf_5 rfl (lv_at hl 1 rfl) ?_
    refine lv_iconst (v := 2) hx hb d_X_isShareOf_6 (by decide) ?_
    refine lv_icmp_eq (tgt := 20) hx hb d_X_isShareOf_7 (by decide) (fun c_4 => ?_) (fun c_4 => ?_)
    · skip
      refine lv_iconst (v := 1) hx hb d_X_isShareOf_20 (by decide) ?_
      refine lv_goto (tgt := 25) hx hb d_X_isShareOf_21 (by decide) ?_
      have hz : f_X_isShareOf u v = 1 := by unfold f_X_isShareOf; rw [if_pos c_1, if_pos c_4]
      exact W.zret hx hb hr rfl (fun t ht _ => ⟨by rw [hz], ht⟩) (fun _ h => by cases h) d_X_isShareOf_25
    · skip
      refine lv_iload_n hx hb d_X_isShareOf_10 rfl (lv_at hl 0 rfl) ?_
      refine lv_iconst (v := 4) hx hb d_X_isShareOf_11 (by decide) ?_
      refine lv_icmp_ne (tgt := 24) hx hb d_X_isShareOf_12 (by decide) (fun c_5 => ?_) (fun c_5 => ?_)
      · skip
        refine lv_iconst (v := 0) hx hb d_X_isShareOf_24 (by decide) ?_
        have hz : f_X_isShareOf u v = 0 := by unfold f_X_isShareOf; rw [if_pos c_1, if_neg c_4, if_neg c_5]
        exact W.zret hx hb hr rfl (fun t ht _ => ⟨by rw [hz], ht⟩) (fun _ h => by cases h) d_X_isShareOf_25
      · skip
        refine lv_iload_n hx hb d_X_isShareOf_15 rfl (lv_at hl 1 rfl) ?_
        refine lv_iconst (v := 1) hx hb d_X_isShareOf_16 (by decide) ?_
        refine lv_icmp_ne (tgt := 24) hx hb d_X_isShareOf_17 (by decide) (fun c_6 => ?_) (fun c_6 => ?_)
        · skip
          refine lv_iconst (v := 0) hx hb d_X_isShareOf_24 (by decide) ?_
          have hz : f_X_isShareOf u v = 0 := by unfold f_X_isShareOf; rw [if_pos c_1, if_neg c_4, if_pos c_5, if_neg c_6]
          exact W.zret hx hb hr rfl (fun t ht _ => ⟨by rw [hz], ht⟩) (fun _ h => by cases h) d_X_isShareOf_25
        · skip
          refine lv_iconst (v := 1) hx hb d_X_isShareOf_20 (by decide) ?_
          refine lv_goto (tgt := 25) hx hb d_X_isShareOf_21 (by decide) ?_
          have hz : f_X_isShareOf u v = 1 := by unfold f_X_isShareOf; rw [if_pos c_1, if_neg c_4, if_pos c_5, if_pos c_6]
          exact W.zret hx hb hr rfl (fun t ht _ => ⟨by rw [hz], ht⟩) (fun _ h => by cases h) d_X_isShareOf_25
def f_X_unitOfProduct (u : Int32) (v : Int32) : Int32 := if u = 0 then v else if (f_X_isShareOf u v) = 0 then if v = 0 then u else if (f_X_isShareOf v u) = 0 then (-1) else u else v
set_option maxHeartbeats 4000000 in
set_option maxRecDepth 100000 in
theorem k_X_unitOfProduct (l : Launch) (u : Int32) (v : Int32) : Met l y_X_unitOfProduct w_X_unitOfProduct ({ frames := 1, cells := 0, slots := 0, locals := 21 }) (va_Pc [.int u, .int v] (fun _ => True)) (k2_QcV (.int (f_X_unitOfProduct u v))) 0 0 (fun _ => False) := by
  refine Met.ofW (cc := c_X_unitOfProduct) (maxL := 2) (ret := (Option.some Jvm.ClassFile.FieldType.int)) (by decide) rfl ?_
  intro p e s m args below meth c s₁ B hml hv
  obtain ⟨rfl, -⟩ := hv
  have hx := B.exec
  have hb := B.bytes
  have hr := B.returns
  have hts := atoms_spec (ws := w_X_unitOfProduct) B.pre
  have hg : ∀ w ∈ WG, w.before _ s = true := fun w h => hts w (List.mem_cons_of_mem _ h)
  have hown : s.vm.findClass R_X = some m.cls := findClass_of_methodNamed B.named
  have hlocks := B.notSynchronized
  have hl := lv_entry ([.int u, .int v]) (n := 2) (Nat.le_of_ble_eq_true rfl)
  rw [lg_entry_eq]
  generalize (lg_sl ([.int u, .int v]) ++ List.replicate (2 - (lg_sl ([.int u, .int v])).length) Slot.unset).toArray = ls at hl ⊢
  have hl : lv_has ls 2 [(0, .int u), (1, .int v)] := hl
  refine lv_iload_n hx hb d_X_unitOfProduct_0 rfl (lv_at hl 0 rfl) ?_
  refine lv_if_eq (tgt := 12) hx hb d_X_unitOfProduct_1 (by decide) (fun c_1 => ?_) (fun c_1 => ?_)
  · skip
    refine lv_iload_n hx hb d_X_unitOfProduct_12 rfl (lv_at hl 1 rfl) ?_
    have hz : f_X_unitOfProduct u v = v := by unfold f_X_unitOfProduct; rw [if_pos c_1]
    exact W.iret hx hb hr (fun t ht _ => ⟨by rw [hz], ht⟩) (fun _ h => by cases h) d_X_unitOfProduct_13
  · skip
    refine lv_iload_n hx hb d_X_unitOfProduct_4 rfl (lv_at hl 0 rfl) ?_
    refine lv_iload_n hx hb d_X_unitOfProduct_5 rfl (lv_at hl 1 rfl) ?_
    refine W.callV (W.runS (As := [.int u, .int v]) (rest := []) ⟨hx, hb, hml, hown, hg⟩ (k_X_isShareOf l u v) (q_S 2 hg wg_87 wg_85 wg_86 wg_13 rfl rfl (by decide +kernel) ⟨Nat.le_of_ble_eq_true rfl, Nat.le_of_ble_eq_true rfl⟩) ⟨nw_blind, fun _ _ _ => ⟨rfl, trivial⟩⟩ rfl rfl hl.1 rfl (lv_room (Nat.le_of_ble_eq_true rfl)) d_X_unitOfProduct_6 ⟨Nat.le_of_ble_eq_true rfl, Nat.le_of_ble_eq_true rfl⟩) ?_
    refine W.eq (g2 := F0 m 9 ls (.int (f_X_isShareOf u v) :: [])) rfl ?_
    refine lv_if_eq (tgt := 14) hx hb d_X_unitOfProduct_9 (by decide) (fun c_2 => ?_) (fun c_2 => ?_)
    · skip
      refine lv_iload_n hx hb d_X_unitOfProduct_14 rfl (lv_at hl 1 rfl) ?_
      refine lv_if_eq (tgt := 26) hx hb d_X_unitOfProduct_15 (by decide) (fun c_3 => ?_) (fun c_3 => ?_)
      · skip
        refine lv_iload_n hx hb d_X_unitOfProduct_26 rfl (lv_at hl 0 rfl) ?_
        have hz : f_X_unitOfProduct u v = u := by unfold f_X_unitOfProduct; rw [if_neg c_1, if_pos c_2, if_pos c_3]
        exact W.iret hx hb hr (fun t ht _ => ⟨by rw [hz], ht⟩) (fun _ h => by cases h) d_X_unitOfProduct_27
      · skip
        refine lv_iload_n hx hb d_X_unitOfProduct_18 rfl (lv_at hl 1 rfl) ?_
        refine lv_iload_n hx hb d_X_unitOfProduct_19 rfl (lv_at hl 0 rfl) ?_
        refine W.callV (W.runS (As := [.int v, .int u]) (rest := []) ⟨hx, hb, hml, hown, hg⟩ (k_X_isShareOf l v u) (q_S 2 hg wg_87 wg_85 wg_86 wg_13 rfl rfl (by decide +kernel) ⟨Nat.le_of_ble_eq_true rfl, Nat.le_of_ble_eq_true rfl⟩) ⟨nw_blind, fun _ _ _ => ⟨rfl, trivial⟩⟩ rfl rfl hl.1 rfl (lv_room (Nat.le_of_ble_eq_true rfl)) d_X_unitOfProduct_20 ⟨Nat.le_of_ble_eq_true rfl, Nat.le_of_ble_eq_true rfl⟩) ?_
        refine W.eq (g2 := F0 m 23 ls (.int (f_X_isShareOf v u) :: [])) rfl ?_
        refine lv_if_eq (tgt := 28) hx hb d_X_unitOfProduct_23 (by decide) (fun c_4 => ?_) (fun c_4 => ?_)
        · skip
          refine lv_iconst (v := (-1)) hx hb d_X_unitOfProduct_28 (by decide) ?_
          have hz : f_X_unitOfProduct u v = (-1) := by unfold f_X_unitOfProduct; rw [if_neg c_1, if_pos c_2, if_neg c_3, if_pos c_4]
          exact W.iret hx hb hr (fun t ht _ => ⟨by rw [hz], ht⟩) (fun _ h => by cases h) d_X_unitOfProduct_29
        · skip
          refine lv_iload_n hx hb d_X_unitOfProduct_26 rfl (lv_at hl 0 rfl) ?_
          have hz : f_X_unitOfProduct u v = u := by unfold f_X_unitOfProduct; rw [if_neg c_1, if_pos c_2, if_neg c_3, if_neg c_4]
          exact W.iret hx hb hr (fun t ht _ => ⟨by rw [hz], ht⟩) (fun _ h => by cases h) d_X_unitOfProduct_27
    · skip
      refine lv_iload_n hx hb d_X_unitOfProduct_12 rfl (lv_at hl 1 rfl) ?_
      have hz : f_X_unitOfProduct u v = v := by unfold f_X_unitOfProduct; rw [if_neg c_1, if_neg c_2]
      exact W.iret hx hb hr (fun t ht _ => ⟨by rw [hz], ht⟩) (fun _ h => by cases h) d_X_unitOfProduct_13
def f_X_unitOfQuotient (u : Int32) (v : Int32) : Int32 := if u = v then 0 else if v = 0 then u else if (f_X_isShareOf v u) = 0 then (-1) else u
set_option maxHeartbeats 4000000 in
set_option maxRecDepth 100000 in
theorem k_X_unitOfQuotient (l : Launch) (u : Int32) (v : Int32) : Met l y_X_unitOfQuotient w_X_unitOfQuotient ({ frames := 1, cells := 0, slots := 0, locals := 21 }) (va_Pc [.int u, .int v] (fun _ => True)) (k2_QcV (.int (f_X_unitOfQuotient u v))) 0 0 (fun _ => False) := by
  refine Met.ofW (cc := c_X_unitOfQuotient) (maxL := 2) (ret := (Option.some Jvm.ClassFile.FieldType.int)) (by decide) rfl ?_
  intro p e s m args below meth c s₁ B hml hv
  obtain ⟨rfl, -⟩ := hv
  have hx := B.exec
  have hb := B.bytes
  have hr := B.returns
  have hts := atoms_spec (ws := w_X_unitOfQuotient) B.pre
  have hg : ∀ w ∈ WG, w.before _ s = true := fun w h => hts w (List.mem_cons_of_mem _ h)
  have hown : s.vm.findClass R_X = some m.cls := findClass_of_methodNamed B.named
  have hlocks := B.notSynchronized
  have hl := lv_entry ([.int u, .int v]) (n := 2) (Nat.le_of_ble_eq_true rfl)
  rw [lg_entry_eq]
  generalize (lg_sl ([.int u, .int v]) ++ List.replicate (2 - (lg_sl ([.int u, .int v])).length) Slot.unset).toArray = ls at hl ⊢
  have hl : lv_has ls 2 [(0, .int u), (1, .int v)] := hl
  refine lv_iload_n hx hb d_X_unitOfQuotient_0 rfl (lv_at hl 0 rfl) ?_
  refine lv_iload_n hx hb d_X_unitOfQuotient_1 rfl (lv_at hl 1 rfl) ?_
  refine lv_icmp_ne (tgt := 7) hx hb d_X_unitOfQuotient_2 (by decide) (fun c_1 => ?_) (fun c_1 => ?_)
  · skip
    refine lv_iload_n hx hb d_X_unitOfQuotient_7 rfl (lv_at hl 1 rfl) ?_
    refine lv_if_eq (tgt := 19) hx hb d_X_unitOfQuotient_8 (by decide) (fun c_2 => ?_) (fun c_2 => ?_)
    · skip
      refine lv_iload_n hx hb d_X_unitOfQuotient_19 rfl (lv_at hl 0 rfl) ?_
      have hz : f_X_unitOfQuotient u v = u := by unfold f_X_unitOfQuotient; rw [if_neg c_1, if_pos c_2]
      exact W.iret hx hb hr (fun t ht _ => ⟨by rw [hz], ht⟩) (fun _ h => by cases h) d_X_unitOfQuotient_20
    · skip
      refine lv_iload_n hx hb d_X_unitOfQuotient_11 rfl (lv_at hl 1 rfl) ?_
      refine lv_iload_n hx hb d_X_unitOfQuotient_12 rfl (lv_at hl 0 rfl) ?_
      refine W.callV (W.runS (As := [.int v, .int u]) (rest := []) ⟨hx, hb, hml, hown, hg⟩ (k_X_isShareOf l v u) (q_S 2 hg wg_87 wg_85 wg_86 wg_13 rfl rfl (by decide +kernel) ⟨Nat.le_of_ble_eq_true rfl, Nat.le_of_ble_eq_true rfl⟩) ⟨nw_blind, fun _ _ _ => ⟨rfl, trivial⟩⟩ rfl rfl hl.1 rfl (lv_room (Nat.le_of_ble_eq_true rfl)) d_X_unitOfQuotient_13 ⟨Nat.le_of_ble_eq_true rfl, Nat.le_of_ble_eq_true rfl⟩) ?_
      refine W.eq (g2 := F0 m 16 ls (.int (f_X_isShareOf v u) :: [])) rfl ?_
      refine lv_if_eq (tgt := 21) hx hb d_X_unitOfQuotient_16 (by decide) (fun c_3 => ?_) (fun c_3 => ?_)
      · skip
        refine lv_iconst (v := (-1)) hx hb d_X_unitOfQuotient_21 (by decide) ?_
        have hz : f_X_unitOfQuotient u v = (-1) := by unfold f_X_unitOfQuotient; rw [if_neg c_1, if_neg c_2, if_pos c_3]
        exact W.iret hx hb hr (fun t ht _ => ⟨by rw [hz], ht⟩) (fun _ h => by cases h) d_X_unitOfQuotient_22
      · skip
        refine lv_iload_n hx hb d_X_unitOfQuotient_19 rfl (lv_at hl 0 rfl) ?_
        have hz : f_X_unitOfQuotient u v = u := by unfold f_X_unitOfQuotient; rw [if_neg c_1, if_neg c_2, if_neg c_3]
        exact W.iret hx hb hr (fun t ht _ => ⟨by rw [hz], ht⟩) (fun _ h => by cases h) d_X_unitOfQuotient_20
  · skip
    refine lv_iconst (v := 0) hx hb d_X_unitOfQuotient_5 (by decide) ?_
    have hz : f_X_unitOfQuotient u v = 0 := by unfold f_X_unitOfQuotient; rw [if_pos c_1]
    exact W.iret hx hb hr (fun t ht _ => ⟨by rw [hz], ht⟩) (fun _ h => by cases h) d_X_unitOfQuotient_6
theorem nz_of {y : Int64} (h : 1 ≤ y) : ¬ y = 0 := fun e => by subst e; exact absurd h (by decide)
def f_X_quotientDown (x : Int64) (d : Int64) : Int64 := if 1 ≤ d then (f_JM_floorDiv x d) else 0
set_option maxHeartbeats 4000000 in
set_option maxRecDepth 100000 in
theorem k_X_quotientDown (l : Launch) (x : Int64) (d : Int64) : Met l y_X_quotientDown w_X_quotientDown ({ frames := 1, cells := 0, slots := 0, locals := 25 }) (va_Pc [.long x, .long d] (fun _ => True)) (k2_QcV (.long (f_X_quotientDown x d))) 0 0 (fun _ => False) := by
  refine Met.ofW (cc := c_X_quotientDown) (maxL := 4) (ret := (Option.some Jvm.ClassFile.FieldType.long)) (by decide) rfl ?_
  intro p e s m args below meth c s₁ B hml hv
  obtain ⟨rfl, -⟩ := hv
  have hx := B.exec
  have hb := B.bytes
  have hr := B.returns
  have hts := atoms_spec (ws := w_X_quotientDown) B.pre
  have hg : ∀ w ∈ WG, w.before _ s = true := fun w h => hts w (List.mem_cons_of_mem _ h)
  have hown : s.vm.findClass R_X = some m.cls := findClass_of_methodNamed B.named
  have hlocks := B.notSynchronized
  have hl := lv_entry ([.long x, .long d]) (n := 4) (Nat.le_of_ble_eq_true rfl)
  rw [lg_entry_eq]
  generalize (lg_sl ([.long x, .long d]) ++ List.replicate (4 - (lg_sl ([.long x, .long d])).length) Slot.unset).toArray = ls at hl ⊢
  have hl : lv_has ls 4 [(0, .long x), (2, .long d)] := hl
  refine lv_lload_n hx hb d_X_quotientDown_0 rfl (lv_at hl 1 rfl) ?_
  refine lv_lconst (v := 1) hx hb d_X_quotientDown_1 (by decide) ?_
  refine W.lcmp hx hb d_X_quotientDown_2 ?_
  refine lv_if_ge (tgt := 10) hx hb d_X_quotientDown_3 (by decide) (fun c_1 => ?_) (fun c_1 => ?_)
  · skip
    rw [lg_cmp_ge] at c_1
    refine lv_lload_n hx hb d_X_quotientDown_10 rfl (lv_at hl 0 rfl) ?_
    refine lv_lload_n hx hb d_X_quotientDown_11 rfl (lv_at hl 1 rfl) ?_
    refine W.callV (W.runS (As := [.long x, .long d]) (rest := []) ⟨hx, hb, hml, hown, hg⟩ (k_JM_floorDiv l x d (nz_of c_1)) (q_S 2 hg wg_98 wg_96 wg_97 wg_20 rfl rfl (by decide +kernel) ⟨Nat.le_of_ble_eq_true rfl, Nat.le_of_ble_eq_true rfl⟩) ⟨nw_blind, fun _ _ _ => ⟨rfl, trivial⟩⟩ rfl rfl hl.1 rfl (lv_room (Nat.le_of_ble_eq_true rfl)) d_X_quotientDown_12 ⟨Nat.le_of_ble_eq_true rfl, Nat.le_of_ble_eq_true rfl⟩) ?_
    refine W.eq (g2 := F0 m 15 ls (.long (f_JM_floorDiv x d) :: [])) rfl ?_
    have hz : f_X_quotientDown x d = f_JM_floorDiv x d := by unfold f_X_quotientDown; rw [if_pos c_1]
    exact W.lret hx hb hr (fun t ht _ => ⟨by rw [hz], ht⟩) (fun _ h => by cases h) d_X_quotientDown_15
  · skip
    rw [lg_cmp_ge] at c_1
    refine lv_lconst (v := 0) hx hb d_X_quotientDown_6 (by decide) ?_
    refine lv_goto (tgt := 15) hx hb d_X_quotientDown_7 (by decide) ?_
    have hz : f_X_quotientDown x d = 0 := by unfold f_X_quotientDown; rw [if_neg c_1]
    exact W.lret hx hb hr (fun t ht _ => ⟨by rw [hz], ht⟩) (fun _ h => by cases h) d_X_quotientDown_15
def f_X_restOf (x : Int64) (d : Int64) : Int64 := if 1 ≤ d then (f_JM_floorMod x d) else 0
set_option maxHeartbeats 4000000 in
set_option maxRecDepth 100000 in
theorem k_X_restOf (l : Launch) (x : Int64) (d : Int64) : Met l y_X_restOf w_X_restOf ({ frames := 1, cells := 0, slots := 0, locals := 25 }) (va_Pc [.long x, .long d] (fun _ => True)) (k2_QcV (.long (f_X_restOf x d))) 0 0 (fun _ => False) := by
  refine Met.ofW (cc := c_X_restOf) (maxL := 4) (ret := (Option.some Jvm.ClassFile.FieldType.long)) (by decide) rfl ?_
  intro p e s m args below meth c s₁ B hml hv
  obtain ⟨rfl, -⟩ := hv
  have hx := B.exec
  have hb := B.bytes
  have hr := B.returns
  have hts := atoms_spec (ws := w_X_restOf) B.pre
  have hg : ∀ w ∈ WG, w.before _ s = true := fun w h => hts w (List.mem_cons_of_mem _ h)
  have hown : s.vm.findClass R_X = some m.cls := findClass_of_methodNamed B.named
  have hlocks := B.notSynchronized
  have hl := lv_entry ([.long x, .long d]) (n := 4) (Nat.le_of_ble_eq_true rfl)
  rw [lg_entry_eq]
  generalize (lg_sl ([.long x, .long d]) ++ List.replicate (4 - (lg_sl ([.long x, .long d])).length) Slot.unset).toArray = ls at hl ⊢
  have hl : lv_has ls 4 [(0, .long x), (2, .long d)] := hl
  refine lv_lload_n hx hb d_X_restOf_0 rfl (lv_at hl 1 rfl) ?_
  refine lv_lconst (v := 1) hx hb d_X_restOf_1 (by decide) ?_
  refine W.lcmp hx hb d_X_restOf_2 ?_
  refine lv_if_ge (tgt := 10) hx hb d_X_restOf_3 (by decide) (fun c_1 => ?_) (fun c_1 => ?_)
  · skip
    rw [lg_cmp_ge] at c_1
    refine lv_lload_n hx hb d_X_restOf_10 rfl (lv_at hl 0 rfl) ?_
    refine lv_lload_n hx hb d_X_restOf_11 rfl (lv_at hl 1 rfl) ?_
    refine W.callV (W.runS (As := [.long x, .long d]) (rest := []) ⟨hx, hb, hml, hown, hg⟩ (k_JM_floorMod l x d (nz_of c_1)) (q_S 2 hg wg_104 wg_102 wg_103 wg_20 rfl rfl (by decide +kernel) ⟨Nat.le_of_ble_eq_true rfl, Nat.le_of_ble_eq_true rfl⟩) ⟨nw_blind, fun _ _ _ => ⟨rfl, trivial⟩⟩ rfl rfl hl.1 rfl (lv_room (Nat.le_of_ble_eq_true rfl)) d_X_restOf_12 ⟨Nat.le_of_ble_eq_true rfl, Nat.le_of_ble_eq_true rfl⟩) ?_
    refine W.eq (g2 := F0 m 15 ls (.long (f_JM_floorMod x d) :: [])) rfl ?_
    have hz : f_X_restOf x d = f_JM_floorMod x d := by unfold f_X_restOf; rw [if_pos c_1]
    exact W.lret hx hb hr (fun t ht _ => ⟨by rw [hz], ht⟩) (fun _ h => by cases h) d_X_restOf_15
  · skip
    rw [lg_cmp_ge] at c_1
    refine lv_lconst (v := 0) hx hb d_X_restOf_6 (by decide) ?_
    refine lv_goto (tgt := 15) hx hb d_X_restOf_7 (by decide) ?_
    have hz : f_X_restOf x d = 0 := by unfold f_X_restOf; rw [if_neg c_1]
    exact W.lret hx hb hr (fun t ht _ => ⟨by rw [hz], ht⟩) (fun _ h => by cases h) d_X_restOf_15
def f_X_goesUp (r : Int32) (lo : Int64) (re : Int64) (be : Int64) : Int32 := if re = 0 then 0 else if r = 1 then 1 else if r = 2 then if 0 ≤ lo then 0 else 1 else if r = 3 then if lo < 0 then 0 else 1 else if r = 4 then if (f_JL_compare (2 * re) be) < 0 then 0 else 1 else if r = 5 then if 0 < (f_JL_compare (2 * re) be) then 1 else if (f_JL_compare (2 * re) be) = 0 then if lo < 0 then 0 else 1 else 0 else if r = 6 then if 0 < (f_JL_compare (2 * re) be) then 1 else if (f_JL_compare (2 * re) be) = 0 then if (lo &&& 1) = 1 then 1 else 0 else 0 else 0
set_option maxHeartbeats 4000000 in
set_option maxRecDepth 100000 in
theorem k_X_goesUp (l : Launch) (r : Int32) (lo : Int64) (re : Int64) (be : Int64) : Met l y_X_goesUp w_X_goesUp ({ frames := 1, cells := 0, slots := 0, locals := 23 }) (va_Pc [.int r, .long lo, .long re, .long be] (fun _ => True)) (k2_QcV (.int (f_X_goesUp r lo re be))) 0 0 (fun _ => False) := by
  refine Met.ofW (cc := c_X_goesUp) (maxL := 8) (ret := (Option.some Jvm.ClassFile.FieldType.boolean)) (by decide) rfl ?_
  intro p e s m args below meth c s₁ B hml hv
  obtain ⟨rfl, -⟩ := hv
  have hx := B.exec
  have hb := B.bytes
  have hr := B.returns
  have hts := atoms_spec (ws := w_X_goesUp) B.pre
  have hg : ∀ w ∈ WG, w.before _ s = true := fun w h => hts w (List.mem_cons_of_mem _ h)
  have hown : s.vm.findClass R_X = some m.cls := findClass_of_methodNamed B.named
  have hlocks := B.notSynchronized
  have hl := lv_entry ([.int r, .long lo, .long re, .long be]) (n := 8) (Nat.le_of_ble_eq_true rfl)
  rw [lg_entry_eq]
  generalize (lg_sl ([.int r, .long lo, .long re, .long be]) ++ List.replicate (8 - (lg_sl ([.int r, .long lo, .long re, .long be])).length) Slot.unset).toArray = ls at hl ⊢
  have hl : lv_has ls 8 [(0, .int r), (1, .long lo), (3, .long re), (5, .long be)] := hl
  refine lv_lload_n hx hb d_X_goesUp_0 rfl (lv_at hl 2 rfl) ?_
  refine lv_lconst (v := 0) hx hb d_X_goesUp_1 (by decide) ?_
  refine W.lcmp hx hb d_X_goesUp_2 ?_
  refine lv_if_ne (tgt := 8) hx hb d_X_goesUp_3 (by decide) (fun c_1 => ?_) (fun c_1 => ?_)
  · skip
    rw [lg_cmp_eq] at c_1
    refine lv_ldc2 (v := 2) hx hb hown (hg _ wg_108) d_X_goesUp_8 ?_
    refine lv_lload_n hx hb d_X_goesUp_11 rfl (lv_at hl 2 rfl) ?_
    refine lv_lmul hx hb d_X_goesUp_12 ?_
    refine lv_lload hx hb d_X_goesUp_13 (lv_at hl 3 rfl) ?_
    refine W.callV (W.runS (As := [.long (2 * re), .long be]) (rest := []) ⟨hx, hb, hml, hown, hg⟩ (k_JL_compare l (2 * re) be) (q_S 2 hg wg_111 wg_109 wg_110 wg_21 rfl rfl (by decide +kernel) ⟨Nat.le_of_ble_eq_true rfl, Nat.le_of_ble_eq_true rfl⟩) ⟨nw_blind, fun _ _ _ => ⟨rfl, trivial⟩⟩ rfl rfl hl.1 rfl (lv_room (Nat.le_of_ble_eq_true rfl)) d_X_goesUp_15 ⟨Nat.le_of_ble_eq_true rfl, Nat.le_of_ble_eq_true rfl⟩) ?_
    refine W.eq (g2 := F0 m 18 ls (.int (f_JL_compare (2 * re) be) :: [])) rfl ?_
    refine lv_topi (fun v_2 ev_2 => ?_)
    refine lv_istore (lv' := [(7, .int v_2), (0, .int r), (1, .long lo), (3, .long re), (5, .long be)]) hx hb d_X_goesUp_18 hl (by decide) rfl (fun ls hl => ?_)
    refine lv_iload_n hx hb d_X_goesUp_20 rfl (lv_at hl 1 rfl) ?_
    by_cases c_3 : r = 1
    · skip
      refine lv_tableIn (off := 39) (tgt := 60) hx hb d_X_goesUp_21 (by rw [c_3]; decide) (by rw [c_3]; decide) (by rw [c_3]; rfl) (by decide) ?_
      refine lv_iconst (v := 1) hx hb d_X_goesUp_60 (by decide) ?_
      subst ev_2
      have hz : f_X_goesUp r lo re be = 1 := by unfold f_X_goesUp; rw [if_neg c_1, if_pos c_3]
      exact W.zret hx hb hr rfl (fun t ht _ => ⟨by rw [hz], ht⟩) (fun _ h => by cases h) d_X_goesUp_61
    · skip
      by_cases c_4 : r = 2
      · skip
        refine lv_tableIn (off := 41) (tgt := 62) hx hb d_X_goesUp_21 (by rw [c_4]; decide) (by rw [c_4]; decide) (by rw [c_4]; rfl) (by decide) ?_
        refine lv_lload_n hx hb d_X_goesUp_62 rfl (lv_at hl 2 rfl) ?_
        refine lv_lconst (v := 0) hx hb d_X_goesUp_63 (by decide) ?_
        refine W.lcmp hx hb d_X_goesUp_64 ?_
        refine lv_if_ge (tgt := 72) hx hb d_X_goesUp_65 (by decide) (fun c_5 => ?_) (fun c_5 => ?_)
        · skip
          rw [lg_cmp_ge] at c_5
          refine lv_iconst (v := 0) hx hb d_X_goesUp_72 (by decide) ?_
          subst ev_2
          have hz : f_X_goesUp r lo re be = 0 := by unfold f_X_goesUp; rw [if_neg c_1, if_neg c_3, if_pos c_4, if_pos c_5]
          exact W.zret hx hb hr rfl (fun t ht _ => ⟨by rw [hz], ht⟩) (fun _ h => by cases h) d_X_goesUp_73
        · skip
          rw [lg_cmp_ge] at c_5
          refine lv_iconst (v := 1) hx hb d_X_goesUp_68 (by decide) ?_
          refine lv_goto (tgt := 73) hx hb d_X_goesUp_69 (by decide) ?_
          subst ev_2
          have hz : f_X_goesUp r lo re be = 1 := by unfold f_X_goesUp; rw [if_neg c_1, if_neg c_3, if_pos c_4, if_neg c_5]
          exact W.zret hx hb hr rfl (fun t ht _ => ⟨by rw [hz], ht⟩) (fun _ h => by cases h) d_X_goesUp_73
      · skip
        by_cases c_6 : r = 3
        · skip
          refine lv_tableIn (off := 53) (tgt := 74) hx hb d_X_goesUp_21 (by rw [c_6]; decide) (by rw [c_6]; decide) (by rw [c_6]; rfl) (by decide) ?_
          refine lv_lload_n hx hb d_X_goesUp_74 rfl (lv_at hl 2 rfl) ?_
          refine lv_lconst (v := 0) hx hb d_X_goesUp_75 (by decide) ?_
          refine W.lcmp hx hb d_X_goesUp_76 ?_
          refine lv_if_lt (tgt := 84) hx hb d_X_goesUp_77 (by decide) (fun c_7 => ?_) (fun c_7 => ?_)
          · skip
            rw [lg_cmp_lt] at c_7
            refine lv_iconst (v := 0) hx hb d_X_goesUp_84 (by decide) ?_
            subst ev_2
            have hz : f_X_goesUp r lo re be = 0 := by unfold f_X_goesUp; rw [if_neg c_1, if_neg c_3, if_neg c_4, if_pos c_6, if_pos c_7]
            exact W.zret hx hb hr rfl (fun t ht _ => ⟨by rw [hz], ht⟩) (fun _ h => by cases h) d_X_goesUp_85
          · skip
            rw [lg_cmp_lt] at c_7
            refine lv_iconst (v := 1) hx hb d_X_goesUp_80 (by decide) ?_
            refine lv_goto (tgt := 85) hx hb d_X_goesUp_81 (by decide) ?_
            subst ev_2
            have hz : f_X_goesUp r lo re be = 1 := by unfold f_X_goesUp; rw [if_neg c_1, if_neg c_3, if_neg c_4, if_pos c_6, if_neg c_7]
            exact W.zret hx hb hr rfl (fun t ht _ => ⟨by rw [hz], ht⟩) (fun _ h => by cases h) d_X_goesUp_85
        · skip
          by_cases c_8 : r = 4
          · skip
            refine lv_tableIn (off := 65) (tgt := 86) hx hb d_X_goesUp_21 (by rw [c_8]; decide) (by rw [c_8]; decide) (by rw [c_8]; rfl) (by decide) ?_
            refine lv_iload hx hb d_X_goesUp_86 (lv_at hl 0 rfl) ?_
            refine lv_if_lt (tgt := 95) hx hb d_X_goesUp_88 (by decide) (fun c_9 => ?_) (fun c_9 => ?_)
            · skip
              refine lv_iconst (v := 0) hx hb d_X_goesUp_95 (by decide) ?_
              subst ev_2
              have hz : f_X_goesUp r lo re be = 0 := by unfold f_X_goesUp; rw [if_neg c_1, if_neg c_3, if_neg c_4, if_neg c_6, if_pos c_8, if_pos c_9]
              exact W.zret hx hb hr rfl (fun t ht _ => ⟨by rw [hz], ht⟩) (fun _ h => by cases h) d_X_goesUp_96
            · skip
              refine lv_iconst (v := 1) hx hb d_X_goesUp_91 (by decide) ?_
              refine lv_goto (tgt := 96) hx hb d_X_goesUp_92 (by decide) ?_
              subst ev_2
              have hz : f_X_goesUp r lo re be = 1 := by unfold f_X_goesUp; rw [if_neg c_1, if_neg c_3, if_neg c_4, if_neg c_6, if_pos c_8, if_neg c_9]
              exact W.zret hx hb hr rfl (fun t ht _ => ⟨by rw [hz], ht⟩) (fun _ h => by cases h) d_X_goesUp_96
          · skip
            by_cases c_10 : r = 5
            · skip
              refine lv_tableIn (off := 76) (tgt := 97) hx hb d_X_goesUp_21 (by rw [c_10]; decide) (by rw [c_10]; decide) (by rw [c_10]; rfl) (by decide) ?_
              refine lv_iload hx hb d_X_goesUp_97 (lv_at hl 0 rfl) ?_
              refine lv_if_gt (tgt := 113) hx hb d_X_goesUp_99 (by decide) (fun c_11 => ?_) (fun c_11 => ?_)
              · skip
                refine lv_iconst (v := 1) hx hb d_X_goesUp_113 (by decide) ?_
                refine lv_goto (tgt := 118) hx hb d_X_goesUp_114 (by decide) ?_
                subst ev_2
                have hz : f_X_goesUp r lo re be = 1 := by unfold f_X_goesUp; rw [if_neg c_1, if_neg c_3, if_neg c_4, if_neg c_6, if_neg c_8, if_pos c_10, if_pos c_11]
                exact W.zret hx hb hr rfl (fun t ht _ => ⟨by rw [hz], ht⟩) (fun _ h => by cases h) d_X_goesUp_118
              · skip
                refine lv_iload hx hb d_X_goesUp_102 (lv_at hl 0 rfl) ?_
                refine lv_if_ne (tgt := 117) hx hb d_X_goesUp_104 (by decide) (fun c_12 => ?_) (fun c_12 => ?_)
                · skip
                  refine lv_iconst (v := 0) hx hb d_X_goesUp_117 (by decide) ?_
                  subst ev_2
                  have hz : f_X_goesUp r lo re be = 0 := by unfold f_X_goesUp; rw [if_neg c_1, if_neg c_3, if_neg c_4, if_neg c_6, if_neg c_8, if_pos c_10, if_neg c_11, if_neg c_12]
                  exact W.zret hx hb hr rfl (fun t ht _ => ⟨by rw [hz], ht⟩) (fun _ h => by cases h) d_X_goesUp_118
                · skip
                  refine lv_lload_n hx hb d_X_goesUp_107 rfl (lv_at hl 2 rfl) ?_
                  refine lv_lconst (v := 0) hx hb d_X_goesUp_108 (by decide) ?_
                  refine W.lcmp hx hb d_X_goesUp_109 ?_
                  refine lv_if_lt (tgt := 117) hx hb d_X_goesUp_110 (by decide) (fun c_13 => ?_) (fun c_13 => ?_)
                  · skip
                    rw [lg_cmp_lt] at c_13
                    refine lv_iconst (v := 0) hx hb d_X_goesUp_117 (by decide) ?_
                    subst ev_2
                    have hz : f_X_goesUp r lo re be = 0 := by unfold f_X_goesUp; rw [if_neg c_1, if_neg c_3, if_neg c_4, if_neg c_6, if_neg c_8, if_pos c_10, if_neg c_11, if_pos c_12, if_pos c_13]
                    exact W.zret hx hb hr rfl (fun t ht _ => ⟨by rw [hz], ht⟩) (fun _ h => by cases h) d_X_goesUp_118
                  · skip
                    rw [lg_cmp_lt] at c_13
                    refine lv_iconst (v := 1) hx hb d_X_goesUp_113 (by decide) ?_
                    refine lv_goto (tgt := 118) hx hb d_X_goesUp_114 (by decide) ?_
                    subst ev_2
                    have hz : f_X_goesUp r lo re be = 1 := by unfold f_X_goesUp; rw [if_neg c_1, if_neg c_3, if_neg c_4, if_neg c_6, if_neg c_8, if_pos c_10, if_neg c_11, if_pos c_12, if_neg c_13]
                    exact W.zret hx hb hr rfl (fun t ht _ => ⟨by rw [hz], ht⟩) (fun _ h => by cases h) d_X_goesUp_118
            · skip
              by_cases c_14 : r = 6
              · skip
                refine lv_tableIn (off := 98) (tgt := 119) hx hb d_X_goesUp_21 (by rw [c_14]; decide) (by rw [c_14]; decide) (by rw [c_14]; rfl) (by decide) ?_
                refine lv_iload hx hb d_X_goesUp_119 (lv_at hl 0 rfl) ?_
                refine lv_if_gt (tgt := 137) hx hb d_X_goesUp_121 (by decide) (fun c_15 => ?_) (fun c_15 => ?_)
                · skip
                  refine lv_iconst (v := 1) hx hb d_X_goesUp_137 (by decide) ?_
                  refine lv_goto (tgt := 142) hx hb d_X_goesUp_138 (by decide) ?_
                  subst ev_2
                  have hz : f_X_goesUp r lo re be = 1 := by unfold f_X_goesUp; rw [if_neg c_1, if_neg c_3, if_neg c_4, if_neg c_6, if_neg c_8, if_neg c_10, if_pos c_14, if_pos c_15]
                  exact W.zret hx hb hr rfl (fun t ht _ => ⟨by rw [hz], ht⟩) (fun _ h => by cases h) d_X_goesUp_142
                · skip
                  refine lv_iload hx hb d_X_goesUp_124 (lv_at hl 0 rfl) ?_
                  refine lv_if_ne (tgt := 141) hx hb d_X_goesUp_126 (by decide) (fun c_16 => ?_) (fun c_16 => ?_)
                  · skip
                    refine lv_iconst (v := 0) hx hb d_X_goesUp_141 (by decide) ?_
                    subst ev_2
                    have hz : f_X_goesUp r lo re be = 0 := by unfold f_X_goesUp; rw [if_neg c_1, if_neg c_3, if_neg c_4, if_neg c_6, if_neg c_8, if_neg c_10, if_pos c_14, if_neg c_15, if_neg c_16]
                    exact W.zret hx hb hr rfl (fun t ht _ => ⟨by rw [hz], ht⟩) (fun _ h => by cases h) d_X_goesUp_142
                  · skip
                    refine lv_lload_n hx hb d_X_goesUp_129 rfl (lv_at hl 2 rfl) ?_
                    refine lv_lconst (v := 1) hx hb d_X_goesUp_130 (by decide) ?_
                    refine lv_land hx hb d_X_goesUp_131 ?_
                    refine lv_lconst (v := 1) hx hb d_X_goesUp_132 (by decide) ?_
                    refine W.lcmp hx hb d_X_goesUp_133 ?_
                    refine lv_if_ne (tgt := 141) hx hb d_X_goesUp_134 (by decide) (fun c_17 => ?_) (fun c_17 => ?_)
                    · skip
                      rw [lg_cmp_eq] at c_17
                      refine lv_iconst (v := 0) hx hb d_X_goesUp_141 (by decide) ?_
                      subst ev_2
                      have hz : f_X_goesUp r lo re be = 0 := by unfold f_X_goesUp; rw [if_neg c_1, if_neg c_3, if_neg c_4, if_neg c_6, if_neg c_8, if_neg c_10, if_pos c_14, if_neg c_15, if_pos c_16, if_neg c_17]
                      exact W.zret hx hb hr rfl (fun t ht _ => ⟨by rw [hz], ht⟩) (fun _ h => by cases h) d_X_goesUp_142
                    · skip
                      rw [lg_cmp_eq] at c_17
                      refine lv_iconst (v := 1) hx hb d_X_goesUp_137 (by decide) ?_
                      refine lv_goto (tgt := 142) hx hb d_X_goesUp_138 (by decide) ?_
                      subst ev_2
                      have hz : f_X_goesUp r lo re be = 1 := by unfold f_X_goesUp; rw [if_neg c_1, if_neg c_3, if_neg c_4, if_neg c_6, if_neg c_8, if_neg c_10, if_pos c_14, if_neg c_15, if_pos c_16, if_pos c_17]
                      exact W.zret hx hb hr rfl (fun t ht _ => ⟨by rw [hz], ht⟩) (fun _ h => by cases h) d_X_goesUp_142
              · skip
                refine lv_tableOut (tgt := 143) hx hb d_X_goesUp_21 (by have n0 := lv_neT (a := 1) c_3 rfl; have n1 := lv_neT (a := 2) c_4 rfl; have n2 := lv_neT (a := 3) c_6 rfl; have n3 := lv_neT (a := 4) c_8 rfl; have n4 := lv_neT (a := 5) c_10 rfl; have n5 := lv_neT (a := 6) c_14 rfl; omega) (by decide) ?_
                refine lv_iconst (v := 0) hx hb d_X_goesUp_143 (by decide) ?_
                subst ev_2
                have hz : f_X_goesUp r lo re be = 0 := by unfold f_X_goesUp; rw [if_neg c_1, if_neg c_3, if_neg c_4, if_neg c_6, if_neg c_8, if_neg c_10, if_neg c_14]
                exact W.zret hx hb hr rfl (fun t ht _ => ⟨by rw [hz], ht⟩) (fun _ h => by cases h) d_X_goesUp_144
  · skip
    rw [lg_cmp_eq] at c_1
    refine lv_iconst (v := 0) hx hb d_X_goesUp_6 (by decide) ?_
    have hz : f_X_goesUp r lo re be = 0 := by unfold f_X_goesUp; rw [if_pos c_1]
    exact W.zret hx hb hr rfl (fun t ht _ => ⟨by rw [hz], ht⟩) (fun _ h => by cases h) d_X_goesUp_7
