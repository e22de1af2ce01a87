def f_X_order (ab be : Nat → Int64) (un : Nat → Int32) (n a b : Int32) : Int32 := if (f_X_isAmount a n) = 0 then (-3) else if (f_X_isAmount b n) = 0 then (-3) else if (un a.toNatClampNeg) = (un b.toNatClampNeg) then if ((ab b.toNatClampNeg) * (be a.toNatClampNeg)) ≤ ((ab a.toNatClampNeg) * (be b.toNatClampNeg)) then if ((ab a.toNatClampNeg) * (be b.toNatClampNeg)) ≤ ((ab b.toNatClampNeg) * (be a.toNatClampNeg)) then 0 else 1 else (-1) else 2
set_option maxHeartbeats 4000000 in
set_option maxRecDepth 100000 in
theorem k_X_order (l : Launch) (dC : Nat → ClassId) (dI : Nat → Nat → Nat) (cJ cI cT : ClassId) (h a1 a2 a3 a4 a5 : Nat) (n k : Int32) (ab be : Nat → Int64) (un : Nat → Int32) (a b : Int32) (hn : n.toInt ≤ (500 : Nat)) : Met l y_X_order w_X_order ({ frames := 1, cells := 0, slots := 0, locals := 21 }) (va_Pc [.ref h, .int a, .int b] (wd dC dI cJ cI cT [(h, .inr (1, [.ref a1, .ref a2, .ref a3, .int n, .ref a4, .int k, .ref a5])), (a1, .inl (cJ, 500, .inr (.inl ab))), (a2, .inl (cJ, 500, .inr (.inl be))), (a3, .inl (cI, 500, .inl un))])) (k2_QcV (.int (f_X_order ab be un n a b))) 0 0 (fun _ => False) := by
  refine Met.ofW (cc := c_X_order) (maxL := 7) (ret := (Option.some Jvm.ClassFile.FieldType.int)) (by decide) rfl ?_
  intro p e s m args below meth c s₁ B hml hv
  obtain ⟨rfl, hP, hK⟩ := hv
  have hx := B.exec
  have hb := B.bytes
  have hr := B.returns
  have hts := atoms_spec (ws := w_X_order) B.pre
  have hg : ∀ w ∈ WG, w.before _ s = true := fun w h => hts w (List.mem_cons_of_mem _ h)
  have hown : s.vm.findClass R_X = some m.cls := findClass_of_methodNamed B.named
  have hlocks := B.notSynchronized
  have hl := lv_entry ([.ref h, .int a, .int b]) (n := 7) (Nat.le_of_ble_eq_true rfl)
  rw [lg_entry_eq]
  generalize (lg_sl ([.ref h, .int a, .int b]) ++ List.replicate (7 - (lg_sl ([.ref h, .int a, .int b])).length) Slot.unset).toArray = ls at hl ⊢
  have hl : lv_has ls 7 [(0, .ref h), (1, .int a), (2, .int b)] := hl
  have hP : va_P (dC, dI) classes [(h, .inr (1, [.ref a1, .ref a2, .ref a3, .int n, .ref a4, .int k, .ref a5])), (a1, .inl (cJ, 500, .inr (.inl ab))), (a2, .inl (cJ, 500, .inr (.inl be))), (a3, .inl (cI, 500, .inl un))] s.heap := hP
  refine lv_aload_n hx hb d_X_order_0 rfl (lv_at hl 0 rfl) ?_
  refine lv_iload_n hx hb d_X_order_1 rfl (lv_at hl 1 rfl) ?_
  have hPc := hP.sub (ws' := [(h, .inr (1, [.ref a1, .ref a2, .ref a3, .int n, .ref a4, .int k, .ref a5]))]) [0] rfl
  refine W.callV (W.runV (As := [.int a]) (rest := []) ⟨hx, hb, hml, hown, hg⟩ (k_X_isAmount l dC dI cJ cI cT h a1 a2 a3 a4 a5 n k a) (q_V 1 hg wg_66 wg_64 wg_65 wg_0 wg_13 rfl rfl (by decide +kernel) ⟨Nat.le_of_ble_eq_true rfl, Nat.le_of_ble_eq_true rfl⟩) ⟨wd_blind, va_recv hK hPc (ci := 1) (q0 := 0) rfl rfl, wd_pre (as := .ref h :: [.int a]) hPc hK⟩ rfl rfl hl.1 rfl (lv_room (Nat.le_of_ble_eq_true rfl)) d_X_order_2 ⟨Nat.le_of_ble_eq_true rfl, Nat.le_of_ble_eq_true rfl⟩) ?_
  refine W.eq (g2 := F0 m 5 ls (.int (f_X_isAmount a n) :: [])) rfl ?_
  refine lv_if_eq (tgt := 16) hx hb d_X_order_5 (by decide) (fun c_1 => ?_) (fun c_1 => ?_)
  · skip
    refine lv_bipush (v := (-3)) hx hb d_X_order_16 (by decide) ?_
    have hz : f_X_order ab be un n a b = (-3) := by unfold f_X_order; rw [if_pos c_1]
    exact W.iret hx hb hr (fun t ht _ => ⟨by rw [hz], ht⟩) (fun _ h => by cases h) d_X_order_18
  · skip
    refine lv_aload_n hx hb d_X_order_8 rfl (lv_at hl 0 rfl) ?_
    refine lv_iload_n hx hb d_X_order_9 rfl (lv_at hl 2 rfl) ?_
    have hPc := hP.sub (ws' := [(h, .inr (1, [.ref a1, .ref a2, .ref a3, .int n, .ref a4, .int k, .ref a5]))]) [0] rfl
    refine W.callV (W.runV (As := [.int b]) (rest := []) ⟨hx, hb, hml, hown, hg⟩ (k_X_isAmount l dC dI cJ cI cT h a1 a2 a3 a4 a5 n k b) (q_V 1 hg wg_66 wg_64 wg_65 wg_0 wg_13 rfl rfl (by decide +kernel) ⟨Nat.le_of_ble_eq_true rfl, Nat.le_of_ble_eq_true rfl⟩) ⟨wd_blind, va_recv hK hPc (ci := 1) (q0 := 0) rfl rfl, wd_pre (as := .ref h :: [.int b]) hPc hK⟩ rfl rfl hl.1 rfl (lv_room (Nat.le_of_ble_eq_true rfl)) d_X_order_10 ⟨Nat.le_of_ble_eq_true rfl, Nat.le_of_ble_eq_true rfl⟩) ?_
    refine W.eq (g2 := F0 m 13 ls (.int (f_X_isAmount b n) :: [])) rfl ?_
    refine lv_if_ne (tgt := 19) hx hb d_X_order_13 (by decide) (fun c_2 => ?_) (fun c_2 => ?_)
    · skip
      refine lv_aload_n hx hb d_X_order_19 rfl (lv_at hl 0 rfl) ?_
      refine va_get (D := (dC, dI)) (ci := 1) (v := .ref a3) (C := R_X) (T := F_X) (N := 7) hx hb hg in_X hown hK hP 0 rfl rfl 2 (by decide) (hg _ wg_48) (fun _ h9 => h9) rfl d_X_order_20 ?_
      refine lv_iload_n hx hb d_X_order_23 rfl (lv_at hl 1 rfl) ?_
      refine va_iald hx hb hK hP 3 1 rfl rfl (am_in c_1 hn) d_X_order_24 ?_
      refine lv_aload_n hx hb d_X_order_25 rfl (lv_at hl 0 rfl) ?_
      refine va_get (D := (dC, dI)) (ci := 1) (v := .ref a3) (C := R_X) (T := F_X) (N := 7) hx hb hg in_X hown hK hP 0 rfl rfl 2 (by decide) (hg _ wg_48) (fun _ h9 => h9) rfl d_X_order_26 ?_
      refine lv_iload_n hx hb d_X_order_29 rfl (lv_at hl 2 rfl) ?_
      refine va_iald hx hb hK hP 3 1 rfl rfl (am_in c_2 hn) d_X_order_30 ?_
      refine lv_icmp_eq (tgt := 36) hx hb d_X_order_31 (by decide) (fun c_3 => ?_) (fun c_3 => ?_)
      · skip
        refine lv_aload_n hx hb d_X_order_36 rfl (lv_at hl 0 rfl) ?_
        refine va_get (D := (dC, dI)) (ci := 1) (v := .ref a1) (C := R_X) (T := F_X) (N := 7) hx hb hg in_X hown hK hP 0 rfl rfl 0 (by decide) (hg _ wg_46) (fun _ h9 => h9) rfl d_X_order_37 ?_
        refine lv_iload_n hx hb d_X_order_40 rfl (lv_at hl 1 rfl) ?_
        refine va_lald hx hb hK hP 1 0 rfl rfl (am_in c_1 hn) d_X_order_41 ?_
        refine lv_aload_n hx hb d_X_order_42 rfl (lv_at hl 0 rfl) ?_
        refine va_get (D := (dC, dI)) (ci := 1) (v := .ref a2) (C := R_X) (T := F_X) (N := 7) hx hb hg in_X hown hK hP 0 rfl rfl 1 (by decide) (hg _ wg_47) (fun _ h9 => h9) rfl d_X_order_43 ?_
        refine lv_iload_n hx hb d_X_order_46 rfl (lv_at hl 2 rfl) ?_
        refine va_lald hx hb hK hP 2 0 rfl rfl (am_in c_2 hn) d_X_order_47 ?_
        refine lv_lmul hx hb d_X_order_48 ?_
        refine lv_topl (fun v_4 ev_4 => ?_)
        refine lv_lstore_n (lv' := [(3, .long v_4), (0, .ref h), (1, .int a), (2, .int b)]) hx hb d_X_order_49 rfl hl (by decide) rfl (fun ls hl => ?_)
        refine lv_aload_n hx hb d_X_order_50 rfl (lv_at hl 1 rfl) ?_
        refine va_get (D := (dC, dI)) (ci := 1) (v := .ref a1) (C := R_X) (T := F_X) (N := 7) hx hb hg in_X hown hK hP 0 rfl rfl 0 (by decide) (hg _ wg_46) (fun _ h9 => h9) rfl d_X_order_51 ?_
        refine lv_iload_n hx hb d_X_order_54 rfl (lv_at hl 3 rfl) ?_
        refine va_lald hx hb hK hP 1 0 rfl rfl (am_in c_2 hn) d_X_order_55 ?_
        refine lv_aload_n hx hb d_X_order_56 rfl (lv_at hl 1 rfl) ?_
        refine va_get (D := (dC, dI)) (ci := 1) (v := .ref a2) (C := R_X) (T := F_X) (N := 7) hx hb hg in_X hown hK hP 0 rfl rfl 1 (by decide) (hg _ wg_47) (fun _ h9 => h9) rfl d_X_order_57 ?_
        refine lv_iload_n hx hb d_X_order_60 rfl (lv_at hl 2 rfl) ?_
        refine va_lald hx hb hK hP 2 0 rfl rfl (am_in c_1 hn) d_X_order_61 ?_
        refine lv_lmul hx hb d_X_order_62 ?_
        refine lv_topl (fun v_5 ev_5 => ?_)
        refine lv_lstore (lv' := [(5, .long v_5), (3, .long v_4), (0, .ref h), (1, .int a), (2, .int b)]) hx hb d_X_order_63 hl (by decide) rfl (fun ls hl => ?_)
        refine lv_lload_n hx hb d_X_order_65 rfl (lv_at hl 1 rfl) ?_
        refine lv_lload hx hb d_X_order_66 (lv_at hl 0 rfl) ?_
        refine W.lcmp hx hb d_X_order_68 ?_
        refine lv_if_ge (tgt := 76) hx hb d_X_order_69 (by decide) (fun c_6 => ?_) (fun c_6 => ?_)
        · skip
          rw [lg_cmp_ge] at c_6
          refine lv_lload_n hx hb d_X_order_76 rfl (lv_at hl 1 rfl) ?_
          refine lv_lload hx hb d_X_order_77 (lv_at hl 0 rfl) ?_
          refine W.lcmp hx hb d_X_order_79 ?_
          refine lv_if_le (tgt := 87) hx hb d_X_order_80 (by decide) (fun c_7 => ?_) (fun c_7 => ?_)
          · skip
            rw [lg_cmp_le] at c_7
            refine lv_iconst (v := 0) hx hb d_X_order_87 (by decide) ?_
            subst ev_5
            subst ev_4
            have hz : f_X_order ab be un n a b = 0 := by unfold f_X_order; rw [if_neg c_1, if_neg c_2, if_pos c_3, if_pos c_6, if_pos c_7]
            exact W.iret hx hb hr (fun t ht _ => ⟨by rw [hz], ht⟩) (fun _ h => by cases h) d_X_order_88
          · skip
            rw [lg_cmp_le] at c_7
            refine lv_iconst (v := 1) hx hb d_X_order_83 (by decide) ?_
            refine lv_goto (tgt := 88) hx hb d_X_order_84 (by decide) ?_
            subst ev_5
            subst ev_4
            have hz : f_X_order ab be un n a b = 1 := by unfold f_X_order; rw [if_neg c_1, if_neg c_2, if_pos c_3, if_pos c_6, if_neg c_7]
            exact W.iret hx hb hr (fun t ht _ => ⟨by rw [hz], ht⟩) (fun _ h => by cases h) d_X_order_88
        · skip
          rw [lg_cmp_ge] at c_6
          refine lv_iconst (v := (-1)) hx hb d_X_order_72 (by decide) ?_
          refine lv_goto (tgt := 88) hx hb d_X_order_73 (by decide) ?_
          subst ev_5
          subst ev_4
          have hz : f_X_order ab be un n a b = (-1) := by unfold f_X_order; rw [if_neg c_1, if_neg c_2, if_pos c_3, if_neg c_6]
          exact W.iret hx hb hr (fun t ht _ => ⟨by rw [hz], ht⟩) (fun _ h => by cases h) d_X_order_88
      · skip
        refine lv_iconst (v := 2) hx hb d_X_order_34 (by decide) ?_
        have hz : f_X_order ab be un n a b = 2 := by unfold f_X_order; rw [if_neg c_1, if_neg c_2, if_neg c_3]
        exact W.iret hx hb hr (fun t ht _ => ⟨by rw [hz], ht⟩) (fun _ h => by cases h) d_X_order_35
    · skip
      refine lv_bipush (v := (-3)) hx hb d_X_order_16 (by decide) ?_
      have hz : f_X_order ab be un n a b = (-3) := by unfold f_X_order; rw [if_neg c_1, if_pos c_2]
      exact W.iret hx hb hr (fun t ht _ => ⟨by rw [hz], ht⟩) (fun _ h => by cases h) d_X_order_18
def f_X_weight (we : Nat → Int64) (k : Int32) (w : Int64) : Int32 × (Nat → Int64) × Int32 := if w < 0 then (0, (we, k)) else if 1000000 < w then (0, (we, k)) else if k < 16 then (1, (vp_updL we k.toNatClampNeg w, (k + 1))) else (0, (we, k))
set_option maxHeartbeats 4000000 in
set_option maxRecDepth 100000 in
theorem k_X_weight (l : Launch) (dC : Nat → ClassId) (dI : Nat → Nat → Nat) (cJ cI cT : ClassId) (h a1 a2 a3 a4 a5 : Nat) (n k : Int32) (we : Nat → Int64) (w : Int64) (sz : Nat) (hk0 : 0 ≤ k.toInt) : Met l y_X_weight w_X_weight ({ frames := 0, cells := 0, slots := 0, locals := 0 }) (va_Pc [.ref h, .long w] (wx dC dI cJ cI cT sz [(h, .inr (1, [.ref a1, .ref a2, .ref a3, .int n, .ref a4, .int k, .ref a5])), (a4, .inl (cJ, 16, .inr (.inl we)))])) (va_Qi (fun (r9 : Int32) (u9 : (Nat → Int64) × Int32) => (r9, u9) = f_X_weight we k w) (fun u => wb dC dI cJ cI cT (va_A [(h, .inr (1, [.ref a1, .ref a2, .ref a3, .int n, .ref a4, .int k, .ref a5])), (a4, .inl (cJ, 16, .inr (.inl we)))] sz) [(h, .inr (1, [.ref a1, .ref a2, .ref a3, .int n, .ref a4, .int u.2, .ref a5])), (a4, .inl (cJ, 16, .inr (.inl u.1)))]) (va_A [(h, .inr (1, [.ref a1, .ref a2, .ref a3, .int n, .ref a4, .int k, .ref a5])), (a4, .inl (cJ, 16, .inr (.inl we)))] sz)) 0 0 (va_A [(h, .inr (1, [.ref a1, .ref a2, .ref a3, .int n, .ref a4, .int k, .ref a5])), (a4, .inl (cJ, 16, .inr (.inl we)))] sz) := by
  refine Met.ofW (cc := c_X_weight) (maxL := 3) (ret := (Option.some Jvm.ClassFile.FieldType.boolean)) (by decide) rfl ?_
  intro p e s m args below meth c s₁ B hml hv
  obtain ⟨rfl, hsz, hP, hK, hD0⟩ := hv
  have hx := B.exec
  have hb := B.bytes
  have hr := B.returns
  have hts := atoms_spec (ws := w_X_weight) B.pre
  have hg : ∀ w ∈ WG, w.before _ s = true := fun w h => hts w (List.mem_cons_of_mem _ h)
  have hown : s.vm.findClass R_X = some m.cls := findClass_of_methodNamed B.named
  have hlocks := B.notSynchronized
  have hl := lv_entry ([.ref h, .long w]) (n := 3) (Nat.le_of_ble_eq_true rfl)
  rw [lg_entry_eq]
  generalize (lg_sl ([.ref h, .long w]) ++ List.replicate (3 - (lg_sl ([.ref h, .long w])).length) Slot.unset).toArray = ls at hl ⊢
  have hl : lv_has ls 3 [(0, .ref h), (1, .long w)] := hl
  subst hsz
  have hD := hD0.self (sz := s.heap.size)
  generalize hAe : va_A [(h, .inr (1, [.ref a1, .ref a2, .ref a3, .int n, .ref a4, .int k, .ref a5])), (a4, .inl (cJ, 16, .inr (.inl we)))] s.heap.size = A at hD ⊢
  have hA : ∀ q : Nat, s.heap.size ≤ q → A q := fun q h => by rw [← hAe]; exact Or.inr h
  have hS : va_S A s.heap s.heap [] := va_S.rf
  have hP : va_P (dC, dI) classes [(h, .inr (1, [.ref a1, .ref a2, .ref a3, .int n, .ref a4, .int k, .ref a5])), (a4, .inl (cJ, 16, .inr (.inl we)))] s.heap := hP
  have hD : va_D A [(h, .inr (1, [.ref a1, .ref a2, .ref a3, .int n, .ref a4, .int k, .ref a5])), (a4, .inl (cJ, 16, .inr (.inl we)))] := hD
  skip
  refine lv_lload_n hx hb d_X_weight_0 rfl (lv_at hl 1 rfl) ?_
  refine lv_lconst (v := 0) hx hb d_X_weight_1 (by decide) ?_
  refine W.lcmp hx hb d_X_weight_2 ?_
  refine lv_if_lt (tgt := 23) hx hb d_X_weight_3 (by decide) (fun c_1 => ?_) (fun c_1 => ?_)
  · skip
    rw [lg_cmp_lt] at c_1
    refine lv_iconst (v := 0) hx hb d_X_weight_23 (by decide) ?_
    have hP9 := hP.sub (ws' := [(h, .inr (1, [.ref a1, .ref a2, .ref a3, .int n, .ref a4, .int k, .ref a5])), (a4, .inl (cJ, 16, .inr (.inl we)))]) [0, 1] rfl
    have hD9 := hD.sub (ws' := [(h, .inr (1, [.ref a1, .ref a2, .ref a3, .int n, .ref a4, .int k, .ref a5])), (a4, .inl (cJ, 16, .inr (.inl we)))]) [0, 1] (by decide) rfl
    have hz : (0, (we, k)) = f_X_weight we k w := by unfold f_X_weight; rw [if_pos c_1]
    exact W.zret (v := 0) hx hb hr rfl (fun t ht hW => ⟨⟨0, (we, k), rfl, hz, wb_of ht hW hP9 hK hD9⟩, hS.F ht⟩) hS.2.2 d_X_weight_24
  · skip
    rw [lg_cmp_lt] at c_1
    refine lv_lload_n hx hb d_X_weight_6 rfl (lv_at hl 1 rfl) ?_
    refine lv_ldc2 (v := 1000000) hx hb hown (hg _ wg_146) d_X_weight_7 ?_
    refine W.lcmp hx hb d_X_weight_10 ?_
    refine lv_if_gt (tgt := 23) hx hb d_X_weight_11 (by decide) (fun c_2 => ?_) (fun c_2 => ?_)
    · skip
      rw [lg_cmp_gt] at c_2
      refine lv_iconst (v := 0) hx hb d_X_weight_23 (by decide) ?_
      have hP9 := hP.sub (ws' := [(h, .inr (1, [.ref a1, .ref a2, .ref a3, .int n, .ref a4, .int k, .ref a5])), (a4, .inl (cJ, 16, .inr (.inl we)))]) [0, 1] rfl
      have hD9 := hD.sub (ws' := [(h, .inr (1, [.ref a1, .ref a2, .ref a3, .int n, .ref a4, .int k, .ref a5])), (a4, .inl (cJ, 16, .inr (.inl we)))]) [0, 1] (by decide) rfl
      have hz : (0, (we, k)) = f_X_weight we k w := by unfold f_X_weight; rw [if_neg c_1, if_pos c_2]
      exact W.zret (v := 0) hx hb hr rfl (fun t ht hW => ⟨⟨0, (we, k), rfl, hz, wb_of ht hW hP9 hK hD9⟩, hS.F ht⟩) hS.2.2 d_X_weight_24
    · skip
      rw [lg_cmp_gt] at c_2
      refine lv_aload_n hx hb d_X_weight_14 rfl (lv_at hl 0 rfl) ?_
      refine va_get (D := (dC, dI)) (ci := 1) (v := .int k) (C := R_X) (T := F_X) (N := 7) hx hb hg in_X hown hK hP 0 rfl rfl 5 (by decide) (hg _ wg_51) (fun _ h9 => h9) rfl d_X_weight_15 ?_
      refine lv_bipush (v := 16) hx hb d_X_weight_18 (by decide) ?_
      refine lv_icmp_lt (tgt := 25) hx hb d_X_weight_20 (by decide) (fun c_3 => ?_) (fun c_3 => ?_)
      · skip
        refine lv_aload_n hx hb d_X_weight_25 rfl (lv_at hl 0 rfl) ?_
        refine va_get (D := (dC, dI)) (ci := 1) (v := .ref a4) (C := R_X) (T := F_X) (N := 7) hx hb hg in_X hown hK hP 0 rfl rfl 4 (by decide) (hg _ wg_50) (fun _ h9 => h9) rfl d_X_weight_26 ?_
        refine lv_aload_n hx hb d_X_weight_29 rfl (lv_at hl 0 rfl) ?_
        refine va_get (D := (dC, dI)) (ci := 1) (v := .int k) (C := R_X) (T := F_X) (N := 7) hx hb hg in_X hown hK hP 0 rfl rfl 5 (by decide) (hg _ wg_51) (fun _ h9 => h9) rfl d_X_weight_30 ?_
        refine lv_lload_n hx hb d_X_weight_33 rfl (lv_at hl 1 rfl) ?_
        refine va_last hx hb hK hP hD hS 1 0 rfl rfl (in_cnt hk0 c_3 (by decide)) d_X_weight_34 (fun H locs hP hD hS => ?_)
        have hP : va_P (dC, dI) classes [(h, .inr (1, [.ref a1, .ref a2, .ref a3, .int n, .ref a4, .int k, .ref a5])), (a4, .inl (cJ, 16, .inr (.inl (vp_updL we k.toNatClampNeg w))))] H := hP
        have hD : va_D A [(h, .inr (1, [.ref a1, .ref a2, .ref a3, .int n, .ref a4, .int k, .ref a5])), (a4, .inl (cJ, 16, .inr (.inl (vp_updL we k.toNatClampNeg w))))] := hD
        refine lv_aload_n hx hb d_X_weight_35 rfl (lv_at hl 0 rfl) ?_
        refine lv_dup hx hb d_X_weight_36 rfl ?_
        refine va_get (D := (dC, dI)) (ci := 1) (v := .int k) (C := R_X) (T := F_X) (N := 7) hx hb hg in_X hown hK hP 0 rfl rfl 5 (by decide) (hg _ wg_51) (fun _ h9 => h9) rfl d_X_weight_37 ?_
        refine lv_iconst (v := 1) hx hb d_X_weight_40 (by decide) ?_
        refine lv_iadd hx hb d_X_weight_41 ?_
        refine lv_topi (fun v_4 ev_4 => ?_)
        refine va_put (D := (dC, dI)) (ci := 1) (v := .int v_4) (ty := .int) (C := R_X) (T := F_X) (N := 7) hx hb hg in_X tt_X tt_X_ok nn_X hown hK hP hD hS 0 rfl rfl 5 (by decide) (hg _ wg_51) (fun _ h9 => h9) rfl (by decide +kernel) rfl rfl (Nat.le_of_ble_eq_true rfl) d_X_weight_42 (fun H locs hP hD hS => ?_)
        have hP : va_P (dC, dI) classes [(h, .inr (1, [.ref a1, .ref a2, .ref a3, .int n, .ref a4, .int v_4, .ref a5])), (a4, .inl (cJ, 16, .inr (.inl (vp_updL we k.toNatClampNeg w))))] H := hP
        have hD : va_D A [(h, .inr (1, [.ref a1, .ref a2, .ref a3, .int n, .ref a4, .int v_4, .ref a5])), (a4, .inl (cJ, 16, .inr (.inl (vp_updL we k.toNatClampNeg w))))] := hD
        refine lv_iconst (v := 1) hx hb d_X_weight_45 (by decide) ?_
        subst ev_4
        have hP9 := hP.sub (ws' := [(h, .inr (1, [.ref a1, .ref a2, .ref a3, .int n, .ref a4, .int (k + 1), .ref a5])), (a4, .inl (cJ, 16, .inr (.inl (vp_updL we k.toNatClampNeg w))))]) [0, 1] rfl
        have hD9 := hD.sub (ws' := [(h, .inr (1, [.ref a1, .ref a2, .ref a3, .int n, .ref a4, .int (k + 1), .ref a5])), (a4, .inl (cJ, 16, .inr (.inl (vp_updL we k.toNatClampNeg w))))]) [0, 1] (by decide) rfl
        have hz : (1, (vp_updL we k.toNatClampNeg w, (k + 1))) = f_X_weight we k w := by unfold f_X_weight; rw [if_neg c_1, if_neg c_2, if_pos c_3]
        exact W.zret (v := 1) hx hb hr rfl (fun t ht hW => ⟨⟨1, (vp_updL we k.toNatClampNeg w, (k + 1)), rfl, hz, wb_of ht hW hP9 hK hD9⟩, hS.F ht⟩) hS.2.2 d_X_weight_46
      · skip
        refine lv_iconst (v := 0) hx hb d_X_weight_23 (by decide) ?_
        have hP9 := hP.sub (ws' := [(h, .inr (1, [.ref a1, .ref a2, .ref a3, .int n, .ref a4, .int k, .ref a5])), (a4, .inl (cJ, 16, .inr (.inl we)))]) [0, 1] rfl
        have hD9 := hD.sub (ws' := [(h, .inr (1, [.ref a1, .ref a2, .ref a3, .int n, .ref a4, .int k, .ref a5])), (a4, .inl (cJ, 16, .inr (.inl we)))]) [0, 1] (by decide) rfl
        have hz : (0, (we, k)) = f_X_weight we k w := by unfold f_X_weight; rw [if_neg c_1, if_neg c_2, if_neg c_3]
        exact W.zret (v := 0) hx hb hr rfl (fun t ht hW => ⟨⟨0, (we, k), rfl, hz, wb_of ht hW hP9 hK hD9⟩, hS.F ht⟩) hS.2.2 d_X_weight_24
/-- the sum of n places from j on, behind x -/
def sum_L (f : Nat → Int64) : Nat → Nat → Int64 → Int64
  | 0, _, x => x
  | n + 1, j, x => sum_L f n (j + 1) (x + f j)
set_option maxHeartbeats 4000000 in
set_option maxRecDepth 100000 in
theorem lp_X_sumOfWeights {p : Program} {l : Launch} {e : Env} {R : Room} {s : State} {m : MethodId} {args : Array Value} {below : List Frame} {meth : Method} {c : Code} {H : Heap} {locs : List Loc} {cells slots : Nat} {Q : State → Prop} {dC : Nat → ClassId} {dI : Nat → Nat → Nat} {cJ cI cT : ClassId} {h a1 a2 a3 a4 a5 : Nat} {n k : Int32} {we : Nat → Int64} (hx : p.tables.exec = Jvm.exec) (hb : c.code = c_X_sumOfWeights) (hg : ∀ w ∈ WG, w.before args s = true) (hown : s.vm.findClass R_X = some m.cls) (hK : va_K (dC, dI) classes (TY cJ cI cT) s) : ∀ (q j : Nat) (x : Int64) (ls : Array Slot), va_P (dC, dI) classes [(h, .inr (1, [.ref a1, .ref a2, .ref a3, .int n, .ref a4, .int (nI (j + q)), .ref a5])), (a4, .inl (cJ, 16, .inr (.inl we)))] H → j + q ≤ 16 → lv_has ls 4 [(0, .ref h), (1, .long x), (3, .int (nI j))] → (∀ ls' : Array Slot, lv_has ls' 4 [(1, .long (sum_L we q j x))] → W p l e R s m args below meth c H locs cells slots Q (F0 m 27 ls' [])) → W p l e R s m args below meth c H locs cells slots Q (F0 m 4 ls []) := by
  intro q
  induction q with
  | zero =>
    intro j x ls hP hj hl kk
    refine lv_iload_n hx hb d_X_sumOfWeights_4 rfl (lv_at hl 2 rfl) ?_
    refine lv_aload_n hx hb d_X_sumOfWeights_5 rfl (lv_at hl 0 rfl) ?_
    refine va_get (D := (dC, dI)) (ci := 1) (v := .int (nI (j + 0))) (C := R_X) (T := F_X) (N := 7) hx hb hg in_X hown hK hP 0 rfl rfl 5 (by decide) (hg _ wg_51) (fun _ h9 => h9) rfl d_X_sumOfWeights_6 ?_
    refine lv_icmp_ge (tgt := 27) hx hb d_X_sumOfWeights_9 (by decide) (fun c_1 => ?_) (fun c_1 => ?_)
    · skip
      exact kk ls (lv_sub hl [1] rfl)
    · skip
      exact absurd (nI_le (Nat.le_refl j) (by omega)) c_1
  | succ q ih =>
    intro j x ls hP hj hl kk
    refine lv_iload_n hx hb d_X_sumOfWeights_4 rfl (lv_at hl 2 rfl) ?_
    refine lv_aload_n hx hb d_X_sumOfWeights_5 rfl (lv_at hl 0 rfl) ?_
    refine va_get (D := (dC, dI)) (ci := 1) (v := .int (nI (j + (q + 1)))) (C := R_X) (T := F_X) (N := 7) hx hb hg in_X hown hK hP 0 rfl rfl 5 (by decide) (hg _ wg_51) (fun _ h9 => h9) rfl d_X_sumOfWeights_6 ?_
    refine lv_icmp_ge (tgt := 27) hx hb d_X_sumOfWeights_9 (by decide) (fun c_1 => ?_) (fun c_1 => ?_)
    · skip
      exact absurd c_1 (nI_ge (by omega) (by omega))
    · skip
      refine lv_lload_n hx hb d_X_sumOfWeights_12 rfl (lv_at hl 1 rfl) ?_
      refine lv_aload_n hx hb d_X_sumOfWeights_13 rfl (lv_at hl 0 rfl) ?_
      refine va_get (D := (dC, dI)) (ci := 1) (v := .ref a4) (C := R_X) (T := F_X) (N := 7) hx hb hg in_X hown hK hP 0 rfl rfl 4 (by decide) (hg _ wg_50) (fun _ h9 => h9) rfl d_X_sumOfWeights_14 ?_
      refine lv_iload_n hx hb d_X_sumOfWeights_17 rfl (lv_at hl 2 rfl) ?_
      refine va_lald hx hb hK hP 1 0 rfl rfl (vp_in_nI (by omega) (by decide)) d_X_sumOfWeights_18 ?_
      refine lv_ladd hx hb d_X_sumOfWeights_19 ?_
      refine lv_topl (fun v_2 ev_2 => ?_)
      refine lv_lstore_n (lv' := [(1, .long v_2), (0, .ref h), (3, .int (nI j))]) hx hb d_X_sumOfWeights_20 rfl hl (by decide) rfl (fun ls hl => ?_)
      obtain ⟨v_3, ev_3⟩ : ∃ y : Int32, y = nI j + 1 := ⟨_, rfl⟩
      refine lv_iinc (v := v_3) (lv' := [(3, .int v_3), (1, .long v_2), (0, .ref h)]) hx hb d_X_sumOfWeights_21 hl (k := 2) rfl (by rw [ev_3]; rfl) (by decide) rfl (fun ls hl => ?_)
      refine lv_goto (tgt := 4) hx hb d_X_sumOfWeights_24 (by decide) ?_
      subst ev_3
      subst ev_2
      rw [nI_1] at hl
      rw [nI_clamp (show j < 2 ^ 31 by omega)] at hl
      have e1 : j + (q + 1) = (j + 1) + q := by omega
      rw [e1] at hP
      exact ih (j + 1) _ ls hP (by omega) (lv_sub hl [2, 1, 0] rfl) kk
def f_X_sumOfWeights (we : Nat → Int64) (k : Int32) : Int64 := sum_L we k.toNatClampNeg 0 0
set_option maxHeartbeats 4000000 in
set_option maxRecDepth 100000 in
theorem k_X_sumOfWeights (l : Launch) (dC : Nat → ClassId) (dI : Nat → Nat → Nat) (cJ cI cT : ClassId) (h a1 a2 a3 a4 a5 : Nat) (n k : Int32) (we : Nat → Int64) (hk0 : 0 ≤ k.toInt) (hk : k.toInt ≤ (16 : Nat)) : Met l y_X_sumOfWeights w_X_sumOfWeights ({ frames := 0, cells := 0, slots := 0, locals := 0 }) (va_Pc [.ref h] (wd dC dI cJ cI cT [(h, .inr (1, [.ref a1, .ref a2, .ref a3, .int n, .ref a4, .int k, .ref a5])), (a4, .inl (cJ, 16, .inr (.inl we)))])) (k2_QcV (.long (f_X_sumOfWeights we k))) 0 0 (fun _ => False) := by
  refine Met.ofW (cc := c_X_sumOfWeights) (maxL := 4) (ret := (Option.some Jvm.ClassFile.FieldType.long)) (by decide) rfl ?_
  intro p e s m args below meth c s₁ B hml hv
  obtain ⟨rfl, hP, hK⟩ := hv
  have hx := B.exec
  have hb := B.bytes
  have hr := B.returns
  have hts := atoms_spec (ws := w_X_sumOfWeights) B.pre
  have hg : ∀ w ∈ WG, w.before _ s = true := fun w h => hts w (List.mem_cons_of_mem _ h)
  have hown : s.vm.findClass R_X = some m.cls := findClass_of_methodNamed B.named
  have hlocks := B.notSynchronized
  have hl := lv_entry ([.ref h]) (n := 4) (Nat.le_of_ble_eq_true rfl)
  rw [lg_entry_eq]
  generalize (lg_sl ([.ref h]) ++ List.replicate (4 - (lg_sl ([.ref h])).length) Slot.unset).toArray = ls at hl ⊢
  have hl : lv_has ls 4 [(0, .ref h)] := hl
  have hP : va_P (dC, dI) classes [(h, .inr (1, [.ref a1, .ref a2, .ref a3, .int n, .ref a4, .int k, .ref a5])), (a4, .inl (cJ, 16, .inr (.inl we)))] s.heap := hP
  refine lv_lconst (v := 0) hx hb d_X_sumOfWeights_0 (by decide) ?_
  refine lv_lstore_n (lv' := [(1, .long 0), (0, .ref h)]) hx hb d_X_sumOfWeights_1 rfl hl (by decide) rfl (fun ls hl => ?_)
  refine lv_iconst (v := 0) hx hb d_X_sumOfWeights_2 (by decide) ?_
  refine lv_istore_n (lv' := [(3, .int 0), (1, .long 0), (0, .ref h)]) hx hb d_X_sumOfWeights_3 rfl hl (by decide) rfl (fun ls hl => ?_)
  obtain ⟨q, hq9, eq9⟩ := nI_of (x := k) (fun hh => by rw [Int32.lt_iff_toInt_lt] at hh; have e0 : (0 : Int32).toInt = 0 := rfl; omega)
  have eq2 : k.toNatClampNeg = q := by rw [eq9]; exact nI_clamp hq9
  have eq3 : k.toInt = q := by rw [eq9]; exact nI_toInt hq9
  have eq4 : k = nI (0 + q) := by rw [Nat.zero_add]; exact eq9
  refine lp_X_sumOfWeights (k := k) (we := we) hx hb hg hown hK q 0 _ ls (by rw [← eq4]; exact hP) (by omega) (lv_sub hl [2, 1, 0] rfl) (fun ls hl => ?_)
  rw [← eq2] at hl
  refine lv_lload_n hx hb d_X_sumOfWeights_27 rfl (lv_at hl 0 rfl) ?_
  have hz : f_X_sumOfWeights we k = sum_L we k.toNatClampNeg 0 0 := by unfold f_X_sumOfWeights; rfl
  exact W.lret hx hb hr (fun t ht _ => ⟨by rw [hz], ht⟩) (fun _ h => by cases h) d_X_sumOfWeights_28
