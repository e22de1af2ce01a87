def f_X_isAmount (a n : Int32) : Int32 := if a < 0 then 0 else if n ≤ a then 0 else 1
set_option maxHeartbeats 4000000 in
set_option maxRecDepth 100000 in
theorem k_X_isAmount (l : Launch) (dC : Nat → ClassId) (dI : Nat → Nat → Nat) (cJ cI cT : ClassId) (h a1 a2 a3 a4 a5 : Nat) (n k : Int32) (a : Int32) : Met l y_X_isAmount w_X_isAmount ({ frames := 0, cells := 0, slots := 0, locals := 0 }) (va_Pc [.ref h, .int a] (wd dC dI cJ cI cT [(h, .inr (1, [.ref a1, .ref a2, .ref a3, .int n, .ref a4, .int k, .ref a5]))])) (k2_QcV (.int (f_X_isAmount a n))) 0 0 (fun _ => False) := by
  refine Met.ofW (cc := c_X_isAmount) (maxL := 2) (ret := (Option.some Jvm.ClassFile.FieldType.boolean)) (by decide) rfl ?_
  intro p e s m args below meth c s₁ B hml hv
  obtain ⟨rfl, hP, hK⟩ := hv
  have hx := B.exec
  have hb := B.bytes
  have hr := B.returns
  have hts := atoms_spec (ws := w_X_isAmount) B.pre
  have hg : ∀ w ∈ WG, w.before _ s = true := fun w h => hts w (List.mem_cons_of_mem _ h)
  have hown : s.vm.findClass R_X = some m.cls := findClass_of_methodNamed B.named
  have hlocks := B.notSynchronized
  have hl := lv_entry ([.ref h, .int a]) (n := 2) (Nat.le_of_ble_eq_true rfl)
  rw [lg_entry_eq]
  generalize (lg_sl ([.ref h, .int a]) ++ List.replicate (2 - (lg_sl ([.ref h, .int a])).length) Slot.unset).toArray = ls at hl ⊢
  have hl : lv_has ls 2 [(0, .ref h), (1, .int a)] := hl
  have hP : va_P (dC, dI) classes [(h, .inr (1, [.ref a1, .ref a2, .ref a3, .int n, .ref a4, .int k, .ref a5]))] s.heap := hP
  refine lv_iload_n hx hb d_X_isAmount_0 rfl (lv_at hl 1 rfl) ?_
  refine lv_if_lt (tgt := 16) hx hb d_X_isAmount_1 (by decide) (fun c_1 => ?_) (fun c_1 => ?_)
  · skip
    refine lv_iconst (v := 0) hx hb d_X_isAmount_16 (by decide) ?_
    have hz : f_X_isAmount a n = 0 := by unfold f_X_isAmount; rw [if_pos c_1]
    exact W.zret hx hb hr rfl (fun t ht _ => ⟨by rw [hz], ht⟩) (fun _ h => by cases h) d_X_isAmount_17
  · skip
    refine lv_iload_n hx hb d_X_isAmount_4 rfl (lv_at hl 1 rfl) ?_
    refine lv_aload_n hx hb d_X_isAmount_5 rfl (lv_at hl 0 rfl) ?_
    refine va_get (D := (dC, dI)) (ci := 1) (v := .int n) (C := R_X) (T := F_X) (N := 7) hx hb hg in_X hown hK hP 0 rfl rfl 3 (by decide) (hg _ wg_49) (fun _ h9 => h9) rfl d_X_isAmount_6 ?_
    refine lv_icmp_ge (tgt := 16) hx hb d_X_isAmount_9 (by decide) (fun c_2 => ?_) (fun c_2 => ?_)
    · skip
      refine lv_iconst (v := 0) hx hb d_X_isAmount_16 (by decide) ?_
      have hz : f_X_isAmount a n = 0 := by unfold f_X_isAmount; rw [if_neg c_1, if_pos c_2]
      exact W.zret hx hb hr rfl (fun t ht _ => ⟨by rw [hz], ht⟩) (fun _ h => by cases h) d_X_isAmount_17
    · skip
      refine lv_iconst (v := 1) hx hb d_X_isAmount_12 (by decide) ?_
      refine lv_goto (tgt := 17) hx hb d_X_isAmount_13 (by decide) ?_
      have hz : f_X_isAmount a n = 1 := by unfold f_X_isAmount; rw [if_neg c_1, if_neg c_2]
      exact W.zret hx hb hr rfl (fun t ht _ => ⟨by rw [hz], ht⟩) (fun _ h => by cases h) d_X_isAmount_17
theorem am_in {a n : Int32} (c : ¬ f_X_isAmount a n = 0) (hn : n.toInt ≤ (500 : Nat)) : vp_in a 500 := by
  unfold f_X_isAmount at c
  by_cases h0 : a < 0
  · rw [if_pos h0] at c; exact absurd rfl c
  · rw [if_neg h0] at c
    by_cases h1 : n ≤ a
    · rw [if_pos h1] at c; exact absurd rfl c
    · exact in_nle h0 h1 hn
def f_X_keep (ab be : Nat → Int64) (un : Nat → Int32) (n : Int32) (x y : Int64) (z : Int32) : Int32 × (Nat → Int64) × (Nat → Int64) × (Nat → Int32) × Int32 := if (f_X_commonDivisor x y) < 1 then ((-2), (ab, be, un, n)) else if n < 500 then if 0 ≤ y then if (x / (f_X_commonDivisor x y)) < (-2147483647) then ((-2), (ab, be, un, n)) else if 2147483647 < (x / (f_X_commonDivisor x y)) then ((-2), (ab, be, un, n)) else if (y / (f_X_commonDivisor x y)) < 1 then ((-2), (ab, be, un, n)) else if (y / (f_X_commonDivisor x y)) ≤ 2147483647 then ((n + 1) - 1, (vp_updL ab n.toNatClampNeg (x / (f_X_commonDivisor x y)), vp_updL be n.toNatClampNeg (y / (f_X_commonDivisor x y)), upd un n.toNatClampNeg z, (n + 1))) else ((-2), (ab, be, un, n)) else if (x / (-(f_X_commonDivisor x y))) < (-2147483647) then ((-2), (ab, be, un, n)) else if 2147483647 < (x / (-(f_X_commonDivisor x y))) then ((-2), (ab, be, un, n)) else if (y / (-(f_X_commonDivisor x y))) < 1 then ((-2), (ab, be, un, n)) else if (y / (-(f_X_commonDivisor x y))) ≤ 2147483647 then ((n + 1) - 1, (vp_updL ab n.toNatClampNeg (x / (-(f_X_commonDivisor x y))), vp_updL be n.toNatClampNeg (y / (-(f_X_commonDivisor x y))), upd un n.toNatClampNeg z, (n + 1))) else ((-2), (ab, be, un, n)) else ((-2), (ab, be, un, n))
set_option maxHeartbeats 4000000 in
set_option maxRecDepth 100000 in
theorem k_X_keep (l : Launch) (dC : Nat → ClassId) (dI : Nat → Nat → Nat) (cJ cI cT : ClassId) (h a1 a2 a3 a4 a5 : Nat) (n k : Int32) (ab be : Nat → Int64) (un : Nat → Int32) (x y : Int64) (z : Int32) (sz : Nat) (hn0 : 0 ≤ n.toInt) : Met l y_X_keep w_X_keep ({ frames := 2, cells := 0, slots := 0, locals := 51 }) (va_Pc [.ref h, .long x, .long y, .int z] (wx dC dI cJ cI cT sz [(h, .inr (1, [.ref a1, .ref a2, .ref a3, .int n, .ref a4, .int k, .ref a5])), (a1, .inl (cJ, 500, .inr (.inl ab))), (a2, .inl (cJ, 500, .inr (.inl be))), (a3, .inl (cI, 500, .inl un))])) (va_Qi (fun (r9 : Int32) (u9 : (Nat → Int64) × (Nat → Int64) × (Nat → Int32) × Int32) => (r9, u9) = f_X_keep ab be un n x y z) (fun u => wb dC dI cJ cI cT (va_A [(h, .inr (1, [.ref a1, .ref a2, .ref a3, .int n, .ref a4, .int k, .ref a5])), (a1, .inl (cJ, 500, .inr (.inl ab))), (a2, .inl (cJ, 500, .inr (.inl be))), (a3, .inl (cI, 500, .inl un))] sz) [(h, .inr (1, [.ref a1, .ref a2, .ref a3, .int u.2.2.2, .ref a4, .int k, .ref a5])), (a1, .inl (cJ, 500, .inr (.inl u.1))), (a2, .inl (cJ, 500, .inr (.inl u.2.1))), (a3, .inl (cI, 500, .inl u.2.2.1))]) (va_A [(h, .inr (1, [.ref a1, .ref a2, .ref a3, .int n, .ref a4, .int k, .ref a5])), (a1, .inl (cJ, 500, .inr (.inl ab))), (a2, .inl (cJ, 500, .inr (.inl be))), (a3, .inl (cI, 500, .inl un))] sz)) 0 0 (va_A [(h, .inr (1, [.ref a1, .ref a2, .ref a3, .int n, .ref a4, .int k, .ref a5])), (a1, .inl (cJ, 500, .inr (.inl ab))), (a2, .inl (cJ, 500, .inr (.inl be))), (a3, .inl (cI, 500, .inl un))] sz) := by
  refine Met.ofW (cc := c_X_keep) (maxL := 14) (ret := (Option.some Jvm.ClassFile.FieldType.int)) (by decide) rfl ?_
  intro p e s m args below meth c s₁ B hml hv
  obtain ⟨rfl, hsz, hP, hK, hD0⟩ := hv
  have hx := B.exec
  have hb := B.bytes
  have hr := B.returns
  have hts := atoms_spec (ws := w_X_keep) B.pre
  have hg : ∀ w ∈ WG, w.before _ s = true := fun w h => hts w (List.mem_cons_of_mem _ h)
  have hown : s.vm.findClass R_X = some m.cls := findClass_of_methodNamed B.named
  have hlocks := B.notSynchronized
  have hl := lv_entry ([.ref h, .long x, .long y, .int z]) (n := 14) (Nat.le_of_ble_eq_true rfl)
  rw [lg_entry_eq]
  generalize (lg_sl ([.ref h, .long x, .long y, .int z]) ++ List.replicate (14 - (lg_sl ([.ref h, .long x, .long y, .int z])).length) Slot.unset).toArray = ls at hl ⊢
  have hl : lv_has ls 14 [(0, .ref h), (1, .long x), (3, .long y), (5, .int z)] := hl
  subst hsz
  have hD := hD0.self (sz := s.heap.size)
  generalize hAe : va_A [(h, .inr (1, [.ref a1, .ref a2, .ref a3, .int n, .ref a4, .int k, .ref a5])), (a1, .inl (cJ, 500, .inr (.inl ab))), (a2, .inl (cJ, 500, .inr (.inl be))), (a3, .inl (cI, 500, .inl un))] s.heap.size = A at hD ⊢
  have hA : ∀ q : Nat, s.heap.size ≤ q → A q := fun q h => by rw [← hAe]; exact Or.inr h
  have hS : va_S A s.heap s.heap [] := va_S.rf
  have hP : va_P (dC, dI) classes [(h, .inr (1, [.ref a1, .ref a2, .ref a3, .int n, .ref a4, .int k, .ref a5])), (a1, .inl (cJ, 500, .inr (.inl ab))), (a2, .inl (cJ, 500, .inr (.inl be))), (a3, .inl (cI, 500, .inl un))] s.heap := hP
  have hD : va_D A [(h, .inr (1, [.ref a1, .ref a2, .ref a3, .int n, .ref a4, .int k, .ref a5])), (a1, .inl (cJ, 500, .inr (.inl ab))), (a2, .inl (cJ, 500, .inr (.inl be))), (a3, .inl (cI, 500, .inl un))] := hD
  skip
  refine lv_lload_n hx hb d_X_keep_0 rfl (lv_at hl 1 rfl) ?_
  refine lv_lload_n hx hb d_X_keep_1 rfl (lv_at hl 2 rfl) ?_
  refine W.callV (W.runS (As := [.long x, .long y]) (rest := []) ⟨hx, hb, hml, hown, hg⟩ (k_X_commonDivisor l x y) (q_S 2 hg wg_72 wg_70 wg_71 wg_13 rfl rfl (by decide +kernel) ⟨Nat.le_of_ble_eq_true rfl, Nat.le_of_ble_eq_true rfl⟩) ⟨nw_blind, fun _ _ _ => ⟨rfl, trivial⟩⟩ rfl rfl hl.1 rfl (lv_room (Nat.le_of_ble_eq_true rfl)) d_X_keep_2 ⟨Nat.le_of_ble_eq_true rfl, Nat.le_of_ble_eq_true rfl⟩) ?_
  refine W.eq (g2 := F0 m 5 ls (.long (f_X_commonDivisor x y) :: [])) rfl ?_
  refine lv_topl (fun v_1 ev_1 => ?_)
  refine lv_lstore (lv' := [(6, .long v_1), (0, .ref h), (1, .long x), (3, .long y), (5, .int z)]) hx hb d_X_keep_5 hl (by decide) rfl (fun ls hl => ?_)
  refine lv_lload hx hb d_X_keep_7 (lv_at hl 0 rfl) ?_
  refine lv_lconst (v := 1) hx hb d_X_keep_9 (by decide) ?_
  refine W.lcmp hx hb d_X_keep_10 ?_
  refine lv_if_lt (tgt := 24) hx hb d_X_keep_11 (by decide) (fun c_2 => ?_) (fun c_2 => ?_)
  · skip
    rw [lg_cmp_lt] at c_2
    refine lv_bipush (v := (-2)) hx hb d_X_keep_24 (by decide) ?_
    subst ev_1
    have hP9 := hP.sub (ws' := [(h, .inr (1, [.ref a1, .ref a2, .ref a3, .int n, .ref a4, .int k, .ref a5])), (a1, .inl (cJ, 500, .inr (.inl ab))), (a2, .inl (cJ, 500, .inr (.inl be))), (a3, .inl (cI, 500, .inl un))]) [0, 1, 2, 3] rfl
    have hD9 := hD.sub (ws' := [(h, .inr (1, [.ref a1, .ref a2, .ref a3, .int n, .ref a4, .int k, .ref a5])), (a1, .inl (cJ, 500, .inr (.inl ab))), (a2, .inl (cJ, 500, .inr (.inl be))), (a3, .inl (cI, 500, .inl un))]) [0, 1, 2, 3] (by decide) rfl
    have hz : ((-2), (ab, be, un, n)) = f_X_keep ab be un n x y z := by unfold f_X_keep; rw [if_pos c_2]
    exact W.iret (v := (-2)) hx hb hr (fun t ht hW => ⟨⟨(-2), (ab, be, un, n), rfl, hz, wb_of ht hW hP9 hK hD9⟩, hS.F ht⟩) hS.2.2 d_X_keep_26
  · skip
    rw [lg_cmp_lt] at c_2
    refine lv_aload_n hx hb d_X_keep_14 rfl (lv_at hl 1 rfl) ?_
    refine va_get (D := (dC, dI)) (ci := 1) (v := .int n) (C := R_X) (T := F_X) (N := 7) hx hb hg in_X hown hK hP 0 rfl rfl 3 (by decide) (hg _ wg_49) (fun _ h9 => h9) rfl d_X_keep_15 ?_
    refine lv_sipush (v := 500) hx hb d_X_keep_18 (by decide) ?_
    refine lv_icmp_lt (tgt := 27) hx hb d_X_keep_21 (by decide) (fun c_3 => ?_) (fun c_3 => ?_)
    · skip
      refine lv_lload_n hx hb d_X_keep_27 rfl (lv_at hl 3 rfl) ?_
      refine lv_lconst (v := 0) hx hb d_X_keep_28 (by decide) ?_
      refine W.lcmp hx hb d_X_keep_29 ?_
      refine lv_if_ge (tgt := 39) hx hb d_X_keep_30 (by decide) (fun c_4 => ?_) (fun c_4 => ?_)
      · skip
        rw [lg_cmp_ge] at c_4
        refine lv_lload hx hb d_X_keep_39 (lv_at hl 0 rfl) ?_
        refine lv_lstore (lv' := [(8, .long v_1), (6, .long v_1), (0, .ref h), (1, .long x), (3, .long y), (5, .int z)]) hx hb d_X_keep_41 hl (by decide) rfl (fun ls hl => ?_)
        refine lv_lload_n hx hb d_X_keep_43 rfl (lv_at hl 3 rfl) ?_
        refine lv_lload hx hb d_X_keep_44 (lv_at hl 0 rfl) ?_
        refine lv_ldiv hx hb d_X_keep_46 (nz_pos c_2) ?_
        refine lv_topl (fun v_5 ev_5 => ?_)
        refine lv_lstore (lv' := [(10, .long v_5), (8, .long v_1), (6, .long v_1), (0, .ref h), (1, .long x), (3, .long y), (5, .int z)]) hx hb d_X_keep_47 hl (by decide) rfl (fun ls hl => ?_)
        refine lv_lload_n hx hb d_X_keep_49 rfl (lv_at hl 5 rfl) ?_
        refine lv_lload hx hb d_X_keep_50 (lv_at hl 1 rfl) ?_
        refine lv_ldiv hx hb d_X_keep_52 (nz_pos c_2) ?_
        refine lv_topl (fun v_6 ev_6 => ?_)
        refine lv_lstore (lv' := [(12, .long v_6), (10, .long v_5), (8, .long v_1), (6, .long v_1), (0, .ref h), (1, .long x), (3, .long y), (5, .int z)]) hx hb d_X_keep_53 hl (by decide) rfl (fun ls hl => ?_)
        refine lv_lload hx hb d_X_keep_55 (lv_at hl 1 rfl) ?_
        refine lv_ldc2 (v := (-2147483647)) hx hb hown (hg _ wg_76) d_X_keep_57 ?_
        refine W.lcmp hx hb d_X_keep_60 ?_
        refine lv_if_lt (tgt := 89) hx hb d_X_keep_61 (by decide) (fun c_7 => ?_) (fun c_7 => ?_)
        · skip
          rw [lg_cmp_lt] at c_7
          refine lv_bipush (v := (-2)) hx hb d_X_keep_89 (by decide) ?_
          subst ev_6
          subst ev_5
          subst ev_1
          have hP9 := hP.sub (ws' := [(h, .inr (1, [.ref a1, .ref a2, .ref a3, .int n, .ref a4, .int k, .ref a5])), (a1, .inl (cJ, 500, .inr (.inl ab))), (a2, .inl (cJ, 500, .inr (.inl be))), (a3, .inl (cI, 500, .inl un))]) [0, 1, 2, 3] rfl
          have hD9 := hD.sub (ws' := [(h, .inr (1, [.ref a1, .ref a2, .ref a3, .int n, .ref a4, .int k, .ref a5])), (a1, .inl (cJ, 500, .inr (.inl ab))), (a2, .inl (cJ, 500, .inr (.inl be))), (a3, .inl (cI, 500, .inl un))]) [0, 1, 2, 3] (by decide) rfl
          have hz : ((-2), (ab, be, un, n)) = f_X_keep ab be un n x y z := by unfold f_X_keep; rw [if_neg c_2, if_pos c_3, if_pos c_4, if_pos c_7]
          exact W.iret (v := (-2)) hx hb hr (fun t ht hW => ⟨⟨(-2), (ab, be, un, n), rfl, hz, wb_of ht hW hP9 hK hD9⟩, hS.F ht⟩) hS.2.2 d_X_keep_91
        · skip
          rw [lg_cmp_lt] at c_7
          refine lv_lload hx hb d_X_keep_64 (lv_at hl 1 rfl) ?_
          refine lv_ldc2 (v := 2147483647) hx hb hown (hg _ wg_77) d_X_keep_66 ?_
          refine W.lcmp hx hb d_X_keep_69 ?_
          refine lv_if_gt (tgt := 89) hx hb d_X_keep_70 (by decide) (fun c_8 => ?_) (fun c_8 => ?_)
          · skip
            rw [lg_cmp_gt] at c_8
            refine lv_bipush (v := (-2)) hx hb d_X_keep_89 (by decide) ?_
            subst ev_6
            subst ev_5
            subst ev_1
            have hP9 := hP.sub (ws' := [(h, .inr (1, [.ref a1, .ref a2, .ref a3, .int n, .ref a4, .int k, .ref a5])), (a1, .inl (cJ, 500, .inr (.inl ab))), (a2, .inl (cJ, 500, .inr (.inl be))), (a3, .inl (cI, 500, .inl un))]) [0, 1, 2, 3] rfl
            have hD9 := hD.sub (ws' := [(h, .inr (1, [.ref a1, .ref a2, .ref a3, .int n, .ref a4, .int k, .ref a5])), (a1, .inl (cJ, 500, .inr (.inl ab))), (a2, .inl (cJ, 500, .inr (.inl be))), (a3, .inl (cI, 500, .inl un))]) [0, 1, 2, 3] (by decide) rfl
            have hz : ((-2), (ab, be, un, n)) = f_X_keep ab be un n x y z := by unfold f_X_keep; rw [if_neg c_2, if_pos c_3, if_pos c_4, if_neg c_7, if_pos c_8]
            exact W.iret (v := (-2)) hx hb hr (fun t ht hW => ⟨⟨(-2), (ab, be, un, n), rfl, hz, wb_of ht hW hP9 hK hD9⟩, hS.F ht⟩) hS.2.2 d_X_keep_91
          · skip
            rw [lg_cmp_gt] at c_8
            refine lv_lload hx hb d_X_keep_73 (lv_at hl 0 rfl) ?_
            refine lv_lconst (v := 1) hx hb d_X_keep_75 (by decide) ?_
            refine W.lcmp hx hb d_X_keep_76 ?_
            refine lv_if_lt (tgt := 89) hx hb d_X_keep_77 (by decide) (fun c_9 => ?_) (fun c_9 => ?_)
            · skip
              rw [lg_cmp_lt] at c_9
              refine lv_bipush (v := (-2)) hx hb d_X_keep_89 (by decide) ?_
              subst ev_6
              subst ev_5
              subst ev_1
              have hP9 := hP.sub (ws' := [(h, .inr (1, [.ref a1, .ref a2, .ref a3, .int n, .ref a4, .int k, .ref a5])), (a1, .inl (cJ, 500, .inr (.inl ab))), (a2, .inl (cJ, 500, .inr (.inl be))), (a3, .inl (cI, 500, .inl un))]) [0, 1, 2, 3] rfl
              have hD9 := hD.sub (ws' := [(h, .inr (1, [.ref a1, .ref a2, .ref a3, .int n, .ref a4, .int k, .ref a5])), (a1, .inl (cJ, 500, .inr (.inl ab))), (a2, .inl (cJ, 500, .inr (.inl be))), (a3, .inl (cI, 500, .inl un))]) [0, 1, 2, 3] (by decide) rfl
              have hz : ((-2), (ab, be, un, n)) = f_X_keep ab be un n x y z := by unfold f_X_keep; rw [if_neg c_2, if_pos c_3, if_pos c_4, if_neg c_7, if_neg c_8, if_pos c_9]
              exact W.iret (v := (-2)) hx hb hr (fun t ht hW => ⟨⟨(-2), (ab, be, un, n), rfl, hz, wb_of ht hW hP9 hK hD9⟩, hS.F ht⟩) hS.2.2 d_X_keep_91
            · skip
              rw [lg_cmp_lt] at c_9
              refine lv_lload hx hb d_X_keep_80 (lv_at hl 0 rfl) ?_
              refine lv_ldc2 (v := 2147483647) hx hb hown (hg _ wg_77) d_X_keep_82 ?_
              refine W.lcmp hx hb d_X_keep_85 ?_
              refine lv_if_le (tgt := 92) hx hb d_X_keep_86 (by decide) (fun c_10 => ?_) (fun c_10 => ?_)
              · skip
                rw [lg_cmp_le] at c_10
                refine lv_aload_n hx hb d_X_keep_92 rfl (lv_at hl 4 rfl) ?_
                refine va_get (D := (dC, dI)) (ci := 1) (v := .ref a1) (C := R_X) (T := F_X) (N := 7) hx hb hg in_X hown hK hP 0 rfl rfl 0 (by decide) (hg _ wg_46) (fun _ h9 => h9) rfl d_X_keep_93 ?_
                refine lv_aload_n hx hb d_X_keep_96 rfl (lv_at hl 4 rfl) ?_
                refine va_get (D := (dC, dI)) (ci := 1) (v := .int n) (C := R_X) (T := F_X) (N := 7) hx hb hg in_X hown hK hP 0 rfl rfl 3 (by decide) (hg _ wg_49) (fun _ h9 => h9) rfl d_X_keep_97 ?_
                refine lv_lload hx hb d_X_keep_100 (lv_at hl 1 rfl) ?_
                refine va_last hx hb hK hP hD hS 1 0 rfl rfl (in_cnt hn0 c_3 (by decide)) d_X_keep_102 (fun H locs hP hD hS => ?_)
                have hP : va_P (dC, dI) classes [(h, .inr (1, [.ref a1, .ref a2, .ref a3, .int n, .ref a4, .int k, .ref a5])), (a1, .inl (cJ, 500, .inr (.inl (vp_updL ab n.toNatClampNeg v_5)))), (a2, .inl (cJ, 500, .inr (.inl be))), (a3, .inl (cI, 500, .inl un))] H := hP
                have hD : va_D A [(h, .inr (1, [.ref a1, .ref a2, .ref a3, .int n, .ref a4, .int k, .ref a5])), (a1, .inl (cJ, 500, .inr (.inl (vp_updL ab n.toNatClampNeg v_5)))), (a2, .inl (cJ, 500, .inr (.inl be))), (a3, .inl (cI, 500, .inl un))] := hD
                refine lv_aload_n hx hb d_X_keep_103 rfl (lv_at hl 4 rfl) ?_
                refine va_get (D := (dC, dI)) (ci := 1) (v := .ref a2) (C := R_X) (T := F_X) (N := 7) hx hb hg in_X hown hK hP 0 rfl rfl 1 (by decide) (hg _ wg_47) (fun _ h9 => h9) rfl d_X_keep_104 ?_
                refine lv_aload_n hx hb d_X_keep_107 rfl (lv_at hl 4 rfl) ?_
                refine va_get (D := (dC, dI)) (ci := 1) (v := .int n) (C := R_X) (T := F_X) (N := 7) hx hb hg in_X hown hK hP 0 rfl rfl 3 (by decide) (hg _ wg_49) (fun _ h9 => h9) rfl d_X_keep_108 ?_
                refine lv_lload hx hb d_X_keep_111 (lv_at hl 0 rfl) ?_
                refine va_last hx hb hK hP hD hS 2 0 rfl rfl (in_cnt hn0 c_3 (by decide)) d_X_keep_113 (fun H locs hP hD hS => ?_)
                have hP : va_P (dC, dI) classes [(h, .inr (1, [.ref a1, .ref a2, .ref a3, .int n, .ref a4, .int k, .ref a5])), (a1, .inl (cJ, 500, .inr (.inl (vp_updL ab n.toNatClampNeg v_5)))), (a2, .inl (cJ, 500, .inr (.inl (vp_updL be n.toNatClampNeg v_6)))), (a3, .inl (cI, 500, .inl un))] H := hP
                have hD : va_D A [(h, .inr (1, [.ref a1, .ref a2, .ref a3, .int n, .ref a4, .int k, .ref a5])), (a1, .inl (cJ, 500, .inr (.inl (vp_updL ab n.toNatClampNeg v_5)))), (a2, .inl (cJ, 500, .inr (.inl (vp_updL be n.toNatClampNeg v_6)))), (a3, .inl (cI, 500, .inl un))] := hD
                refine lv_aload_n hx hb d_X_keep_114 rfl (lv_at hl 4 rfl) ?_
                refine va_get (D := (dC, dI)) (ci := 1) (v := .ref a3) (C := R_X) (T := F_X) (N := 7) hx hb hg in_X hown hK hP 0 rfl rfl 2 (by decide) (hg _ wg_48) (fun _ h9 => h9) rfl d_X_keep_115 ?_
                refine lv_aload_n hx hb d_X_keep_118 rfl (lv_at hl 4 rfl) ?_
                refine va_get (D := (dC, dI)) (ci := 1) (v := .int n) (C := R_X) (T := F_X) (N := 7) hx hb hg in_X hown hK hP 0 rfl rfl 3 (by decide) (hg _ wg_49) (fun _ h9 => h9) rfl d_X_keep_119 ?_
                refine lv_iload hx hb d_X_keep_122 (lv_at hl 7 rfl) ?_
                refine va_iast hx hb hK hP hD hS 3 1 rfl rfl (in_cnt hn0 c_3 (by decide)) d_X_keep_124 (fun H locs hP hD hS => ?_)
                have hP : va_P (dC, dI) classes [(h, .inr (1, [.ref a1, .ref a2, .ref a3, .int n, .ref a4, .int k, .ref a5])), (a1, .inl (cJ, 500, .inr (.inl (vp_updL ab n.toNatClampNeg v_5)))), (a2, .inl (cJ, 500, .inr (.inl (vp_updL be n.toNatClampNeg v_6)))), (a3, .inl (cI, 500, .inl (upd un n.toNatClampNeg z)))] H := hP
                have hD : va_D A [(h, .inr (1, [.ref a1, .ref a2, .ref a3, .int n, .ref a4, .int k, .ref a5])), (a1, .inl (cJ, 500, .inr (.inl (vp_updL ab n.toNatClampNeg v_5)))), (a2, .inl (cJ, 500, .inr (.inl (vp_updL be n.toNatClampNeg v_6)))), (a3, .inl (cI, 500, .inl (upd un n.toNatClampNeg z)))] := hD
                refine lv_aload_n hx hb d_X_keep_125 rfl (lv_at hl 4 rfl) ?_
                refine lv_dup hx hb d_X_keep_126 rfl ?_
                refine va_get (D := (dC, dI)) (ci := 1) (v := .int n) (C := R_X) (T := F_X) (N := 7) hx hb hg in_X hown hK hP 0 rfl rfl 3 (by decide) (hg _ wg_49) (fun _ h9 => h9) rfl d_X_keep_127 ?_
                refine lv_iconst (v := 1) hx hb d_X_keep_130 (by decide) ?_
                refine lv_iadd hx hb d_X_keep_131 ?_
                refine lv_topi (fun v_11 ev_11 => ?_)
                refine va_put (D := (dC, dI)) (ci := 1) (v := .int v_11) (ty := .int) (C := R_X) (T := F_X) (N := 7) hx hb hg in_X tt_X tt_X_ok nn_X hown hK hP hD hS 0 rfl rfl 3 (by decide) (hg _ wg_49) (fun _ h9 => h9) rfl (by decide +kernel) rfl rfl (Nat.le_of_ble_eq_true rfl) d_X_keep_132 (fun H locs hP hD hS => ?_)
                have hP : va_P (dC, dI) classes [(h, .inr (1, [.ref a1, .ref a2, .ref a3, .int v_11, .ref a4, .int k, .ref a5])), (a1, .inl (cJ, 500, .inr (.inl (vp_updL ab n.toNatClampNeg v_5)))), (a2, .inl (cJ, 500, .inr (.inl (vp_updL be n.toNatClampNeg v_6)))), (a3, .inl (cI, 500, .inl (upd un n.toNatClampNeg z)))] H := hP
                have hD : va_D A [(h, .inr (1, [.ref a1, .ref a2, .ref a3, .int v_11, .ref a4, .int k, .ref a5])), (a1, .inl (cJ, 500, .inr (.inl (vp_updL ab n.toNatClampNeg v_5)))), (a2, .inl (cJ, 500, .inr (.inl (vp_updL be n.toNatClampNeg v_6)))), (a3, .inl (cI, 500, .inl (upd un n.toNatClampNeg z)))] := hD
                refine lv_aload_n hx hb d_X_keep_135 rfl (lv_at hl 4 rfl) ?_
                refine va_get (D := (dC, dI)) (ci := 1) (v := .int v_11) (C := R_X) (T := F_X) (N := 7) hx hb hg in_X hown hK hP 0 rfl rfl 3 (by decide) (hg _ wg_49) (fun _ h9 => h9) rfl d_X_keep_136 ?_
                refine lv_iconst (v := 1) hx hb d_X_keep_139 (by decide) ?_
                refine lv_isub hx hb d_X_keep_140 ?_
                subst ev_11
                subst ev_6
                subst ev_5
                subst ev_1
                have hP9 := hP.sub (ws' := [(h, .inr (1, [.ref a1, .ref a2, .ref a3, .int (n + 1), .ref a4, .int k, .ref a5])), (a1, .inl (cJ, 500, .inr (.inl (vp_updL ab n.toNatClampNeg (x / (f_X_commonDivisor x y)))))), (a2, .inl (cJ, 500, .inr (.inl (vp_updL be n.toNatClampNeg (y / (f_X_commonDivisor x y)))))), (a3, .inl (cI, 500, .inl (upd un n.toNatClampNeg z)))]) [0, 1, 2, 3] rfl
                have hD9 := hD.sub (ws' := [(h, .inr (1, [.ref a1, .ref a2, .ref a3, .int (n + 1), .ref a4, .int k, .ref a5])), (a1, .inl (cJ, 500, .inr (.inl (vp_updL ab n.toNatClampNeg (x / (f_X_commonDivisor x y)))))), (a2, .inl (cJ, 500, .inr (.inl (vp_updL be n.toNatClampNeg (y / (f_X_commonDivisor x y)))))), (a3, .inl (cI, 500, .inl (upd un n.toNatClampNeg z)))]) [0, 1, 2, 3] (by decide) rfl
                have hz : ((n + 1) - 1, (vp_updL ab n.toNatClampNeg (x / (f_X_commonDivisor x y)), vp_updL be n.toNatClampNeg (y / (f_X_commonDivisor x y)), upd un n.toNatClampNeg z, (n + 1))) = f_X_keep ab be un n x y z := by unfold f_X_keep; rw [if_neg c_2, if_pos c_3, if_pos c_4, if_neg c_7, if_neg c_8, if_neg c_9, if_pos c_10]
                exact W.iret (v := (n + 1) - 1) hx hb hr (fun t ht hW => ⟨⟨(n + 1) - 1, (vp_updL ab n.toNatClampNeg (x / (f_X_commonDivisor x y)), vp_updL be n.toNatClampNeg (y / (f_X_commonDivisor x y)), upd un n.toNatClampNeg z, (n + 1)), rfl, hz, wb_of ht hW hP9 hK hD9⟩, hS.F ht⟩) hS.2.2 d_X_keep_141
              · skip
                rw [lg_cmp_le] at c_10
                refine lv_bipush (v := (-2)) hx hb d_X_keep_89 (by decide) ?_
                subst ev_6
                subst ev_5
                subst ev_1
                have hP9 := hP.sub (ws' := [(h, .inr (1, [.ref a1, .ref a2, .ref a3, .int n, .ref a4, .int k, .ref a5])), (a1, .inl (cJ, 500, .inr (.inl ab))), (a2, .inl (cJ, 500, .inr (.inl be))), (a3, .inl (cI, 500, .inl un))]) [0, 1, 2, 3] rfl
                have hD9 := hD.sub (ws' := [(h, .inr (1, [.ref a1, .ref a2, .ref a3, .int n, .ref a4, .int k, .ref a5])), (a1, .inl (cJ, 500, .inr (.inl ab))), (a2, .inl (cJ, 500, .inr (.inl be))), (a3, .inl (cI, 500, .inl un))]) [0, 1, 2, 3] (by decide) rfl
                have hz : ((-2), (ab, be, un, n)) = f_X_keep ab be un n x y z := by unfold f_X_keep; rw [if_neg c_2, if_pos c_3, if_pos c_4, if_neg c_7, if_neg c_8, if_neg c_9, if_neg c_10]
                exact W.iret (v := (-2)) hx hb hr (fun t ht hW => ⟨⟨(-2), (ab, be, un, n), rfl, hz, wb_of ht hW hP9 hK hD9⟩, hS.F ht⟩) hS.2.2 d_X_keep_91
      · skip
        rw [lg_cmp_ge] at c_4
        refine lv_lload hx hb d_X_keep_33 (lv_at hl 0 rfl) ?_
        refine lv_lneg hx hb d_X_keep_35 ?_
        refine lv_goto (tgt := 41) hx hb d_X_keep_36 (by decide) ?_
        refine lv_topl (fun v_12 ev_12 => ?_)
        refine lv_lstore (lv' := [(8, .long v_12), (6, .long v_1), (0, .ref h), (1, .long x), (3, .long y), (5, .int z)]) hx hb d_X_keep_41 hl (by decide) rfl (fun ls hl => ?_)
        refine lv_lload_n hx hb d_X_keep_43 rfl (lv_at hl 3 rfl) ?_
        refine lv_lload hx hb d_X_keep_44 (lv_at hl 0 rfl) ?_
        refine lv_ldiv hx hb d_X_keep_46 (by rw [ev_12]; exact nz_neg c_2) ?_
        refine lv_topl (fun v_13 ev_13 => ?_)
        refine lv_lstore (lv' := [(10, .long v_13), (8, .long v_12), (6, .long v_1), (0, .ref h), (1, .long x), (3, .long y), (5, .int z)]) hx hb d_X_keep_47 hl (by decide) rfl (fun ls hl => ?_)
        refine lv_lload_n hx hb d_X_keep_49 rfl (lv_at hl 5 rfl) ?_
        refine lv_lload hx hb d_X_keep_50 (lv_at hl 1 rfl) ?_
        refine lv_ldiv hx hb d_X_keep_52 (by rw [ev_12]; exact nz_neg c_2) ?_
        refine lv_topl (fun v_14 ev_14 => ?_)
        refine lv_lstore (lv' := [(12, .long v_14), (10, .long v_13), (8, .long v_12), (6, .long v_1), (0, .ref h), (1, .long x), (3, .long y), (5, .int z)]) hx hb d_X_keep_53 hl (by decide) rfl (fun ls hl => ?_)
        refine lv_lload hx hb d_X_keep_55 (lv_at hl 1 rfl) ?_
        refine lv_ldc2 (v := (-2147483647)) hx hb hown (hg _ wg_76) d_X_keep_57 ?_
        refine W.lcmp hx hb d_X_keep_60 ?_
        refine lv_if_lt (tgt := 89) hx hb d_X_keep_61 (by decide) (fun c_15 => ?_) (fun c_15 => ?_)
        · skip
          rw [lg_cmp_lt] at c_15
          refine lv_bipush (v := (-2)) hx hb d_X_keep_89 (by decide) ?_
          subst ev_14
          subst ev_13
          subst ev_12
          subst ev_1
          have hP9 := hP.sub (ws' := [(h, .inr (1, [.ref a1, .ref a2, .ref a3, .int n, .ref a4, .int k, .ref a5])), (a1, .inl (cJ, 500, .inr (.inl ab))), (a2, .inl (cJ, 500, .inr (.inl be))), (a3, .inl (cI, 500, .inl un))]) [0, 1, 2, 3] rfl
          have hD9 := hD.sub (ws' := [(h, .inr (1, [.ref a1, .ref a2, .ref a3, .int n, .ref a4, .int k, .ref a5])), (a1, .inl (cJ, 500, .inr (.inl ab))), (a2, .inl (cJ, 500, .inr (.inl be))), (a3, .inl (cI, 500, .inl un))]) [0, 1, 2, 3] (by decide) rfl
          have hz : ((-2), (ab, be, un, n)) = f_X_keep ab be un n x y z := by unfold f_X_keep; rw [if_neg c_2, if_pos c_3, if_neg c_4, if_pos c_15]
          exact W.iret (v := (-2)) hx hb hr (fun t ht hW => ⟨⟨(-2), (ab, be, un, n), rfl, hz, wb_of ht hW hP9 hK hD9⟩, hS.F ht⟩) hS.2.2 d_X_keep_91
        · skip
          rw [lg_cmp_lt] at c_15
          refine lv_lload hx hb d_X_keep_64 (lv_at hl 1 rfl) ?_
          refine lv_ldc2 (v := 2147483647) hx hb hown (hg _ wg_77) d_X_keep_66 ?_
          refine W.lcmp hx hb d_X_keep_69 ?_
          refine lv_if_gt (tgt := 89) hx hb d_X_keep_70 (by decide) (fun c_16 => ?_) (fun c_16 => ?_)
          · skip
            rw [lg_cmp_gt] at c_16
            refine lv_bipush (v := (-2)) hx hb d_X_keep_89 (by decide) ?_
            subst ev_14
            subst ev_13
            subst ev_12
            subst ev_1
            have hP9 := hP.sub (ws' := [(h, .inr (1, [.ref a1, .ref a2, .ref a3, .int n, .ref a4, .int k, .ref a5])), (a1, .inl (cJ, 500, .inr (.inl ab))), (a2, .inl (cJ, 500, .inr (.inl be))), (a3, .inl (cI, 500, .inl un))]) [0, 1, 2, 3] rfl
            have hD9 := hD.sub (ws' := [(h, .inr (1, [.ref a1, .ref a2, .ref a3, .int n, .ref a4, .int k, .ref a5])), (a1, .inl (cJ, 500, .inr (.inl ab))), (a2, .inl (cJ, 500, .inr (.inl be))), (a3, .inl (cI, 500, .inl un))]) [0, 1, 2, 3] (by decide) rfl
            have hz : ((-2), (ab, be, un, n)) = f_X_keep ab be un n x y z := by unfold f_X_keep; rw [if_neg c_2, if_pos c_3, if_neg c_4, if_neg c_15, if_pos c_16]
            exact W.iret (v := (-2)) hx hb hr (fun t ht hW => ⟨⟨(-2), (ab, be, un, n), rfl, hz, wb_of ht hW hP9 hK hD9⟩, hS.F ht⟩) hS.2.2 d_X_keep_91
          · skip
            rw [lg_cmp_gt] at c_16
            refine lv_lload hx hb d_X_keep_73 (lv_at hl 0 rfl) ?_
            refine lv_lconst (v := 1) hx hb d_X_keep_75 (by decide) ?_
            refine W.lcmp hx hb d_X_keep_76 ?_
            refine lv_if_lt (tgt := 89) hx hb d_X_keep_77 (by decide) (fun c_17 => ?_) (fun c_17 => ?_)
            · skip
              rw [lg_cmp_lt] at c_17
              refine lv_bipush (v := (-2)) hx hb d_X_keep_89 (by decide) ?_
              subst ev_14
              subst ev_13
              subst ev_12
              subst ev_1
              have hP9 := hP.sub (ws' := [(h, .inr (1, [.ref a1, .ref a2, .ref a3, .int n, .ref a4, .int k, .ref a5])), (a1, .inl (cJ, 500, .inr (.inl ab))), (a2, .inl (cJ, 500, .inr (.inl be))), (a3, .inl (cI, 500, .inl un))]) [0, 1, 2, 3] rfl
              have hD9 := hD.sub (ws' := [(h, .inr (1, [.ref a1, .ref a2, .ref a3, .int n, .ref a4, .int k, .ref a5])), (a1, .inl (cJ, 500, .inr (.inl ab))), (a2, .inl (cJ, 500, .inr (.inl be))), (a3, .inl (cI, 500, .inl un))]) [0, 1, 2, 3] (by decide) rfl
              have hz : ((-2), (ab, be, un, n)) = f_X_keep ab be un n x y z := by unfold f_X_keep; rw [if_neg c_2, if_pos c_3, if_neg c_4, if_neg c_15, if_neg c_16, if_pos c_17]
              exact W.iret (v := (-2)) hx hb hr (fun t ht hW => ⟨⟨(-2), (ab, be, un, n), rfl, hz, wb_of ht hW hP9 hK hD9⟩, hS.F ht⟩) hS.2.2 d_X_keep_91
            · skip
              rw [lg_cmp_lt] at c_17
              refine lv_lload hx hb d_X_keep_80 (lv_at hl 0 rfl) ?_
              refine lv_ldc2 (v := 2147483647) hx hb hown (hg _ wg_77) d_X_keep_82 ?_
              refine W.lcmp hx hb d_X_keep_85 ?_
              refine lv_if_le (tgt := 92) hx hb d_X_keep_86 (by decide) (fun c_18 => ?_) (fun c_18 => ?_)
              · skip
                rw [lg_cmp_le] at c_18
                refine lv_aload_n hx hb d_X_keep_92 rfl (lv_at hl 4 rfl) ?_
                refine va_get (D := (dC, dI)) (ci := 1) (v := .ref a1) (C := R_X) (T := F_X) (N := 7) hx hb hg in_X hown hK hP 0 rfl rfl 0 (by decide) (hg _ wg_46) (fun _ h9 => h9) rfl d_X_keep_93 ?_
                refine lv_aload_n hx hb d_X_keep_96 rfl (lv_at hl 4 rfl) ?_
                refine va_get (D := (dC, dI)) (ci := 1) (v := .int n) (C := R_X) (T := F_X) (N := 7) hx hb hg in_X hown hK hP 0 rfl rfl 3 (by decide) (hg _ wg_49) (fun _ h9 => h9) rfl d_X_keep_97 ?_
                refine lv_lload hx hb d_X_keep_100 (lv_at hl 1 rfl) ?_
                refine va_last hx hb hK hP hD hS 1 0 rfl rfl (in_cnt hn0 c_3 (by decide)) d_X_keep_102 (fun H locs hP hD hS => ?_)
                have hP : va_P (dC, dI) classes [(h, .inr (1, [.ref a1, .ref a2, .ref a3, .int n, .ref a4, .int k, .ref a5])), (a1, .inl (cJ, 500, .inr (.inl (vp_updL ab n.toNatClampNeg v_13)))), (a2, .inl (cJ, 500, .inr (.inl be))), (a3, .inl (cI, 500, .inl un))] H := hP
                have hD : va_D A [(h, .inr (1, [.ref a1, .ref a2, .ref a3, .int n, .ref a4, .int k, .ref a5])), (a1, .inl (cJ, 500, .inr (.inl (vp_updL ab n.toNatClampNeg v_13)))), (a2, .inl (cJ, 500, .inr (.inl be))), (a3, .inl (cI, 500, .inl un))] := hD
                refine lv_aload_n hx hb d_X_keep_103 rfl (lv_at hl 4 rfl) ?_
                refine va_get (D := (dC, dI)) (ci := 1) (v := .ref a2) (C := R_X) (T := F_X) (N := 7) hx hb hg in_X hown hK hP 0 rfl rfl 1 (by decide) (hg _ wg_47) (fun _ h9 => h9) rfl d_X_keep_104 ?_
                refine lv_aload_n hx hb d_X_keep_107 rfl (lv_at hl 4 rfl) ?_
                refine va_get (D := (dC, dI)) (ci := 1) (v := .int n) (C := R_X) (T := F_X) (N := 7) hx hb hg in_X hown hK hP 0 rfl rfl 3 (by decide) (hg _ wg_49) (fun _ h9 => h9) rfl d_X_keep_108 ?_
                refine lv_lload hx hb d_X_keep_111 (lv_at hl 0 rfl) ?_
                refine va_last hx hb hK hP hD hS 2 0 rfl rfl (in_cnt hn0 c_3 (by decide)) d_X_keep_113 (fun H locs hP hD hS => ?_)
                have hP : va_P (dC, dI) classes [(h, .inr (1, [.ref a1, .ref a2, .ref a3, .int n, .ref a4, .int k, .ref a5])), (a1, .inl (cJ, 500, .inr (.inl (vp_updL ab n.toNatClampNeg v_13)))), (a2, .inl (cJ, 500, .inr (.inl (vp_updL be n.toNatClampNeg v_14)))), (a3, .inl (cI, 500, .inl un))] H := hP
                have hD : va_D A [(h, .inr (1, [.ref a1, .ref a2, .ref a3, .int n, .ref a4, .int k, .ref a5])), (a1, .inl (cJ, 500, .inr (.inl (vp_updL ab n.toNatClampNeg v_13)))), (a2, .inl (cJ, 500, .inr (.inl (vp_updL be n.toNatClampNeg v_14)))), (a3, .inl (cI, 500, .inl un))] := hD
                refine lv_aload_n hx hb d_X_keep_114 rfl (lv_at hl 4 rfl) ?_
                refine va_get (D := (dC, dI)) (ci := 1) (v := .ref a3) (C := R_X) (T := F_X) (N := 7) hx hb hg in_X hown hK hP 0 rfl rfl 2 (by decide) (hg _ wg_48) (fun _ h9 => h9) rfl d_X_keep_115 ?_
                refine lv_aload_n hx hb d_X_keep_118 rfl (lv_at hl 4 rfl) ?_
                refine va_get (D := (dC, dI)) (ci := 1) (v := .int n) (C := R_X) (T := F_X) (N := 7) hx hb hg in_X hown hK hP 0 rfl rfl 3 (by decide) (hg _ wg_49) (fun _ h9 => h9) rfl d_X_keep_119 ?_
                refine lv_iload hx hb d_X_keep_122 (lv_at hl 7 rfl) ?_
                refine va_iast hx hb hK hP hD hS 3 1 rfl rfl (in_cnt hn0 c_3 (by decide)) d_X_keep_124 (fun H locs hP hD hS => ?_)
                have hP : va_P (dC, dI) classes [(h, .inr (1, [.ref a1, .ref a2, .ref a3, .int n, .ref a4, .int k, .ref a5])), (a1, .inl (cJ, 500, .inr (.inl (vp_updL ab n.toNatClampNeg v_13)))), (a2, .inl (cJ, 500, .inr (.inl (vp_updL be n.toNatClampNeg v_14)))), (a3, .inl (cI, 500, .inl (upd un n.toNatClampNeg z)))] H := hP
                have hD : va_D A [(h, .inr (1, [.ref a1, .ref a2, .ref a3, .int n, .ref a4, .int k, .ref a5])), (a1, .inl (cJ, 500, .inr (.inl (vp_updL ab n.toNatClampNeg v_13)))), (a2, .inl (cJ, 500, .inr (.inl (vp_updL be n.toNatClampNeg v_14)))), (a3, .inl (cI, 500, .inl (upd un n.toNatClampNeg z)))] := hD
                refine lv_aload_n hx hb d_X_keep_125 rfl (lv_at hl 4 rfl) ?_
                refine lv_dup hx hb d_X_keep_126 rfl ?_
                refine va_get (D := (dC, dI)) (ci := 1) (v := .int n) (C := R_X) (T := F_X) (N := 7) hx hb hg in_X hown hK hP 0 rfl rfl 3 (by decide) (hg _ wg_49) (fun _ h9 => h9) rfl d_X_keep_127 ?_
                refine lv_iconst (v := 1) hx hb d_X_keep_130 (by decide) ?_
                refine lv_iadd hx hb d_X_keep_131 ?_
                refine lv_topi (fun v_19 ev_19 => ?_)
                refine va_put (D := (dC, dI)) (ci := 1) (v := .int v_19) (ty := .int) (C := R_X) (T := F_X) (N := 7) hx hb hg in_X tt_X tt_X_ok nn_X hown hK hP hD hS 0 rfl rfl 3 (by decide) (hg _ wg_49) (fun _ h9 => h9) rfl (by decide +kernel) rfl rfl (Nat.le_of_ble_eq_true rfl) d_X_keep_132 (fun H locs hP hD hS => ?_)
                have hP : va_P (dC, dI) classes [(h, .inr (1, [.ref a1, .ref a2, .ref a3, .int v_19, .ref a4, .int k, .ref a5])), (a1, .inl (cJ, 500, .inr (.inl (vp_updL ab n.toNatClampNeg v_13)))), (a2, .inl (cJ, 500, .inr (.inl (vp_updL be n.toNatClampNeg v_14)))), (a3, .inl (cI, 500, .inl (upd un n.toNatClampNeg z)))] H := hP
                have hD : va_D A [(h, .inr (1, [.ref a1, .ref a2, .ref a3, .int v_19, .ref a4, .int k, .ref a5])), (a1, .inl (cJ, 500, .inr (.inl (vp_updL ab n.toNatClampNeg v_13)))), (a2, .inl (cJ, 500, .inr (.inl (vp_updL be n.toNatClampNeg v_14)))), (a3, .inl (cI, 500, .inl (upd un n.toNatClampNeg z)))] := hD
                refine lv_aload_n hx hb d_X_keep_135 rfl (lv_at hl 4 rfl) ?_
                refine va_get (D := (dC, dI)) (ci := 1) (v := .int v_19) (C := R_X) (T := F_X) (N := 7) hx hb hg in_X hown hK hP 0 rfl rfl 3 (by decide) (hg _ wg_49) (fun _ h9 => h9) rfl d_X_keep_136 ?_
                refine lv_iconst (v := 1) hx hb d_X_keep_139 (by decide) ?_
                refine lv_isub hx hb d_X_keep_140 ?_
                subst ev_19
                subst ev_14
                subst ev_13
                subst ev_12
                subst ev_1
                have hP9 := hP.sub (ws' := [(h, .inr (1, [.ref a1, .ref a2, .ref a3, .int (n + 1), .ref a4, .int k, .ref a5])), (a1, .inl (cJ, 500, .inr (.inl (vp_updL ab n.toNatClampNeg (x / (-(f_X_commonDivisor x y))))))), (a2, .inl (cJ, 500, .inr (.inl (vp_updL be n.toNatClampNeg (y / (-(f_X_commonDivisor x y))))))), (a3, .inl (cI, 500, .inl (upd un n.toNatClampNeg z)))]) [0, 1, 2, 3] rfl
                have hD9 := hD.sub (ws' := [(h, .inr (1, [.ref a1, .ref a2, .ref a3, .int (n + 1), .ref a4, .int k, .ref a5])), (a1, .inl (cJ, 500, .inr (.inl (vp_updL ab n.toNatClampNeg (x / (-(f_X_commonDivisor x y))))))), (a2, .inl (cJ, 500, .inr (.inl (vp_updL be n.toNatClampNeg (y / (-(f_X_commonDivisor x y))))))), (a3, .inl (cI, 500, .inl (upd un n.toNatClampNeg z)))]) [0, 1, 2, 3] (by decide) rfl
                have hz : ((n + 1) - 1, (vp_updL ab n.toNatClampNeg (x / (-(f_X_commonDivisor x y))), vp_updL be n.toNatClampNeg (y / (-(f_X_commonDivisor x y))), upd un n.toNatClampNeg z, (n + 1))) = f_X_keep ab be un n x y z := by unfold f_X_keep; rw [if_neg c_2, if_pos c_3, if_neg c_4, if_neg c_15, if_neg c_16, if_neg c_17, if_pos c_18]
                exact W.iret (v := (n + 1) - 1) hx hb hr (fun t ht hW => ⟨⟨(n + 1) - 1, (vp_updL ab n.toNatClampNeg (x / (-(f_X_commonDivisor x y))), vp_updL be n.toNatClampNeg (y / (-(f_X_commonDivisor x y))), upd un n.toNatClampNeg z, (n + 1)), rfl, hz, wb_of ht hW hP9 hK hD9⟩, hS.F ht⟩) hS.2.2 d_X_keep_141
              · skip
                rw [lg_cmp_le] at c_18
                refine lv_bipush (v := (-2)) hx hb d_X_keep_89 (by decide) ?_
                subst ev_14
                subst ev_13
                subst ev_12
                subst ev_1
                have hP9 := hP.sub (ws' := [(h, .inr (1, [.ref a1, .ref a2, .ref a3, .int n, .ref a4, .int k, .ref a5])), (a1, .inl (cJ, 500, .inr (.inl ab))), (a2, .inl (cJ, 500, .inr (.inl be))), (a3, .inl (cI, 500, .inl un))]) [0, 1, 2, 3] rfl
                have hD9 := hD.sub (ws' := [(h, .inr (1, [.ref a1, .ref a2, .ref a3, .int n, .ref a4, .int k, .ref a5])), (a1, .inl (cJ, 500, .inr (.inl ab))), (a2, .inl (cJ, 500, .inr (.inl be))), (a3, .inl (cI, 500, .inl un))]) [0, 1, 2, 3] (by decide) rfl
                have hz : ((-2), (ab, be, un, n)) = f_X_keep ab be un n x y z := by unfold f_X_keep; rw [if_neg c_2, if_pos c_3, if_neg c_4, if_neg c_15, if_neg c_16, if_neg c_17, if_neg c_18]
                exact W.iret (v := (-2)) hx hb hr (fun t ht hW => ⟨⟨(-2), (ab, be, un, n), rfl, hz, wb_of ht hW hP9 hK hD9⟩, hS.F ht⟩) hS.2.2 d_X_keep_91
    · skip
      refine lv_bipush (v := (-2)) hx hb d_X_keep_24 (by decide) ?_
      subst ev_1
      have hP9 := hP.sub (ws' := [(h, .inr (1, [.ref a1, .ref a2, .ref a3, .int n, .ref a4, .int k, .ref a5])), (a1, .inl (cJ, 500, .inr (.inl ab))), (a2, .inl (cJ, 500, .inr (.inl be))), (a3, .inl (cI, 500, .inl un))]) [0, 1, 2, 3] rfl
      have hD9 := hD.sub (ws' := [(h, .inr (1, [.ref a1, .ref a2, .ref a3, .int n, .ref a4, .int k, .ref a5])), (a1, .inl (cJ, 500, .inr (.inl ab))), (a2, .inl (cJ, 500, .inr (.inl be))), (a3, .inl (cI, 500, .inl un))]) [0, 1, 2, 3] (by decide) rfl
      have hz : ((-2), (ab, be, un, n)) = f_X_keep ab be un n x y z := by unfold f_X_keep; rw [if_neg c_2, if_neg c_3]
      exact W.iret (v := (-2)) hx hb hr (fun t ht hW => ⟨⟨(-2), (ab, be, un, n), rfl, hz, wb_of ht hW hP9 hK hD9⟩, hS.F ht⟩) hS.2.2 d_X_keep_26
